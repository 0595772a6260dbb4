/-! THE LAW -/
theorem ib_sub {L n : Nat} (hL : L ≤ 2048) (hn : n ≤ 4096) (h : ¬ (nI L - nI 4 < nI n)) : n + 4 ≤ L := by
  rcases (show L = 0 ∨ L = 1 ∨ L = 2 ∨ L = 3 ∨ 4 ≤ L by omega) with rfl | rfl | rfl | rfl | h4
  · exact absurd (Int32.lt_of_lt_of_le (show nI 0 - nI 4 < 0 by decide) (nI_pos' (show n < 2 ^ 31 by omega))) h
  · exact absurd (Int32.lt_of_lt_of_le (show nI 1 - nI 4 < 0 by decide) (nI_pos' (show n < 2 ^ 31 by omega))) h
  · exact absurd (Int32.lt_of_lt_of_le (show nI 2 - nI 4 < 0 by decide) (nI_pos' (show n < 2 ^ 31 by omega))) h
  · exact absurd (Int32.lt_of_lt_of_le (show nI 3 - nI 4 < 0 by decide) (nI_pos' (show n < 2 ^ 31 by omega))) h
  · refine Nat.le_of_not_lt fun z => h ?_
    have e : nI L - nI 4 = nI (L - 4) := by
      have e1 : nI L = nI (L - 4) + nI 4 := by rw [nI_add, show L - 4 + 4 = L by omega]
      rw [e1, Int32.add_sub_cancel]
    rw [e]
    exact nI_lt (by omega) (by omega)
theorem cr_keep {M M1 : Mem} {A : Ab} (h : CR M A) (hf : ∀ a, a < 140 → M1 a = M a) : CR M1 A := h.fr (fun a ha => hf a (by omega))
theorem rr_keep {M M1 : Mem} {A : Ab} (h : RR M A) (hk : A.ok) (hf : ∀ a, 140 ≤ a → M1 a = M a) : RR M1 A := h.fr hk (fun k _ => by rw [hf 140 (by omega)]) (fun a ha => hf a (by omega)) (fun x _ => by rw [hf 141 (by omega)])
theorem law_c0 {l : Launch} {G : Gd} {b0 b L n : Nat} {xs : Nat → Int32} {nm d0 : String} {M : Mem} {A : Ab} (hL : L ≤ 2048) (hn : n + 4 ≤ L) (ih : ∀ (M1 : Mem) (A1 : Ab), CR M1 A1 → RR M1 A1 → A1.ok → SL b L xs l G b0 ⟨RL, nm, d0⟩ cL_law 4 (some .boolean) room_1 LAY (fun v _ => v = 1) 166 18420 166 18420 LAY 1357 [some (.ref b), some (.ref (b0 + 0)), some (.ref (b0 + 140)), some (.int (nI n))] [] M1) (hC : CR M A) (hR : RR M A) (hk : A.ok) : SL b L xs l G b0 ⟨RL, nm, d0⟩ cL_law 4 (some .boolean) room_1 LAY (fun v _ => v = 1) 166 18420 166 18420 LAY 236 [some (.ref b), some (.ref (b0 + 0)), some (.ref (b0 + 140)), some (.int (nI n))] [] M := by
  refine L_aload_1 (q := 237) dL_law_236 rfl ?_
  refine L_elem (n := n) (k := 1) (q := 242) dL_law_237 dL_law_238 dL_law_239 dL_law_240 dL_law_241 (by decide) (by omega) hL rfl ?_
  refine L_elem (n := n) (k := 2) (q := 247) dL_law_242 dL_law_243 dL_law_244 dL_law_245 dL_law_246 (by decide) (by omega) hL rfl ?_
  refine L_elem (n := n) (k := 3) (q := 252) dL_law_247 dL_law_248 dL_law_249 dL_law_250 dL_law_251 (by decide) (by omega) hL rfl ?_
  refine L_callV3i (k := 0) (q := 255) dL_law_252 lk_L_13 rfl rfl rfl (k_X9_reset hC hk) rfl rfl (Nat.le_of_ble_eq_true rfl) ⟨(Nat.le_of_ble_eq_true rfl), (Nat.le_of_ble_eq_true rfl)⟩ ⟨(Nat.le_of_ble_eq_true rfl), (Nat.le_of_ble_eq_true rfl)⟩ rfl (fun v1 M1 hv1 => ?_)
  have hR1 := rr_keep hR hk hv1.2.1
  have ev1 := hv1.2.2
  refine L_aload_2 (q := 256) dL_law_255 rfl ?_
  refine L_elem (n := n) (k := 1) (q := 261) dL_law_256 dL_law_257 dL_law_258 dL_law_259 dL_law_260 (by decide) (by omega) hL rfl ?_
  refine L_elem (n := n) (k := 2) (q := 266) dL_law_261 dL_law_262 dL_law_263 dL_law_264 dL_law_265 (by decide) (by omega) hL rfl ?_
  refine L_elem (n := n) (k := 3) (q := 271) dL_law_266 dL_law_267 dL_law_268 dL_law_269 dL_law_270 (by decide) (by omega) hL rfl ?_
  refine L_callV3i (k := 140) (q := 274) dL_law_271 lk_L_17 rfl rfl rfl (k_X10_reset hR1 hk) rfl rfl (Nat.le_of_ble_eq_true rfl) ⟨(Nat.le_of_ble_eq_true rfl), (Nat.le_of_ble_eq_true rfl)⟩ ⟨(Nat.le_of_ble_eq_true rfl), (Nat.le_of_ble_eq_true rfl)⟩ rfl (fun v2 M2 hv2 => ?_)
  refine L_icmp_eq (t := 1357) (q := 277) dL_law_274 (by decide) rfl (fun _ => ?_) (fun z => absurd (ev1.trans hv2.2.2.symm) z)
  exact ih M2 (o_reset A (xs (n + 1)) (xs (n + 2)) (xs (n + 3))).1 (cr_keep hv1.1 hv2.2.1) hv2.1 (ok_reset hk (xs (n + 1)) (xs (n + 2)) (xs (n + 3)))
theorem lok_rows {A : Ab} (h : A.ok) : (o_rows A).1.ok := by
  first
  | exact h
  | (unfold o_rows; (repeat' split) <;> exact h)
theorem law_c1 {l : Launch} {G : Gd} {b0 b L n : Nat} {xs : Nat → Int32} {nm d0 : String} {M : Mem} {A : Ab} (hL : L ≤ 2048) (hn : n + 4 ≤ L) (ih : ∀ (M1 : Mem) (A1 : Ab), CR M1 A1 → RR M1 A1 → A1.ok → SL b L xs l G b0 ⟨RL, nm, d0⟩ cL_law 4 (some .boolean) room_1 LAY (fun v _ => v = 1) 166 18420 166 18420 LAY 1357 [some (.ref b), some (.ref (b0 + 0)), some (.ref (b0 + 140)), some (.int (nI n))] [] M1) (hC : CR M A) (hR : RR M A) (hk : A.ok) : SL b L xs l G b0 ⟨RL, nm, d0⟩ cL_law 4 (some .boolean) room_1 LAY (fun v _ => v = 1) 166 18420 166 18420 LAY 279 [some (.ref b), some (.ref (b0 + 0)), some (.ref (b0 + 140)), some (.int (nI n))] [] M := by
  refine L_aload_1 (q := 280) dL_law_279 rfl ?_
  refine L_callV0i (k := 0) (q := 283) dL_law_280 lk_L_18 rfl rfl rfl (k_X9_rowCount hC hk) rfl rfl (Nat.le_of_ble_eq_true rfl) ⟨(Nat.le_of_ble_eq_true rfl), (Nat.le_of_ble_eq_true rfl)⟩ ⟨(Nat.le_of_ble_eq_true rfl), (Nat.le_of_ble_eq_true rfl)⟩ rfl (fun v1 M1 hv1 => ?_)
  have hR1 := rr_keep hR hk hv1.2.1
  have ev1 := hv1.2.2
  refine L_aload_2 (q := 284) dL_law_283 rfl ?_
  refine L_callV0i (k := 140) (q := 287) dL_law_284 lk_L_22 rfl rfl rfl (k_X10_rowCount hR1 hk) rfl rfl (Nat.le_of_ble_eq_true rfl) ⟨(Nat.le_of_ble_eq_true rfl), (Nat.le_of_ble_eq_true rfl)⟩ ⟨(Nat.le_of_ble_eq_true rfl), (Nat.le_of_ble_eq_true rfl)⟩ rfl (fun v2 M2 hv2 => ?_)
  refine L_icmp_eq (t := 1357) (q := 290) dL_law_287 (by decide) rfl (fun _ => ?_) (fun z => absurd (ev1.trans hv2.2.2.symm) z)
  exact ih M2 (o_rows A).1 (cr_keep hv1.1 hv2.2.1) hv2.1 (lok_rows hk)
theorem lok_cols {A : Ab} (h : A.ok) : (o_cols A).1.ok := by
  first
  | exact h
  | (unfold o_cols; (repeat' split) <;> exact h)
theorem law_c2 {l : Launch} {G : Gd} {b0 b L n : Nat} {xs : Nat → Int32} {nm d0 : String} {M : Mem} {A : Ab} (hL : L ≤ 2048) (hn : n + 4 ≤ L) (ih : ∀ (M1 : Mem) (A1 : Ab), CR M1 A1 → RR M1 A1 → A1.ok → SL b L xs l G b0 ⟨RL, nm, d0⟩ cL_law 4 (some .boolean) room_1 LAY (fun v _ => v = 1) 166 18420 166 18420 LAY 1357 [some (.ref b), some (.ref (b0 + 0)), some (.ref (b0 + 140)), some (.int (nI n))] [] M1) (hC : CR M A) (hR : RR M A) (hk : A.ok) : SL b L xs l G b0 ⟨RL, nm, d0⟩ cL_law 4 (some .boolean) room_1 LAY (fun v _ => v = 1) 166 18420 166 18420 LAY 292 [some (.ref b), some (.ref (b0 + 0)), some (.ref (b0 + 140)), some (.int (nI n))] [] M := by
  refine L_aload_1 (q := 293) dL_law_292 rfl ?_
  refine L_callV0i (k := 0) (q := 296) dL_law_293 lk_L_23 rfl rfl rfl (k_X9_columnCount hC hk) rfl rfl (Nat.le_of_ble_eq_true rfl) ⟨(Nat.le_of_ble_eq_true rfl), (Nat.le_of_ble_eq_true rfl)⟩ ⟨(Nat.le_of_ble_eq_true rfl), (Nat.le_of_ble_eq_true rfl)⟩ rfl (fun v1 M1 hv1 => ?_)
  have hR1 := rr_keep hR hk hv1.2.1
  have ev1 := hv1.2.2
  refine L_aload_2 (q := 297) dL_law_296 rfl ?_
  refine L_callV0i (k := 140) (q := 300) dL_law_297 lk_L_26 rfl rfl rfl (k_X10_columnCount hR1 hk) rfl rfl (Nat.le_of_ble_eq_true rfl) ⟨(Nat.le_of_ble_eq_true rfl), (Nat.le_of_ble_eq_true rfl)⟩ ⟨(Nat.le_of_ble_eq_true rfl), (Nat.le_of_ble_eq_true rfl)⟩ rfl (fun v2 M2 hv2 => ?_)
  refine L_icmp_eq (t := 1357) (q := 303) dL_law_300 (by decide) rfl (fun _ => ?_) (fun z => absurd (ev1.trans hv2.2.2.symm) z)
  exact ih M2 (o_cols A).1 (cr_keep hv1.1 hv2.2.1) hv2.1 (lok_cols hk)
theorem lok_colors {A : Ab} (h : A.ok) : (o_colors A).1.ok := by
  first
  | exact h
  | (unfold o_colors; (repeat' split) <;> exact h)
theorem law_c3 {l : Launch} {G : Gd} {b0 b L n : Nat} {xs : Nat → Int32} {nm d0 : String} {M : Mem} {A : Ab} (hL : L ≤ 2048) (hn : n + 4 ≤ L) (ih : ∀ (M1 : Mem) (A1 : Ab), CR M1 A1 → RR M1 A1 → A1.ok → SL b L xs l G b0 ⟨RL, nm, d0⟩ cL_law 4 (some .boolean) room_1 LAY (fun v _ => v = 1) 166 18420 166 18420 LAY 1357 [some (.ref b), some (.ref (b0 + 0)), some (.ref (b0 + 140)), some (.int (nI n))] [] M1) (hC : CR M A) (hR : RR M A) (hk : A.ok) : SL b L xs l G b0 ⟨RL, nm, d0⟩ cL_law 4 (some .boolean) room_1 LAY (fun v _ => v = 1) 166 18420 166 18420 LAY 305 [some (.ref b), some (.ref (b0 + 0)), some (.ref (b0 + 140)), some (.int (nI n))] [] M := by
  refine L_aload_1 (q := 306) dL_law_305 rfl ?_
  refine L_callV0i (k := 0) (q := 309) dL_law_306 lk_L_27 rfl rfl rfl (k_X9_colorCount hC hk) rfl rfl (Nat.le_of_ble_eq_true rfl) ⟨(Nat.le_of_ble_eq_true rfl), (Nat.le_of_ble_eq_true rfl)⟩ ⟨(Nat.le_of_ble_eq_true rfl), (Nat.le_of_ble_eq_true rfl)⟩ rfl (fun v1 M1 hv1 => ?_)
  have hR1 := rr_keep hR hk hv1.2.1
  have ev1 := hv1.2.2
  refine L_aload_2 (q := 310) dL_law_309 rfl ?_
  refine L_callV0i (k := 140) (q := 313) dL_law_310 lk_L_30 rfl rfl rfl (k_X10_colorCount hR1 hk) rfl rfl (Nat.le_of_ble_eq_true rfl) ⟨(Nat.le_of_ble_eq_true rfl), (Nat.le_of_ble_eq_true rfl)⟩ ⟨(Nat.le_of_ble_eq_true rfl), (Nat.le_of_ble_eq_true rfl)⟩ rfl (fun v2 M2 hv2 => ?_)
  refine L_icmp_eq (t := 1357) (q := 316) dL_law_313 (by decide) rfl (fun _ => ?_) (fun z => absurd (ev1.trans hv2.2.2.symm) z)
  exact ih M2 (o_colors A).1 (cr_keep hv1.1 hv2.2.1) hv2.1 (lok_colors hk)
theorem law_c4 {l : Launch} {G : Gd} {b0 b L n : Nat} {xs : Nat → Int32} {nm d0 : String} {M : Mem} {A : Ab} (hL : L ≤ 2048) (hn : n + 4 ≤ L) (ih : ∀ (M1 : Mem) (A1 : Ab), CR M1 A1 → RR M1 A1 → A1.ok → SL b L xs l G b0 ⟨RL, nm, d0⟩ cL_law 4 (some .boolean) room_1 LAY (fun v _ => v = 1) 166 18420 166 18420 LAY 1357 [some (.ref b), some (.ref (b0 + 0)), some (.ref (b0 + 140)), some (.int (nI n))] [] M1) (hC : CR M A) (hR : RR M A) (hk : A.ok) : SL b L xs l G b0 ⟨RL, nm, d0⟩ cL_law 4 (some .boolean) room_1 LAY (fun v _ => v = 1) 166 18420 166 18420 LAY 318 [some (.ref b), some (.ref (b0 + 0)), some (.ref (b0 + 140)), some (.int (nI n))] [] M := by
  refine L_aload_1 (q := 319) dL_law_318 rfl ?_
  refine L_elem (n := n) (k := 1) (q := 324) dL_law_319 dL_law_320 dL_law_321 dL_law_322 dL_law_323 (by decide) (by omega) hL rfl ?_
  refine L_elem (n := n) (k := 2) (q := 329) dL_law_324 dL_law_325 dL_law_326 dL_law_327 dL_law_328 (by decide) (by omega) hL rfl ?_
  refine L_elem (n := n) (k := 3) (q := 334) dL_law_329 dL_law_330 dL_law_331 dL_law_332 dL_law_333 (by decide) (by omega) hL rfl ?_
  refine L_callV3i (k := 0) (q := 337) dL_law_334 lk_L_31 rfl rfl rfl (k_X9_addRun hC hk) rfl rfl (Nat.le_of_ble_eq_true rfl) ⟨(Nat.le_of_ble_eq_true rfl), (Nat.le_of_ble_eq_true rfl)⟩ ⟨(Nat.le_of_ble_eq_true rfl), (Nat.le_of_ble_eq_true rfl)⟩ rfl (fun v1 M1 hv1 => ?_)
  have hR1 := rr_keep hR hk hv1.2.1
  have ev1 := hv1.2.2
  refine L_aload_2 (q := 338) dL_law_337 rfl ?_
  refine L_elem (n := n) (k := 1) (q := 343) dL_law_338 dL_law_339 dL_law_340 dL_law_341 dL_law_342 (by decide) (by omega) hL rfl ?_
  refine L_elem (n := n) (k := 2) (q := 348) dL_law_343 dL_law_344 dL_law_345 dL_law_346 dL_law_347 (by decide) (by omega) hL rfl ?_
  refine L_elem (n := n) (k := 3) (q := 353) dL_law_348 dL_law_349 dL_law_350 dL_law_351 dL_law_352 (by decide) (by omega) hL rfl ?_
  refine L_callV3i (k := 140) (q := 356) dL_law_353 lk_L_34 rfl rfl rfl (k_X10_addRun hR1 hk) rfl rfl (Nat.le_of_ble_eq_true rfl) ⟨(Nat.le_of_ble_eq_true rfl), (Nat.le_of_ble_eq_true rfl)⟩ ⟨(Nat.le_of_ble_eq_true rfl), (Nat.le_of_ble_eq_true rfl)⟩ rfl (fun v2 M2 hv2 => ?_)
  refine L_icmp_eq (t := 1357) (q := 359) dL_law_356 (by decide) rfl (fun _ => ?_) (fun z => absurd (ev1.trans hv2.2.2.symm) z)
  exact ih M2 (o_add A (xs (n + 1)) (xs (n + 2)) (xs (n + 3))).1 (cr_keep hv1.1 hv2.2.1) hv2.1 (ok_add hk (xs (n + 1)) (xs (n + 2)) (xs (n + 3)))
theorem law_c5 {l : Launch} {G : Gd} {b0 b L n : Nat} {xs : Nat → Int32} {nm d0 : String} {M : Mem} {A : Ab} (hL : L ≤ 2048) (hn : n + 4 ≤ L) (ih : ∀ (M1 : Mem) (A1 : Ab), CR M1 A1 → RR M1 A1 → A1.ok → SL b L xs l G b0 ⟨RL, nm, d0⟩ cL_law 4 (some .boolean) room_1 LAY (fun v _ => v = 1) 166 18420 166 18420 LAY 1357 [some (.ref b), some (.ref (b0 + 0)), some (.ref (b0 + 140)), some (.int (nI n))] [] M1) (hC : CR M A) (hR : RR M A) (hk : A.ok) : SL b L xs l G b0 ⟨RL, nm, d0⟩ cL_law 4 (some .boolean) room_1 LAY (fun v _ => v = 1) 166 18420 166 18420 LAY 361 [some (.ref b), some (.ref (b0 + 0)), some (.ref (b0 + 140)), some (.int (nI n))] [] M := by
  refine L_aload_1 (q := 362) dL_law_361 rfl ?_
  refine L_elem (n := n) (k := 1) (q := 367) dL_law_362 dL_law_363 dL_law_364 dL_law_365 dL_law_366 (by decide) (by omega) hL rfl ?_
  refine L_callV1i (k := 0) (q := 370) dL_law_367 lk_L_35 rfl rfl rfl (k_X9_clearClue hC hk) rfl rfl (Nat.le_of_ble_eq_true rfl) ⟨(Nat.le_of_ble_eq_true rfl), (Nat.le_of_ble_eq_true rfl)⟩ ⟨(Nat.le_of_ble_eq_true rfl), (Nat.le_of_ble_eq_true rfl)⟩ rfl (fun v1 M1 hv1 => ?_)
  have hR1 := rr_keep hR hk hv1.2.1
  have ev1 := hv1.2.2
  refine L_aload_2 (q := 371) dL_law_370 rfl ?_
  refine L_elem (n := n) (k := 1) (q := 376) dL_law_371 dL_law_372 dL_law_373 dL_law_374 dL_law_375 (by decide) (by omega) hL rfl ?_
  refine L_callV1i (k := 140) (q := 379) dL_law_376 lk_L_39 rfl rfl rfl (k_X10_clearClue hR1 hk) rfl rfl (Nat.le_of_ble_eq_true rfl) ⟨(Nat.le_of_ble_eq_true rfl), (Nat.le_of_ble_eq_true rfl)⟩ ⟨(Nat.le_of_ble_eq_true rfl), (Nat.le_of_ble_eq_true rfl)⟩ rfl (fun v2 M2 hv2 => ?_)
  refine L_icmp_eq (t := 1357) (q := 382) dL_law_379 (by decide) rfl (fun _ => ?_) (fun z => absurd (ev1.trans hv2.2.2.symm) z)
  exact ih M2 (o_clr A (xs (n + 1))).1 (cr_keep hv1.1 hv2.2.1) hv2.1 (ok_clr hk (xs (n + 1)))
theorem lok_rc {A : Ab} {x0 : Int32} (h : A.ok) : (o_rc A x0).1.ok := by
  first
  | exact h
  | (unfold o_rc; (repeat' split) <;> exact h)
theorem law_c6 {l : Launch} {G : Gd} {b0 b L n : Nat} {xs : Nat → Int32} {nm d0 : String} {M : Mem} {A : Ab} (hL : L ≤ 2048) (hn : n + 4 ≤ L) (ih : ∀ (M1 : Mem) (A1 : Ab), CR M1 A1 → RR M1 A1 → A1.ok → SL b L xs l G b0 ⟨RL, nm, d0⟩ cL_law 4 (some .boolean) room_1 LAY (fun v _ => v = 1) 166 18420 166 18420 LAY 1357 [some (.ref b), some (.ref (b0 + 0)), some (.ref (b0 + 140)), some (.int (nI n))] [] M1) (hC : CR M A) (hR : RR M A) (hk : A.ok) : SL b L xs l G b0 ⟨RL, nm, d0⟩ cL_law 4 (some .boolean) room_1 LAY (fun v _ => v = 1) 166 18420 166 18420 LAY 384 [some (.ref b), some (.ref (b0 + 0)), some (.ref (b0 + 140)), some (.int (nI n))] [] M := by
  refine L_aload_1 (q := 385) dL_law_384 rfl ?_
  refine L_elem (n := n) (k := 1) (q := 390) dL_law_385 dL_law_386 dL_law_387 dL_law_388 dL_law_389 (by decide) (by omega) hL rfl ?_
  refine L_callV1i (k := 0) (q := 393) dL_law_390 lk_L_40 rfl rfl rfl (k_X9_runCount hC hk) rfl rfl (Nat.le_of_ble_eq_true rfl) ⟨(Nat.le_of_ble_eq_true rfl), (Nat.le_of_ble_eq_true rfl)⟩ ⟨(Nat.le_of_ble_eq_true rfl), (Nat.le_of_ble_eq_true rfl)⟩ rfl (fun v1 M1 hv1 => ?_)
  have hR1 := rr_keep hR hk hv1.2.1
  have ev1 := hv1.2.2
  refine L_aload_2 (q := 394) dL_law_393 rfl ?_
  refine L_elem (n := n) (k := 1) (q := 399) dL_law_394 dL_law_395 dL_law_396 dL_law_397 dL_law_398 (by decide) (by omega) hL rfl ?_
  refine L_callV1i (k := 140) (q := 402) dL_law_399 lk_L_43 rfl rfl rfl (k_X10_runCount hR1 hk) rfl rfl (Nat.le_of_ble_eq_true rfl) ⟨(Nat.le_of_ble_eq_true rfl), (Nat.le_of_ble_eq_true rfl)⟩ ⟨(Nat.le_of_ble_eq_true rfl), (Nat.le_of_ble_eq_true rfl)⟩ rfl (fun v2 M2 hv2 => ?_)
  refine L_icmp_eq (t := 1357) (q := 405) dL_law_402 (by decide) rfl (fun _ => ?_) (fun z => absurd (ev1.trans hv2.2.2.symm) z)
  exact ih M2 (o_rc A (xs (n + 1))).1 (cr_keep hv1.1 hv2.2.1) hv2.1 (lok_rc hk)
theorem lok_rl {A : Ab} {x0 x1 : Int32} (h : A.ok) : (o_rl A x0 x1).1.ok := by
  first
  | exact h
  | (unfold o_rl; (repeat' split) <;> exact h)
theorem law_c7 {l : Launch} {G : Gd} {b0 b L n : Nat} {xs : Nat → Int32} {nm d0 : String} {M : Mem} {A : Ab} (hL : L ≤ 2048) (hn : n + 4 ≤ L) (ih : ∀ (M1 : Mem) (A1 : Ab), CR M1 A1 → RR M1 A1 → A1.ok → SL b L xs l G b0 ⟨RL, nm, d0⟩ cL_law 4 (some .boolean) room_1 LAY (fun v _ => v = 1) 166 18420 166 18420 LAY 1357 [some (.ref b), some (.ref (b0 + 0)), some (.ref (b0 + 140)), some (.int (nI n))] [] M1) (hC : CR M A) (hR : RR M A) (hk : A.ok) : SL b L xs l G b0 ⟨RL, nm, d0⟩ cL_law 4 (some .boolean) room_1 LAY (fun v _ => v = 1) 166 18420 166 18420 LAY 407 [some (.ref b), some (.ref (b0 + 0)), some (.ref (b0 + 140)), some (.int (nI n))] [] M := by
  refine L_aload_1 (q := 408) dL_law_407 rfl ?_
  refine L_elem (n := n) (k := 1) (q := 413) dL_law_408 dL_law_409 dL_law_410 dL_law_411 dL_law_412 (by decide) (by omega) hL rfl ?_
  refine L_elem (n := n) (k := 2) (q := 418) dL_law_413 dL_law_414 dL_law_415 dL_law_416 dL_law_417 (by decide) (by omega) hL rfl ?_
  refine L_callV2i (k := 0) (q := 421) dL_law_418 lk_L_44 rfl rfl rfl (k_X9_runLength hC hk) rfl rfl (Nat.le_of_ble_eq_true rfl) ⟨(Nat.le_of_ble_eq_true rfl), (Nat.le_of_ble_eq_true rfl)⟩ ⟨(Nat.le_of_ble_eq_true rfl), (Nat.le_of_ble_eq_true rfl)⟩ rfl (fun v1 M1 hv1 => ?_)
  have hR1 := rr_keep hR hk hv1.2.1
  have ev1 := hv1.2.2
  refine L_aload_2 (q := 422) dL_law_421 rfl ?_
  refine L_elem (n := n) (k := 1) (q := 427) dL_law_422 dL_law_423 dL_law_424 dL_law_425 dL_law_426 (by decide) (by omega) hL rfl ?_
  refine L_elem (n := n) (k := 2) (q := 432) dL_law_427 dL_law_428 dL_law_429 dL_law_430 dL_law_431 (by decide) (by omega) hL rfl ?_
  refine L_callV2i (k := 140) (q := 435) dL_law_432 lk_L_48 rfl rfl rfl (k_X10_runLength hR1 hk) rfl rfl (Nat.le_of_ble_eq_true rfl) ⟨(Nat.le_of_ble_eq_true rfl), (Nat.le_of_ble_eq_true rfl)⟩ ⟨(Nat.le_of_ble_eq_true rfl), (Nat.le_of_ble_eq_true rfl)⟩ rfl (fun v2 M2 hv2 => ?_)
  refine L_icmp_eq (t := 1357) (q := 438) dL_law_435 (by decide) rfl (fun _ => ?_) (fun z => absurd (ev1.trans hv2.2.2.symm) z)
  exact ih M2 (o_rl A (xs (n + 1)) (xs (n + 2))).1 (cr_keep hv1.1 hv2.2.1) hv2.1 (lok_rl hk)
theorem lok_rk {A : Ab} {x0 x1 : Int32} (h : A.ok) : (o_rk A x0 x1).1.ok := by
  first
  | exact h
  | (unfold o_rk; (repeat' split) <;> exact h)
theorem law_c8 {l : Launch} {G : Gd} {b0 b L n : Nat} {xs : Nat → Int32} {nm d0 : String} {M : Mem} {A : Ab} (hL : L ≤ 2048) (hn : n + 4 ≤ L) (ih : ∀ (M1 : Mem) (A1 : Ab), CR M1 A1 → RR M1 A1 → A1.ok → SL b L xs l G b0 ⟨RL, nm, d0⟩ cL_law 4 (some .boolean) room_1 LAY (fun v _ => v = 1) 166 18420 166 18420 LAY 1357 [some (.ref b), some (.ref (b0 + 0)), some (.ref (b0 + 140)), some (.int (nI n))] [] M1) (hC : CR M A) (hR : RR M A) (hk : A.ok) : SL b L xs l G b0 ⟨RL, nm, d0⟩ cL_law 4 (some .boolean) room_1 LAY (fun v _ => v = 1) 166 18420 166 18420 LAY 440 [some (.ref b), some (.ref (b0 + 0)), some (.ref (b0 + 140)), some (.int (nI n))] [] M := by
  refine L_aload_1 (q := 441) dL_law_440 rfl ?_
  refine L_elem (n := n) (k := 1) (q := 446) dL_law_441 dL_law_442 dL_law_443 dL_law_444 dL_law_445 (by decide) (by omega) hL rfl ?_
  refine L_elem (n := n) (k := 2) (q := 451) dL_law_446 dL_law_447 dL_law_448 dL_law_449 dL_law_450 (by decide) (by omega) hL rfl ?_
  refine L_callV2i (k := 0) (q := 454) dL_law_451 lk_L_49 rfl rfl rfl (k_X9_runColor hC hk) rfl rfl (Nat.le_of_ble_eq_true rfl) ⟨(Nat.le_of_ble_eq_true rfl), (Nat.le_of_ble_eq_true rfl)⟩ ⟨(Nat.le_of_ble_eq_true rfl), (Nat.le_of_ble_eq_true rfl)⟩ rfl (fun v1 M1 hv1 => ?_)
  have hR1 := rr_keep hR hk hv1.2.1
  have ev1 := hv1.2.2
  refine L_aload_2 (q := 455) dL_law_454 rfl ?_
  refine L_elem (n := n) (k := 1) (q := 460) dL_law_455 dL_law_456 dL_law_457 dL_law_458 dL_law_459 (by decide) (by omega) hL rfl ?_
  refine L_elem (n := n) (k := 2) (q := 465) dL_law_460 dL_law_461 dL_law_462 dL_law_463 dL_law_464 (by decide) (by omega) hL rfl ?_
  refine L_callV2i (k := 140) (q := 468) dL_law_465 lk_L_52 rfl rfl rfl (k_X10_runColor hR1 hk) rfl rfl (Nat.le_of_ble_eq_true rfl) ⟨(Nat.le_of_ble_eq_true rfl), (Nat.le_of_ble_eq_true rfl)⟩ ⟨(Nat.le_of_ble_eq_true rfl), (Nat.le_of_ble_eq_true rfl)⟩ rfl (fun v2 M2 hv2 => ?_)
  refine L_icmp_eq (t := 1357) (q := 471) dL_law_468 (by decide) rfl (fun _ => ?_) (fun z => absurd (ev1.trans hv2.2.2.symm) z)
  exact ih M2 (o_rk A (xs (n + 1)) (xs (n + 2))).1 (cr_keep hv1.1 hv2.2.1) hv2.1 (lok_rk hk)
theorem lok_min {A : Ab} {x0 : Int32} (h : A.ok) : (o_min A x0).1.ok := by
  first
  | exact h
  | (unfold o_min; (repeat' split) <;> exact h)
theorem law_c9 {l : Launch} {G : Gd} {b0 b L n : Nat} {xs : Nat → Int32} {nm d0 : String} {M : Mem} {A : Ab} (hL : L ≤ 2048) (hn : n + 4 ≤ L) (ih : ∀ (M1 : Mem) (A1 : Ab), CR M1 A1 → RR M1 A1 → A1.ok → SL b L xs l G b0 ⟨RL, nm, d0⟩ cL_law 4 (some .boolean) room_1 LAY (fun v _ => v = 1) 166 18420 166 18420 LAY 1357 [some (.ref b), some (.ref (b0 + 0)), some (.ref (b0 + 140)), some (.int (nI n))] [] M1) (hC : CR M A) (hR : RR M A) (hk : A.ok) : SL b L xs l G b0 ⟨RL, nm, d0⟩ cL_law 4 (some .boolean) room_1 LAY (fun v _ => v = 1) 166 18420 166 18420 LAY 473 [some (.ref b), some (.ref (b0 + 0)), some (.ref (b0 + 140)), some (.int (nI n))] [] M := by
  refine L_aload_1 (q := 474) dL_law_473 rfl ?_
  refine L_elem (n := n) (k := 1) (q := 479) dL_law_474 dL_law_475 dL_law_476 dL_law_477 dL_law_478 (by decide) (by omega) hL rfl ?_
  refine L_callV1i (k := 0) (q := 482) dL_law_479 lk_L_53 rfl rfl rfl (k_X9_minimumLength hC hk) rfl rfl (Nat.le_of_ble_eq_true rfl) ⟨(Nat.le_of_ble_eq_true rfl), (Nat.le_of_ble_eq_true rfl)⟩ ⟨(Nat.le_of_ble_eq_true rfl), (Nat.le_of_ble_eq_true rfl)⟩ rfl (fun v1 M1 hv1 => ?_)
  have hR1 := rr_keep hR hk hv1.2.1
  have ev1 := hv1.2.2
  refine L_aload_2 (q := 483) dL_law_482 rfl ?_
  refine L_elem (n := n) (k := 1) (q := 488) dL_law_483 dL_law_484 dL_law_485 dL_law_486 dL_law_487 (by decide) (by omega) hL rfl ?_
  refine L_callV1i (k := 140) (q := 491) dL_law_488 lk_L_56 rfl rfl rfl (k_X10_minimumLength hR1 hk) rfl rfl (Nat.le_of_ble_eq_true rfl) ⟨(Nat.le_of_ble_eq_true rfl), (Nat.le_of_ble_eq_true rfl)⟩ ⟨(Nat.le_of_ble_eq_true rfl), (Nat.le_of_ble_eq_true rfl)⟩ rfl (fun v2 M2 hv2 => ?_)
  refine L_icmp_eq (t := 1357) (q := 494) dL_law_491 (by decide) rfl (fun _ => ?_) (fun z => absurd (ev1.trans hv2.2.2.symm) z)
  exact ih M2 (o_min A (xs (n + 1))).1 (cr_keep hv1.1 hv2.2.1) hv2.1 (lok_min hk)
theorem lok_cand {A : Ab} {x0 x1 : Int32} (h : A.ok) : (o_cand A x0 x1).1.ok := by
  first
  | exact h
  | (unfold o_cand; (repeat' split) <;> exact h)
theorem law_c10 {l : Launch} {G : Gd} {b0 b L n : Nat} {xs : Nat → Int32} {nm d0 : String} {M : Mem} {A : Ab} (hL : L ≤ 2048) (hn : n + 4 ≤ L) (ih : ∀ (M1 : Mem) (A1 : Ab), CR M1 A1 → RR M1 A1 → A1.ok → SL b L xs l G b0 ⟨RL, nm, d0⟩ cL_law 4 (some .boolean) room_1 LAY (fun v _ => v = 1) 166 18420 166 18420 LAY 1357 [some (.ref b), some (.ref (b0 + 0)), some (.ref (b0 + 140)), some (.int (nI n))] [] M1) (hC : CR M A) (hR : RR M A) (hk : A.ok) : SL b L xs l G b0 ⟨RL, nm, d0⟩ cL_law 4 (some .boolean) room_1 LAY (fun v _ => v = 1) 166 18420 166 18420 LAY 496 [some (.ref b), some (.ref (b0 + 0)), some (.ref (b0 + 140)), some (.int (nI n))] [] M := by
  refine L_aload_1 (q := 497) dL_law_496 rfl ?_
  refine L_elem (n := n) (k := 1) (q := 502) dL_law_497 dL_law_498 dL_law_499 dL_law_500 dL_law_501 (by decide) (by omega) hL rfl ?_
  refine L_elem (n := n) (k := 2) (q := 507) dL_law_502 dL_law_503 dL_law_504 dL_law_505 dL_law_506 (by decide) (by omega) hL rfl ?_
  refine L_callV2i (k := 0) (q := 510) dL_law_507 lk_L_57 rfl rfl rfl (k_X9_candidates hC hk) rfl rfl (Nat.le_of_ble_eq_true rfl) ⟨(Nat.le_of_ble_eq_true rfl), (Nat.le_of_ble_eq_true rfl)⟩ ⟨(Nat.le_of_ble_eq_true rfl), (Nat.le_of_ble_eq_true rfl)⟩ rfl (fun v1 M1 hv1 => ?_)
  have hR1 := rr_keep hR hk hv1.2.1
  have ev1 := hv1.2.2
  refine L_aload_2 (q := 511) dL_law_510 rfl ?_
  refine L_elem (n := n) (k := 1) (q := 516) dL_law_511 dL_law_512 dL_law_513 dL_law_514 dL_law_515 (by decide) (by omega) hL rfl ?_
  refine L_elem (n := n) (k := 2) (q := 521) dL_law_516 dL_law_517 dL_law_518 dL_law_519 dL_law_520 (by decide) (by omega) hL rfl ?_
  refine L_callV2i (k := 140) (q := 524) dL_law_521 lk_L_60 rfl rfl rfl (k_X10_candidates hR1 hk) rfl rfl (Nat.le_of_ble_eq_true rfl) ⟨(Nat.le_of_ble_eq_true rfl), (Nat.le_of_ble_eq_true rfl)⟩ ⟨(Nat.le_of_ble_eq_true rfl), (Nat.le_of_ble_eq_true rfl)⟩ rfl (fun v2 M2 hv2 => ?_)
  refine L_icmp_eq (t := 1357) (q := 527) dL_law_524 (by decide) rfl (fun _ => ?_) (fun z => absurd (ev1.trans hv2.2.2.symm) z)
  exact ih M2 (o_cand A (xs (n + 1)) (xs (n + 2))).1 (cr_keep hv1.1 hv2.2.1) hv2.1 (lok_cand hk)
theorem lok_color {A : Ab} {x0 x1 : Int32} (h : A.ok) : (o_color A x0 x1).1.ok := by
  first
  | exact h
  | (unfold o_color; (repeat' split) <;> exact h)
theorem law_c11 {l : Launch} {G : Gd} {b0 b L n : Nat} {xs : Nat → Int32} {nm d0 : String} {M : Mem} {A : Ab} (hL : L ≤ 2048) (hn : n + 4 ≤ L) (ih : ∀ (M1 : Mem) (A1 : Ab), CR M1 A1 → RR M1 A1 → A1.ok → SL b L xs l G b0 ⟨RL, nm, d0⟩ cL_law 4 (some .boolean) room_1 LAY (fun v _ => v = 1) 166 18420 166 18420 LAY 1357 [some (.ref b), some (.ref (b0 + 0)), some (.ref (b0 + 140)), some (.int (nI n))] [] M1) (hC : CR M A) (hR : RR M A) (hk : A.ok) : SL b L xs l G b0 ⟨RL, nm, d0⟩ cL_law 4 (some .boolean) room_1 LAY (fun v _ => v = 1) 166 18420 166 18420 LAY 529 [some (.ref b), some (.ref (b0 + 0)), some (.ref (b0 + 140)), some (.int (nI n))] [] M := by
  refine L_aload_1 (q := 530) dL_law_529 rfl ?_
  refine L_elem (n := n) (k := 1) (q := 535) dL_law_530 dL_law_531 dL_law_532 dL_law_533 dL_law_534 (by decide) (by omega) hL rfl ?_
  refine L_elem (n := n) (k := 2) (q := 540) dL_law_535 dL_law_536 dL_law_537 dL_law_538 dL_law_539 (by decide) (by omega) hL rfl ?_
  refine L_callV2i (k := 0) (q := 543) dL_law_540 lk_L_61 rfl rfl rfl (k_X9_color hC hk) rfl rfl (Nat.le_of_ble_eq_true rfl) ⟨(Nat.le_of_ble_eq_true rfl), (Nat.le_of_ble_eq_true rfl)⟩ ⟨(Nat.le_of_ble_eq_true rfl), (Nat.le_of_ble_eq_true rfl)⟩ rfl (fun v1 M1 hv1 => ?_)
  have hR1 := rr_keep hR hk hv1.2.1
  have ev1 := hv1.2.2
  refine L_aload_2 (q := 544) dL_law_543 rfl ?_
  refine L_elem (n := n) (k := 1) (q := 549) dL_law_544 dL_law_545 dL_law_546 dL_law_547 dL_law_548 (by decide) (by omega) hL rfl ?_
  refine L_elem (n := n) (k := 2) (q := 554) dL_law_549 dL_law_550 dL_law_551 dL_law_552 dL_law_553 (by decide) (by omega) hL rfl ?_
  refine L_callV2i (k := 140) (q := 557) dL_law_554 lk_L_64 rfl rfl rfl (k_X10_color hR1 hk) rfl rfl (Nat.le_of_ble_eq_true rfl) ⟨(Nat.le_of_ble_eq_true rfl), (Nat.le_of_ble_eq_true rfl)⟩ ⟨(Nat.le_of_ble_eq_true rfl), (Nat.le_of_ble_eq_true rfl)⟩ rfl (fun v2 M2 hv2 => ?_)
  refine L_icmp_eq (t := 1357) (q := 560) dL_law_557 (by decide) rfl (fun _ => ?_) (fun z => absurd (ev1.trans hv2.2.2.symm) z)
  exact ih M2 (o_color A (xs (n + 1)) (xs (n + 2))).1 (cr_keep hv1.1 hv2.2.1) hv2.1 (lok_color hk)
theorem law_c12 {l : Launch} {G : Gd} {b0 b L n : Nat} {xs : Nat → Int32} {nm d0 : String} {M : Mem} {A : Ab} (hL : L ≤ 2048) (hn : n + 4 ≤ L) (ih : ∀ (M1 : Mem) (A1 : Ab), CR M1 A1 → RR M1 A1 → A1.ok → SL b L xs l G b0 ⟨RL, nm, d0⟩ cL_law 4 (some .boolean) room_1 LAY (fun v _ => v = 1) 166 18420 166 18420 LAY 1357 [some (.ref b), some (.ref (b0 + 0)), some (.ref (b0 + 140)), some (.int (nI n))] [] M1) (hC : CR M A) (hR : RR M A) (hk : A.ok) : SL b L xs l G b0 ⟨RL, nm, d0⟩ cL_law 4 (some .boolean) room_1 LAY (fun v _ => v = 1) 166 18420 166 18420 LAY 562 [some (.ref b), some (.ref (b0 + 0)), some (.ref (b0 + 140)), some (.int (nI n))] [] M := by
  refine L_aload_1 (q := 563) dL_law_562 rfl ?_
  refine L_elem (n := n) (k := 1) (q := 568) dL_law_563 dL_law_564 dL_law_565 dL_law_566 dL_law_567 (by decide) (by omega) hL rfl ?_
  refine L_elem (n := n) (k := 2) (q := 573) dL_law_568 dL_law_569 dL_law_570 dL_law_571 dL_law_572 (by decide) (by omega) hL rfl ?_
  refine L_elem (n := n) (k := 3) (q := 578) dL_law_573 dL_law_574 dL_law_575 dL_law_576 dL_law_577 (by decide) (by omega) hL rfl ?_
  refine L_callV3i (k := 0) (q := 581) dL_law_578 lk_L_65 rfl rfl rfl (k_X9_keepOnly hC hk) rfl rfl (Nat.le_of_ble_eq_true rfl) ⟨(Nat.le_of_ble_eq_true rfl), (Nat.le_of_ble_eq_true rfl)⟩ ⟨(Nat.le_of_ble_eq_true rfl), (Nat.le_of_ble_eq_true rfl)⟩ rfl (fun v1 M1 hv1 => ?_)
  have hR1 := rr_keep hR hk hv1.2.1
  have ev1 := hv1.2.2
  refine L_aload_2 (q := 582) dL_law_581 rfl ?_
  refine L_elem (n := n) (k := 1) (q := 587) dL_law_582 dL_law_583 dL_law_584 dL_law_585 dL_law_586 (by decide) (by omega) hL rfl ?_
  refine L_elem (n := n) (k := 2) (q := 592) dL_law_587 dL_law_588 dL_law_589 dL_law_590 dL_law_591 (by decide) (by omega) hL rfl ?_
  refine L_elem (n := n) (k := 3) (q := 597) dL_law_592 dL_law_593 dL_law_594 dL_law_595 dL_law_596 (by decide) (by omega) hL rfl ?_
  refine L_callV3i (k := 140) (q := 600) dL_law_597 lk_L_68 rfl rfl rfl (k_X10_keepOnly hR1 hk) rfl rfl (Nat.le_of_ble_eq_true rfl) ⟨(Nat.le_of_ble_eq_true rfl), (Nat.le_of_ble_eq_true rfl)⟩ ⟨(Nat.le_of_ble_eq_true rfl), (Nat.le_of_ble_eq_true rfl)⟩ rfl (fun v2 M2 hv2 => ?_)
  refine L_icmp_eq (t := 1357) (q := 603) dL_law_600 (by decide) rfl (fun _ => ?_) (fun z => absurd (ev1.trans hv2.2.2.symm) z)
  exact ih M2 (o_keep A (xs (n + 1)) (xs (n + 2)) (xs (n + 3))).1 (cr_keep hv1.1 hv2.2.1) hv2.1 (ok_keep hk (xs (n + 1)) (xs (n + 2)) (xs (n + 3)))
theorem law_c13 {l : Launch} {G : Gd} {b0 b L n : Nat} {xs : Nat → Int32} {nm d0 : String} {M : Mem} {A : Ab} (hL : L ≤ 2048) (hn : n + 4 ≤ L) (ih : ∀ (M1 : Mem) (A1 : Ab), CR M1 A1 → RR M1 A1 → A1.ok → SL b L xs l G b0 ⟨RL, nm, d0⟩ cL_law 4 (some .boolean) room_1 LAY (fun v _ => v = 1) 166 18420 166 18420 LAY 1357 [some (.ref b), some (.ref (b0 + 0)), some (.ref (b0 + 140)), some (.int (nI n))] [] M1) (hC : CR M A) (hR : RR M A) (hk : A.ok) : SL b L xs l G b0 ⟨RL, nm, d0⟩ cL_law 4 (some .boolean) room_1 LAY (fun v _ => v = 1) 166 18420 166 18420 LAY 605 [some (.ref b), some (.ref (b0 + 0)), some (.ref (b0 + 140)), some (.int (nI n))] [] M := by
  refine L_aload_1 (q := 606) dL_law_605 rfl ?_
  refine L_elem (n := n) (k := 1) (q := 611) dL_law_606 dL_law_607 dL_law_608 dL_law_609 dL_law_610 (by decide) (by omega) hL rfl ?_
  refine L_elem (n := n) (k := 2) (q := 616) dL_law_611 dL_law_612 dL_law_613 dL_law_614 dL_law_615 (by decide) (by omega) hL rfl ?_
  refine L_elem (n := n) (k := 3) (q := 621) dL_law_616 dL_law_617 dL_law_618 dL_law_619 dL_law_620 (by decide) (by omega) hL rfl ?_
  refine L_callV3i (k := 0) (q := 624) dL_law_621 lk_L_69 rfl rfl rfl (k_X9_eliminate hC hk) rfl rfl (Nat.le_of_ble_eq_true rfl) ⟨(Nat.le_of_ble_eq_true rfl), (Nat.le_of_ble_eq_true rfl)⟩ ⟨(Nat.le_of_ble_eq_true rfl), (Nat.le_of_ble_eq_true rfl)⟩ rfl (fun v1 M1 hv1 => ?_)
  have hR1 := rr_keep hR hk hv1.2.1
  have ev1 := hv1.2.2
  refine L_aload_2 (q := 625) dL_law_624 rfl ?_
  refine L_elem (n := n) (k := 1) (q := 630) dL_law_625 dL_law_626 dL_law_627 dL_law_628 dL_law_629 (by decide) (by omega) hL rfl ?_
  refine L_elem (n := n) (k := 2) (q := 635) dL_law_630 dL_law_631 dL_law_632 dL_law_633 dL_law_634 (by decide) (by omega) hL rfl ?_
  refine L_elem (n := n) (k := 3) (q := 640) dL_law_635 dL_law_636 dL_law_637 dL_law_638 dL_law_639 (by decide) (by omega) hL rfl ?_
  refine L_callV3i (k := 140) (q := 643) dL_law_640 lk_L_72 rfl rfl rfl (k_X10_eliminate hR1 hk) rfl rfl (Nat.le_of_ble_eq_true rfl) ⟨(Nat.le_of_ble_eq_true rfl), (Nat.le_of_ble_eq_true rfl)⟩ ⟨(Nat.le_of_ble_eq_true rfl), (Nat.le_of_ble_eq_true rfl)⟩ rfl (fun v2 M2 hv2 => ?_)
  refine L_icmp_eq (t := 1357) (q := 646) dL_law_643 (by decide) rfl (fun _ => ?_) (fun z => absurd (ev1.trans hv2.2.2.symm) z)
  exact ih M2 (o_elim A (xs (n + 1)) (xs (n + 2)) (xs (n + 3))).1 (cr_keep hv1.1 hv2.2.1) hv2.1 (ok_elim hk (xs (n + 1)) (xs (n + 2)) (xs (n + 3)))
theorem lok_dec {A : Ab} (h : A.ok) : (o_dec A).1.ok := by
  first
  | exact h
  | (unfold o_dec; (repeat' split) <;> exact h)
theorem law_c14 {l : Launch} {G : Gd} {b0 b L n : Nat} {xs : Nat → Int32} {nm d0 : String} {M : Mem} {A : Ab} (hL : L ≤ 2048) (hn : n + 4 ≤ L) (ih : ∀ (M1 : Mem) (A1 : Ab), CR M1 A1 → RR M1 A1 → A1.ok → SL b L xs l G b0 ⟨RL, nm, d0⟩ cL_law 4 (some .boolean) room_1 LAY (fun v _ => v = 1) 166 18420 166 18420 LAY 1357 [some (.ref b), some (.ref (b0 + 0)), some (.ref (b0 + 140)), some (.int (nI n))] [] M1) (hC : CR M A) (hR : RR M A) (hk : A.ok) : SL b L xs l G b0 ⟨RL, nm, d0⟩ cL_law 4 (some .boolean) room_1 LAY (fun v _ => v = 1) 166 18420 166 18420 LAY 648 [some (.ref b), some (.ref (b0 + 0)), some (.ref (b0 + 140)), some (.int (nI n))] [] M := by
  refine L_aload_1 (q := 649) dL_law_648 rfl ?_
  refine L_callV0i (k := 0) (q := 652) dL_law_649 lk_L_73 rfl rfl rfl (k_X9_decidedCount hC hk) rfl rfl (Nat.le_of_ble_eq_true rfl) ⟨(Nat.le_of_ble_eq_true rfl), (Nat.le_of_ble_eq_true rfl)⟩ ⟨(Nat.le_of_ble_eq_true rfl), (Nat.le_of_ble_eq_true rfl)⟩ rfl (fun v1 M1 hv1 => ?_)
  have hR1 := rr_keep hR hk hv1.2.1
  have ev1 := hv1.2.2
  refine L_aload_2 (q := 653) dL_law_652 rfl ?_
  refine L_callV0i (k := 140) (q := 656) dL_law_653 lk_L_76 rfl rfl rfl (k_X10_decidedCount hR1 hk) rfl rfl (Nat.le_of_ble_eq_true rfl) ⟨(Nat.le_of_ble_eq_true rfl), (Nat.le_of_ble_eq_true rfl)⟩ ⟨(Nat.le_of_ble_eq_true rfl), (Nat.le_of_ble_eq_true rfl)⟩ rfl (fun v2 M2 hv2 => ?_)
  refine L_icmp_eq (t := 1357) (q := 659) dL_law_656 (by decide) rfl (fun _ => ?_) (fun z => absurd (ev1.trans hv2.2.2.symm) z)
  exact ih M2 (o_dec A).1 (cr_keep hv1.1 hv2.2.1) hv2.1 (lok_dec hk)
theorem lok_avg {A : Ab} {x0 : Int32} (h : A.ok) : (o_avg A x0).1.ok := by
  first
  | exact h
  | (unfold o_avg; (repeat' split) <;> exact h)
theorem law_c15 {l : Launch} {G : Gd} {b0 b L n : Nat} {xs : Nat → Int32} {nm d0 : String} {M : Mem} {A : Ab} (hL : L ≤ 2048) (hn : n + 4 ≤ L) (ih : ∀ (M1 : Mem) (A1 : Ab), CR M1 A1 → RR M1 A1 → A1.ok → SL b L xs l G b0 ⟨RL, nm, d0⟩ cL_law 4 (some .boolean) room_1 LAY (fun v _ => v = 1) 166 18420 166 18420 LAY 1357 [some (.ref b), some (.ref (b0 + 0)), some (.ref (b0 + 140)), some (.int (nI n))] [] M1) (hC : CR M A) (hR : RR M A) (hk : A.ok) : SL b L xs l G b0 ⟨RL, nm, d0⟩ cL_law 4 (some .boolean) room_1 LAY (fun v _ => v = 1) 166 18420 166 18420 LAY 661 [some (.ref b), some (.ref (b0 + 0)), some (.ref (b0 + 140)), some (.int (nI n))] [] M := by
  refine L_aload_1 (q := 662) dL_law_661 rfl ?_
  refine L_elem (n := n) (k := 1) (q := 667) dL_law_662 dL_law_663 dL_law_664 dL_law_665 dL_law_666 (by decide) (by omega) hL rfl ?_
  refine L_callV1i (k := 0) (q := 670) dL_law_667 lk_L_77 rfl rfl rfl (k_X9_averageCandidates hC hk) rfl rfl (Nat.le_of_ble_eq_true rfl) ⟨(Nat.le_of_ble_eq_true rfl), (Nat.le_of_ble_eq_true rfl)⟩ ⟨(Nat.le_of_ble_eq_true rfl), (Nat.le_of_ble_eq_true rfl)⟩ rfl (fun v1 M1 hv1 => ?_)
  have hR1 := rr_keep hR hk hv1.2.1
  have ev1 := hv1.2.2
  refine L_aload_2 (q := 671) dL_law_670 rfl ?_
  refine L_elem (n := n) (k := 1) (q := 676) dL_law_671 dL_law_672 dL_law_673 dL_law_674 dL_law_675 (by decide) (by omega) hL rfl ?_
  refine L_callV1i (k := 140) (q := 679) dL_law_676 lk_L_80 rfl rfl rfl (k_X10_averageCandidates hR1 hk) rfl rfl (Nat.le_of_ble_eq_true rfl) ⟨(Nat.le_of_ble_eq_true rfl), (Nat.le_of_ble_eq_true rfl)⟩ ⟨(Nat.le_of_ble_eq_true rfl), (Nat.le_of_ble_eq_true rfl)⟩ rfl (fun v2 M2 hv2 => ?_)
  refine L_icmp_eq (t := 1357) (q := 682) dL_law_679 (by decide) rfl (fun _ => ?_) (fun z => absurd (ev1.trans hv2.2.2.symm) z)
  exact ih M2 (o_avg A (xs (n + 1))).1 (cr_keep hv1.1 hv2.2.1) hv2.1 (lok_avg hk)
theorem lok_asn {A : Ab} {x0 : Int32} (h : A.ok) : (o_asn A x0).1.ok := by
  first
  | exact h
  | (unfold o_asn; (repeat' split) <;> exact h)
theorem law_c16 {l : Launch} {G : Gd} {b0 b L n : Nat} {xs : Nat → Int32} {nm d0 : String} {M : Mem} {A : Ab} (hL : L ≤ 2048) (hn : n + 4 ≤ L) (ih : ∀ (M1 : Mem) (A1 : Ab), CR M1 A1 → RR M1 A1 → A1.ok → SL b L xs l G b0 ⟨RL, nm, d0⟩ cL_law 4 (some .boolean) room_1 LAY (fun v _ => v = 1) 166 18420 166 18420 LAY 1357 [some (.ref b), some (.ref (b0 + 0)), some (.ref (b0 + 140)), some (.int (nI n))] [] M1) (hC : CR M A) (hR : RR M A) (hk : A.ok) : SL b L xs l G b0 ⟨RL, nm, d0⟩ cL_law 4 (some .boolean) room_1 LAY (fun v _ => v = 1) 166 18420 166 18420 LAY 684 [some (.ref b), some (.ref (b0 + 0)), some (.ref (b0 + 140)), some (.int (nI n))] [] M := by
  refine L_aload_1 (q := 685) dL_law_684 rfl ?_
  refine L_elem (n := n) (k := 1) (q := 690) dL_law_685 dL_law_686 dL_law_687 dL_law_688 dL_law_689 (by decide) (by omega) hL rfl ?_
  refine L_callV1i (k := 0) (q := 693) dL_law_690 lk_L_81 rfl rfl rfl (k_X9_assignmentCount hC hk) rfl rfl (Nat.le_of_ble_eq_true rfl) ⟨(Nat.le_of_ble_eq_true rfl), (Nat.le_of_ble_eq_true rfl)⟩ ⟨(Nat.le_of_ble_eq_true rfl), (Nat.le_of_ble_eq_true rfl)⟩ rfl (fun v1 M1 hv1 => ?_)
  have hR1 := rr_keep hR hk hv1.2.1
  have ev1 := hv1.2.2
  refine L_aload_2 (q := 694) dL_law_693 rfl ?_
  refine L_elem (n := n) (k := 1) (q := 699) dL_law_694 dL_law_695 dL_law_696 dL_law_697 dL_law_698 (by decide) (by omega) hL rfl ?_
  refine L_callV1i (k := 140) (q := 702) dL_law_699 lk_L_84 rfl rfl rfl (k_X10_assignmentCount hR1 hk) rfl rfl (Nat.le_of_ble_eq_true rfl) ⟨(Nat.le_of_ble_eq_true rfl), (Nat.le_of_ble_eq_true rfl)⟩ ⟨(Nat.le_of_ble_eq_true rfl), (Nat.le_of_ble_eq_true rfl)⟩ rfl (fun v2 M2 hv2 => ?_)
  refine L_icmp_eq (t := 1357) (q := 705) dL_law_702 (by decide) rfl (fun _ => ?_) (fun z => absurd (ev1.trans hv2.2.2.symm) z)
  exact ih M2 (o_asn A (xs (n + 1))).1 (cr_keep hv1.1 hv2.2.1) hv2.1 (lok_asn hk)
theorem lok_asc {A : Ab} {x0 x1 x2 : Int32} (h : A.ok) : (o_asc A x0 x1 x2).1.ok := by
  first
  | exact h
  | (unfold o_asc; (repeat' split) <;> exact h)
theorem law_c17 {l : Launch} {G : Gd} {b0 b L n : Nat} {xs : Nat → Int32} {nm d0 : String} {M : Mem} {A : Ab} (hL : L ≤ 2048) (hn : n + 4 ≤ L) (ih : ∀ (M1 : Mem) (A1 : Ab), CR M1 A1 → RR M1 A1 → A1.ok → SL b L xs l G b0 ⟨RL, nm, d0⟩ cL_law 4 (some .boolean) room_1 LAY (fun v _ => v = 1) 166 18420 166 18420 LAY 1357 [some (.ref b), some (.ref (b0 + 0)), some (.ref (b0 + 140)), some (.int (nI n))] [] M1) (hC : CR M A) (hR : RR M A) (hk : A.ok) : SL b L xs l G b0 ⟨RL, nm, d0⟩ cL_law 4 (some .boolean) room_1 LAY (fun v _ => v = 1) 166 18420 166 18420 LAY 707 [some (.ref b), some (.ref (b0 + 0)), some (.ref (b0 + 140)), some (.int (nI n))] [] M := by
  refine L_aload_1 (q := 708) dL_law_707 rfl ?_
  refine L_elem (n := n) (k := 1) (q := 713) dL_law_708 dL_law_709 dL_law_710 dL_law_711 dL_law_712 (by decide) (by omega) hL rfl ?_
  refine L_elem (n := n) (k := 2) (q := 718) dL_law_713 dL_law_714 dL_law_715 dL_law_716 dL_law_717 (by decide) (by omega) hL rfl ?_
  refine L_elem (n := n) (k := 3) (q := 723) dL_law_718 dL_law_719 dL_law_720 dL_law_721 dL_law_722 (by decide) (by omega) hL rfl ?_
  refine L_callV3i (k := 0) (q := 726) dL_law_723 lk_L_85 rfl rfl rfl (k_X9_assignmentColor hC hk) rfl rfl (Nat.le_of_ble_eq_true rfl) ⟨(Nat.le_of_ble_eq_true rfl), (Nat.le_of_ble_eq_true rfl)⟩ ⟨(Nat.le_of_ble_eq_true rfl), (Nat.le_of_ble_eq_true rfl)⟩ rfl (fun v1 M1 hv1 => ?_)
  have hR1 := rr_keep hR hk hv1.2.1
  have ev1 := hv1.2.2
  refine L_aload_2 (q := 727) dL_law_726 rfl ?_
  refine L_elem (n := n) (k := 1) (q := 732) dL_law_727 dL_law_728 dL_law_729 dL_law_730 dL_law_731 (by decide) (by omega) hL rfl ?_
  refine L_elem (n := n) (k := 2) (q := 737) dL_law_732 dL_law_733 dL_law_734 dL_law_735 dL_law_736 (by decide) (by omega) hL rfl ?_
  refine L_elem (n := n) (k := 3) (q := 742) dL_law_737 dL_law_738 dL_law_739 dL_law_740 dL_law_741 (by decide) (by omega) hL rfl ?_
  refine L_callV3i (k := 140) (q := 745) dL_law_742 lk_L_88 rfl rfl rfl (k_X10_assignmentColor hR1 hk) rfl rfl (Nat.le_of_ble_eq_true rfl) ⟨(Nat.le_of_ble_eq_true rfl), (Nat.le_of_ble_eq_true rfl)⟩ ⟨(Nat.le_of_ble_eq_true rfl), (Nat.le_of_ble_eq_true rfl)⟩ rfl (fun v2 M2 hv2 => ?_)
  refine L_icmp_eq (t := 1357) (q := 748) dL_law_745 (by decide) rfl (fun _ => ?_) (fun z => absurd (ev1.trans hv2.2.2.symm) z)
  exact ih M2 (o_asc A (xs (n + 1)) (xs (n + 2)) (xs (n + 3))).1 (cr_keep hv1.1 hv2.2.1) hv2.1 (lok_asc hk)
theorem law_c18 {l : Launch} {G : Gd} {b0 b L n : Nat} {xs : Nat → Int32} {nm d0 : String} {M : Mem} {A : Ab} (hL : L ≤ 2048) (hn : n + 4 ≤ L) (ih : ∀ (M1 : Mem) (A1 : Ab), CR M1 A1 → RR M1 A1 → A1.ok → SL b L xs l G b0 ⟨RL, nm, d0⟩ cL_law 4 (some .boolean) room_1 LAY (fun v _ => v = 1) 166 18420 166 18420 LAY 1357 [some (.ref b), some (.ref (b0 + 0)), some (.ref (b0 + 140)), some (.int (nI n))] [] M1) (hC : CR M A) (hR : RR M A) (hk : A.ok) : SL b L xs l G b0 ⟨RL, nm, d0⟩ cL_law 4 (some .boolean) room_1 LAY (fun v _ => v = 1) 166 18420 166 18420 LAY 750 [some (.ref b), some (.ref (b0 + 0)), some (.ref (b0 + 140)), some (.int (nI n))] [] M := by
  refine L_aload_1 (q := 751) dL_law_750 rfl ?_
  refine L_elem (n := n) (k := 1) (q := 756) dL_law_751 dL_law_752 dL_law_753 dL_law_754 dL_law_755 (by decide) (by omega) hL rfl ?_
  refine L_callV1i (k := 0) (q := 759) dL_law_756 lk_L_89 rfl rfl rfl (k_X9_solveLine hC hk) rfl rfl (Nat.le_of_ble_eq_true rfl) ⟨(Nat.le_of_ble_eq_true rfl), (Nat.le_of_ble_eq_true rfl)⟩ ⟨(Nat.le_of_ble_eq_true rfl), (Nat.le_of_ble_eq_true rfl)⟩ rfl (fun v1 M1 hv1 => ?_)
  have hR1 := rr_keep hR hk hv1.2.1
  have ev1 := hv1.2.2
  refine L_aload_2 (q := 760) dL_law_759 rfl ?_
  refine L_elem (n := n) (k := 1) (q := 765) dL_law_760 dL_law_761 dL_law_762 dL_law_763 dL_law_764 (by decide) (by omega) hL rfl ?_
  refine L_callV1i (k := 140) (q := 768) dL_law_765 lk_L_92 rfl rfl rfl (k_X10_solveLine hR1 hk) rfl rfl (Nat.le_of_ble_eq_true rfl) ⟨(Nat.le_of_ble_eq_true rfl), (Nat.le_of_ble_eq_true rfl)⟩ ⟨(Nat.le_of_ble_eq_true rfl), (Nat.le_of_ble_eq_true rfl)⟩ rfl (fun v2 M2 hv2 => ?_)
  refine L_icmp_eq (t := 1357) (q := 771) dL_law_768 (by decide) rfl (fun _ => ?_) (fun z => absurd (ev1.trans hv2.2.2.symm) z)
  exact ih M2 (o_solve A (xs (n + 1))).1 (cr_keep hv1.1 hv2.2.1) hv2.1 (ok_solve hk (xs (n + 1)))
theorem law_c19 {l : Launch} {G : Gd} {b0 b L n : Nat} {xs : Nat → Int32} {nm d0 : String} {M : Mem} {A : Ab} (hL : L ≤ 2048) (hn : n + 4 ≤ L) (ih : ∀ (M1 : Mem) (A1 : Ab), CR M1 A1 → RR M1 A1 → A1.ok → SL b L xs l G b0 ⟨RL, nm, d0⟩ cL_law 4 (some .boolean) room_1 LAY (fun v _ => v = 1) 166 18420 166 18420 LAY 1357 [some (.ref b), some (.ref (b0 + 0)), some (.ref (b0 + 140)), some (.int (nI n))] [] M1) (hC : CR M A) (hR : RR M A) (hk : A.ok) : SL b L xs l G b0 ⟨RL, nm, d0⟩ cL_law 4 (some .boolean) room_1 LAY (fun v _ => v = 1) 166 18420 166 18420 LAY 773 [some (.ref b), some (.ref (b0 + 0)), some (.ref (b0 + 140)), some (.int (nI n))] [] M := by
  refine L_aload_1 (q := 774) dL_law_773 rfl ?_
  refine L_callV0i (k := 0) (q := 777) dL_law_774 lk_L_93 rfl rfl rfl (k_X9_propagate hC hk) rfl rfl (Nat.le_of_ble_eq_true rfl) ⟨(Nat.le_of_ble_eq_true rfl), (Nat.le_of_ble_eq_true rfl)⟩ ⟨(Nat.le_of_ble_eq_true rfl), (Nat.le_of_ble_eq_true rfl)⟩ rfl (fun v1 M1 hv1 => ?_)
  have hR1 := rr_keep hR hk hv1.2.1
  have ev1 := hv1.2.2
  refine L_aload_2 (q := 778) dL_law_777 rfl ?_
  refine L_callV0i (k := 140) (q := 781) dL_law_778 lk_L_96 rfl rfl rfl (k_X10_propagate hR1 hk) rfl rfl (Nat.le_of_ble_eq_true rfl) ⟨(Nat.le_of_ble_eq_true rfl), (Nat.le_of_ble_eq_true rfl)⟩ ⟨(Nat.le_of_ble_eq_true rfl), (Nat.le_of_ble_eq_true rfl)⟩ rfl (fun v2 M2 hv2 => ?_)
  refine L_icmp_eq (t := 1357) (q := 784) dL_law_781 (by decide) rfl (fun _ => ?_) (fun z => absurd (ev1.trans hv2.2.2.symm) z)
  exact ih M2 (o_prop A).1 (cr_keep hv1.1 hv2.2.1) hv2.1 (ok_prop hk)
theorem lok_pass {A : Ab} (h : A.ok) : (o_pass A).1.ok := by
  first
  | exact h
  | (unfold o_pass; (repeat' split) <;> exact h)
theorem law_c20 {l : Launch} {G : Gd} {b0 b L n : Nat} {xs : Nat → Int32} {nm d0 : String} {M : Mem} {A : Ab} (hL : L ≤ 2048) (hn : n + 4 ≤ L) (ih : ∀ (M1 : Mem) (A1 : Ab), CR M1 A1 → RR M1 A1 → A1.ok → SL b L xs l G b0 ⟨RL, nm, d0⟩ cL_law 4 (some .boolean) room_1 LAY (fun v _ => v = 1) 166 18420 166 18420 LAY 1357 [some (.ref b), some (.ref (b0 + 0)), some (.ref (b0 + 140)), some (.int (nI n))] [] M1) (hC : CR M A) (hR : RR M A) (hk : A.ok) : SL b L xs l G b0 ⟨RL, nm, d0⟩ cL_law 4 (some .boolean) room_1 LAY (fun v _ => v = 1) 166 18420 166 18420 LAY 786 [some (.ref b), some (.ref (b0 + 0)), some (.ref (b0 + 140)), some (.int (nI n))] [] M := by
  refine L_aload_1 (q := 787) dL_law_786 rfl ?_
  refine L_callV0i (k := 0) (q := 790) dL_law_787 lk_L_97 rfl rfl rfl (k_X9_passCount hC hk) rfl rfl (Nat.le_of_ble_eq_true rfl) ⟨(Nat.le_of_ble_eq_true rfl), (Nat.le_of_ble_eq_true rfl)⟩ ⟨(Nat.le_of_ble_eq_true rfl), (Nat.le_of_ble_eq_true rfl)⟩ rfl (fun v1 M1 hv1 => ?_)
  have hR1 := rr_keep hR hk hv1.2.1
  have ev1 := hv1.2.2
  refine L_aload_2 (q := 791) dL_law_790 rfl ?_
  refine L_callV0i (k := 140) (q := 794) dL_law_791 lk_L_100 rfl rfl rfl (k_X10_passCount hR1 hk) rfl rfl (Nat.le_of_ble_eq_true rfl) ⟨(Nat.le_of_ble_eq_true rfl), (Nat.le_of_ble_eq_true rfl)⟩ ⟨(Nat.le_of_ble_eq_true rfl), (Nat.le_of_ble_eq_true rfl)⟩ rfl (fun v2 M2 hv2 => ?_)
  refine L_icmp_eq (t := 1357) (q := 797) dL_law_794 (by decide) rfl (fun _ => ?_) (fun z => absurd (ev1.trans hv2.2.2.symm) z)
  exact ih M2 (o_pass A).1 (cr_keep hv1.1 hv2.2.1) hv2.1 (lok_pass hk)
theorem lok_probe {A : Ab} {x0 x1 x2 : Int32} (h : A.ok) : (o_probe A x0 x1 x2).1.ok := by
  first
  | exact h
  | (unfold o_probe; (repeat' split) <;> exact h)
theorem law_c21 {l : Launch} {G : Gd} {b0 b L n : Nat} {xs : Nat → Int32} {nm d0 : String} {M : Mem} {A : Ab} (hL : L ≤ 2048) (hn : n + 4 ≤ L) (ih : ∀ (M1 : Mem) (A1 : Ab), CR M1 A1 → RR M1 A1 → A1.ok → SL b L xs l G b0 ⟨RL, nm, d0⟩ cL_law 4 (some .boolean) room_1 LAY (fun v _ => v = 1) 166 18420 166 18420 LAY 1357 [some (.ref b), some (.ref (b0 + 0)), some (.ref (b0 + 140)), some (.int (nI n))] [] M1) (hC : CR M A) (hR : RR M A) (hk : A.ok) : SL b L xs l G b0 ⟨RL, nm, d0⟩ cL_law 4 (some .boolean) room_1 LAY (fun v _ => v = 1) 166 18420 166 18420 LAY 799 [some (.ref b), some (.ref (b0 + 0)), some (.ref (b0 + 140)), some (.int (nI n))] [] M := by
  refine L_aload_1 (q := 800) dL_law_799 rfl ?_
  refine L_elem (n := n) (k := 1) (q := 805) dL_law_800 dL_law_801 dL_law_802 dL_law_803 dL_law_804 (by decide) (by omega) hL rfl ?_
  refine L_elem (n := n) (k := 2) (q := 810) dL_law_805 dL_law_806 dL_law_807 dL_law_808 dL_law_809 (by decide) (by omega) hL rfl ?_
  refine L_elem (n := n) (k := 3) (q := 815) dL_law_810 dL_law_811 dL_law_812 dL_law_813 dL_law_814 (by decide) (by omega) hL rfl ?_
  refine L_callV3i (k := 0) (q := 818) dL_law_815 lk_L_101 rfl rfl rfl (k_X9_probe hC hk) rfl rfl (Nat.le_of_ble_eq_true rfl) ⟨(Nat.le_of_ble_eq_true rfl), (Nat.le_of_ble_eq_true rfl)⟩ ⟨(Nat.le_of_ble_eq_true rfl), (Nat.le_of_ble_eq_true rfl)⟩ rfl (fun v1 M1 hv1 => ?_)
  have hR1 := rr_keep hR hk hv1.2.1
  have ev1 := hv1.2.2
  refine L_aload_2 (q := 819) dL_law_818 rfl ?_
  refine L_elem (n := n) (k := 1) (q := 824) dL_law_819 dL_law_820 dL_law_821 dL_law_822 dL_law_823 (by decide) (by omega) hL rfl ?_
  refine L_elem (n := n) (k := 2) (q := 829) dL_law_824 dL_law_825 dL_law_826 dL_law_827 dL_law_828 (by decide) (by omega) hL rfl ?_
  refine L_elem (n := n) (k := 3) (q := 834) dL_law_829 dL_law_830 dL_law_831 dL_law_832 dL_law_833 (by decide) (by omega) hL rfl ?_
  refine L_callV3i (k := 140) (q := 837) dL_law_834 lk_L_104 rfl rfl rfl (k_X10_probe hR1 hk) rfl rfl (Nat.le_of_ble_eq_true rfl) ⟨(Nat.le_of_ble_eq_true rfl), (Nat.le_of_ble_eq_true rfl)⟩ ⟨(Nat.le_of_ble_eq_true rfl), (Nat.le_of_ble_eq_true rfl)⟩ rfl (fun v2 M2 hv2 => ?_)
  refine L_icmp_eq (t := 1357) (q := 840) dL_law_837 (by decide) rfl (fun _ => ?_) (fun z => absurd (ev1.trans hv2.2.2.symm) z)
  exact ih M2 (o_probe A (xs (n + 1)) (xs (n + 2)) (xs (n + 3))).1 (cr_keep hv1.1 hv2.2.1) hv2.1 (lok_probe hk)
theorem law_c22 {l : Launch} {G : Gd} {b0 b L n : Nat} {xs : Nat → Int32} {nm d0 : String} {M : Mem} {A : Ab} (hL : L ≤ 2048) (hn : n + 4 ≤ L) (ih : ∀ (M1 : Mem) (A1 : Ab), CR M1 A1 → RR M1 A1 → A1.ok → SL b L xs l G b0 ⟨RL, nm, d0⟩ cL_law 4 (some .boolean) room_1 LAY (fun v _ => v = 1) 166 18420 166 18420 LAY 1357 [some (.ref b), some (.ref (b0 + 0)), some (.ref (b0 + 140)), some (.int (nI n))] [] M1) (hC : CR M A) (hR : RR M A) (hk : A.ok) : SL b L xs l G b0 ⟨RL, nm, d0⟩ cL_law 4 (some .boolean) room_1 LAY (fun v _ => v = 1) 166 18420 166 18420 LAY 842 [some (.ref b), some (.ref (b0 + 0)), some (.ref (b0 + 140)), some (.int (nI n))] [] M := by
  refine L_aload_1 (q := 843) dL_law_842 rfl ?_
  refine L_callV0i (k := 0) (q := 846) dL_law_843 lk_L_105 rfl rfl rfl (k_X9_probeAll hC hk) rfl rfl (Nat.le_of_ble_eq_true rfl) ⟨(Nat.le_of_ble_eq_true rfl), (Nat.le_of_ble_eq_true rfl)⟩ ⟨(Nat.le_of_ble_eq_true rfl), (Nat.le_of_ble_eq_true rfl)⟩ rfl (fun v1 M1 hv1 => ?_)
  have hR1 := rr_keep hR hk hv1.2.1
  have ev1 := hv1.2.2
  refine L_aload_2 (q := 847) dL_law_846 rfl ?_
  refine L_callV0i (k := 140) (q := 850) dL_law_847 lk_L_108 rfl rfl rfl (k_X10_probeAll hR1 hk) rfl rfl (Nat.le_of_ble_eq_true rfl) ⟨(Nat.le_of_ble_eq_true rfl), (Nat.le_of_ble_eq_true rfl)⟩ ⟨(Nat.le_of_ble_eq_true rfl), (Nat.le_of_ble_eq_true rfl)⟩ rfl (fun v2 M2 hv2 => ?_)
  refine L_icmp_eq (t := 1357) (q := 853) dL_law_850 (by decide) rfl (fun _ => ?_) (fun z => absurd (ev1.trans hv2.2.2.symm) z)
  exact ih M2 (o_all A).1 (cr_keep hv1.1 hv2.2.1) hv2.1 (ok_all hk)
theorem lok_bl {A : Ab} (h : A.ok) : (o_bl A).1.ok := by
  first
  | exact h
  | (unfold o_bl; (repeat' split) <;> exact h)
theorem law_c23 {l : Launch} {G : Gd} {b0 b L n : Nat} {xs : Nat → Int32} {nm d0 : String} {M : Mem} {A : Ab} (hL : L ≤ 2048) (hn : n + 4 ≤ L) (ih : ∀ (M1 : Mem) (A1 : Ab), CR M1 A1 → RR M1 A1 → A1.ok → SL b L xs l G b0 ⟨RL, nm, d0⟩ cL_law 4 (some .boolean) room_1 LAY (fun v _ => v = 1) 166 18420 166 18420 LAY 1357 [some (.ref b), some (.ref (b0 + 0)), some (.ref (b0 + 140)), some (.int (nI n))] [] M1) (hC : CR M A) (hR : RR M A) (hk : A.ok) : SL b L xs l G b0 ⟨RL, nm, d0⟩ cL_law 4 (some .boolean) room_1 LAY (fun v _ => v = 1) 166 18420 166 18420 LAY 855 [some (.ref b), some (.ref (b0 + 0)), some (.ref (b0 + 140)), some (.int (nI n))] [] M := by
  refine L_aload_1 (q := 856) dL_law_855 rfl ?_
  refine L_callV0i (k := 0) (q := 859) dL_law_856 lk_L_109 rfl rfl rfl (k_X9_contradictionLine hC hk) rfl rfl (Nat.le_of_ble_eq_true rfl) ⟨(Nat.le_of_ble_eq_true rfl), (Nat.le_of_ble_eq_true rfl)⟩ ⟨(Nat.le_of_ble_eq_true rfl), (Nat.le_of_ble_eq_true rfl)⟩ rfl (fun v1 M1 hv1 => ?_)
  have hR1 := rr_keep hR hk hv1.2.1
  have ev1 := hv1.2.2
  refine L_aload_2 (q := 860) dL_law_859 rfl ?_
  refine L_callV0i (k := 140) (q := 863) dL_law_860 lk_L_112 rfl rfl rfl (k_X10_contradictionLine hR1 hk) rfl rfl (Nat.le_of_ble_eq_true rfl) ⟨(Nat.le_of_ble_eq_true rfl), (Nat.le_of_ble_eq_true rfl)⟩ ⟨(Nat.le_of_ble_eq_true rfl), (Nat.le_of_ble_eq_true rfl)⟩ rfl (fun v2 M2 hv2 => ?_)
  refine L_icmp_eq (t := 1357) (q := 866) dL_law_863 (by decide) rfl (fun _ => ?_) (fun z => absurd (ev1.trans hv2.2.2.symm) z)
  exact ih M2 (o_bl A).1 (cr_keep hv1.1 hv2.2.1) hv2.1 (lok_bl hk)
theorem lok_bd {A : Ab} (h : A.ok) : (o_bd A).1.ok := by
  first
  | exact h
  | (unfold o_bd; (repeat' split) <;> exact h)
theorem law_c24 {l : Launch} {G : Gd} {b0 b L n : Nat} {xs : Nat → Int32} {nm d0 : String} {M : Mem} {A : Ab} (hL : L ≤ 2048) (hn : n + 4 ≤ L) (ih : ∀ (M1 : Mem) (A1 : Ab), CR M1 A1 → RR M1 A1 → A1.ok → SL b L xs l G b0 ⟨RL, nm, d0⟩ cL_law 4 (some .boolean) room_1 LAY (fun v _ => v = 1) 166 18420 166 18420 LAY 1357 [some (.ref b), some (.ref (b0 + 0)), some (.ref (b0 + 140)), some (.int (nI n))] [] M1) (hC : CR M A) (hR : RR M A) (hk : A.ok) : SL b L xs l G b0 ⟨RL, nm, d0⟩ cL_law 4 (some .boolean) room_1 LAY (fun v _ => v = 1) 166 18420 166 18420 LAY 868 [some (.ref b), some (.ref (b0 + 0)), some (.ref (b0 + 140)), some (.int (nI n))] [] M := by
  refine L_aload_1 (q := 869) dL_law_868 rfl ?_
  refine L_callV0i (k := 0) (q := 872) dL_law_869 lk_L_113 rfl rfl rfl (k_X9_contradictionDepth hC hk) rfl rfl (Nat.le_of_ble_eq_true rfl) ⟨(Nat.le_of_ble_eq_true rfl), (Nat.le_of_ble_eq_true rfl)⟩ ⟨(Nat.le_of_ble_eq_true rfl), (Nat.le_of_ble_eq_true rfl)⟩ rfl (fun v1 M1 hv1 => ?_)
  have hR1 := rr_keep hR hk hv1.2.1
  have ev1 := hv1.2.2
  refine L_aload_2 (q := 873) dL_law_872 rfl ?_
  refine L_callV0i (k := 140) (q := 876) dL_law_873 lk_L_116 rfl rfl rfl (k_X10_contradictionDepth hR1 hk) rfl rfl (Nat.le_of_ble_eq_true rfl) ⟨(Nat.le_of_ble_eq_true rfl), (Nat.le_of_ble_eq_true rfl)⟩ ⟨(Nat.le_of_ble_eq_true rfl), (Nat.le_of_ble_eq_true rfl)⟩ rfl (fun v2 M2 hv2 => ?_)
  refine L_icmp_eq (t := 1357) (q := 879) dL_law_876 (by decide) rfl (fun _ => ?_) (fun z => absurd (ev1.trans hv2.2.2.symm) z)
  exact ih M2 (o_bd A).1 (cr_keep hv1.1 hv2.2.1) hv2.1 (lok_bd hk)
theorem law_c25 {l : Launch} {G : Gd} {b0 b L n : Nat} {xs : Nat → Int32} {nm d0 : String} {M : Mem} {A : Ab} (hL : L ≤ 2048) (hn : n + 4 ≤ L) (ih : ∀ (M1 : Mem) (A1 : Ab), CR M1 A1 → RR M1 A1 → A1.ok → SL b L xs l G b0 ⟨RL, nm, d0⟩ cL_law 4 (some .boolean) room_1 LAY (fun v _ => v = 1) 166 18420 166 18420 LAY 1357 [some (.ref b), some (.ref (b0 + 0)), some (.ref (b0 + 140)), some (.int (nI n))] [] M1) (hC : CR M A) (hR : RR M A) (hk : A.ok) : SL b L xs l G b0 ⟨RL, nm, d0⟩ cL_law 4 (some .boolean) room_1 LAY (fun v _ => v = 1) 166 18420 166 18420 LAY 881 [some (.ref b), some (.ref (b0 + 0)), some (.ref (b0 + 140)), some (.int (nI n))] [] M := by
  refine L_aload_1 (q := 882) dL_law_881 rfl ?_
  refine L_elem (n := n) (k := 1) (q := 887) dL_law_882 dL_law_883 dL_law_884 dL_law_885 dL_law_886 (by decide) (by omega) hL rfl ?_
  refine L_callV1i (k := 0) (q := 890) dL_law_887 lk_L_117 rfl rfl rfl (k_X9_setRule hC hk) rfl rfl (Nat.le_of_ble_eq_true rfl) ⟨(Nat.le_of_ble_eq_true rfl), (Nat.le_of_ble_eq_true rfl)⟩ ⟨(Nat.le_of_ble_eq_true rfl), (Nat.le_of_ble_eq_true rfl)⟩ rfl (fun v1 M1 hv1 => ?_)
  have hR1 := rr_keep hR hk hv1.2.1
  have ev1 := hv1.2.2
  refine L_aload_2 (q := 891) dL_law_890 rfl ?_
  refine L_elem (n := n) (k := 1) (q := 896) dL_law_891 dL_law_892 dL_law_893 dL_law_894 dL_law_895 (by decide) (by omega) hL rfl ?_
  refine L_callV1i (k := 140) (q := 899) dL_law_896 lk_L_120 rfl rfl rfl (k_X10_setRule hR1 hk) rfl rfl (Nat.le_of_ble_eq_true rfl) ⟨(Nat.le_of_ble_eq_true rfl), (Nat.le_of_ble_eq_true rfl)⟩ ⟨(Nat.le_of_ble_eq_true rfl), (Nat.le_of_ble_eq_true rfl)⟩ rfl (fun v2 M2 hv2 => ?_)
  refine L_icmp_eq (t := 1357) (q := 902) dL_law_899 (by decide) rfl (fun _ => ?_) (fun z => absurd (ev1.trans hv2.2.2.symm) z)
  exact ih M2 (o_rule A (xs (n + 1))).1 (cr_keep hv1.1 hv2.2.1) hv2.1 (ok_rule hk (xs (n + 1)))
theorem lok_cnt {A : Ab} {x0 : Int32} (h : A.ok) : (o_cnt A x0).1.ok := by
  first
  | exact h
  | (unfold o_cnt; (repeat' split) <;> exact h)
theorem law_c26 {l : Launch} {G : Gd} {b0 b L n : Nat} {xs : Nat → Int32} {nm d0 : String} {M : Mem} {A : Ab} (hL : L ≤ 2048) (hn : n + 4 ≤ L) (ih : ∀ (M1 : Mem) (A1 : Ab), CR M1 A1 → RR M1 A1 → A1.ok → SL b L xs l G b0 ⟨RL, nm, d0⟩ cL_law 4 (some .boolean) room_1 LAY (fun v _ => v = 1) 166 18420 166 18420 LAY 1357 [some (.ref b), some (.ref (b0 + 0)), some (.ref (b0 + 140)), some (.int (nI n))] [] M1) (hC : CR M A) (hR : RR M A) (hk : A.ok) : SL b L xs l G b0 ⟨RL, nm, d0⟩ cL_law 4 (some .boolean) room_1 LAY (fun v _ => v = 1) 166 18420 166 18420 LAY 904 [some (.ref b), some (.ref (b0 + 0)), some (.ref (b0 + 140)), some (.int (nI n))] [] M := by
  refine L_aload_1 (q := 905) dL_law_904 rfl ?_
  refine L_elem (n := n) (k := 1) (q := 910) dL_law_905 dL_law_906 dL_law_907 dL_law_908 dL_law_909 (by decide) (by omega) hL rfl ?_
  refine L_callV1i (k := 0) (q := 913) dL_law_910 lk_L_121 rfl rfl rfl (k_X9_countSolutions hC hk) rfl rfl (Nat.le_of_ble_eq_true rfl) ⟨(Nat.le_of_ble_eq_true rfl), (Nat.le_of_ble_eq_true rfl)⟩ ⟨(Nat.le_of_ble_eq_true rfl), (Nat.le_of_ble_eq_true rfl)⟩ rfl (fun v1 M1 hv1 => ?_)
  have hR1 := rr_keep hR hk hv1.2.1
  have ev1 := hv1.2.2
  refine L_aload_2 (q := 914) dL_law_913 rfl ?_
  refine L_elem (n := n) (k := 1) (q := 919) dL_law_914 dL_law_915 dL_law_916 dL_law_917 dL_law_918 (by decide) (by omega) hL rfl ?_
  refine L_callV1i (k := 140) (q := 922) dL_law_919 lk_L_124 rfl rfl rfl (k_X10_countSolutions hR1 hk) rfl rfl (Nat.le_of_ble_eq_true rfl) ⟨(Nat.le_of_ble_eq_true rfl), (Nat.le_of_ble_eq_true rfl)⟩ ⟨(Nat.le_of_ble_eq_true rfl), (Nat.le_of_ble_eq_true rfl)⟩ rfl (fun v2 M2 hv2 => ?_)
  refine L_icmp_eq (t := 1357) (q := 925) dL_law_922 (by decide) rfl (fun _ => ?_) (fun z => absurd (ev1.trans hv2.2.2.symm) z)
  exact ih M2 (o_cnt A (xs (n + 1))).1 (cr_keep hv1.1 hv2.2.1) hv2.1 (lok_cnt hk)
theorem lok_sol {A : Ab} {x0 x1 x2 : Int32} (h : A.ok) : (o_sol A x0 x1 x2).1.ok := by
  first
  | exact h
  | (unfold o_sol; (repeat' split) <;> exact h)
theorem law_c27 {l : Launch} {G : Gd} {b0 b L n : Nat} {xs : Nat → Int32} {nm d0 : String} {M : Mem} {A : Ab} (hL : L ≤ 2048) (hn : n + 4 ≤ L) (ih : ∀ (M1 : Mem) (A1 : Ab), CR M1 A1 → RR M1 A1 → A1.ok → SL b L xs l G b0 ⟨RL, nm, d0⟩ cL_law 4 (some .boolean) room_1 LAY (fun v _ => v = 1) 166 18420 166 18420 LAY 1357 [some (.ref b), some (.ref (b0 + 0)), some (.ref (b0 + 140)), some (.int (nI n))] [] M1) (hC : CR M A) (hR : RR M A) (hk : A.ok) : SL b L xs l G b0 ⟨RL, nm, d0⟩ cL_law 4 (some .boolean) room_1 LAY (fun v _ => v = 1) 166 18420 166 18420 LAY 927 [some (.ref b), some (.ref (b0 + 0)), some (.ref (b0 + 140)), some (.int (nI n))] [] M := by
  refine L_aload_1 (q := 928) dL_law_927 rfl ?_
  refine L_elem (n := n) (k := 1) (q := 933) dL_law_928 dL_law_929 dL_law_930 dL_law_931 dL_law_932 (by decide) (by omega) hL rfl ?_
  refine L_elem (n := n) (k := 2) (q := 938) dL_law_933 dL_law_934 dL_law_935 dL_law_936 dL_law_937 (by decide) (by omega) hL rfl ?_
  refine L_elem (n := n) (k := 3) (q := 943) dL_law_938 dL_law_939 dL_law_940 dL_law_941 dL_law_942 (by decide) (by omega) hL rfl ?_
  refine L_callV3i (k := 0) (q := 946) dL_law_943 lk_L_125 rfl rfl rfl (k_X9_solutionColor hC hk) rfl rfl (Nat.le_of_ble_eq_true rfl) ⟨(Nat.le_of_ble_eq_true rfl), (Nat.le_of_ble_eq_true rfl)⟩ ⟨(Nat.le_of_ble_eq_true rfl), (Nat.le_of_ble_eq_true rfl)⟩ rfl (fun v1 M1 hv1 => ?_)
  have hR1 := rr_keep hR hk hv1.2.1
  have ev1 := hv1.2.2
  refine L_aload_2 (q := 947) dL_law_946 rfl ?_
  refine L_elem (n := n) (k := 1) (q := 952) dL_law_947 dL_law_948 dL_law_949 dL_law_950 dL_law_951 (by decide) (by omega) hL rfl ?_
  refine L_elem (n := n) (k := 2) (q := 957) dL_law_952 dL_law_953 dL_law_954 dL_law_955 dL_law_956 (by decide) (by omega) hL rfl ?_
  refine L_elem (n := n) (k := 3) (q := 962) dL_law_957 dL_law_958 dL_law_959 dL_law_960 dL_law_961 (by decide) (by omega) hL rfl ?_
  refine L_callV3i (k := 140) (q := 965) dL_law_962 lk_L_128 rfl rfl rfl (k_X10_solutionColor hR1 hk) rfl rfl (Nat.le_of_ble_eq_true rfl) ⟨(Nat.le_of_ble_eq_true rfl), (Nat.le_of_ble_eq_true rfl)⟩ ⟨(Nat.le_of_ble_eq_true rfl), (Nat.le_of_ble_eq_true rfl)⟩ rfl (fun v2 M2 hv2 => ?_)
  refine L_icmp_eq (t := 1357) (q := 968) dL_law_965 (by decide) rfl (fun _ => ?_) (fun z => absurd (ev1.trans hv2.2.2.symm) z)
  exact ih M2 (o_sol A (xs (n + 1)) (xs (n + 2)) (xs (n + 3))).1 (cr_keep hv1.1 hv2.2.1) hv2.1 (lok_sol hk)
theorem lok_nod {A : Ab} {x0 : Int32} (h : A.ok) : (o_nod A x0).1.ok := by
  first
  | exact h
  | (unfold o_nod; (repeat' split) <;> exact h)
theorem law_c28 {l : Launch} {G : Gd} {b0 b L n : Nat} {xs : Nat → Int32} {nm d0 : String} {M : Mem} {A : Ab} (hL : L ≤ 2048) (hn : n + 4 ≤ L) (ih : ∀ (M1 : Mem) (A1 : Ab), CR M1 A1 → RR M1 A1 → A1.ok → SL b L xs l G b0 ⟨RL, nm, d0⟩ cL_law 4 (some .boolean) room_1 LAY (fun v _ => v = 1) 166 18420 166 18420 LAY 1357 [some (.ref b), some (.ref (b0 + 0)), some (.ref (b0 + 140)), some (.int (nI n))] [] M1) (hC : CR M A) (hR : RR M A) (hk : A.ok) : SL b L xs l G b0 ⟨RL, nm, d0⟩ cL_law 4 (some .boolean) room_1 LAY (fun v _ => v = 1) 166 18420 166 18420 LAY 970 [some (.ref b), some (.ref (b0 + 0)), some (.ref (b0 + 140)), some (.int (nI n))] [] M := by
  refine L_aload_1 (q := 971) dL_law_970 rfl ?_
  refine L_elem (n := n) (k := 1) (q := 976) dL_law_971 dL_law_972 dL_law_973 dL_law_974 dL_law_975 (by decide) (by omega) hL rfl ?_
  refine L_callV1i (k := 0) (q := 979) dL_law_976 lk_L_129 rfl rfl rfl (k_X9_searchNodes hC hk) rfl rfl (Nat.le_of_ble_eq_true rfl) ⟨(Nat.le_of_ble_eq_true rfl), (Nat.le_of_ble_eq_true rfl)⟩ ⟨(Nat.le_of_ble_eq_true rfl), (Nat.le_of_ble_eq_true rfl)⟩ rfl (fun v1 M1 hv1 => ?_)
  have hR1 := rr_keep hR hk hv1.2.1
  have ev1 := hv1.2.2
  refine L_aload_2 (q := 980) dL_law_979 rfl ?_
  refine L_elem (n := n) (k := 1) (q := 985) dL_law_980 dL_law_981 dL_law_982 dL_law_983 dL_law_984 (by decide) (by omega) hL rfl ?_
  refine L_callV1i (k := 140) (q := 988) dL_law_985 lk_L_132 rfl rfl rfl (k_X10_searchNodes hR1 hk) rfl rfl (Nat.le_of_ble_eq_true rfl) ⟨(Nat.le_of_ble_eq_true rfl), (Nat.le_of_ble_eq_true rfl)⟩ ⟨(Nat.le_of_ble_eq_true rfl), (Nat.le_of_ble_eq_true rfl)⟩ rfl (fun v2 M2 hv2 => ?_)
  refine L_icmp_eq (t := 1357) (q := 991) dL_law_988 (by decide) rfl (fun _ => ?_) (fun z => absurd (ev1.trans hv2.2.2.symm) z)
  exact ih M2 (o_nod A (xs (n + 1))).1 (cr_keep hv1.1 hv2.2.1) hv2.1 (lok_nod hk)
theorem lok_uniq {A : Ab} (h : A.ok) : (o_uniq A).1.ok := by
  first
  | exact h
  | (unfold o_uniq; (repeat' split) <;> exact h)
theorem law_c29 {l : Launch} {G : Gd} {b0 b L n : Nat} {xs : Nat → Int32} {nm d0 : String} {M : Mem} {A : Ab} (hL : L ≤ 2048) (hn : n + 4 ≤ L) (ih : ∀ (M1 : Mem) (A1 : Ab), CR M1 A1 → RR M1 A1 → A1.ok → SL b L xs l G b0 ⟨RL, nm, d0⟩ cL_law 4 (some .boolean) room_1 LAY (fun v _ => v = 1) 166 18420 166 18420 LAY 1357 [some (.ref b), some (.ref (b0 + 0)), some (.ref (b0 + 140)), some (.int (nI n))] [] M1) (hC : CR M A) (hR : RR M A) (hk : A.ok) : SL b L xs l G b0 ⟨RL, nm, d0⟩ cL_law 4 (some .boolean) room_1 LAY (fun v _ => v = 1) 166 18420 166 18420 LAY 993 [some (.ref b), some (.ref (b0 + 0)), some (.ref (b0 + 140)), some (.int (nI n))] [] M := by
  refine L_aload_1 (q := 994) dL_law_993 rfl ?_
  refine L_callV0i (k := 0) (q := 997) dL_law_994 lk_L_133 rfl rfl rfl (k_X9_isUnique hC hk) rfl rfl (Nat.le_of_ble_eq_true rfl) ⟨(Nat.le_of_ble_eq_true rfl), (Nat.le_of_ble_eq_true rfl)⟩ ⟨(Nat.le_of_ble_eq_true rfl), (Nat.le_of_ble_eq_true rfl)⟩ rfl (fun v1 M1 hv1 => ?_)
  have hR1 := rr_keep hR hk hv1.2.1
  have ev1 := hv1.2.2
  refine L_aload_2 (q := 998) dL_law_997 rfl ?_
  refine L_callV0i (k := 140) (q := 1001) dL_law_998 lk_L_136 rfl rfl rfl (k_X10_isUnique hR1 hk) rfl rfl (Nat.le_of_ble_eq_true rfl) ⟨(Nat.le_of_ble_eq_true rfl), (Nat.le_of_ble_eq_true rfl)⟩ ⟨(Nat.le_of_ble_eq_true rfl), (Nat.le_of_ble_eq_true rfl)⟩ rfl (fun v2 M2 hv2 => ?_)
  refine L_icmp_eq (t := 1357) (q := 1004) dL_law_1001 (by decide) rfl (fun _ => ?_) (fun z => absurd (ev1.trans hv2.2.2.symm) z)
  exact ih M2 (o_uniq A).1 (cr_keep hv1.1 hv2.2.1) hv2.1 (lok_uniq hk)
theorem lok_fm {A : Ab} (h : A.ok) : (o_fm A).1.ok := by
  first
  | exact h
  | (unfold o_fm; (repeat' split) <;> exact h)
theorem law_c30 {l : Launch} {G : Gd} {b0 b L n : Nat} {xs : Nat → Int32} {nm d0 : String} {M : Mem} {A : Ab} (hL : L ≤ 2048) (hn : n + 4 ≤ L) (ih : ∀ (M1 : Mem) (A1 : Ab), CR M1 A1 → RR M1 A1 → A1.ok → SL b L xs l G b0 ⟨RL, nm, d0⟩ cL_law 4 (some .boolean) room_1 LAY (fun v _ => v = 1) 166 18420 166 18420 LAY 1357 [some (.ref b), some (.ref (b0 + 0)), some (.ref (b0 + 140)), some (.int (nI n))] [] M1) (hC : CR M A) (hR : RR M A) (hk : A.ok) : SL b L xs l G b0 ⟨RL, nm, d0⟩ cL_law 4 (some .boolean) room_1 LAY (fun v _ => v = 1) 166 18420 166 18420 LAY 1006 [some (.ref b), some (.ref (b0 + 0)), some (.ref (b0 + 140)), some (.int (nI n))] [] M := by
  refine L_aload_1 (q := 1007) dL_law_1006 rfl ?_
  refine L_callV0i (k := 0) (q := 1010) dL_law_1007 lk_L_137 rfl rfl rfl (k_X9_firstMismatch hC hk) rfl rfl (Nat.le_of_ble_eq_true rfl) ⟨(Nat.le_of_ble_eq_true rfl), (Nat.le_of_ble_eq_true rfl)⟩ ⟨(Nat.le_of_ble_eq_true rfl), (Nat.le_of_ble_eq_true rfl)⟩ rfl (fun v1 M1 hv1 => ?_)
  have hR1 := rr_keep hR hk hv1.2.1
  have ev1 := hv1.2.2
  refine L_aload_2 (q := 1011) dL_law_1010 rfl ?_
  refine L_callV0i (k := 140) (q := 1014) dL_law_1011 lk_L_140 rfl rfl rfl (k_X10_firstMismatch hR1 hk) rfl rfl (Nat.le_of_ble_eq_true rfl) ⟨(Nat.le_of_ble_eq_true rfl), (Nat.le_of_ble_eq_true rfl)⟩ ⟨(Nat.le_of_ble_eq_true rfl), (Nat.le_of_ble_eq_true rfl)⟩ rfl (fun v2 M2 hv2 => ?_)
  refine L_icmp_eq (t := 1357) (q := 1017) dL_law_1014 (by decide) rfl (fun _ => ?_) (fun z => absurd (ev1.trans hv2.2.2.symm) z)
  exact ih M2 (o_fm A).1 (cr_keep hv1.1 hv2.2.1) hv2.1 (lok_fm hk)
theorem law_c31 {l : Launch} {G : Gd} {b0 b L n : Nat} {xs : Nat → Int32} {nm d0 : String} {M : Mem} {A : Ab} (hL : L ≤ 2048) (hn : n + 4 ≤ L) (ih : ∀ (M1 : Mem) (A1 : Ab), CR M1 A1 → RR M1 A1 → A1.ok → SL b L xs l G b0 ⟨RL, nm, d0⟩ cL_law 4 (some .boolean) room_1 LAY (fun v _ => v = 1) 166 18420 166 18420 LAY 1357 [some (.ref b), some (.ref (b0 + 0)), some (.ref (b0 + 140)), some (.int (nI n))] [] M1) (hC : CR M A) (hR : RR M A) (hk : A.ok) : SL b L xs l G b0 ⟨RL, nm, d0⟩ cL_law 4 (some .boolean) room_1 LAY (fun v _ => v = 1) 166 18420 166 18420 LAY 1019 [some (.ref b), some (.ref (b0 + 0)), some (.ref (b0 + 140)), some (.int (nI n))] [] M := by
  refine L_aload_1 (q := 1020) dL_law_1019 rfl ?_
  refine L_callV0i (k := 0) (q := 1023) dL_law_1020 lk_L_141 rfl rfl rfl (k_X9_takeClues hC hk) rfl rfl (Nat.le_of_ble_eq_true rfl) ⟨(Nat.le_of_ble_eq_true rfl), (Nat.le_of_ble_eq_true rfl)⟩ ⟨(Nat.le_of_ble_eq_true rfl), (Nat.le_of_ble_eq_true rfl)⟩ rfl (fun v1 M1 hv1 => ?_)
  have hR1 := rr_keep hR hk hv1.2.1
  have ev1 := hv1.2.2
  refine L_aload_2 (q := 1024) dL_law_1023 rfl ?_
  refine L_callV0i (k := 140) (q := 1027) dL_law_1024 lk_L_144 rfl rfl rfl (k_X10_takeClues hR1 hk) rfl rfl (Nat.le_of_ble_eq_true rfl) ⟨(Nat.le_of_ble_eq_true rfl), (Nat.le_of_ble_eq_true rfl)⟩ ⟨(Nat.le_of_ble_eq_true rfl), (Nat.le_of_ble_eq_true rfl)⟩ rfl (fun v2 M2 hv2 => ?_)
  refine L_icmp_eq (t := 1357) (q := 1030) dL_law_1027 (by decide) rfl (fun _ => ?_) (fun z => absurd (ev1.trans hv2.2.2.symm) z)
  exact ih M2 (o_take A).1 (cr_keep hv1.1 hv2.2.1) hv2.1 (ok_take hk)
theorem law_c32 {l : Launch} {G : Gd} {b0 b L n : Nat} {xs : Nat → Int32} {nm d0 : String} {M : Mem} {A : Ab} (hL : L ≤ 2048) (hn : n + 4 ≤ L) (ih : ∀ (M1 : Mem) (A1 : Ab), CR M1 A1 → RR M1 A1 → A1.ok → SL b L xs l G b0 ⟨RL, nm, d0⟩ cL_law 4 (some .boolean) room_1 LAY (fun v _ => v = 1) 166 18420 166 18420 LAY 1357 [some (.ref b), some (.ref (b0 + 0)), some (.ref (b0 + 140)), some (.int (nI n))] [] M1) (hC : CR M A) (hR : RR M A) (hk : A.ok) : SL b L xs l G b0 ⟨RL, nm, d0⟩ cL_law 4 (some .boolean) room_1 LAY (fun v _ => v = 1) 166 18420 166 18420 LAY 1032 [some (.ref b), some (.ref (b0 + 0)), some (.ref (b0 + 140)), some (.int (nI n))] [] M := by
  refine L_aload_1 (q := 1033) dL_law_1032 rfl ?_
  refine L_elem (n := n) (k := 1) (q := 1038) dL_law_1033 dL_law_1034 dL_law_1035 dL_law_1036 dL_law_1037 (by decide) (by omega) hL rfl ?_
  refine L_callV1i (k := 0) (q := 1041) dL_law_1038 lk_L_145 rfl rfl rfl (k_X9_drawPicture hC hk) rfl rfl (Nat.le_of_ble_eq_true rfl) ⟨(Nat.le_of_ble_eq_true rfl), (Nat.le_of_ble_eq_true rfl)⟩ ⟨(Nat.le_of_ble_eq_true rfl), (Nat.le_of_ble_eq_true rfl)⟩ rfl (fun v1 M1 hv1 => ?_)
  have hR1 := rr_keep hR hk hv1.2.1
  have ev1 := hv1.2.2
  refine L_aload_2 (q := 1042) dL_law_1041 rfl ?_
  refine L_elem (n := n) (k := 1) (q := 1047) dL_law_1042 dL_law_1043 dL_law_1044 dL_law_1045 dL_law_1046 (by decide) (by omega) hL rfl ?_
  refine L_callV1i (k := 140) (q := 1050) dL_law_1047 lk_L_148 rfl rfl rfl (k_X10_drawPicture hR1 hk) rfl rfl (Nat.le_of_ble_eq_true rfl) ⟨(Nat.le_of_ble_eq_true rfl), (Nat.le_of_ble_eq_true rfl)⟩ ⟨(Nat.le_of_ble_eq_true rfl), (Nat.le_of_ble_eq_true rfl)⟩ rfl (fun v2 M2 hv2 => ?_)
  refine L_icmp_eq (t := 1357) (q := 1053) dL_law_1050 (by decide) rfl (fun _ => ?_) (fun z => absurd (ev1.trans hv2.2.2.symm) z)
  exact ih M2 (o_draw A (xs (n + 1))).1 (cr_keep hv1.1 hv2.2.1) hv2.1 (ok_draw hk (xs (n + 1)))
theorem law_c33 {l : Launch} {G : Gd} {b0 b L n : Nat} {xs : Nat → Int32} {nm d0 : String} {M : Mem} {A : Ab} (hL : L ≤ 2048) (hn : n + 4 ≤ L) (ih : ∀ (M1 : Mem) (A1 : Ab), CR M1 A1 → RR M1 A1 → A1.ok → SL b L xs l G b0 ⟨RL, nm, d0⟩ cL_law 4 (some .boolean) room_1 LAY (fun v _ => v = 1) 166 18420 166 18420 LAY 1357 [some (.ref b), some (.ref (b0 + 0)), some (.ref (b0 + 140)), some (.int (nI n))] [] M1) (hC : CR M A) (hR : RR M A) (hk : A.ok) : SL b L xs l G b0 ⟨RL, nm, d0⟩ cL_law 4 (some .boolean) room_1 LAY (fun v _ => v = 1) 166 18420 166 18420 LAY 1055 [some (.ref b), some (.ref (b0 + 0)), some (.ref (b0 + 140)), some (.int (nI n))] [] M := by
  refine L_aload_1 (q := 1056) dL_law_1055 rfl ?_
  refine L_callV0i (k := 0) (q := 1059) dL_law_1056 lk_L_149 rfl rfl rfl (k_X9_clearCells hC hk) rfl rfl (Nat.le_of_ble_eq_true rfl) ⟨(Nat.le_of_ble_eq_true rfl), (Nat.le_of_ble_eq_true rfl)⟩ ⟨(Nat.le_of_ble_eq_true rfl), (Nat.le_of_ble_eq_true rfl)⟩ rfl (fun v1 M1 hv1 => ?_)
  have hR1 := rr_keep hR hk hv1.2.1
  have ev1 := hv1.2.2
  refine L_aload_2 (q := 1060) dL_law_1059 rfl ?_
  refine L_callV0i (k := 140) (q := 1063) dL_law_1060 lk_L_152 rfl rfl rfl (k_X10_clearCells hR1 hk) rfl rfl (Nat.le_of_ble_eq_true rfl) ⟨(Nat.le_of_ble_eq_true rfl), (Nat.le_of_ble_eq_true rfl)⟩ ⟨(Nat.le_of_ble_eq_true rfl), (Nat.le_of_ble_eq_true rfl)⟩ rfl (fun v2 M2 hv2 => ?_)
  refine L_icmp_eq (t := 1357) (q := 1066) dL_law_1063 (by decide) rfl (fun _ => ?_) (fun z => absurd (ev1.trans hv2.2.2.symm) z)
  exact ih M2 (o_clear A).1 (cr_keep hv1.1 hv2.2.1) hv2.1 (ok_clear hk)
theorem law_c34 {l : Launch} {G : Gd} {b0 b L n : Nat} {xs : Nat → Int32} {nm d0 : String} {M : Mem} {A : Ab} (hL : L ≤ 2048) (hn : n + 4 ≤ L) (ih : ∀ (M1 : Mem) (A1 : Ab), CR M1 A1 → RR M1 A1 → A1.ok → SL b L xs l G b0 ⟨RL, nm, d0⟩ cL_law 4 (some .boolean) room_1 LAY (fun v _ => v = 1) 166 18420 166 18420 LAY 1357 [some (.ref b), some (.ref (b0 + 0)), some (.ref (b0 + 140)), some (.int (nI n))] [] M1) (hC : CR M A) (hR : RR M A) (hk : A.ok) : SL b L xs l G b0 ⟨RL, nm, d0⟩ cL_law 4 (some .boolean) room_1 LAY (fun v _ => v = 1) 166 18420 166 18420 LAY 1068 [some (.ref b), some (.ref (b0 + 0)), some (.ref (b0 + 140)), some (.int (nI n))] [] M := by
  refine L_aload_1 (q := 1069) dL_law_1068 rfl ?_
  refine L_elem (n := n) (k := 1) (q := 1074) dL_law_1069 dL_law_1070 dL_law_1071 dL_law_1072 dL_law_1073 (by decide) (by omega) hL rfl ?_
  refine L_callV1i (k := 0) (q := 1077) dL_law_1074 lk_L_153 rfl rfl rfl (k_X9_appendText hC hk) rfl rfl (Nat.le_of_ble_eq_true rfl) ⟨(Nat.le_of_ble_eq_true rfl), (Nat.le_of_ble_eq_true rfl)⟩ ⟨(Nat.le_of_ble_eq_true rfl), (Nat.le_of_ble_eq_true rfl)⟩ rfl (fun v1 M1 hv1 => ?_)
  have hR1 := rr_keep hR hk hv1.2.1
  have ev1 := hv1.2.2
  refine L_aload_2 (q := 1078) dL_law_1077 rfl ?_
  refine L_elem (n := n) (k := 1) (q := 1083) dL_law_1078 dL_law_1079 dL_law_1080 dL_law_1081 dL_law_1082 (by decide) (by omega) hL rfl ?_
  refine L_callV1i (k := 140) (q := 1086) dL_law_1083 lk_L_156 rfl rfl rfl (k_X10_appendText hR1 hk) rfl rfl (Nat.le_of_ble_eq_true rfl) ⟨(Nat.le_of_ble_eq_true rfl), (Nat.le_of_ble_eq_true rfl)⟩ ⟨(Nat.le_of_ble_eq_true rfl), (Nat.le_of_ble_eq_true rfl)⟩ rfl (fun v2 M2 hv2 => ?_)
  refine L_icmp_eq (t := 1357) (q := 1089) dL_law_1086 (by decide) rfl (fun _ => ?_) (fun z => absurd (ev1.trans hv2.2.2.symm) z)
  exact ih M2 (o_app A (xs (n + 1))).1 (cr_keep hv1.1 hv2.2.1) hv2.1 (ok_app hk (xs (n + 1)))
theorem law_c35 {l : Launch} {G : Gd} {b0 b L n : Nat} {xs : Nat → Int32} {nm d0 : String} {M : Mem} {A : Ab} (hL : L ≤ 2048) (hn : n + 4 ≤ L) (ih : ∀ (M1 : Mem) (A1 : Ab), CR M1 A1 → RR M1 A1 → A1.ok → SL b L xs l G b0 ⟨RL, nm, d0⟩ cL_law 4 (some .boolean) room_1 LAY (fun v _ => v = 1) 166 18420 166 18420 LAY 1357 [some (.ref b), some (.ref (b0 + 0)), some (.ref (b0 + 140)), some (.int (nI n))] [] M1) (hC : CR M A) (hR : RR M A) (hk : A.ok) : SL b L xs l G b0 ⟨RL, nm, d0⟩ cL_law 4 (some .boolean) room_1 LAY (fun v _ => v = 1) 166 18420 166 18420 LAY 1091 [some (.ref b), some (.ref (b0 + 0)), some (.ref (b0 + 140)), some (.int (nI n))] [] M := by
  refine L_aload_1 (q := 1092) dL_law_1091 rfl ?_
  refine L_callV0i (k := 0) (q := 1095) dL_law_1092 lk_L_157 rfl rfl rfl (k_X9_parseClues hC hk) rfl rfl (Nat.le_of_ble_eq_true rfl) ⟨(Nat.le_of_ble_eq_true rfl), (Nat.le_of_ble_eq_true rfl)⟩ ⟨(Nat.le_of_ble_eq_true rfl), (Nat.le_of_ble_eq_true rfl)⟩ rfl (fun v1 M1 hv1 => ?_)
  have hR1 := rr_keep hR hk hv1.2.1
  have ev1 := hv1.2.2
  refine L_aload_2 (q := 1096) dL_law_1095 rfl ?_
  refine L_callV0i (k := 140) (q := 1099) dL_law_1096 lk_L_160 rfl rfl rfl (k_X10_parseClues hR1 hk) rfl rfl (Nat.le_of_ble_eq_true rfl) ⟨(Nat.le_of_ble_eq_true rfl), (Nat.le_of_ble_eq_true rfl)⟩ ⟨(Nat.le_of_ble_eq_true rfl), (Nat.le_of_ble_eq_true rfl)⟩ rfl (fun v2 M2 hv2 => ?_)
  refine L_icmp_eq (t := 1357) (q := 1102) dL_law_1099 (by decide) rfl (fun _ => ?_) (fun z => absurd (ev1.trans hv2.2.2.symm) z)
  exact ih M2 (o_parse A).1 (cr_keep hv1.1 hv2.2.1) hv2.1 (ok_parse hk)
theorem law_c36 {l : Launch} {G : Gd} {b0 b L n : Nat} {xs : Nat → Int32} {nm d0 : String} {M : Mem} {A : Ab} (hL : L ≤ 2048) (hn : n + 4 ≤ L) (ih : ∀ (M1 : Mem) (A1 : Ab), CR M1 A1 → RR M1 A1 → A1.ok → SL b L xs l G b0 ⟨RL, nm, d0⟩ cL_law 4 (some .boolean) room_1 LAY (fun v _ => v = 1) 166 18420 166 18420 LAY 1357 [some (.ref b), some (.ref (b0 + 0)), some (.ref (b0 + 140)), some (.int (nI n))] [] M1) (hC : CR M A) (hR : RR M A) (hk : A.ok) : SL b L xs l G b0 ⟨RL, nm, d0⟩ cL_law 4 (some .boolean) room_1 LAY (fun v _ => v = 1) 166 18420 166 18420 LAY 1104 [some (.ref b), some (.ref (b0 + 0)), some (.ref (b0 + 140)), some (.int (nI n))] [] M := by
  refine L_aload_1 (q := 1105) dL_law_1104 rfl ?_
  refine L_callV0i (k := 0) (q := 1108) dL_law_1105 lk_L_161 rfl rfl rfl (k_X9_formatClues hC hk) rfl rfl (Nat.le_of_ble_eq_true rfl) ⟨(Nat.le_of_ble_eq_true rfl), (Nat.le_of_ble_eq_true rfl)⟩ ⟨(Nat.le_of_ble_eq_true rfl), (Nat.le_of_ble_eq_true rfl)⟩ rfl (fun v1 M1 hv1 => ?_)
  have hR1 := rr_keep hR hk hv1.2.1
  have ev1 := hv1.2.2
  refine L_aload_2 (q := 1109) dL_law_1108 rfl ?_
  refine L_callV0i (k := 140) (q := 1112) dL_law_1109 lk_L_164 rfl rfl rfl (k_X10_formatClues hR1 hk) rfl rfl (Nat.le_of_ble_eq_true rfl) ⟨(Nat.le_of_ble_eq_true rfl), (Nat.le_of_ble_eq_true rfl)⟩ ⟨(Nat.le_of_ble_eq_true rfl), (Nat.le_of_ble_eq_true rfl)⟩ rfl (fun v2 M2 hv2 => ?_)
  refine L_icmp_eq (t := 1357) (q := 1115) dL_law_1112 (by decide) rfl (fun _ => ?_) (fun z => absurd (ev1.trans hv2.2.2.symm) z)
  exact ih M2 (o_form A).1 (cr_keep hv1.1 hv2.2.1) hv2.1 (ok_form hk)
theorem lok_fch {A : Ab} {x0 : Int32} (h : A.ok) : (o_fch A x0).1.ok := by
  first
  | exact h
  | (unfold o_fch; (repeat' split) <;> exact h)
theorem law_c37 {l : Launch} {G : Gd} {b0 b L n : Nat} {xs : Nat → Int32} {nm d0 : String} {M : Mem} {A : Ab} (hL : L ≤ 2048) (hn : n + 4 ≤ L) (ih : ∀ (M1 : Mem) (A1 : Ab), CR M1 A1 → RR M1 A1 → A1.ok → SL b L xs l G b0 ⟨RL, nm, d0⟩ cL_law 4 (some .boolean) room_1 LAY (fun v _ => v = 1) 166 18420 166 18420 LAY 1357 [some (.ref b), some (.ref (b0 + 0)), some (.ref (b0 + 140)), some (.int (nI n))] [] M1) (hC : CR M A) (hR : RR M A) (hk : A.ok) : SL b L xs l G b0 ⟨RL, nm, d0⟩ cL_law 4 (some .boolean) room_1 LAY (fun v _ => v = 1) 166 18420 166 18420 LAY 1117 [some (.ref b), some (.ref (b0 + 0)), some (.ref (b0 + 140)), some (.int (nI n))] [] M := by
  refine L_aload_1 (q := 1118) dL_law_1117 rfl ?_
  refine L_elem (n := n) (k := 1) (q := 1123) dL_law_1118 dL_law_1119 dL_law_1120 dL_law_1121 dL_law_1122 (by decide) (by omega) hL rfl ?_
  refine L_callV1i (k := 0) (q := 1126) dL_law_1123 lk_L_165 rfl rfl rfl (k_X9_formattedCharacter hC hk) rfl rfl (Nat.le_of_ble_eq_true rfl) ⟨(Nat.le_of_ble_eq_true rfl), (Nat.le_of_ble_eq_true rfl)⟩ ⟨(Nat.le_of_ble_eq_true rfl), (Nat.le_of_ble_eq_true rfl)⟩ rfl (fun v1 M1 hv1 => ?_)
  have hR1 := rr_keep hR hk hv1.2.1
  have ev1 := hv1.2.2
  refine L_aload_2 (q := 1127) dL_law_1126 rfl ?_
  refine L_elem (n := n) (k := 1) (q := 1132) dL_law_1127 dL_law_1128 dL_law_1129 dL_law_1130 dL_law_1131 (by decide) (by omega) hL rfl ?_
  refine L_callV1i (k := 140) (q := 1135) dL_law_1132 lk_L_168 rfl rfl rfl (k_X10_formattedCharacter hR1 hk) rfl rfl (Nat.le_of_ble_eq_true rfl) ⟨(Nat.le_of_ble_eq_true rfl), (Nat.le_of_ble_eq_true rfl)⟩ ⟨(Nat.le_of_ble_eq_true rfl), (Nat.le_of_ble_eq_true rfl)⟩ rfl (fun v2 M2 hv2 => ?_)
  refine L_icmp_eq (t := 1357) (q := 1138) dL_law_1135 (by decide) rfl (fun _ => ?_) (fun z => absurd (ev1.trans hv2.2.2.symm) z)
  exact ih M2 (o_fch A (xs (n + 1))).1 (cr_keep hv1.1 hv2.2.1) hv2.1 (lok_fch hk)
theorem law_c38 {l : Launch} {G : Gd} {b0 b L n : Nat} {xs : Nat → Int32} {nm d0 : String} {M : Mem} {A : Ab} (hL : L ≤ 2048) (hn : n + 4 ≤ L) (ih : ∀ (M1 : Mem) (A1 : Ab), CR M1 A1 → RR M1 A1 → A1.ok → SL b L xs l G b0 ⟨RL, nm, d0⟩ cL_law 4 (some .boolean) room_1 LAY (fun v _ => v = 1) 166 18420 166 18420 LAY 1357 [some (.ref b), some (.ref (b0 + 0)), some (.ref (b0 + 140)), some (.int (nI n))] [] M1) (hC : CR M A) (hR : RR M A) (hk : A.ok) : SL b L xs l G b0 ⟨RL, nm, d0⟩ cL_law 4 (some .boolean) room_1 LAY (fun v _ => v = 1) 166 18420 166 18420 LAY 1140 [some (.ref b), some (.ref (b0 + 0)), some (.ref (b0 + 140)), some (.int (nI n))] [] M := by
  refine L_aload_1 (q := 1141) dL_law_1140 rfl ?_
  refine L_callV0i (k := 0) (q := 1144) dL_law_1141 lk_L_169 rfl rfl rfl (k_X9_undo hC hk) rfl rfl (Nat.le_of_ble_eq_true rfl) ⟨(Nat.le_of_ble_eq_true rfl), (Nat.le_of_ble_eq_true rfl)⟩ ⟨(Nat.le_of_ble_eq_true rfl), (Nat.le_of_ble_eq_true rfl)⟩ rfl (fun v1 M1 hv1 => ?_)
  have hR1 := rr_keep hR hk hv1.2.1
  have ev1 := hv1.2.2
  refine L_aload_2 (q := 1145) dL_law_1144 rfl ?_
  refine L_callV0i (k := 140) (q := 1148) dL_law_1145 lk_L_172 rfl rfl rfl (k_X10_undo hR1 hk) rfl rfl (Nat.le_of_ble_eq_true rfl) ⟨(Nat.le_of_ble_eq_true rfl), (Nat.le_of_ble_eq_true rfl)⟩ ⟨(Nat.le_of_ble_eq_true rfl), (Nat.le_of_ble_eq_true rfl)⟩ rfl (fun v2 M2 hv2 => ?_)
  refine L_icmp_eq (t := 1357) (q := 1151) dL_law_1148 (by decide) rfl (fun _ => ?_) (fun z => absurd (ev1.trans hv2.2.2.symm) z)
  exact ih M2 (o_undo A).1 (cr_keep hv1.1 hv2.2.1) hv2.1 (ok_undo hk)
theorem law_c39 {l : Launch} {G : Gd} {b0 b L n : Nat} {xs : Nat → Int32} {nm d0 : String} {M : Mem} {A : Ab} (hL : L ≤ 2048) (hn : n + 4 ≤ L) (ih : ∀ (M1 : Mem) (A1 : Ab), CR M1 A1 → RR M1 A1 → A1.ok → SL b L xs l G b0 ⟨RL, nm, d0⟩ cL_law 4 (some .boolean) room_1 LAY (fun v _ => v = 1) 166 18420 166 18420 LAY 1357 [some (.ref b), some (.ref (b0 + 0)), some (.ref (b0 + 140)), some (.int (nI n))] [] M1) (hC : CR M A) (hR : RR M A) (hk : A.ok) : SL b L xs l G b0 ⟨RL, nm, d0⟩ cL_law 4 (some .boolean) room_1 LAY (fun v _ => v = 1) 166 18420 166 18420 LAY 1153 [some (.ref b), some (.ref (b0 + 0)), some (.ref (b0 + 140)), some (.int (nI n))] [] M := by
  refine L_aload_1 (q := 1154) dL_law_1153 rfl ?_
  refine L_callV0i (k := 0) (q := 1157) dL_law_1154 lk_L_173 rfl rfl rfl (k_X9_save hC hk) rfl rfl (Nat.le_of_ble_eq_true rfl) ⟨(Nat.le_of_ble_eq_true rfl), (Nat.le_of_ble_eq_true rfl)⟩ ⟨(Nat.le_of_ble_eq_true rfl), (Nat.le_of_ble_eq_true rfl)⟩ rfl (fun v1 M1 hv1 => ?_)
  have hR1 := rr_keep hR hk hv1.2.1
  have ev1 := hv1.2.2
  refine L_aload_2 (q := 1158) dL_law_1157 rfl ?_
  refine L_callV0i (k := 140) (q := 1161) dL_law_1158 lk_L_176 rfl rfl rfl (k_X10_save hR1 hk) rfl rfl (Nat.le_of_ble_eq_true rfl) ⟨(Nat.le_of_ble_eq_true rfl), (Nat.le_of_ble_eq_true rfl)⟩ ⟨(Nat.le_of_ble_eq_true rfl), (Nat.le_of_ble_eq_true rfl)⟩ rfl (fun v2 M2 hv2 => ?_)
  refine L_icmp_eq (t := 1357) (q := 1164) dL_law_1161 (by decide) rfl (fun _ => ?_) (fun z => absurd (ev1.trans hv2.2.2.symm) z)
  exact ih M2 (o_save A).1 (cr_keep hv1.1 hv2.2.1) hv2.1 (ok_save hk)
theorem law_c40 {l : Launch} {G : Gd} {b0 b L n : Nat} {xs : Nat → Int32} {nm d0 : String} {M : Mem} {A : Ab} (hL : L ≤ 2048) (hn : n + 4 ≤ L) (ih : ∀ (M1 : Mem) (A1 : Ab), CR M1 A1 → RR M1 A1 → A1.ok → SL b L xs l G b0 ⟨RL, nm, d0⟩ cL_law 4 (some .boolean) room_1 LAY (fun v _ => v = 1) 166 18420 166 18420 LAY 1357 [some (.ref b), some (.ref (b0 + 0)), some (.ref (b0 + 140)), some (.int (nI n))] [] M1) (hC : CR M A) (hR : RR M A) (hk : A.ok) : SL b L xs l G b0 ⟨RL, nm, d0⟩ cL_law 4 (some .boolean) room_1 LAY (fun v _ => v = 1) 166 18420 166 18420 LAY 1166 [some (.ref b), some (.ref (b0 + 0)), some (.ref (b0 + 140)), some (.int (nI n))] [] M := by
  refine L_aload_1 (q := 1167) dL_law_1166 rfl ?_
  refine L_callV0i (k := 0) (q := 1170) dL_law_1167 lk_L_177 rfl rfl rfl (k_X9_restore hC hk) rfl rfl (Nat.le_of_ble_eq_true rfl) ⟨(Nat.le_of_ble_eq_true rfl), (Nat.le_of_ble_eq_true rfl)⟩ ⟨(Nat.le_of_ble_eq_true rfl), (Nat.le_of_ble_eq_true rfl)⟩ rfl (fun v1 M1 hv1 => ?_)
  have hR1 := rr_keep hR hk hv1.2.1
  have ev1 := hv1.2.2
  refine L_aload_2 (q := 1171) dL_law_1170 rfl ?_
  refine L_callV0i (k := 140) (q := 1174) dL_law_1171 lk_L_180 rfl rfl rfl (k_X10_restore hR1 hk) rfl rfl (Nat.le_of_ble_eq_true rfl) ⟨(Nat.le_of_ble_eq_true rfl), (Nat.le_of_ble_eq_true rfl)⟩ ⟨(Nat.le_of_ble_eq_true rfl), (Nat.le_of_ble_eq_true rfl)⟩ rfl (fun v2 M2 hv2 => ?_)
  refine L_icmp_eq (t := 1357) (q := 1177) dL_law_1174 (by decide) rfl (fun _ => ?_) (fun z => absurd (ev1.trans hv2.2.2.symm) z)
  exact ih M2 (o_rest A).1 (cr_keep hv1.1 hv2.2.1) hv2.1 (ok_rest hk)
theorem law_c41 {l : Launch} {G : Gd} {b0 b L n : Nat} {xs : Nat → Int32} {nm d0 : String} {M : Mem} {A : Ab} (hL : L ≤ 2048) (hn : n + 4 ≤ L) (ih : ∀ (M1 : Mem) (A1 : Ab), CR M1 A1 → RR M1 A1 → A1.ok → SL b L xs l G b0 ⟨RL, nm, d0⟩ cL_law 4 (some .boolean) room_1 LAY (fun v _ => v = 1) 166 18420 166 18420 LAY 1357 [some (.ref b), some (.ref (b0 + 0)), some (.ref (b0 + 140)), some (.int (nI n))] [] M1) (hC : CR M A) (hR : RR M A) (hk : A.ok) : SL b L xs l G b0 ⟨RL, nm, d0⟩ cL_law 4 (some .boolean) room_1 LAY (fun v _ => v = 1) 166 18420 166 18420 LAY 1179 [some (.ref b), some (.ref (b0 + 0)), some (.ref (b0 + 140)), some (.int (nI n))] [] M := by
  refine L_aload_1 (q := 1180) dL_law_1179 rfl ?_
  refine L_elem (n := n) (k := 1) (q := 1185) dL_law_1180 dL_law_1181 dL_law_1182 dL_law_1183 dL_law_1184 (by decide) (by omega) hL rfl ?_
  refine L_elem (n := n) (k := 2) (q := 1190) dL_law_1185 dL_law_1186 dL_law_1187 dL_law_1188 dL_law_1189 (by decide) (by omega) hL rfl ?_
  refine L_elem (n := n) (k := 3) (q := 1195) dL_law_1190 dL_law_1191 dL_law_1192 dL_law_1193 dL_law_1194 (by decide) (by omega) hL rfl ?_
  refine L_callV3i (k := 0) (q := 1198) dL_law_1195 lk_L_181 rfl rfl rfl (k_X9_createTable hC hk) rfl rfl (Nat.le_of_ble_eq_true rfl) ⟨(Nat.le_of_ble_eq_true rfl), (Nat.le_of_ble_eq_true rfl)⟩ ⟨(Nat.le_of_ble_eq_true rfl), (Nat.le_of_ble_eq_true rfl)⟩ rfl (fun v1 M1 hv1 => ?_)
  have hR1 := rr_keep hR hk hv1.2.1
  have ev1 := hv1.2.2
  refine L_aload_2 (q := 1199) dL_law_1198 rfl ?_
  refine L_elem (n := n) (k := 1) (q := 1204) dL_law_1199 dL_law_1200 dL_law_1201 dL_law_1202 dL_law_1203 (by decide) (by omega) hL rfl ?_
  refine L_elem (n := n) (k := 2) (q := 1209) dL_law_1204 dL_law_1205 dL_law_1206 dL_law_1207 dL_law_1208 (by decide) (by omega) hL rfl ?_
  refine L_elem (n := n) (k := 3) (q := 1214) dL_law_1209 dL_law_1210 dL_law_1211 dL_law_1212 dL_law_1213 (by decide) (by omega) hL rfl ?_
  refine L_callV3i (k := 140) (q := 1217) dL_law_1214 lk_L_184 rfl rfl rfl (k_X10_createTable hR1 hk) rfl rfl (Nat.le_of_ble_eq_true rfl) ⟨(Nat.le_of_ble_eq_true rfl), (Nat.le_of_ble_eq_true rfl)⟩ ⟨(Nat.le_of_ble_eq_true rfl), (Nat.le_of_ble_eq_true rfl)⟩ rfl (fun v2 M2 hv2 => ?_)
  refine L_icmp_eq (t := 1357) (q := 1220) dL_law_1217 (by decide) rfl (fun _ => ?_) (fun z => absurd (ev1.trans hv2.2.2.symm) z)
  exact ih M2 (o_ctab A (xs (n + 1)) (xs (n + 2)) (xs (n + 3))).1 (cr_keep hv1.1 hv2.2.1) hv2.1 (ok_ctab hk (xs (n + 1)) (xs (n + 2)) (xs (n + 3)))
theorem law_c42 {l : Launch} {G : Gd} {b0 b L n : Nat} {xs : Nat → Int32} {nm d0 : String} {M : Mem} {A : Ab} (hL : L ≤ 2048) (hn : n + 4 ≤ L) (ih : ∀ (M1 : Mem) (A1 : Ab), CR M1 A1 → RR M1 A1 → A1.ok → SL b L xs l G b0 ⟨RL, nm, d0⟩ cL_law 4 (some .boolean) room_1 LAY (fun v _ => v = 1) 166 18420 166 18420 LAY 1357 [some (.ref b), some (.ref (b0 + 0)), some (.ref (b0 + 140)), some (.int (nI n))] [] M1) (hC : CR M A) (hR : RR M A) (hk : A.ok) : SL b L xs l G b0 ⟨RL, nm, d0⟩ cL_law 4 (some .boolean) room_1 LAY (fun v _ => v = 1) 166 18420 166 18420 LAY 1222 [some (.ref b), some (.ref (b0 + 0)), some (.ref (b0 + 140)), some (.int (nI n))] [] M := by
  refine L_aload_1 (q := 1223) dL_law_1222 rfl ?_
  refine L_elem (n := n) (k := 1) (q := 1228) dL_law_1223 dL_law_1224 dL_law_1225 dL_law_1226 dL_law_1227 (by decide) (by omega) hL rfl ?_
  refine L_elem (n := n) (k := 2) (q := 1233) dL_law_1228 dL_law_1229 dL_law_1230 dL_law_1231 dL_law_1232 (by decide) (by omega) hL rfl ?_
  refine L_elem (n := n) (k := 3) (q := 1238) dL_law_1233 dL_law_1234 dL_law_1235 dL_law_1236 dL_law_1237 (by decide) (by omega) hL rfl ?_
  refine L_callV3i (k := 0) (q := 1241) dL_law_1238 lk_L_185 rfl rfl rfl (k_X9_writeTable hC hk) rfl rfl (Nat.le_of_ble_eq_true rfl) ⟨(Nat.le_of_ble_eq_true rfl), (Nat.le_of_ble_eq_true rfl)⟩ ⟨(Nat.le_of_ble_eq_true rfl), (Nat.le_of_ble_eq_true rfl)⟩ rfl (fun v1 M1 hv1 => ?_)
  have hR1 := rr_keep hR hk hv1.2.1
  have ev1 := hv1.2.2
  refine L_aload_2 (q := 1242) dL_law_1241 rfl ?_
  refine L_elem (n := n) (k := 1) (q := 1247) dL_law_1242 dL_law_1243 dL_law_1244 dL_law_1245 dL_law_1246 (by decide) (by omega) hL rfl ?_
  refine L_elem (n := n) (k := 2) (q := 1252) dL_law_1247 dL_law_1248 dL_law_1249 dL_law_1250 dL_law_1251 (by decide) (by omega) hL rfl ?_
  refine L_elem (n := n) (k := 3) (q := 1257) dL_law_1252 dL_law_1253 dL_law_1254 dL_law_1255 dL_law_1256 (by decide) (by omega) hL rfl ?_
  refine L_callV3i (k := 140) (q := 1260) dL_law_1257 lk_L_188 rfl rfl rfl (k_X10_writeTable hR1 hk) rfl rfl (Nat.le_of_ble_eq_true rfl) ⟨(Nat.le_of_ble_eq_true rfl), (Nat.le_of_ble_eq_true rfl)⟩ ⟨(Nat.le_of_ble_eq_true rfl), (Nat.le_of_ble_eq_true rfl)⟩ rfl (fun v2 M2 hv2 => ?_)
  refine L_icmp_eq (t := 1357) (q := 1263) dL_law_1260 (by decide) rfl (fun _ => ?_) (fun z => absurd (ev1.trans hv2.2.2.symm) z)
  exact ih M2 (o_wtab A (xs (n + 1)) (xs (n + 2)) (xs (n + 3))).1 (cr_keep hv1.1 hv2.2.1) hv2.1 (ok_wtab hk (xs (n + 1)) (xs (n + 2)) (xs (n + 3)))
theorem lok_rtab {A : Ab} {x0 x1 : Int32} (h : A.ok) : (o_rtab A x0 x1).1.ok := by
  first
  | exact h
  | (unfold o_rtab; (repeat' split) <;> exact h)
theorem law_c43 {l : Launch} {G : Gd} {b0 b L n : Nat} {xs : Nat → Int32} {nm d0 : String} {M : Mem} {A : Ab} (hL : L ≤ 2048) (hn : n + 4 ≤ L) (ih : ∀ (M1 : Mem) (A1 : Ab), CR M1 A1 → RR M1 A1 → A1.ok → SL b L xs l G b0 ⟨RL, nm, d0⟩ cL_law 4 (some .boolean) room_1 LAY (fun v _ => v = 1) 166 18420 166 18420 LAY 1357 [some (.ref b), some (.ref (b0 + 0)), some (.ref (b0 + 140)), some (.int (nI n))] [] M1) (hC : CR M A) (hR : RR M A) (hk : A.ok) : SL b L xs l G b0 ⟨RL, nm, d0⟩ cL_law 4 (some .boolean) room_1 LAY (fun v _ => v = 1) 166 18420 166 18420 LAY 1265 [some (.ref b), some (.ref (b0 + 0)), some (.ref (b0 + 140)), some (.int (nI n))] [] M := by
  refine L_aload_1 (q := 1266) dL_law_1265 rfl ?_
  refine L_elem (n := n) (k := 1) (q := 1271) dL_law_1266 dL_law_1267 dL_law_1268 dL_law_1269 dL_law_1270 (by decide) (by omega) hL rfl ?_
  refine L_elem (n := n) (k := 2) (q := 1276) dL_law_1271 dL_law_1272 dL_law_1273 dL_law_1274 dL_law_1275 (by decide) (by omega) hL rfl ?_
  refine L_callV2i (k := 0) (q := 1279) dL_law_1276 lk_L_189 rfl rfl rfl (k_X9_readTable hC hk) rfl rfl (Nat.le_of_ble_eq_true rfl) ⟨(Nat.le_of_ble_eq_true rfl), (Nat.le_of_ble_eq_true rfl)⟩ ⟨(Nat.le_of_ble_eq_true rfl), (Nat.le_of_ble_eq_true rfl)⟩ rfl (fun v1 M1 hv1 => ?_)
  have hR1 := rr_keep hR hk hv1.2.1
  have ev1 := hv1.2.2
  refine L_aload_2 (q := 1280) dL_law_1279 rfl ?_
  refine L_elem (n := n) (k := 1) (q := 1285) dL_law_1280 dL_law_1281 dL_law_1282 dL_law_1283 dL_law_1284 (by decide) (by omega) hL rfl ?_
  refine L_elem (n := n) (k := 2) (q := 1290) dL_law_1285 dL_law_1286 dL_law_1287 dL_law_1288 dL_law_1289 (by decide) (by omega) hL rfl ?_
  refine L_callV2i (k := 140) (q := 1293) dL_law_1290 lk_L_192 rfl rfl rfl (k_X10_readTable hR1 hk) rfl rfl (Nat.le_of_ble_eq_true rfl) ⟨(Nat.le_of_ble_eq_true rfl), (Nat.le_of_ble_eq_true rfl)⟩ ⟨(Nat.le_of_ble_eq_true rfl), (Nat.le_of_ble_eq_true rfl)⟩ rfl (fun v2 M2 hv2 => ?_)
  refine L_icmp_eq (t := 1357) (q := 1296) dL_law_1293 (by decide) rfl (fun _ => ?_) (fun z => absurd (ev1.trans hv2.2.2.symm) z)
  exact ih M2 (o_rtab A (xs (n + 1)) (xs (n + 2))).1 (cr_keep hv1.1 hv2.2.1) hv2.1 (lok_rtab hk)
theorem law_c44 {l : Launch} {G : Gd} {b0 b L n : Nat} {xs : Nat → Int32} {nm d0 : String} {M : Mem} {A : Ab} (hL : L ≤ 2048) (hn : n + 4 ≤ L) (ih : ∀ (M1 : Mem) (A1 : Ab), CR M1 A1 → RR M1 A1 → A1.ok → SL b L xs l G b0 ⟨RL, nm, d0⟩ cL_law 4 (some .boolean) room_1 LAY (fun v _ => v = 1) 166 18420 166 18420 LAY 1357 [some (.ref b), some (.ref (b0 + 0)), some (.ref (b0 + 140)), some (.int (nI n))] [] M1) (hC : CR M A) (hR : RR M A) (hk : A.ok) : SL b L xs l G b0 ⟨RL, nm, d0⟩ cL_law 4 (some .boolean) room_1 LAY (fun v _ => v = 1) 166 18420 166 18420 LAY 1298 [some (.ref b), some (.ref (b0 + 0)), some (.ref (b0 + 140)), some (.int (nI n))] [] M := by
  refine L_aload_1 (q := 1299) dL_law_1298 rfl ?_
  refine L_elem (n := n) (k := 1) (q := 1304) dL_law_1299 dL_law_1300 dL_law_1301 dL_law_1302 dL_law_1303 (by decide) (by omega) hL rfl ?_
  refine L_callV1i (k := 0) (q := 1307) dL_law_1304 lk_L_193 rfl rfl rfl (k_X9_exportCandidates hC hk) rfl rfl (Nat.le_of_ble_eq_true rfl) ⟨(Nat.le_of_ble_eq_true rfl), (Nat.le_of_ble_eq_true rfl)⟩ ⟨(Nat.le_of_ble_eq_true rfl), (Nat.le_of_ble_eq_true rfl)⟩ rfl (fun v1 M1 hv1 => ?_)
  have hR1 := rr_keep hR hk hv1.2.1
  have ev1 := hv1.2.2
  refine L_aload_2 (q := 1308) dL_law_1307 rfl ?_
  refine L_elem (n := n) (k := 1) (q := 1313) dL_law_1308 dL_law_1309 dL_law_1310 dL_law_1311 dL_law_1312 (by decide) (by omega) hL rfl ?_
  refine L_callV1i (k := 140) (q := 1316) dL_law_1313 lk_L_196 rfl rfl rfl (k_X10_exportCandidates hR1 hk) rfl rfl (Nat.le_of_ble_eq_true rfl) ⟨(Nat.le_of_ble_eq_true rfl), (Nat.le_of_ble_eq_true rfl)⟩ ⟨(Nat.le_of_ble_eq_true rfl), (Nat.le_of_ble_eq_true rfl)⟩ rfl (fun v2 M2 hv2 => ?_)
  refine L_icmp_eq (t := 1357) (q := 1319) dL_law_1316 (by decide) rfl (fun _ => ?_) (fun z => absurd (ev1.trans hv2.2.2.symm) z)
  exact ih M2 (o_exp A (xs (n + 1))).1 (cr_keep hv1.1 hv2.2.1) hv2.1 (ok_exp hk (xs (n + 1)))
theorem lok_cmp {A : Ab} {x0 : Int32} (h : A.ok) : (o_cmp A x0).1.ok := by
  first
  | exact h
  | (unfold o_cmp; (repeat' split) <;> exact h)
theorem law_c45 {l : Launch} {G : Gd} {b0 b L n : Nat} {xs : Nat → Int32} {nm d0 : String} {M : Mem} {A : Ab} (hL : L ≤ 2048) (hn : n + 4 ≤ L) (ih : ∀ (M1 : Mem) (A1 : Ab), CR M1 A1 → RR M1 A1 → A1.ok → SL b L xs l G b0 ⟨RL, nm, d0⟩ cL_law 4 (some .boolean) room_1 LAY (fun v _ => v = 1) 166 18420 166 18420 LAY 1357 [some (.ref b), some (.ref (b0 + 0)), some (.ref (b0 + 140)), some (.int (nI n))] [] M1) (hC : CR M A) (hR : RR M A) (hk : A.ok) : SL b L xs l G b0 ⟨RL, nm, d0⟩ cL_law 4 (some .boolean) room_1 LAY (fun v _ => v = 1) 166 18420 166 18420 LAY 1321 [some (.ref b), some (.ref (b0 + 0)), some (.ref (b0 + 140)), some (.int (nI n))] [] M := by
  refine L_aload_1 (q := 1322) dL_law_1321 rfl ?_
  refine L_elem (n := n) (k := 1) (q := 1327) dL_law_1322 dL_law_1323 dL_law_1324 dL_law_1325 dL_law_1326 (by decide) (by omega) hL rfl ?_
  refine L_callV1i (k := 0) (q := 1330) dL_law_1327 lk_L_197 rfl rfl rfl (k_X9_compareTable hC hk) rfl rfl (Nat.le_of_ble_eq_true rfl) ⟨(Nat.le_of_ble_eq_true rfl), (Nat.le_of_ble_eq_true rfl)⟩ ⟨(Nat.le_of_ble_eq_true rfl), (Nat.le_of_ble_eq_true rfl)⟩ rfl (fun v1 M1 hv1 => ?_)
  have hR1 := rr_keep hR hk hv1.2.1
  have ev1 := hv1.2.2
  refine L_aload_2 (q := 1331) dL_law_1330 rfl ?_
  refine L_elem (n := n) (k := 1) (q := 1336) dL_law_1331 dL_law_1332 dL_law_1333 dL_law_1334 dL_law_1335 (by decide) (by omega) hL rfl ?_
  refine L_callV1i (k := 140) (q := 1339) dL_law_1336 lk_L_200 rfl rfl rfl (k_X10_compareTable hR1 hk) rfl rfl (Nat.le_of_ble_eq_true rfl) ⟨(Nat.le_of_ble_eq_true rfl), (Nat.le_of_ble_eq_true rfl)⟩ ⟨(Nat.le_of_ble_eq_true rfl), (Nat.le_of_ble_eq_true rfl)⟩ rfl (fun v2 M2 hv2 => ?_)
  refine L_icmp_eq (t := 1357) (q := 1342) dL_law_1339 (by decide) rfl (fun _ => ?_) (fun z => absurd (ev1.trans hv2.2.2.symm) z)
  exact ih M2 (o_cmp A (xs (n + 1))).1 (cr_keep hv1.1 hv2.2.1) hv2.1 (lok_cmp hk)
theorem lok_uc {A : Ab} (h : A.ok) : (o_uc A).1.ok := by
  first
  | exact h
  | (unfold o_uc; (repeat' split) <;> exact h)
theorem law_c46 {l : Launch} {G : Gd} {b0 b L n : Nat} {xs : Nat → Int32} {nm d0 : String} {M : Mem} {A : Ab} (hL : L ≤ 2048) (hn : n + 4 ≤ L) (ih : ∀ (M1 : Mem) (A1 : Ab), CR M1 A1 → RR M1 A1 → A1.ok → SL b L xs l G b0 ⟨RL, nm, d0⟩ cL_law 4 (some .boolean) room_1 LAY (fun v _ => v = 1) 166 18420 166 18420 LAY 1357 [some (.ref b), some (.ref (b0 + 0)), some (.ref (b0 + 140)), some (.int (nI n))] [] M1) (hC : CR M A) (hR : RR M A) (hk : A.ok) : SL b L xs l G b0 ⟨RL, nm, d0⟩ cL_law 4 (some .boolean) room_1 LAY (fun v _ => v = 1) 166 18420 166 18420 LAY 1344 [some (.ref b), some (.ref (b0 + 0)), some (.ref (b0 + 140)), some (.int (nI n))] [] M := by
  refine L_aload_1 (q := 1345) dL_law_1344 rfl ?_
  refine L_callV0i (k := 0) (q := 1348) dL_law_1345 lk_L_201 rfl rfl rfl (k_X9_undoCount hC hk) rfl rfl (Nat.le_of_ble_eq_true rfl) ⟨(Nat.le_of_ble_eq_true rfl), (Nat.le_of_ble_eq_true rfl)⟩ ⟨(Nat.le_of_ble_eq_true rfl), (Nat.le_of_ble_eq_true rfl)⟩ rfl (fun v1 M1 hv1 => ?_)
  have hR1 := rr_keep hR hk hv1.2.1
  have ev1 := hv1.2.2
  refine L_aload_2 (q := 1349) dL_law_1348 rfl ?_
  refine L_callV0i (k := 140) (q := 1352) dL_law_1349 lk_L_204 rfl rfl rfl (k_X10_undoCount hR1 hk) rfl rfl (Nat.le_of_ble_eq_true rfl) ⟨(Nat.le_of_ble_eq_true rfl), (Nat.le_of_ble_eq_true rfl)⟩ ⟨(Nat.le_of_ble_eq_true rfl), (Nat.le_of_ble_eq_true rfl)⟩ rfl (fun v2 M2 hv2 => ?_)
  refine L_icmp_eq (t := 1357) (q := 1355) dL_law_1352 (by decide) rfl (fun _ => ?_) (fun z => absurd (ev1.trans hv2.2.2.symm) z)
  exact ih M2 (o_uc A).1 (cr_keep hv1.1 hv2.2.1) hv2.1 (lok_uc hk)
theorem law_loop {l : Launch} {G : Gd} {b0 b L : Nat} {xs : Nat → Int32} {nm d0 : String} (hL : L ≤ 2048) : ∀ (d n : Nat), L + 4 - n = d → n ≤ L + 4 → ∀ (M : Mem) (A : Ab), CR M A → RR M A → A.ok → SL b L xs l G b0 ⟨RL, nm, d0⟩ cL_law 4 (some .boolean) room_1 LAY (fun v _ => v = 1) 166 18420 166 18420 LAY 18 [some (.ref b), some (.ref (b0 + 0)), some (.ref (b0 + 140)), some (.int (nI n))] [] M := by
  intro d
  induction d using Nat.strongRecOn with
  | _ d IH =>
    intro n hd9 hn9 M A hC hR hk
    refine L_iload_3 (q := 19) dL_law_18 rfl ?_
    refine L_aload_0 (q := 20) dL_law_19 rfl ?_
    refine L_slen (q := 21) dL_law_20 rfl ?_
    refine L_iconst (q := 22) (nI 4) dL_law_21 (by decide) rfl ?_
    refine L_isub (q := 23) dL_law_22 rfl ?_
    refine L_icmp_gt (t := 1363) (q := 26) dL_law_23 (by decide) rfl (fun _ => ?_) (fun hb => ?_)
    · refine L_iconst (q := 1364) 1 dL_law_1363 (by decide) rfl ?_
      exact L_iret (ty := .boolean) rfl dL_law_1364 (by decide) rfl rfl
    · have hn : n + 4 ≤ L := ib_sub hL (by omega) hb
      refine L_aload_0 (q := 27) dL_law_26 rfl ?_
      refine L_iload_3 (q := 28) dL_law_27 rfl ?_
      refine L_sld (q := 29) dL_law_28 rfl (by omega) hL rfl ?_
      refine L_bipush (q := 31) (nI 63) dL_law_29 (by decide) rfl ?_
      refine L_iand (q := 32) dL_law_31 rfl ?_
      have ih : ∀ (M1 : Mem) (A1 : Ab), CR M1 A1 → RR M1 A1 → A1.ok → SL b L xs l G b0 ⟨RL, nm, d0⟩ cL_law 4 (some .boolean) room_1 LAY (fun v _ => v = 1) 166 18420 166 18420 LAY 1357 [some (.ref b), some (.ref (b0 + 0)), some (.ref (b0 + 140)), some (.int (nI n))] [] M1 := by
        intro M1 A1 c1 c2 c3
        refine L_iinc_3 (q := 1360) (nI (n + 4)) dL_law_1357 (nI_add n 4) rfl ?_
        refine L_goto (t := 18) dL_law_1360 (by decide) ?_
        exact IH (L + 4 - (n + 4)) (by omega) (n + 4) rfl (by omega) M1 A1 c1 c2 c3
      generalize xs n &&& nI 63 = x
      by_cases hx : x.toInt < 0 ∨ 46 < x.toInt
      · exact L_tout (tgt := 1357) dL_law_32 hx (by decide) (ih M A hC hR hk)
      · obtain ⟨j, hj⟩ : ∃ j : Nat, x.toInt = (j : Int) := ⟨x.toInt.toNat, by omega⟩
        rcases (show j = 0 ∨ j = 1 ∨ j = 2 ∨ j = 3 ∨ j = 4 ∨ j = 5 ∨ j = 6 ∨ j = 7 ∨ j = 8 ∨ j = 9 ∨ j = 10 ∨ j = 11 ∨ j = 12 ∨ j = 13 ∨ j = 14 ∨ j = 15 ∨ j = 16 ∨ j = 17 ∨ j = 18 ∨ j = 19 ∨ j = 20 ∨ j = 21 ∨ j = 22 ∨ j = 23 ∨ j = 24 ∨ j = 25 ∨ j = 26 ∨ j = 27 ∨ j = 28 ∨ j = 29 ∨ j = 30 ∨ j = 31 ∨ j = 32 ∨ j = 33 ∨ j = 34 ∨ j = 35 ∨ j = 36 ∨ j = 37 ∨ j = 38 ∨ j = 39 ∨ j = 40 ∨ j = 41 ∨ j = 42 ∨ j = 43 ∨ j = 44 ∨ j = 45 ∨ j = 46 by omega) with rfl | rfl | rfl | rfl | rfl | rfl | rfl | rfl | rfl | rfl | rfl | rfl | rfl | rfl | rfl | rfl | rfl | rfl | rfl | rfl | rfl | rfl | rfl | rfl | rfl | rfl | rfl | rfl | rfl | rfl | rfl | rfl | rfl | rfl | rfl | rfl | rfl | rfl | rfl | rfl | rfl | rfl | rfl | rfl | rfl | rfl | rfl
        · exact L_tin (off := 204) (tgt := 236) dL_law_32 (by rw [hj]; decide) (by rw [hj]; decide) (by rw [hj]; rfl) (by decide) (law_c0 hL hn ih hC hR hk)
        · exact L_tin (off := 247) (tgt := 279) dL_law_32 (by rw [hj]; decide) (by rw [hj]; decide) (by rw [hj]; rfl) (by decide) (law_c1 hL hn ih hC hR hk)
        · exact L_tin (off := 260) (tgt := 292) dL_law_32 (by rw [hj]; decide) (by rw [hj]; decide) (by rw [hj]; rfl) (by decide) (law_c2 hL hn ih hC hR hk)
        · exact L_tin (off := 273) (tgt := 305) dL_law_32 (by rw [hj]; decide) (by rw [hj]; decide) (by rw [hj]; rfl) (by decide) (law_c3 hL hn ih hC hR hk)
        · exact L_tin (off := 286) (tgt := 318) dL_law_32 (by rw [hj]; decide) (by rw [hj]; decide) (by rw [hj]; rfl) (by decide) (law_c4 hL hn ih hC hR hk)
        · exact L_tin (off := 329) (tgt := 361) dL_law_32 (by rw [hj]; decide) (by rw [hj]; decide) (by rw [hj]; rfl) (by decide) (law_c5 hL hn ih hC hR hk)
        · exact L_tin (off := 352) (tgt := 384) dL_law_32 (by rw [hj]; decide) (by rw [hj]; decide) (by rw [hj]; rfl) (by decide) (law_c6 hL hn ih hC hR hk)
        · exact L_tin (off := 375) (tgt := 407) dL_law_32 (by rw [hj]; decide) (by rw [hj]; decide) (by rw [hj]; rfl) (by decide) (law_c7 hL hn ih hC hR hk)
        · exact L_tin (off := 408) (tgt := 440) dL_law_32 (by rw [hj]; decide) (by rw [hj]; decide) (by rw [hj]; rfl) (by decide) (law_c8 hL hn ih hC hR hk)
        · exact L_tin (off := 441) (tgt := 473) dL_law_32 (by rw [hj]; decide) (by rw [hj]; decide) (by rw [hj]; rfl) (by decide) (law_c9 hL hn ih hC hR hk)
        · exact L_tin (off := 464) (tgt := 496) dL_law_32 (by rw [hj]; decide) (by rw [hj]; decide) (by rw [hj]; rfl) (by decide) (law_c10 hL hn ih hC hR hk)
        · exact L_tin (off := 497) (tgt := 529) dL_law_32 (by rw [hj]; decide) (by rw [hj]; decide) (by rw [hj]; rfl) (by decide) (law_c11 hL hn ih hC hR hk)
        · exact L_tin (off := 530) (tgt := 562) dL_law_32 (by rw [hj]; decide) (by rw [hj]; decide) (by rw [hj]; rfl) (by decide) (law_c12 hL hn ih hC hR hk)
        · exact L_tin (off := 573) (tgt := 605) dL_law_32 (by rw [hj]; decide) (by rw [hj]; decide) (by rw [hj]; rfl) (by decide) (law_c13 hL hn ih hC hR hk)
        · exact L_tin (off := 616) (tgt := 648) dL_law_32 (by rw [hj]; decide) (by rw [hj]; decide) (by rw [hj]; rfl) (by decide) (law_c14 hL hn ih hC hR hk)
        · exact L_tin (off := 629) (tgt := 661) dL_law_32 (by rw [hj]; decide) (by rw [hj]; decide) (by rw [hj]; rfl) (by decide) (law_c15 hL hn ih hC hR hk)
        · exact L_tin (off := 652) (tgt := 684) dL_law_32 (by rw [hj]; decide) (by rw [hj]; decide) (by rw [hj]; rfl) (by decide) (law_c16 hL hn ih hC hR hk)
        · exact L_tin (off := 675) (tgt := 707) dL_law_32 (by rw [hj]; decide) (by rw [hj]; decide) (by rw [hj]; rfl) (by decide) (law_c17 hL hn ih hC hR hk)
        · exact L_tin (off := 718) (tgt := 750) dL_law_32 (by rw [hj]; decide) (by rw [hj]; decide) (by rw [hj]; rfl) (by decide) (law_c18 hL hn ih hC hR hk)
        · exact L_tin (off := 741) (tgt := 773) dL_law_32 (by rw [hj]; decide) (by rw [hj]; decide) (by rw [hj]; rfl) (by decide) (law_c19 hL hn ih hC hR hk)
        · exact L_tin (off := 754) (tgt := 786) dL_law_32 (by rw [hj]; decide) (by rw [hj]; decide) (by rw [hj]; rfl) (by decide) (law_c20 hL hn ih hC hR hk)
        · exact L_tin (off := 767) (tgt := 799) dL_law_32 (by rw [hj]; decide) (by rw [hj]; decide) (by rw [hj]; rfl) (by decide) (law_c21 hL hn ih hC hR hk)
        · exact L_tin (off := 810) (tgt := 842) dL_law_32 (by rw [hj]; decide) (by rw [hj]; decide) (by rw [hj]; rfl) (by decide) (law_c22 hL hn ih hC hR hk)
        · exact L_tin (off := 823) (tgt := 855) dL_law_32 (by rw [hj]; decide) (by rw [hj]; decide) (by rw [hj]; rfl) (by decide) (law_c23 hL hn ih hC hR hk)
        · exact L_tin (off := 836) (tgt := 868) dL_law_32 (by rw [hj]; decide) (by rw [hj]; decide) (by rw [hj]; rfl) (by decide) (law_c24 hL hn ih hC hR hk)
        · exact L_tin (off := 849) (tgt := 881) dL_law_32 (by rw [hj]; decide) (by rw [hj]; decide) (by rw [hj]; rfl) (by decide) (law_c25 hL hn ih hC hR hk)
        · exact L_tin (off := 872) (tgt := 904) dL_law_32 (by rw [hj]; decide) (by rw [hj]; decide) (by rw [hj]; rfl) (by decide) (law_c26 hL hn ih hC hR hk)
        · exact L_tin (off := 895) (tgt := 927) dL_law_32 (by rw [hj]; decide) (by rw [hj]; decide) (by rw [hj]; rfl) (by decide) (law_c27 hL hn ih hC hR hk)
        · exact L_tin (off := 938) (tgt := 970) dL_law_32 (by rw [hj]; decide) (by rw [hj]; decide) (by rw [hj]; rfl) (by decide) (law_c28 hL hn ih hC hR hk)
        · exact L_tin (off := 961) (tgt := 993) dL_law_32 (by rw [hj]; decide) (by rw [hj]; decide) (by rw [hj]; rfl) (by decide) (law_c29 hL hn ih hC hR hk)
        · exact L_tin (off := 974) (tgt := 1006) dL_law_32 (by rw [hj]; decide) (by rw [hj]; decide) (by rw [hj]; rfl) (by decide) (law_c30 hL hn ih hC hR hk)
        · exact L_tin (off := 987) (tgt := 1019) dL_law_32 (by rw [hj]; decide) (by rw [hj]; decide) (by rw [hj]; rfl) (by decide) (law_c31 hL hn ih hC hR hk)
        · exact L_tin (off := 1000) (tgt := 1032) dL_law_32 (by rw [hj]; decide) (by rw [hj]; decide) (by rw [hj]; rfl) (by decide) (law_c32 hL hn ih hC hR hk)
        · exact L_tin (off := 1023) (tgt := 1055) dL_law_32 (by rw [hj]; decide) (by rw [hj]; decide) (by rw [hj]; rfl) (by decide) (law_c33 hL hn ih hC hR hk)
        · exact L_tin (off := 1036) (tgt := 1068) dL_law_32 (by rw [hj]; decide) (by rw [hj]; decide) (by rw [hj]; rfl) (by decide) (law_c34 hL hn ih hC hR hk)
        · exact L_tin (off := 1059) (tgt := 1091) dL_law_32 (by rw [hj]; decide) (by rw [hj]; decide) (by rw [hj]; rfl) (by decide) (law_c35 hL hn ih hC hR hk)
        · exact L_tin (off := 1072) (tgt := 1104) dL_law_32 (by rw [hj]; decide) (by rw [hj]; decide) (by rw [hj]; rfl) (by decide) (law_c36 hL hn ih hC hR hk)
        · exact L_tin (off := 1085) (tgt := 1117) dL_law_32 (by rw [hj]; decide) (by rw [hj]; decide) (by rw [hj]; rfl) (by decide) (law_c37 hL hn ih hC hR hk)
        · exact L_tin (off := 1108) (tgt := 1140) dL_law_32 (by rw [hj]; decide) (by rw [hj]; decide) (by rw [hj]; rfl) (by decide) (law_c38 hL hn ih hC hR hk)
        · exact L_tin (off := 1121) (tgt := 1153) dL_law_32 (by rw [hj]; decide) (by rw [hj]; decide) (by rw [hj]; rfl) (by decide) (law_c39 hL hn ih hC hR hk)
        · exact L_tin (off := 1134) (tgt := 1166) dL_law_32 (by rw [hj]; decide) (by rw [hj]; decide) (by rw [hj]; rfl) (by decide) (law_c40 hL hn ih hC hR hk)
        · exact L_tin (off := 1147) (tgt := 1179) dL_law_32 (by rw [hj]; decide) (by rw [hj]; decide) (by rw [hj]; rfl) (by decide) (law_c41 hL hn ih hC hR hk)
        · exact L_tin (off := 1190) (tgt := 1222) dL_law_32 (by rw [hj]; decide) (by rw [hj]; decide) (by rw [hj]; rfl) (by decide) (law_c42 hL hn ih hC hR hk)
        · exact L_tin (off := 1233) (tgt := 1265) dL_law_32 (by rw [hj]; decide) (by rw [hj]; decide) (by rw [hj]; rfl) (by decide) (law_c43 hL hn ih hC hR hk)
        · exact L_tin (off := 1266) (tgt := 1298) dL_law_32 (by rw [hj]; decide) (by rw [hj]; decide) (by rw [hj]; rfl) (by decide) (law_c44 hL hn ih hC hR hk)
        · exact L_tin (off := 1289) (tgt := 1321) dL_law_32 (by rw [hj]; decide) (by rw [hj]; decide) (by rw [hj]; rfl) (by decide) (law_c45 hL hn ih hC hR hk)
        · exact L_tin (off := 1312) (tgt := 1344) dL_law_32 (by rw [hj]; decide) (by rw [hj]; decide) (by rw [hj]; rfl) (by decide) (law_c46 hL hn ih hC hR hk)
set_option maxHeartbeats 4000000 in
set_option maxRecDepth 100000 in
theorem law_S {l : Launch} {G : Gd} {b0 b L : Nat} {xs : Nat → Int32} {nm d0 : String} (hL : L ≤ 2048) (M : Mem) : SL b L xs l G b0 ⟨RL, nm, d0⟩ cL_law 4 (some .boolean) room_1 LAY (fun v _ => v = 1) 166 18420 0 0 [] 0 [some (.ref b), none, none, none] [] M := by
  refine L_new (ci := 9) (dl := [some none, some none, some none, none, some none, some none, some none, some none, some none, none, none, none, some none, some none, some none, some none]) (q := 3) dL_law_0 rfl in_X9 tyX9_ok cw_L_7 ns_X9 ii_X9 df_X9 (Nat.le_of_ble_eq_true rfl) (Nat.le_of_ble_eq_true rfl) rfl ?_
  refine L_lay (lay1 := [.inl (9, [some none, some none, some none, none, some none, some none, some none, some none, some none, none, none, none, some none, some none, some none, some none])]) rfl ?_
  refine L_dup (q := 4) dL_law_3 rfl rfl ?_
  refine L_callI0 (k := 0) (q := 7) dL_law_4 lk_L_9 c_X9 rfl (Nat.le_of_ble_eq_true rfl) ⟨(Nat.le_of_ble_eq_true rfl), (Nat.le_of_ble_eq_true rfl)⟩ ⟨(Nat.le_of_ble_eq_true rfl), (Nat.le_of_ble_eq_true rfl)⟩ rfl (fun _ M1 hC1 => ?_)
  refine L_astore_1 (q := 8) dL_law_7 rfl ?_
  refine L_new (ci := 10) (dl := [none, none, none, none, some none, some none, some none, some none, none, some none, some none, some none, some none, none, none, some none, some none, none, none, none, none, none, none, none, none, none, some none, none, none, none, none, some none, some none, some none, some none, none, none, some none, some none, some none, none, none, none, none, some none, some none, some none, some none, some none, some none, some none]) (q := 11) dL_law_8 rfl in_X10 tyX10_ok cw_L_10 ns_X10 ii_X10 df_X10 (Nat.le_of_ble_eq_true rfl) (Nat.le_of_ble_eq_true rfl) rfl ?_
  rw [show L140.length = 140 from rfl]
  refine L_dup (q := 12) dL_law_11 rfl rfl ?_
  refine L_callI0 (k := 140) (q := 15) dL_law_12 lk_L_12 c_X10 rfl (Nat.le_of_ble_eq_true rfl) ⟨(Nat.le_of_ble_eq_true rfl), (Nat.le_of_ble_eq_true rfl)⟩ ⟨(Nat.le_of_ble_eq_true rfl), (Nat.le_of_ble_eq_true rfl)⟩ rfl (fun _ M2 hR2 => ?_)
  refine L_astore_2 (q := 16) dL_law_15 rfl ?_
  refine L_iconst (q := 17) (nI 0) dL_law_16 (by decide) rfl ?_
  refine L_istore_3 (q := 18) dL_law_17 rfl ?_
  exact law_loop hL (L + 4) 0 rfl (Nat.zero_le _) M2 A0 (cr_keep hC1 (fun a ha => by rw [hR2.2 a ha, upA_n (by omega)])) hR2.1 A0_ok
