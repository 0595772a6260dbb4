def zX0 (n : Nat) : Lay := [.inl (0, [some (some (n + 1)), some (some (n + 2)), some (some (n + 3))]), .inr (.inl 16), .inr (.inl 128), .inr (.inl 128)]
set_option maxHeartbeats 4000000 in
set_option maxRecDepth 100000 in
theorem c_X0 {l : Launch} {G : Gd} {b0 : Nat} {M : Mem} {p : Lay} {n : Nat} (hn : p.length = n) : Ct l G b0 yX0_init cX0_init 1 none (rmC 1 24 3 272) (p ++ [.inl (0, [some none, some none, some none])]) (p ++ zX0 n) M [.ref (b0 + n)] (fun _ M' => (∀ a, a < n → M' a = M a) ∧ True) := by
  refine Ct.of [some (.ref (b0 + n))] (by decide) (Nat.le_of_ble_eq_true rfl) rfl rfl ?_
  have e0 : ∀ a, a < n → M a = M a := fun _ _ => rfl
  refine S_aload_0 (q := 1) dX0_init_0 rfl ?_
  refine S_objInit (q := 4) dX0_init_1 oi_X0 oi_i oi_c (Nat.le_of_ble_eq_true rfl) (Nat.le_of_ble_eq_true rfl) rfl ?_
  refine S_aload_0 (q := 5) dX0_init_4 rfl ?_
  refine S_bipush (q := 7) (nI 16) dX0_init_5 (by decide) rfl ?_
  refine S_hnewarr (q := 9) (o := n + 1) (c' := 1) (s' := 16) ([.inr (.inl 16)] : Lay) hn rfl rfl rfl dX0_init_7 rfl (by decide) rfl rfl (by decide) (by decide) rfl ?_
  generalize hM1 : upA M (n + 1) (fun _ => 0) = M1
  have e1 : ∀ a, a < n → M1 a = M a := fun a ha => by rw [← hM1, upA_n (by omega)]
  refine S_hputF (q := 12) [some (some (n + 1)), some none, some none] hn rfl rfl dX0_init_9 pf_X0_9 rfl (fun _ => ⟨rfl, rfl⟩) rfl ?_
  refine S_aload_0 (q := 13) dX0_init_12 rfl ?_
  refine S_sipush (q := 16) (nI 128) dX0_init_13 (by decide) rfl ?_
  refine S_hnewarr (q := 18) (o := n + 2) (c' := 2) (s' := 144) ([.inr (.inl 16), .inr (.inl 128)] : Lay) hn rfl rfl rfl dX0_init_16 rfl (by decide) rfl rfl (by decide) (by decide) rfl ?_
  generalize hM2 : upA M1 (n + 2) (fun _ => 0) = M2
  have e2 : ∀ a, a < n → M2 a = M a := fun a ha => by rw [← hM2, upA_n (by omega)]; exact e1 a ha
  refine S_hputF (q := 21) [some (some (n + 1)), some (some (n + 2)), some none] hn rfl rfl dX0_init_18 pf_X0_15 rfl (fun _ => ⟨rfl, rfl⟩) rfl ?_
  refine S_aload_0 (q := 22) dX0_init_21 rfl ?_
  refine S_sipush (q := 25) (nI 128) dX0_init_22 (by decide) rfl ?_
  refine S_hnewarr (q := 27) (o := n + 3) (c' := 3) (s' := 272) ([.inr (.inl 16), .inr (.inl 128), .inr (.inl 128)] : Lay) hn rfl rfl rfl dX0_init_25 rfl (by decide) rfl rfl (by decide) (by decide) rfl ?_
  generalize hM3 : upA M2 (n + 3) (fun _ => 0) = M3
  have e3 : ∀ a, a < n → M3 a = M a := fun a ha => by rw [← hM3, upA_n (by omega)]; exact e2 a ha
  refine S_hputF (q := 30) [some (some (n + 1)), some (some (n + 2)), some (some (n + 3))] hn rfl rfl dX0_init_27 pf_X0_18 rfl (fun _ => ⟨rfl, rfl⟩) rfl ?_
  exact S_ret (v := 0) rfl dX0_init_30 rfl ⟨e3, trivial⟩
def zX1 (n : Nat) : Lay := [.inl (1, [none, none, none, some (some (n + 1)), some (some (n + 5))]), .inl (0, [some (some (n + 2)), some (some (n + 3)), some (some (n + 4))]), .inr (.inl 16), .inr (.inl 128), .inr (.inl 128), .inr (.inl 64)]
set_option maxHeartbeats 4000000 in
set_option maxRecDepth 100000 in
theorem c_X1 {l : Launch} {G : Gd} {b0 : Nat} {M : Mem} {p : Lay} {n : Nat} (hn : p.length = n) : Ct l G b0 yX1_init cX1_init 1 none (rmC 2 44 5 339) (p ++ [.inl (1, [none, none, none, some none, some none])]) (p ++ zX1 n) M [.ref (b0 + n)] (fun _ M' => (∀ a, a < n → M' a = M a) ∧ True) := by
  refine Ct.of [some (.ref (b0 + n))] (by decide) (Nat.le_of_ble_eq_true rfl) rfl rfl ?_
  have e0 : ∀ a, a < n → M a = M a := fun _ _ => rfl
  refine S_aload_0 (q := 1) dX1_init_0 rfl ?_
  refine S_objInit (q := 4) dX1_init_1 oi_X1 oi_i oi_c (Nat.le_of_ble_eq_true rfl) (Nat.le_of_ble_eq_true rfl) rfl ?_
  refine S_aload_0 (q := 5) dX1_init_4 rfl ?_
  refine S_iconst (q := 6) (nI 1) dX1_init_5 (by decide) rfl ?_
  refine S_putI (q := 9) dX1_init_6 fp_X1_9 (hget hn) (by rfl) rfl (by rfl) rfl ?_
  generalize hM1 : up M (n) 0 (nI 1) = M1
  have e1 : ∀ a, a < n → M1 a = M a := fun a ha => by rw [← hM1, up_n (by omega)]
  refine S_aload_0 (q := 10) dX1_init_9 rfl ?_
  refine S_iconst (q := 11) (nI 1) dX1_init_10 (by decide) rfl ?_
  refine S_putI (q := 14) dX1_init_11 fp_X1_15 (hget hn) (by rfl) rfl (by rfl) rfl ?_
  generalize hM2 : up M1 (n) 1 (nI 1) = M2
  have e2 : ∀ a, a < n → M2 a = M a := fun a ha => by rw [← hM2, up_n (by omega)]; exact e1 a ha
  refine S_aload_0 (q := 15) dX1_init_14 rfl ?_
  refine S_iconst (q := 16) (nI 1) dX1_init_15 (by decide) rfl ?_
  refine S_putI (q := 19) dX1_init_16 fp_X1_18 (hget hn) (by rfl) rfl (by rfl) rfl ?_
  generalize hM3 : up M2 (n) 2 (nI 1) = M3
  have e3 : ∀ a, a < n → M3 a = M a := fun a ha => by rw [← hM3, up_n (by omega)]; exact e2 a ha
  refine S_aload_0 (q := 20) dX1_init_19 rfl ?_
  refine S_hnew (q := 23) (o := n + 1) (c' := 1) (s' := 3) ([.inl (0, [some none, some none, some none])] : Lay) hn rfl rfl rfl dX1_init_20 rfl in_X0 tyX0_ok cw_X1_21 ns_X0 ii_X0 df_X0 rfl rfl (by decide) (by decide) rfl ?_
  generalize hM4 : upA M3 (n + 1) (fun _ => 0) = M4
  have e4 : ∀ a, a < n → M4 a = M a := fun a ha => by rw [← hM4, upA_n (by omega)]; exact e3 a ha
  refine S_dup (q := 24) dX1_init_23 rfl rfl ?_
  refine S_hcall0 (q := 27) (o := n + 1) (c' := 4) (s' := 275) (Z := (zX0 (n + 1))) ([] : Lay) ([.inl (0, [some (some (n + 2)), some (some (n + 3)), some (some (n + 4))]), .inr (.inl 16), .inr (.inl 128), .inr (.inl 128)] : Lay) hn rfl rfl rfl rfl dX1_init_24 lk_X1_23 (c_X0 (hlen hn (r := 0) rfl)) rfl rfl (Nat.le_of_ble_eq_true rfl) (by decide) rfl rfl (by decide) (by decide) rfl (fun _ M5 hv5 => ?_)
  have e5 : ∀ a, a < n → M5 a = M a := fun a ha => by rw [hv5.1 a (by omega)]; exact e4 a ha
  refine S_hputF (q := 30) [none, none, none, some (some (n + 1)), some none] hn rfl rfl dX1_init_27 pf_X1_24 rfl (fun _ => ⟨rfl, rfl⟩) rfl ?_
  refine S_aload_0 (q := 31) dX1_init_30 rfl ?_
  refine S_bipush (q := 33) (nI 64) dX1_init_31 (by decide) rfl ?_
  refine S_hnewarr (q := 35) (o := n + 5) (c' := 5) (s' := 339) ([.inl (0, [some (some (n + 2)), some (some (n + 3)), some (some (n + 4))]), .inr (.inl 16), .inr (.inl 128), .inr (.inl 128), .inr (.inl 64)] : Lay) hn rfl rfl rfl dX1_init_33 rfl (by decide) rfl rfl (by decide) (by decide) rfl ?_
  generalize hM6 : upA M5 (n + 5) (fun _ => 0) = M6
  have e6 : ∀ a, a < n → M6 a = M a := fun a ha => by rw [← hM6, upA_n (by omega)]; exact e5 a ha
  refine S_hputF (q := 38) [none, none, none, some (some (n + 1)), some (some (n + 5))] hn rfl rfl dX1_init_35 pf_X1_28 rfl (fun _ => ⟨rfl, rfl⟩) rfl ?_
  exact S_ret (v := 0) rfl dX1_init_38 rfl ⟨e6, trivial⟩
def zX3 (n : Nat) : Lay := [.inl (3, [none, none, some (some (n + 1)), some (some (n + 2)), some (some (n + 3)), some (some (n + 4)), some (some (n + 5)), some (some (n + 6)), some (some (n + 7)), some (some (n + 8)), none, none]), .inr (.inl 8), .inr (.inl 8), .inr (.inl 8), .inr (.inl 8), .inr (.inl 4), .inr (.inl 4), .inr (.inl 9), .inr (.inl 81)]
set_option maxHeartbeats 4000000 in
set_option maxRecDepth 100000 in
theorem c_X3 {l : Launch} {G : Gd} {b0 : Nat} {M : Mem} {p : Lay} {n : Nat} (hn : p.length = n) : Ct l G b0 yX3_init cX3_init 1 none (rmC 1 24 8 130) (p ++ [.inl (3, [none, none, some none, some none, some none, some none, some none, some none, some none, some none, none, none])]) (p ++ zX3 n) M [.ref (b0 + n)] (fun _ M' => (∀ a, a < n → M' a = M a) ∧ True) := by
  refine Ct.of [some (.ref (b0 + n))] (by decide) (Nat.le_of_ble_eq_true rfl) rfl rfl ?_
  have e0 : ∀ a, a < n → M a = M a := fun _ _ => rfl
  refine S_aload_0 (q := 1) dX3_init_0 rfl ?_
  refine S_objInit (q := 4) dX3_init_1 oi_X3 oi_i oi_c (Nat.le_of_ble_eq_true rfl) (Nat.le_of_ble_eq_true rfl) rfl ?_
  refine S_aload_0 (q := 5) dX3_init_4 rfl ?_
  refine S_iconst (q := 6) (nI 0) dX3_init_5 (by decide) rfl ?_
  refine S_putI (q := 9) dX3_init_6 fp_X3_9 (hget hn) (by rfl) rfl (by rfl) rfl ?_
  generalize hM1 : up M (n) 0 (nI 0) = M1
  have e1 : ∀ a, a < n → M1 a = M a := fun a ha => by rw [← hM1, up_n (by omega)]
  refine S_aload_0 (q := 10) dX3_init_9 rfl ?_
  refine S_iconst (q := 11) (nI 0) dX3_init_10 (by decide) rfl ?_
  refine S_putI (q := 14) dX3_init_11 fp_X3_15 (hget hn) (by rfl) rfl (by rfl) rfl ?_
  generalize hM2 : up M1 (n) 1 (nI 0) = M2
  have e2 : ∀ a, a < n → M2 a = M a := fun a ha => by rw [← hM2, up_n (by omega)]; exact e1 a ha
  refine S_aload_0 (q := 15) dX3_init_14 rfl ?_
  refine S_bipush (q := 17) (nI 8) dX3_init_15 (by decide) rfl ?_
  refine S_hnewarr (q := 19) (o := n + 1) (c' := 1) (s' := 8) ([.inr (.inl 8)] : Lay) hn rfl rfl rfl dX3_init_17 rfl (by decide) rfl rfl (by decide) (by decide) rfl ?_
  generalize hM3 : upA M2 (n + 1) (fun _ => 0) = M3
  have e3 : ∀ a, a < n → M3 a = M a := fun a ha => by rw [← hM3, upA_n (by omega)]; exact e2 a ha
  refine S_hputF (q := 22) [none, none, some (some (n + 1)), some none, some none, some none, some none, some none, some none, some none, none, none] hn rfl rfl dX3_init_19 pf_X3_18 rfl (fun _ => ⟨rfl, rfl⟩) rfl ?_
  refine S_aload_0 (q := 23) dX3_init_22 rfl ?_
  refine S_bipush (q := 25) (nI 8) dX3_init_23 (by decide) rfl ?_
  refine S_hnewarr (q := 27) (o := n + 2) (c' := 2) (s' := 16) ([.inr (.inl 8), .inr (.inl 8)] : Lay) hn rfl rfl rfl dX3_init_25 rfl (by decide) rfl rfl (by decide) (by decide) rfl ?_
  generalize hM4 : upA M3 (n + 2) (fun _ => 0) = M4
  have e4 : ∀ a, a < n → M4 a = M a := fun a ha => by rw [← hM4, upA_n (by omega)]; exact e3 a ha
  refine S_hputF (q := 30) [none, none, some (some (n + 1)), some (some (n + 2)), some none, some none, some none, some none, some none, some none, none, none] hn rfl rfl dX3_init_27 pf_X3_22 rfl (fun _ => ⟨rfl, rfl⟩) rfl ?_
  refine S_aload_0 (q := 31) dX3_init_30 rfl ?_
  refine S_bipush (q := 33) (nI 8) dX3_init_31 (by decide) rfl ?_
  refine S_hnewarr (q := 35) (o := n + 3) (c' := 3) (s' := 24) ([.inr (.inl 8), .inr (.inl 8), .inr (.inl 8)] : Lay) hn rfl rfl rfl dX3_init_33 rfl (by decide) rfl rfl (by decide) (by decide) rfl ?_
  generalize hM5 : upA M4 (n + 3) (fun _ => 0) = M5
  have e5 : ∀ a, a < n → M5 a = M a := fun a ha => by rw [← hM5, upA_n (by omega)]; exact e4 a ha
  refine S_hputF (q := 38) [none, none, some (some (n + 1)), some (some (n + 2)), some (some (n + 3)), some none, some none, some none, some none, some none, none, none] hn rfl rfl dX3_init_35 pf_X3_25 rfl (fun _ => ⟨rfl, rfl⟩) rfl ?_
  refine S_aload_0 (q := 39) dX3_init_38 rfl ?_
  refine S_bipush (q := 41) (nI 8) dX3_init_39 (by decide) rfl ?_
  refine S_hnewarr (q := 43) (o := n + 4) (c' := 4) (s' := 32) ([.inr (.inl 8), .inr (.inl 8), .inr (.inl 8), .inr (.inl 8)] : Lay) hn rfl rfl rfl dX3_init_41 rfl (by decide) rfl rfl (by decide) (by decide) rfl ?_
  generalize hM6 : upA M5 (n + 4) (fun _ => 0) = M6
  have e6 : ∀ a, a < n → M6 a = M a := fun a ha => by rw [← hM6, upA_n (by omega)]; exact e5 a ha
  refine S_hputF (q := 46) [none, none, some (some (n + 1)), some (some (n + 2)), some (some (n + 3)), some (some (n + 4)), some none, some none, some none, some none, none, none] hn rfl rfl dX3_init_43 pf_X3_28 rfl (fun _ => ⟨rfl, rfl⟩) rfl ?_
  refine S_aload_0 (q := 47) dX3_init_46 rfl ?_
  refine S_iconst (q := 48) (nI 4) dX3_init_47 (by decide) rfl ?_
  refine S_hnewarr (q := 50) (o := n + 5) (c' := 5) (s' := 36) ([.inr (.inl 8), .inr (.inl 8), .inr (.inl 8), .inr (.inl 8), .inr (.inl 4)] : Lay) hn rfl rfl rfl dX3_init_48 rfl (by decide) rfl rfl (by decide) (by decide) rfl ?_
  generalize hM7 : upA M6 (n + 5) (fun _ => 0) = M7
  have e7 : ∀ a, a < n → M7 a = M a := fun a ha => by rw [← hM7, upA_n (by omega)]; exact e6 a ha
  refine S_hputF (q := 53) [none, none, some (some (n + 1)), some (some (n + 2)), some (some (n + 3)), some (some (n + 4)), some (some (n + 5)), some none, some none, some none, none, none] hn rfl rfl dX3_init_50 pf_X3_31 rfl (fun _ => ⟨rfl, rfl⟩) rfl ?_
  refine S_aload_0 (q := 54) dX3_init_53 rfl ?_
  refine S_iconst (q := 55) (nI 4) dX3_init_54 (by decide) rfl ?_
  refine S_hnewarr (q := 57) (o := n + 6) (c' := 6) (s' := 40) ([.inr (.inl 8), .inr (.inl 8), .inr (.inl 8), .inr (.inl 8), .inr (.inl 4), .inr (.inl 4)] : Lay) hn rfl rfl rfl dX3_init_55 rfl (by decide) rfl rfl (by decide) (by decide) rfl ?_
  generalize hM8 : upA M7 (n + 6) (fun _ => 0) = M8
  have e8 : ∀ a, a < n → M8 a = M a := fun a ha => by rw [← hM8, upA_n (by omega)]; exact e7 a ha
  refine S_hputF (q := 60) [none, none, some (some (n + 1)), some (some (n + 2)), some (some (n + 3)), some (some (n + 4)), some (some (n + 5)), some (some (n + 6)), some none, some none, none, none] hn rfl rfl dX3_init_57 pf_X3_34 rfl (fun _ => ⟨rfl, rfl⟩) rfl ?_
  refine S_aload_0 (q := 61) dX3_init_60 rfl ?_
  refine S_bipush (q := 63) (nI 9) dX3_init_61 (by decide) rfl ?_
  refine S_hnewarr (q := 65) (o := n + 7) (c' := 7) (s' := 49) ([.inr (.inl 8), .inr (.inl 8), .inr (.inl 8), .inr (.inl 8), .inr (.inl 4), .inr (.inl 4), .inr (.inl 9)] : Lay) hn rfl rfl rfl dX3_init_63 rfl (by decide) rfl rfl (by decide) (by decide) rfl ?_
  generalize hM9 : upA M8 (n + 7) (fun _ => 0) = M9
  have e9 : ∀ a, a < n → M9 a = M a := fun a ha => by rw [← hM9, upA_n (by omega)]; exact e8 a ha
  refine S_hputF (q := 68) [none, none, some (some (n + 1)), some (some (n + 2)), some (some (n + 3)), some (some (n + 4)), some (some (n + 5)), some (some (n + 6)), some (some (n + 7)), some none, none, none] hn rfl rfl dX3_init_65 pf_X3_37 rfl (fun _ => ⟨rfl, rfl⟩) rfl ?_
  refine S_aload_0 (q := 69) dX3_init_68 rfl ?_
  refine S_bipush (q := 71) (nI 81) dX3_init_69 (by decide) rfl ?_
  refine S_hnewarr (q := 73) (o := n + 8) (c' := 8) (s' := 130) ([.inr (.inl 8), .inr (.inl 8), .inr (.inl 8), .inr (.inl 8), .inr (.inl 4), .inr (.inl 4), .inr (.inl 9), .inr (.inl 81)] : Lay) hn rfl rfl rfl dX3_init_71 rfl (by decide) rfl rfl (by decide) (by decide) rfl ?_
  generalize hM10 : upA M9 (n + 8) (fun _ => 0) = M10
  have e10 : ∀ a, a < n → M10 a = M a := fun a ha => by rw [← hM10, upA_n (by omega)]; exact e9 a ha
  refine S_hputF (q := 76) [none, none, some (some (n + 1)), some (some (n + 2)), some (some (n + 3)), some (some (n + 4)), some (some (n + 5)), some (some (n + 6)), some (some (n + 7)), some (some (n + 8)), none, none] hn rfl rfl dX3_init_73 pf_X3_40 rfl (fun _ => ⟨rfl, rfl⟩) rfl ?_
  refine S_aload_0 (q := 77) dX3_init_76 rfl ?_
  refine S_iconst (q := 78) (nI 0) dX3_init_77 (by decide) rfl ?_
  refine S_putI (q := 81) dX3_init_78 fp_X3_43 (hget hn) (by rfl) rfl (by rfl) rfl ?_
  generalize hM11 : up M10 (n) 10 (nI 0) = M11
  have e11 : ∀ a, a < n → M11 a = M a := fun a ha => by rw [← hM11, up_n (by omega)]; exact e10 a ha
  refine S_aload_0 (q := 82) dX3_init_81 rfl ?_
  refine S_iconst (q := 83) (nI 0) dX3_init_82 (by decide) rfl ?_
  refine S_putI (q := 86) dX3_init_83 fp_X3_46 (hget hn) (by rfl) rfl (by rfl) rfl ?_
  generalize hM12 : up M11 (n) 11 (nI 0) = M12
  have e12 : ∀ a, a < n → M12 a = M a := fun a ha => by rw [← hM12, up_n (by omega)]; exact e11 a ha
  exact S_ret (v := 0) rfl dX3_init_86 rfl ⟨e12, trivial⟩
def zX5 (n : Nat) : Lay := [.inl (5, [some (some (n + 1)), none, none, none]), .inl (3, [none, none, some (some (n + 2)), some (some (n + 3)), some (some (n + 4)), some (some (n + 5)), some (some (n + 6)), some (some (n + 7)), some (some (n + 8)), some (some (n + 9)), none, none]), .inr (.inl 8), .inr (.inl 8), .inr (.inl 8), .inr (.inl 8), .inr (.inl 4), .inr (.inl 4), .inr (.inl 9), .inr (.inl 81)]
set_option maxHeartbeats 4000000 in
set_option maxRecDepth 100000 in
theorem c_X5 {l : Launch} {G : Gd} {b0 : Nat} {M : Mem} {p : Lay} {n : Nat} (hn : p.length = n) : Ct l G b0 yX5_init cX5_init 1 none (rmC 2 44 9 142) (p ++ [.inl (5, [some none, none, none, none])]) (p ++ zX5 n) M [.ref (b0 + n)] (fun _ M' => (∀ a, a < n → M' a = M a) ∧ True) := by
  refine Ct.of [some (.ref (b0 + n))] (by decide) (Nat.le_of_ble_eq_true rfl) rfl rfl ?_
  have e0 : ∀ a, a < n → M a = M a := fun _ _ => rfl
  refine S_aload_0 (q := 1) dX5_init_0 rfl ?_
  refine S_objInit (q := 4) dX5_init_1 oi_X5 oi_i oi_c (Nat.le_of_ble_eq_true rfl) (Nat.le_of_ble_eq_true rfl) rfl ?_
  refine S_aload_0 (q := 5) dX5_init_4 rfl ?_
  refine S_hnew (q := 8) (o := n + 1) (c' := 1) (s' := 12) ([.inl (3, [none, none, some none, some none, some none, some none, some none, some none, some none, some none, none, none])] : Lay) hn rfl rfl rfl dX5_init_5 rfl in_X3 tyX3_ok cw_X5_9 ns_X3 ii_X3 df_X3 rfl rfl (by decide) (by decide) rfl ?_
  generalize hM1 : upA M (n + 1) (fun _ => 0) = M1
  have e1 : ∀ a, a < n → M1 a = M a := fun a ha => by rw [← hM1, upA_n (by omega)]
  refine S_dup (q := 9) dX5_init_8 rfl rfl ?_
  refine S_hcall0 (q := 12) (o := n + 1) (c' := 9) (s' := 142) (Z := (zX3 (n + 1))) ([] : Lay) ([.inl (3, [none, none, some (some (n + 2)), some (some (n + 3)), some (some (n + 4)), some (some (n + 5)), some (some (n + 6)), some (some (n + 7)), some (some (n + 8)), some (some (n + 9)), none, none]), .inr (.inl 8), .inr (.inl 8), .inr (.inl 8), .inr (.inl 8), .inr (.inl 4), .inr (.inl 4), .inr (.inl 9), .inr (.inl 81)] : Lay) hn rfl rfl rfl rfl dX5_init_9 lk_X5_11 (c_X3 (hlen hn (r := 0) rfl)) rfl rfl (Nat.le_of_ble_eq_true rfl) (by decide) rfl rfl (by decide) (by decide) rfl (fun _ M2 hv2 => ?_)
  have e2 : ∀ a, a < n → M2 a = M a := fun a ha => by rw [hv2.1 a (by omega)]; exact e1 a ha
  refine S_hputF (q := 15) [some (some (n + 1)), none, none, none] hn rfl rfl dX5_init_12 pf_X5_12 rfl (fun _ => ⟨rfl, rfl⟩) rfl ?_
  refine S_aload_0 (q := 16) dX5_init_15 rfl ?_
  refine S_iconst (q := 17) (nI 0) dX5_init_16 (by decide) rfl ?_
  refine S_putI (q := 20) dX5_init_17 fp_X5_18 (hget hn) (by rfl) rfl (by rfl) rfl ?_
  generalize hM3 : up M2 (n) 1 (nI 0) = M3
  have e3 : ∀ a, a < n → M3 a = M a := fun a ha => by rw [← hM3, up_n (by omega)]; exact e2 a ha
  refine S_aload_0 (q := 21) dX5_init_20 rfl ?_
  refine S_iconst (q := 22) (nI 0) dX5_init_21 (by decide) rfl ?_
  refine S_putI (q := 25) dX5_init_22 fp_X5_22 (hget hn) (by rfl) rfl (by rfl) rfl ?_
  generalize hM4 : up M3 (n) 2 (nI 0) = M4
  have e4 : ∀ a, a < n → M4 a = M a := fun a ha => by rw [← hM4, up_n (by omega)]; exact e3 a ha
  refine S_aload_0 (q := 26) dX5_init_25 rfl ?_
  refine S_iconst (q := 27) (nI 0) dX5_init_26 (by decide) rfl ?_
  refine S_putI (q := 30) dX5_init_27 fp_X5_25 (hget hn) (by rfl) rfl (by rfl) rfl ?_
  generalize hM5 : up M4 (n) 3 (nI 0) = M5
  have e5 : ∀ a, a < n → M5 a = M a := fun a ha => by rw [← hM5, up_n (by omega)]; exact e4 a ha
  exact S_ret (v := 0) rfl dX5_init_30 rfl ⟨e5, trivial⟩
def zX4 (n : Nat) : Lay := [.inl (4, [some (some (n + 1)), some (some (n + 7)), none, none]), .inl (1, [none, none, none, some (some (n + 2)), some (some (n + 6))]), .inl (0, [some (some (n + 3)), some (some (n + 4)), some (some (n + 5))]), .inr (.inl 16), .inr (.inl 128), .inr (.inl 128), .inr (.inl 64), .inl (5, [some (some (n + 8)), none, none, none]), .inl (3, [none, none, some (some (n + 9)), some (some (n + 10)), some (some (n + 11)), some (some (n + 12)), some (some (n + 13)), some (some (n + 14)), some (some (n + 15)), some (some (n + 16)), none, none]), .inr (.inl 8), .inr (.inl 8), .inr (.inl 8), .inr (.inl 8), .inr (.inl 4), .inr (.inl 4), .inr (.inl 9), .inr (.inl 81)]
set_option maxHeartbeats 4000000 in
set_option maxRecDepth 100000 in
theorem c_X4 {l : Launch} {G : Gd} {b0 : Nat} {M : Mem} {p : Lay} {n : Nat} (hn : p.length = n) : Ct l G b0 yX4_init cX4_init 1 none (rmC 3 64 16 490) (p ++ [.inl (4, [some none, some none, none, none])]) (p ++ zX4 n) M [.ref (b0 + n)] (fun _ M' => (∀ a, a < n → M' a = M a) ∧ True) := by
  refine Ct.of [some (.ref (b0 + n))] (by decide) (Nat.le_of_ble_eq_true rfl) rfl rfl ?_
  have e0 : ∀ a, a < n → M a = M a := fun _ _ => rfl
  refine S_aload_0 (q := 1) dX4_init_0 rfl ?_
  refine S_objInit (q := 4) dX4_init_1 oi_X4 oi_i oi_c (Nat.le_of_ble_eq_true rfl) (Nat.le_of_ble_eq_true rfl) rfl ?_
  refine S_aload_0 (q := 5) dX4_init_4 rfl ?_
  refine S_hnew (q := 8) (o := n + 1) (c' := 1) (s' := 5) ([.inl (1, [none, none, none, some none, some none])] : Lay) hn rfl rfl rfl dX4_init_5 rfl in_X1 tyX1_ok cw_X4_7 ns_X1 ii_X1 df_X1 rfl rfl (by decide) (by decide) rfl ?_
  generalize hM1 : upA M (n + 1) (fun _ => 0) = M1
  have e1 : ∀ a, a < n → M1 a = M a := fun a ha => by rw [← hM1, upA_n (by omega)]
  refine S_dup (q := 9) dX4_init_8 rfl rfl ?_
  refine S_hcall0 (q := 12) (o := n + 1) (c' := 6) (s' := 344) (Z := (zX1 (n + 1))) ([] : Lay) ([.inl (1, [none, none, none, some (some (n + 2)), some (some (n + 6))]), .inl (0, [some (some (n + 3)), some (some (n + 4)), some (some (n + 5))]), .inr (.inl 16), .inr (.inl 128), .inr (.inl 128), .inr (.inl 64)] : Lay) hn rfl rfl rfl rfl dX4_init_9 lk_X4_9 (c_X1 (hlen hn (r := 0) rfl)) rfl rfl (Nat.le_of_ble_eq_true rfl) (by decide) rfl rfl (by decide) (by decide) rfl (fun _ M2 hv2 => ?_)
  have e2 : ∀ a, a < n → M2 a = M a := fun a ha => by rw [hv2.1 a (by omega)]; exact e1 a ha
  refine S_hputF (q := 15) [some (some (n + 1)), some none, none, none] hn rfl rfl dX4_init_12 pf_X4_10 rfl (fun _ => ⟨rfl, rfl⟩) rfl ?_
  refine S_aload_0 (q := 16) dX4_init_15 rfl ?_
  refine S_hnew (q := 19) (o := n + 7) (c' := 7) (s' := 348) ([.inl (1, [none, none, none, some (some (n + 2)), some (some (n + 6))]), .inl (0, [some (some (n + 3)), some (some (n + 4)), some (some (n + 5))]), .inr (.inl 16), .inr (.inl 128), .inr (.inl 128), .inr (.inl 64), .inl (5, [some none, none, none, none])] : Lay) hn rfl rfl rfl dX4_init_16 rfl in_X5 tyX5_ok cw_X4_16 ns_X5 ii_X5 df_X5 rfl rfl (by decide) (by decide) rfl ?_
  generalize hM3 : upA M2 (n + 7) (fun _ => 0) = M3
  have e3 : ∀ a, a < n → M3 a = M a := fun a ha => by rw [← hM3, upA_n (by omega)]; exact e2 a ha
  refine S_dup (q := 20) dX4_init_19 rfl rfl ?_
  refine S_hcall0 (q := 23) (o := n + 7) (c' := 16) (s' := 490) (Z := (zX5 (n + 7))) ([.inl (1, [none, none, none, some (some (n + 2)), some (some (n + 6))]), .inl (0, [some (some (n + 3)), some (some (n + 4)), some (some (n + 5))]), .inr (.inl 16), .inr (.inl 128), .inr (.inl 128), .inr (.inl 64)] : Lay) ([.inl (1, [none, none, none, some (some (n + 2)), some (some (n + 6))]), .inl (0, [some (some (n + 3)), some (some (n + 4)), some (some (n + 5))]), .inr (.inl 16), .inr (.inl 128), .inr (.inl 128), .inr (.inl 64), .inl (5, [some (some (n + 8)), none, none, none]), .inl (3, [none, none, some (some (n + 9)), some (some (n + 10)), some (some (n + 11)), some (some (n + 12)), some (some (n + 13)), some (some (n + 14)), some (some (n + 15)), some (some (n + 16)), none, none]), .inr (.inl 8), .inr (.inl 8), .inr (.inl 8), .inr (.inl 8), .inr (.inl 4), .inr (.inl 4), .inr (.inl 9), .inr (.inl 81)] : Lay) hn rfl rfl rfl rfl dX4_init_20 lk_X4_18 (c_X5 (hlen hn (r := 6) rfl)) rfl rfl (Nat.le_of_ble_eq_true rfl) (by decide) rfl rfl (by decide) (by decide) rfl (fun _ M4 hv4 => ?_)
  have e4 : ∀ a, a < n → M4 a = M a := fun a ha => by rw [hv4.1 a (by omega)]; exact e3 a ha
  refine S_hputF (q := 26) [some (some (n + 1)), some (some (n + 7)), none, none] hn rfl rfl dX4_init_23 pf_X4_19 rfl (fun _ => ⟨rfl, rfl⟩) rfl ?_
  refine S_aload_0 (q := 27) dX4_init_26 rfl ?_
  refine S_iconst (q := 28) (nI 0) dX4_init_27 (by decide) rfl ?_
  refine S_putI (q := 31) dX4_init_28 fp_X4_23 (hget hn) (by rfl) rfl (by rfl) rfl ?_
  generalize hM5 : up M4 (n) 2 (nI 0) = M5
  have e5 : ∀ a, a < n → M5 a = M a := fun a ha => by rw [← hM5, up_n (by omega)]; exact e4 a ha
  refine S_aload_0 (q := 32) dX4_init_31 rfl ?_
  refine S_iconst (q := 33) (nI 0) dX4_init_32 (by decide) rfl ?_
  refine S_putI (q := 36) dX4_init_33 fp_X4_27 (hget hn) (by rfl) rfl (by rfl) rfl ?_
  generalize hM6 : up M5 (n) 3 (nI 0) = M6
  have e6 : ∀ a, a < n → M6 a = M a := fun a ha => by rw [← hM6, up_n (by omega)]; exact e5 a ha
  exact S_ret (v := 0) rfl dX4_init_36 rfl ⟨e6, trivial⟩
def zX6 (n : Nat) : Lay := [.inl (6, [some (some (n + 1)), some (some (n + 7)), some (some (n + 17)), some (some (n + 18)), some (some (n + 19)), none, none, none, none, none]), .inl (1, [none, none, none, some (some (n + 2)), some (some (n + 6))]), .inl (0, [some (some (n + 3)), some (some (n + 4)), some (some (n + 5))]), .inr (.inl 16), .inr (.inl 128), .inr (.inl 128), .inr (.inl 64), .inl (5, [some (some (n + 8)), none, none, none]), .inl (3, [none, none, some (some (n + 9)), some (some (n + 10)), some (some (n + 11)), some (some (n + 12)), some (some (n + 13)), some (some (n + 14)), some (some (n + 15)), some (some (n + 16)), none, none]), .inr (.inl 8), .inr (.inl 8), .inr (.inl 8), .inr (.inl 8), .inr (.inl 4), .inr (.inl 4), .inr (.inl 9), .inr (.inl 81), .inr (.inl 3840), .inr (.inl 60), .inr (.inl 60)]
set_option maxHeartbeats 4000000 in
set_option maxRecDepth 100000 in
theorem c_X6 {l : Launch} {G : Gd} {b0 : Nat} {M : Mem} {p : Lay} {n : Nat} (hn : p.length = n) : Ct l G b0 yX6_init cX6_init 1 none (rmC 3 64 19 4450) (p ++ [.inl (6, [some none, some none, some none, some none, some none, none, none, none, none, none])]) (p ++ zX6 n) M [.ref (b0 + n)] (fun _ M' => (∀ a, a < n → M' a = M a) ∧ True) := by
  refine Ct.of [some (.ref (b0 + n))] (by decide) (Nat.le_of_ble_eq_true rfl) rfl rfl ?_
  have e0 : ∀ a, a < n → M a = M a := fun _ _ => rfl
  refine S_aload_0 (q := 1) dX6_init_0 rfl ?_
  refine S_objInit (q := 4) dX6_init_1 oi_X6 oi_i oi_c (Nat.le_of_ble_eq_true rfl) (Nat.le_of_ble_eq_true rfl) rfl ?_
  refine S_aload_0 (q := 5) dX6_init_4 rfl ?_
  refine S_hnew (q := 8) (o := n + 1) (c' := 1) (s' := 5) ([.inl (1, [none, none, none, some none, some none])] : Lay) hn rfl rfl rfl dX6_init_5 rfl in_X1 tyX1_ok cw_X6_9 ns_X1 ii_X1 df_X1 rfl rfl (by decide) (by decide) rfl ?_
  generalize hM1 : upA M (n + 1) (fun _ => 0) = M1
  have e1 : ∀ a, a < n → M1 a = M a := fun a ha => by rw [← hM1, upA_n (by omega)]
  refine S_dup (q := 9) dX6_init_8 rfl rfl ?_
  refine S_hcall0 (q := 12) (o := n + 1) (c' := 6) (s' := 344) (Z := (zX1 (n + 1))) ([] : Lay) ([.inl (1, [none, none, none, some (some (n + 2)), some (some (n + 6))]), .inl (0, [some (some (n + 3)), some (some (n + 4)), some (some (n + 5))]), .inr (.inl 16), .inr (.inl 128), .inr (.inl 128), .inr (.inl 64)] : Lay) hn rfl rfl rfl rfl dX6_init_9 lk_X6_11 (c_X1 (hlen hn (r := 0) rfl)) rfl rfl (Nat.le_of_ble_eq_true rfl) (by decide) rfl rfl (by decide) (by decide) rfl (fun _ M2 hv2 => ?_)
  have e2 : ∀ a, a < n → M2 a = M a := fun a ha => by rw [hv2.1 a (by omega)]; exact e1 a ha
  refine S_hputF (q := 15) [some (some (n + 1)), some none, some none, some none, some none, none, none, none, none, none] hn rfl rfl dX6_init_12 pf_X6_12 rfl (fun _ => ⟨rfl, rfl⟩) rfl ?_
  refine S_aload_0 (q := 16) dX6_init_15 rfl ?_
  refine S_hnew (q := 19) (o := n + 7) (c' := 7) (s' := 348) ([.inl (1, [none, none, none, some (some (n + 2)), some (some (n + 6))]), .inl (0, [some (some (n + 3)), some (some (n + 4)), some (some (n + 5))]), .inr (.inl 16), .inr (.inl 128), .inr (.inl 128), .inr (.inl 64), .inl (5, [some none, none, none, none])] : Lay) hn rfl rfl rfl dX6_init_16 rfl in_X5 tyX5_ok cw_X6_18 ns_X5 ii_X5 df_X5 rfl rfl (by decide) (by decide) rfl ?_
  generalize hM3 : upA M2 (n + 7) (fun _ => 0) = M3
  have e3 : ∀ a, a < n → M3 a = M a := fun a ha => by rw [← hM3, upA_n (by omega)]; exact e2 a ha
  refine S_dup (q := 20) dX6_init_19 rfl rfl ?_
  refine S_hcall0 (q := 23) (o := n + 7) (c' := 16) (s' := 490) (Z := (zX5 (n + 7))) ([.inl (1, [none, none, none, some (some (n + 2)), some (some (n + 6))]), .inl (0, [some (some (n + 3)), some (some (n + 4)), some (some (n + 5))]), .inr (.inl 16), .inr (.inl 128), .inr (.inl 128), .inr (.inl 64)] : Lay) ([.inl (1, [none, none, none, some (some (n + 2)), some (some (n + 6))]), .inl (0, [some (some (n + 3)), some (some (n + 4)), some (some (n + 5))]), .inr (.inl 16), .inr (.inl 128), .inr (.inl 128), .inr (.inl 64), .inl (5, [some (some (n + 8)), none, none, none]), .inl (3, [none, none, some (some (n + 9)), some (some (n + 10)), some (some (n + 11)), some (some (n + 12)), some (some (n + 13)), some (some (n + 14)), some (some (n + 15)), some (some (n + 16)), none, none]), .inr (.inl 8), .inr (.inl 8), .inr (.inl 8), .inr (.inl 8), .inr (.inl 4), .inr (.inl 4), .inr (.inl 9), .inr (.inl 81)] : Lay) hn rfl rfl rfl rfl dX6_init_20 lk_X6_20 (c_X5 (hlen hn (r := 6) rfl)) rfl rfl (Nat.le_of_ble_eq_true rfl) (by decide) rfl rfl (by decide) (by decide) rfl (fun _ M4 hv4 => ?_)
  have e4 : ∀ a, a < n → M4 a = M a := fun a ha => by rw [hv4.1 a (by omega)]; exact e3 a ha
  refine S_hputF (q := 26) [some (some (n + 1)), some (some (n + 7)), some none, some none, some none, none, none, none, none, none] hn rfl rfl dX6_init_23 pf_X6_21 rfl (fun _ => ⟨rfl, rfl⟩) rfl ?_
  refine S_aload_0 (q := 27) dX6_init_26 rfl ?_
  refine S_sipush (q := 30) (nI 3840) dX6_init_27 (by decide) rfl ?_
  refine S_hnewarr (q := 32) (o := n + 17) (c' := 17) (s' := 4330) ([.inl (1, [none, none, none, some (some (n + 2)), some (some (n + 6))]), .inl (0, [some (some (n + 3)), some (some (n + 4)), some (some (n + 5))]), .inr (.inl 16), .inr (.inl 128), .inr (.inl 128), .inr (.inl 64), .inl (5, [some (some (n + 8)), none, none, none]), .inl (3, [none, none, some (some (n + 9)), some (some (n + 10)), some (some (n + 11)), some (some (n + 12)), some (some (n + 13)), some (some (n + 14)), some (some (n + 15)), some (some (n + 16)), none, none]), .inr (.inl 8), .inr (.inl 8), .inr (.inl 8), .inr (.inl 8), .inr (.inl 4), .inr (.inl 4), .inr (.inl 9), .inr (.inl 81), .inr (.inl 3840)] : Lay) hn rfl rfl rfl dX6_init_30 rfl (by decide) rfl rfl (by decide) (by decide) rfl ?_
  generalize hM5 : upA M4 (n + 17) (fun _ => 0) = M5
  have e5 : ∀ a, a < n → M5 a = M a := fun a ha => by rw [← hM5, upA_n (by omega)]; exact e4 a ha
  refine S_hputF (q := 35) [some (some (n + 1)), some (some (n + 7)), some (some (n + 17)), some none, some none, none, none, none, none, none] hn rfl rfl dX6_init_32 pf_X6_25 rfl (fun _ => ⟨rfl, rfl⟩) rfl ?_
  refine S_aload_0 (q := 36) dX6_init_35 rfl ?_
  refine S_bipush (q := 38) (nI 60) dX6_init_36 (by decide) rfl ?_
  refine S_hnewarr (q := 40) (o := n + 18) (c' := 18) (s' := 4390) ([.inl (1, [none, none, none, some (some (n + 2)), some (some (n + 6))]), .inl (0, [some (some (n + 3)), some (some (n + 4)), some (some (n + 5))]), .inr (.inl 16), .inr (.inl 128), .inr (.inl 128), .inr (.inl 64), .inl (5, [some (some (n + 8)), none, none, none]), .inl (3, [none, none, some (some (n + 9)), some (some (n + 10)), some (some (n + 11)), some (some (n + 12)), some (some (n + 13)), some (some (n + 14)), some (some (n + 15)), some (some (n + 16)), none, none]), .inr (.inl 8), .inr (.inl 8), .inr (.inl 8), .inr (.inl 8), .inr (.inl 4), .inr (.inl 4), .inr (.inl 9), .inr (.inl 81), .inr (.inl 3840), .inr (.inl 60)] : Lay) hn rfl rfl rfl dX6_init_38 rfl (by decide) rfl rfl (by decide) (by decide) rfl ?_
  generalize hM6 : upA M5 (n + 18) (fun _ => 0) = M6
  have e6 : ∀ a, a < n → M6 a = M a := fun a ha => by rw [← hM6, upA_n (by omega)]; exact e5 a ha
  refine S_hputF (q := 43) [some (some (n + 1)), some (some (n + 7)), some (some (n + 17)), some (some (n + 18)), some none, none, none, none, none, none] hn rfl rfl dX6_init_40 pf_X6_29 rfl (fun _ => ⟨rfl, rfl⟩) rfl ?_
  refine S_aload_0 (q := 44) dX6_init_43 rfl ?_
  refine S_bipush (q := 46) (nI 60) dX6_init_44 (by decide) rfl ?_
  refine S_hnewarr (q := 48) (o := n + 19) (c' := 19) (s' := 4450) ([.inl (1, [none, none, none, some (some (n + 2)), some (some (n + 6))]), .inl (0, [some (some (n + 3)), some (some (n + 4)), some (some (n + 5))]), .inr (.inl 16), .inr (.inl 128), .inr (.inl 128), .inr (.inl 64), .inl (5, [some (some (n + 8)), none, none, none]), .inl (3, [none, none, some (some (n + 9)), some (some (n + 10)), some (some (n + 11)), some (some (n + 12)), some (some (n + 13)), some (some (n + 14)), some (some (n + 15)), some (some (n + 16)), none, none]), .inr (.inl 8), .inr (.inl 8), .inr (.inl 8), .inr (.inl 8), .inr (.inl 4), .inr (.inl 4), .inr (.inl 9), .inr (.inl 81), .inr (.inl 3840), .inr (.inl 60), .inr (.inl 60)] : Lay) hn rfl rfl rfl dX6_init_46 rfl (by decide) rfl rfl (by decide) (by decide) rfl ?_
  generalize hM7 : upA M6 (n + 19) (fun _ => 0) = M7
  have e7 : ∀ a, a < n → M7 a = M a := fun a ha => by rw [← hM7, upA_n (by omega)]; exact e6 a ha
  refine S_hputF (q := 51) [some (some (n + 1)), some (some (n + 7)), some (some (n + 17)), some (some (n + 18)), some (some (n + 19)), none, none, none, none, none] hn rfl rfl dX6_init_48 pf_X6_32 rfl (fun _ => ⟨rfl, rfl⟩) rfl ?_
  refine S_aload_0 (q := 52) dX6_init_51 rfl ?_
  refine S_iconst (q := 53) (nI 0) dX6_init_52 (by decide) rfl ?_
  refine S_putI (q := 56) dX6_init_53 fp_X6_35 (hget hn) (by rfl) rfl (by rfl) rfl ?_
  generalize hM8 : up M7 (n) 5 (nI 0) = M8
  have e8 : ∀ a, a < n → M8 a = M a := fun a ha => by rw [← hM8, up_n (by omega)]; exact e7 a ha
  refine S_aload_0 (q := 57) dX6_init_56 rfl ?_
  refine S_iconst (q := 58) (nI 0) dX6_init_57 (by decide) rfl ?_
  refine S_putI (q := 61) dX6_init_58 fp_X6_39 (hget hn) (by rfl) rfl (by rfl) rfl ?_
  generalize hM9 : up M8 (n) 6 (nI 0) = M9
  have e9 : ∀ a, a < n → M9 a = M a := fun a ha => by rw [← hM9, up_n (by omega)]; exact e8 a ha
  refine S_aload_0 (q := 62) dX6_init_61 rfl ?_
  refine S_iconst (q := 63) (nI 0) dX6_init_62 (by decide) rfl ?_
  refine S_putI (q := 66) dX6_init_63 fp_X6_42 (hget hn) (by rfl) rfl (by rfl) rfl ?_
  generalize hM10 : up M9 (n) 7 (nI 0) = M10
  have e10 : ∀ a, a < n → M10 a = M a := fun a ha => by rw [← hM10, up_n (by omega)]; exact e9 a ha
  refine S_aload_0 (q := 67) dX6_init_66 rfl ?_
  refine S_iconst (q := 68) (nI 0) dX6_init_67 (by decide) rfl ?_
  refine S_putI (q := 71) dX6_init_68 fp_X6_45 (hget hn) (by rfl) rfl (by rfl) rfl ?_
  generalize hM11 : up M10 (n) 8 (nI 0) = M11
  have e11 : ∀ a, a < n → M11 a = M a := fun a ha => by rw [← hM11, up_n (by omega)]; exact e10 a ha
  refine S_aload_0 (q := 72) dX6_init_71 rfl ?_
  refine S_iconst (q := 73) (nI 0) dX6_init_72 (by decide) rfl ?_
  refine S_putI (q := 76) dX6_init_73 fp_X6_48 (hget hn) (by rfl) rfl (by rfl) rfl ?_
  generalize hM12 : up M11 (n) 9 (nI 0) = M12
  have e12 : ∀ a, a < n → M12 a = M a := fun a ha => by rw [← hM12, up_n (by omega)]; exact e11 a ha
  exact S_ret (v := 0) rfl dX6_init_76 rfl ⟨e12, trivial⟩
def zX7 (n : Nat) : Lay := [.inl (7, [some (some (n + 1)), none, none]), .inr (.inl 64)]
set_option maxHeartbeats 4000000 in
set_option maxRecDepth 100000 in
theorem c_X7 {l : Launch} {G : Gd} {b0 : Nat} {M : Mem} {p : Lay} {n : Nat} (hn : p.length = n) : Ct l G b0 yX7_init cX7_init 1 none (rmC 1 24 1 64) (p ++ [.inl (7, [some none, none, none])]) (p ++ zX7 n) M [.ref (b0 + n)] (fun _ M' => (∀ a, a < n → M' a = M a) ∧ M' (n) 1 = (-1)) := by
  refine Ct.of [some (.ref (b0 + n))] (by decide) (Nat.le_of_ble_eq_true rfl) rfl rfl ?_
  have e0 : ∀ a, a < n → M a = M a := fun _ _ => rfl
  refine S_aload_0 (q := 1) dX7_init_0 rfl ?_
  refine S_objInit (q := 4) dX7_init_1 oi_X7 oi_i oi_c (Nat.le_of_ble_eq_true rfl) (Nat.le_of_ble_eq_true rfl) rfl ?_
  refine S_aload_0 (q := 5) dX7_init_4 rfl ?_
  refine S_bipush (q := 7) (nI 64) dX7_init_5 (by decide) rfl ?_
  refine S_hnewarr (q := 9) (o := n + 1) (c' := 1) (s' := 64) ([.inr (.inl 64)] : Lay) hn rfl rfl rfl dX7_init_7 rfl (by decide) rfl rfl (by decide) (by decide) rfl ?_
  generalize hM1 : upA M (n + 1) (fun _ => 0) = M1
  have e1 : ∀ a, a < n → M1 a = M a := fun a ha => by rw [← hM1, upA_n (by omega)]
  refine S_hputF (q := 12) [some (some (n + 1)), none, none] hn rfl rfl dX7_init_9 pf_X7_9 rfl (fun _ => ⟨rfl, rfl⟩) rfl ?_
  refine S_aload_0 (q := 13) dX7_init_12 rfl ?_
  refine S_iconst (q := 14) ((-1)) dX7_init_13 (by decide) rfl ?_
  refine S_putI (q := 17) dX7_init_14 fp_X7_15 (hget hn) (by rfl) rfl (by rfl) rfl ?_
  generalize hM2 : up M1 (n) 1 ((-1)) = M2
  have e2 : ∀ a, a < n → M2 a = M a := fun a ha => by rw [← hM2, up_n (by omega)]; exact e1 a ha
  have f0_1_2 : M2 (n) 1 = (-1) := by rw [← hM2, up_s]
  refine S_aload_0 (q := 18) dX7_init_17 rfl ?_
  refine S_iconst (q := 19) (nI 0) dX7_init_18 (by decide) rfl ?_
  refine S_putI (q := 22) dX7_init_19 fp_X7_19 (hget hn) (by rfl) rfl (by rfl) rfl ?_
  generalize hM3 : up M2 (n) 2 (nI 0) = M3
  have e3 : ∀ a, a < n → M3 a = M a := fun a ha => by rw [← hM3, up_n (by omega)]; exact e2 a ha
  have f0_1_3 : M3 (n) 1 = (-1) := by rw [← hM3, up_a, upd_n (by omega)]; exact f0_1_2
  exact S_ret (v := 0) rfl dX7_init_22 rfl ⟨e3, f0_1_3⟩
def zX8 (m : Nat) (n : Nat) : Lay := [.inl (8, [some (some (n + 1)), none]), .inr (.inl m)]
set_option maxHeartbeats 4000000 in
set_option maxRecDepth 100000 in
theorem c_X8 {l : Launch} {G : Gd} {b0 : Nat} {M : Mem} {p : Lay} {n m : Nat} (hm : m ≤ 100000) (hn : p.length = n) : Ct l G b0 yX8_init cX8_init 2 none (rmC 1 24 1 m) (p ++ [.inl (8, [some none, none])]) (p ++ zX8 m n) M [.ref (b0 + n), .int (nI m)] (fun _ M' => (∀ a, a < n → M' a = M a) ∧ M' (n) 1 = nI 0) := by
  refine Ct.of [some (.ref (b0 + n)), some (.int (nI m))] (by decide) (Nat.le_of_ble_eq_true rfl) rfl rfl ?_
  have e0 : ∀ a, a < n → M a = M a := fun _ _ => rfl
  refine S_aload_0 (q := 1) dX8_init_0 rfl ?_
  refine S_objInit (q := 4) dX8_init_1 oi_X8 oi_i oi_c (Nat.le_of_ble_eq_true rfl) (Nat.le_of_ble_eq_true rfl) rfl ?_
  refine S_aload_0 (q := 5) dX8_init_4 rfl ?_
  refine S_iconst (q := 6) (nI 0) dX8_init_5 (by decide) rfl ?_
  refine S_putI (q := 9) dX8_init_6 fp_X8_7 (hget hn) (by rfl) rfl (by rfl) rfl ?_
  generalize hM1 : up M (n) 1 (nI 0) = M1
  have e1 : ∀ a, a < n → M1 a = M a := fun a ha => by rw [← hM1, up_n (by omega)]
  have f0_1_1 : M1 (n) 1 = nI 0 := by rw [← hM1, up_s]
  refine S_aload_0 (q := 10) dX8_init_9 rfl ?_
  refine S_iload_1 (q := 11) dX8_init_10 rfl ?_
  refine S_iconst (q := 12) (nI 0) dX8_init_11 (by decide) rfl ?_
  refine S_mmax (q := 15) dX8_init_12 lm_X8_13 (Nat.le_of_ble_eq_true rfl) (Nat.le_of_ble_eq_true rfl) ⟨Nat.zero_le _, Nat.zero_le _⟩ rfl ?_
  refine S_hnewarr (q := 17) (o := n + 1) (c' := 1) (s' := m) ([.inr (.inl m)] : Lay) hn rfl rfl rfl dX8_init_15 (by rw [if_neg (show ¬ (nI m < nI 0) from Int32.not_lt.mpr (nI_pos' (by omega)))]) hm rfl (Nat.zero_add m) (Nat.le_of_ble_eq_true rfl) (Nat.le_refl m) rfl ?_
  generalize hM2 : upA M1 (n + 1) (fun _ => 0) = M2
  have e2 : ∀ a, a < n → M2 a = M a := fun a ha => by rw [← hM2, upA_n (by omega)]; exact e1 a ha
  have f0_1_2 : M2 (n) 1 = nI 0 := by rw [← hM2, upA_n (by omega)]; exact f0_1_1
  refine S_hputF (q := 20) [some (some (n + 1)), none] hn rfl rfl dX8_init_17 pf_X8_19 rfl (fun _ => ⟨rfl, rfl⟩) rfl ?_
  exact S_ret (v := 0) rfl dX8_init_20 rfl ⟨e2, f0_1_2⟩
def zX2 (n : Nat) : Lay := [.inl (2, [some (some (n + 1)), none, none]), .inr (.inr (0, [some (n + 2), some (n + 8), some (n + 14), some (n + 20), some (n + 26), some (n + 32), some (n + 38), some (n + 44)])), .inl (1, [none, none, none, some (some (n + 3)), some (some (n + 7))]), .inl (0, [some (some (n + 4)), some (some (n + 5)), some (some (n + 6))]), .inr (.inl 16), .inr (.inl 128), .inr (.inl 128), .inr (.inl 64), .inl (1, [none, none, none, some (some (n + 9)), some (some (n + 13))]), .inl (0, [some (some (n + 10)), some (some (n + 11)), some (some (n + 12))]), .inr (.inl 16), .inr (.inl 128), .inr (.inl 128), .inr (.inl 64), .inl (1, [none, none, none, some (some (n + 15)), some (some (n + 19))]), .inl (0, [some (some (n + 16)), some (some (n + 17)), some (some (n + 18))]), .inr (.inl 16), .inr (.inl 128), .inr (.inl 128), .inr (.inl 64), .inl (1, [none, none, none, some (some (n + 21)), some (some (n + 25))]), .inl (0, [some (some (n + 22)), some (some (n + 23)), some (some (n + 24))]), .inr (.inl 16), .inr (.inl 128), .inr (.inl 128), .inr (.inl 64), .inl (1, [none, none, none, some (some (n + 27)), some (some (n + 31))]), .inl (0, [some (some (n + 28)), some (some (n + 29)), some (some (n + 30))]), .inr (.inl 16), .inr (.inl 128), .inr (.inl 128), .inr (.inl 64), .inl (1, [none, none, none, some (some (n + 33)), some (some (n + 37))]), .inl (0, [some (some (n + 34)), some (some (n + 35)), some (some (n + 36))]), .inr (.inl 16), .inr (.inl 128), .inr (.inl 128), .inr (.inl 64), .inl (1, [none, none, none, some (some (n + 39)), some (some (n + 43))]), .inl (0, [some (some (n + 40)), some (some (n + 41)), some (some (n + 42))]), .inr (.inl 16), .inr (.inl 128), .inr (.inl 128), .inr (.inl 64), .inl (1, [none, none, none, some (some (n + 45)), some (some (n + 49))]), .inl (0, [some (some (n + 46)), some (some (n + 47)), some (some (n + 48))]), .inr (.inl 16), .inr (.inl 128), .inr (.inl 128), .inr (.inl 64)]
set_option maxHeartbeats 4000000 in
set_option maxRecDepth 100000 in
theorem c_X2 {l : Launch} {G : Gd} {b0 : Nat} {M : Mem} {p : Lay} {n : Nat} (hn : p.length = n) : Ct l G b0 yX2_init cX2_init 2 none (rmC 3 64 49 2760) (p ++ [.inl (2, [some none, none, none])]) (p ++ zX2 n) M [.ref (b0 + n)] (fun _ M' => (∀ a, a < n → M' a = M a) ∧ M' (n) 1 = nI 0 ∧ M' (n) 2 = nI 0) := by
  refine Ct.of [some (.ref (b0 + n)), none] (by decide) (Nat.le_of_ble_eq_true rfl) rfl rfl ?_
  have e0 : ∀ a, a < n → M a = M a := fun _ _ => rfl
  refine S_aload_0 (q := 1) dX2_init_0 rfl ?_
  refine S_objInit (q := 4) dX2_init_1 oi_X2 oi_i oi_c (Nat.le_of_ble_eq_true rfl) (Nat.le_of_ble_eq_true rfl) rfl ?_
  refine S_aload_0 (q := 5) dX2_init_4 rfl ?_
  refine S_bipush (q := 7) (nI 8) dX2_init_5 (by decide) rfl ?_
  refine S_hanew (q := 10) (o := n + 1) (c' := 1) (s' := 8) (m := 8) (t := 0) ([.inr (.inr (0, [none, none, none, none, none, none, none, none]))] : Lay) hn rfl rfl rfl dX2_init_7 (by decide) rfl cw_X2_9 ao_X2_9 rfl (by decide) rfl rfl (by decide) (by decide) rfl ?_
  generalize hM1 : upA M (n + 1) (fun _ => 0) = M1
  have e1 : ∀ a, a < n → M1 a = M a := fun a ha => by rw [← hM1, upA_n (by omega)]
  refine S_hputF (q := 13) [some (some (n + 1)), none, none] hn rfl rfl dX2_init_10 pf_X2_11 rfl (fun _ => ⟨rfl, rfl⟩) rfl ?_
  refine S_aload_0 (q := 14) dX2_init_13 rfl ?_
  refine S_iconst (q := 15) (nI 0) dX2_init_14 (by decide) rfl ?_
  refine S_putI (q := 18) dX2_init_15 fp_X2_17 (hget hn) (by rfl) rfl (by rfl) rfl ?_
  generalize hM2 : up M1 (n) 1 (nI 0) = M2
  have e2 : ∀ a, a < n → M2 a = M a := fun a ha => by rw [← hM2, up_n (by omega)]; exact e1 a ha
  have f0_1_2 : M2 (n) 1 = nI 0 := by rw [← hM2, up_s]
  refine S_aload_0 (q := 19) dX2_init_18 rfl ?_
  refine S_iconst (q := 20) (nI 0) dX2_init_19 (by decide) rfl ?_
  refine S_putI (q := 23) dX2_init_20 fp_X2_21 (hget hn) (by rfl) rfl (by rfl) rfl ?_
  generalize hM3 : up M2 (n) 2 (nI 0) = M3
  have e3 : ∀ a, a < n → M3 a = M a := fun a ha => by rw [← hM3, up_n (by omega)]; exact e2 a ha
  have f0_1_3 : M3 (n) 1 = nI 0 := by rw [← hM3, up_a, upd_n (by omega)]; exact f0_1_2
  have f0_2_3 : M3 (n) 2 = nI 0 := by rw [← hM3, up_s]
  refine S_iconst (q := 24) (nI 0) dX2_init_23 (by decide) rfl ?_
  refine S_istore_1 (q := 25) dX2_init_24 rfl ?_
  refine S_iload_1 (q := 26) dX2_init_25 rfl ?_
  refine S_bipush (q := 28) (nI 8) dX2_init_26 (by decide) rfl ?_
  refine S_icmp_ge (t := 50) (q := 31) dX2_init_28 (by decide) rfl (fun hb => absurd hb (by decide)) (fun _ => ?_)
  refine S_aload_0 (q := 32) dX2_init_31 rfl ?_
  refine S_getR (q := 35) dX2_init_32 fl_X2_11 (hget hn) (by rfl) rfl ?_
  refine S_iload_1 (q := 36) dX2_init_35 rfl ?_
  refine S_hnew (q := 39) (o := n + 2) (c' := 2) (s' := 13) ([.inr (.inr (0, [none, none, none, none, none, none, none, none])), .inl (1, [none, none, none, some none, some none])] : Lay) hn rfl rfl rfl dX2_init_36 rfl in_X1 tyX1_ok cw_X2_9 ns_X1 ii_X1 df_X1 rfl rfl (by decide) (by decide) rfl ?_
  generalize hM4 : upA M3 (n + 2) (fun _ => 0) = M4
  have e4 : ∀ a, a < n → M4 a = M a := fun a ha => by rw [← hM4, upA_n (by omega)]; exact e3 a ha
  have f0_1_4 : M4 (n) 1 = nI 0 := by rw [← hM4, upA_n (by omega)]; exact f0_1_3
  have f0_2_4 : M4 (n) 2 = nI 0 := by rw [← hM4, upA_n (by omega)]; exact f0_2_3
  refine S_dup (q := 40) dX2_init_39 rfl rfl ?_
  refine S_hcall0 (q := 43) (o := n + 2) (c' := 7) (s' := 352) (Z := (zX1 (n + 2))) ([.inr (.inr (0, [none, none, none, none, none, none, none, none]))] : Lay) ([.inr (.inr (0, [none, none, none, none, none, none, none, none])), .inl (1, [none, none, none, some (some (n + 3)), some (some (n + 7))]), .inl (0, [some (some (n + 4)), some (some (n + 5)), some (some (n + 6))]), .inr (.inl 16), .inr (.inl 128), .inr (.inl 128), .inr (.inl 64)] : Lay) hn rfl rfl rfl rfl dX2_init_40 lk_X2_24 (c_X1 (hlen hn (r := 1) rfl)) rfl rfl (Nat.le_of_ble_eq_true rfl) (by decide) rfl rfl (by decide) (by decide) rfl (fun _ M5 hv5 => ?_)
  have e5 : ∀ a, a < n → M5 a = M a := fun a ha => by rw [hv5.1 a (by omega)]; exact e4 a ha
  have f0_1_5 : M5 (n) 1 = nI 0 := by rw [hv5.1 _ (by omega)]; exact f0_1_4
  have f0_2_5 : M5 (n) 2 = nI 0 := by rw [hv5.1 _ (by omega)]; exact f0_2_4
  refine S_haast (q := 44) (r := 0) (ro := 1) (i := 0) ([.inr (.inr (0, [some (n + 2), none, none, none, none, none, none, none])), .inl (1, [none, none, none, some (some (n + 3)), some (some (n + 7))]), .inl (0, [some (some (n + 4)), some (some (n + 5)), some (some (n + 6))]), .inr (.inl 16), .inr (.inl 128), .inr (.inl 128), .inr (.inl 64)] : Lay) hn rfl rfl rfl rfl rfl dX2_init_43 (by decide) rfl rfl rfl (Nat.le_of_ble_eq_true rfl) (Nat.le_of_ble_eq_true rfl) rfl ?_
  refine S_iinc_1 (q := 47) (nI 1) dX2_init_44 (by decide) rfl ?_
  refine S_goto (t := 25) dX2_init_47 (by decide) ?_
  refine S_iload_1 (q := 26) dX2_init_25 rfl ?_
  refine S_bipush (q := 28) (nI 8) dX2_init_26 (by decide) rfl ?_
  refine S_icmp_ge (t := 50) (q := 31) dX2_init_28 (by decide) rfl (fun hb => absurd hb (by decide)) (fun _ => ?_)
  refine S_aload_0 (q := 32) dX2_init_31 rfl ?_
  refine S_getR (q := 35) dX2_init_32 fl_X2_11 (hget hn) (by rfl) rfl ?_
  refine S_iload_1 (q := 36) dX2_init_35 rfl ?_
  refine S_hnew (q := 39) (o := n + 8) (c' := 8) (s' := 357) ([.inr (.inr (0, [some (n + 2), none, none, none, none, none, none, none])), .inl (1, [none, none, none, some (some (n + 3)), some (some (n + 7))]), .inl (0, [some (some (n + 4)), some (some (n + 5)), some (some (n + 6))]), .inr (.inl 16), .inr (.inl 128), .inr (.inl 128), .inr (.inl 64), .inl (1, [none, none, none, some none, some none])] : Lay) hn rfl rfl rfl dX2_init_36 rfl in_X1 tyX1_ok cw_X2_9 ns_X1 ii_X1 df_X1 rfl rfl (by decide) (by decide) rfl ?_
  generalize hM6 : upA M5 (n + 8) (fun _ => 0) = M6
  have e6 : ∀ a, a < n → M6 a = M a := fun a ha => by rw [← hM6, upA_n (by omega)]; exact e5 a ha
  have f0_1_6 : M6 (n) 1 = nI 0 := by rw [← hM6, upA_n (by omega)]; exact f0_1_5
  have f0_2_6 : M6 (n) 2 = nI 0 := by rw [← hM6, upA_n (by omega)]; exact f0_2_5
  refine S_dup (q := 40) dX2_init_39 rfl rfl ?_
  refine S_hcall0 (q := 43) (o := n + 8) (c' := 13) (s' := 696) (Z := (zX1 (n + 8))) ([.inr (.inr (0, [some (n + 2), none, none, none, none, none, none, none])), .inl (1, [none, none, none, some (some (n + 3)), some (some (n + 7))]), .inl (0, [some (some (n + 4)), some (some (n + 5)), some (some (n + 6))]), .inr (.inl 16), .inr (.inl 128), .inr (.inl 128), .inr (.inl 64)] : Lay) ([.inr (.inr (0, [some (n + 2), none, none, none, none, none, none, none])), .inl (1, [none, none, none, some (some (n + 3)), some (some (n + 7))]), .inl (0, [some (some (n + 4)), some (some (n + 5)), some (some (n + 6))]), .inr (.inl 16), .inr (.inl 128), .inr (.inl 128), .inr (.inl 64), .inl (1, [none, none, none, some (some (n + 9)), some (some (n + 13))]), .inl (0, [some (some (n + 10)), some (some (n + 11)), some (some (n + 12))]), .inr (.inl 16), .inr (.inl 128), .inr (.inl 128), .inr (.inl 64)] : Lay) hn rfl rfl rfl rfl dX2_init_40 lk_X2_24 (c_X1 (hlen hn (r := 7) rfl)) rfl rfl (Nat.le_of_ble_eq_true rfl) (by decide) rfl rfl (by decide) (by decide) rfl (fun _ M7 hv7 => ?_)
  have e7 : ∀ a, a < n → M7 a = M a := fun a ha => by rw [hv7.1 a (by omega)]; exact e6 a ha
  have f0_1_7 : M7 (n) 1 = nI 0 := by rw [hv7.1 _ (by omega)]; exact f0_1_6
  have f0_2_7 : M7 (n) 2 = nI 0 := by rw [hv7.1 _ (by omega)]; exact f0_2_6
  refine S_haast (q := 44) (r := 0) (ro := 7) (i := 1) ([.inr (.inr (0, [some (n + 2), some (n + 8), none, none, none, none, none, none])), .inl (1, [none, none, none, some (some (n + 3)), some (some (n + 7))]), .inl (0, [some (some (n + 4)), some (some (n + 5)), some (some (n + 6))]), .inr (.inl 16), .inr (.inl 128), .inr (.inl 128), .inr (.inl 64), .inl (1, [none, none, none, some (some (n + 9)), some (some (n + 13))]), .inl (0, [some (some (n + 10)), some (some (n + 11)), some (some (n + 12))]), .inr (.inl 16), .inr (.inl 128), .inr (.inl 128), .inr (.inl 64)] : Lay) hn rfl rfl rfl rfl rfl dX2_init_43 (by decide) rfl rfl rfl (Nat.le_of_ble_eq_true rfl) (Nat.le_of_ble_eq_true rfl) rfl ?_
  refine S_iinc_1 (q := 47) (nI 2) dX2_init_44 (by decide) rfl ?_
  refine S_goto (t := 25) dX2_init_47 (by decide) ?_
  refine S_iload_1 (q := 26) dX2_init_25 rfl ?_
  refine S_bipush (q := 28) (nI 8) dX2_init_26 (by decide) rfl ?_
  refine S_icmp_ge (t := 50) (q := 31) dX2_init_28 (by decide) rfl (fun hb => absurd hb (by decide)) (fun _ => ?_)
  refine S_aload_0 (q := 32) dX2_init_31 rfl ?_
  refine S_getR (q := 35) dX2_init_32 fl_X2_11 (hget hn) (by rfl) rfl ?_
  refine S_iload_1 (q := 36) dX2_init_35 rfl ?_
  refine S_hnew (q := 39) (o := n + 14) (c' := 14) (s' := 701) ([.inr (.inr (0, [some (n + 2), some (n + 8), none, none, none, none, none, none])), .inl (1, [none, none, none, some (some (n + 3)), some (some (n + 7))]), .inl (0, [some (some (n + 4)), some (some (n + 5)), some (some (n + 6))]), .inr (.inl 16), .inr (.inl 128), .inr (.inl 128), .inr (.inl 64), .inl (1, [none, none, none, some (some (n + 9)), some (some (n + 13))]), .inl (0, [some (some (n + 10)), some (some (n + 11)), some (some (n + 12))]), .inr (.inl 16), .inr (.inl 128), .inr (.inl 128), .inr (.inl 64), .inl (1, [none, none, none, some none, some none])] : Lay) hn rfl rfl rfl dX2_init_36 rfl in_X1 tyX1_ok cw_X2_9 ns_X1 ii_X1 df_X1 rfl rfl (by decide) (by decide) rfl ?_
  generalize hM8 : upA M7 (n + 14) (fun _ => 0) = M8
  have e8 : ∀ a, a < n → M8 a = M a := fun a ha => by rw [← hM8, upA_n (by omega)]; exact e7 a ha
  have f0_1_8 : M8 (n) 1 = nI 0 := by rw [← hM8, upA_n (by omega)]; exact f0_1_7
  have f0_2_8 : M8 (n) 2 = nI 0 := by rw [← hM8, upA_n (by omega)]; exact f0_2_7
  refine S_dup (q := 40) dX2_init_39 rfl rfl ?_
  refine S_hcall0 (q := 43) (o := n + 14) (c' := 19) (s' := 1040) (Z := (zX1 (n + 14))) ([.inr (.inr (0, [some (n + 2), some (n + 8), none, none, none, none, none, none])), .inl (1, [none, none, none, some (some (n + 3)), some (some (n + 7))]), .inl (0, [some (some (n + 4)), some (some (n + 5)), some (some (n + 6))]), .inr (.inl 16), .inr (.inl 128), .inr (.inl 128), .inr (.inl 64), .inl (1, [none, none, none, some (some (n + 9)), some (some (n + 13))]), .inl (0, [some (some (n + 10)), some (some (n + 11)), some (some (n + 12))]), .inr (.inl 16), .inr (.inl 128), .inr (.inl 128), .inr (.inl 64)] : Lay) ([.inr (.inr (0, [some (n + 2), some (n + 8), none, none, none, none, none, none])), .inl (1, [none, none, none, some (some (n + 3)), some (some (n + 7))]), .inl (0, [some (some (n + 4)), some (some (n + 5)), some (some (n + 6))]), .inr (.inl 16), .inr (.inl 128), .inr (.inl 128), .inr (.inl 64), .inl (1, [none, none, none, some (some (n + 9)), some (some (n + 13))]), .inl (0, [some (some (n + 10)), some (some (n + 11)), some (some (n + 12))]), .inr (.inl 16), .inr (.inl 128), .inr (.inl 128), .inr (.inl 64), .inl (1, [none, none, none, some (some (n + 15)), some (some (n + 19))]), .inl (0, [some (some (n + 16)), some (some (n + 17)), some (some (n + 18))]), .inr (.inl 16), .inr (.inl 128), .inr (.inl 128), .inr (.inl 64)] : Lay) hn rfl rfl rfl rfl dX2_init_40 lk_X2_24 (c_X1 (hlen hn (r := 13) rfl)) rfl rfl (Nat.le_of_ble_eq_true rfl) (by decide) rfl rfl (by decide) (by decide) rfl (fun _ M9 hv9 => ?_)
  have e9 : ∀ a, a < n → M9 a = M a := fun a ha => by rw [hv9.1 a (by omega)]; exact e8 a ha
  have f0_1_9 : M9 (n) 1 = nI 0 := by rw [hv9.1 _ (by omega)]; exact f0_1_8
  have f0_2_9 : M9 (n) 2 = nI 0 := by rw [hv9.1 _ (by omega)]; exact f0_2_8
  refine S_haast (q := 44) (r := 0) (ro := 13) (i := 2) ([.inr (.inr (0, [some (n + 2), some (n + 8), some (n + 14), none, none, none, none, none])), .inl (1, [none, none, none, some (some (n + 3)), some (some (n + 7))]), .inl (0, [some (some (n + 4)), some (some (n + 5)), some (some (n + 6))]), .inr (.inl 16), .inr (.inl 128), .inr (.inl 128), .inr (.inl 64), .inl (1, [none, none, none, some (some (n + 9)), some (some (n + 13))]), .inl (0, [some (some (n + 10)), some (some (n + 11)), some (some (n + 12))]), .inr (.inl 16), .inr (.inl 128), .inr (.inl 128), .inr (.inl 64), .inl (1, [none, none, none, some (some (n + 15)), some (some (n + 19))]), .inl (0, [some (some (n + 16)), some (some (n + 17)), some (some (n + 18))]), .inr (.inl 16), .inr (.inl 128), .inr (.inl 128), .inr (.inl 64)] : Lay) hn rfl rfl rfl rfl rfl dX2_init_43 (by decide) rfl rfl rfl (Nat.le_of_ble_eq_true rfl) (Nat.le_of_ble_eq_true rfl) rfl ?_
  refine S_iinc_1 (q := 47) (nI 3) dX2_init_44 (by decide) rfl ?_
  refine S_goto (t := 25) dX2_init_47 (by decide) ?_
  refine S_iload_1 (q := 26) dX2_init_25 rfl ?_
  refine S_bipush (q := 28) (nI 8) dX2_init_26 (by decide) rfl ?_
  refine S_icmp_ge (t := 50) (q := 31) dX2_init_28 (by decide) rfl (fun hb => absurd hb (by decide)) (fun _ => ?_)
  refine S_aload_0 (q := 32) dX2_init_31 rfl ?_
  refine S_getR (q := 35) dX2_init_32 fl_X2_11 (hget hn) (by rfl) rfl ?_
  refine S_iload_1 (q := 36) dX2_init_35 rfl ?_
  refine S_hnew (q := 39) (o := n + 20) (c' := 20) (s' := 1045) ([.inr (.inr (0, [some (n + 2), some (n + 8), some (n + 14), none, none, none, none, none])), .inl (1, [none, none, none, some (some (n + 3)), some (some (n + 7))]), .inl (0, [some (some (n + 4)), some (some (n + 5)), some (some (n + 6))]), .inr (.inl 16), .inr (.inl 128), .inr (.inl 128), .inr (.inl 64), .inl (1, [none, none, none, some (some (n + 9)), some (some (n + 13))]), .inl (0, [some (some (n + 10)), some (some (n + 11)), some (some (n + 12))]), .inr (.inl 16), .inr (.inl 128), .inr (.inl 128), .inr (.inl 64), .inl (1, [none, none, none, some (some (n + 15)), some (some (n + 19))]), .inl (0, [some (some (n + 16)), some (some (n + 17)), some (some (n + 18))]), .inr (.inl 16), .inr (.inl 128), .inr (.inl 128), .inr (.inl 64), .inl (1, [none, none, none, some none, some none])] : Lay) hn rfl rfl rfl dX2_init_36 rfl in_X1 tyX1_ok cw_X2_9 ns_X1 ii_X1 df_X1 rfl rfl (by decide) (by decide) rfl ?_
  generalize hM10 : upA M9 (n + 20) (fun _ => 0) = M10
  have e10 : ∀ a, a < n → M10 a = M a := fun a ha => by rw [← hM10, upA_n (by omega)]; exact e9 a ha
  have f0_1_10 : M10 (n) 1 = nI 0 := by rw [← hM10, upA_n (by omega)]; exact f0_1_9
  have f0_2_10 : M10 (n) 2 = nI 0 := by rw [← hM10, upA_n (by omega)]; exact f0_2_9
  refine S_dup (q := 40) dX2_init_39 rfl rfl ?_
  refine S_hcall0 (q := 43) (o := n + 20) (c' := 25) (s' := 1384) (Z := (zX1 (n + 20))) ([.inr (.inr (0, [some (n + 2), some (n + 8), some (n + 14), none, none, none, none, none])), .inl (1, [none, none, none, some (some (n + 3)), some (some (n + 7))]), .inl (0, [some (some (n + 4)), some (some (n + 5)), some (some (n + 6))]), .inr (.inl 16), .inr (.inl 128), .inr (.inl 128), .inr (.inl 64), .inl (1, [none, none, none, some (some (n + 9)), some (some (n + 13))]), .inl (0, [some (some (n + 10)), some (some (n + 11)), some (some (n + 12))]), .inr (.inl 16), .inr (.inl 128), .inr (.inl 128), .inr (.inl 64), .inl (1, [none, none, none, some (some (n + 15)), some (some (n + 19))]), .inl (0, [some (some (n + 16)), some (some (n + 17)), some (some (n + 18))]), .inr (.inl 16), .inr (.inl 128), .inr (.inl 128), .inr (.inl 64)] : Lay) ([.inr (.inr (0, [some (n + 2), some (n + 8), some (n + 14), none, none, none, none, none])), .inl (1, [none, none, none, some (some (n + 3)), some (some (n + 7))]), .inl (0, [some (some (n + 4)), some (some (n + 5)), some (some (n + 6))]), .inr (.inl 16), .inr (.inl 128), .inr (.inl 128), .inr (.inl 64), .inl (1, [none, none, none, some (some (n + 9)), some (some (n + 13))]), .inl (0, [some (some (n + 10)), some (some (n + 11)), some (some (n + 12))]), .inr (.inl 16), .inr (.inl 128), .inr (.inl 128), .inr (.inl 64), .inl (1, [none, none, none, some (some (n + 15)), some (some (n + 19))]), .inl (0, [some (some (n + 16)), some (some (n + 17)), some (some (n + 18))]), .inr (.inl 16), .inr (.inl 128), .inr (.inl 128), .inr (.inl 64), .inl (1, [none, none, none, some (some (n + 21)), some (some (n + 25))]), .inl (0, [some (some (n + 22)), some (some (n + 23)), some (some (n + 24))]), .inr (.inl 16), .inr (.inl 128), .inr (.inl 128), .inr (.inl 64)] : Lay) hn rfl rfl rfl rfl dX2_init_40 lk_X2_24 (c_X1 (hlen hn (r := 19) rfl)) rfl rfl (Nat.le_of_ble_eq_true rfl) (by decide) rfl rfl (by decide) (by decide) rfl (fun _ M11 hv11 => ?_)
  have e11 : ∀ a, a < n → M11 a = M a := fun a ha => by rw [hv11.1 a (by omega)]; exact e10 a ha
  have f0_1_11 : M11 (n) 1 = nI 0 := by rw [hv11.1 _ (by omega)]; exact f0_1_10
  have f0_2_11 : M11 (n) 2 = nI 0 := by rw [hv11.1 _ (by omega)]; exact f0_2_10
  refine S_haast (q := 44) (r := 0) (ro := 19) (i := 3) ([.inr (.inr (0, [some (n + 2), some (n + 8), some (n + 14), some (n + 20), none, none, none, none])), .inl (1, [none, none, none, some (some (n + 3)), some (some (n + 7))]), .inl (0, [some (some (n + 4)), some (some (n + 5)), some (some (n + 6))]), .inr (.inl 16), .inr (.inl 128), .inr (.inl 128), .inr (.inl 64), .inl (1, [none, none, none, some (some (n + 9)), some (some (n + 13))]), .inl (0, [some (some (n + 10)), some (some (n + 11)), some (some (n + 12))]), .inr (.inl 16), .inr (.inl 128), .inr (.inl 128), .inr (.inl 64), .inl (1, [none, none, none, some (some (n + 15)), some (some (n + 19))]), .inl (0, [some (some (n + 16)), some (some (n + 17)), some (some (n + 18))]), .inr (.inl 16), .inr (.inl 128), .inr (.inl 128), .inr (.inl 64), .inl (1, [none, none, none, some (some (n + 21)), some (some (n + 25))]), .inl (0, [some (some (n + 22)), some (some (n + 23)), some (some (n + 24))]), .inr (.inl 16), .inr (.inl 128), .inr (.inl 128), .inr (.inl 64)] : Lay) hn rfl rfl rfl rfl rfl dX2_init_43 (by decide) rfl rfl rfl (Nat.le_of_ble_eq_true rfl) (Nat.le_of_ble_eq_true rfl) rfl ?_
  refine S_iinc_1 (q := 47) (nI 4) dX2_init_44 (by decide) rfl ?_
  refine S_goto (t := 25) dX2_init_47 (by decide) ?_
  refine S_iload_1 (q := 26) dX2_init_25 rfl ?_
  refine S_bipush (q := 28) (nI 8) dX2_init_26 (by decide) rfl ?_
  refine S_icmp_ge (t := 50) (q := 31) dX2_init_28 (by decide) rfl (fun hb => absurd hb (by decide)) (fun _ => ?_)
  refine S_aload_0 (q := 32) dX2_init_31 rfl ?_
  refine S_getR (q := 35) dX2_init_32 fl_X2_11 (hget hn) (by rfl) rfl ?_
  refine S_iload_1 (q := 36) dX2_init_35 rfl ?_
  refine S_hnew (q := 39) (o := n + 26) (c' := 26) (s' := 1389) ([.inr (.inr (0, [some (n + 2), some (n + 8), some (n + 14), some (n + 20), none, none, none, none])), .inl (1, [none, none, none, some (some (n + 3)), some (some (n + 7))]), .inl (0, [some (some (n + 4)), some (some (n + 5)), some (some (n + 6))]), .inr (.inl 16), .inr (.inl 128), .inr (.inl 128), .inr (.inl 64), .inl (1, [none, none, none, some (some (n + 9)), some (some (n + 13))]), .inl (0, [some (some (n + 10)), some (some (n + 11)), some (some (n + 12))]), .inr (.inl 16), .inr (.inl 128), .inr (.inl 128), .inr (.inl 64), .inl (1, [none, none, none, some (some (n + 15)), some (some (n + 19))]), .inl (0, [some (some (n + 16)), some (some (n + 17)), some (some (n + 18))]), .inr (.inl 16), .inr (.inl 128), .inr (.inl 128), .inr (.inl 64), .inl (1, [none, none, none, some (some (n + 21)), some (some (n + 25))]), .inl (0, [some (some (n + 22)), some (some (n + 23)), some (some (n + 24))]), .inr (.inl 16), .inr (.inl 128), .inr (.inl 128), .inr (.inl 64), .inl (1, [none, none, none, some none, some none])] : Lay) hn rfl rfl rfl dX2_init_36 rfl in_X1 tyX1_ok cw_X2_9 ns_X1 ii_X1 df_X1 rfl rfl (by decide) (by decide) rfl ?_
  generalize hM12 : upA M11 (n + 26) (fun _ => 0) = M12
  have e12 : ∀ a, a < n → M12 a = M a := fun a ha => by rw [← hM12, upA_n (by omega)]; exact e11 a ha
  have f0_1_12 : M12 (n) 1 = nI 0 := by rw [← hM12, upA_n (by omega)]; exact f0_1_11
  have f0_2_12 : M12 (n) 2 = nI 0 := by rw [← hM12, upA_n (by omega)]; exact f0_2_11
  refine S_dup (q := 40) dX2_init_39 rfl rfl ?_
  refine S_hcall0 (q := 43) (o := n + 26) (c' := 31) (s' := 1728) (Z := (zX1 (n + 26))) ([.inr (.inr (0, [some (n + 2), some (n + 8), some (n + 14), some (n + 20), none, none, none, none])), .inl (1, [none, none, none, some (some (n + 3)), some (some (n + 7))]), .inl (0, [some (some (n + 4)), some (some (n + 5)), some (some (n + 6))]), .inr (.inl 16), .inr (.inl 128), .inr (.inl 128), .inr (.inl 64), .inl (1, [none, none, none, some (some (n + 9)), some (some (n + 13))]), .inl (0, [some (some (n + 10)), some (some (n + 11)), some (some (n + 12))]), .inr (.inl 16), .inr (.inl 128), .inr (.inl 128), .inr (.inl 64), .inl (1, [none, none, none, some (some (n + 15)), some (some (n + 19))]), .inl (0, [some (some (n + 16)), some (some (n + 17)), some (some (n + 18))]), .inr (.inl 16), .inr (.inl 128), .inr (.inl 128), .inr (.inl 64), .inl (1, [none, none, none, some (some (n + 21)), some (some (n + 25))]), .inl (0, [some (some (n + 22)), some (some (n + 23)), some (some (n + 24))]), .inr (.inl 16), .inr (.inl 128), .inr (.inl 128), .inr (.inl 64)] : Lay) ([.inr (.inr (0, [some (n + 2), some (n + 8), some (n + 14), some (n + 20), none, none, none, none])), .inl (1, [none, none, none, some (some (n + 3)), some (some (n + 7))]), .inl (0, [some (some (n + 4)), some (some (n + 5)), some (some (n + 6))]), .inr (.inl 16), .inr (.inl 128), .inr (.inl 128), .inr (.inl 64), .inl (1, [none, none, none, some (some (n + 9)), some (some (n + 13))]), .inl (0, [some (some (n + 10)), some (some (n + 11)), some (some (n + 12))]), .inr (.inl 16), .inr (.inl 128), .inr (.inl 128), .inr (.inl 64), .inl (1, [none, none, none, some (some (n + 15)), some (some (n + 19))]), .inl (0, [some (some (n + 16)), some (some (n + 17)), some (some (n + 18))]), .inr (.inl 16), .inr (.inl 128), .inr (.inl 128), .inr (.inl 64), .inl (1, [none, none, none, some (some (n + 21)), some (some (n + 25))]), .inl (0, [some (some (n + 22)), some (some (n + 23)), some (some (n + 24))]), .inr (.inl 16), .inr (.inl 128), .inr (.inl 128), .inr (.inl 64), .inl (1, [none, none, none, some (some (n + 27)), some (some (n + 31))]), .inl (0, [some (some (n + 28)), some (some (n + 29)), some (some (n + 30))]), .inr (.inl 16), .inr (.inl 128), .inr (.inl 128), .inr (.inl 64)] : Lay) hn rfl rfl rfl rfl dX2_init_40 lk_X2_24 (c_X1 (hlen hn (r := 25) rfl)) rfl rfl (Nat.le_of_ble_eq_true rfl) (by decide) rfl rfl (by decide) (by decide) rfl (fun _ M13 hv13 => ?_)
  have e13 : ∀ a, a < n → M13 a = M a := fun a ha => by rw [hv13.1 a (by omega)]; exact e12 a ha
  have f0_1_13 : M13 (n) 1 = nI 0 := by rw [hv13.1 _ (by omega)]; exact f0_1_12
  have f0_2_13 : M13 (n) 2 = nI 0 := by rw [hv13.1 _ (by omega)]; exact f0_2_12
  refine S_haast (q := 44) (r := 0) (ro := 25) (i := 4) ([.inr (.inr (0, [some (n + 2), some (n + 8), some (n + 14), some (n + 20), some (n + 26), none, none, none])), .inl (1, [none, none, none, some (some (n + 3)), some (some (n + 7))]), .inl (0, [some (some (n + 4)), some (some (n + 5)), some (some (n + 6))]), .inr (.inl 16), .inr (.inl 128), .inr (.inl 128), .inr (.inl 64), .inl (1, [none, none, none, some (some (n + 9)), some (some (n + 13))]), .inl (0, [some (some (n + 10)), some (some (n + 11)), some (some (n + 12))]), .inr (.inl 16), .inr (.inl 128), .inr (.inl 128), .inr (.inl 64), .inl (1, [none, none, none, some (some (n + 15)), some (some (n + 19))]), .inl (0, [some (some (n + 16)), some (some (n + 17)), some (some (n + 18))]), .inr (.inl 16), .inr (.inl 128), .inr (.inl 128), .inr (.inl 64), .inl (1, [none, none, none, some (some (n + 21)), some (some (n + 25))]), .inl (0, [some (some (n + 22)), some (some (n + 23)), some (some (n + 24))]), .inr (.inl 16), .inr (.inl 128), .inr (.inl 128), .inr (.inl 64), .inl (1, [none, none, none, some (some (n + 27)), some (some (n + 31))]), .inl (0, [some (some (n + 28)), some (some (n + 29)), some (some (n + 30))]), .inr (.inl 16), .inr (.inl 128), .inr (.inl 128), .inr (.inl 64)] : Lay) hn rfl rfl rfl rfl rfl dX2_init_43 (by decide) rfl rfl rfl (Nat.le_of_ble_eq_true rfl) (Nat.le_of_ble_eq_true rfl) rfl ?_
  refine S_iinc_1 (q := 47) (nI 5) dX2_init_44 (by decide) rfl ?_
  refine S_goto (t := 25) dX2_init_47 (by decide) ?_
  refine S_iload_1 (q := 26) dX2_init_25 rfl ?_
  refine S_bipush (q := 28) (nI 8) dX2_init_26 (by decide) rfl ?_
  refine S_icmp_ge (t := 50) (q := 31) dX2_init_28 (by decide) rfl (fun hb => absurd hb (by decide)) (fun _ => ?_)
  refine S_aload_0 (q := 32) dX2_init_31 rfl ?_
  refine S_getR (q := 35) dX2_init_32 fl_X2_11 (hget hn) (by rfl) rfl ?_
  refine S_iload_1 (q := 36) dX2_init_35 rfl ?_
  refine S_hnew (q := 39) (o := n + 32) (c' := 32) (s' := 1733) ([.inr (.inr (0, [some (n + 2), some (n + 8), some (n + 14), some (n + 20), some (n + 26), none, none, none])), .inl (1, [none, none, none, some (some (n + 3)), some (some (n + 7))]), .inl (0, [some (some (n + 4)), some (some (n + 5)), some (some (n + 6))]), .inr (.inl 16), .inr (.inl 128), .inr (.inl 128), .inr (.inl 64), .inl (1, [none, none, none, some (some (n + 9)), some (some (n + 13))]), .inl (0, [some (some (n + 10)), some (some (n + 11)), some (some (n + 12))]), .inr (.inl 16), .inr (.inl 128), .inr (.inl 128), .inr (.inl 64), .inl (1, [none, none, none, some (some (n + 15)), some (some (n + 19))]), .inl (0, [some (some (n + 16)), some (some (n + 17)), some (some (n + 18))]), .inr (.inl 16), .inr (.inl 128), .inr (.inl 128), .inr (.inl 64), .inl (1, [none, none, none, some (some (n + 21)), some (some (n + 25))]), .inl (0, [some (some (n + 22)), some (some (n + 23)), some (some (n + 24))]), .inr (.inl 16), .inr (.inl 128), .inr (.inl 128), .inr (.inl 64), .inl (1, [none, none, none, some (some (n + 27)), some (some (n + 31))]), .inl (0, [some (some (n + 28)), some (some (n + 29)), some (some (n + 30))]), .inr (.inl 16), .inr (.inl 128), .inr (.inl 128), .inr (.inl 64), .inl (1, [none, none, none, some none, some none])] : Lay) hn rfl rfl rfl dX2_init_36 rfl in_X1 tyX1_ok cw_X2_9 ns_X1 ii_X1 df_X1 rfl rfl (by decide) (by decide) rfl ?_
  generalize hM14 : upA M13 (n + 32) (fun _ => 0) = M14
  have e14 : ∀ a, a < n → M14 a = M a := fun a ha => by rw [← hM14, upA_n (by omega)]; exact e13 a ha
  have f0_1_14 : M14 (n) 1 = nI 0 := by rw [← hM14, upA_n (by omega)]; exact f0_1_13
  have f0_2_14 : M14 (n) 2 = nI 0 := by rw [← hM14, upA_n (by omega)]; exact f0_2_13
  refine S_dup (q := 40) dX2_init_39 rfl rfl ?_
  refine S_hcall0 (q := 43) (o := n + 32) (c' := 37) (s' := 2072) (Z := (zX1 (n + 32))) ([.inr (.inr (0, [some (n + 2), some (n + 8), some (n + 14), some (n + 20), some (n + 26), none, none, none])), .inl (1, [none, none, none, some (some (n + 3)), some (some (n + 7))]), .inl (0, [some (some (n + 4)), some (some (n + 5)), some (some (n + 6))]), .inr (.inl 16), .inr (.inl 128), .inr (.inl 128), .inr (.inl 64), .inl (1, [none, none, none, some (some (n + 9)), some (some (n + 13))]), .inl (0, [some (some (n + 10)), some (some (n + 11)), some (some (n + 12))]), .inr (.inl 16), .inr (.inl 128), .inr (.inl 128), .inr (.inl 64), .inl (1, [none, none, none, some (some (n + 15)), some (some (n + 19))]), .inl (0, [some (some (n + 16)), some (some (n + 17)), some (some (n + 18))]), .inr (.inl 16), .inr (.inl 128), .inr (.inl 128), .inr (.inl 64), .inl (1, [none, none, none, some (some (n + 21)), some (some (n + 25))]), .inl (0, [some (some (n + 22)), some (some (n + 23)), some (some (n + 24))]), .inr (.inl 16), .inr (.inl 128), .inr (.inl 128), .inr (.inl 64), .inl (1, [none, none, none, some (some (n + 27)), some (some (n + 31))]), .inl (0, [some (some (n + 28)), some (some (n + 29)), some (some (n + 30))]), .inr (.inl 16), .inr (.inl 128), .inr (.inl 128), .inr (.inl 64)] : Lay) ([.inr (.inr (0, [some (n + 2), some (n + 8), some (n + 14), some (n + 20), some (n + 26), none, none, none])), .inl (1, [none, none, none, some (some (n + 3)), some (some (n + 7))]), .inl (0, [some (some (n + 4)), some (some (n + 5)), some (some (n + 6))]), .inr (.inl 16), .inr (.inl 128), .inr (.inl 128), .inr (.inl 64), .inl (1, [none, none, none, some (some (n + 9)), some (some (n + 13))]), .inl (0, [some (some (n + 10)), some (some (n + 11)), some (some (n + 12))]), .inr (.inl 16), .inr (.inl 128), .inr (.inl 128), .inr (.inl 64), .inl (1, [none, none, none, some (some (n + 15)), some (some (n + 19))]), .inl (0, [some (some (n + 16)), some (some (n + 17)), some (some (n + 18))]), .inr (.inl 16), .inr (.inl 128), .inr (.inl 128), .inr (.inl 64), .inl (1, [none, none, none, some (some (n + 21)), some (some (n + 25))]), .inl (0, [some (some (n + 22)), some (some (n + 23)), some (some (n + 24))]), .inr (.inl 16), .inr (.inl 128), .inr (.inl 128), .inr (.inl 64), .inl (1, [none, none, none, some (some (n + 27)), some (some (n + 31))]), .inl (0, [some (some (n + 28)), some (some (n + 29)), some (some (n + 30))]), .inr (.inl 16), .inr (.inl 128), .inr (.inl 128), .inr (.inl 64), .inl (1, [none, none, none, some (some (n + 33)), some (some (n + 37))]), .inl (0, [some (some (n + 34)), some (some (n + 35)), some (some (n + 36))]), .inr (.inl 16), .inr (.inl 128), .inr (.inl 128), .inr (.inl 64)] : Lay) hn rfl rfl rfl rfl dX2_init_40 lk_X2_24 (c_X1 (hlen hn (r := 31) rfl)) rfl rfl (Nat.le_of_ble_eq_true rfl) (by decide) rfl rfl (by decide) (by decide) rfl (fun _ M15 hv15 => ?_)
  have e15 : ∀ a, a < n → M15 a = M a := fun a ha => by rw [hv15.1 a (by omega)]; exact e14 a ha
  have f0_1_15 : M15 (n) 1 = nI 0 := by rw [hv15.1 _ (by omega)]; exact f0_1_14
  have f0_2_15 : M15 (n) 2 = nI 0 := by rw [hv15.1 _ (by omega)]; exact f0_2_14
  refine S_haast (q := 44) (r := 0) (ro := 31) (i := 5) ([.inr (.inr (0, [some (n + 2), some (n + 8), some (n + 14), some (n + 20), some (n + 26), some (n + 32), none, none])), .inl (1, [none, none, none, some (some (n + 3)), some (some (n + 7))]), .inl (0, [some (some (n + 4)), some (some (n + 5)), some (some (n + 6))]), .inr (.inl 16), .inr (.inl 128), .inr (.inl 128), .inr (.inl 64), .inl (1, [none, none, none, some (some (n + 9)), some (some (n + 13))]), .inl (0, [some (some (n + 10)), some (some (n + 11)), some (some (n + 12))]), .inr (.inl 16), .inr (.inl 128), .inr (.inl 128), .inr (.inl 64), .inl (1, [none, none, none, some (some (n + 15)), some (some (n + 19))]), .inl (0, [some (some (n + 16)), some (some (n + 17)), some (some (n + 18))]), .inr (.inl 16), .inr (.inl 128), .inr (.inl 128), .inr (.inl 64), .inl (1, [none, none, none, some (some (n + 21)), some (some (n + 25))]), .inl (0, [some (some (n + 22)), some (some (n + 23)), some (some (n + 24))]), .inr (.inl 16), .inr (.inl 128), .inr (.inl 128), .inr (.inl 64), .inl (1, [none, none, none, some (some (n + 27)), some (some (n + 31))]), .inl (0, [some (some (n + 28)), some (some (n + 29)), some (some (n + 30))]), .inr (.inl 16), .inr (.inl 128), .inr (.inl 128), .inr (.inl 64), .inl (1, [none, none, none, some (some (n + 33)), some (some (n + 37))]), .inl (0, [some (some (n + 34)), some (some (n + 35)), some (some (n + 36))]), .inr (.inl 16), .inr (.inl 128), .inr (.inl 128), .inr (.inl 64)] : Lay) hn rfl rfl rfl rfl rfl dX2_init_43 (by decide) rfl rfl rfl (Nat.le_of_ble_eq_true rfl) (Nat.le_of_ble_eq_true rfl) rfl ?_
  refine S_iinc_1 (q := 47) (nI 6) dX2_init_44 (by decide) rfl ?_
  refine S_goto (t := 25) dX2_init_47 (by decide) ?_
  refine S_iload_1 (q := 26) dX2_init_25 rfl ?_
  refine S_bipush (q := 28) (nI 8) dX2_init_26 (by decide) rfl ?_
  refine S_icmp_ge (t := 50) (q := 31) dX2_init_28 (by decide) rfl (fun hb => absurd hb (by decide)) (fun _ => ?_)
  refine S_aload_0 (q := 32) dX2_init_31 rfl ?_
  refine S_getR (q := 35) dX2_init_32 fl_X2_11 (hget hn) (by rfl) rfl ?_
  refine S_iload_1 (q := 36) dX2_init_35 rfl ?_
  refine S_hnew (q := 39) (o := n + 38) (c' := 38) (s' := 2077) ([.inr (.inr (0, [some (n + 2), some (n + 8), some (n + 14), some (n + 20), some (n + 26), some (n + 32), none, none])), .inl (1, [none, none, none, some (some (n + 3)), some (some (n + 7))]), .inl (0, [some (some (n + 4)), some (some (n + 5)), some (some (n + 6))]), .inr (.inl 16), .inr (.inl 128), .inr (.inl 128), .inr (.inl 64), .inl (1, [none, none, none, some (some (n + 9)), some (some (n + 13))]), .inl (0, [some (some (n + 10)), some (some (n + 11)), some (some (n + 12))]), .inr (.inl 16), .inr (.inl 128), .inr (.inl 128), .inr (.inl 64), .inl (1, [none, none, none, some (some (n + 15)), some (some (n + 19))]), .inl (0, [some (some (n + 16)), some (some (n + 17)), some (some (n + 18))]), .inr (.inl 16), .inr (.inl 128), .inr (.inl 128), .inr (.inl 64), .inl (1, [none, none, none, some (some (n + 21)), some (some (n + 25))]), .inl (0, [some (some (n + 22)), some (some (n + 23)), some (some (n + 24))]), .inr (.inl 16), .inr (.inl 128), .inr (.inl 128), .inr (.inl 64), .inl (1, [none, none, none, some (some (n + 27)), some (some (n + 31))]), .inl (0, [some (some (n + 28)), some (some (n + 29)), some (some (n + 30))]), .inr (.inl 16), .inr (.inl 128), .inr (.inl 128), .inr (.inl 64), .inl (1, [none, none, none, some (some (n + 33)), some (some (n + 37))]), .inl (0, [some (some (n + 34)), some (some (n + 35)), some (some (n + 36))]), .inr (.inl 16), .inr (.inl 128), .inr (.inl 128), .inr (.inl 64), .inl (1, [none, none, none, some none, some none])] : Lay) hn rfl rfl rfl dX2_init_36 rfl in_X1 tyX1_ok cw_X2_9 ns_X1 ii_X1 df_X1 rfl rfl (by decide) (by decide) rfl ?_
  generalize hM16 : upA M15 (n + 38) (fun _ => 0) = M16
  have e16 : ∀ a, a < n → M16 a = M a := fun a ha => by rw [← hM16, upA_n (by omega)]; exact e15 a ha
  have f0_1_16 : M16 (n) 1 = nI 0 := by rw [← hM16, upA_n (by omega)]; exact f0_1_15
  have f0_2_16 : M16 (n) 2 = nI 0 := by rw [← hM16, upA_n (by omega)]; exact f0_2_15
  refine S_dup (q := 40) dX2_init_39 rfl rfl ?_
  refine S_hcall0 (q := 43) (o := n + 38) (c' := 43) (s' := 2416) (Z := (zX1 (n + 38))) ([.inr (.inr (0, [some (n + 2), some (n + 8), some (n + 14), some (n + 20), some (n + 26), some (n + 32), none, none])), .inl (1, [none, none, none, some (some (n + 3)), some (some (n + 7))]), .inl (0, [some (some (n + 4)), some (some (n + 5)), some (some (n + 6))]), .inr (.inl 16), .inr (.inl 128), .inr (.inl 128), .inr (.inl 64), .inl (1, [none, none, none, some (some (n + 9)), some (some (n + 13))]), .inl (0, [some (some (n + 10)), some (some (n + 11)), some (some (n + 12))]), .inr (.inl 16), .inr (.inl 128), .inr (.inl 128), .inr (.inl 64), .inl (1, [none, none, none, some (some (n + 15)), some (some (n + 19))]), .inl (0, [some (some (n + 16)), some (some (n + 17)), some (some (n + 18))]), .inr (.inl 16), .inr (.inl 128), .inr (.inl 128), .inr (.inl 64), .inl (1, [none, none, none, some (some (n + 21)), some (some (n + 25))]), .inl (0, [some (some (n + 22)), some (some (n + 23)), some (some (n + 24))]), .inr (.inl 16), .inr (.inl 128), .inr (.inl 128), .inr (.inl 64), .inl (1, [none, none, none, some (some (n + 27)), some (some (n + 31))]), .inl (0, [some (some (n + 28)), some (some (n + 29)), some (some (n + 30))]), .inr (.inl 16), .inr (.inl 128), .inr (.inl 128), .inr (.inl 64), .inl (1, [none, none, none, some (some (n + 33)), some (some (n + 37))]), .inl (0, [some (some (n + 34)), some (some (n + 35)), some (some (n + 36))]), .inr (.inl 16), .inr (.inl 128), .inr (.inl 128), .inr (.inl 64)] : Lay) ([.inr (.inr (0, [some (n + 2), some (n + 8), some (n + 14), some (n + 20), some (n + 26), some (n + 32), none, none])), .inl (1, [none, none, none, some (some (n + 3)), some (some (n + 7))]), .inl (0, [some (some (n + 4)), some (some (n + 5)), some (some (n + 6))]), .inr (.inl 16), .inr (.inl 128), .inr (.inl 128), .inr (.inl 64), .inl (1, [none, none, none, some (some (n + 9)), some (some (n + 13))]), .inl (0, [some (some (n + 10)), some (some (n + 11)), some (some (n + 12))]), .inr (.inl 16), .inr (.inl 128), .inr (.inl 128), .inr (.inl 64), .inl (1, [none, none, none, some (some (n + 15)), some (some (n + 19))]), .inl (0, [some (some (n + 16)), some (some (n + 17)), some (some (n + 18))]), .inr (.inl 16), .inr (.inl 128), .inr (.inl 128), .inr (.inl 64), .inl (1, [none, none, none, some (some (n + 21)), some (some (n + 25))]), .inl (0, [some (some (n + 22)), some (some (n + 23)), some (some (n + 24))]), .inr (.inl 16), .inr (.inl 128), .inr (.inl 128), .inr (.inl 64), .inl (1, [none, none, none, some (some (n + 27)), some (some (n + 31))]), .inl (0, [some (some (n + 28)), some (some (n + 29)), some (some (n + 30))]), .inr (.inl 16), .inr (.inl 128), .inr (.inl 128), .inr (.inl 64), .inl (1, [none, none, none, some (some (n + 33)), some (some (n + 37))]), .inl (0, [some (some (n + 34)), some (some (n + 35)), some (some (n + 36))]), .inr (.inl 16), .inr (.inl 128), .inr (.inl 128), .inr (.inl 64), .inl (1, [none, none, none, some (some (n + 39)), some (some (n + 43))]), .inl (0, [some (some (n + 40)), some (some (n + 41)), some (some (n + 42))]), .inr (.inl 16), .inr (.inl 128), .inr (.inl 128), .inr (.inl 64)] : Lay) hn rfl rfl rfl rfl dX2_init_40 lk_X2_24 (c_X1 (hlen hn (r := 37) rfl)) rfl rfl (Nat.le_of_ble_eq_true rfl) (by decide) rfl rfl (by decide) (by decide) rfl (fun _ M17 hv17 => ?_)
  have e17 : ∀ a, a < n → M17 a = M a := fun a ha => by rw [hv17.1 a (by omega)]; exact e16 a ha
  have f0_1_17 : M17 (n) 1 = nI 0 := by rw [hv17.1 _ (by omega)]; exact f0_1_16
  have f0_2_17 : M17 (n) 2 = nI 0 := by rw [hv17.1 _ (by omega)]; exact f0_2_16
  refine S_haast (q := 44) (r := 0) (ro := 37) (i := 6) ([.inr (.inr (0, [some (n + 2), some (n + 8), some (n + 14), some (n + 20), some (n + 26), some (n + 32), some (n + 38), none])), .inl (1, [none, none, none, some (some (n + 3)), some (some (n + 7))]), .inl (0, [some (some (n + 4)), some (some (n + 5)), some (some (n + 6))]), .inr (.inl 16), .inr (.inl 128), .inr (.inl 128), .inr (.inl 64), .inl (1, [none, none, none, some (some (n + 9)), some (some (n + 13))]), .inl (0, [some (some (n + 10)), some (some (n + 11)), some (some (n + 12))]), .inr (.inl 16), .inr (.inl 128), .inr (.inl 128), .inr (.inl 64), .inl (1, [none, none, none, some (some (n + 15)), some (some (n + 19))]), .inl (0, [some (some (n + 16)), some (some (n + 17)), some (some (n + 18))]), .inr (.inl 16), .inr (.inl 128), .inr (.inl 128), .inr (.inl 64), .inl (1, [none, none, none, some (some (n + 21)), some (some (n + 25))]), .inl (0, [some (some (n + 22)), some (some (n + 23)), some (some (n + 24))]), .inr (.inl 16), .inr (.inl 128), .inr (.inl 128), .inr (.inl 64), .inl (1, [none, none, none, some (some (n + 27)), some (some (n + 31))]), .inl (0, [some (some (n + 28)), some (some (n + 29)), some (some (n + 30))]), .inr (.inl 16), .inr (.inl 128), .inr (.inl 128), .inr (.inl 64), .inl (1, [none, none, none, some (some (n + 33)), some (some (n + 37))]), .inl (0, [some (some (n + 34)), some (some (n + 35)), some (some (n + 36))]), .inr (.inl 16), .inr (.inl 128), .inr (.inl 128), .inr (.inl 64), .inl (1, [none, none, none, some (some (n + 39)), some (some (n + 43))]), .inl (0, [some (some (n + 40)), some (some (n + 41)), some (some (n + 42))]), .inr (.inl 16), .inr (.inl 128), .inr (.inl 128), .inr (.inl 64)] : Lay) hn rfl rfl rfl rfl rfl dX2_init_43 (by decide) rfl rfl rfl (Nat.le_of_ble_eq_true rfl) (Nat.le_of_ble_eq_true rfl) rfl ?_
  refine S_iinc_1 (q := 47) (nI 7) dX2_init_44 (by decide) rfl ?_
  refine S_goto (t := 25) dX2_init_47 (by decide) ?_
  refine S_iload_1 (q := 26) dX2_init_25 rfl ?_
  refine S_bipush (q := 28) (nI 8) dX2_init_26 (by decide) rfl ?_
  refine S_icmp_ge (t := 50) (q := 31) dX2_init_28 (by decide) rfl (fun hb => absurd hb (by decide)) (fun _ => ?_)
  refine S_aload_0 (q := 32) dX2_init_31 rfl ?_
  refine S_getR (q := 35) dX2_init_32 fl_X2_11 (hget hn) (by rfl) rfl ?_
  refine S_iload_1 (q := 36) dX2_init_35 rfl ?_
  refine S_hnew (q := 39) (o := n + 44) (c' := 44) (s' := 2421) ([.inr (.inr (0, [some (n + 2), some (n + 8), some (n + 14), some (n + 20), some (n + 26), some (n + 32), some (n + 38), none])), .inl (1, [none, none, none, some (some (n + 3)), some (some (n + 7))]), .inl (0, [some (some (n + 4)), some (some (n + 5)), some (some (n + 6))]), .inr (.inl 16), .inr (.inl 128), .inr (.inl 128), .inr (.inl 64), .inl (1, [none, none, none, some (some (n + 9)), some (some (n + 13))]), .inl (0, [some (some (n + 10)), some (some (n + 11)), some (some (n + 12))]), .inr (.inl 16), .inr (.inl 128), .inr (.inl 128), .inr (.inl 64), .inl (1, [none, none, none, some (some (n + 15)), some (some (n + 19))]), .inl (0, [some (some (n + 16)), some (some (n + 17)), some (some (n + 18))]), .inr (.inl 16), .inr (.inl 128), .inr (.inl 128), .inr (.inl 64), .inl (1, [none, none, none, some (some (n + 21)), some (some (n + 25))]), .inl (0, [some (some (n + 22)), some (some (n + 23)), some (some (n + 24))]), .inr (.inl 16), .inr (.inl 128), .inr (.inl 128), .inr (.inl 64), .inl (1, [none, none, none, some (some (n + 27)), some (some (n + 31))]), .inl (0, [some (some (n + 28)), some (some (n + 29)), some (some (n + 30))]), .inr (.inl 16), .inr (.inl 128), .inr (.inl 128), .inr (.inl 64), .inl (1, [none, none, none, some (some (n + 33)), some (some (n + 37))]), .inl (0, [some (some (n + 34)), some (some (n + 35)), some (some (n + 36))]), .inr (.inl 16), .inr (.inl 128), .inr (.inl 128), .inr (.inl 64), .inl (1, [none, none, none, some (some (n + 39)), some (some (n + 43))]), .inl (0, [some (some (n + 40)), some (some (n + 41)), some (some (n + 42))]), .inr (.inl 16), .inr (.inl 128), .inr (.inl 128), .inr (.inl 64), .inl (1, [none, none, none, some none, some none])] : Lay) hn rfl rfl rfl dX2_init_36 rfl in_X1 tyX1_ok cw_X2_9 ns_X1 ii_X1 df_X1 rfl rfl (by decide) (by decide) rfl ?_
  generalize hM18 : upA M17 (n + 44) (fun _ => 0) = M18
  have e18 : ∀ a, a < n → M18 a = M a := fun a ha => by rw [← hM18, upA_n (by omega)]; exact e17 a ha
  have f0_1_18 : M18 (n) 1 = nI 0 := by rw [← hM18, upA_n (by omega)]; exact f0_1_17
  have f0_2_18 : M18 (n) 2 = nI 0 := by rw [← hM18, upA_n (by omega)]; exact f0_2_17
  refine S_dup (q := 40) dX2_init_39 rfl rfl ?_
  refine S_hcall0 (q := 43) (o := n + 44) (c' := 49) (s' := 2760) (Z := (zX1 (n + 44))) ([.inr (.inr (0, [some (n + 2), some (n + 8), some (n + 14), some (n + 20), some (n + 26), some (n + 32), some (n + 38), none])), .inl (1, [none, none, none, some (some (n + 3)), some (some (n + 7))]), .inl (0, [some (some (n + 4)), some (some (n + 5)), some (some (n + 6))]), .inr (.inl 16), .inr (.inl 128), .inr (.inl 128), .inr (.inl 64), .inl (1, [none, none, none, some (some (n + 9)), some (some (n + 13))]), .inl (0, [some (some (n + 10)), some (some (n + 11)), some (some (n + 12))]), .inr (.inl 16), .inr (.inl 128), .inr (.inl 128), .inr (.inl 64), .inl (1, [none, none, none, some (some (n + 15)), some (some (n + 19))]), .inl (0, [some (some (n + 16)), some (some (n + 17)), some (some (n + 18))]), .inr (.inl 16), .inr (.inl 128), .inr (.inl 128), .inr (.inl 64), .inl (1, [none, none, none, some (some (n + 21)), some (some (n + 25))]), .inl (0, [some (some (n + 22)), some (some (n + 23)), some (some (n + 24))]), .inr (.inl 16), .inr (.inl 128), .inr (.inl 128), .inr (.inl 64), .inl (1, [none, none, none, some (some (n + 27)), some (some (n + 31))]), .inl (0, [some (some (n + 28)), some (some (n + 29)), some (some (n + 30))]), .inr (.inl 16), .inr (.inl 128), .inr (.inl 128), .inr (.inl 64), .inl (1, [none, none, none, some (some (n + 33)), some (some (n + 37))]), .inl (0, [some (some (n + 34)), some (some (n + 35)), some (some (n + 36))]), .inr (.inl 16), .inr (.inl 128), .inr (.inl 128), .inr (.inl 64), .inl (1, [none, none, none, some (some (n + 39)), some (some (n + 43))]), .inl (0, [some (some (n + 40)), some (some (n + 41)), some (some (n + 42))]), .inr (.inl 16), .inr (.inl 128), .inr (.inl 128), .inr (.inl 64)] : Lay) ([.inr (.inr (0, [some (n + 2), some (n + 8), some (n + 14), some (n + 20), some (n + 26), some (n + 32), some (n + 38), none])), .inl (1, [none, none, none, some (some (n + 3)), some (some (n + 7))]), .inl (0, [some (some (n + 4)), some (some (n + 5)), some (some (n + 6))]), .inr (.inl 16), .inr (.inl 128), .inr (.inl 128), .inr (.inl 64), .inl (1, [none, none, none, some (some (n + 9)), some (some (n + 13))]), .inl (0, [some (some (n + 10)), some (some (n + 11)), some (some (n + 12))]), .inr (.inl 16), .inr (.inl 128), .inr (.inl 128), .inr (.inl 64), .inl (1, [none, none, none, some (some (n + 15)), some (some (n + 19))]), .inl (0, [some (some (n + 16)), some (some (n + 17)), some (some (n + 18))]), .inr (.inl 16), .inr (.inl 128), .inr (.inl 128), .inr (.inl 64), .inl (1, [none, none, none, some (some (n + 21)), some (some (n + 25))]), .inl (0, [some (some (n + 22)), some (some (n + 23)), some (some (n + 24))]), .inr (.inl 16), .inr (.inl 128), .inr (.inl 128), .inr (.inl 64), .inl (1, [none, none, none, some (some (n + 27)), some (some (n + 31))]), .inl (0, [some (some (n + 28)), some (some (n + 29)), some (some (n + 30))]), .inr (.inl 16), .inr (.inl 128), .inr (.inl 128), .inr (.inl 64), .inl (1, [none, none, none, some (some (n + 33)), some (some (n + 37))]), .inl (0, [some (some (n + 34)), some (some (n + 35)), some (some (n + 36))]), .inr (.inl 16), .inr (.inl 128), .inr (.inl 128), .inr (.inl 64), .inl (1, [none, none, none, some (some (n + 39)), some (some (n + 43))]), .inl (0, [some (some (n + 40)), some (some (n + 41)), some (some (n + 42))]), .inr (.inl 16), .inr (.inl 128), .inr (.inl 128), .inr (.inl 64), .inl (1, [none, none, none, some (some (n + 45)), some (some (n + 49))]), .inl (0, [some (some (n + 46)), some (some (n + 47)), some (some (n + 48))]), .inr (.inl 16), .inr (.inl 128), .inr (.inl 128), .inr (.inl 64)] : Lay) hn rfl rfl rfl rfl dX2_init_40 lk_X2_24 (c_X1 (hlen hn (r := 43) rfl)) rfl rfl (Nat.le_of_ble_eq_true rfl) (by decide) rfl rfl (by decide) (by decide) rfl (fun _ M19 hv19 => ?_)
  have e19 : ∀ a, a < n → M19 a = M a := fun a ha => by rw [hv19.1 a (by omega)]; exact e18 a ha
  have f0_1_19 : M19 (n) 1 = nI 0 := by rw [hv19.1 _ (by omega)]; exact f0_1_18
  have f0_2_19 : M19 (n) 2 = nI 0 := by rw [hv19.1 _ (by omega)]; exact f0_2_18
  refine S_haast (q := 44) (r := 0) (ro := 43) (i := 7) ([.inr (.inr (0, [some (n + 2), some (n + 8), some (n + 14), some (n + 20), some (n + 26), some (n + 32), some (n + 38), some (n + 44)])), .inl (1, [none, none, none, some (some (n + 3)), some (some (n + 7))]), .inl (0, [some (some (n + 4)), some (some (n + 5)), some (some (n + 6))]), .inr (.inl 16), .inr (.inl 128), .inr (.inl 128), .inr (.inl 64), .inl (1, [none, none, none, some (some (n + 9)), some (some (n + 13))]), .inl (0, [some (some (n + 10)), some (some (n + 11)), some (some (n + 12))]), .inr (.inl 16), .inr (.inl 128), .inr (.inl 128), .inr (.inl 64), .inl (1, [none, none, none, some (some (n + 15)), some (some (n + 19))]), .inl (0, [some (some (n + 16)), some (some (n + 17)), some (some (n + 18))]), .inr (.inl 16), .inr (.inl 128), .inr (.inl 128), .inr (.inl 64), .inl (1, [none, none, none, some (some (n + 21)), some (some (n + 25))]), .inl (0, [some (some (n + 22)), some (some (n + 23)), some (some (n + 24))]), .inr (.inl 16), .inr (.inl 128), .inr (.inl 128), .inr (.inl 64), .inl (1, [none, none, none, some (some (n + 27)), some (some (n + 31))]), .inl (0, [some (some (n + 28)), some (some (n + 29)), some (some (n + 30))]), .inr (.inl 16), .inr (.inl 128), .inr (.inl 128), .inr (.inl 64), .inl (1, [none, none, none, some (some (n + 33)), some (some (n + 37))]), .inl (0, [some (some (n + 34)), some (some (n + 35)), some (some (n + 36))]), .inr (.inl 16), .inr (.inl 128), .inr (.inl 128), .inr (.inl 64), .inl (1, [none, none, none, some (some (n + 39)), some (some (n + 43))]), .inl (0, [some (some (n + 40)), some (some (n + 41)), some (some (n + 42))]), .inr (.inl 16), .inr (.inl 128), .inr (.inl 128), .inr (.inl 64), .inl (1, [none, none, none, some (some (n + 45)), some (some (n + 49))]), .inl (0, [some (some (n + 46)), some (some (n + 47)), some (some (n + 48))]), .inr (.inl 16), .inr (.inl 128), .inr (.inl 128), .inr (.inl 64)] : Lay) hn rfl rfl rfl rfl rfl dX2_init_43 (by decide) rfl rfl rfl (Nat.le_of_ble_eq_true rfl) (Nat.le_of_ble_eq_true rfl) rfl ?_
  refine S_iinc_1 (q := 47) (nI 8) dX2_init_44 (by decide) rfl ?_
  refine S_goto (t := 25) dX2_init_47 (by decide) ?_
  refine S_iload_1 (q := 26) dX2_init_25 rfl ?_
  refine S_bipush (q := 28) (nI 8) dX2_init_26 (by decide) rfl ?_
  refine S_icmp_ge (t := 50) (q := 31) dX2_init_28 (by decide) rfl (fun _ => ?_) (fun hb => absurd (by decide) hb)
  exact S_ret (v := 0) rfl dX2_init_50 rfl ⟨e19, f0_1_19, f0_2_19⟩
