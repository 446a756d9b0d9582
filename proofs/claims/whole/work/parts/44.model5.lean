section S44
variable {Γ : KK} {l : Launch} {sz : Nat} {μ : MM} {y : Nat} {T S : Nat → Nat} {un : Nat} {A : Nat → Nat → Nat} {kf : Nat → Bool} {K : Nat → Nat → Nat} {n : Nat} {xs : Nat → Nat} {sn : Nat} {V : Nat → Nat}
/-- behind a note -/
theorem WM.noted {pl tk vl bg cl : Int32} {rd kp mo ah' : Nat → Int32} (a0 : μ y = some (mdO y n pl tk vl bg cl un sn)) (a1 : μ (y + 1) = some (xI Γ 29 (fun i => nI (T i)))) (a2 : μ (y + 2) = some (xI Γ 18 (stI S))) (a3 : μ (y + 3) = some (xI Γ 160 (fun i => nI (xs i)))) (a4 : μ (y + 4) = some (xI Γ 29 rd)) (a7 : μ (y + 6) = some (xZ Γ 2 (fun i => zb (kf i)))) (a8 : μ (y + 7) = some (xI Γ 36 kp)) (a9 : ∀ i k, i < 2 → kf i = true → k < 18 → kp (18 * i + k) = stI (K i) k) (a10 : μ (y + 8) = some (xI Γ 448 mo)) (a11 : μ (y + 9) = some (xI Γ 18 (fun i => nI (V i))))
    (hU : ∀ i k, i < min 8 (un + 1) → k < 18 → ah' (18 * i + k) = stI (pushA un A S i) k) : WM Γ (mu (mu μ (y + 5) (xI Γ 144 ah')) y (mdO y n pl tk vl bg cl (min 8 (un + 1)) sn)) y T S (min 8 (un + 1)) (pushA un A S) kf K n xs sn V :=
  ⟨pl, tk, vl, bg, cl, rd, ah', kp, mo, mu_self, (by repeat (first | exact mu_self | assumption | refine (mu_ne (by omega)).trans ?_)), (by repeat (first | exact mu_self | assumption | refine (mu_ne (by omega)).trans ?_)), (by repeat (first | exact mu_self | assumption | refine (mu_ne (by omega)).trans ?_)), (by repeat (first | exact mu_self | assumption | refine (mu_ne (by omega)).trans ?_)), (by repeat (first | exact mu_self | assumption | refine (mu_ne (by omega)).trans ?_)), hU, (by repeat (first | exact mu_self | assumption | refine (mu_ne (by omega)).trans ?_)), (by repeat (first | exact mu_self | assumption | refine (mu_ne (by omega)).trans ?_)), a9, (by repeat (first | exact mu_self | assumption | refine (mu_ne (by omega)).trans ?_)), (by repeat (first | exact mu_self | assumption | refine (mu_ne (by omega)).trans ?_))⟩
theorem t7_give (h : WM Γ μ y T S un A kf K n xs sn V) (hI : INV T S un A kf K n xs sn V) (v1 : Int32) : CT Γ l 1 sz 0 0 mX7_give [.ref y, .int v1] μ (ri (fun r μ' => r = (opGive S un A v1).1 ∧ WM Γ μ' y T (opGive S un A v1).2.1 (opGive S un A v1).2.2.1 (opGive S un A v1).2.2.2 kf K n xs sn V ∧ Fr y 10 μ μ')) := by
  obtain ⟨pl, tk, vl, bg, cl, rd, ah, kp, mo, a0, a1, a2, a3, a4, a5, a6, a7, a8, a9, a10, a11⟩ := id h
  obtain ⟨i1, i2, i3, i4, i5, i6, i7, i8, i9⟩ := id hI
  obtain ⟨t1, t2, t3, t4, t5, t6, t7, t8, t9, t10, t11⟩ := id i1
  obtain ⟨z1, z2, z3, z4, z5, z6, z7, z8, z9⟩ := id i2
  refine CT.go RX7 rfl "give" rfl [some (.ref y), some (.int v1)] rfl (by decide) (Nat.le_of_ble_eq_true rfl) ?_
  intro p e R s m args below meth c X hsz
  refine r_iload_n (pc := 0) X dX7_give_0 rfl ?_
  refine r_i2l (pc := 1) X dX7_give_1 rfl ?_
  refine r_lconst (pc := 2) (v := 1) X dX7_give_2 (by decide) ?_
  refine r_ldc2 (pc := 3) X k_X7_142 dX7_give_3 ?_
  refine c_i X (rS (pc := 6) X l_X7_45 (t7_in v1.toInt64 1 50) dX7_give_6 rfl rfl (Nat.le_of_ble_eq_true rfl) (by decide) (Nat.le_of_ble_eq_true rfl) (Nat.le_of_ble_eq_true rfl)) ?_
  rintro _ μq ⟨rfl, hμq⟩
  rw [hμq]
  clear hμq μq
  rw [lt_of_dec (a := 1) (b := 50) (by decide) (by decide)]
  first | refine r_if_neZ (pc := 9) X 15 dX7_give_9 (by decide) (fun h1 => ?_) (fun h1 => ?_) | refine r_if_neN (pc := 9) X 15 dX7_give_9 (by decide) (by omega) (fun h1 => ?_) (fun h1 => ?_) | refine r_if_ne (pc := 9) X 15 dX7_give_9 (by decide) (fun h1 => ?_) (fun h1 => ?_)
  · have h1' : 1 ≤ v1.toInt ∧ v1.toInt ≤ 50 := by simpa using h1
    have hv := nt_nI (x := v1) (by omega)
    have hl : 1 ≤ nt v1 ∧ nt v1 ≤ 50 := by unfold nt; omega
    have bad : S 3 = 1 ∨ S 0 < nt v1 → vV Γ p l e R s m args below meth c (vQ Γ s args below 0 0 (ri (fun r μ' => r = (opGive S un A v1).1 ∧ WM Γ μ' y T (opGive S un A v1).2.1 (opGive S un A v1).2.2.1 (opGive S un A v1).2.2.2 kf K n xs sn V ∧ Fr y 10 μ μ'))) 2 0 0 35 [some (.ref (y)), some (.int (v1))] [] (μ) := by
      intro hq
      have eo : opGive S un A v1 = (-4, S, un, A) := by unfold opGive; rw [if_neg (fun q => q h1'), if_pos hq]
      rw [eo]
      refine r_bipush (pc := 35) (v := -4) X dX7_give_35 (by decide) ?_
      exact r_iret (pc := 37) X dX7_give_37 (⟨rfl, h, Fr.rf⟩)
    refine r_aload_n (pc := 15) X dX7_give_15 rfl ?_
    apply r_get (pc := 16) X f_X7_13 dX7_give_16
    · repeat (first | exact mu_self | assumption | refine (mu_ne (by omega)).trans ?_)
    · rfl
    refine r_iconst (pc := 19) (v := nI 3) X dX7_give_19 (by decide) ?_
    apply r_iald (pc := 20) X dX7_give_20
    · repeat (first | exact mu_self | assumption | refine (mu_ne (by omega)).trans ?_)
    · omega
    · decide
    rw [stI_lo (by omega)]
    refine r_iconst (pc := 21) (v := nI 1) X dX7_give_21 (by decide) ?_
    first | refine r_icmp_eqN (pc := 22) X 35 dX7_give_22 (by decide) (by omega) (by omega) (fun h2 => ?_) (fun h2 => ?_) | refine r_icmp_eq (pc := 22) X 35 dX7_give_22 (by decide) (fun h2 => ?_) (fun h2 => ?_)
    · exact bad (Or.inl h2)
    · refine r_iload_n (pc := 25) X dX7_give_25 rfl ?_
      refine r_aload_n (pc := 26) X dX7_give_26 rfl ?_
      apply r_get (pc := 27) X f_X7_13 dX7_give_27
      · repeat (first | exact mu_self | assumption | refine (mu_ne (by omega)).trans ?_)
      · rfl
      refine r_iconst (pc := 30) (v := nI 0) X dX7_give_30 (by decide) ?_
      apply r_iald (pc := 31) X dX7_give_31
      · repeat (first | exact mu_self | assumption | refine (mu_ne (by omega)).trans ?_)
      · omega
      · decide
      rw [stI_lo (by omega)]
      have hle : (v1 ≤ nI (S 0)) ↔ nt v1 ≤ S 0 := by
        rw [Int32.le_iff_toInt_le, nI_toInt (by omega)]
        unfold nt
        omega
      refine r_icmp_le (pc := 32) X 38 dX7_give_32 (by decide) (fun h3 => ?_) (fun h3 => ?_)
      · have h3' := hle.mp h3
        have eo : opGive S un A v1 = (nI (S 1 + nt v1), upN (upN S 0 (S 0 - nt v1)) 1 (S 1 + nt v1), min 8 (un + 1), pushA un A S) := by unfold opGive; rw [if_neg (fun q => q h1'), if_neg (by omega)]
        rw [eo]
        clear eo bad hle
        obtain ⟨k', hk⟩ : ∃ k', k' = nt v1 := ⟨_, rfl⟩
        rw [← hk] at hv hl h3' ⊢
        subst hv
        refine r_aload_n (pc := 38) X dX7_give_38 rfl ?_
        refine c_v X (rV (pc := 39) (ci := 7) X l_X7_144 (t7_note a0 a2 a5 a6 i3) dX7_give_39 (by repeat (first | exact mu_self | assumption | refine (mu_ne (by omega)).trans ?_)) rfl rfl rfl (Nat.le_of_ble_eq_true rfl) (by decide) (Nat.le_of_ble_eq_true rfl) (Nat.le_of_ble_eq_true rfl)) ?_
        rintro μ1 ⟨ah', hμ1, hU⟩
        have hW1 : WM Γ μ1 y T S (min 8 (un + 1)) (pushA un A S) kf K n xs sn V := by rw [hμ1]; exact WM.noted a0 a1 a2 a3 a4 a7 a8 a9 a10 a11 hU
        have hF1 : Fr y 10 μ μ1 := fun q hq => by rw [hμ1]; exact (mu_ne (by omega)).trans (mu_ne (by omega))
        obtain ⟨pl', tk', vl', bg', cl', rd', ah1, kp', mo', d0, d1, d2, -⟩ := id hW1
        refine r_aload_n (pc := 42) X dX7_give_42 rfl ?_
        apply r_get (pc := 43) X f_X7_13 dX7_give_43
        · repeat (first | exact mu_self | assumption | refine (mu_ne (by omega)).trans ?_)
        · rfl
        refine r_iconst (pc := 46) (v := nI 0) X dX7_give_46 (by decide) ?_
        refine r_dup2 (pc := 47) X dX7_give_47 rfl rfl ?_
        apply r_iald (pc := 48) X dX7_give_48
        · exact d2
        · omega
        · decide
        rw [stI_lo (by omega)]
        refine r_iload_n (pc := 49) X dX7_give_49 rfl ?_
        first | refine r_isubN (pc := 50) X dX7_give_50 (by omega) ?_ | refine r_isub (pc := 50) X dX7_give_50 ?_
        apply r_iast (pc := 51) X dX7_give_51
        · exact d2
        · omega
        · decide
        rw [stI_up (by omega)]
        have f0 : mu μ1 (y + 2) (xI Γ 18 (stI (upN S 0 (S 0 - k')))) y = _ := (mu_ne (by omega)).trans d0
        refine r_aload_n (pc := 52) X dX7_give_52 rfl ?_
        apply r_get (pc := 53) X f_X7_13 dX7_give_53
        · repeat (first | exact mu_self | assumption | refine (mu_ne (by omega)).trans ?_)
        · rfl
        refine r_iconst (pc := 56) (v := nI 1) X dX7_give_56 (by decide) ?_
        refine r_dup2 (pc := 57) X dX7_give_57 rfl rfl ?_
        apply r_iald (pc := 58) X dX7_give_58
        · repeat (first | exact mu_self | assumption | refine (mu_ne (by omega)).trans ?_)
        · omega
        · decide
        rw [stI_lo (by omega), upN_ne (by omega)]
        refine r_iload_n (pc := 59) X dX7_give_59 rfl ?_
        first | refine r_iaddN (pc := 60) X dX7_give_60 ?_ | refine r_iadd (pc := 60) X dX7_give_60 ?_
        apply r_iast (pc := 61) X dX7_give_61
        · repeat (first | exact mu_self | assumption | refine (mu_ne (by omega)).trans ?_)
        · omega
        · decide
        rw [mu_mu, stI_up (by omega)]
        have g0 : mu μ1 (y + 2) (xI Γ 18 (stI (upN (upN S 0 (S 0 - k')) 1 (S 1 + k')))) y = _ := (mu_ne (by omega)).trans d0
        refine r_aload_n (pc := 62) X dX7_give_62 rfl ?_
        apply r_get (pc := 63) X f_X7_13 dX7_give_63
        · repeat (first | exact mu_self | assumption | refine (mu_ne (by omega)).trans ?_)
        · rfl
        refine r_iconst (pc := 66) (v := nI 1) X dX7_give_66 (by decide) ?_
        apply r_iald (pc := 67) X dX7_give_67
        · repeat (first | exact mu_self | assumption | refine (mu_ne (by omega)).trans ?_)
        · omega
        · decide
        rw [stI_lo (by omega), upN_self]
        exact r_iret (pc := 68) X dX7_give_68 (⟨rfl, hW1.sc (fun q hq => mu_ne hq) mu_self, fun q hq => (mu_ne (by omega)).trans (hF1 q hq)⟩)
      · exact bad (Or.inr (Nat.lt_of_not_le (fun q => h3 (hle.mpr q))))
  · have h1' : ¬ (1 ≤ v1.toInt ∧ v1.toInt ≤ 50) := by simpa using h1
    have eo : opGive S un A v1 = (-3, S, un, A) := by unfold opGive; rw [if_pos h1']
    rw [eo]
    refine r_bipush (pc := 12) (v := -3) X dX7_give_12 (by decide) ?_
    exact r_iret (pc := 14) X dX7_give_14 (⟨rfl, h, Fr.rf⟩)
theorem t7_day (h : WM Γ μ y T S un A kf K n xs sn V) (hI : INV T S un A kf K n xs sn V) : CT Γ l 2 sz 0 0 mX7_day [.ref y] μ (ri (fun r μ' => r = (opDay T S un A).1 ∧ WM Γ μ' y T (opDay T S un A).2.1 (opDay T S un A).2.2.1 (opDay T S un A).2.2.2 kf K n xs sn V ∧ Fr y 10 μ μ')) := by
  obtain ⟨pl, tk, vl, bg, cl, rd, ah, kp, mo, a0, a1, a2, a3, a4, a5, a6, a7, a8, a9, a10, a11⟩ := id h
  obtain ⟨i1, i2, i3, i4, i5, i6, i7, i8, i9⟩ := id hI
  obtain ⟨t1, t2, t3, t4, t5, t6, t7, t8, t9, t10, t11⟩ := id i1
  obtain ⟨z1, z2, z3, z4, z5, z6, z7, z8, z9⟩ := id i2
  refine CT.go RX7 rfl "day" rfl [some (.ref y), none] rfl (by decide) (Nat.le_of_ble_eq_true rfl) ?_
  intro p e R s m args below meth c X hsz
  refine r_aload_n (pc := 0) X dX7_day_0 rfl ?_
  apply r_get (pc := 1) X f_X7_13 dX7_day_1
  · repeat (first | exact mu_self | assumption | refine (mu_ne (by omega)).trans ?_)
  · rfl
  refine r_iconst (pc := 4) (v := nI 4) X dX7_day_4 (by decide) ?_
  apply r_iald (pc := 5) X dX7_day_5
  · repeat (first | exact mu_self | assumption | refine (mu_ne (by omega)).trans ?_)
  · omega
  · decide
  rw [stI_lo (by omega)]
  refine r_bipush (pc := 6) (v := nI 99) X dX7_day_6 (by decide) ?_
  first | refine r_icmp_neN (pc := 8) X 14 dX7_day_8 (by decide) (by omega) (by omega) (fun h1 => ?_) (fun h1 => ?_) | refine r_icmp_ne (pc := 8) X 14 dX7_day_8 (by decide) (fun h1 => ?_) (fun h1 => ?_)
  · have eo : opDay T S un A = (nI (mkb (T 0) (eatP S (dayN T S))), dayS T S, min 8 (un + 1), pushA un A S) := by unfold opDay; rw [if_neg h1]
    rw [eo]
    clear eo
    refine r_aload_n (pc := 14) X dX7_day_14 rfl ?_
    refine c_v X (rV (pc := 15) (ci := 7) X l_X7_144 (t7_note a0 a2 a5 a6 i3) dX7_day_15 (by repeat (first | exact mu_self | assumption | refine (mu_ne (by omega)).trans ?_)) rfl rfl rfl (Nat.le_of_ble_eq_true rfl) (by decide) (Nat.le_of_ble_eq_true rfl) (Nat.le_of_ble_eq_true rfl)) ?_
    rintro μ1 ⟨ah', hμ1, hU⟩
    have hW1 : WM Γ μ1 y T S (min 8 (un + 1)) (pushA un A S) kf K n xs sn V := by rw [hμ1]; exact WM.noted a0 a1 a2 a3 a4 a7 a8 a9 a10 a11 hU
    have hF1 : Fr y 10 μ μ1 := fun q hq => by rw [hμ1]; exact (mu_ne (by omega)).trans (mu_ne (by omega))
    obtain ⟨pl', tk', vl', bg', cl', rd', ah1, kp', mo', d0, d1, d2, -⟩ := id hW1
    have hdn : dayN T S ≤ 6 := by unfold dayN; split <;> omega
    have fin : vV Γ p l e R s m args below meth c (vQ Γ s args below 0 0 (ri (fun r μ' => r = nI (mkb (T 0) (eatP S (dayN T S))) ∧ WM Γ μ' y T (dayS T S) (min 8 (un + 1)) (pushA un A S) kf K n xs sn V ∧ Fr y 10 μ μ'))) 2 0 0 40 [some (.ref y), none] [.int (nI (dayN T S)), .ref y] μ1 := by
      refine c_i X (rV (pc := 40) (ci := 7) X l_X7_157 (t7_eatFirst d0 d1 d2 t1 z6 hdn) dX7_day_40 (by repeat (first | exact mu_self | assumption | refine (mu_ne (by omega)).trans ?_)) rfl rfl rfl (Nat.le_of_ble_eq_true rfl) (by decide) (Nat.le_of_ble_eq_true rfl) (Nat.le_of_ble_eq_true rfl)) ?_
      rintro _ μ2 ⟨rfl, hμ2⟩
      have hW2 : WM Γ μ2 y T (eatS (T 0) (dayN T S) S) (min 8 (un + 1)) (pushA un A S) kf K n xs sn V := by rw [hμ2]; exact hW1.sc (fun q hq => mu_ne hq) mu_self
      have hF2 : Fr y 10 μ μ2 := fun q hq => by rw [hμ2]; exact (mu_ne (by omega)).trans (hF1 q hq)
      clear hμ2
      obtain ⟨pl2, tk2, vl2, bg2, cl2, rd2, ah2, kp2, mo2, f0, f1, f2, -⟩ := id hW2
      have l2 : eatS (T 0) (dayN T S) S 2 = S 2 := eatS_lo (by omega)
      have l4 : eatS (T 0) (dayN T S) S 4 = S 4 := eatS_lo (by omega)
      refine r_istore_n (pc := 43) X dX7_day_43 (by decide) rfl ?_
      refine r_aload_n (pc := 44) X dX7_day_44 rfl ?_
      apply r_get (pc := 45) X f_X7_13 dX7_day_45
      · repeat (first | exact mu_self | assumption | refine (mu_ne (by omega)).trans ?_)
      · rfl
      refine r_iconst (pc := 48) (v := nI 2) X dX7_day_48 (by decide) ?_
      refine r_aload_n (pc := 49) X dX7_day_49 rfl ?_
      apply r_get (pc := 50) X f_X7_13 dX7_day_50
      · repeat (first | exact mu_self | assumption | refine (mu_ne (by omega)).trans ?_)
      · rfl
      refine r_iconst (pc := 53) (v := nI 2) X dX7_day_53 (by decide) ?_
      apply r_iald (pc := 54) X dX7_day_54
      · repeat (first | exact mu_self | assumption | refine (mu_ne (by omega)).trans ?_)
      · omega
      · decide
      rw [stI_lo (by omega), l2]
      refine r_bipush (pc := 55) (v := nI 9) X dX7_day_55 (by decide) ?_
      have go : vV Γ p l e R s m args below meth c (vQ Γ s args below 0 0 (ri (fun r μ' => r = nI (mkb (T 0) (eatP S (dayN T S))) ∧ WM Γ μ' y T (dayS T S) (min 8 (un + 1)) (pushA un A S) kf K n xs sn V ∧ Fr y 10 μ μ'))) 2 0 0 73 [some (.ref y), some (.int (nI (mkb (T 0) (eatP S (dayN T S)))))] [.int (nI (min 9 (S 2 + 1))), .int (nI 2), .ref (y + 2)] μ2 := by
        apply r_iast (pc := 73) X dX7_day_73
        · repeat (first | exact mu_self | assumption | refine (mu_ne (by omega)).trans ?_)
        · omega
        · decide
        rw [stI_up (by omega)]
        have g0 : mu μ2 (y + 2) (xI Γ 18 (stI (upN (eatS (T 0) (dayN T S) S) 2 (min 9 (S 2 + 1))))) y = _ := (mu_ne (by omega)).trans f0
        refine r_aload_n (pc := 74) X dX7_day_74 rfl ?_
        apply r_get (pc := 75) X f_X7_13 dX7_day_75
        · repeat (first | exact mu_self | assumption | refine (mu_ne (by omega)).trans ?_)
        · rfl
        refine r_iconst (pc := 78) (v := nI 1) X dX7_day_78 (by decide) ?_
        refine r_iconst (pc := 79) (v := nI 0) X dX7_day_79 (by decide) ?_
        apply r_iast (pc := 80) X dX7_day_80
        · repeat (first | exact mu_self | assumption | refine (mu_ne (by omega)).trans ?_)
        · omega
        · decide
        rw [mu_mu, stI_up (by omega)]
        have g1 : mu μ2 (y + 2) (xI Γ 18 (stI (upN (upN (eatS (T 0) (dayN T S) S) 2 (min 9 (S 2 + 1))) 1 0))) y = _ := (mu_ne (by omega)).trans f0
        refine r_aload_n (pc := 81) X dX7_day_81 rfl ?_
        apply r_get (pc := 82) X f_X7_13 dX7_day_82
        · repeat (first | exact mu_self | assumption | refine (mu_ne (by omega)).trans ?_)
        · rfl
        refine r_iconst (pc := 85) (v := nI 4) X dX7_day_85 (by decide) ?_
        refine r_dup2 (pc := 86) X dX7_day_86 rfl rfl ?_
        apply r_iald (pc := 87) X dX7_day_87
        · repeat (first | exact mu_self | assumption | refine (mu_ne (by omega)).trans ?_)
        · omega
        · decide
        rw [stI_lo (by omega), upN_ne (by omega), upN_ne (by omega), l4]
        refine r_iconst (pc := 88) (v := nI 1) X dX7_day_88 (by decide) ?_
        first | refine r_iaddN (pc := 89) X dX7_day_89 ?_ | refine r_iadd (pc := 89) X dX7_day_89 ?_
        apply r_iast (pc := 90) X dX7_day_90
        · repeat (first | exact mu_self | assumption | refine (mu_ne (by omega)).trans ?_)
        · omega
        · decide
        rw [mu_mu, stI_up (by omega)]
        refine r_iload_n (pc := 91) X dX7_day_91 rfl ?_
        exact r_iret (pc := 92) X dX7_day_92 (⟨rfl, hW2.sc (fun q hq => mu_ne hq) mu_self, fun q hq => (mu_ne (by omega)).trans (hF2 q hq)⟩)
      first | refine r_icmp_geN (pc := 57) X 71 dX7_day_57 (by decide) (by omega) (by omega) (fun h5 => ?_) (fun h5 => ?_) | refine r_icmp_ge (pc := 57) X 71 dX7_day_57 (by decide) (fun h5 => ?_) (fun h5 => ?_)
      · have e9 : min 9 (S 2 + 1) = 9 := by omega
        rw [e9] at go
        refine r_bipush (pc := 71) (v := nI 9) X dX7_day_71 (by decide) ?_
        exact go
      · refine r_aload_n (pc := 60) X dX7_day_60 rfl ?_
        apply r_get (pc := 61) X f_X7_13 dX7_day_61
        · repeat (first | exact mu_self | assumption | refine (mu_ne (by omega)).trans ?_)
        · rfl
        refine r_iconst (pc := 64) (v := nI 2) X dX7_day_64 (by decide) ?_
        apply r_iald (pc := 65) X dX7_day_65
        · repeat (first | exact mu_self | assumption | refine (mu_ne (by omega)).trans ?_)
        · omega
        · decide
        rw [stI_lo (by omega), l2]
        have e9 : min 9 (S 2 + 1) = S 2 + 1 := by omega
        rw [e9] at go
        refine r_iconst (pc := 66) (v := nI 1) X dX7_day_66 (by decide) ?_
        first | refine r_iaddN (pc := 67) X dX7_day_67 ?_ | refine r_iadd (pc := 67) X dX7_day_67 ?_
        refine r_goto (pc := 68) X 73 dX7_day_68 (by decide) ?_
        exact go
    refine r_aload_n (pc := 18) X dX7_day_18 rfl ?_
    refine r_aload_n (pc := 19) X dX7_day_19 rfl ?_
    apply r_get (pc := 20) X f_X7_13 dX7_day_20
    · repeat (first | exact mu_self | assumption | refine (mu_ne (by omega)).trans ?_)
    · rfl
    refine r_iconst (pc := 23) (v := nI 3) X dX7_day_23 (by decide) ?_
    apply r_iald (pc := 24) X dX7_day_24
    · repeat (first | exact mu_self | assumption | refine (mu_ne (by omega)).trans ?_)
    · omega
    · decide
    rw [stI_lo (by omega)]
    refine r_iconst (pc := 25) (v := nI 1) X dX7_day_25 (by decide) ?_
    first | refine r_icmp_neN (pc := 26) X 33 dX7_day_26 (by decide) (by omega) (by omega) (fun h3 => ?_) (fun h3 => ?_) | refine r_icmp_ne (pc := 26) X 33 dX7_day_26 (by decide) (fun h3 => ?_) (fun h3 => ?_)
    · have en : dayN T S = T 28 := by unfold dayN; rw [if_neg h3]
      rw [en] at fin
      refine r_aload_n (pc := 33) X dX7_day_33 rfl ?_
      apply r_get (pc := 34) X f_X7_7 dX7_day_34
      · repeat (first | exact mu_self | assumption | refine (mu_ne (by omega)).trans ?_)
      · rfl
      refine r_bipush (pc := 37) (v := nI 28) X dX7_day_37 (by decide) ?_
      apply r_iald (pc := 39) X dX7_day_39
      · repeat (first | exact mu_self | assumption | refine (mu_ne (by omega)).trans ?_)
      · omega
      · decide
      rw [← en] at fin ⊢
      exact fin
    · have en : dayN T S = 0 := by unfold dayN; rw [if_pos h3]
      have e9 : (nI 0) = nI (dayN T S) := by rw [en]
      refine r_iconst (pc := 29) (v := nI 0) X dX7_day_29 (by decide) ?_
      refine r_goto (pc := 30) X 40 dX7_day_30 (by decide) ?_
      rw [e9]
      exact fin
  · have eo : opDay T S un A = (-5, S, un, A) := by unfold opDay; rw [if_pos h1]
    rw [eo]
    refine r_bipush (pc := 11) (v := -5) X dX7_day_11 (by decide) ?_
    exact r_iret (pc := 13) X dX7_day_13 (⟨rfl, h, Fr.rf⟩)
theorem t7_blind (h : WM Γ μ y T S un A kf K n xs sn V) (hI : INV T S un A kf K n xs sn V) (v1 : Int32) : CT Γ l 2 sz 0 0 mX7_blind [.ref y, .int v1] μ (ri (fun r μ' => r = (opBlind T S un A v1).1 ∧ WM Γ μ' y T (opBlind T S un A v1).2.1 (opBlind T S un A v1).2.2.1 (opBlind T S un A v1).2.2.2 kf K n xs sn V ∧ Fr y 10 μ μ')) := by
  obtain ⟨pl, tk, vl, bg, cl, rd, ah, kp, mo, a0, a1, a2, a3, a4, a5, a6, a7, a8, a9, a10, a11⟩ := id h
  obtain ⟨i1, i2, i3, i4, i5, i6, i7, i8, i9⟩ := id hI
  obtain ⟨t1, t2, t3, t4, t5, t6, t7, t8, t9, t10, t11⟩ := id i1
  obtain ⟨z1, z2, z3, z4, z5, z6, z7, z8, z9⟩ := id i2
  refine CT.go RX7 rfl "blind" rfl [some (.ref y), some (.int v1), none] rfl (by decide) (Nat.le_of_ble_eq_true rfl) ?_
  intro p e R s m args below meth c X hsz
  refine r_iload_n (pc := 0) X dX7_blind_0 rfl ?_
  refine r_i2l (pc := 1) X dX7_blind_1 rfl ?_
  refine r_lconst (pc := 2) (v := 0) X dX7_blind_2 (by decide) ?_
  refine r_ldc2 (pc := 3) X k_X7_164 dX7_blind_3 ?_
  refine c_i X (rS (pc := 6) X l_X7_45 (t7_in v1.toInt64 0 7) dX7_blind_6 rfl rfl (Nat.le_of_ble_eq_true rfl) (by decide) (Nat.le_of_ble_eq_true rfl) (Nat.le_of_ble_eq_true rfl)) ?_
  rintro _ μq ⟨rfl, hμq⟩
  rw [hμq]
  clear hμq μq
  rw [lt_of_dec (a := 0) (b := 7) (by decide) (by decide)]
  first | refine r_if_neZ (pc := 9) X 15 dX7_blind_9 (by decide) (fun h1 => ?_) (fun h1 => ?_) | refine r_if_neN (pc := 9) X 15 dX7_blind_9 (by decide) (by omega) (fun h1 => ?_) (fun h1 => ?_) | refine r_if_ne (pc := 9) X 15 dX7_blind_9 (by decide) (fun h1 => ?_) (fun h1 => ?_)
  · have h1' : 0 ≤ v1.toInt ∧ v1.toInt ≤ 7 := by simpa using h1
    have bad : S 3 = 1 ∨ S 1 < T 26 ∨ S 2 < T 27 → vV Γ p l e R s m args below meth c (vQ Γ s args below 0 0 (ri (fun r μ' => r = (opBlind T S un A v1).1 ∧ WM Γ μ' y T (opBlind T S un A v1).2.1 (opBlind T S un A v1).2.2.1 (opBlind T S un A v1).2.2.2 kf K n xs sn V ∧ Fr y 10 μ μ'))) 3 0 0 57 [some (.ref (y)), some (.int (v1)), none] [] (μ) := by
      intro hq
      have eo : opBlind T S un A v1 = (-4, S, un, A) := by unfold opBlind; rw [if_neg (fun q => q h1'), if_pos hq]
      rw [eo]
      refine r_bipush (pc := 57) (v := -4) X dX7_blind_57 (by decide) ?_
      exact r_iret (pc := 59) X dX7_blind_59 (⟨rfl, h, Fr.rf⟩)
    refine r_aload_n (pc := 15) X dX7_blind_15 rfl ?_
    apply r_get (pc := 16) X f_X7_13 dX7_blind_16
    · repeat (first | exact mu_self | assumption | refine (mu_ne (by omega)).trans ?_)
    · rfl
    refine r_iconst (pc := 19) (v := nI 3) X dX7_blind_19 (by decide) ?_
    apply r_iald (pc := 20) X dX7_blind_20
    · repeat (first | exact mu_self | assumption | refine (mu_ne (by omega)).trans ?_)
    · omega
    · decide
    rw [stI_lo (by omega)]
    refine r_iconst (pc := 21) (v := nI 1) X dX7_blind_21 (by decide) ?_
    first | refine r_icmp_eqN (pc := 22) X 57 dX7_blind_22 (by decide) (by omega) (by omega) (fun h2 => ?_) (fun h2 => ?_) | refine r_icmp_eq (pc := 22) X 57 dX7_blind_22 (by decide) (fun h2 => ?_) (fun h2 => ?_)
    · exact bad (Or.inl h2)
    · refine r_aload_n (pc := 25) X dX7_blind_25 rfl ?_
      apply r_get (pc := 26) X f_X7_13 dX7_blind_26
      · repeat (first | exact mu_self | assumption | refine (mu_ne (by omega)).trans ?_)
      · rfl
      refine r_iconst (pc := 29) (v := nI 1) X dX7_blind_29 (by decide) ?_
      apply r_iald (pc := 30) X dX7_blind_30
      · repeat (first | exact mu_self | assumption | refine (mu_ne (by omega)).trans ?_)
      · omega
      · decide
      rw [stI_lo (by omega)]
      refine r_aload_n (pc := 31) X dX7_blind_31 rfl ?_
      apply r_get (pc := 32) X f_X7_7 dX7_blind_32
      · repeat (first | exact mu_self | assumption | refine (mu_ne (by omega)).trans ?_)
      · rfl
      refine r_bipush (pc := 35) (v := nI 26) X dX7_blind_35 (by decide) ?_
      apply r_iald (pc := 37) X dX7_blind_37
      · repeat (first | exact mu_self | assumption | refine (mu_ne (by omega)).trans ?_)
      · omega
      · decide
      first | refine r_icmp_ltN (pc := 38) X 57 dX7_blind_38 (by decide) (by omega) (by omega) (fun h3 => ?_) (fun h3 => ?_) | refine r_icmp_lt (pc := 38) X 57 dX7_blind_38 (by decide) (fun h3 => ?_) (fun h3 => ?_)
      · exact bad (Or.inr (Or.inl h3))
      · refine r_aload_n (pc := 41) X dX7_blind_41 rfl ?_
        apply r_get (pc := 42) X f_X7_13 dX7_blind_42
        · repeat (first | exact mu_self | assumption | refine (mu_ne (by omega)).trans ?_)
        · rfl
        refine r_iconst (pc := 45) (v := nI 2) X dX7_blind_45 (by decide) ?_
        apply r_iald (pc := 46) X dX7_blind_46
        · repeat (first | exact mu_self | assumption | refine (mu_ne (by omega)).trans ?_)
        · omega
        · decide
        rw [stI_lo (by omega)]
        refine r_aload_n (pc := 47) X dX7_blind_47 rfl ?_
        apply r_get (pc := 48) X f_X7_7 dX7_blind_48
        · repeat (first | exact mu_self | assumption | refine (mu_ne (by omega)).trans ?_)
        · rfl
        refine r_bipush (pc := 51) (v := nI 27) X dX7_blind_51 (by decide) ?_
        apply r_iald (pc := 53) X dX7_blind_53
        · repeat (first | exact mu_self | assumption | refine (mu_ne (by omega)).trans ?_)
        · omega
        · decide
        first | refine r_icmp_geN (pc := 54) X 60 dX7_blind_54 (by decide) (by omega) (by omega) (fun h4 => ?_) (fun h4 => ?_) | refine r_icmp_ge (pc := 54) X 60 dX7_blind_54 (by decide) (fun h4 => ?_) (fun h4 => ?_)
        · have hv := nt_nI h1'.1
          have hl : nt v1 < 8 := by unfold nt; omega
          have eo : opBlind T S un A v1 = (nI (comT T (nt v1)), eatS (T 0) (popc (comT T (nt v1))) (upN S 3 1), min 8 (un + 1), pushA un A S) := by unfold opBlind; rw [if_neg (fun q => q h1'), if_neg (by omega)]
          rw [eo]
          clear eo bad
          obtain ⟨k', hk⟩ : ∃ k', k' = nt v1 := ⟨_, rfl⟩
          rw [← hk] at hv hl ⊢
          subst hv
          have hc16 := comT_lt (T := T) t3 k'
          refine r_aload_n (pc := 60) X dX7_blind_60 rfl ?_
          refine c_v X (rV (pc := 61) (ci := 7) X l_X7_144 (t7_note a0 a2 a5 a6 i3) dX7_blind_61 (by repeat (first | exact mu_self | assumption | refine (mu_ne (by omega)).trans ?_)) rfl rfl rfl (Nat.le_of_ble_eq_true rfl) (by decide) (Nat.le_of_ble_eq_true rfl) (Nat.le_of_ble_eq_true rfl)) ?_
          rintro μ1 ⟨ah', hμ1, hU⟩
          have hW1 : WM Γ μ1 y T S (min 8 (un + 1)) (pushA un A S) kf K n xs sn V := by rw [hμ1]; exact WM.noted a0 a1 a2 a3 a4 a7 a8 a9 a10 a11 hU
          have hF1 : Fr y 10 μ μ1 := fun q hq => by rw [hμ1]; exact (mu_ne (by omega)).trans (mu_ne (by omega))
          obtain ⟨pl', tk', vl', bg', cl', rd', ah1, kp', mo', d0, d1, d2, -⟩ := id hW1
          refine r_aload_n (pc := 64) X dX7_blind_64 rfl ?_
          apply r_get (pc := 65) X f_X7_13 dX7_blind_65
          · repeat (first | exact mu_self | assumption | refine (mu_ne (by omega)).trans ?_)
          · rfl
          refine r_iconst (pc := 68) (v := nI 3) X dX7_blind_68 (by decide) ?_
          refine r_iconst (pc := 69) (v := nI 1) X dX7_blind_69 (by decide) ?_
          apply r_iast (pc := 70) X dX7_blind_70
          · exact d2
          · omega
          · decide
          rw [stI_up (by omega)]
          have hW2 : WM Γ (mu μ1 (y + 2) (xI Γ 18 (stI (upN S 3 1)))) y T (upN S 3 1) (min 8 (un + 1)) (pushA un A S) kf K n xs sn V := hW1.sc (fun q hq => mu_ne hq) mu_self
          have hF2 : Fr y 10 μ (mu μ1 (y + 2) (xI Γ 18 (stI (upN S 3 1)))) := fun q hq => (mu_ne (by omega)).trans (hF1 q hq)
          generalize mu μ1 (y + 2) (xI Γ 18 (stI (upN S 3 1))) = μ2 at hW2 hF2 ⊢
          obtain ⟨pl2, tk2, vl2, bg2, cl2, rd2, ah2, kp2, mo2, f0, f1, f2, -⟩ := id hW2
          refine r_aload_n (pc := 71) X dX7_blind_71 rfl ?_
          refine r_iload_n (pc := 72) X dX7_blind_72 rfl ?_
          refine c_i X (rV (pc := 73) (ci := 7) X l_X7_166 (t7_comeBy f0 f1 i1 hl) dX7_blind_73 (by repeat (first | exact mu_self | assumption | refine (mu_ne (by omega)).trans ?_)) rfl rfl rfl (Nat.le_of_ble_eq_true rfl) (by decide) (Nat.le_of_ble_eq_true rfl) (Nat.le_of_ble_eq_true rfl)) ?_
          rintro _ μq ⟨rfl, hμq⟩
          rw [hμq]
          clear hμq μq
          refine r_istore_n (pc := 76) X dX7_blind_76 (by decide) rfl ?_
          refine r_aload_n (pc := 77) X dX7_blind_77 rfl ?_
          refine r_iload_n (pc := 78) X dX7_blind_78 rfl ?_
          refine c_i X (rS (pc := 79) X l_X7_150 (t7_ones (x := comT T k') (by omega)) dX7_blind_79 rfl rfl (Nat.le_of_ble_eq_true rfl) (by decide) (Nat.le_of_ble_eq_true rfl) (Nat.le_of_ble_eq_true rfl)) ?_
          rintro _ μq ⟨rfl, hμq⟩
          rw [hμq]
          clear hμq μq
          refine c_i X (rV (pc := 82) (ci := 7) X l_X7_157 (t7_eatFirst f0 f1 f2 t1 (fun m hm => by rw [upN_ne (by omega)]; exact z6 m hm) (by have := popc16 _ hc16; omega)) dX7_blind_82 (by repeat (first | exact mu_self | assumption | refine (mu_ne (by omega)).trans ?_)) rfl rfl rfl (Nat.le_of_ble_eq_true rfl) (by decide) (Nat.le_of_ble_eq_true rfl) (Nat.le_of_ble_eq_true rfl)) ?_
          rintro _ μ3 ⟨rfl, hμ3⟩
          rw [hμ3]
          refine r_pop (pc := 85) X dX7_blind_85 rfl ?_
          refine r_iload_n (pc := 86) X dX7_blind_86 rfl ?_
          exact r_iret (pc := 87) X dX7_blind_87 (⟨rfl, hW2.sc (fun q hq => mu_ne hq) mu_self, fun q hq => (mu_ne (by omega)).trans (hF2 q hq)⟩)
        · exact bad (Or.inr (Or.inr (by omega)))
  · have h1' : ¬ (0 ≤ v1.toInt ∧ v1.toInt ≤ 7) := by simpa using h1
    have eo : opBlind T S un A v1 = (-3, S, un, A) := by unfold opBlind; rw [if_pos h1']
    rw [eo]
    refine r_bipush (pc := 12) (v := -3) X dX7_blind_12 (by decide) ?_
    exact r_iret (pc := 14) X dX7_blind_14 (⟨rfl, h, Fr.rf⟩)
end S44
