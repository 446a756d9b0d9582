theorem msk_up {men : Nat} (hm : men ≤ 6) {S : Nat → Nat} {k v h : Nat} (hk : k < 6 ∨ 12 ≤ k) : msk men (upN S k v) h = msk men S h := by
  refine mkb_congr (fun i hi => ?_)
  show (upN S k v (6 + i) == h) = (S (6 + i) == h)
  rw [upN_ne (by omega)]
theorem scU_up {S : Nat → Nat} {k v : Nat} (hk : k < 12) : scU (upN S k v) = scU S := by
  funext i
  show uI (upN S k v (12 + i)) = uI (S (12 + i))
  rw [upN_ne (by omega)]
theorem scU_hide {S : Nat → Nat} {m w : Nat} : scU (upN S (12 + m) w) = upd (scU S) m (uI w) := by
  funext i
  show uI (upN S (12 + m) w (12 + i)) = upd (scU S) m (uI w) i
  unfold upN upd
  by_cases h : i = m
  · rw [if_pos (by omega), if_pos h]
  · rw [if_neg (by omega), if_neg h]; rfl
theorem eatS_0 (men : Nat) (S : Nat → Nat) : eatS men 0 S = S := by
  funext k
  have hp : ∀ i, eatP S 0 i = false := fun i => by unfold eatP; simp
  unfold eatS
  rw [hp, hp]
  simp
theorem mkb_eat0 (men : Nat) (S : Nat → Nat) : mkb men (eatP S 0) = 0 := by
  refine (mkb_congr (q := fun _ => false) (fun i _ => ?_)).trans (mkb_no men)
  unfold eatP
  simp
theorem cd_uI {v : Int32} (h : -1 ≤ v.toInt) (h2 : v.toInt < 100) : v = uI (cd v) := by
  apply Int32.toInt_inj.mp
  unfold cd
  rw [uI_toInt (by omega)]
  omega
section S27
variable {Γ : KK} {l : Launch} {sz : Nat} {μ : MM} {x : Nat} {T S : Nat → Nat} {un : Nat} {A : Nat → Nat → Nat} {kf : Nat → Bool} {K : Nat → Nat → Nat} {n : Nat} {xs : Nat → Nat} {sn : Nat} {V : Nat → Nat}
theorem t6_give (h : WC Γ μ x T S un A kf K n xs sn V) (hI : INV T S un A kf K n xs sn V) (v1 : Int32) : CT Γ l 3 sz 0 0 mX6_give [.ref x, .int v1] μ (ri (fun r μ' => r = (opGive S un A v1).1 ∧ WC Γ μ' x T (opGive S un A v1).2.1 (opGive S un A v1).2.2.1 (opGive S un A v1).2.2.2 kf K n xs sn V ∧ Fr x 46 μ μ')) := by
  obtain ⟨a0, ⟨cl, tb, te, a1⟩, a2, ⟨T', a3⟩, a4, ⟨nx, V', U', a5, a6, a7⟩, ⟨V2, U2, a8, a9⟩, a10, ⟨pf, pg, a11, a12⟩, a13⟩ := id h
  have c10 := a1.1
  have c11 := a1.2
  have c20 := a2.1
  have c21 := a2.2.1
  have c22 := a2.2.2.1
  have c23 := a2.2.2.2.1
  have c24 := a2.2.2.2.2
  have c30 := a3.1
  have c40 := a4.1
  have c41 := a4.2.1
  have c60 := a6.1
  have c80 := a8.1
  have c110 := a11.1
  have c130 := a13.1
  obtain ⟨i1, i2, i3, i4, i5, i6, i7, i8, i9⟩ := id hI
  obtain ⟨t1, t2, t3, t4, t5, t6, t7, t8, t9, t10, t11⟩ := id i1
  obtain ⟨z1, z2, z3, z4, z5, z6, z7, z8, z9⟩ := id i2
  refine CT.go RX6 rfl "give" rfl [some (.ref x), some (.int v1)] rfl (by decide) (Nat.le_of_ble_eq_true rfl) ?_
  intro p e R s m args below meth c X hsz
  refine r_iload_n (pc := 0) X dX6_give_0 rfl ?_
  refine r_iconst (pc := 1) (v := nI 1) X dX6_give_1 (by decide) ?_
  refine r_bipush (pc := 2) (v := nI 50) X dX6_give_2 (by decide) ?_
  refine c_i X (rS (pc := 4) X l_X6_66 (t6_isOutside v1 (nI 1) (nI 50)) dX6_give_4 rfl rfl (Nat.le_of_ble_eq_true rfl) (by decide) (Nat.le_of_ble_eq_true rfl) (Nat.le_of_ble_eq_true rfl)) ?_
  rintro _ μq ⟨rfl, hμq⟩
  rw [hμq]
  clear hμq μq
  rw [nI_toInt (by omega), nI_toInt (by omega)]
  first | refine r_if_eqZ (pc := 7) X 13 dX6_give_7 (by decide) (fun h1 => ?_) (fun h1 => ?_) | refine r_if_eqN (pc := 7) X 13 dX6_give_7 (by decide) (by omega) (fun h1 => ?_) (fun h1 => ?_) | refine r_if_eq (pc := 7) X 13 dX6_give_7 (by decide) (fun h1 => ?_) (fun h1 => ?_)
  · have h1' : 1 ≤ v1.toInt ∧ v1.toInt ≤ 50 := by simp at h1; omega
    have hv := nt_nI (x := v1) (by omega)
    have hl : 1 ≤ nt v1 ∧ nt v1 ≤ 50 := by unfold nt; omega
    unfold opGive
    rw [if_neg (fun q => q h1')]
    obtain ⟨k', hk⟩ : ∃ k', k' = nt v1 := ⟨_, rfl⟩
    rw [← hk] at hv hl ⊢
    subst hv
    have bad : S 3 = 1 ∨ S 0 < k' → vV Γ p l e R s m args below meth c (vQ Γ s args below 0 0 (ri (fun r μ' => r = (if S 3 = 1 ∨ S 0 < k' then ((-4, S, un, A) : DO) else (nI (S 1 + k'), upN (upN S 0 (S 0 - k')) 1 (S 1 + k'), min 8 (un + 1), pushA un A S)).1 ∧ WC Γ μ' x T (if S 3 = 1 ∨ S 0 < k' then ((-4, S, un, A) : DO) else (nI (S 1 + k'), upN (upN S 0 (S 0 - k')) 1 (S 1 + k'), min 8 (un + 1), pushA un A S)).2.1 (if S 3 = 1 ∨ S 0 < k' then ((-4, S, un, A) : DO) else (nI (S 1 + k'), upN (upN S 0 (S 0 - k')) 1 (S 1 + k'), min 8 (un + 1), pushA un A S)).2.2.1 (if S 3 = 1 ∨ S 0 < k' then ((-4, S, un, A) : DO) else (nI (S 1 + k'), upN (upN S 0 (S 0 - k')) 1 (S 1 + k'), min 8 (un + 1), pushA un A S)).2.2.2 kf K n xs sn V ∧ Fr x 46 μ μ'))) 2 0 0 34 [some (.ref x), some (.int (nI k'))] [] μ := by
      intro hq
      rw [if_pos hq]
      refine r_bipush (pc := 34) (v := -4) X dX6_give_34 (by decide) ?_
      exact r_iret (pc := 36) X dX6_give_36 (⟨rfl, h, Fr.rf⟩)
    refine r_aload_n (pc := 13) X dX6_give_13 rfl ?_
    apply r_get (pc := 14) X f_X6_29 dX6_give_14
    · repeat (first | exact mu_self | assumption | refine (mu_ne (by omega)).trans ?_)
    · rfl
    apply r_get (pc := 17) X f_X6_140 dX6_give_17
    · repeat (first | exact mu_self | assumption | refine (mu_ne (by omega)).trans ?_)
    · rfl
    first | refine r_if_neZ (pc := 20) X 34 dX6_give_20 (by decide) (fun h2 => ?_) (fun h2 => ?_) | refine r_if_neN (pc := 20) X 34 dX6_give_20 (by decide) (by omega) (fun h2 => ?_) (fun h2 => ?_) | refine r_if_ne (pc := 20) X 34 dX6_give_20 (by decide) (fun h2 => ?_) (fun h2 => ?_)
    · exact bad (Or.inl (by omega))
    · refine r_iload_n (pc := 23) X dX6_give_23 rfl ?_
      refine r_aload_n (pc := 24) X dX6_give_24 rfl ?_
      apply r_get (pc := 25) X f_X6_29 dX6_give_25
      · repeat (first | exact mu_self | assumption | refine (mu_ne (by omega)).trans ?_)
      · rfl
      apply r_get (pc := 28) X f_X6_144 dX6_give_28
      · repeat (first | exact mu_self | assumption | refine (mu_ne (by omega)).trans ?_)
      · rfl
      first | refine r_icmp_leN (pc := 31) X 37 dX6_give_31 (by decide) (by omega) (by omega) (fun h3 => ?_) (fun h3 => ?_) | refine r_icmp_le (pc := 31) X 37 dX6_give_31 (by decide) (fun h3 => ?_) (fun h3 => ?_)
      · rw [if_neg (by omega)]
        refine r_aload_n (pc := 37) X dX6_give_37 rfl ?_
        apply r_get (pc := 38) X f_X6_36 dX6_give_38
        · repeat (first | exact mu_self | assumption | refine (mu_ne (by omega)).trans ?_)
        · rfl
        refine r_aload_n (pc := 41) X dX6_give_41 rfl ?_
        apply r_get (pc := 42) X f_X6_29 dX6_give_42
        · repeat (first | exact mu_self | assumption | refine (mu_ne (by omega)).trans ?_)
        · rfl
        refine c_v X (rV (pc := 45) (ci := 0) X l_X6_147 (t0_push a6 a4 (by omega) a5 i3) dX6_give_45 (by repeat (first | exact mu_self | assumption | refine (mu_ne (by omega)).trans ?_)) rfl rfl rfl (Nat.le_of_ble_eq_true rfl) (by decide) (Nat.le_of_ble_eq_true rfl) (Nat.le_of_ble_eq_true rfl)) ?_
        rintro μ1 ⟨k1, k2⟩
        have hW1 : WC Γ μ1 x T S (min 8 (un + 1)) (pushA un A S) kf K n xs sn V := h.pa (fun q hq => k2 q (by omega)) ⟨_, _, _, Nat.mod_lt _ (by decide), k1, push_ok a5 i3 a7⟩
        have d0 := hW1.1
        have d4 := hW1.2.2.2.2.1
        have d40 := d4.1
        refine r_aload_n (pc := 48) X dX6_give_48 rfl ?_
        apply r_get (pc := 49) X f_X6_29 dX6_give_49
        · repeat (first | exact mu_self | assumption | refine (mu_ne (by omega)).trans ?_)
        · rfl
        refine r_dup (pc := 52) X dX6_give_52 rfl ?_
        apply r_get (pc := 53) X f_X6_144 dX6_give_53
        · repeat (first | exact mu_self | assumption | refine (mu_ne (by omega)).trans ?_)
        · rfl
        refine r_iload_n (pc := 56) X dX6_give_56 rfl ?_
        first | refine r_isubN (pc := 57) X dX6_give_57 (by omega) ?_ | refine r_isub (pc := 57) X dX6_give_57 ?_
        first | refine r_putS (pc := 58) X f_X6_144 dX6_give_58 (by first | rfl | assumption | decide | simp [narrow]) (by first | rfl | assumption) (Nat.le_of_ble_eq_true rfl) ?_ | refine r_put (pc := 58) X f_X6_144 dX6_give_58 (by repeat (first | exact mu_self | assumption | refine (mu_ne (by omega)).trans ?_)) (by first | rfl | assumption | decide | simp [narrow]) (by first | rfl | assumption) (Nat.le_of_ble_eq_true rfl) ?_
        refine r_aload_n (pc := 61) X dX6_give_61 rfl ?_
        apply r_get (pc := 62) X f_X6_29 dX6_give_62
        · repeat (first | exact mu_self | assumption | refine (mu_ne (by omega)).trans ?_)
        · rfl
        refine r_dup (pc := 65) X dX6_give_65 rfl ?_
        apply r_get (pc := 66) X f_X6_151 dX6_give_66
        · repeat (first | exact mu_self | assumption | refine (mu_ne (by omega)).trans ?_)
        · rfl
        refine r_iload_n (pc := 69) X dX6_give_69 rfl ?_
        first | refine r_iaddN (pc := 70) X dX6_give_70 ?_ | refine r_iadd (pc := 70) X dX6_give_70 ?_
        first | refine r_putS (pc := 71) X f_X6_151 dX6_give_71 (by first | rfl | assumption | decide | simp [narrow]) (by first | rfl | assumption) (Nat.le_of_ble_eq_true rfl) ?_ | refine r_put (pc := 71) X f_X6_151 dX6_give_71 (by repeat (first | exact mu_self | assumption | refine (mu_ne (by omega)).trans ?_)) (by first | rfl | assumption | decide | simp [narrow]) (by first | rfl | assumption) (Nat.le_of_ble_eq_true rfl) ?_
        refine r_aload_n (pc := 74) X dX6_give_74 rfl ?_
        apply r_get (pc := 75) X f_X6_29 dX6_give_75
        · repeat (first | exact mu_self | assumption | refine (mu_ne (by omega)).trans ?_)
        · rfl
        apply r_get (pc := 78) X f_X6_151 dX6_give_78
        · repeat (first | exact mu_self | assumption | refine (mu_ne (by omega)).trans ?_)
        · rfl
        refine r_iret (pc := 81) X dX6_give_81 ⟨rfl, hW1.sc (fun q hq => mu_ne (by omega)) ⟨?_, ?_, ?_⟩, fun q hq => (mu_ne (by omega)).trans (k2 q (by omega))⟩
        · rw [mu_self]
          have e5 : scV (T 0) (upN (upN S 0 (S 0 - k')) 1 (S 1 + k')) 5 = scV (T 0) S 5 := by show nI (msk _ _ 0) = nI (msk _ _ 0); rw [msk_up t1 (by omega), msk_up t1 (by omega)]
          have e6 : scV (T 0) (upN (upN S 0 (S 0 - k')) 1 (S 1 + k')) 6 = scV (T 0) S 6 := by show nI (msk _ _ 1) = nI (msk _ _ 1); rw [msk_up t1 (by omega), msk_up t1 (by omega)]
          have e7 : scV (T 0) (upN (upN S 0 (S 0 - k')) 1 (S 1 + k')) 7 = scV (T 0) S 7 := by show nI (msk _ _ 2) = nI (msk _ _ 2); rw [msk_up t1 (by omega), msk_up t1 (by omega)]
          rw [e5, e6, e7]
          rfl
        · rw [scU_up (by omega), scU_up (by omega)]
          exact (mu_ne (by omega)).trans d4.2.1
        · exact d4.2.2
      · have h3' : S 0 < k' := by
          have : ¬ k' ≤ S 0 := h3
          omega
        exact bad (Or.inr h3')
  · have h1' : ¬ (1 ≤ v1.toInt ∧ v1.toInt ≤ 50) := by simp at h1; omega
    unfold opGive
    rw [if_pos h1']
    refine r_bipush (pc := 10) (v := -3) X dX6_give_10 (by decide) ?_
    exact r_iret (pc := 12) X dX6_give_12 (⟨rfl, h, Fr.rf⟩)
theorem t6_day (h : WC Γ μ x T S un A kf K n xs sn V) (hI : INV T S un A kf K n xs sn V) : CT Γ l 3 sz 0 0 mX6_day [.ref x] μ (ri (fun r μ' => r = (opDay T S un A).1 ∧ WC Γ μ' x T (opDay T S un A).2.1 (opDay T S un A).2.2.1 (opDay T S un A).2.2.2 kf K n xs sn V ∧ Fr x 46 μ μ')) := by
  obtain ⟨a0, ⟨cl, tb, te, a1⟩, a2, ⟨T', a3⟩, a4, ⟨nx, V', U', a5, a6, a7⟩, ⟨V2, U2, a8, a9⟩, a10, ⟨pf, pg, a11, a12⟩, a13⟩ := id h
  have c10 := a1.1
  have c11 := a1.2
  have c20 := a2.1
  have c21 := a2.2.1
  have c22 := a2.2.2.1
  have c23 := a2.2.2.2.1
  have c24 := a2.2.2.2.2
  have c30 := a3.1
  have c40 := a4.1
  have c41 := a4.2.1
  have c60 := a6.1
  have c80 := a8.1
  have c110 := a11.1
  have c130 := a13.1
  obtain ⟨i1, i2, i3, i4, i5, i6, i7, i8, i9⟩ := id hI
  obtain ⟨t1, t2, t3, t4, t5, t6, t7, t8, t9, t10, t11⟩ := id i1
  obtain ⟨z1, z2, z3, z4, z5, z6, z7, z8, z9⟩ := id i2
  refine CT.go RX6 rfl "day" rfl [some (.ref x), none] rfl (by decide) (Nat.le_of_ble_eq_true rfl) ?_
  intro p e R s m args below meth c X hsz
  refine r_aload_n (pc := 0) X dX6_day_0 rfl ?_
  apply r_get (pc := 1) X f_X6_29 dX6_day_1
  · repeat (first | exact mu_self | assumption | refine (mu_ne (by omega)).trans ?_)
  · rfl
  apply r_get (pc := 4) X f_X6_154 dX6_day_4
  · repeat (first | exact mu_self | assumption | refine (mu_ne (by omega)).trans ?_)
  · rfl
  refine r_bipush (pc := 7) (v := nI 99) X dX6_day_7 (by decide) ?_
  first | refine r_icmp_ltN (pc := 9) X 15 dX6_day_9 (by decide) (by omega) (by omega) (fun h1 => ?_) (fun h1 => ?_) | refine r_icmp_lt (pc := 9) X 15 dX6_day_9 (by decide) (fun h1 => ?_) (fun h1 => ?_)
  · have h1' : S 4 < 99 := h1
    have eo : opDay T S un A = (nI (mkb (T 0) (eatP S (dayN T S))), dayS T S, min 8 (un + 1), pushA un A S) := by unfold opDay; rw [if_neg (by omega)]
    rw [eo]
    refine r_aload_n (pc := 15) X dX6_day_15 rfl ?_
    apply r_get (pc := 16) X f_X6_36 dX6_day_16
    · repeat (first | exact mu_self | assumption | refine (mu_ne (by omega)).trans ?_)
    · rfl
    refine r_aload_n (pc := 19) X dX6_day_19 rfl ?_
    apply r_get (pc := 20) X f_X6_29 dX6_day_20
    · repeat (first | exact mu_self | assumption | refine (mu_ne (by omega)).trans ?_)
    · rfl
    refine c_v X (rV (pc := 23) (ci := 0) X l_X6_147 (t0_push a6 a4 (by omega) a5 i3) dX6_day_23 (by repeat (first | exact mu_self | assumption | refine (mu_ne (by omega)).trans ?_)) rfl rfl rfl (Nat.le_of_ble_eq_true rfl) (by decide) (Nat.le_of_ble_eq_true rfl) (Nat.le_of_ble_eq_true rfl)) ?_
    rintro μ1 ⟨k1, k2⟩
    have hW1 : WC Γ μ1 x T S (min 8 (un + 1)) (pushA un A S) kf K n xs sn V := h.pa (fun q hq => k2 q (by omega)) ⟨_, _, _, Nat.mod_lt _ (by decide), k1, push_ok a5 i3 a7⟩
    have d0 := hW1.1
    have d4 := hW1.2.2.2.2.1
    have d40 := d4.1
    have fin : ∀ μ2, WC Γ μ2 x T (eatS (T 0) (dayN T S) S) (min 8 (un + 1)) (pushA un A S) kf K n xs sn V → Fr x 46 μ μ2 → vV Γ p l e R s m args below meth c (vQ Γ s args below 0 0 (ri (fun r μ' => r = nI (mkb (T 0) (eatP S (dayN T S))) ∧ WC Γ μ' x T (dayS T S) (min 8 (un + 1)) (pushA un A S) kf K n xs sn V ∧ Fr x 46 μ μ'))) 2 0 0 54 [some (.ref x), none] [.int (nI (mkb (T 0) (eatP S (dayN T S))))] μ2 := by
      intro μ2 hW2 hF
      have f0 := hW2.1
      have f4 := hW2.2.2.2.2.1
      have f40 := f4.1
      have l2 : eatS (T 0) (dayN T S) S 2 = S 2 := eatS_lo (by omega)
      have l4 : eatS (T 0) (dayN T S) S 4 = S 4 := eatS_lo (by omega)
      refine r_istore_n (pc := 54) X dX6_day_54 (by decide) rfl ?_
      refine r_aload_n (pc := 55) X dX6_day_55 rfl ?_
      apply r_get (pc := 56) X f_X6_29 dX6_day_56
      · repeat (first | exact mu_self | assumption | refine (mu_ne (by omega)).trans ?_)
      · rfl
      refine r_bipush (pc := 59) (v := nI 9) X dX6_day_59 (by decide) ?_
      refine r_aload_n (pc := 61) X dX6_day_61 rfl ?_
      apply r_get (pc := 62) X f_X6_29 dX6_day_62
      · repeat (first | exact mu_self | assumption | refine (mu_ne (by omega)).trans ?_)
      · rfl
      apply r_get (pc := 65) X f_X6_163 dX6_day_65
      · repeat (first | exact mu_self | assumption | refine (mu_ne (by omega)).trans ?_)
      · rfl
      have e3 : scV (T 0) (eatS (T 0) (dayN T S) S) 3 = nI (S 2) := congrArg nI l2
      rw [e3]
      refine r_iconst (pc := 68) (v := nI 1) X dX6_day_68 (by decide) ?_
      first | refine r_iaddN (pc := 69) X dX6_day_69 ?_ | refine r_iadd (pc := 69) X dX6_day_69 ?_
      refine r_min (pc := 70) X l_X6_166 dX6_day_70 (by decide) (Nat.le_of_ble_eq_true rfl) (by decide) (by decide) ?_
      rw [min_nI (by omega) (by omega)]
      first | refine r_putS (pc := 73) X f_X6_163 dX6_day_73 (by first | rfl | assumption | decide | simp [narrow]) (by first | rfl | assumption) (Nat.le_of_ble_eq_true rfl) ?_ | refine r_put (pc := 73) X f_X6_163 dX6_day_73 (by repeat (first | exact mu_self | assumption | refine (mu_ne (by omega)).trans ?_)) (by first | rfl | assumption | decide | simp [narrow]) (by first | rfl | assumption) (Nat.le_of_ble_eq_true rfl) ?_
      refine r_aload_n (pc := 76) X dX6_day_76 rfl ?_
      apply r_get (pc := 77) X f_X6_29 dX6_day_77
      · repeat (first | exact mu_self | assumption | refine (mu_ne (by omega)).trans ?_)
      · rfl
      refine r_iconst (pc := 80) (v := nI 0) X dX6_day_80 (by decide) ?_
      first | refine r_putS (pc := 81) X f_X6_151 dX6_day_81 (by first | rfl | assumption | decide | simp [narrow]) (by first | rfl | assumption) (Nat.le_of_ble_eq_true rfl) ?_ | refine r_put (pc := 81) X f_X6_151 dX6_day_81 (by repeat (first | exact mu_self | assumption | refine (mu_ne (by omega)).trans ?_)) (by first | rfl | assumption | decide | simp [narrow]) (by first | rfl | assumption) (Nat.le_of_ble_eq_true rfl) ?_
      refine r_aload_n (pc := 84) X dX6_day_84 rfl ?_
      apply r_get (pc := 85) X f_X6_29 dX6_day_85
      · repeat (first | exact mu_self | assumption | refine (mu_ne (by omega)).trans ?_)
      · rfl
      refine r_dup (pc := 88) X dX6_day_88 rfl ?_
      apply r_get (pc := 89) X f_X6_154 dX6_day_89
      · repeat (first | exact mu_self | assumption | refine (mu_ne (by omega)).trans ?_)
      · rfl
      have e0 : scV (T 0) (eatS (T 0) (dayN T S) S) 0 = nI (S 4) := congrArg nI l4
      rw [e0]
      refine r_iconst (pc := 92) (v := nI 1) X dX6_day_92 (by decide) ?_
      first | refine r_iaddN (pc := 93) X dX6_day_93 ?_ | refine r_iadd (pc := 93) X dX6_day_93 ?_
      first | refine r_putS (pc := 94) X f_X6_154 dX6_day_94 (by first | rfl | assumption | decide | simp [narrow]) (by first | rfl | assumption) (Nat.le_of_ble_eq_true rfl) ?_ | refine r_put (pc := 94) X f_X6_154 dX6_day_94 (by repeat (first | exact mu_self | assumption | refine (mu_ne (by omega)).trans ?_)) (by first | rfl | assumption | decide | simp [narrow]) (by first | rfl | assumption) (Nat.le_of_ble_eq_true rfl) ?_
      refine r_iload_n (pc := 97) X dX6_day_97 rfl ?_
      refine r_iret (pc := 98) X dX6_day_98 ⟨rfl, hW2.sc (fun q hq => mu_ne (by omega)) ⟨?_, ?_, ?_⟩, fun q hq => (mu_ne (by omega)).trans (hF q hq)⟩
      · rw [mu_self]
        have em : ∀ hh, msk (T 0) (dayS T S) hh = msk (T 0) (eatS (T 0) (dayN T S) S) hh := fun hh => by unfold dayS; rw [msk_up t1 (by omega), msk_up t1 (by omega), msk_up t1 (by omega)]
        have e5 : scV (T 0) (dayS T S) 5 = scV (T 0) (eatS (T 0) (dayN T S) S) 5 := congrArg nI (em 0)
        have e6 : scV (T 0) (dayS T S) 6 = scV (T 0) (eatS (T 0) (dayN T S) S) 6 := congrArg nI (em 1)
        have e7 : scV (T 0) (dayS T S) 7 = scV (T 0) (eatS (T 0) (dayN T S) S) 7 := congrArg nI (em 2)
        rw [e5, e6, e7]
        rfl
      · unfold dayS
        rw [scU_up (by omega), scU_up (by omega), scU_up (by omega)]
        exact (mu_ne (by omega)).trans f4.2.1
      · exact f4.2.2
    refine r_aload_n (pc := 26) X dX6_day_26 rfl ?_
    apply r_get (pc := 27) X f_X6_29 dX6_day_27
    · repeat (first | exact mu_self | assumption | refine (mu_ne (by omega)).trans ?_)
    · rfl
    apply r_get (pc := 30) X f_X6_140 dX6_day_30
    · repeat (first | exact mu_self | assumption | refine (mu_ne (by omega)).trans ?_)
    · rfl
    first | refine r_if_eqZ (pc := 33) X 40 dX6_day_33 (by decide) (fun h2 => ?_) (fun h2 => ?_) | refine r_if_eqN (pc := 33) X 40 dX6_day_33 (by decide) (by omega) (fun h2 => ?_) (fun h2 => ?_) | refine r_if_eq (pc := 33) X 40 dX6_day_33 (by decide) (fun h2 => ?_) (fun h2 => ?_)
    · have h2' : S 3 = 0 := h2
      have en : dayN T S = T 28 := by unfold dayN; rw [if_neg (by omega)]
      have c20' : μ1 (x + 3) = _ := (k2 _ (by omega)).trans c20
      refine r_aload_n (pc := 40) X dX6_day_40 rfl ?_
      apply r_get (pc := 41) X f_X6_29 dX6_day_41
      · repeat (first | exact mu_self | assumption | refine (mu_ne (by omega)).trans ?_)
      · rfl
      refine r_aload_n (pc := 44) X dX6_day_44 rfl ?_
      apply r_get (pc := 45) X f_X6_19 dX6_day_45
      · repeat (first | exact mu_self | assumption | refine (mu_ne (by omega)).trans ?_)
      · rfl
      apply r_get (pc := 48) X f_X6_157 dX6_day_48
      · repeat (first | exact mu_self | assumption | refine (mu_ne (by omega)).trans ?_)
      · rfl
      refine c_i X (rV (pc := 51) (ci := 2) X l_X6_160 (t2_eatFirst d4 t1 (n := T 28) (by omega)) dX6_day_51 (by repeat (first | exact mu_self | assumption | refine (mu_ne (by omega)).trans ?_)) rfl rfl rfl (Nat.le_of_ble_eq_true rfl) (by decide) (Nat.le_of_ble_eq_true rfl) (Nat.le_of_ble_eq_true rfl)) ?_
      rintro _ μ2 ⟨rfl, m1, m2⟩
      rw [← en] at m1 ⊢
      exact fin μ2 (hW1.sc (fun q hq => m2 q (by omega)) m1) (fun q hq => (m2 q (by omega)).trans (k2 q (by omega)))
    · have h2' : S 3 = 1 := by
        have : ¬ S 3 = 0 := h2
        omega
      have en : dayN T S = 0 := by unfold dayN; rw [if_pos h2']
      have hq := fin μ1 (by rw [en, eatS_0]; exact hW1) (fun q hq => k2 q (by omega))
      have e9 : nI 0 = nI (mkb (T 0) (eatP S (dayN T S))) := by rw [en, mkb_eat0]
      refine r_iconst (pc := 36) (v := nI 0) X dX6_day_36 (by decide) ?_
      refine r_goto (pc := 37) X 54 dX6_day_37 (by decide) ?_
      rw [e9]
      exact hq
  · have h1' : S 4 = 99 := by
      have : ¬ S 4 < 99 := h1
      omega
    have eo : opDay T S un A = (-5, S, un, A) := by unfold opDay; rw [if_pos h1']
    rw [eo]
    refine r_bipush (pc := 12) (v := -5) X dX6_day_12 (by decide) ?_
    exact r_iret (pc := 14) X dX6_day_14 (⟨rfl, h, Fr.rf⟩)
end S27
