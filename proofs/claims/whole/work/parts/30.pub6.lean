section S30
variable {Γ : KK} {l : Launch} {sz : Nat} {μ : MM} {x : Nat} {T S : Nat → Nat} {un : Nat} {A : Nat → Nat → Nat} {kf : Nat → Bool} {K : Nat → Nat → Nat} {n : Nat} {xs : Nat → Nat} {sn : Nat} {V : Nat → Nat}
theorem t6_names (h : WC Γ μ x T S un A kf K n xs sn V) (hI : INV T S un A kf K n xs sn V) (v1 : Int32) : CT Γ l 3 sz 0 0 mX6_names [.ref x, .int v1] μ (ri (fun r μ' => r = opNames T v1 ∧ μ' = μ)) := by
  obtain ⟨a0, ⟨cl, tb, te, a1⟩, a2, ⟨T', a3⟩, a4, ⟨nx, V', U', a5, a6, a7⟩, ⟨V2, U2, a8, a9⟩, a10, ⟨pf, pg, a11, a12⟩, a13⟩ := id h
  have c10 := a1.1
  have c11 := a1.2
  have c20 := a2.1
  have c21 := a2.2.1
  have c22 := a2.2.2.1
  have c23 := a2.2.2.2.1
  have c24 := a2.2.2.2.2
  have c30 := a3.1
  have c40 := a4.1
  have c41 := a4.2.1
  have c60 := a6.1
  have c80 := a8.1
  have c110 := a11.1
  have c130 := a13.1
  obtain ⟨i1, i2, i3, i4, i5, i6, i7, i8, i9⟩ := id hI
  obtain ⟨t1, t2, t3, t4, t5, t6, t7, t8, t9, t10, t11⟩ := id i1
  obtain ⟨z1, z2, z3, z4, z5, z6, z7, z8, z9⟩ := id i2
  refine CT.go RX6 rfl "names" rfl [some (.ref x), some (.int v1)] rfl (by decide) (Nat.le_of_ble_eq_true rfl) ?_
  intro p e R s m args below meth c X hsz
  refine r_iload_n (pc := 0) X dX6_names_0 rfl ?_
  unfold opNames
  by_cases w0 : v1.toInt = 0
  · rw [if_pos w0]
    refine r_lookup (pc := 1) X 28 dX6_names_1 (by decide) (by rw [w0]) (by decide) ?_
    refine r_aload_n (pc := 28) X dX6_names_28 rfl ?_
    apply r_get (pc := 29) X f_X6_19 dX6_names_29
    · repeat (first | exact mu_self | assumption | refine (mu_ne (by omega)).trans ?_)
    · rfl
    refine r_iconst (pc := 32) (v := nI 0) X dX6_names_32 (by decide) ?_
    refine c_i X (rV (pc := 33) (ci := 5) X l_X6_227 (t5_namesFor a2 i1 (st := 0) (by omega)) dX6_names_33 (by repeat (first | exact mu_self | assumption | refine (mu_ne (by omega)).trans ?_)) rfl rfl rfl (Nat.le_of_ble_eq_true rfl) (by decide) (Nat.le_of_ble_eq_true rfl) (Nat.le_of_ble_eq_true rfl)) ?_
    rintro _ μq ⟨rfl, hμq⟩
    rw [hμq]
    clear hμq μq
    exact r_iret (pc := 36) X dX6_names_36 (⟨rfl, rfl⟩)
  rw [if_neg w0]
  by_cases w1 : v1.toInt = 1
  · rw [if_pos w1]
    refine r_lookup (pc := 1) X 37 dX6_names_1 (by decide) (by rw [w1]) (by decide) ?_
    refine r_aload_n (pc := 37) X dX6_names_37 rfl ?_
    apply r_get (pc := 38) X f_X6_19 dX6_names_38
    · repeat (first | exact mu_self | assumption | refine (mu_ne (by omega)).trans ?_)
    · rfl
    refine c_i X (rV (pc := 41) (ci := 5) X l_X6_230 (t5_quietestName a2 i1) dX6_names_41 (by repeat (first | exact mu_self | assumption | refine (mu_ne (by omega)).trans ?_)) rfl rfl rfl (Nat.le_of_ble_eq_true rfl) (by decide) (Nat.le_of_ble_eq_true rfl) (Nat.le_of_ble_eq_true rfl)) ?_
    rintro _ μq ⟨rfl, hμq⟩
    rw [hμq]
    clear hμq μq
    exact r_iret (pc := 44) X dX6_names_44 (⟨rfl, rfl⟩)
  rw [if_neg w1]
  refine r_lookup (pc := 1) X 45 dX6_names_1 (by decide) (lk2.trans (by rw [if_neg w0, if_neg w1])) (by decide) ?_
  refine r_bipush (pc := 45) (v := -3) X dX6_names_45 (by decide) ?_
  exact r_iret (pc := 47) X dX6_names_47 (⟨rfl, rfl⟩)
theorem t6_came (h : WC Γ μ x T S un A kf K n xs sn V) (hI : INV T S un A kf K n xs sn V) (v1 : Int32) : CT Γ l 3 sz 0 0 mX6_came [.ref x, .int v1] μ (ri (fun r μ' => r = opCame T v1 ∧ μ' = μ)) := by
  obtain ⟨a0, ⟨cl, tb, te, a1⟩, a2, ⟨T', a3⟩, a4, ⟨nx, V', U', a5, a6, a7⟩, ⟨V2, U2, a8, a9⟩, a10, ⟨pf, pg, a11, a12⟩, a13⟩ := id h
  have c10 := a1.1
  have c11 := a1.2
  have c20 := a2.1
  have c21 := a2.2.1
  have c22 := a2.2.2.1
  have c23 := a2.2.2.2.1
  have c24 := a2.2.2.2.2
  have c30 := a3.1
  have c40 := a4.1
  have c41 := a4.2.1
  have c60 := a6.1
  have c80 := a8.1
  have c110 := a11.1
  have c130 := a13.1
  obtain ⟨i1, i2, i3, i4, i5, i6, i7, i8, i9⟩ := id hI
  obtain ⟨t1, t2, t3, t4, t5, t6, t7, t8, t9, t10, t11⟩ := id i1
  obtain ⟨z1, z2, z3, z4, z5, z6, z7, z8, z9⟩ := id i2
  have hp : 2 ^ T 20 ≤ 16 := by have := Nat.pow_le_pow_right (n := 2) (by decide) t3; simpa using this
  have hp0 := Nat.two_pow_pos (T 20)
  have hpi : ((2 ^ T 20 : Nat) : Int) = (2 : Int) ^ T 20 := by simp
  refine CT.go RX6 rfl "came" rfl [some (.ref x), some (.int v1)] rfl (by decide) (Nat.le_of_ble_eq_true rfl) ?_
  intro p e R s m args below meth c X hsz
  refine r_iload_n (pc := 0) X dX6_came_0 rfl ?_
  refine r_iconst (pc := 1) (v := nI 0) X dX6_came_1 (by decide) ?_
  refine r_aload_n (pc := 2) X dX6_came_2 rfl ?_
  apply r_get (pc := 3) X f_X6_19 dX6_came_3
  · repeat (first | exact mu_self | assumption | refine (mu_ne (by omega)).trans ?_)
  · rfl
  apply r_get (pc := 6) X f_X6_233 dX6_came_6
  · repeat (first | exact mu_self | assumption | refine (mu_ne (by omega)).trans ?_)
  · rfl
  refine c_i X (rS (pc := 9) X l_X6_236 (t6_allBits (n := T 20) (by omega)) dX6_came_9 rfl rfl (Nat.le_of_ble_eq_true rfl) (by decide) (Nat.le_of_ble_eq_true rfl) (Nat.le_of_ble_eq_true rfl)) ?_
  rintro _ μq ⟨rfl, hμq⟩
  rw [hμq]
  clear hμq μq
  refine c_i X (rS (pc := 12) X l_X6_66 (t6_isOutside v1 (nI 0) (nI (2 ^ T 20 - 1))) dX6_came_12 rfl rfl (Nat.le_of_ble_eq_true rfl) (by decide) (Nat.le_of_ble_eq_true rfl) (Nat.le_of_ble_eq_true rfl)) ?_
  rintro _ μq ⟨rfl, hμq⟩
  rw [hμq]
  clear hμq μq
  rw [nI_toInt (by omega), nI_toInt (by omega)]
  unfold opCame
  first | refine r_if_eqZ (pc := 15) X 23 dX6_came_15 (by decide) (fun h1 => ?_) (fun h1 => ?_) | refine r_if_eqN (pc := 15) X 23 dX6_came_15 (by decide) (by omega) (fun h1 => ?_) (fun h1 => ?_) | refine r_if_eq (pc := 15) X 23 dX6_came_15 (by decide) (fun h1 => ?_) (fun h1 => ?_)
  · have h1' : 0 ≤ v1.toInt ∧ v1.toInt < 2 ^ T 20 := by
      rw [← hpi]
      simp only [decide_eq_false_iff_not] at h1
      omega
    have hv := nt_nI h1'.1
    rw [if_neg (fun q => q h1')]
    have hl : nt v1 < 16 := by unfold nt; omega
    obtain ⟨k', hk⟩ : ∃ k', k' = nt v1 := ⟨_, rfl⟩
    rw [← hk] at hv hl ⊢
    subst hv
    refine r_aload_n (pc := 23) X dX6_came_23 rfl ?_
    apply r_get (pc := 24) X f_X6_19 dX6_came_24
    · repeat (first | exact mu_self | assumption | refine (mu_ne (by omega)).trans ?_)
    · rfl
    refine r_iload_n (pc := 27) X dX6_came_27 rfl ?_
    refine c_i X (rV (pc := 28) (ci := 5) X l_X6_227 (t5_namesFor a2 i1 (st := k') (by omega)) dX6_came_28 (by repeat (first | exact mu_self | assumption | refine (mu_ne (by omega)).trans ?_)) rfl rfl rfl (Nat.le_of_ble_eq_true rfl) (by decide) (Nat.le_of_ble_eq_true rfl) (Nat.le_of_ble_eq_true rfl)) ?_
    rintro _ μq ⟨rfl, hμq⟩
    rw [hμq]
    clear hμq μq
    exact r_iret (pc := 31) X dX6_came_31 (⟨rfl, rfl⟩)
  · have h1' : ¬ (0 ≤ v1.toInt ∧ v1.toInt < 2 ^ T 20) := by
      rw [← hpi]
      simp only [decide_eq_true_eq] at h1
      omega
    rw [if_pos h1']
    refine r_bipush (pc := 18) (v := -2) X dX6_came_18 (by decide) ?_
    refine r_goto (pc := 20) X 31 dX6_came_20 (by decide) ?_
    exact r_iret (pc := 31) X dX6_came_31 (⟨rfl, rfl⟩)
theorem t6_seen (h : WC Γ μ x T S un A kf K n xs sn V) (hI : INV T S un A kf K n xs sn V) (v1 v2 v3 : Int32) : CT Γ l 1 sz 0 0 mX6_seen [.ref x, .int v1, .int v2, .int v3] μ (ri (fun r μ' => r = (opSeen T sn V v1 v2 v3).1 ∧ WC Γ μ' x T S un A kf K n xs (opSeen T sn V v1 v2 v3).2.1 (opSeen T sn V v1 v2 v3).2.2 ∧ Fr x 46 μ μ')) := by
  obtain ⟨a0, ⟨cl, tb, te, a1⟩, a2, ⟨T', a3⟩, a4, ⟨nx, V', U', a5, a6, a7⟩, ⟨V2, U2, a8, a9⟩, a10, ⟨pf, pg, a11, a12⟩, a13⟩ := id h
  have c10 := a1.1
  have c11 := a1.2
  have c20 := a2.1
  have c21 := a2.2.1
  have c22 := a2.2.2.1
  have c23 := a2.2.2.2.1
  have c24 := a2.2.2.2.2
  have c30 := a3.1
  have c40 := a4.1
  have c41 := a4.2.1
  have c60 := a6.1
  have c80 := a8.1
  have c110 := a11.1
  have c130 := a13.1
  obtain ⟨i1, i2, i3, i4, i5, i6, i7, i8, i9⟩ := id hI
  obtain ⟨t1, t2, t3, t4, t5, t6, t7, t8, t9, t10, t11⟩ := id i1
  obtain ⟨z1, z2, z3, z4, z5, z6, z7, z8, z9⟩ := id i2
  refine CT.go RX6 rfl "seen" rfl [some (.ref x), some (.int v1), some (.int v2), some (.int v3)] rfl (by decide) (Nat.le_of_ble_eq_true rfl) ?_
  intro p e R s m args below meth c X hsz
  have bad : ¬ (0 ≤ v1.toInt ∧ v1.toInt < T 0) ∨ ¬ (0 ≤ v2.toInt ∧ v2.toInt < T 7) → vV Γ p l e R s m args below meth c (vQ Γ s args below 0 0 (ri (fun r μ' => r = (opSeen T sn V v1 v2 v3).1 ∧ WC Γ μ' x T S un A kf K n xs (opSeen T sn V v1 v2 v3).2.1 (opSeen T sn V v1 v2 v3).2.2 ∧ Fr x 46 μ μ'))) 4 0 0 22 [some (.ref (x)), some (.int (v1)), some (.int (v2)), some (.int (v3))] [] (μ) := by
    intro hq
    have eo : opSeen T sn V v1 v2 v3 = (-2, sn, V) := by unfold opSeen; rw [if_pos hq]
    rw [eo]
    refine r_bipush (pc := 22) (v := -2) X dX6_seen_22 (by decide) ?_
    exact r_iret (pc := 24) X dX6_seen_24 (⟨rfl, h, Fr.rf⟩)
  refine r_aload_n (pc := 0) X dX6_seen_0 rfl ?_
  apply r_get (pc := 1) X f_X6_19 dX6_seen_1
  · repeat (first | exact mu_self | assumption | refine (mu_ne (by omega)).trans ?_)
  · rfl
  refine r_iload_n (pc := 4) X dX6_seen_4 rfl ?_
  refine c_i X (rV (pc := 5) (ci := 5) X l_X6_91 (t5_hasMan a2 t1 v1) dX6_seen_5 (by repeat (first | exact mu_self | assumption | refine (mu_ne (by omega)).trans ?_)) rfl rfl rfl (Nat.le_of_ble_eq_true rfl) (by decide) (Nat.le_of_ble_eq_true rfl) (Nat.le_of_ble_eq_true rfl)) ?_
  rintro _ μq ⟨rfl, hμq⟩
  rw [hμq]
  clear hμq μq
  first | refine r_if_eqZ (pc := 8) X 22 dX6_seen_8 (by decide) (fun h1 => ?_) (fun h1 => ?_) | refine r_if_eqN (pc := 8) X 22 dX6_seen_8 (by decide) (by omega) (fun h1 => ?_) (fun h1 => ?_) | refine r_if_eq (pc := 8) X 22 dX6_seen_8 (by decide) (fun h1 => ?_) (fun h1 => ?_)
  · exact bad (Or.inl (by simpa using h1))
  · have h1' : 0 ≤ v1.toInt ∧ v1.toInt < T 0 := by simpa using h1
    refine r_aload_n (pc := 11) X dX6_seen_11 rfl ?_
    apply r_get (pc := 12) X f_X6_19 dX6_seen_12
    · repeat (first | exact mu_self | assumption | refine (mu_ne (by omega)).trans ?_)
    · rfl
    refine r_iload_n (pc := 15) X dX6_seen_15 rfl ?_
    refine c_i X (rV (pc := 16) (ci := 5) X l_X6_106 (t5_hasSheep a2 t2 v2) dX6_seen_16 (by repeat (first | exact mu_self | assumption | refine (mu_ne (by omega)).trans ?_)) rfl rfl rfl (Nat.le_of_ble_eq_true rfl) (by decide) (Nat.le_of_ble_eq_true rfl) (Nat.le_of_ble_eq_true rfl)) ?_
    rintro _ μq ⟨rfl, hμq⟩
    rw [hμq]
    clear hμq μq
    first | refine r_if_neZ (pc := 19) X 25 dX6_seen_19 (by decide) (fun h2 => ?_) (fun h2 => ?_) | refine r_if_neN (pc := 19) X 25 dX6_seen_19 (by decide) (by omega) (fun h2 => ?_) (fun h2 => ?_) | refine r_if_ne (pc := 19) X 25 dX6_seen_19 (by decide) (fun h2 => ?_) (fun h2 => ?_)
    · have h2' : 0 ≤ v2.toInt ∧ v2.toInt < T 7 := by simpa using h2
      clear bad
      refine r_iload_n (pc := 25) X dX6_seen_25 rfl ?_
      refine r_iconst (pc := 26) (v := nI 0) X dX6_seen_26 (by decide) ?_
      refine r_iconst (pc := 27) (v := nI 1) X dX6_seen_27 (by decide) ?_
      refine c_i X (rS (pc := 28) X l_X6_66 (t6_isOutside v3 (nI 0) (nI 1)) dX6_seen_28 rfl rfl (Nat.le_of_ble_eq_true rfl) (by decide) (Nat.le_of_ble_eq_true rfl) (Nat.le_of_ble_eq_true rfl)) ?_
      rintro _ μq ⟨rfl, hμq⟩
      rw [hμq]
      clear hμq μq
      rw [nI_toInt (by omega), nI_toInt (by omega)]
      first | refine r_if_eqZ (pc := 31) X 37 dX6_seen_31 (by decide) (fun h3 => ?_) (fun h3 => ?_) | refine r_if_eqN (pc := 31) X 37 dX6_seen_31 (by decide) (by omega) (fun h3 => ?_) (fun h3 => ?_) | refine r_if_eq (pc := 31) X 37 dX6_seen_31 (by decide) (fun h3 => ?_) (fun h3 => ?_)
      · have h3' : 0 ≤ v3.toInt ∧ v3.toInt ≤ 1 := by simp at h3; omega
        have hv1 := nt_nI h1'.1
        have hv2 := nt_nI h2'.1
        have hv3 := nt_nI h3'.1
        have hl3 : nt v3 ≤ 1 := by unfold nt; omega
        have fin : vV Γ p l e R s m args below meth c (vQ Γ s args below 0 0 (ri (fun r μ' => r = (opSeen T sn V v1 v2 v3).1 ∧ WC Γ μ' x T S un A kf K n xs (opSeen T sn V v1 v2 v3).2.1 (opSeen T sn V v1 v2 v3).2.2 ∧ Fr x 46 μ μ'))) 4 0 0 53 [some (.ref (x)), some (.int (v1)), some (.int (v2)), some (.int (v3))] [.int (nI (nt v3)), .int (v2), .int (v1), .ref (x + 42)] (μ) := by
          by_cases hs : sn = 6
          · subst hs
            have eo : opSeen T 6 V v1 v2 v3 = (-5, 6, V) := by unfold opSeen; rw [if_neg (by omega), if_neg (fun q => q h3'), if_pos rfl]
            rw [eo]
            refine c_i X (rV (pc := 53) (ci := 3) X l_X6_239 (t3_addFull a13) dX6_seen_53 (by repeat (first | exact mu_self | assumption | refine (mu_ne (by omega)).trans ?_)) rfl rfl rfl (Nat.le_of_ble_eq_true rfl) (by decide) (Nat.le_of_ble_eq_true rfl) (Nat.le_of_ble_eq_true rfl)) ?_
            rintro _ μq ⟨rfl, hμq⟩
            rw [hμq]
            clear hμq μq
            refine r_if_eqN (pc := 56) X 69 dX6_seen_56 (by decide) (by decide) (fun _ => ?_) (fun q => absurd rfl q)
            refine r_bipush (pc := 69) (v := -5) X dX6_seen_69 (by decide) ?_
            exact r_iret (pc := 71) X dX6_seen_71 (⟨rfl, h, Fr.rf⟩)
          · have eo : opSeen T sn V v1 v2 v3 = (nI (sn + 1), sn + 1, upN (upN (upN V (3 * sn) (nt v1)) (3 * sn + 1) (nt v2)) (3 * sn + 2) (nt v3)) := by unfold opSeen; rw [if_neg (by omega), if_neg (fun q => q h3'), if_neg hs]
            rw [eo]
            clear eo
            obtain ⟨k1', hk1⟩ : ∃ k', k' = nt v1 := ⟨_, rfl⟩
            obtain ⟨k2', hk2⟩ : ∃ k', k' = nt v2 := ⟨_, rfl⟩
            rw [← hk1] at hv1 ⊢
            rw [← hk2] at hv2 ⊢
            rw [hv1, hv2]
            refine c_i X (rV (pc := 53) (ci := 3) X l_X6_239 (t3_add a13 (mm := k1') (ww := k2') (oo := nt v3) (by omega) hl3) dX6_seen_53 (by repeat (first | exact mu_self | assumption | refine (mu_ne (by omega)).trans ?_)) rfl rfl rfl (Nat.le_of_ble_eq_true rfl) (by decide) (Nat.le_of_ble_eq_true rfl) (Nat.le_of_ble_eq_true rfl)) ?_
            rintro _ μ1 ⟨rfl, k1, k2⟩
            refine r_if_eqN (pc := 56) X 69 dX6_seen_56 (by decide) (by decide) (fun q => absurd q (by decide)) (fun _ => ?_)
            have d0 : μ1 x = _ := (k2 x (by omega)).trans a0
            have k10 := k1.1
            refine r_aload_n (pc := 59) X dX6_seen_59 rfl ?_
            apply r_get (pc := 60) X f_X6_58 dX6_seen_60
            · repeat (first | exact mu_self | assumption | refine (mu_ne (by omega)).trans ?_)
            · rfl
            apply r_get (pc := 63) X f_X6_242 dX6_seen_63
            · repeat (first | exact mu_self | assumption | refine (mu_ne (by omega)).trans ?_)
            · rfl
            refine r_goto (pc := 66) X 71 dX6_seen_66 (by decide) ?_
            exact r_iret (pc := 71) X dX6_seen_71 (⟨rfl, h.si (fun q hq => k2 q (by omega)) k1, fun q hq => k2 q (by omega)⟩)
        refine r_aload_n (pc := 37) X dX6_seen_37 rfl ?_
        apply r_get (pc := 38) X f_X6_58 dX6_seen_38
        · repeat (first | exact mu_self | assumption | refine (mu_ne (by omega)).trans ?_)
        · rfl
        refine r_iload_n (pc := 41) X dX6_seen_41 rfl ?_
        refine r_iload_n (pc := 42) X dX6_seen_42 rfl ?_
        refine r_iload_n (pc := 43) X dX6_seen_43 rfl ?_
        refine r_iconst (pc := 44) (v := nI 1) X dX6_seen_44 (by decide) ?_
        refine r_icmp_ne (pc := 45) X 52 dX6_seen_45 (by decide) (fun h4 => ?_) (fun h4 => ?_)
        · have e0 : nt v3 = 0 := by
            have : v3.toInt ≠ 1 := fun q => h4 (Int32.toInt_inj.mp (by rw [q]; decide))
            unfold nt
            omega
          rw [e0] at fin
          refine r_iconst (pc := 52) (v := nI 0) X dX6_seen_52 (by decide) ?_
          exact fin
        · have e0 : nt v3 = 1 := by unfold nt; rw [h4]; decide
          rw [e0] at fin
          refine r_iconst (pc := 48) (v := nI 1) X dX6_seen_48 (by decide) ?_
          refine r_goto (pc := 49) X 53 dX6_seen_49 (by decide) ?_
          exact fin
      · have h3' : ¬ (0 ≤ v3.toInt ∧ v3.toInt ≤ 1) := by simp at h3; omega
        have eo : opSeen T sn V v1 v2 v3 = (-3, sn, V) := by unfold opSeen; rw [if_neg (by omega), if_pos h3']
        rw [eo]
        refine r_bipush (pc := 34) (v := -3) X dX6_seen_34 (by decide) ?_
        exact r_iret (pc := 36) X dX6_seen_36 (⟨rfl, h, Fr.rf⟩)
    · exact bad (Or.inr (by simpa using h2))
theorem t6_forget (h : WC Γ μ x T S un A kf K n xs sn V) (hI : INV T S un A kf K n xs sn V) : CT Γ l 0 sz 0 0 mX6_forget [.ref x] μ (ri (fun r μ' => r = nI sn ∧ WC Γ μ' x T S un A kf K n xs 0 V ∧ Fr x 46 μ μ')) := by
  obtain ⟨a0, ⟨cl, tb, te, a1⟩, a2, ⟨T', a3⟩, a4, ⟨nx, V', U', a5, a6, a7⟩, ⟨V2, U2, a8, a9⟩, a10, ⟨pf, pg, a11, a12⟩, a13⟩ := id h
  have c10 := a1.1
  have c11 := a1.2
  have c20 := a2.1
  have c21 := a2.2.1
  have c22 := a2.2.2.1
  have c23 := a2.2.2.2.1
  have c24 := a2.2.2.2.2
  have c30 := a3.1
  have c40 := a4.1
  have c41 := a4.2.1
  have c60 := a6.1
  have c80 := a8.1
  have c110 := a11.1
  have c130 := a13.1
  obtain ⟨i1, i2, i3, i4, i5, i6, i7, i8, i9⟩ := id hI
  obtain ⟨t1, t2, t3, t4, t5, t6, t7, t8, t9, t10, t11⟩ := id i1
  obtain ⟨z1, z2, z3, z4, z5, z6, z7, z8, z9⟩ := id i2
  refine CT.go RX6 rfl "forget" rfl [some (.ref x), none] rfl (by decide) (Nat.le_of_ble_eq_true rfl) ?_
  intro p e R s m args below meth c X hsz
  refine r_aload_n (pc := 0) X dX6_forget_0 rfl ?_
  apply r_get (pc := 1) X f_X6_58 dX6_forget_1
  · repeat (first | exact mu_self | assumption | refine (mu_ne (by omega)).trans ?_)
  · rfl
  apply r_get (pc := 4) X f_X6_242 dX6_forget_4
  · repeat (first | exact mu_self | assumption | refine (mu_ne (by omega)).trans ?_)
  · rfl
  refine r_istore_n (pc := 7) X dX6_forget_7 (by decide) rfl ?_
  refine r_aload_n (pc := 8) X dX6_forget_8 rfl ?_
  apply r_get (pc := 9) X f_X6_58 dX6_forget_9
  · repeat (first | exact mu_self | assumption | refine (mu_ne (by omega)).trans ?_)
  · rfl
  refine r_iconst (pc := 12) (v := nI 0) X dX6_forget_12 (by decide) ?_
  first | refine r_putS (pc := 13) X f_X6_242 dX6_forget_13 (by first | rfl | assumption | decide | simp [narrow]) (by first | rfl | assumption) (Nat.le_of_ble_eq_true rfl) ?_ | refine r_put (pc := 13) X f_X6_242 dX6_forget_13 (by repeat (first | exact mu_self | assumption | refine (mu_ne (by omega)).trans ?_)) (by first | rfl | assumption | decide | simp [narrow]) (by first | rfl | assumption) (Nat.le_of_ble_eq_true rfl) ?_
  refine r_iload_n (pc := 16) X dX6_forget_16 rfl ?_
  exact r_iret (pc := 17) X dX6_forget_17 (⟨rfl, h.si (fun q hq => mu_ne (by omega)) ⟨mu_self, (mu_ne (by omega)).trans a13.2.1, (mu_ne (by omega)).trans a13.2.2.1, (mu_ne (by omega)).trans a13.2.2.2⟩, fun q hq => mu_ne (by omega)⟩)
theorem t6_strong (h : WC Γ μ x T S un A kf K n xs sn V) (hI : INV T S un A kf K n xs sn V) (v1 v2 : Int32) : CT Γ l 4 sz 0 0 mX6_strong [.ref x, .int v1, .int v2] μ (ri (fun r μ' => r = opStrong T sn V v1 v2 ∧ μ' = μ)) := by
  obtain ⟨a0, ⟨cl, tb, te, a1⟩, a2, ⟨T', a3⟩, a4, ⟨nx, V', U', a5, a6, a7⟩, ⟨V2, U2, a8, a9⟩, a10, ⟨pf, pg, a11, a12⟩, a13⟩ := id h
  have c10 := a1.1
  have c11 := a1.2
  have c20 := a2.1
  have c21 := a2.2.1
  have c22 := a2.2.2.1
  have c23 := a2.2.2.2.1
  have c24 := a2.2.2.2.2
  have c30 := a3.1
  have c40 := a4.1
  have c41 := a4.2.1
  have c60 := a6.1
  have c80 := a8.1
  have c110 := a11.1
  have c130 := a13.1
  obtain ⟨i1, i2, i3, i4, i5, i6, i7, i8, i9⟩ := id hI
  obtain ⟨t1, t2, t3, t4, t5, t6, t7, t8, t9, t10, t11⟩ := id i1
  obtain ⟨z1, z2, z3, z4, z5, z6, z7, z8, z9⟩ := id i2
  refine CT.go RX6 rfl "strong" rfl [some (.ref x), some (.int v1), some (.int v2)] rfl (by decide) (Nat.le_of_ble_eq_true rfl) ?_
  intro p e R s m args below meth c X hsz
  refine r_aload_n (pc := 0) X dX6_strong_0 rfl ?_
  apply r_get (pc := 1) X f_X6_19 dX6_strong_1
  · repeat (first | exact mu_self | assumption | refine (mu_ne (by omega)).trans ?_)
  · rfl
  refine r_iload_n (pc := 4) X dX6_strong_4 rfl ?_
  refine c_i X (rV (pc := 5) (ci := 5) X l_X6_106 (t5_hasSheep a2 t2 v1) dX6_strong_5 (by repeat (first | exact mu_self | assumption | refine (mu_ne (by omega)).trans ?_)) rfl rfl rfl (Nat.le_of_ble_eq_true rfl) (by decide) (Nat.le_of_ble_eq_true rfl) (Nat.le_of_ble_eq_true rfl)) ?_
  rintro _ μq ⟨rfl, hμq⟩
  rw [hμq]
  clear hμq μq
  unfold opStrong
  first | refine r_if_neZ (pc := 8) X 14 dX6_strong_8 (by decide) (fun h1 => ?_) (fun h1 => ?_) | refine r_if_neN (pc := 8) X 14 dX6_strong_8 (by decide) (by omega) (fun h1 => ?_) (fun h1 => ?_) | refine r_if_ne (pc := 8) X 14 dX6_strong_8 (by decide) (fun h1 => ?_) (fun h1 => ?_)
  · have h1' : 0 ≤ v1.toInt ∧ v1.toInt < T 7 := by simpa using h1
    have hv := nt_nI h1'.1
    have hl : nt v1 < T 7 := nt_lt h1'.1 h1'.2
    rw [if_neg (fun q => q h1')]
    obtain ⟨k', hk⟩ : ∃ k', k' = nt v1 := ⟨_, rfl⟩
    rw [← hk] at hv hl ⊢
    subst hv
    refine r_iload_n (pc := 14) X dX6_strong_14 rfl ?_
    by_cases w0 : v2.toInt = 0
    · rw [if_pos w0]
      refine r_lookup (pc := 15) X 40 dX6_strong_15 (by decide) (by rw [w0]) (by decide) ?_
      refine r_aload_n (pc := 40) X dX6_strong_40 rfl ?_
      apply r_get (pc := 41) X f_X6_58 dX6_strong_41
      · repeat (first | exact mu_self | assumption | refine (mu_ne (by omega)).trans ?_)
      · rfl
      refine r_aload_n (pc := 44) X dX6_strong_44 rfl ?_
      apply r_get (pc := 45) X f_X6_19 dX6_strong_45
      · repeat (first | exact mu_self | assumption | refine (mu_ne (by omega)).trans ?_)
      · rfl
      refine r_iload_n (pc := 48) X dX6_strong_48 rfl ?_
      refine c_i X (rV (pc := 49) (ci := 3) X l_X6_243 (t3_leastStrong a13 a2 i1 i8 i9 hl) dX6_strong_49 (by repeat (first | exact mu_self | assumption | refine (mu_ne (by omega)).trans ?_)) rfl rfl rfl (Nat.le_of_ble_eq_true rfl) (by decide) (Nat.le_of_ble_eq_true rfl) (Nat.le_of_ble_eq_true rfl)) ?_
      rintro _ μq ⟨rfl, hμq⟩
      rw [hμq]
      clear hμq μq
      exact r_iret (pc := 52) X dX6_strong_52 (⟨rfl, rfl⟩)
    rw [if_neg w0]
    by_cases w1 : v2.toInt = 1
    · rw [if_pos w1]
      refine r_lookup (pc := 15) X 53 dX6_strong_15 (by decide) (by rw [w1]) (by decide) ?_
      refine r_aload_n (pc := 53) X dX6_strong_53 rfl ?_
      apply r_get (pc := 54) X f_X6_58 dX6_strong_54
      · repeat (first | exact mu_self | assumption | refine (mu_ne (by omega)).trans ?_)
      · rfl
      refine r_aload_n (pc := 57) X dX6_strong_57 rfl ?_
      apply r_get (pc := 58) X f_X6_19 dX6_strong_58
      · repeat (first | exact mu_self | assumption | refine (mu_ne (by omega)).trans ?_)
      · rfl
      refine r_iload_n (pc := 61) X dX6_strong_61 rfl ?_
      refine c_i X (rV (pc := 62) (ci := 3) X l_X6_247 (t3_greatestStrong a13 a2 i1 i8 i9 hl) dX6_strong_62 (by repeat (first | exact mu_self | assumption | refine (mu_ne (by omega)).trans ?_)) rfl rfl rfl (Nat.le_of_ble_eq_true rfl) (by decide) (Nat.le_of_ble_eq_true rfl) (Nat.le_of_ble_eq_true rfl)) ?_
      rintro _ μq ⟨rfl, hμq⟩
      rw [hμq]
      clear hμq μq
      exact r_iret (pc := 65) X dX6_strong_65 (⟨rfl, rfl⟩)
    rw [if_neg w1]
    refine r_lookup (pc := 15) X 66 dX6_strong_15 (by decide) (lk2.trans (by rw [if_neg w0, if_neg w1])) (by decide) ?_
    refine r_bipush (pc := 66) (v := -3) X dX6_strong_66 (by decide) ?_
    exact r_iret (pc := 68) X dX6_strong_68 (⟨rfl, rfl⟩)
  · have h1' : ¬ (0 ≤ v1.toInt ∧ v1.toInt < T 7) := by simpa using h1
    rw [if_pos h1']
    refine r_bipush (pc := 11) (v := -2) X dX6_strong_11 (by decide) ?_
    exact r_iret (pc := 13) X dX6_strong_13 (⟨rfl, rfl⟩)
theorem bsR_le : ∀ k a b, (bsR k a b).1 ≤ a ∧ (bsR k a b).2 ≤ b := by
  intro k
  induction k with
  | zero => intro a b; exact ⟨Nat.le_refl _, Nat.le_refl _⟩
  | succ k ih =>
    intro a b
    show (if a % 5 = 0 ∧ b % 5 = 0 then bsR k (a / 5) (b / 5) else bsR k a b).1 ≤ a ∧ (if a % 5 = 0 ∧ b % 5 = 0 then bsR k (a / 5) (b / 5) else bsR k a b).2 ≤ b
    split
    · have := ih (a / 5) (b / 5)
      omega
    · exact ih a b
theorem t6_boasts (v1 v2 v3 v4 v5 : Int32) : CT Γ l 2 sz 0 0 mX6_boasts [.ref x, .int v1, .int v2, .int v3, .int v4, .int v5] μ (ri (fun r μ' => r = opBoasts v1 v2 v3 v4 v5 ∧ μ' = μ)) := by
  refine CT.go RX6 rfl "boasts" rfl [some (.ref x), some (.int v1), some (.int v2), some (.int v3), some (.int v4), some (.int v5), none, none, none] rfl (by decide) (Nat.le_of_ble_eq_true rfl) ?_
  intro p e R s m args below meth c X hsz
  have bad : ¬ (0 ≤ v1.toInt ∧ v1.toInt ≤ 6) ∨ ¬ (0 ≤ v2.toInt ∧ v2.toInt ≤ 20) ∨ ¬ (0 ≤ v3.toInt ∧ v3.toInt ≤ 5) ∨ ¬ (0 ≤ v4.toInt ∧ v4.toInt ≤ 9) ∨ ¬ (0 ≤ v5.toInt ∧ v5.toInt ≤ 1) → vV Γ p l e R s m args below meth c (vQ Γ s args below 0 0 (ri (fun r μ' => r = opBoasts v1 v2 v3 v4 v5 ∧ μ' = μ))) 9 0 0 50 [some (.ref (x)), some (.int (v1)), some (.int (v2)), some (.int (v3)), some (.int (v4)), some (.int (v5)), none, none, none] [] (μ) := by
    intro hq
    unfold opBoasts
    rw [if_pos hq]
    refine r_bipush (pc := 50) (v := -3) X dX6_boasts_50 (by decide) ?_
    exact r_iret (pc := 52) X dX6_boasts_52 (⟨rfl, rfl⟩)
  refine r_iload_n (pc := 0) X dX6_boasts_0 rfl ?_
  refine r_iconst (pc := 1) (v := nI 0) X dX6_boasts_1 (by decide) ?_
  refine r_bipush (pc := 2) (v := nI 6) X dX6_boasts_2 (by decide) ?_
  refine c_i X (rS (pc := 4) X l_X6_66 (t6_isOutside v1 (nI 0) (nI 6)) dX6_boasts_4 rfl rfl (Nat.le_of_ble_eq_true rfl) (by decide) (Nat.le_of_ble_eq_true rfl) (Nat.le_of_ble_eq_true rfl)) ?_
  rintro _ μq ⟨rfl, hμq⟩
  rw [hμq]
  clear hμq μq
  rw [nI_toInt (by omega), nI_toInt (by omega)]
  first | refine r_if_neZ (pc := 7) X 50 dX6_boasts_7 (by decide) (fun h1 => ?_) (fun h1 => ?_) | refine r_if_neN (pc := 7) X 50 dX6_boasts_7 (by decide) (by omega) (fun h1 => ?_) (fun h1 => ?_) | refine r_if_ne (pc := 7) X 50 dX6_boasts_7 (by decide) (fun h1 => ?_) (fun h1 => ?_)
  · exact bad (Or.inl (by simp at h1; omega))
  have h1' : 0 ≤ v1.toInt ∧ v1.toInt ≤ 6 := by simp at h1; omega
  refine r_iload_n (pc := 10) X dX6_boasts_10 rfl ?_
  refine r_iconst (pc := 11) (v := nI 0) X dX6_boasts_11 (by decide) ?_
  refine r_bipush (pc := 12) (v := nI 20) X dX6_boasts_12 (by decide) ?_
  refine c_i X (rS (pc := 14) X l_X6_66 (t6_isOutside v2 (nI 0) (nI 20)) dX6_boasts_14 rfl rfl (Nat.le_of_ble_eq_true rfl) (by decide) (Nat.le_of_ble_eq_true rfl) (Nat.le_of_ble_eq_true rfl)) ?_
  rintro _ μq ⟨rfl, hμq⟩
  rw [hμq]
  clear hμq μq
  rw [nI_toInt (by omega), nI_toInt (by omega)]
  first | refine r_if_neZ (pc := 17) X 50 dX6_boasts_17 (by decide) (fun h2 => ?_) (fun h2 => ?_) | refine r_if_neN (pc := 17) X 50 dX6_boasts_17 (by decide) (by omega) (fun h2 => ?_) (fun h2 => ?_) | refine r_if_ne (pc := 17) X 50 dX6_boasts_17 (by decide) (fun h2 => ?_) (fun h2 => ?_)
  · exact bad (Or.inr (Or.inl (by simp at h2; omega)))
  have h2' : 0 ≤ v2.toInt ∧ v2.toInt ≤ 20 := by simp at h2; omega
  refine r_iload_n (pc := 20) X dX6_boasts_20 rfl ?_
  refine r_iconst (pc := 21) (v := nI 0) X dX6_boasts_21 (by decide) ?_
  refine r_iconst (pc := 22) (v := nI 5) X dX6_boasts_22 (by decide) ?_
  refine c_i X (rS (pc := 23) X l_X6_66 (t6_isOutside v3 (nI 0) (nI 5)) dX6_boasts_23 rfl rfl (Nat.le_of_ble_eq_true rfl) (by decide) (Nat.le_of_ble_eq_true rfl) (Nat.le_of_ble_eq_true rfl)) ?_
  rintro _ μq ⟨rfl, hμq⟩
  rw [hμq]
  clear hμq μq
  rw [nI_toInt (by omega), nI_toInt (by omega)]
  first | refine r_if_neZ (pc := 26) X 50 dX6_boasts_26 (by decide) (fun h3 => ?_) (fun h3 => ?_) | refine r_if_neN (pc := 26) X 50 dX6_boasts_26 (by decide) (by omega) (fun h3 => ?_) (fun h3 => ?_) | refine r_if_ne (pc := 26) X 50 dX6_boasts_26 (by decide) (fun h3 => ?_) (fun h3 => ?_)
  · exact bad (Or.inr (Or.inr (Or.inl (by simp at h3; omega))))
  have h3' : 0 ≤ v3.toInt ∧ v3.toInt ≤ 5 := by simp at h3; omega
  refine r_iload (pc := 29) X dX6_boasts_29 rfl ?_
  refine r_iconst (pc := 31) (v := nI 0) X dX6_boasts_31 (by decide) ?_
  refine r_bipush (pc := 32) (v := nI 9) X dX6_boasts_32 (by decide) ?_
  refine c_i X (rS (pc := 34) X l_X6_66 (t6_isOutside v4 (nI 0) (nI 9)) dX6_boasts_34 rfl rfl (Nat.le_of_ble_eq_true rfl) (by decide) (Nat.le_of_ble_eq_true rfl) (Nat.le_of_ble_eq_true rfl)) ?_
  rintro _ μq ⟨rfl, hμq⟩
  rw [hμq]
  clear hμq μq
  rw [nI_toInt (by omega), nI_toInt (by omega)]
  first | refine r_if_neZ (pc := 37) X 50 dX6_boasts_37 (by decide) (fun h4 => ?_) (fun h4 => ?_) | refine r_if_neN (pc := 37) X 50 dX6_boasts_37 (by decide) (by omega) (fun h4 => ?_) (fun h4 => ?_) | refine r_if_ne (pc := 37) X 50 dX6_boasts_37 (by decide) (fun h4 => ?_) (fun h4 => ?_)
  · exact bad (Or.inr (Or.inr (Or.inr (Or.inl (by simp at h4; omega)))))
  have h4' : 0 ≤ v4.toInt ∧ v4.toInt ≤ 9 := by simp at h4; omega
  refine r_iload (pc := 40) X dX6_boasts_40 rfl ?_
  refine r_iconst (pc := 42) (v := nI 0) X dX6_boasts_42 (by decide) ?_
  refine r_iconst (pc := 43) (v := nI 1) X dX6_boasts_43 (by decide) ?_
  refine c_i X (rS (pc := 44) X l_X6_66 (t6_isOutside v5 (nI 0) (nI 1)) dX6_boasts_44 rfl rfl (Nat.le_of_ble_eq_true rfl) (by decide) (Nat.le_of_ble_eq_true rfl) (Nat.le_of_ble_eq_true rfl)) ?_
  rintro _ μq ⟨rfl, hμq⟩
  rw [hμq]
  clear hμq μq
  rw [nI_toInt (by omega), nI_toInt (by omega)]
  first | refine r_if_eqZ (pc := 47) X 53 dX6_boasts_47 (by decide) (fun h5 => ?_) (fun h5 => ?_) | refine r_if_eqN (pc := 47) X 53 dX6_boasts_47 (by decide) (by omega) (fun h5 => ?_) (fun h5 => ?_) | refine r_if_eq (pc := 47) X 53 dX6_boasts_47 (by decide) (fun h5 => ?_) (fun h5 => ?_)
  · have h5' : 0 ≤ v5.toInt ∧ v5.toInt ≤ 1 := by simp at h5; omega
    have hv1 := nt_nI h1'.1
    have hv2 := nt_nI h2'.1
    have hv3 := nt_nI h3'.1
    have hv4 := nt_nI h4'.1
    have l1 : nt v1 ≤ 6 := by unfold nt; omega
    have l2 : nt v2 ≤ 20 := by unfold nt; omega
    have l3 : nt v3 ≤ 5 := by unfold nt; omega
    have l4 : nt v4 < 10 := by unfold nt; omega
    unfold opBoasts
    rw [if_neg (by omega)]
    clear bad
    obtain ⟨k1, hk1⟩ : ∃ k', k' = nt v1 := ⟨_, rfl⟩
    obtain ⟨k2, hk2⟩ : ∃ k', k' = nt v2 := ⟨_, rfl⟩
    obtain ⟨k3, hk3⟩ : ∃ k', k' = nt v3 := ⟨_, rfl⟩
    obtain ⟨k4, hk4⟩ : ∃ k', k' = nt v4 := ⟨_, rfl⟩
    rw [← hk1] at hv1 l1 ⊢
    rw [← hk2] at hv2 l2 ⊢
    rw [← hk3] at hv3 l3 ⊢
    rw [← hk4] at hv4 l4 ⊢
    subst hv1 hv2 hv3 hv4
    have hp5 := pow5 l1
    have hA := bsA_le k2 k3 k4 k1
    refine r_iconst (pc := 53) (v := nI 1) X dX6_boasts_53 (by decide) ?_
    refine r_istore (pc := 54) X dX6_boasts_54 (by decide) rfl ?_
    refine r_iconst (pc := 56) (v := nI 1) X dX6_boasts_56 (by decide) ?_
    refine r_istore (pc := 57) X dX6_boasts_57 (by decide) rfl ?_
    refine r_iconst (pc := 59) (v := nI 0) X dX6_boasts_59 (by decide) ?_
    refine r_istore (pc := 60) X dX6_boasts_60 (by decide) rfl ?_
    have fin2 : ∀ (N a b : Nat), a ≤ 15625 → b ≤ 15625 → N ≤ k1 → ∀ i, i + N = k1 → bsR N a b = bsR k1 (bsA k2 k3 k4 k1) (5 ^ k1) → vV Γ p l e R s m args below meth c (vQ Γ s args below 0 0 (ri (fun r μ' => r = (if v5.toInt = 0 then nI (bsR k1 (bsA k2 k3 k4 k1) (5 ^ k1)).1 else nI (bsR k1 (bsA k2 k3 k4 k1) (5 ^ k1)).2) ∧ μ' = μ))) 9 0 0 99 [some (.ref x), some (.int (nI k1)), some (.int (nI k2)), some (.int (nI k3)), some (.int (nI k4)), some (.int v5), some (.int (nI a)), some (.int (nI b)), some (.int (nI i))] [] μ := by
      intro N
      induction N with
      | zero =>
        intro a b ha hb _ i hi hq
        rw [← hq]
        refine r_iload (pc := 99) X dX6_boasts_99 rfl ?_
        refine r_iload_n (pc := 101) X dX6_boasts_101 rfl ?_
        refine r_icmp_geN (pc := 102) X 137 dX6_boasts_102 (by decide) (by omega) (by omega) (fun _ => ?_) (fun h => absurd (show k1 ≤ i by omega) h)
        refine r_iload (pc := 137) X dX6_boasts_137 rfl ?_
        refine r_if_ne (pc := 139) X 147 dX6_boasts_139 (by decide) (fun h6 => ?_) (fun h6 => ?_)
        · have h6' : v5.toInt ≠ 0 := fun q => h6 (Int32.toInt_inj.mp (by rw [q]; decide))
          rw [if_neg h6']
          refine r_iload (pc := 147) X dX6_boasts_147 rfl ?_
          exact r_iret (pc := 149) X dX6_boasts_149 (⟨rfl, rfl⟩)
        · have h6' : v5.toInt = 0 := by rw [h6]; decide
          rw [if_pos h6']
          refine r_iload (pc := 142) X dX6_boasts_142 rfl ?_
          refine r_goto (pc := 144) X 149 dX6_boasts_144 (by decide) ?_
          exact r_iret (pc := 149) X dX6_boasts_149 (⟨rfl, rfl⟩)
      | succ N ih =>
        intro a b ha hb hN i hi hq
        have hq' : (if a % 5 = 0 ∧ b % 5 = 0 then bsR N (a / 5) (b / 5) else bsR N a b) = bsR k1 (bsA k2 k3 k4 k1) (5 ^ k1) := hq
        refine r_iload (pc := 99) X dX6_boasts_99 rfl ?_
        refine r_iload_n (pc := 101) X dX6_boasts_101 rfl ?_
        refine r_icmp_geN (pc := 102) X 137 dX6_boasts_102 (by decide) (by omega) (by omega) (fun h => absurd h (by omega)) (fun _ => ?_)
        refine r_iload (pc := 105) X dX6_boasts_105 rfl ?_
        refine r_iconst (pc := 107) (v := nI 5) X dX6_boasts_107 (by decide) ?_
        first | refine r_iremN (pc := 108) X dX6_boasts_108 (by omega) (by omega) (by omega) ?_ | refine r_irem (pc := 108) X dX6_boasts_108 (by decide) ?_
        first | refine r_if_neZ (pc := 109) X 131 dX6_boasts_109 (by decide) (fun h7 => ?_) (fun h7 => ?_) | refine r_if_neN (pc := 109) X 131 dX6_boasts_109 (by decide) (by omega) (fun h7 => ?_) (fun h7 => ?_) | refine r_if_ne (pc := 109) X 131 dX6_boasts_109 (by decide) (fun h7 => ?_) (fun h7 => ?_)
        · rw [if_neg (by omega)] at hq'
          refine r_iincN (pc := 131) (b := 1) X dX6_boasts_131 rfl (by decide) rfl ?_
          refine r_goto (pc := 134) X 99 dX6_boasts_134 (by decide) ?_
          exact ih a b ha hb (by omega) (i + 1) (by omega) hq'
        · refine r_iload (pc := 112) X dX6_boasts_112 rfl ?_
          refine r_iconst (pc := 114) (v := nI 5) X dX6_boasts_114 (by decide) ?_
          first | refine r_iremN (pc := 115) X dX6_boasts_115 (by omega) (by omega) (by omega) ?_ | refine r_irem (pc := 115) X dX6_boasts_115 (by decide) ?_
          first | refine r_if_neZ (pc := 116) X 131 dX6_boasts_116 (by decide) (fun h8 => ?_) (fun h8 => ?_) | refine r_if_neN (pc := 116) X 131 dX6_boasts_116 (by decide) (by omega) (fun h8 => ?_) (fun h8 => ?_) | refine r_if_ne (pc := 116) X 131 dX6_boasts_116 (by decide) (fun h8 => ?_) (fun h8 => ?_)
          · rw [if_neg (by omega)] at hq'
            refine r_iincN (pc := 131) (b := 1) X dX6_boasts_131 rfl (by decide) rfl ?_
            refine r_goto (pc := 134) X 99 dX6_boasts_134 (by decide) ?_
            exact ih a b ha hb (by omega) (i + 1) (by omega) hq'
          · rw [if_pos ⟨h7, h8⟩] at hq'
            refine r_iload (pc := 119) X dX6_boasts_119 rfl ?_
            refine r_iconst (pc := 121) (v := nI 5) X dX6_boasts_121 (by decide) ?_
            first | refine r_idivN (pc := 122) X dX6_boasts_122 (by omega) (by omega) (by omega) ?_ | refine r_idiv (pc := 122) X dX6_boasts_122 (by decide) ?_
            refine r_istore (pc := 123) X dX6_boasts_123 (by decide) rfl ?_
            refine r_iload (pc := 125) X dX6_boasts_125 rfl ?_
            refine r_iconst (pc := 127) (v := nI 5) X dX6_boasts_127 (by decide) ?_
            first | refine r_idivN (pc := 128) X dX6_boasts_128 (by omega) (by omega) (by omega) ?_ | refine r_idiv (pc := 128) X dX6_boasts_128 (by decide) ?_
            refine r_istore (pc := 129) X dX6_boasts_129 (by decide) rfl ?_
            refine r_iincN (pc := 131) (b := 1) X dX6_boasts_131 rfl (by decide) rfl ?_
            refine r_goto (pc := 134) X 99 dX6_boasts_134 (by decide) ?_
            exact ih (a / 5) (b / 5) (by omega) (by omega) (by omega) (i + 1) (by omega) hq'
    have key : ∀ (N i : Nat), i + N = k1 → vV Γ p l e R s m args below meth c (vQ Γ s args below 0 0 (ri (fun r μ' => r = (if v5.toInt = 0 then nI (bsR k1 (bsA k2 k3 k4 k1) (5 ^ k1)).1 else nI (bsR k1 (bsA k2 k3 k4 k1) (5 ^ k1)).2) ∧ μ' = μ))) 9 0 0 62 [some (.ref x), some (.int (nI k1)), some (.int (nI k2)), some (.int (nI k3)), some (.int (nI k4)), some (.int v5), some (.int (nI (bsA k2 k3 k4 i))), some (.int (nI (5 ^ i))), some (.int (nI i))] [] μ := by
      intro N
      induction N with
      | zero =>
        intro i hi
        have hi2 : i = k1 := by omega
        subst hi2
        refine r_iload (pc := 62) X dX6_boasts_62 rfl ?_
        refine r_iload_n (pc := 64) X dX6_boasts_64 rfl ?_
        refine r_icmp_geN (pc := 65) X 96 dX6_boasts_65 (by decide) (by omega) (by omega) (fun _ => ?_) (fun h => absurd (Nat.le_refl _) h)
        refine r_iconst (pc := 96) (v := nI 0) X dX6_boasts_96 (by decide) ?_
        refine r_istore (pc := 97) X dX6_boasts_97 (by decide) rfl ?_
        exact fin2 i _ _ (by omega) hp5 (Nat.le_refl _) 0 (by omega) rfl
      | succ N ih =>
        intro i hi
        have hir : i * k3 ≤ 5 * 5 := Nat.mul_le_mul (by omega) l3
        refine r_iload (pc := 62) X dX6_boasts_62 rfl ?_
        refine r_iload_n (pc := 64) X dX6_boasts_64 rfl ?_
        refine r_icmp_geN (pc := 65) X 96 dX6_boasts_65 (by decide) (by omega) (by omega) (fun h => absurd h (by omega)) (fun _ => ?_)
        refine r_iload (pc := 68) X dX6_boasts_68 rfl ?_
        refine r_iload_n (pc := 70) X dX6_boasts_70 rfl ?_
        refine r_iload (pc := 71) X dX6_boasts_71 rfl ?_
        refine r_iload_n (pc := 73) X dX6_boasts_73 rfl ?_
        first | refine r_imulN (pc := 74) X dX6_boasts_74 ?_ | refine r_imul (pc := 74) X dX6_boasts_74 ?_
        first | refine r_iaddN (pc := 75) X dX6_boasts_75 ?_ | refine r_iadd (pc := 75) X dX6_boasts_75 ?_
        refine r_iload (pc := 76) X dX6_boasts_76 rfl ?_
        refine c_i X (rS (pc := 78) X l_X6_250 (t6_falls (d := k2 + i * k3) (b := k4) (by omega) l4) dX6_boasts_78 rfl rfl (Nat.le_of_ble_eq_true rfl) (by decide) (Nat.le_of_ble_eq_true rfl) (Nat.le_of_ble_eq_true rfl)) ?_
        rintro _ μq ⟨rfl, hμq⟩
        rw [hμq]
        clear hμq μq
        first | refine r_imulN (pc := 81) X dX6_boasts_81 ?_ | refine r_imul (pc := 81) X dX6_boasts_81 ?_
        refine r_istore (pc := 82) X dX6_boasts_82 (by decide) rfl ?_
        refine r_iload (pc := 84) X dX6_boasts_84 rfl ?_
        refine r_iconst (pc := 86) (v := nI 5) X dX6_boasts_86 (by decide) ?_
        first | refine r_imulN (pc := 87) X dX6_boasts_87 ?_ | refine r_imul (pc := 87) X dX6_boasts_87 ?_
        refine r_istore (pc := 88) X dX6_boasts_88 (by decide) rfl ?_
        refine r_iincN (pc := 90) (b := 1) X dX6_boasts_90 rfl (by decide) rfl ?_
        refine r_goto (pc := 93) X 62 dX6_boasts_93 (by decide) ?_
        exact ih (i + 1) (by omega)
    exact key k1 0 (by omega)
  · exact bad (Or.inr (Or.inr (Or.inr (Or.inr (by simp at h5; omega)))))
end S30
