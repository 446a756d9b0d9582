section S28
variable {Γ : KK} {l : Launch} {sz : Nat} {μ : MM} {x : Nat} {T S : Nat → Nat} {un : Nat} {A : Nat → Nat → Nat} {kf : Nat → Bool} {K : Nat → Nat → Nat} {n : Nat} {xs : Nat → Nat} {sn : Nat} {V : Nat → Nat}
theorem t6_blind (h : WC Γ μ x T S un A kf K n xs sn V) (hI : INV T S un A kf K n xs sn V) (v1 : Int32) : CT Γ l 3 sz 0 0 mX6_blind [.ref x, .int v1] μ (ri (fun r μ' => r = (opBlind T S un A v1).1 ∧ WC Γ μ' x T (opBlind T S un A v1).2.1 (opBlind T S un A v1).2.2.1 (opBlind T S un A v1).2.2.2 kf K n xs sn V ∧ Fr x 46 μ μ')) := by
  obtain ⟨a0, ⟨cl, tb, te, a1⟩, a2, ⟨T', a3⟩, a4, ⟨nx, V', U', a5, a6, a7⟩, ⟨V2, U2, a8, a9⟩, a10, ⟨pf, pg, a11, a12⟩, a13⟩ := id h
  have c10 := a1.1
  have c11 := a1.2
  have c20 := a2.1
  have c21 := a2.2.1
  have c22 := a2.2.2.1
  have c23 := a2.2.2.2.1
  have c24 := a2.2.2.2.2
  have c30 := a3.1
  have c40 := a4.1
  have c41 := a4.2.1
  have c60 := a6.1
  have c80 := a8.1
  have c110 := a11.1
  have c130 := a13.1
  obtain ⟨i1, i2, i3, i4, i5, i6, i7, i8, i9⟩ := id hI
  obtain ⟨t1, t2, t3, t4, t5, t6, t7, t8, t9, t10, t11⟩ := id i1
  obtain ⟨z1, z2, z3, z4, z5, z6, z7, z8, z9⟩ := id i2
  refine CT.go RX6 rfl "blind" rfl [some (.ref x), some (.int v1), none] rfl (by decide) (Nat.le_of_ble_eq_true rfl) ?_
  intro p e R s m args below meth c X hsz
  refine r_iload_n (pc := 0) X dX6_blind_0 rfl ?_
  refine r_iconst (pc := 1) (v := nI 0) X dX6_blind_1 (by decide) ?_
  refine r_bipush (pc := 2) (v := nI 7) X dX6_blind_2 (by decide) ?_
  refine c_i X (rS (pc := 4) X l_X6_66 (t6_isOutside v1 (nI 0) (nI 7)) dX6_blind_4 rfl rfl (Nat.le_of_ble_eq_true rfl) (by decide) (Nat.le_of_ble_eq_true rfl) (Nat.le_of_ble_eq_true rfl)) ?_
  rintro _ μq ⟨rfl, hμq⟩
  rw [hμq]
  clear hμq μq
  rw [nI_toInt (by omega), nI_toInt (by omega)]
  first | refine r_if_eqZ (pc := 7) X 13 dX6_blind_7 (by decide) (fun h1 => ?_) (fun h1 => ?_) | refine r_if_eqN (pc := 7) X 13 dX6_blind_7 (by decide) (by omega) (fun h1 => ?_) (fun h1 => ?_) | refine r_if_eq (pc := 7) X 13 dX6_blind_7 (by decide) (fun h1 => ?_) (fun h1 => ?_)
  · have h1' : 0 ≤ v1.toInt ∧ v1.toInt ≤ 7 := by simp at h1; omega
    have bad : S 3 = 1 ∨ S 1 < T 26 ∨ S 2 < T 27 → vV Γ p l e R s m args below meth c (vQ Γ s args below 0 0 (ri (fun r μ' => r = (opBlind T S un A v1).1 ∧ WC Γ μ' x T (opBlind T S un A v1).2.1 (opBlind T S un A v1).2.2.1 (opBlind T S un A v1).2.2.2 kf K n xs sn V ∧ Fr x 46 μ μ'))) 3 0 0 57 [some (.ref (x)), some (.int (v1)), none] [] (μ) := by
      intro hq
      have eo : opBlind T S un A v1 = (-4, S, un, A) := by unfold opBlind; rw [if_neg (fun q => q h1'), if_pos hq]
      rw [eo]
      refine r_bipush (pc := 57) (v := -4) X dX6_blind_57 (by decide) ?_
      exact r_iret (pc := 59) X dX6_blind_59 (⟨rfl, h, Fr.rf⟩)
    refine r_aload_n (pc := 13) X dX6_blind_13 rfl ?_
    apply r_get (pc := 14) X f_X6_29 dX6_blind_14
    · repeat (first | exact mu_self | assumption | refine (mu_ne (by omega)).trans ?_)
    · rfl
    apply r_get (pc := 17) X f_X6_140 dX6_blind_17
    · repeat (first | exact mu_self | assumption | refine (mu_ne (by omega)).trans ?_)
    · rfl
    first | refine r_if_neZ (pc := 20) X 57 dX6_blind_20 (by decide) (fun h2 => ?_) (fun h2 => ?_) | refine r_if_neN (pc := 20) X 57 dX6_blind_20 (by decide) (by omega) (fun h2 => ?_) (fun h2 => ?_) | refine r_if_ne (pc := 20) X 57 dX6_blind_20 (by decide) (fun h2 => ?_) (fun h2 => ?_)
    · exact bad (Or.inl (by have : ¬ S 3 = 0 := h2; omega))
    · have h2' : S 3 = 0 := h2
      refine r_aload_n (pc := 23) X dX6_blind_23 rfl ?_
      apply r_get (pc := 24) X f_X6_29 dX6_blind_24
      · repeat (first | exact mu_self | assumption | refine (mu_ne (by omega)).trans ?_)
      · rfl
      apply r_get (pc := 27) X f_X6_151 dX6_blind_27
      · repeat (first | exact mu_self | assumption | refine (mu_ne (by omega)).trans ?_)
      · rfl
      refine r_aload_n (pc := 30) X dX6_blind_30 rfl ?_
      apply r_get (pc := 31) X f_X6_19 dX6_blind_31
      · repeat (first | exact mu_self | assumption | refine (mu_ne (by omega)).trans ?_)
      · rfl
      apply r_get (pc := 34) X f_X6_172 dX6_blind_34
      · repeat (first | exact mu_self | assumption | refine (mu_ne (by omega)).trans ?_)
      · rfl
      first | refine r_icmp_ltN (pc := 37) X 57 dX6_blind_37 (by decide) (by omega) (by omega) (fun h3 => ?_) (fun h3 => ?_) | refine r_icmp_lt (pc := 37) X 57 dX6_blind_37 (by decide) (fun h3 => ?_) (fun h3 => ?_)
      · exact bad (Or.inr (Or.inl h3))
      · have h3' : ¬ S 1 < T 26 := h3
        refine r_aload_n (pc := 40) X dX6_blind_40 rfl ?_
        apply r_get (pc := 41) X f_X6_29 dX6_blind_41
        · repeat (first | exact mu_self | assumption | refine (mu_ne (by omega)).trans ?_)
        · rfl
        apply r_get (pc := 44) X f_X6_163 dX6_blind_44
        · repeat (first | exact mu_self | assumption | refine (mu_ne (by omega)).trans ?_)
        · rfl
        refine r_aload_n (pc := 47) X dX6_blind_47 rfl ?_
        apply r_get (pc := 48) X f_X6_19 dX6_blind_48
        · repeat (first | exact mu_self | assumption | refine (mu_ne (by omega)).trans ?_)
        · rfl
        apply r_get (pc := 51) X f_X6_175 dX6_blind_51
        · repeat (first | exact mu_self | assumption | refine (mu_ne (by omega)).trans ?_)
        · rfl
        first | refine r_icmp_geN (pc := 54) X 60 dX6_blind_54 (by decide) (by omega) (by omega) (fun h4 => ?_) (fun h4 => ?_) | refine r_icmp_ge (pc := 54) X 60 dX6_blind_54 (by decide) (fun h4 => ?_) (fun h4 => ?_)
        · have h4' : T 27 ≤ S 2 := h4
          have hv := nt_nI h1'.1
          have hl : nt v1 < 8 := by unfold nt; omega
          have eo : opBlind T S un A v1 = (nI (comT T (nt v1)), eatS (T 0) (popc (comT T (nt v1))) (upN S 3 1), min 8 (un + 1), pushA un A S) := by unfold opBlind; rw [if_neg (fun q => q h1'), if_neg (by omega)]
          rw [eo]
          clear eo bad
          obtain ⟨k', hk⟩ : ∃ k', k' = nt v1 := ⟨_, rfl⟩
          rw [← hk] at hv hl ⊢
          subst hv
          have hc16 := comT_lt (T := T) t3 k'
          refine r_aload_n (pc := 60) X dX6_blind_60 rfl ?_
          apply r_get (pc := 61) X f_X6_36 dX6_blind_61
          · repeat (first | exact mu_self | assumption | refine (mu_ne (by omega)).trans ?_)
          · rfl
          refine r_aload_n (pc := 64) X dX6_blind_64 rfl ?_
          apply r_get (pc := 65) X f_X6_29 dX6_blind_65
          · repeat (first | exact mu_self | assumption | refine (mu_ne (by omega)).trans ?_)
          · rfl
          refine c_v X (rV (pc := 68) (ci := 0) X l_X6_147 (t0_push a6 a4 (by omega) a5 i3) dX6_blind_68 (by repeat (first | exact mu_self | assumption | refine (mu_ne (by omega)).trans ?_)) rfl rfl rfl (Nat.le_of_ble_eq_true rfl) (by decide) (Nat.le_of_ble_eq_true rfl) (Nat.le_of_ble_eq_true rfl)) ?_
          rintro μ1 ⟨k1, k2⟩
          have hW1 : WC Γ μ1 x T S (min 8 (un + 1)) (pushA un A S) kf K n xs sn V := h.pa (fun q hq => k2 q (by omega)) ⟨_, _, _, Nat.mod_lt _ (by decide), k1, push_ok a5 i3 a7⟩
          have d0 := hW1.1
          have d4 := hW1.2.2.2.2.1
          have d40 := d4.1
          refine r_aload_n (pc := 71) X dX6_blind_71 rfl ?_
          apply r_get (pc := 72) X f_X6_29 dX6_blind_72
          · repeat (first | exact mu_self | assumption | refine (mu_ne (by omega)).trans ?_)
          · rfl
          refine r_iconst (pc := 75) (v := nI 1) X dX6_blind_75 (by decide) ?_
          first | refine r_putS (pc := 76) X f_X6_140 dX6_blind_76 (by first | rfl | assumption | decide | simp [narrow]) (by first | rfl | assumption) (Nat.le_of_ble_eq_true rfl) ?_ | refine r_put (pc := 76) X f_X6_140 dX6_blind_76 (by repeat (first | exact mu_self | assumption | refine (mu_ne (by omega)).trans ?_)) (by first | rfl | assumption | decide | simp [narrow]) (by first | rfl | assumption) (Nat.le_of_ble_eq_true rfl) ?_
          have hW2 : WC Γ (mu μ1 (x + 13) (xO 2 ([.int (scV (T 0) S 0), .int (scV (T 0) S 1), .int (scV (T 0) S 2), .int (scV (T 0) S 3), .int (scV (T 0) S 4), .int (scV (T 0) S 5), .int (scV (T 0) S 6), .int (scV (T 0) S 7), .int (scV (T 0) S 8), .ref (x + 13 + 1)].set 4 (.int (nI 1))))) x T (upN S 3 1) (min 8 (un + 1)) (pushA un A S) kf K n xs sn V := by
            refine hW1.sc (fun q hq => mu_ne (by omega)) ⟨?_, ?_, Or.inr rfl⟩
            · rw [mu_self]
              have e5 : scV (T 0) (upN S 3 1) 5 = scV (T 0) S 5 := congrArg nI (msk_up t1 (by omega))
              have e6 : scV (T 0) (upN S 3 1) 6 = scV (T 0) S 6 := congrArg nI (msk_up t1 (by omega))
              have e7 : scV (T 0) (upN S 3 1) 7 = scV (T 0) S 7 := congrArg nI (msk_up t1 (by omega))
              rw [e5, e6, e7]
              rfl
            · rw [scU_up (by omega)]
              exact (mu_ne (by omega)).trans d4.2.1
          obtain ⟨f0, -, f2, -, f4, -⟩ := id hW2
          have f20 := f2.1
          have f40 := f4.1
          refine r_aload_n (pc := 79) X dX6_blind_79 rfl ?_
          apply r_get (pc := 80) X f_X6_19 dX6_blind_80
          · exact f0
          · rfl
          refine r_iload_n (pc := 83) X dX6_blind_83 rfl ?_
          refine c_i X (rV (pc := 84) (ci := 5) X l_X6_178 (t5_comers f2 i1 hl) dX6_blind_84 f20 rfl rfl rfl (Nat.le_of_ble_eq_true rfl) (by decide) (Nat.le_of_ble_eq_true rfl) (Nat.le_of_ble_eq_true rfl)) ?_
          rintro _ μq ⟨rfl, hμq⟩
          rw [hμq]
          clear hμq μq
          refine r_istore_n (pc := 87) X dX6_blind_87 (by decide) rfl ?_
          refine r_aload_n (pc := 88) X dX6_blind_88 rfl ?_
          apply r_get (pc := 89) X f_X6_29 dX6_blind_89
          · exact f0
          · rfl
          refine r_iload_n (pc := 92) X dX6_blind_92 rfl ?_
          refine c_i X (rS (pc := 93) X l_X6_181 (tJ_bitCount (x := comT T k') (by omega)) dX6_blind_93 rfl rfl (Nat.le_of_ble_eq_true rfl) (by decide) (Nat.le_of_ble_eq_true rfl) (Nat.le_of_ble_eq_true rfl)) ?_
          rintro _ μq ⟨rfl, hμq⟩
          rw [hμq]
          clear hμq μq
          refine c_i X (rV (pc := 96) (ci := 2) X l_X6_160 (t2_eatFirst f4 t1 (by have := popc16 _ hc16; omega)) dX6_blind_96 f40 rfl rfl rfl (Nat.le_of_ble_eq_true rfl) (by decide) (Nat.le_of_ble_eq_true rfl) (Nat.le_of_ble_eq_true rfl)) ?_
          rintro _ μ3 ⟨rfl, m1, m2⟩
          refine r_pop (pc := 99) X dX6_blind_99 rfl ?_
          refine r_iload_n (pc := 100) X dX6_blind_100 rfl ?_
          exact r_iret (pc := 101) X dX6_blind_101 (⟨rfl, hW2.sc (fun q hq => m2 q (by omega)) m1, fun q hq => (m2 q (by omega)).trans ((mu_ne (by omega)).trans (k2 q (by omega)))⟩)
        · exact bad (Or.inr (Or.inr (by have : ¬ T 27 ≤ S 2 := h4; omega)))
  · have h1' : ¬ (0 ≤ v1.toInt ∧ v1.toInt ≤ 7) := by simp at h1; omega
    have eo : opBlind T S un A v1 = (-3, S, un, A) := by unfold opBlind; rw [if_pos h1']
    rw [eo]
    refine r_bipush (pc := 10) (v := -3) X dX6_blind_10 (by decide) ?_
    exact r_iret (pc := 12) X dX6_blind_12 (⟨rfl, h, Fr.rf⟩)
theorem t6_hide (h : WC Γ μ x T S un A kf K n xs sn V) (hI : INV T S un A kf K n xs sn V) (v1 v2 : Int32) : CT Γ l 3 sz 0 0 mX6_hide [.ref x, .int v1, .int v2] μ (ri (fun r μ' => r = (opHide T S un A v1 v2).1 ∧ WC Γ μ' x T (opHide T S un A v1 v2).2.1 (opHide T S un A v1 v2).2.2.1 (opHide T S un A v1 v2).2.2.2 kf K n xs sn V ∧ Fr x 46 μ μ')) := by
  obtain ⟨a0, ⟨cl, tb, te, a1⟩, a2, ⟨T', a3⟩, a4, ⟨nx, V', U', a5, a6, a7⟩, ⟨V2, U2, a8, a9⟩, a10, ⟨pf, pg, a11, a12⟩, a13⟩ := id h
  have c10 := a1.1
  have c11 := a1.2
  have c20 := a2.1
  have c21 := a2.2.1
  have c22 := a2.2.2.1
  have c23 := a2.2.2.2.1
  have c24 := a2.2.2.2.2
  have c30 := a3.1
  have c40 := a4.1
  have c41 := a4.2.1
  have c60 := a6.1
  have c80 := a8.1
  have c110 := a11.1
  have c130 := a13.1
  obtain ⟨i1, i2, i3, i4, i5, i6, i7, i8, i9⟩ := id hI
  obtain ⟨t1, t2, t3, t4, t5, t6, t7, t8, t9, t10, t11⟩ := id i1
  obtain ⟨z1, z2, z3, z4, z5, z6, z7, z8, z9⟩ := id i2
  refine CT.go RX6 rfl "hide" rfl [some (.ref x), some (.int v1), some (.int v2), none] rfl (by decide) (Nat.le_of_ble_eq_true rfl) ?_
  intro p e R s m args below meth c X hsz
  have bad : ¬ (0 ≤ v1.toInt ∧ v1.toInt < T 0) ∨ ¬ (-1 ≤ v2.toInt ∧ v2.toInt < T 7) → vV Γ p l e R s m args below meth c (vQ Γ s args below 0 0 (ri (fun r μ' => r = (opHide T S un A v1 v2).1 ∧ WC Γ μ' x T (opHide T S un A v1 v2).2.1 (opHide T S un A v1 v2).2.2.1 (opHide T S un A v1 v2).2.2.2 kf K n xs sn V ∧ Fr x 46 μ μ'))) 4 0 0 27 [some (.ref (x)), some (.int (v1)), some (.int (v2)), none] [] (μ) := by
    intro hq
    have eo : opHide T S un A v1 v2 = (-2, S, un, A) := by unfold opHide; rw [if_pos hq]
    rw [eo]
    refine r_bipush (pc := 27) (v := -2) X dX6_hide_27 (by decide) ?_
    exact r_iret (pc := 29) X dX6_hide_29 (⟨rfl, h, Fr.rf⟩)
  have good : (0 ≤ v1.toInt ∧ v1.toInt < T 0) → (-1 ≤ v2.toInt ∧ v2.toInt < T 7) → vV Γ p l e R s m args below meth c (vQ Γ s args below 0 0 (ri (fun r μ' => r = (opHide T S un A v1 v2).1 ∧ WC Γ μ' x T (opHide T S un A v1 v2).2.1 (opHide T S un A v1 v2).2.2.1 (opHide T S un A v1 v2).2.2.2 kf K n xs sn V ∧ Fr x 46 μ μ'))) 4 0 0 30 [some (.ref (x)), some (.int (v1)), some (.int (v2)), none] [] (μ) := by
    intro h1 h2
    have hv := nt_nI h1.1
    have hl : nt v1 < T 0 := nt_lt h1.1 h1.2
    have hv2 := cd_uI h2.1 (by omega)
    have hl2 : cd v2 ≤ T 7 := by unfold cd; omega
    unfold opHide
    rw [if_neg (by omega)]
    obtain ⟨k', hk⟩ : ∃ k', k' = nt v1 := ⟨_, rfl⟩
    obtain ⟨w', hw⟩ : ∃ w', w' = cd v2 := ⟨_, rfl⟩
    rw [← hk] at hv hl ⊢
    rw [← hw] at hv2 hl2 ⊢
    clear bad
    subst hv hv2
    refine r_aload_n (pc := 30) X dX6_hide_30 rfl ?_
    apply r_get (pc := 31) X f_X6_29 dX6_hide_31
    · repeat (first | exact mu_self | assumption | refine (mu_ne (by omega)).trans ?_)
    · rfl
    refine r_iload_n (pc := 34) X dX6_hide_34 rfl ?_
    refine r_iload_n (pc := 35) X dX6_hide_35 rfl ?_
    refine c_i X (rV (pc := 36) (ci := 2) X l_X6_186 (t2_canHide a4 i1 i2 (m' := k') (w := w') hl hl2) dX6_hide_36 (by repeat (first | exact mu_self | assumption | refine (mu_ne (by omega)).trans ?_)) rfl rfl rfl (Nat.le_of_ble_eq_true rfl) (by decide) (Nat.le_of_ble_eq_true rfl) (Nat.le_of_ble_eq_true rfl)) ?_
    rintro _ μq ⟨rfl, hμq⟩
    rw [hμq]
    clear hμq μq
    first | refine r_if_neZ (pc := 39) X 45 dX6_hide_39 (by decide) (fun h3 => ?_) (fun h3 => ?_) | refine r_if_neN (pc := 39) X 45 dX6_hide_39 (by decide) (by omega) (fun h3 => ?_) (fun h3 => ?_) | refine r_if_ne (pc := 39) X 45 dX6_hide_39 (by decide) (fun h3 => ?_) (fun h3 => ?_)
    · rw [h3, if_neg (by decide)]
      refine r_aload_n (pc := 45) X dX6_hide_45 rfl ?_
      apply r_get (pc := 46) X f_X6_36 dX6_hide_46
      · repeat (first | exact mu_self | assumption | refine (mu_ne (by omega)).trans ?_)
      · rfl
      refine r_aload_n (pc := 49) X dX6_hide_49 rfl ?_
      apply r_get (pc := 50) X f_X6_29 dX6_hide_50
      · repeat (first | exact mu_self | assumption | refine (mu_ne (by omega)).trans ?_)
      · rfl
      refine c_v X (rV (pc := 53) (ci := 0) X l_X6_147 (t0_push a6 a4 (by omega) a5 i3) dX6_hide_53 (by repeat (first | exact mu_self | assumption | refine (mu_ne (by omega)).trans ?_)) rfl rfl rfl (Nat.le_of_ble_eq_true rfl) (by decide) (Nat.le_of_ble_eq_true rfl) (Nat.le_of_ble_eq_true rfl)) ?_
      rintro μ1 ⟨k1, k2⟩
      have hW1 : WC Γ μ1 x T S (min 8 (un + 1)) (pushA un A S) kf K n xs sn V := h.pa (fun q hq => k2 q (by omega)) ⟨_, _, _, Nat.mod_lt _ (by decide), k1, push_ok a5 i3 a7⟩
      have d0 := hW1.1
      have d4 := hW1.2.2.2.2.1
      have d40 := d4.1
      have d41 := d4.2.1
      refine r_aload_n (pc := 56) X dX6_hide_56 rfl ?_
      apply r_get (pc := 57) X f_X6_29 dX6_hide_57
      · repeat (first | exact mu_self | assumption | refine (mu_ne (by omega)).trans ?_)
      · rfl
      apply r_get (pc := 60) X f_X6_103 dX6_hide_60
      · repeat (first | exact mu_self | assumption | refine (mu_ne (by omega)).trans ?_)
      · rfl
      refine r_iload_n (pc := 63) X dX6_hide_63 rfl ?_
      apply r_iald (pc := 64) X dX6_hide_64
      · repeat (first | exact mu_self | assumption | refine (mu_ne (by omega)).trans ?_)
      · omega
      · decide
      refine r_istore_n (pc := 65) X dX6_hide_65 (by decide) rfl ?_
      refine r_aload_n (pc := 66) X dX6_hide_66 rfl ?_
      apply r_get (pc := 67) X f_X6_29 dX6_hide_67
      · repeat (first | exact mu_self | assumption | refine (mu_ne (by omega)).trans ?_)
      · rfl
      apply r_get (pc := 70) X f_X6_103 dX6_hide_70
      · repeat (first | exact mu_self | assumption | refine (mu_ne (by omega)).trans ?_)
      · rfl
      refine r_iload_n (pc := 73) X dX6_hide_73 rfl ?_
      refine r_iload_n (pc := 74) X dX6_hide_74 rfl ?_
      apply r_iast (pc := 75) X dX6_hide_75
      · repeat (first | exact mu_self | assumption | refine (mu_ne (by omega)).trans ?_)
      · omega
      · decide
      refine r_iload_n (pc := 76) X dX6_hide_76 rfl ?_
      refine r_iret (pc := 77) X dX6_hide_77 ⟨rfl, hW1.sc (fun q hq => mu_ne (by omega)) ⟨?_, ?_, ?_⟩, fun q hq => (mu_ne (by omega)).trans (k2 q (by omega))⟩
      · have e5 : scV (T 0) (upN S (12 + k') w') 5 = scV (T 0) S 5 := congrArg nI (msk_up t1 (by omega))
        have e6 : scV (T 0) (upN S (12 + k') w') 6 = scV (T 0) S 6 := congrArg nI (msk_up t1 (by omega))
        have e7 : scV (T 0) (upN S (12 + k') w') 7 = scV (T 0) S 7 := congrArg nI (msk_up t1 (by omega))
        have el : ∀ j, j < 6 → upN S (12 + k') w' j = S j := fun j hj => upN_ne (by omega)
        have e0 : scV (T 0) (upN S (12 + k') w') 0 = scV (T 0) S 0 := congrArg nI (el 4 (by omega))
        have e1 : scV (T 0) (upN S (12 + k') w') 1 = scV (T 0) S 1 := congrArg nI (el 0 (by omega))
        have e2 : scV (T 0) (upN S (12 + k') w') 2 = scV (T 0) S 2 := congrArg nI (el 1 (by omega))
        have e3 : scV (T 0) (upN S (12 + k') w') 3 = scV (T 0) S 3 := congrArg nI (el 2 (by omega))
        have e4 : scV (T 0) (upN S (12 + k') w') 4 = scV (T 0) S 4 := congrArg nI (el 3 (by omega))
        have e8 : scV (T 0) (upN S (12 + k') w') 8 = scV (T 0) S 8 := congrArg nI (el 5 (by omega))
        rw [e0, e1, e2, e3, e4, e5, e6, e7, e8]
        exact (mu_ne (by omega)).trans d40
      · rw [scU_hide]
        exact mu_self
      · have e4 : scV (T 0) (upN S (12 + k') w') 4 = scV (T 0) S 4 := congrArg nI (upN_ne (by omega))
        rw [e4]
        exact d4.2.2
    · rw [h3, if_pos rfl]
      refine r_bipush (pc := 42) (v := -4) X dX6_hide_42 (by decide) ?_
      exact r_iret (pc := 44) X dX6_hide_44 (⟨rfl, h, Fr.rf⟩)
  refine r_aload_n (pc := 0) X dX6_hide_0 rfl ?_
  apply r_get (pc := 1) X f_X6_19 dX6_hide_1
  · repeat (first | exact mu_self | assumption | refine (mu_ne (by omega)).trans ?_)
  · rfl
  refine r_iload_n (pc := 4) X dX6_hide_4 rfl ?_
  refine c_i X (rV (pc := 5) (ci := 5) X l_X6_91 (t5_hasMan a2 t1 v1) dX6_hide_5 (by repeat (first | exact mu_self | assumption | refine (mu_ne (by omega)).trans ?_)) rfl rfl rfl (Nat.le_of_ble_eq_true rfl) (by decide) (Nat.le_of_ble_eq_true rfl) (Nat.le_of_ble_eq_true rfl)) ?_
  rintro _ μq ⟨rfl, hμq⟩
  rw [hμq]
  clear hμq μq
  first | refine r_if_eqZ (pc := 8) X 27 dX6_hide_8 (by decide) (fun h1 => ?_) (fun h1 => ?_) | refine r_if_eqN (pc := 8) X 27 dX6_hide_8 (by decide) (by omega) (fun h1 => ?_) (fun h1 => ?_) | refine r_if_eq (pc := 8) X 27 dX6_hide_8 (by decide) (fun h1 => ?_) (fun h1 => ?_)
  · exact bad (Or.inl (by simpa using h1))
  · have h1' : 0 ≤ v1.toInt ∧ v1.toInt < T 0 := by simpa using h1
    refine r_iload_n (pc := 11) X dX6_hide_11 rfl ?_
    refine r_iconst (pc := 12) (v := -1) X dX6_hide_12 (by decide) ?_
    refine r_icmp_eq (pc := 13) X 30 dX6_hide_13 (by decide) (fun h2 => ?_) (fun h2 => ?_)
    · exact good h1' (by rw [h2, show (-1 : Int32).toInt = -1 by decide]; omega)
    · refine r_aload_n (pc := 16) X dX6_hide_16 rfl ?_
      apply r_get (pc := 17) X f_X6_19 dX6_hide_17
      · repeat (first | exact mu_self | assumption | refine (mu_ne (by omega)).trans ?_)
      · rfl
      refine r_iload_n (pc := 20) X dX6_hide_20 rfl ?_
      refine c_i X (rV (pc := 21) (ci := 5) X l_X6_106 (t5_hasSheep a2 t2 v2) dX6_hide_21 (by repeat (first | exact mu_self | assumption | refine (mu_ne (by omega)).trans ?_)) rfl rfl rfl (Nat.le_of_ble_eq_true rfl) (by decide) (Nat.le_of_ble_eq_true rfl) (Nat.le_of_ble_eq_true rfl)) ?_
      rintro _ μq ⟨rfl, hμq⟩
      rw [hμq]
      clear hμq μq
      first | refine r_if_neZ (pc := 24) X 30 dX6_hide_24 (by decide) (fun h3 => ?_) (fun h3 => ?_) | refine r_if_neN (pc := 24) X 30 dX6_hide_24 (by decide) (by omega) (fun h3 => ?_) (fun h3 => ?_) | refine r_if_ne (pc := 24) X 30 dX6_hide_24 (by decide) (fun h3 => ?_) (fun h3 => ?_)
      · have h3' : 0 ≤ v2.toInt ∧ v2.toInt < T 7 := by simpa using h3
        exact good h1' (by omega)
      · have h3' : ¬ (0 ≤ v2.toInt ∧ v2.toInt < T 7) := by simpa using h3
        have h4 : v2.toInt ≠ -1 := fun q => h2 (Int32.toInt_inj.mp (by rw [q]; decide))
        exact bad (Or.inr (by omega))
theorem t6_morning (h : WC Γ μ x T S un A kf K n xs sn V) (hI : INV T S un A kf K n xs sn V) : CT Γ l 5 sz 0 0 mX6_morning [.ref x] μ (ri (fun r μ' => r = (opMorning T S un A).1 ∧ WC Γ μ' x T (opMorning T S un A).2.1 (opMorning T S un A).2.2.1 (opMorning T S un A).2.2.2 kf K n xs sn V ∧ Fr x 46 μ μ')) := by
  obtain ⟨a0, ⟨cl, tb, te, a1⟩, a2, ⟨T', a3⟩, a4, ⟨nx, V', U', a5, a6, a7⟩, ⟨V2, U2, a8, a9⟩, a10, ⟨pf, pg, a11, a12⟩, a13⟩ := id h
  have c10 := a1.1
  have c11 := a1.2
  have c20 := a2.1
  have c21 := a2.2.1
  have c22 := a2.2.2.1
  have c23 := a2.2.2.2.1
  have c24 := a2.2.2.2.2
  have c30 := a3.1
  have c40 := a4.1
  have c41 := a4.2.1
  have c60 := a6.1
  have c80 := a8.1
  have c110 := a11.1
  have c130 := a13.1
  obtain ⟨i1, i2, i3, i4, i5, i6, i7, i8, i9⟩ := id hI
  obtain ⟨t1, t2, t3, t4, t5, t6, t7, t8, t9, t10, t11⟩ := id i1
  obtain ⟨z1, z2, z3, z4, z5, z6, z7, z8, z9⟩ := id i2
  refine CT.go RX6 rfl "morning" rfl [some (.ref x)] rfl (by decide) (Nat.le_of_ble_eq_true rfl) ?_
  intro p e R s m args below meth c X hsz
  refine r_aload_n (pc := 0) X dX6_morning_0 rfl ?_
  apply r_get (pc := 1) X f_X6_29 dX6_morning_1
  · repeat (first | exact mu_self | assumption | refine (mu_ne (by omega)).trans ?_)
  · rfl
  apply r_get (pc := 4) X f_X6_140 dX6_morning_4
  · repeat (first | exact mu_self | assumption | refine (mu_ne (by omega)).trans ?_)
  · rfl
  first | refine r_if_neZ (pc := 7) X 13 dX6_morning_7 (by decide) (fun h1 => ?_) (fun h1 => ?_) | refine r_if_neN (pc := 7) X 13 dX6_morning_7 (by decide) (by omega) (fun h1 => ?_) (fun h1 => ?_) | refine r_if_ne (pc := 7) X 13 dX6_morning_7 (by decide) (fun h1 => ?_) (fun h1 => ?_)
  · have h1' : ¬ S 3 = 0 := h1
    have eo : opMorning T S un A = (nI (mkb 6 (mornP T S)), morS T S, min 8 (un + 1), pushA un A S) := by unfold opMorning; rw [if_neg h1']
    rw [eo]
    refine r_aload_n (pc := 13) X dX6_morning_13 rfl ?_
    apply r_get (pc := 14) X f_X6_36 dX6_morning_14
    · repeat (first | exact mu_self | assumption | refine (mu_ne (by omega)).trans ?_)
    · rfl
    refine r_aload_n (pc := 17) X dX6_morning_17 rfl ?_
    apply r_get (pc := 18) X f_X6_29 dX6_morning_18
    · repeat (first | exact mu_self | assumption | refine (mu_ne (by omega)).trans ?_)
    · rfl
    refine c_v X (rV (pc := 21) (ci := 0) X l_X6_147 (t0_push a6 a4 (by omega) a5 i3) dX6_morning_21 (by repeat (first | exact mu_self | assumption | refine (mu_ne (by omega)).trans ?_)) rfl rfl rfl (Nat.le_of_ble_eq_true rfl) (by decide) (Nat.le_of_ble_eq_true rfl) (Nat.le_of_ble_eq_true rfl)) ?_
    rintro μ1 ⟨k1, k2⟩
    have hW1 : WC Γ μ1 x T S (min 8 (un + 1)) (pushA un A S) kf K n xs sn V := h.pa (fun q hq => k2 q (by omega)) ⟨_, _, _, Nat.mod_lt _ (by decide), k1, push_ok a5 i3 a7⟩
    obtain ⟨d0, -, d2, -, d4, -⟩ := id hW1
    have d40 := d4.1
    refine r_aload_n (pc := 24) X dX6_morning_24 rfl ?_
    apply r_get (pc := 25) X f_X6_29 dX6_morning_25
    · repeat (first | exact mu_self | assumption | refine (mu_ne (by omega)).trans ?_)
    · rfl
    refine r_aload_n (pc := 28) X dX6_morning_28 rfl ?_
    apply r_get (pc := 29) X f_X6_19 dX6_morning_29
    · repeat (first | exact mu_self | assumption | refine (mu_ne (by omega)).trans ?_)
    · rfl
    refine c_i X (rV (pc := 32) (ci := 2) X l_X6_189 (t2_leave d4 d2 i1 i2 (by omega)) dX6_morning_32 (by repeat (first | exact mu_self | assumption | refine (mu_ne (by omega)).trans ?_)) rfl rfl rfl (Nat.le_of_ble_eq_true rfl) (by decide) (Nat.le_of_ble_eq_true rfl) (Nat.le_of_ble_eq_true rfl)) ?_
    rintro _ μ2 ⟨rfl, m1, m2⟩
    exact r_iret (pc := 35) X dX6_morning_35 (⟨rfl, hW1.sc (fun q hq => m2 q (by omega)) m1, fun q hq => (m2 q (by omega)).trans (k2 q (by omega))⟩)
  · have h1' : S 3 = 0 := h1
    have eo : opMorning T S un A = (-4, S, un, A) := by unfold opMorning; rw [if_pos h1']
    rw [eo]
    refine r_bipush (pc := 10) (v := -4) X dX6_morning_10 (by decide) ?_
    exact r_iret (pc := 12) X dX6_morning_12 (⟨rfl, h, Fr.rf⟩)
theorem t6_undo (h : WC Γ μ x T S un A kf K n xs sn V) (hI : INV T S un A kf K n xs sn V) : CT Γ l 3 sz 0 0 mX6_undo [.ref x] μ (ri (fun r μ' => r = (opUndo S un A).1 ∧ WC Γ μ' x T (opUndo S un A).2.1 (opUndo S un A).2.2.1 (opUndo S un A).2.2.2 kf K n xs sn V ∧ Fr x 46 μ μ')) := by
  obtain ⟨a0, ⟨cl, tb, te, a1⟩, a2, ⟨T', a3⟩, a4, ⟨nx, V', U', a5, a6, a7⟩, ⟨V2, U2, a8, a9⟩, a10, ⟨pf, pg, a11, a12⟩, a13⟩ := id h
  have c10 := a1.1
  have c11 := a1.2
  have c20 := a2.1
  have c21 := a2.2.1
  have c22 := a2.2.2.1
  have c23 := a2.2.2.2.1
  have c24 := a2.2.2.2.2
  have c30 := a3.1
  have c40 := a4.1
  have c41 := a4.2.1
  have c60 := a6.1
  have c80 := a8.1
  have c110 := a11.1
  have c130 := a13.1
  obtain ⟨i1, i2, i3, i4, i5, i6, i7, i8, i9⟩ := id hI
  obtain ⟨t1, t2, t3, t4, t5, t6, t7, t8, t9, t10, t11⟩ := id i1
  obtain ⟨z1, z2, z3, z4, z5, z6, z7, z8, z9⟩ := id i2
  refine CT.go RX6 rfl "undo" rfl [some (.ref x)] rfl (by decide) (Nat.le_of_ble_eq_true rfl) ?_
  intro p e R s m args below meth c X hsz
  refine r_aload_n (pc := 0) X dX6_undo_0 rfl ?_
  apply r_get (pc := 1) X f_X6_36 dX6_undo_1
  · repeat (first | exact mu_self | assumption | refine (mu_ne (by omega)).trans ?_)
  · rfl
  refine r_aload_n (pc := 4) X dX6_undo_4 rfl ?_
  apply r_get (pc := 5) X f_X6_29 dX6_undo_5
  · repeat (first | exact mu_self | assumption | refine (mu_ne (by omega)).trans ?_)
  · rfl
  by_cases hu : un = 0
  · subst hu
    have eo : opUndo S 0 A = (-4, S, 0, A) := rfl
    rw [eo]
    refine c_i X (rV (pc := 8) (ci := 0) X l_X6_192 (t0_pop0 a6) dX6_undo_8 (by repeat (first | exact mu_self | assumption | refine (mu_ne (by omega)).trans ?_)) rfl rfl rfl (Nat.le_of_ble_eq_true rfl) (by decide) (Nat.le_of_ble_eq_true rfl) (Nat.le_of_ble_eq_true rfl)) ?_
    rintro _ μq ⟨rfl, hμq⟩
    rw [hμq]
    clear hμq μq
    refine r_if_eqN (pc := 11) X 24 dX6_undo_11 (by decide) (by decide) (fun _ => ?_) (fun q => absurd rfl q)
    refine r_bipush (pc := 24) (v := -4) X dX6_undo_24 (by decide) ?_
    exact r_iret (pc := 26) X dX6_undo_26 (⟨rfl, h, Fr.rf⟩)
  · obtain ⟨u', rfl⟩ : ∃ u', un = u' + 1 := ⟨un - 1, by omega⟩
    have eo : opUndo S (u' + 1) A = (nI u', A u', u', A) := by unfold opUndo; rw [if_neg hu]; rfl
    rw [eo]
    refine c_i X (rV (pc := 8) (ci := 0) X l_X6_192 (t0_pop a6 a4 (by omega) a5 (by omega)) dX6_undo_8 (by repeat (first | exact mu_self | assumption | refine (mu_ne (by omega)).trans ?_)) rfl rfl rfl (Nat.le_of_ble_eq_true rfl) (by decide) (Nat.le_of_ble_eq_true rfl) (Nat.le_of_ble_eq_true rfl)) ?_
    rintro _ μ1 ⟨rfl, k1, k2, k3⟩
    refine r_if_eqN (pc := 11) X 24 dX6_undo_11 (by decide) (by decide) (fun q => absurd q (by decide)) (fun _ => ?_)
    have d0 : μ1 x = _ := (k3 x (by omega) (by omega)).trans a0
    have k10 := k1.1
    obtain ⟨q1, q2⟩ := a7 u' (by omega)
    rw [show (nx + 8 - (u' + 1) + u') % 8 = (nx + 7) % 8 by omega] at q1 q2
    rw [q1, q2] at k2
    have hW1 : WC Γ (fun q => if x + 13 ≤ q ∧ q < x + 15 then μ q else μ1 q) x T S u' A kf K n xs sn V := h.pa (fun q hq => by split; rfl; exact k3 q (by omega) (by omega)) ⟨_, _, _, Nat.mod_lt _ (by decide), k1.kept (fun q h1 h2 => if_neg (by omega)), fun i hi => by
      have := a7 i (by omega)
      rw [show ((nx + 7) % 8 + 8 - u' + i) % 8 = (nx + 8 - (u' + 1) + i) % 8 by omega]
      exact this⟩
    have hW2 : WC Γ μ1 x T (A u') u' A kf K n xs sn V := hW1.sc (fun q hq => by rw [if_neg (by omega)]) k2
    refine r_aload_n (pc := 14) X dX6_undo_14 rfl ?_
    apply r_get (pc := 15) X f_X6_36 dX6_undo_15
    · repeat (first | exact mu_self | assumption | refine (mu_ne (by omega)).trans ?_)
    · rfl
    apply r_get (pc := 18) X f_X6_196 dX6_undo_18
    · repeat (first | exact mu_self | assumption | refine (mu_ne (by omega)).trans ?_)
    · rfl
    refine r_goto (pc := 21) X 26 dX6_undo_21 (by decide) ?_
    exact r_iret (pc := 26) X dX6_undo_26 (⟨rfl, hW2, fun q hq => k3 q (by omega) (by omega)⟩)
theorem t6_keep (h : WC Γ μ x T S un A kf K n xs sn V) (hI : INV T S un A kf K n xs sn V) (v1 : Int32) : CT Γ l 2 sz 0 0 mX6_keep [.ref x, .int v1] μ (ri (fun r μ' => r = (opKeep S kf K v1).1 ∧ WC Γ μ' x T S un A (opKeep S kf K v1).2.1 (opKeep S kf K v1).2.2 n xs sn V ∧ Fr x 46 μ μ')) := by
  obtain ⟨a0, ⟨cl, tb, te, a1⟩, a2, ⟨T', a3⟩, a4, ⟨nx, V', U', a5, a6, a7⟩, ⟨V2, U2, a8, a9⟩, a10, ⟨pf, pg, a11, a12⟩, a13⟩ := id h
  have c10 := a1.1
  have c11 := a1.2
  have c20 := a2.1
  have c21 := a2.2.1
  have c22 := a2.2.2.1
  have c23 := a2.2.2.2.1
  have c24 := a2.2.2.2.2
  have c30 := a3.1
  have c40 := a4.1
  have c41 := a4.2.1
  have c60 := a6.1
  have c80 := a8.1
  have c110 := a11.1
  have c130 := a13.1
  obtain ⟨i1, i2, i3, i4, i5, i6, i7, i8, i9⟩ := id hI
  obtain ⟨t1, t2, t3, t4, t5, t6, t7, t8, t9, t10, t11⟩ := id i1
  obtain ⟨z1, z2, z3, z4, z5, z6, z7, z8, z9⟩ := id i2
  refine CT.go RX6 rfl "keep" rfl [some (.ref x), some (.int v1)] rfl (by decide) (Nat.le_of_ble_eq_true rfl) ?_
  intro p e R s m args below meth c X hsz
  refine r_iload_n (pc := 0) X dX6_keep_0 rfl ?_
  refine r_iconst (pc := 1) (v := nI 0) X dX6_keep_1 (by decide) ?_
  refine r_iconst (pc := 2) (v := nI 1) X dX6_keep_2 (by decide) ?_
  refine c_i X (rS (pc := 3) X l_X6_66 (t6_isOutside v1 (nI 0) (nI 1)) dX6_keep_3 rfl rfl (Nat.le_of_ble_eq_true rfl) (by decide) (Nat.le_of_ble_eq_true rfl) (Nat.le_of_ble_eq_true rfl)) ?_
  rintro _ μq ⟨rfl, hμq⟩
  rw [hμq]
  clear hμq μq
  rw [nI_toInt (by omega), nI_toInt (by omega)]
  first | refine r_if_eqZ (pc := 6) X 12 dX6_keep_6 (by decide) (fun h1 => ?_) (fun h1 => ?_) | refine r_if_eqN (pc := 6) X 12 dX6_keep_6 (by decide) (by omega) (fun h1 => ?_) (fun h1 => ?_) | refine r_if_eq (pc := 6) X 12 dX6_keep_6 (by decide) (fun h1 => ?_) (fun h1 => ?_)
  · have h1' : 0 ≤ v1.toInt ∧ v1.toInt ≤ 1 := by simp at h1; omega
    have hv := nt_nI h1'.1
    have hl : nt v1 < 2 := by unfold nt; omega
    have eo : opKeep S kf K v1 = (nI (S 4), (fun i => if i = nt v1 then true else kf i), (fun i => if i = nt v1 then S else K i)) := by unfold opKeep; rw [if_neg (fun q => q h1')]
    rw [eo]
    obtain ⟨k', hk⟩ : ∃ k', k' = nt v1 := ⟨_, rfl⟩
    rw [← hk] at hv hl ⊢
    clear eo
    subst hv
    have hsc := a8.2 k' hl
    have hsc0 := hsc.1
    refine r_aload_n (pc := 12) X dX6_keep_12 rfl ?_
    apply r_get (pc := 13) X f_X6_40 dX6_keep_13
    · repeat (first | exact mu_self | assumption | refine (mu_ne (by omega)).trans ?_)
    · rfl
    refine r_iload_n (pc := 16) X dX6_keep_16 rfl ?_
    refine r_sald (pc := 17) X dX6_keep_17 a8.1 hl (by decide) rfl ?_
    refine r_aload_n (pc := 18) X dX6_keep_18 rfl ?_
    apply r_get (pc := 19) X f_X6_29 dX6_keep_19
    · repeat (first | exact mu_self | assumption | refine (mu_ne (by omega)).trans ?_)
    · rfl
    refine c_v X (rV (pc := 22) (ci := 2) X l_X6_199 (t2_copy hsc a4 (by omega)) dX6_keep_22 (by repeat (first | exact mu_self | assumption | refine (mu_ne (by omega)).trans ?_)) rfl rfl rfl (Nat.le_of_ble_eq_true rfl) (by decide) (Nat.le_of_ble_eq_true rfl) (Nat.le_of_ble_eq_true rfl)) ?_
    rintro μ1 ⟨k1, k2⟩
    have d0 : μ1 x = _ := (k2 x (by omega)).trans a0
    have d4 : μ1 (x + 13) = _ := (k2 _ (by omega)).trans c40
    have d10 : μ1 (x + 38) = _ := (k2 _ (by omega)).trans a10
    refine r_aload_n (pc := 25) X dX6_keep_25 rfl ?_
    apply r_get (pc := 26) X f_X6_44 dX6_keep_26
    · repeat (first | exact mu_self | assumption | refine (mu_ne (by omega)).trans ?_)
    · rfl
    refine r_iload_n (pc := 29) X dX6_keep_29 rfl ?_
    refine r_iconst (pc := 30) (v := nI 1) X dX6_keep_30 (by decide) ?_
    apply r_zast (pc := 31) X dX6_keep_31 (by decide)
    · exact d10
    · omega
    · decide
    refine r_aload_n (pc := 32) X dX6_keep_32 rfl ?_
    apply r_get (pc := 33) X f_X6_29 dX6_keep_33
    · repeat (first | exact mu_self | assumption | refine (mu_ne (by omega)).trans ?_)
    · rfl
    apply r_get (pc := 36) X f_X6_154 dX6_keep_36
    · repeat (first | exact mu_self | assumption | refine (mu_ne (by omega)).trans ?_)
    · rfl
    have e1 : upd (fun i => zb (kf i)) k' (nI 1) = fun i => zb (if i = k' then true else kf i) := by
      funext i
      unfold upd
      by_cases hi : i = k'
      · rw [if_pos hi, if_pos hi]; rfl
      · rw [if_neg hi, if_neg hi]
    rw [e1]
    refine r_iret (pc := 39) X dX6_keep_39 ⟨rfl, h.kp (fun q hq => (mu_ne (by omega)).trans (k2 q (by omega))) ⟨updV2 V2 k' (scV (T 0) S), updV2 U2 k' (scU S), ⟨(mu_ne (by omega)).trans ((k2 _ (by omega)).trans a8.1), fun i hi => ?_⟩, fun i hi hz => ?_⟩ mu_self, fun q hq => (mu_ne (by omega)).trans (k2 q (by omega))⟩
    · unfold updV2
      by_cases hi2 : i = k'
      · rw [if_pos hi2, if_pos hi2, hi2]
        exact k1.kept (fun q h1 h2 => mu_ne (by omega))
      · rw [if_neg hi2, if_neg hi2]
        exact (a8.2 i hi).kept (fun q h1 h2 => (mu_ne (by omega)).trans (k2 q (by omega)))
    · unfold updV2
      dsimp only at hz ⊢
      by_cases hi2 : i = k'
      · rw [if_pos hi2, if_pos hi2, if_pos hi2]; exact ⟨rfl, rfl⟩
      · rw [if_neg hi2, if_neg hi2, if_neg hi2]
        rw [if_neg hi2] at hz
        exact a9 i hi hz
  · have h1' : ¬ (0 ≤ v1.toInt ∧ v1.toInt ≤ 1) := by simp at h1; omega
    have eo : opKeep S kf K v1 = (-2, kf, K) := by unfold opKeep; rw [if_pos h1']
    rw [eo]
    refine r_bipush (pc := 9) (v := -2) X dX6_keep_9 (by decide) ?_
    exact r_iret (pc := 11) X dX6_keep_11 (⟨rfl, h, Fr.rf⟩)
theorem t6_back (h : WC Γ μ x T S un A kf K n xs sn V) (hI : INV T S un A kf K n xs sn V) (v1 : Int32) : CT Γ l 2 sz 0 0 mX6_back [.ref x, .int v1] μ (ri (fun r μ' => r = (opBack S un kf K v1).1 ∧ WC Γ μ' x T (opBack S un kf K v1).2.1 (opBack S un kf K v1).2.2 A kf K n xs sn V ∧ Fr x 46 μ μ')) := by
  obtain ⟨a0, ⟨cl, tb, te, a1⟩, a2, ⟨T', a3⟩, a4, ⟨nx, V', U', a5, a6, a7⟩, ⟨V2, U2, a8, a9⟩, a10, ⟨pf, pg, a11, a12⟩, a13⟩ := id h
  have c10 := a1.1
  have c11 := a1.2
  have c20 := a2.1
  have c21 := a2.2.1
  have c22 := a2.2.2.1
  have c23 := a2.2.2.2.1
  have c24 := a2.2.2.2.2
  have c30 := a3.1
  have c40 := a4.1
  have c41 := a4.2.1
  have c60 := a6.1
  have c80 := a8.1
  have c110 := a11.1
  have c130 := a13.1
  obtain ⟨i1, i2, i3, i4, i5, i6, i7, i8, i9⟩ := id hI
  obtain ⟨t1, t2, t3, t4, t5, t6, t7, t8, t9, t10, t11⟩ := id i1
  obtain ⟨z1, z2, z3, z4, z5, z6, z7, z8, z9⟩ := id i2
  refine CT.go RX6 rfl "back" rfl [some (.ref x), some (.int v1)] rfl (by decide) (Nat.le_of_ble_eq_true rfl) ?_
  intro p e R s m args below meth c X hsz
  refine r_iload_n (pc := 0) X dX6_back_0 rfl ?_
  refine r_iconst (pc := 1) (v := nI 0) X dX6_back_1 (by decide) ?_
  refine r_iconst (pc := 2) (v := nI 1) X dX6_back_2 (by decide) ?_
  refine c_i X (rS (pc := 3) X l_X6_66 (t6_isOutside v1 (nI 0) (nI 1)) dX6_back_3 rfl rfl (Nat.le_of_ble_eq_true rfl) (by decide) (Nat.le_of_ble_eq_true rfl) (Nat.le_of_ble_eq_true rfl)) ?_
  rintro _ μq ⟨rfl, hμq⟩
  rw [hμq]
  clear hμq μq
  rw [nI_toInt (by omega), nI_toInt (by omega)]
  first | refine r_if_eqZ (pc := 6) X 12 dX6_back_6 (by decide) (fun h1 => ?_) (fun h1 => ?_) | refine r_if_eqN (pc := 6) X 12 dX6_back_6 (by decide) (by omega) (fun h1 => ?_) (fun h1 => ?_) | refine r_if_eq (pc := 6) X 12 dX6_back_6 (by decide) (fun h1 => ?_) (fun h1 => ?_)
  · have h1' : 0 ≤ v1.toInt ∧ v1.toInt ≤ 1 := by simp at h1; omega
    have hv := nt_nI h1'.1
    have hl : nt v1 < 2 := by unfold nt; omega
    unfold opBack
    rw [if_neg (fun q => q h1')]
    obtain ⟨k', hk⟩ : ∃ k', k' = nt v1 := ⟨_, rfl⟩
    rw [← hk] at hv hl ⊢
    subst hv
    refine r_aload_n (pc := 12) X dX6_back_12 rfl ?_
    apply r_get (pc := 13) X f_X6_44 dX6_back_13
    · repeat (first | exact mu_self | assumption | refine (mu_ne (by omega)).trans ?_)
    · rfl
    refine r_iload_n (pc := 16) X dX6_back_16 rfl ?_
    apply r_zald (pc := 17) X dX6_back_17
    · repeat (first | exact mu_self | assumption | refine (mu_ne (by omega)).trans ?_)
    · omega
    · decide
    first | refine r_if_neZ (pc := 18) X 24 dX6_back_18 (by decide) (fun h2 => ?_) (fun h2 => ?_) | refine r_if_neN (pc := 18) X 24 dX6_back_18 (by decide) (by omega) (fun h2 => ?_) (fun h2 => ?_) | refine r_if_ne (pc := 18) X 24 dX6_back_18 (by decide) (fun h2 => ?_) (fun h2 => ?_)
    · rw [h2, if_neg (by decide)]
      have hsc := a8.2 k' hl
      obtain ⟨q1, q2⟩ := a9 k' hl h2
      rw [q1, q2] at hsc
      refine r_aload_n (pc := 24) X dX6_back_24 rfl ?_
      apply r_get (pc := 25) X f_X6_29 dX6_back_25
      · repeat (first | exact mu_self | assumption | refine (mu_ne (by omega)).trans ?_)
      · rfl
      refine r_aload_n (pc := 28) X dX6_back_28 rfl ?_
      apply r_get (pc := 29) X f_X6_40 dX6_back_29
      · repeat (first | exact mu_self | assumption | refine (mu_ne (by omega)).trans ?_)
      · rfl
      refine r_iload_n (pc := 32) X dX6_back_32 rfl ?_
      refine r_sald (pc := 33) X dX6_back_33 a8.1 hl (by decide) rfl ?_
      refine c_v X (rV (pc := 34) (ci := 2) X l_X6_199 (t2_copy a4 hsc (by omega)) dX6_back_34 (by repeat (first | exact mu_self | assumption | refine (mu_ne (by omega)).trans ?_)) rfl rfl rfl (Nat.le_of_ble_eq_true rfl) (by decide) (Nat.le_of_ble_eq_true rfl) (Nat.le_of_ble_eq_true rfl)) ?_
      rintro μ1 ⟨k1, k2⟩
      have hW1 : WC Γ μ1 x T (K k') un A kf K n xs sn V := h.sc (fun q hq => k2 q (by omega)) k1
      have d0 := hW1.1
      have d6 : PastAt Γ μ1 (x + 15) un nx V' U' := a6.kept (fun q h1 h2 => k2 q (by omega))
      have d60 := d6.1
      refine r_aload_n (pc := 37) X dX6_back_37 rfl ?_
      apply r_get (pc := 38) X f_X6_36 dX6_back_38
      · repeat (first | exact mu_self | assumption | refine (mu_ne (by omega)).trans ?_)
      · rfl
      refine c_v X (rV (pc := 41) (ci := 0) X l_X6_201 (t0_clear d6) dX6_back_41 (by repeat (first | exact mu_self | assumption | refine (mu_ne (by omega)).trans ?_)) rfl rfl rfl (Nat.le_of_ble_eq_true rfl) (by decide) (Nat.le_of_ble_eq_true rfl) (Nat.le_of_ble_eq_true rfl)) ?_
      rintro μ2 ⟨m1, m2⟩
      have hW2 : WC Γ μ2 x T (K k') 0 A kf K n xs sn V := hW1.pa (fun q hq => m2 q (by omega)) ⟨nx, V', U', a5, m1, fun i hi => absurd hi (by omega)⟩
      obtain ⟨f0, -, -, -, f4, -⟩ := id hW2
      have f40 := f4.1
      refine r_aload_n (pc := 44) X dX6_back_44 rfl ?_
      apply r_get (pc := 45) X f_X6_29 dX6_back_45
      · repeat (first | exact mu_self | assumption | refine (mu_ne (by omega)).trans ?_)
      · rfl
      apply r_get (pc := 48) X f_X6_154 dX6_back_48
      · repeat (first | exact mu_self | assumption | refine (mu_ne (by omega)).trans ?_)
      · rfl
      exact r_iret (pc := 51) X dX6_back_51 (⟨rfl, hW2, fun q hq => (m2 q (by omega)).trans (k2 q (by omega))⟩)
    · rw [h2, if_pos rfl]
      refine r_bipush (pc := 21) (v := -4) X dX6_back_21 (by decide) ?_
      exact r_iret (pc := 23) X dX6_back_23 (⟨rfl, h, Fr.rf⟩)
  · have h1' : ¬ (0 ≤ v1.toInt ∧ v1.toInt ≤ 1) := by simp at h1; omega
    have eo : opBack S un kf K v1 = (-2, S, un) := by unfold opBack; rw [if_pos h1']
    rw [eo]
    refine r_bipush (pc := 9) (v := -2) X dX6_back_9 (by decide) ?_
    exact r_iret (pc := 11) X dX6_back_11 (⟨rfl, h, Fr.rf⟩)
end S28
