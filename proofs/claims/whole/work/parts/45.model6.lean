section S45
variable {Γ : KK} {l : Launch} {sz : Nat} {μ : MM} {y : Nat} {T S : Nat → Nat} {un : Nat} {A : Nat → Nat → Nat} {kf : Nat → Bool} {K : Nat → Nat → Nat} {n : Nat} {xs : Nat → Nat} {sn : Nat} {V : Nat → Nat}
theorem t7_hide (h : WM Γ μ y T S un A kf K n xs sn V) (hI : INV T S un A kf K n xs sn V) (v1 v2 : Int32) : CT Γ l 2 sz 0 0 mX7_hide [.ref y, .int v1, .int v2] μ (ri (fun r μ' => r = (opHide T S un A v1 v2).1 ∧ WM Γ μ' y T (opHide T S un A v1 v2).2.1 (opHide T S un A v1 v2).2.2.1 (opHide T S un A v1 v2).2.2.2 kf K n xs sn V ∧ Fr y 10 μ μ')) := by
  obtain ⟨pl, tk, vl, bg, cl, rd, ah, kp, mo, a0, a1, a2, a3, a4, a5, a6, a7, a8, a9, a10, a11⟩ := id h
  obtain ⟨i1, i2, i3, i4, i5, i6, i7, i8, i9⟩ := id hI
  obtain ⟨t1, t2, t3, t4, t5, t6, t7, t8, t9, t10, t11⟩ := id i1
  obtain ⟨z1, z2, z3, z4, z5, z6, z7, z8, z9⟩ := id i2
  refine CT.go RX7 rfl "hide" rfl [some (.ref y), some (.int v1), some (.int v2), none, none] rfl (by decide) (Nat.le_of_ble_eq_true rfl) ?_
  intro p e R s m args below meth c X hsz
  have bad : ¬ (0 ≤ v1.toInt ∧ v1.toInt < T 0) ∨ ¬ (-1 ≤ v2.toInt ∧ v2.toInt < T 7) → vV Γ p l e R s m args below meth c (vQ Γ s args below 0 0 (ri (fun r μ' => r = (opHide T S un A v1 v2).1 ∧ WM Γ μ' y T (opHide T S un A v1 v2).2.1 (opHide T S un A v1 v2).2.2.1 (opHide T S un A v1 v2).2.2.2 kf K n xs sn V ∧ Fr y 10 μ μ'))) 5 0 0 21 [some (.ref (y)), some (.int (v1)), some (.int (v2)), none, none] [] (μ) := by
    intro hq
    have eo : opHide T S un A v1 v2 = (-2, S, un, A) := by unfold opHide; rw [if_pos hq]
    rw [eo]
    refine r_bipush (pc := 21) (v := -2) X dX7_hide_21 (by decide) ?_
    exact r_iret (pc := 23) X dX7_hide_23 (⟨rfl, h, Fr.rf⟩)
  have good' : ∀ k' w' : Nat, k' < T 0 → w' ≤ T 7 → opHide T S un A v1 v2 = (if canT S k' w' = false then (-4, S, un, A) else (uI (S (12 + k')), upN S (12 + k') w', min 8 (un + 1), pushA un A S)) → vV Γ p l e R s m args below meth c (vQ Γ s args below 0 0 (ri (fun r μ' => r = (opHide T S un A v1 v2).1 ∧ WM Γ μ' y T (opHide T S un A v1 v2).2.1 (opHide T S un A v1 v2).2.2.1 (opHide T S un A v1 v2).2.2.2 kf K n xs sn V ∧ Fr y 10 μ μ'))) 5 0 0 24 [some (.ref (y)), some (.int (nI (k'))), some (.int (uI w')), none, none] [] (μ) := by
    intro k' w' hl hl2 eo
    have tail : ∀ b : Bool, canT S k' w' = ((S (6 + k') == 0) && !b) → vV Γ p l e R s m args below meth c (vQ Γ s args below 0 0 (ri (fun r μ' => r = (opHide T S un A v1 v2).1 ∧ WM Γ μ' y T (opHide T S un A v1 v2).2.1 (opHide T S un A v1 v2).2.2.1 (opHide T S un A v1 v2).2.2.2 kf K n xs sn V ∧ Fr y 10 μ μ'))) 5 0 0 74 [some (.ref (y)), some (.int (nI (k'))), some (.int (uI w')), none, none] [.int (zb b)] (μ) := by
      intro b hb
      have bad : canT S k' w' = false → vV Γ p l e R s m args below meth c (vQ Γ s args below 0 0 (ri (fun r μ' => r = (opHide T S un A v1 v2).1 ∧ WM Γ μ' y T (opHide T S un A v1 v2).2.1 (opHide T S un A v1 v2).2.2.1 (opHide T S un A v1 v2).2.2.2 kf K n xs sn V ∧ Fr y 10 μ μ'))) 5 0 0 87 [some (.ref (y)), some (.int (nI (k'))), some (.int (uI w')), some (.int (zb b)), none] [] (μ) := by
        intro hq
        rw [eo, hq, if_pos rfl]
        refine r_bipush (pc := 87) (v := -4) X dX7_hide_87 (by decide) ?_
        exact r_iret (pc := 89) X dX7_hide_89 (⟨rfl, h, Fr.rf⟩)
      refine r_istore_n (pc := 74) X dX7_hide_74 (by decide) rfl ?_
      refine r_aload_n (pc := 75) X dX7_hide_75 rfl ?_
      refine r_iload_n (pc := 76) X dX7_hide_76 rfl ?_
      refine c_i X (rV (pc := 77) (ci := 7) X l_X7_147 (t7_isIn a0 a2 (m' := k') (by omega) (z6 k' (by omega))) dX7_hide_77 (by repeat (first | exact mu_self | assumption | refine (mu_ne (by omega)).trans ?_)) rfl rfl rfl (Nat.le_of_ble_eq_true rfl) (by decide) (Nat.le_of_ble_eq_true rfl) (Nat.le_of_ble_eq_true rfl)) ?_
      rintro _ μq ⟨rfl, hμq⟩
      rw [hμq]
      clear hμq μq
      first | refine r_if_eqZ (pc := 80) X 87 dX7_hide_80 (by decide) (fun h3 => ?_) (fun h3 => ?_) | refine r_if_eqN (pc := 80) X 87 dX7_hide_80 (by decide) (by omega) (fun h3 => ?_) (fun h3 => ?_) | refine r_if_eq (pc := 80) X 87 dX7_hide_80 (by decide) (fun h3 => ?_) (fun h3 => ?_)
      · exact bad (by rw [hb]; simp at h3; simp [h3])
      · refine r_iload_n (pc := 83) X dX7_hide_83 rfl ?_
        first | refine r_if_eqZ (pc := 84) X 90 dX7_hide_84 (by decide) (fun h4 => ?_) (fun h4 => ?_) | refine r_if_eqN (pc := 84) X 90 dX7_hide_84 (by decide) (by omega) (fun h4 => ?_) (fun h4 => ?_) | refine r_if_eq (pc := 84) X 90 dX7_hide_84 (by decide) (fun h4 => ?_) (fun h4 => ?_)
        · have hc : canT S k' w' = true := by rw [hb, h4]; simp at h3; simp [h3]
          rw [eo, hc, if_neg (by decide)]
          refine r_aload_n (pc := 90) X dX7_hide_90 rfl ?_
          refine c_v X (rV (pc := 91) (ci := 7) X l_X7_144 (t7_note a0 a2 a5 a6 i3) dX7_hide_91 (by repeat (first | exact mu_self | assumption | refine (mu_ne (by omega)).trans ?_)) rfl rfl rfl (Nat.le_of_ble_eq_true rfl) (by decide) (Nat.le_of_ble_eq_true rfl) (Nat.le_of_ble_eq_true rfl)) ?_
          rintro μ1 ⟨ah', hμ1, hU⟩
          have hW1 : WM Γ μ1 y T S (min 8 (un + 1)) (pushA un A S) kf K n xs sn V := by rw [hμ1]; exact WM.noted a0 a1 a2 a3 a4 a7 a8 a9 a10 a11 hU
          have hF1 : Fr y 10 μ μ1 := fun q hq => by rw [hμ1]; exact (mu_ne (by omega)).trans (mu_ne (by omega))
          obtain ⟨pl', tk', vl', bg', cl', rd', ah1, kp', mo', d0, d1, d2, -⟩ := id hW1
          refine r_aload_n (pc := 94) X dX7_hide_94 rfl ?_
          apply r_get (pc := 95) X f_X7_13 dX7_hide_95
          · repeat (first | exact mu_self | assumption | refine (mu_ne (by omega)).trans ?_)
          · rfl
          refine r_bipush (pc := 98) (v := nI 12) X dX7_hide_98 (by decide) ?_
          refine r_iload_n (pc := 100) X dX7_hide_100 rfl ?_
          first | refine r_iaddN (pc := 101) X dX7_hide_101 ?_ | refine r_iadd (pc := 101) X dX7_hide_101 ?_
          apply r_iald (pc := 102) X dX7_hide_102
          · repeat (first | exact mu_self | assumption | refine (mu_ne (by omega)).trans ?_)
          · omega
          · decide
          rw [stI_hi (by omega)]
          refine r_istore (pc := 103) X dX7_hide_103 (by decide) rfl ?_
          refine r_aload_n (pc := 105) X dX7_hide_105 rfl ?_
          apply r_get (pc := 106) X f_X7_13 dX7_hide_106
          · repeat (first | exact mu_self | assumption | refine (mu_ne (by omega)).trans ?_)
          · rfl
          refine r_bipush (pc := 109) (v := nI 12) X dX7_hide_109 (by decide) ?_
          refine r_iload_n (pc := 111) X dX7_hide_111 rfl ?_
          first | refine r_iaddN (pc := 112) X dX7_hide_112 ?_ | refine r_iadd (pc := 112) X dX7_hide_112 ?_
          refine r_iload_n (pc := 113) X dX7_hide_113 rfl ?_
          apply r_iast (pc := 114) X dX7_hide_114
          · repeat (first | exact mu_self | assumption | refine (mu_ne (by omega)).trans ?_)
          · omega
          · decide
          rw [stI_uph (by omega)]
          refine r_iload (pc := 115) X dX7_hide_115 rfl ?_
          exact r_iret (pc := 117) X dX7_hide_117 (⟨rfl, hW1.sc (fun q hq => mu_ne hq) mu_self, fun q hq => (mu_ne (by omega)).trans (hF1 q hq)⟩)
        · exact bad (by rw [hb, h4]; simp)
    refine r_iload_n (pc := 24) X dX7_hide_24 rfl ?_
    rcases Nat.eq_zero_or_pos w' with h0 | h0
    · subst h0
      rw [uI_0] at tail ⊢
      refine r_if_ge (pc := 25) X 48 dX7_hide_25 (by decide) (fun h3 => ?_) (fun h3 => ?_)
      · exact absurd h3 (by decide)
      · refine r_aload_n (pc := 28) X dX7_hide_28 rfl ?_
        apply r_get (pc := 29) X f_X7_13 dX7_hide_29
        · repeat (first | exact mu_self | assumption | refine (mu_ne (by omega)).trans ?_)
        · rfl
        refine r_bipush (pc := 32) (v := nI 12) X dX7_hide_32 (by decide) ?_
        refine r_iload_n (pc := 34) X dX7_hide_34 rfl ?_
        first | refine r_iaddN (pc := 35) X dX7_hide_35 ?_ | refine r_iadd (pc := 35) X dX7_hide_35 ?_
        apply r_iald (pc := 36) X dX7_hide_36
        · repeat (first | exact mu_self | assumption | refine (mu_ne (by omega)).trans ?_)
        · omega
        · decide
        rw [stI_hi (by omega)]
        have z := z7 k' (by omega)
        rcases Nat.eq_zero_or_pos (S (12 + k')) with g0 | g0
        · rw [g0, uI_0]
          refine r_if_ge (pc := 37) X 44 dX7_hide_37 (by decide) (fun h4 => ?_) (fun h4 => ?_)
          · exact absurd h4 (by decide)
          · refine r_iconst (pc := 40) (v := nI 1) X dX7_hide_40 (by decide) ?_
            refine r_goto (pc := 41) X 74 dX7_hide_41 (by decide) ?_
            exact tail true (by unfold canT; rw [if_pos rfl, g0]; simp)
        · obtain ⟨w, hw⟩ : ∃ w, S (12 + k') = w + 1 := ⟨S (12 + k') - 1, by omega⟩
          rw [hw, uI_S]
          first | refine r_if_geN (pc := 37) X 44 dX7_hide_37 (by decide) (by omega) (fun h4 => ?_) (fun h4 => ?_) | refine r_if_ge (pc := 37) X 44 dX7_hide_37 (by decide) (fun h4 => ?_) (fun h4 => ?_)
          · refine r_iconst (pc := 44) (v := nI 0) X dX7_hide_44 (by decide) ?_
            refine r_goto (pc := 45) X 74 dX7_hide_45 (by decide) ?_
            exact tail false (by unfold canT; rw [if_pos rfl, hw]; simp)
          · exact absurd (Nat.zero_le _) h4
    · obtain ⟨w, rfl⟩ : ∃ w, w' = w + 1 := ⟨w' - 1, by omega⟩
      have hcT : canT S k' (w + 1) = ((S (6 + k') == 0) && (!(S 5).testBit w && decide (wu S w 6 = 0))) := by unfold canT; rw [if_neg (by omega)]; rfl
      rw [uI_S] at tail ⊢
      have one : (S 5).testBit w = true ∨ wu S w 6 ≠ 0 → vV Γ p l e R s m args below meth c (vQ Γ s args below 0 0 (ri (fun r μ' => r = (opHide T S un A v1 v2).1 ∧ WM Γ μ' y T (opHide T S un A v1 v2).2.1 (opHide T S un A v1 v2).2.2.1 (opHide T S un A v1 v2).2.2.2 kf K n xs sn V ∧ Fr y 10 μ μ'))) 5 0 0 69 [some (.ref (y)), some (.int (nI (k'))), some (.int (nI (w))), none, none] [] (μ) := by
        intro hq
        refine r_iconst (pc := 69) (v := nI 1) X dX7_hide_69 (by decide) ?_
        refine r_goto (pc := 70) X 74 dX7_hide_70 (by decide) ?_
        exact tail true (by rw [hcT]; rcases hq with hq | hq <;> simp [hq])
      first | refine r_if_geN (pc := 25) X 48 dX7_hide_25 (by decide) (by omega) (fun h3 => ?_) (fun h3 => ?_) | refine r_if_ge (pc := 25) X 48 dX7_hide_25 (by decide) (fun h3 => ?_) (fun h3 => ?_)
      · refine r_aload_n (pc := 48) X dX7_hide_48 rfl ?_
        apply r_get (pc := 49) X f_X7_13 dX7_hide_49
        · repeat (first | exact mu_self | assumption | refine (mu_ne (by omega)).trans ?_)
        · rfl
        refine r_iconst (pc := 52) (v := nI 5) X dX7_hide_52 (by decide) ?_
        apply r_iald (pc := 53) X dX7_hide_53
        · repeat (first | exact mu_self | assumption | refine (mu_ne (by omega)).trans ?_)
        · omega
        · decide
        rw [stI_lo (by omega)]
        refine r_iload_n (pc := 54) X dX7_hide_54 rfl ?_
        refine c_i X (rS (pc := 55) X l_X7_160 (t7_has (b := S 5) (k := w) (by have := Nat.pow_le_pow_right (n := 2) (by decide) t2; omega) (by omega)) dX7_hide_55 rfl rfl (Nat.le_of_ble_eq_true rfl) (by decide) (Nat.le_of_ble_eq_true rfl) (Nat.le_of_ble_eq_true rfl)) ?_
        rintro _ μq ⟨rfl, hμq⟩
        rw [hμq]
        clear hμq μq
        first | refine r_if_neZ (pc := 58) X 69 dX7_hide_58 (by decide) (fun h5 => ?_) (fun h5 => ?_) | refine r_if_neN (pc := 58) X 69 dX7_hide_58 (by decide) (by omega) (fun h5 => ?_) (fun h5 => ?_) | refine r_if_ne (pc := 58) X 69 dX7_hide_58 (by decide) (fun h5 => ?_) (fun h5 => ?_)
        · exact one (Or.inl (by simpa using h5))
        · refine r_aload_n (pc := 61) X dX7_hide_61 rfl ?_
          refine r_iload_n (pc := 62) X dX7_hide_62 rfl ?_
          refine c_i X (rV (pc := 63) (ci := 7) X l_X7_134 (t7_under a0 a1 a2 t1 t2 i2 (s' := w) (by omega)) dX7_hide_63 (by repeat (first | exact mu_self | assumption | refine (mu_ne (by omega)).trans ?_)) rfl rfl rfl (Nat.le_of_ble_eq_true rfl) (by decide) (Nat.le_of_ble_eq_true rfl) (Nat.le_of_ble_eq_true rfl)) ?_
          rintro _ μq ⟨rfl, hμq⟩
          rw [hμq]
          clear hμq μq
          have hwl := wu_le S w 6
          rcases Nat.eq_zero_or_pos (wu S w 6) with g0 | g0
          · rw [g0, uI_0]
            refine r_if_lt (pc := 66) X 73 dX7_hide_66 (by decide) (fun h6 => ?_) (fun h6 => ?_)
            · refine r_iconst (pc := 73) (v := nI 0) X dX7_hide_73 (by decide) ?_
              exact tail false (by rw [hcT, g0]; simp [h5])
            · exact absurd (by decide) h6
          · obtain ⟨u, hu⟩ : ∃ u, wu S w 6 = u + 1 := ⟨wu S w 6 - 1, by omega⟩
            rw [hu, uI_S]
            first | refine r_if_ltN (pc := 66) X 73 dX7_hide_66 (by decide) (by omega) (fun h6 => ?_) (fun h6 => ?_) | refine r_if_lt (pc := 66) X 73 dX7_hide_66 (by decide) (fun h6 => ?_) (fun h6 => ?_)
            · exact absurd h6 (Nat.not_lt_zero _)
            · exact one (Or.inr (by omega))
      · exact absurd (Nat.zero_le _) h3
  have good : (0 ≤ v1.toInt ∧ v1.toInt < T 0) → (-1 ≤ v2.toInt ∧ v2.toInt < T 7) → vV Γ p l e R s m args below meth c (vQ Γ s args below 0 0 (ri (fun r μ' => r = (opHide T S un A v1 v2).1 ∧ WM Γ μ' y T (opHide T S un A v1 v2).2.1 (opHide T S un A v1 v2).2.2.1 (opHide T S un A v1 v2).2.2.2 kf K n xs sn V ∧ Fr y 10 μ μ'))) 5 0 0 24 [some (.ref (y)), some (.int (v1)), some (.int (v2)), none, none] [] (μ) := by
    intro h1 h2
    have hv := nt_nI h1.1
    have hv2 := cd_uI h2.1 (by omega)
    have := good' (nt v1) (cd v2) (nt_lt h1.1 h1.2) (by unfold cd; omega) (by unfold opHide; rw [if_neg (by omega)])
    rw [← hv, ← hv2] at this
    exact this
  refine r_aload_n (pc := 0) X dX7_hide_0 rfl ?_
  refine r_iload_n (pc := 1) X dX7_hide_1 rfl ?_
  refine c_i X (rV (pc := 2) (ci := 7) X l_X7_123 (t7_isMan a0 a1 t1 v1) dX7_hide_2 (by repeat (first | exact mu_self | assumption | refine (mu_ne (by omega)).trans ?_)) rfl rfl rfl (Nat.le_of_ble_eq_true rfl) (by decide) (Nat.le_of_ble_eq_true rfl) (Nat.le_of_ble_eq_true rfl)) ?_
  rintro _ μq ⟨rfl, hμq⟩
  rw [hμq]
  clear hμq μq
  first | refine r_if_eqZ (pc := 5) X 21 dX7_hide_5 (by decide) (fun h1 => ?_) (fun h1 => ?_) | refine r_if_eqN (pc := 5) X 21 dX7_hide_5 (by decide) (by omega) (fun h1 => ?_) (fun h1 => ?_) | refine r_if_eq (pc := 5) X 21 dX7_hide_5 (by decide) (fun h1 => ?_) (fun h1 => ?_)
  · exact bad (Or.inl (by simpa using h1))
  · have h1' : 0 ≤ v1.toInt ∧ v1.toInt < T 0 := by simpa using h1
    refine r_iload_n (pc := 8) X dX7_hide_8 rfl ?_
    refine r_iconst (pc := 9) (v := -1) X dX7_hide_9 (by decide) ?_
    refine r_icmp_eq (pc := 10) X 24 dX7_hide_10 (by decide) (fun h2 => ?_) (fun h2 => ?_)
    · exact good h1' (by rw [h2, show (-1 : Int32).toInt = -1 by decide]; omega)
    · refine r_aload_n (pc := 13) X dX7_hide_13 rfl ?_
      refine r_iload_n (pc := 14) X dX7_hide_14 rfl ?_
      refine c_i X (rV (pc := 15) (ci := 7) X l_X7_129 (t7_isSheep a0 a1 t2 v2) dX7_hide_15 (by repeat (first | exact mu_self | assumption | refine (mu_ne (by omega)).trans ?_)) rfl rfl rfl (Nat.le_of_ble_eq_true rfl) (by decide) (Nat.le_of_ble_eq_true rfl) (Nat.le_of_ble_eq_true rfl)) ?_
      rintro _ μq ⟨rfl, hμq⟩
      rw [hμq]
      clear hμq μq
      first | refine r_if_neZ (pc := 18) X 24 dX7_hide_18 (by decide) (fun h3 => ?_) (fun h3 => ?_) | refine r_if_neN (pc := 18) X 24 dX7_hide_18 (by decide) (by omega) (fun h3 => ?_) (fun h3 => ?_) | refine r_if_ne (pc := 18) X 24 dX7_hide_18 (by decide) (fun h3 => ?_) (fun h3 => ?_)
      · have h3' : 0 ≤ v2.toInt ∧ v2.toInt < T 7 := by simpa using h3
        exact good h1' (by omega)
      · have h3' : ¬ (0 ≤ v2.toInt ∧ v2.toInt < T 7) := by simpa using h3
        have h4 : v2.toInt ≠ -1 := fun q => h2 (Int32.toInt_inj.mp (by rw [q]; decide))
        exact bad (Or.inr (by omega))
theorem t7_undo (h : WM Γ μ y T S un A kf K n xs sn V) (hI : INV T S un A kf K n xs sn V) : CT Γ l 0 sz 0 0 mX7_undo [.ref y] μ (ri (fun r μ' => r = (opUndo S un A).1 ∧ WM Γ μ' y T (opUndo S un A).2.1 (opUndo S un A).2.2.1 (opUndo S un A).2.2.2 kf K n xs sn V ∧ Fr y 10 μ μ')) := by
  obtain ⟨pl, tk, vl, bg, cl, rd, ah, kp, mo, a0, a1, a2, a3, a4, a5, a6, a7, a8, a9, a10, a11⟩ := id h
  obtain ⟨i1, i2, i3, i4, i5, i6, i7, i8, i9⟩ := id hI
  obtain ⟨t1, t2, t3, t4, t5, t6, t7, t8, t9, t10, t11⟩ := id i1
  obtain ⟨z1, z2, z3, z4, z5, z6, z7, z8, z9⟩ := id i2
  refine CT.go RX7 rfl "undo" rfl [some (.ref y), none] rfl (by decide) (Nat.le_of_ble_eq_true rfl) ?_
  intro p e R s m args below meth c X hsz
  refine r_aload_n (pc := 0) X dX7_undo_0 rfl ?_
  apply r_get (pc := 1) X f_X7_117 dX7_undo_1
  · repeat (first | exact mu_self | assumption | refine (mu_ne (by omega)).trans ?_)
  · rfl
  first | refine r_if_neZ (pc := 4) X 10 dX7_undo_4 (by decide) (fun h1 => ?_) (fun h1 => ?_) | refine r_if_neN (pc := 4) X 10 dX7_undo_4 (by decide) (by omega) (fun h1 => ?_) (fun h1 => ?_) | refine r_if_ne (pc := 4) X 10 dX7_undo_4 (by decide) (fun h1 => ?_) (fun h1 => ?_)
  · have eo : opUndo S un A = (nI (un - 1), A (un - 1), un - 1, A) := by unfold opUndo; rw [if_neg h1]
    refine r_aload_n (pc := 10) X dX7_undo_10 rfl ?_
    refine r_dup (pc := 11) X dX7_undo_11 rfl ?_
    apply r_get (pc := 12) X f_X7_117 dX7_undo_12
    · repeat (first | exact mu_self | assumption | refine (mu_ne (by omega)).trans ?_)
    · rfl
    refine r_iconst (pc := 15) (v := nI 1) X dX7_undo_15 (by decide) ?_
    first | refine r_isubN (pc := 16) X dX7_undo_16 (by omega) ?_ | refine r_isub (pc := 16) X dX7_undo_16 ?_
    first | refine r_putS (pc := 17) X f_X7_117 dX7_undo_17 (by first | rfl | assumption | decide | simp [narrow]) (by first | rfl | assumption) (Nat.le_of_ble_eq_true rfl) ?_ | refine r_put (pc := 17) X f_X7_117 dX7_undo_17 (by repeat (first | exact mu_self | assumption | refine (mu_ne (by omega)).trans ?_)) (by first | rfl | assumption | decide | simp [narrow]) (by first | rfl | assumption) (Nat.le_of_ble_eq_true rfl) ?_
    refine r_iconst (pc := 20) (v := nI 0) X dX7_undo_20 (by decide) ?_
    refine r_istore_n (pc := 21) X dX7_undo_21 (by decide) rfl ?_
    have key : ∀ (N i : Nat) (st2 : Nat → Int32) (μ2 : MM), i + N = 18 → μ2 y = some (mdO y n pl tk vl bg cl (un - 1) sn) → μ2 (y + 5) = some (xI Γ 144 ah) → μ2 (y + 2) = some (xI Γ 18 st2) → (∀ q, q ≠ y → q ≠ y + 2 → μ2 q = μ q) → (∀ k, k < i → st2 k = stI (A (un - 1)) k) → vV Γ p l e R s m args below meth c (vQ Γ s args below 0 0 (ri (fun r μ' => r = (opUndo S un A).1 ∧ WM Γ μ' y T (opUndo S un A).2.1 (opUndo S un A).2.2.1 (opUndo S un A).2.2.2 kf K n xs sn V ∧ Fr y 10 μ μ'))) 2 0 0 22 [some (.ref (y)), some (.int (nI (i)))] [] (μ2) := by
      intro N
      induction N with
      | zero =>
        intro i st2 μ2 hi g0 g5 g2 gF gB
        have hi2 : i = 18 := by omega
        subst hi2
        refine vV.sub (μ' := mu μ2 (y + 2) (xI Γ 18 (stI (A (un - 1))))) (fun H hP => hP.reI g2 (fun j hj => gB j hj)) ?_
        have g0' : mu μ2 (y + 2) (xI Γ 18 (stI (A (un - 1)))) y = _ := (mu_ne (by omega)).trans g0
        refine r_iload_n (pc := 22) X dX7_undo_22 rfl ?_
        refine r_bipush (pc := 23) (v := nI 18) X dX7_undo_23 (by decide) ?_
        refine r_icmp_geN (pc := 25) X 54 dX7_undo_25 (by decide) (by omega) (by omega) (fun _ => ?_) (fun h => absurd (Nat.le_refl _) h)
        refine r_aload_n (pc := 54) X dX7_undo_54 rfl ?_
        apply r_get (pc := 55) X f_X7_117 dX7_undo_55
        · repeat (first | exact mu_self | assumption | refine (mu_ne (by omega)).trans ?_)
        · rfl
        rw [eo]
        refine r_iret (pc := 58) X dX7_undo_58 ⟨rfl, ⟨pl, tk, vl, bg, cl, rd, ah, kp, mo, g0', ?_, mu_self, ?_, ?_, ?_, fun i k hi hk => a6 i k (by have hi : i < un - 1 := hi; omega) hk, ?_, ?_, a9, ?_, ?_⟩, fun q hq => (mu_ne (by omega)).trans (gF q (by omega) (by omega))⟩
        · exact (mu_ne (by omega)).trans ((gF _ (by omega) (by omega)).trans a1)
        · exact (mu_ne (by omega)).trans ((gF _ (by omega) (by omega)).trans a3)
        · exact (mu_ne (by omega)).trans ((gF _ (by omega) (by omega)).trans a4)
        · exact (mu_ne (by omega)).trans ((gF _ (by omega) (by omega)).trans a5)
        · exact (mu_ne (by omega)).trans ((gF _ (by omega) (by omega)).trans a7)
        · exact (mu_ne (by omega)).trans ((gF _ (by omega) (by omega)).trans a8)
        · exact (mu_ne (by omega)).trans ((gF _ (by omega) (by omega)).trans a10)
        · exact (mu_ne (by omega)).trans ((gF _ (by omega) (by omega)).trans a11)
      | succ N ih =>
        intro i st2 μ2 hi g0 g5 g2 gF gB
        refine r_iload_n (pc := 22) X dX7_undo_22 rfl ?_
        refine r_bipush (pc := 23) (v := nI 18) X dX7_undo_23 (by decide) ?_
        refine r_icmp_geN (pc := 25) X 54 dX7_undo_25 (by decide) (by omega) (by omega) (fun h => absurd h (by omega)) (fun _ => ?_)
        refine r_aload_n (pc := 28) X dX7_undo_28 rfl ?_
        apply r_get (pc := 29) X f_X7_13 dX7_undo_29
        · repeat (first | exact mu_self | assumption | refine (mu_ne (by omega)).trans ?_)
        · rfl
        refine r_iload_n (pc := 32) X dX7_undo_32 rfl ?_
        refine r_aload_n (pc := 33) X dX7_undo_33 rfl ?_
        apply r_get (pc := 34) X f_X7_22 dX7_undo_34
        · repeat (first | exact mu_self | assumption | refine (mu_ne (by omega)).trans ?_)
        · rfl
        refine r_bipush (pc := 37) (v := nI 18) X dX7_undo_37 (by decide) ?_
        refine r_aload_n (pc := 39) X dX7_undo_39 rfl ?_
        apply r_get (pc := 40) X f_X7_117 dX7_undo_40
        · repeat (first | exact mu_self | assumption | refine (mu_ne (by omega)).trans ?_)
        · rfl
        first | refine r_imulN (pc := 43) X dX7_undo_43 ?_ | refine r_imul (pc := 43) X dX7_undo_43 ?_
        refine r_iload_n (pc := 44) X dX7_undo_44 rfl ?_
        first | refine r_iaddN (pc := 45) X dX7_undo_45 ?_ | refine r_iadd (pc := 45) X dX7_undo_45 ?_
        apply r_iald (pc := 46) X dX7_undo_46
        · repeat (first | exact mu_self | assumption | refine (mu_ne (by omega)).trans ?_)
        · omega
        · decide
        apply r_iast (pc := 47) X dX7_undo_47
        · repeat (first | exact mu_self | assumption | refine (mu_ne (by omega)).trans ?_)
        · omega
        · decide
        refine r_iincN (pc := 48) (b := 1) X dX7_undo_48 rfl (by decide) rfl ?_
        refine r_goto (pc := 51) X 22 dX7_undo_51 (by decide) ?_
        refine ih (i + 1) (upd st2 i (ah (18 * (un - 1) + i))) _ (by omega) (by repeat (first | exact mu_self | assumption | refine (mu_ne (by omega)).trans ?_)) (by repeat (first | exact mu_self | assumption | refine (mu_ne (by omega)).trans ?_)) mu_self (fun q h1 h2 => (mu_ne h2).trans (gF q h1 h2)) (fun k h1 => ?_)
        unfold upd
        by_cases hk : k = i
        · rw [if_pos hk, hk]; exact a6 (un - 1) i (by omega) (by omega)
        · rw [if_neg hk]; exact gB k (by omega)
    exact key 18 0 _ _ (by omega) mu_self (by repeat (first | exact mu_self | assumption | refine (mu_ne (by omega)).trans ?_)) ((mu_ne (by omega)).trans a2) (fun q h1 h2 => mu_ne h1) (fun k hk => by omega)
  · have eo : opUndo S un A = (-4, S, un, A) := by unfold opUndo; rw [if_pos h1]
    rw [eo]
    refine r_bipush (pc := 7) (v := -4) X dX7_undo_7 (by decide) ?_
    exact r_iret (pc := 9) X dX7_undo_9 (⟨rfl, h, Fr.rf⟩)
theorem t7_back (h : WM Γ μ y T S un A kf K n xs sn V) (hI : INV T S un A kf K n xs sn V) (v1 : Int32) : CT Γ l 2 sz 0 0 mX7_back [.ref y, .int v1] μ (ri (fun r μ' => r = (opBack S un kf K v1).1 ∧ WM Γ μ' y T (opBack S un kf K v1).2.1 (opBack S un kf K v1).2.2 A kf K n xs sn V ∧ Fr y 10 μ μ')) := by
  obtain ⟨pl, tk, vl, bg, cl, rd, ah, kp, mo, a0, a1, a2, a3, a4, a5, a6, a7, a8, a9, a10, a11⟩ := id h
  obtain ⟨i1, i2, i3, i4, i5, i6, i7, i8, i9⟩ := id hI
  obtain ⟨t1, t2, t3, t4, t5, t6, t7, t8, t9, t10, t11⟩ := id i1
  obtain ⟨z1, z2, z3, z4, z5, z6, z7, z8, z9⟩ := id i2
  refine CT.go RX7 rfl "back" rfl [some (.ref y), some (.int v1), none] rfl (by decide) (Nat.le_of_ble_eq_true rfl) ?_
  intro p e R s m args below meth c X hsz
  refine r_iload_n (pc := 0) X dX7_back_0 rfl ?_
  refine c_i X (rS (pc := 1) X l_X7_169 (t7_isWhat v1) dX7_back_1 rfl rfl (Nat.le_of_ble_eq_true rfl) (by decide) (Nat.le_of_ble_eq_true rfl) (Nat.le_of_ble_eq_true rfl)) ?_
  rintro _ μq ⟨rfl, hμq⟩
  rw [hμq]
  clear hμq μq
  first | refine r_if_neZ (pc := 4) X 10 dX7_back_4 (by decide) (fun h1 => ?_) (fun h1 => ?_) | refine r_if_neN (pc := 4) X 10 dX7_back_4 (by decide) (by omega) (fun h1 => ?_) (fun h1 => ?_) | refine r_if_ne (pc := 4) X 10 dX7_back_4 (by decide) (fun h1 => ?_) (fun h1 => ?_)
  · have h1' : 0 ≤ v1.toInt ∧ v1.toInt ≤ 1 := by simpa using h1
    have hv := nt_nI h1'.1
    have good : ∀ k' : Nat, k' < 2 → opBack S un kf K v1 = (if kf k' = false then (-4, S, un) else (nI (K k' 4), K k', 0)) → vV Γ p l e R s m args below meth c (vQ Γ s args below 0 0 (ri (fun r μ' => r = (opBack S un kf K v1).1 ∧ WM Γ μ' y T (opBack S un kf K v1).2.1 (opBack S un kf K v1).2.2 A kf K n xs sn V ∧ Fr y 10 μ μ'))) 3 0 0 10 [some (.ref (y)), some (.int (nI (k'))), none] [] (μ) := by
      intro k' hl eo
      refine r_aload_n (pc := 10) X dX7_back_10 rfl ?_
      apply r_get (pc := 11) X f_X7_25 dX7_back_11
      · repeat (first | exact mu_self | assumption | refine (mu_ne (by omega)).trans ?_)
      · rfl
      refine r_iload_n (pc := 14) X dX7_back_14 rfl ?_
      apply r_zald (pc := 15) X dX7_back_15
      · repeat (first | exact mu_self | assumption | refine (mu_ne (by omega)).trans ?_)
      · omega
      · decide
      first | refine r_if_neZ (pc := 16) X 22 dX7_back_16 (by decide) (fun h2 => ?_) (fun h2 => ?_) | refine r_if_neN (pc := 16) X 22 dX7_back_16 (by decide) (by omega) (fun h2 => ?_) (fun h2 => ?_) | refine r_if_ne (pc := 16) X 22 dX7_back_16 (by decide) (fun h2 => ?_) (fun h2 => ?_)
      · rw [if_neg (by rw [h2]; decide)] at eo
        have key : ∀ (N i : Nat) (st2 : Nat → Int32) (μ2 : MM), i + N = 18 → μ2 y = some (mdO y n pl tk vl bg cl un sn) → μ2 (y + 7) = some (xI Γ 36 kp) → μ2 (y + 2) = some (xI Γ 18 st2) → (∀ q, q ≠ y + 2 → μ2 q = μ q) → (∀ k, k < i → st2 k = stI (K k') k) → vV Γ p l e R s m args below meth c (vQ Γ s args below 0 0 (ri (fun r μ' => r = (opBack S un kf K v1).1 ∧ WM Γ μ' y T (opBack S un kf K v1).2.1 (opBack S un kf K v1).2.2 A kf K n xs sn V ∧ Fr y 10 μ μ'))) 3 0 0 24 [some (.ref (y)), some (.int (nI (k'))), some (.int (nI (i)))] [] (μ2) := by
          intro N
          induction N with
          | zero =>
            intro i st2 μ2 hi g0 g5 g2 gF gB
            have hi2 : i = 18 := by omega
            subst hi2
            refine vV.sub (μ' := mu μ2 (y + 2) (xI Γ 18 (stI (K k')))) (fun H hP => hP.reI g2 (fun j hj => gB j hj)) ?_
            have g0' : mu μ2 (y + 2) (xI Γ 18 (stI (K k'))) y = _ := (mu_ne (by omega)).trans g0
            refine r_iload_n (pc := 24) X dX7_back_24 rfl ?_
            refine r_bipush (pc := 25) (v := nI 18) X dX7_back_25 (by decide) ?_
            refine r_icmp_geN (pc := 27) X 53 dX7_back_27 (by decide) (by omega) (by omega) (fun _ => ?_) (fun h => absurd (Nat.le_refl _) h)
            refine r_aload_n (pc := 53) X dX7_back_53 rfl ?_
            refine r_iconst (pc := 54) (v := nI 0) X dX7_back_54 (by decide) ?_
            first | refine r_putS (pc := 55) X f_X7_117 dX7_back_55 (by first | rfl | assumption | decide | simp [narrow]) (by first | rfl | assumption) (Nat.le_of_ble_eq_true rfl) ?_ | refine r_put (pc := 55) X f_X7_117 dX7_back_55 (by repeat (first | exact mu_self | assumption | refine (mu_ne (by omega)).trans ?_)) (by first | rfl | assumption | decide | simp [narrow]) (by first | rfl | assumption) (Nat.le_of_ble_eq_true rfl) ?_
            refine r_aload_n (pc := 58) X dX7_back_58 rfl ?_
            apply r_get (pc := 59) X f_X7_13 dX7_back_59
            · repeat (first | exact mu_self | assumption | refine (mu_ne (by omega)).trans ?_)
            · rfl
            refine r_iconst (pc := 62) (v := nI 4) X dX7_back_62 (by decide) ?_
            apply r_iald (pc := 63) X dX7_back_63
            · repeat (first | exact mu_self | assumption | refine (mu_ne (by omega)).trans ?_)
            · omega
            · decide
            rw [stI_lo (by omega), eo]
            refine r_iret (pc := 64) X dX7_back_64 ⟨rfl, ⟨pl, tk, vl, bg, cl, rd, ah, kp, mo, mu_self, ?_, (by repeat (first | exact mu_self | assumption | refine (mu_ne (by omega)).trans ?_)), ?_, ?_, ?_, fun i k hi hk => absurd hi (Nat.not_lt_zero _), ?_, ?_, a9, ?_, ?_⟩, fun q hq => (mu_ne (by omega)).trans ((mu_ne (by omega)).trans (gF q (by omega)))⟩
            · exact (mu_ne (by omega)).trans ((mu_ne (by omega)).trans ((gF _ (by omega)).trans a1))
            · exact (mu_ne (by omega)).trans ((mu_ne (by omega)).trans ((gF _ (by omega)).trans a3))
            · exact (mu_ne (by omega)).trans ((mu_ne (by omega)).trans ((gF _ (by omega)).trans a4))
            · exact (mu_ne (by omega)).trans ((mu_ne (by omega)).trans ((gF _ (by omega)).trans a5))
            · exact (mu_ne (by omega)).trans ((mu_ne (by omega)).trans ((gF _ (by omega)).trans a7))
            · exact (mu_ne (by omega)).trans ((mu_ne (by omega)).trans ((gF _ (by omega)).trans a8))
            · exact (mu_ne (by omega)).trans ((mu_ne (by omega)).trans ((gF _ (by omega)).trans a10))
            · exact (mu_ne (by omega)).trans ((mu_ne (by omega)).trans ((gF _ (by omega)).trans a11))
          | succ N ih =>
            intro i st2 μ2 hi g0 g5 g2 gF gB
            refine r_iload_n (pc := 24) X dX7_back_24 rfl ?_
            refine r_bipush (pc := 25) (v := nI 18) X dX7_back_25 (by decide) ?_
            refine r_icmp_geN (pc := 27) X 53 dX7_back_27 (by decide) (by omega) (by omega) (fun h => absurd h (by omega)) (fun _ => ?_)
            refine r_aload_n (pc := 30) X dX7_back_30 rfl ?_
            apply r_get (pc := 31) X f_X7_13 dX7_back_31
            · repeat (first | exact mu_self | assumption | refine (mu_ne (by omega)).trans ?_)
            · rfl
            refine r_iload_n (pc := 34) X dX7_back_34 rfl ?_
            refine r_aload_n (pc := 35) X dX7_back_35 rfl ?_
            apply r_get (pc := 36) X f_X7_29 dX7_back_36
            · repeat (first | exact mu_self | assumption | refine (mu_ne (by omega)).trans ?_)
            · rfl
            refine r_bipush (pc := 39) (v := nI 18) X dX7_back_39 (by decide) ?_
            refine r_iload_n (pc := 41) X dX7_back_41 rfl ?_
            first | refine r_imulN (pc := 42) X dX7_back_42 ?_ | refine r_imul (pc := 42) X dX7_back_42 ?_
            refine r_iload_n (pc := 43) X dX7_back_43 rfl ?_
            first | refine r_iaddN (pc := 44) X dX7_back_44 ?_ | refine r_iadd (pc := 44) X dX7_back_44 ?_
            apply r_iald (pc := 45) X dX7_back_45
            · repeat (first | exact mu_self | assumption | refine (mu_ne (by omega)).trans ?_)
            · omega
            · decide
            apply r_iast (pc := 46) X dX7_back_46
            · repeat (first | exact mu_self | assumption | refine (mu_ne (by omega)).trans ?_)
            · omega
            · decide
            refine r_iincN (pc := 47) (b := 1) X dX7_back_47 rfl (by decide) rfl ?_
            refine r_goto (pc := 50) X 24 dX7_back_50 (by decide) ?_
            refine ih (i + 1) (upd st2 i (kp (18 * k' + i))) _ (by omega) (by repeat (first | exact mu_self | assumption | refine (mu_ne (by omega)).trans ?_)) (by repeat (first | exact mu_self | assumption | refine (mu_ne (by omega)).trans ?_)) mu_self (fun q h1 => (mu_ne h1).trans (gF q h1)) (fun k h1 => ?_)
            unfold upd
            by_cases hk : k = i
            · rw [if_pos hk, hk]; exact a9 k' i (by omega) (by simpa using h2) (by omega)
            · rw [if_neg hk]; exact gB k (by omega)
        refine r_iconst (pc := 22) (v := nI 0) X dX7_back_22 (by decide) ?_
        refine r_istore_n (pc := 23) X dX7_back_23 (by decide) rfl ?_
        exact key 18 0 _ _ (by omega) a0 a8 a2 (fun q h1 => rfl) (fun k hk => by omega)
      · rw [h2, if_pos rfl] at eo
        rw [eo]
        refine r_bipush (pc := 19) (v := -4) X dX7_back_19 (by decide) ?_
        exact r_iret (pc := 21) X dX7_back_21 (⟨rfl, h, Fr.rf⟩)
    have := good (nt v1) (by unfold nt; omega) (by unfold opBack; rw [if_neg (fun q => q h1')])
    rw [← hv] at this
    exact this
  · have h1' : ¬ (0 ≤ v1.toInt ∧ v1.toInt ≤ 1) := by simpa using h1
    have eo : opBack S un kf K v1 = (-2, S, un) := by unfold opBack; rw [if_pos h1']
    rw [eo]
    refine r_bipush (pc := 7) (v := -2) X dX7_back_7 (by decide) ?_
    exact r_iret (pc := 9) X dX7_back_9 (⟨rfl, h, Fr.rf⟩)
theorem t7_keep (h : WM Γ μ y T S un A kf K n xs sn V) (hI : INV T S un A kf K n xs sn V) (v1 : Int32) : CT Γ l 2 sz 0 0 mX7_keep [.ref y, .int v1] μ (ri (fun r μ' => r = (opKeep S kf K v1).1 ∧ WM Γ μ' y T S un A (opKeep S kf K v1).2.1 (opKeep S kf K v1).2.2 n xs sn V ∧ Fr y 10 μ μ')) := by
  obtain ⟨pl, tk, vl, bg, cl, rd, ah, kp, mo, a0, a1, a2, a3, a4, a5, a6, a7, a8, a9, a10, a11⟩ := id h
  obtain ⟨i1, i2, i3, i4, i5, i6, i7, i8, i9⟩ := id hI
  obtain ⟨t1, t2, t3, t4, t5, t6, t7, t8, t9, t10, t11⟩ := id i1
  obtain ⟨z1, z2, z3, z4, z5, z6, z7, z8, z9⟩ := id i2
  refine CT.go RX7 rfl "keep" rfl [some (.ref y), some (.int v1), none] rfl (by decide) (Nat.le_of_ble_eq_true rfl) ?_
  intro p e R s m args below meth c X hsz
  refine r_iload_n (pc := 0) X dX7_keep_0 rfl ?_
  refine c_i X (rS (pc := 1) X l_X7_169 (t7_isWhat v1) dX7_keep_1 rfl rfl (Nat.le_of_ble_eq_true rfl) (by decide) (Nat.le_of_ble_eq_true rfl) (Nat.le_of_ble_eq_true rfl)) ?_
  rintro _ μq ⟨rfl, hμq⟩
  rw [hμq]
  clear hμq μq
  first | refine r_if_neZ (pc := 4) X 10 dX7_keep_4 (by decide) (fun h1 => ?_) (fun h1 => ?_) | refine r_if_neN (pc := 4) X 10 dX7_keep_4 (by decide) (by omega) (fun h1 => ?_) (fun h1 => ?_) | refine r_if_ne (pc := 4) X 10 dX7_keep_4 (by decide) (fun h1 => ?_) (fun h1 => ?_)
  · have h1' : 0 ≤ v1.toInt ∧ v1.toInt ≤ 1 := by simpa using h1
    have hv := nt_nI h1'.1
    have good : ∀ k' : Nat, k' < 2 → opKeep S kf K v1 = (nI (S 4), (fun i => if i = k' then true else kf i), (fun i => if i = k' then S else K i)) → vV Γ p l e R s m args below meth c (vQ Γ s args below 0 0 (ri (fun r μ' => r = (opKeep S kf K v1).1 ∧ WM Γ μ' y T S un A (opKeep S kf K v1).2.1 (opKeep S kf K v1).2.2 n xs sn V ∧ Fr y 10 μ μ'))) 3 0 0 10 [some (.ref (y)), some (.int (nI (k'))), none] [] (μ) := by
      intro k' hl eo
      refine r_iconst (pc := 10) (v := nI 0) X dX7_keep_10 (by decide) ?_
      refine r_istore_n (pc := 11) X dX7_keep_11 (by decide) rfl ?_
      have key : ∀ (N i : Nat) (kp2 : Nat → Int32) (μ2 : MM), i + N = 18 → μ2 y = some (mdO y n pl tk vl bg cl un sn) → μ2 (y + 2) = some (xI Γ 18 (stI S)) → μ2 (y + 6) = some (xZ Γ 2 (fun i => zb (kf i))) → μ2 (y + 7) = some (xI Γ 36 kp2) → (∀ q, q ≠ y + 7 → μ2 q = μ q) → (∀ j k, j < 2 → j ≠ k' → k < 18 → kp2 (18 * j + k) = kp (18 * j + k)) → (∀ k, k < i → kp2 (18 * k' + k) = stI S k) → vV Γ p l e R s m args below meth c (vQ Γ s args below 0 0 (ri (fun r μ' => r = (opKeep S kf K v1).1 ∧ WM Γ μ' y T S un A (opKeep S kf K v1).2.1 (opKeep S kf K v1).2.2 n xs sn V ∧ Fr y 10 μ μ'))) 3 0 0 12 [some (.ref (y)), some (.int (nI (k'))), some (.int (nI (i)))] [] (μ2) := by
        intro N
        induction N with
        | zero =>
          intro i kp2 μ2 hi g0 g2 g6 g7 gF gA gB
          have hi2 : i = 18 := by omega
          subst hi2
          refine r_iload_n (pc := 12) X dX7_keep_12 rfl ?_
          refine r_bipush (pc := 13) (v := nI 18) X dX7_keep_13 (by decide) ?_
          refine r_icmp_geN (pc := 15) X 41 dX7_keep_15 (by decide) (by omega) (by omega) (fun _ => ?_) (fun h => absurd (Nat.le_refl _) h)
          refine r_aload_n (pc := 41) X dX7_keep_41 rfl ?_
          apply r_get (pc := 42) X f_X7_25 dX7_keep_42
          · repeat (first | exact mu_self | assumption | refine (mu_ne (by omega)).trans ?_)
          · rfl
          refine r_iload_n (pc := 45) X dX7_keep_45 rfl ?_
          refine r_iconst (pc := 46) (v := nI 1) X dX7_keep_46 (by decide) ?_
          apply r_zast (pc := 47) X dX7_keep_47
          · first | rfl | decide
          · repeat (first | exact mu_self | assumption | refine (mu_ne (by omega)).trans ?_)
          · omega
          · decide
          have ez : upd (fun i => zb (kf i)) k' (nI 1) = fun i => zb (if i = k' then true else kf i) := by
            funext j
            unfold upd
            by_cases hj : j = k'
            · rw [if_pos hj, if_pos hj]; rfl
            · rw [if_neg hj, if_neg hj]
          rw [ez]
          refine r_aload_n (pc := 48) X dX7_keep_48 rfl ?_
          apply r_get (pc := 49) X f_X7_13 dX7_keep_49
          · repeat (first | exact mu_self | assumption | refine (mu_ne (by omega)).trans ?_)
          · rfl
          refine r_iconst (pc := 52) (v := nI 4) X dX7_keep_52 (by decide) ?_
          apply r_iald (pc := 53) X dX7_keep_53
          · repeat (first | exact mu_self | assumption | refine (mu_ne (by omega)).trans ?_)
          · omega
          · decide
          rw [stI_lo (by omega), eo]
          refine r_iret (pc := 54) X dX7_keep_54 ⟨rfl, ⟨pl, tk, vl, bg, cl, rd, ah, kp2, mo, (by repeat (first | exact mu_self | assumption | refine (mu_ne (by omega)).trans ?_)), ?_, (by repeat (first | exact mu_self | assumption | refine (mu_ne (by omega)).trans ?_)), ?_, ?_, ?_, a6, mu_self, (by repeat (first | exact mu_self | assumption | refine (mu_ne (by omega)).trans ?_)), fun j k hj hf hk => ?_, ?_, ?_⟩, fun q hq => (mu_ne (by omega)).trans (gF q (by omega))⟩
          · exact (mu_ne (by omega)).trans ((gF _ (by omega)).trans a1)
          · exact (mu_ne (by omega)).trans ((gF _ (by omega)).trans a3)
          · exact (mu_ne (by omega)).trans ((gF _ (by omega)).trans a4)
          · exact (mu_ne (by omega)).trans ((gF _ (by omega)).trans a5)
          · have hf2 : (if j = k' then true else kf j) = true := hf
            show kp2 (18 * j + k) = stI (if j = k' then S else K j) k
            by_cases hj2 : j = k'
            · subst hj2; rw [if_pos rfl]; exact gB k hk
            · rw [if_neg hj2] at hf2 ⊢; rw [gA j k hj hj2 hk]; exact a9 j k hj hf2 hk
          · exact (mu_ne (by omega)).trans ((gF _ (by omega)).trans a10)
          · exact (mu_ne (by omega)).trans ((gF _ (by omega)).trans a11)
        | succ N ih =>
          intro i kp2 μ2 hi g0 g2 g6 g7 gF gA gB
          refine r_iload_n (pc := 12) X dX7_keep_12 rfl ?_
          refine r_bipush (pc := 13) (v := nI 18) X dX7_keep_13 (by decide) ?_
          refine r_icmp_geN (pc := 15) X 41 dX7_keep_15 (by decide) (by omega) (by omega) (fun h => absurd h (by omega)) (fun _ => ?_)
          refine r_aload_n (pc := 18) X dX7_keep_18 rfl ?_
          apply r_get (pc := 19) X f_X7_29 dX7_keep_19
          · repeat (first | exact mu_self | assumption | refine (mu_ne (by omega)).trans ?_)
          · rfl
          refine r_bipush (pc := 22) (v := nI 18) X dX7_keep_22 (by decide) ?_
          refine r_iload_n (pc := 24) X dX7_keep_24 rfl ?_
          first | refine r_imulN (pc := 25) X dX7_keep_25 ?_ | refine r_imul (pc := 25) X dX7_keep_25 ?_
          refine r_iload_n (pc := 26) X dX7_keep_26 rfl ?_
          first | refine r_iaddN (pc := 27) X dX7_keep_27 ?_ | refine r_iadd (pc := 27) X dX7_keep_27 ?_
          refine r_aload_n (pc := 28) X dX7_keep_28 rfl ?_
          apply r_get (pc := 29) X f_X7_13 dX7_keep_29
          · repeat (first | exact mu_self | assumption | refine (mu_ne (by omega)).trans ?_)
          · rfl
          refine r_iload_n (pc := 32) X dX7_keep_32 rfl ?_
          apply r_iald (pc := 33) X dX7_keep_33
          · repeat (first | exact mu_self | assumption | refine (mu_ne (by omega)).trans ?_)
          · omega
          · decide
          apply r_iast (pc := 34) X dX7_keep_34
          · repeat (first | exact mu_self | assumption | refine (mu_ne (by omega)).trans ?_)
          · omega
          · decide
          refine r_iincN (pc := 35) (b := 1) X dX7_keep_35 rfl (by decide) rfl ?_
          refine r_goto (pc := 38) X 12 dX7_keep_38 (by decide) ?_
          refine ih (i + 1) (upd kp2 (18 * k' + i) (stI S i)) _ (by omega) (by repeat (first | exact mu_self | assumption | refine (mu_ne (by omega)).trans ?_)) (by repeat (first | exact mu_self | assumption | refine (mu_ne (by omega)).trans ?_)) (by repeat (first | exact mu_self | assumption | refine (mu_ne (by omega)).trans ?_)) mu_self (fun q h1 => (mu_ne h1).trans (gF q h1)) (fun j k h1 h2 h3 => ?_) (fun k h1 => ?_)
          · unfold upd
            rw [if_neg (by omega)]
            exact gA j k h1 h2 h3
          · unfold upd
            by_cases hk : k = i
            · rw [if_pos (by omega), hk]
            · rw [if_neg (by omega)]; exact gB k (by omega)
      exact key 18 0 _ _ (by omega) a0 a2 a7 a8 (fun q h1 => rfl) (fun _ _ _ _ _ => rfl) (fun k hk => by omega)
    have := good (nt v1) (by unfold nt; omega) (by unfold opKeep; rw [if_neg (fun q => q h1')])
    rw [← hv] at this
    exact this
  · have h1' : ¬ (0 ≤ v1.toInt ∧ v1.toInt ≤ 1) := by simpa using h1
    have eo : opKeep S kf K v1 = (-2, kf, K) := by unfold opKeep; rw [if_pos h1']
    rw [eo]
    refine r_bipush (pc := 7) (v := -2) X dX7_keep_7 (by decide) ?_
    exact r_iret (pc := 9) X dX7_keep_9 (⟨rfl, h, Fr.rf⟩)
end S45
