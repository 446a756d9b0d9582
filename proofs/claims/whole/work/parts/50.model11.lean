section S50
variable {Γ : KK} {l : Launch} {sz : Nat} {μ : MM} {y : Nat} {T S : Nat → Nat} {un : Nat} {A : Nat → Nat → Nat} {kf : Nat → Bool} {K : Nat → Nat → Nat} {n : Nat} {xs : Nat → Nat} {sn : Nat} {V : Nat → Nat}
theorem t7_count (h : WM Γ μ y T S un A kf K n xs sn V) (hI : INV T S un A kf K n xs sn V) (v1 : Int32) : CT Γ l 1 sz 0 0 mX7_count [.ref y, .int v1] μ (ri (fun r μ' => r = opCount T S un n sn v1 ∧ μ' = μ)) := by
  obtain ⟨pl, tk, vl, bg, cl, rd, ah, kp, mo, a0, a1, a2, a3, a4, a5, a6, a7, a8, a9, a10, a11⟩ := id h
  obtain ⟨i1, i2, i3, i4, i5, i6, i7, i8, i9⟩ := id hI
  obtain ⟨t1, t2, t3, t4, t5, t6, t7, t8, t9, t10, t11⟩ := id i1
  obtain ⟨z1, z2, z3, z4, z5, z6, z7, z8, z9⟩ := id i2
  refine CT.go RX7 rfl "count" rfl [some (.ref y), some (.int v1)] rfl (by decide) (Nat.le_of_ble_eq_true rfl) ?_
  intro p e R s m args below meth c X hsz
  refine r_iload_n (pc := 0) X dX7_count_0 rfl ?_
  unfold opCount
  by_cases h1 : 0 ≤ v1.toInt ∧ v1.toInt ≤ 14
  · have hv := nt_nI h1.1
    have hl : nt v1 ≤ 14 := by unfold nt; omega
    rw [if_neg (fun q => q h1)]
    obtain ⟨k', hk⟩ : ∃ k', k' = nt v1 := ⟨_, rfl⟩
    rw [← hk] at hv hl ⊢
    subst hv
    rcases (show k' = 0 ∨ k' = 1 ∨ k' = 2 ∨ k' = 3 ∨ k' = 4 ∨ k' = 5 ∨ k' = 6 ∨ k' = 7 ∨ k' = 8 ∨ k' = 9 ∨ k' = 10 ∨ k' = 11 ∨ k' = 12 ∨ k' = 13 ∨ k' = 14 by omega) with rfl | rfl | rfl | rfl | rfl | rfl | rfl | rfl | rfl | rfl | rfl | rfl | rfl | rfl | rfl
    · refine r_tableIn (pc := 1) X 76 dX7_count_1 (by decide) (by decide) rfl (by decide) ?_
      refine r_aload_n (pc := 76) X dX7_count_76 rfl ?_
      apply r_get (pc := 77) X f_X7_7 dX7_count_77
      · repeat (first | exact mu_self | assumption | refine (mu_ne (by omega)).trans ?_)
      · rfl
      refine r_iconst (pc := 80) (v := nI 0) X dX7_count_80 (by decide) ?_
      apply r_iald (pc := 81) X dX7_count_81
      · repeat (first | exact mu_self | assumption | refine (mu_ne (by omega)).trans ?_)
      · omega
      · decide
      exact r_iret (pc := 82) X dX7_count_82 (⟨rfl, rfl⟩)
    · refine r_tableIn (pc := 1) X 83 dX7_count_1 (by decide) (by decide) rfl (by decide) ?_
      refine r_aload_n (pc := 83) X dX7_count_83 rfl ?_
      apply r_get (pc := 84) X f_X7_7 dX7_count_84
      · repeat (first | exact mu_self | assumption | refine (mu_ne (by omega)).trans ?_)
      · rfl
      refine r_bipush (pc := 87) (v := nI 7) X dX7_count_87 (by decide) ?_
      apply r_iald (pc := 89) X dX7_count_89
      · repeat (first | exact mu_self | assumption | refine (mu_ne (by omega)).trans ?_)
      · omega
      · decide
      exact r_iret (pc := 90) X dX7_count_90 (⟨rfl, rfl⟩)
    · refine r_tableIn (pc := 1) X 91 dX7_count_1 (by decide) (by decide) rfl (by decide) ?_
      refine r_aload_n (pc := 91) X dX7_count_91 rfl ?_
      apply r_get (pc := 92) X f_X7_7 dX7_count_92
      · repeat (first | exact mu_self | assumption | refine (mu_ne (by omega)).trans ?_)
      · rfl
      refine r_bipush (pc := 95) (v := nI 20) X dX7_count_95 (by decide) ?_
      apply r_iald (pc := 97) X dX7_count_97
      · repeat (first | exact mu_self | assumption | refine (mu_ne (by omega)).trans ?_)
      · omega
      · decide
      exact r_iret (pc := 98) X dX7_count_98 (⟨rfl, rfl⟩)
    · refine r_tableIn (pc := 1) X 99 dX7_count_1 (by decide) (by decide) rfl (by decide) ?_
      refine r_aload_n (pc := 99) X dX7_count_99 rfl ?_
      apply r_get (pc := 100) X f_X7_13 dX7_count_100
      · repeat (first | exact mu_self | assumption | refine (mu_ne (by omega)).trans ?_)
      · rfl
      refine r_iconst (pc := 103) (v := nI 4) X dX7_count_103 (by decide) ?_
      apply r_iald (pc := 104) X dX7_count_104
      · repeat (first | exact mu_self | assumption | refine (mu_ne (by omega)).trans ?_)
      · omega
      · decide
      exact r_iret (pc := 105) X dX7_count_105 (⟨rfl, rfl⟩)
    · refine r_tableIn (pc := 1) X 106 dX7_count_1 (by decide) (by decide) rfl (by decide) ?_
      refine r_aload_n (pc := 106) X dX7_count_106 rfl ?_
      apply r_get (pc := 107) X f_X7_13 dX7_count_107
      · repeat (first | exact mu_self | assumption | refine (mu_ne (by omega)).trans ?_)
      · rfl
      refine r_iconst (pc := 110) (v := nI 0) X dX7_count_110 (by decide) ?_
      apply r_iald (pc := 111) X dX7_count_111
      · repeat (first | exact mu_self | assumption | refine (mu_ne (by omega)).trans ?_)
      · omega
      · decide
      exact r_iret (pc := 112) X dX7_count_112 (⟨rfl, rfl⟩)
    · refine r_tableIn (pc := 1) X 113 dX7_count_1 (by decide) (by decide) rfl (by decide) ?_
      refine r_aload_n (pc := 113) X dX7_count_113 rfl ?_
      apply r_get (pc := 114) X f_X7_13 dX7_count_114
      · repeat (first | exact mu_self | assumption | refine (mu_ne (by omega)).trans ?_)
      · rfl
      refine r_iconst (pc := 117) (v := nI 1) X dX7_count_117 (by decide) ?_
      apply r_iald (pc := 118) X dX7_count_118
      · repeat (first | exact mu_self | assumption | refine (mu_ne (by omega)).trans ?_)
      · omega
      · decide
      exact r_iret (pc := 119) X dX7_count_119 (⟨rfl, rfl⟩)
    · refine r_tableIn (pc := 1) X 120 dX7_count_1 (by decide) (by decide) rfl (by decide) ?_
      refine r_aload_n (pc := 120) X dX7_count_120 rfl ?_
      apply r_get (pc := 121) X f_X7_13 dX7_count_121
      · repeat (first | exact mu_self | assumption | refine (mu_ne (by omega)).trans ?_)
      · rfl
      refine r_iconst (pc := 124) (v := nI 2) X dX7_count_124 (by decide) ?_
      apply r_iald (pc := 125) X dX7_count_125
      · repeat (first | exact mu_self | assumption | refine (mu_ne (by omega)).trans ?_)
      · omega
      · decide
      exact r_iret (pc := 126) X dX7_count_126 (⟨rfl, rfl⟩)
    · refine r_tableIn (pc := 1) X 127 dX7_count_1 (by decide) (by decide) rfl (by decide) ?_
      refine r_aload_n (pc := 127) X dX7_count_127 rfl ?_
      apply r_get (pc := 128) X f_X7_13 dX7_count_128
      · repeat (first | exact mu_self | assumption | refine (mu_ne (by omega)).trans ?_)
      · rfl
      refine r_iconst (pc := 131) (v := nI 3) X dX7_count_131 (by decide) ?_
      apply r_iald (pc := 132) X dX7_count_132
      · repeat (first | exact mu_self | assumption | refine (mu_ne (by omega)).trans ?_)
      · omega
      · decide
      exact r_iret (pc := 133) X dX7_count_133 (⟨rfl, rfl⟩)
    · refine r_tableIn (pc := 1) X 134 dX7_count_1 (by decide) (by decide) rfl (by decide) ?_
      refine r_aload_n (pc := 134) X dX7_count_134 rfl ?_
      refine r_iconst (pc := 135) (v := nI 0) X dX7_count_135 (by decide) ?_
      refine c_i X (rV (pc := 136) (ci := 7) X l_X7_175 (t7_menOf a0 a1 a2 t1 i2 (hh := 0) (by omega)) dX7_count_136 (by repeat (first | exact mu_self | assumption | refine (mu_ne (by omega)).trans ?_)) rfl rfl rfl (Nat.le_of_ble_eq_true rfl) (by decide) (Nat.le_of_ble_eq_true rfl) (Nat.le_of_ble_eq_true rfl)) ?_
      rintro _ μq ⟨rfl, hμq⟩
      rw [hμq]
      clear hμq μq
      exact r_iret (pc := 139) X dX7_count_139 (⟨rfl, rfl⟩)
    · refine r_tableIn (pc := 1) X 140 dX7_count_1 (by decide) (by decide) rfl (by decide) ?_
      refine r_aload_n (pc := 140) X dX7_count_140 rfl ?_
      refine r_iconst (pc := 141) (v := nI 1) X dX7_count_141 (by decide) ?_
      refine c_i X (rV (pc := 142) (ci := 7) X l_X7_175 (t7_menOf a0 a1 a2 t1 i2 (hh := 1) (by omega)) dX7_count_142 (by repeat (first | exact mu_self | assumption | refine (mu_ne (by omega)).trans ?_)) rfl rfl rfl (Nat.le_of_ble_eq_true rfl) (by decide) (Nat.le_of_ble_eq_true rfl) (Nat.le_of_ble_eq_true rfl)) ?_
      rintro _ μq ⟨rfl, hμq⟩
      rw [hμq]
      clear hμq μq
      exact r_iret (pc := 145) X dX7_count_145 (⟨rfl, rfl⟩)
    · refine r_tableIn (pc := 1) X 146 dX7_count_1 (by decide) (by decide) rfl (by decide) ?_
      refine r_aload_n (pc := 146) X dX7_count_146 rfl ?_
      refine r_iconst (pc := 147) (v := nI 2) X dX7_count_147 (by decide) ?_
      refine c_i X (rV (pc := 148) (ci := 7) X l_X7_175 (t7_menOf a0 a1 a2 t1 i2 (hh := 2) (by omega)) dX7_count_148 (by repeat (first | exact mu_self | assumption | refine (mu_ne (by omega)).trans ?_)) rfl rfl rfl (Nat.le_of_ble_eq_true rfl) (by decide) (Nat.le_of_ble_eq_true rfl) (Nat.le_of_ble_eq_true rfl)) ?_
      rintro _ μq ⟨rfl, hμq⟩
      rw [hμq]
      clear hμq μq
      exact r_iret (pc := 151) X dX7_count_151 (⟨rfl, rfl⟩)
    · refine r_tableIn (pc := 1) X 152 dX7_count_1 (by decide) (by decide) rfl (by decide) ?_
      refine r_aload_n (pc := 152) X dX7_count_152 rfl ?_
      apply r_get (pc := 153) X f_X7_13 dX7_count_153
      · repeat (first | exact mu_self | assumption | refine (mu_ne (by omega)).trans ?_)
      · rfl
      refine r_iconst (pc := 156) (v := nI 5) X dX7_count_156 (by decide) ?_
      apply r_iald (pc := 157) X dX7_count_157
      · repeat (first | exact mu_self | assumption | refine (mu_ne (by omega)).trans ?_)
      · omega
      · decide
      exact r_iret (pc := 158) X dX7_count_158 (⟨rfl, rfl⟩)
    · refine r_tableIn (pc := 1) X 159 dX7_count_1 (by decide) (by decide) rfl (by decide) ?_
      refine r_aload_n (pc := 159) X dX7_count_159 rfl ?_
      apply r_get (pc := 160) X f_X7_114 dX7_count_160
      · repeat (first | exact mu_self | assumption | refine (mu_ne (by omega)).trans ?_)
      · rfl
      exact r_iret (pc := 163) X dX7_count_163 (⟨rfl, rfl⟩)
    · refine r_tableIn (pc := 1) X 164 dX7_count_1 (by decide) (by decide) rfl (by decide) ?_
      refine r_aload_n (pc := 164) X dX7_count_164 rfl ?_
      apply r_get (pc := 165) X f_X7_117 dX7_count_165
      · repeat (first | exact mu_self | assumption | refine (mu_ne (by omega)).trans ?_)
      · rfl
      exact r_iret (pc := 168) X dX7_count_168 (⟨rfl, rfl⟩)
    · refine r_tableIn (pc := 1) X 169 dX7_count_1 (by decide) (by decide) rfl (by decide) ?_
      refine r_aload_n (pc := 169) X dX7_count_169 rfl ?_
      apply r_get (pc := 170) X f_X7_51 dX7_count_170
      · repeat (first | exact mu_self | assumption | refine (mu_ne (by omega)).trans ?_)
      · rfl
      exact r_iret (pc := 173) X dX7_count_173 (⟨rfl, rfl⟩)
  · rw [if_pos h1]
    refine r_tableOut (pc := 1) X 174 dX7_count_1 (by omega) (by decide) ?_
    refine r_bipush (pc := 174) (v := -3) X dX7_count_174 (by decide) ?_
    exact r_iret (pc := 176) X dX7_count_176 (⟨rfl, rfl⟩)
theorem t7_strong (h : WM Γ μ y T S un A kf K n xs sn V) (hI : INV T S un A kf K n xs sn V) (v1 v2 : Int32) : CT Γ l 2 sz 0 0 mX7_strong [.ref y, .int v1, .int v2] μ (ri (fun r μ' => r = opStrong T sn V v1 v2 ∧ μ' = μ)) := by
  obtain ⟨pl, tk, vl, bg, cl, rd, ah, kp, mo, a0, a1, a2, a3, a4, a5, a6, a7, a8, a9, a10, a11⟩ := id h
  obtain ⟨i1, i2, i3, i4, i5, i6, i7, i8, i9⟩ := id hI
  obtain ⟨t1, t2, t3, t4, t5, t6, t7, t8, t9, t10, t11⟩ := id i1
  obtain ⟨z1, z2, z3, z4, z5, z6, z7, z8, z9⟩ := id i2
  refine CT.go RX7 rfl "strong" rfl [some (.ref y), some (.int v1), some (.int v2), none, none, none, none, none, none] rfl (by decide) (Nat.le_of_ble_eq_true rfl) ?_
  intro p e R s m args below meth c X hsz
  refine r_aload_n (pc := 0) X dX7_strong_0 rfl ?_
  refine r_iload_n (pc := 1) X dX7_strong_1 rfl ?_
  refine c_i X (rV (pc := 2) (ci := 7) X l_X7_129 (t7_isSheep a0 a1 t2 v1) dX7_strong_2 (by repeat (first | exact mu_self | assumption | refine (mu_ne (by omega)).trans ?_)) rfl rfl rfl (Nat.le_of_ble_eq_true rfl) (by decide) (Nat.le_of_ble_eq_true rfl) (Nat.le_of_ble_eq_true rfl)) ?_
  rintro _ μq ⟨rfl, hμq⟩
  rw [hμq]
  clear hμq μq
  first | refine r_if_neZ (pc := 5) X 11 dX7_strong_5 (by decide) (fun h1 => ?_) (fun h1 => ?_) | refine r_if_neN (pc := 5) X 11 dX7_strong_5 (by decide) (by omega) (fun h1 => ?_) (fun h1 => ?_) | refine r_if_ne (pc := 5) X 11 dX7_strong_5 (by decide) (fun h1 => ?_) (fun h1 => ?_)
  · have h1' : 0 ≤ v1.toInt ∧ v1.toInt < T 7 := by simpa using h1
    have hv := nt_nI h1'.1
    have hl : nt v1 < T 7 := nt_lt h1'.1 h1'.2
    refine r_iload_n (pc := 11) X dX7_strong_11 rfl ?_
    refine c_i X (rS (pc := 12) X l_X7_169 (t7_isWhat v2) dX7_strong_12 rfl rfl (Nat.le_of_ble_eq_true rfl) (by decide) (Nat.le_of_ble_eq_true rfl) (Nat.le_of_ble_eq_true rfl)) ?_
    rintro _ μq ⟨rfl, hμq⟩
    rw [hμq]
    clear hμq μq
    first | refine r_if_neZ (pc := 15) X 21 dX7_strong_15 (by decide) (fun h2 => ?_) (fun h2 => ?_) | refine r_if_neN (pc := 15) X 21 dX7_strong_15 (by decide) (by omega) (fun h2 => ?_) (fun h2 => ?_) | refine r_if_ne (pc := 15) X 21 dX7_strong_15 (by decide) (fun h2 => ?_) (fun h2 => ?_)
    · have h2' : 0 ≤ v2.toInt ∧ v2.toInt ≤ 1 := by simpa using h2
      have good : ∀ w : Nat, w < T 7 → opStrong T sn V v1 v2 = (if v2.toInt = 0 then uI (lfS (wso T V sn w) 20) else uI (gsS (wso T V sn w) 20)) → vV Γ p l e R s m args below meth c (vQ Γ s args below 0 0 (ri (fun r μ' => r = opStrong T sn V v1 v2 ∧ μ' = μ))) 9 0 0 21 [some (.ref (y)), some (.int (nI (w))), some (.int (v2)), none, none, none, none, none, none] [] (μ) := by
        intro w hw eo
        rw [eo]
        have hkd := t5 w (by omega)
        have key : ∀ (N v : Nat), v + N = 20 → vV Γ p l e R s m args below meth c (vQ Γ s args below 0 0 (ri (fun r μ' => r = (if v2.toInt = 0 then uI (lfS (wso T V sn w) 20) else uI (gsS (wso T V sn w) 20)) ∧ μ' = μ))) 9 0 0 29 [some (.ref y), some (.int (nI w)), some (.int v2), some (.int (uI (lfS (wso T V sn w) v))), some (.int (uI (gsS (wso T V sn w) v))), some (.int (nI (v + 1))), none, none, none] [] μ := by
          intro N
          induction N with
          | zero =>
            intro v hv
            have hv2 : v = 20 := by omega
            subst hv2
            refine r_iload (pc := 29) X dX7_strong_29 rfl ?_
            refine r_bipush (pc := 31) (v := nI 20) X dX7_strong_31 (by decide) ?_
            refine r_icmp_gtN (pc := 33) X 186 dX7_strong_33 (by decide) (by omega) (by omega) (fun _ => ?_) (fun h => absurd (show 20 < 20 + 1 by omega) h)
            refine r_iload_n (pc := 186) X dX7_strong_186 rfl ?_
            refine r_if_ne (pc := 187) X 194 dX7_strong_187 (by decide) (fun h6 => ?_) (fun h6 => ?_)
            · have h6' : v2.toInt ≠ 0 := fun q => h6 (Int32.toInt_inj.mp (by rw [q]; decide))
              rw [if_neg h6']
              refine r_iload (pc := 194) X dX7_strong_194 rfl ?_
              exact r_iret (pc := 196) X dX7_strong_196 (⟨rfl, rfl⟩)
            · have h6' : v2.toInt = 0 := by rw [h6]; decide
              rw [if_pos h6']
              refine r_iload_n (pc := 190) X dX7_strong_190 rfl ?_
              refine r_goto (pc := 191) X 196 dX7_strong_191 (by decide) ?_
              exact r_iret (pc := 196) X dX7_strong_196 (⟨rfl, rfl⟩)
          | succ N ih =>
            intro v hv
            have hbl := brs_le (kd := T (8 + w)) (v := v + 1) (by omega)
            have h8 := ih (v + 1) (by omega)
            have el : lfS (wso T V sn w) (v + 1) = if lfS (wso T V sn w) v = 0 ∧ wso T V sn w (v + 1) = true then v + 2 else lfS (wso T V sn w) v := rfl
            have eg : gsS (wso T V sn w) (v + 1) = if wso T V sn w (v + 1) = true then v + 2 else gsS (wso T V sn w) v := rfl
            have hll := lfS_le (wso T V sn w) v
            have fin : ∀ b8 : List (Option Value), (b8 = [none, none] ∨ ∃ q1 q2, b8 = [q1, q2]) → vV Γ p l e R s m args below meth c (vQ Γ s args below 0 0 (ri (fun r μ' => r = (if v2.toInt = 0 then uI (lfS (wso T V sn w) 20) else uI (gsS (wso T V sn w) 20)) ∧ μ' = μ))) 9 0 0 150 [some (.ref y), some (.int (nI w)), some (.int v2), some (.int (uI (lfS (wso T V sn w) v))), some (.int (uI (gsS (wso T V sn w) v))), some (.int (nI (v + 1))), some (.int (zb (wso T V sn w (v + 1)))), none, none] [] μ := by
              intro _ _
              refine r_iload (pc := 150) X dX7_strong_150 rfl ?_
              first | refine r_if_eqZ (pc := 152) X 164 dX7_strong_152 (by decide) (fun hb => ?_) (fun hb => ?_) | refine r_if_eqN (pc := 152) X 164 dX7_strong_152 (by decide) (by omega) (fun hb => ?_) (fun hb => ?_) | refine r_if_eq (pc := 152) X 164 dX7_strong_152 (by decide) (fun hb => ?_) (fun hb => ?_)
              · rw [hb, if_neg (by simp)] at el eg
                rw [el, eg] at h8
                refine r_iload_n (pc := 164) X dX7_strong_164 rfl ?_
                refine r_istore_n (pc := 165) X dX7_strong_165 (by decide) rfl ?_
                refine r_iload (pc := 166) X dX7_strong_166 rfl ?_
                rw [hb]
                refine r_if_eqZ (pc := 168) X 176 dX7_strong_168 (by decide) (fun _ => ?_) (fun q => absurd q (by decide))
                refine r_iload (pc := 176) X dX7_strong_176 rfl ?_
                refine r_istore (pc := 178) X dX7_strong_178 (by decide) rfl ?_
                refine r_iincN (pc := 180) (b := 1) X dX7_strong_180 rfl (by decide) rfl ?_
                refine r_goto (pc := 183) X 29 dX7_strong_183 (by decide) ?_
                exact vV.loc (fun j v hj => by rcases j with _ | _ | _ | _ | _ | _ | _ | _ | _ | j <;> first | exact hj | (simp at hj)) h8
              · rw [hb] at el eg
                rw [if_pos rfl] at eg
                have rest : vV Γ p l e R s m args below meth c (vQ Γ s args below 0 0 (ri (fun r μ' => r = (if v2.toInt = 0 then uI (lfS (wso T V sn w) 20) else uI (gsS (wso T V sn w) 20)) ∧ μ' = μ))) 9 0 0 166 [some (.ref y), some (.int (nI w)), some (.int v2), some (.int (uI (lfS (wso T V sn w) (v + 1)))), some (.int (uI (gsS (wso T V sn w) v))), some (.int (nI (v + 1))), some (.int (zb true)), none, none] [] μ := by
                  rw [eg, uI_S] at h8
                  refine r_iload (pc := 166) X dX7_strong_166 rfl ?_
                  refine r_if_eqZ (pc := 168) X 176 dX7_strong_168 (by decide) (fun q => absurd q (by decide)) (fun _ => ?_)
                  refine r_iload (pc := 171) X dX7_strong_171 rfl ?_
                  refine r_goto (pc := 173) X 178 dX7_strong_173 (by decide) ?_
                  refine r_istore (pc := 178) X dX7_strong_178 (by decide) rfl ?_
                  refine r_iincN (pc := 180) (b := 1) X dX7_strong_180 rfl (by decide) rfl ?_
                  refine r_goto (pc := 183) X 29 dX7_strong_183 (by decide) ?_
                  exact vV.loc (fun j v hj => by rcases j with _ | _ | _ | _ | _ | _ | _ | _ | _ | j <;> first | exact hj | (simp at hj)) h8
                rw [hb]
                refine r_iload_n (pc := 155) X dX7_strong_155 rfl ?_
                refine r_if_ge (pc := 156) X 164 dX7_strong_156 (by decide) (fun hc => ?_) (fun hc => ?_)
                · have hne : lfS (wso T V sn w) v ≠ 0 := by
                    intro q
                    rw [q, uI_0] at hc
                    exact absurd hc (by decide)
                  rw [if_neg (fun q => hne q.1)] at el
                  rw [el] at rest
                  refine r_iload_n (pc := 164) X dX7_strong_164 rfl ?_
                  refine r_istore_n (pc := 165) X dX7_strong_165 (by decide) rfl ?_
                  exact rest
                · have he : lfS (wso T V sn w) v = 0 := by
                    rcases Nat.eq_zero_or_pos (lfS (wso T V sn w) v) with q | q
                    · exact q
                    · refine absurd ?_ hc
                      rw [show lfS (wso T V sn w) v = (lfS (wso T V sn w) v - 1) + 1 by omega, uI_S]
                      exact (nI_le_iff (by omega) (by omega)).mpr (by omega)
                  rw [if_pos ⟨he, rfl⟩] at el
                  rw [el, uI_S] at rest
                  refine r_iload (pc := 159) X dX7_strong_159 rfl ?_
                  refine r_goto (pc := 161) X 165 dX7_strong_161 (by decide) ?_
                  refine r_istore_n (pc := 165) X dX7_strong_165 (by decide) rfl ?_
                  exact rest
            have inner : ∀ (M i : Nat), i + M = sn → vV Γ p l e R s m args below meth c (vQ Γ s args below 0 0 (ri (fun r μ' => r = (if v2.toInt = 0 then uI (lfS (wso T V sn w) 20) else uI (gsS (wso T V sn w) 20)) ∧ μ' = μ))) 9 0 0 42 [some (.ref y), some (.int (nI w)), some (.int v2), some (.int (uI (lfS (wso T V sn w) v))), some (.int (uI (gsS (wso T V sn w) v))), some (.int (nI (v + 1))), some (.int (zb (alln i (wsP T V w (v + 1))))), some (.int (nI i)), none] [] μ := by
              intro M
              induction M with
              | zero =>
                intro i hi
                have hi2 : i = sn := by omega
                subst hi2
                refine r_iload (pc := 42) X dX7_strong_42 rfl ?_
                refine r_aload_n (pc := 44) X dX7_strong_44 rfl ?_
                apply r_get (pc := 45) X f_X7_114 dX7_strong_45
                · repeat (first | exact mu_self | assumption | refine (mu_ne (by omega)).trans ?_)
                · rfl
                refine r_icmp_geN (pc := 48) X 150 dX7_strong_48 (by decide) (by omega) (by omega) (fun _ => ?_) (fun h => absurd (Nat.le_refl _) h)
                exact vV.loc (fun j v hj => by rcases j with _ | _ | _ | _ | _ | _ | _ | _ | _ | j <;> first | exact hj | (simp at hj)) (fin [none, none] (Or.inl rfl))
              | succ M im =>
                intro i hi
                obtain ⟨u1, u2, u3⟩ := i9 i (by omega)
                have hwt := t4 (V (3 * i)) (by omega)
                have h9 := im (i + 1) (by omega)
                have ea : alln (i + 1) (wsP T V w (v + 1)) = (alln i (wsP T V w (v + 1)) && wsP T V w (v + 1) i) := rfl
                refine r_iload (pc := 42) X dX7_strong_42 rfl ?_
                refine r_aload_n (pc := 44) X dX7_strong_44 rfl ?_
                apply r_get (pc := 45) X f_X7_114 dX7_strong_45
                · repeat (first | exact mu_self | assumption | refine (mu_ne (by omega)).trans ?_)
                · rfl
                refine r_icmp_geN (pc := 48) X 150 dX7_strong_48 (by decide) (by omega) (by omega) (fun h => absurd h (by omega)) (fun _ => ?_)
                refine r_aload_n (pc := 51) X dX7_strong_51 rfl ?_
                refine r_aload_n (pc := 52) X dX7_strong_52 rfl ?_
                apply r_get (pc := 53) X f_X7_7 dX7_strong_53
                · repeat (first | exact mu_self | assumption | refine (mu_ne (by omega)).trans ?_)
                · rfl
                refine r_bipush (pc := 56) (v := nI 8) X dX7_strong_56 (by decide) ?_
                refine r_iload_n (pc := 58) X dX7_strong_58 rfl ?_
                first | refine r_iaddN (pc := 59) X dX7_strong_59 ?_ | refine r_iadd (pc := 59) X dX7_strong_59 ?_
                apply r_iald (pc := 60) X dX7_strong_60
                · repeat (first | exact mu_self | assumption | refine (mu_ne (by omega)).trans ?_)
                · omega
                · decide
                refine r_iload (pc := 61) X dX7_strong_61 rfl ?_
                refine c_i X (rV (pc := 63) (ci := 7) X l_X7_120 (t7_bearsBy (kd := T (8 + w)) (st' := v + 1) hkd (by omega)) dX7_strong_63 (by repeat (first | exact mu_self | assumption | refine (mu_ne (by omega)).trans ?_)) rfl rfl rfl (Nat.le_of_ble_eq_true rfl) (by decide) (Nat.le_of_ble_eq_true rfl) (Nat.le_of_ble_eq_true rfl)) ?_
                rintro _ μq ⟨rfl, hμq⟩
                rw [hμq]
                clear hμq μq
                have tail : ∀ b : Bool, alln (i + 1) (wsP T V w (v + 1)) = b → ∀ z : Bool, vV Γ p l e R s m args below meth c (vQ Γ s args below 0 0 (ri (fun r μ' => r = (if v2.toInt = 0 then uI (lfS (wso T V sn w) 20) else uI (gsS (wso T V sn w) 20)) ∧ μ' = μ))) 9 0 0 142 [some (.ref y), some (.int (nI w)), some (.int v2), some (.int (uI (lfS (wso T V sn w) v))), some (.int (uI (gsS (wso T V sn w) v))), some (.int (nI (v + 1))), some (.int (zb (alln i (wsP T V w (v + 1))))), some (.int (nI i)), some (.int (zb z))] [.int (zb b)] μ := by
                  intro b hb z
                  rw [hb] at h9
                  refine r_istore (pc := 142) X dX7_strong_142 (by decide) rfl ?_
                  refine r_iincN (pc := 144) (b := 1) X dX7_strong_144 rfl (by decide) rfl ?_
                  refine r_goto (pc := 147) X 42 dX7_strong_147 (by decide) ?_
                  exact vV.loc (fun j v hj => by rcases j with _ | _ | _ | _ | _ | _ | _ | _ | _ | j <;> first | exact hj | (simp at hj)) h9
                have mid : ∀ z : Bool, decide (T (1 + V (3 * i)) ≤ brs (T (8 + w)) (v + 1)) = z → vV Γ p l e R s m args below meth c (vQ Γ s args below 0 0 (ri (fun r μ' => r = (if v2.toInt = 0 then uI (lfS (wso T V sn w) 20) else uI (gsS (wso T V sn w) 20)) ∧ μ' = μ))) 9 0 0 90 [some (.ref y), some (.int (nI w)), some (.int v2), some (.int (uI (lfS (wso T V sn w) v))), some (.int (uI (gsS (wso T V sn w) v))), some (.int (nI (v + 1))), some (.int (zb (alln i (wsP T V w (v + 1))))), some (.int (nI i)), none] [.int (zb z)] μ := by
                  intro z hz
                  have no : alln (i + 1) (wsP T V w (v + 1)) = false → vV Γ p l e R s m args below meth c (vQ Γ s args below 0 0 (ri (fun r μ' => r = (if v2.toInt = 0 then uI (lfS (wso T V sn w) 20) else uI (gsS (wso T V sn w) 20)) ∧ μ' = μ))) 9 0 0 141 [some (.ref y), some (.int (nI w)), some (.int v2), some (.int (uI (lfS (wso T V sn w) v))), some (.int (uI (gsS (wso T V sn w) v))), some (.int (nI (v + 1))), some (.int (zb (alln i (wsP T V w (v + 1))))), some (.int (nI i)), some (.int (zb z))] [] μ := by
                    intro hq
                    have := tail false hq z
                    rw [zb_f] at this
                    refine r_iconst (pc := 141) (v := nI 0) X dX7_strong_141 (by decide) ?_
                    exact this
                  have yes : alln (i + 1) (wsP T V w (v + 1)) = true → vV Γ p l e R s m args below meth c (vQ Γ s args below 0 0 (ri (fun r μ' => r = (if v2.toInt = 0 then uI (lfS (wso T V sn w) 20) else uI (gsS (wso T V sn w) 20)) ∧ μ' = μ))) 9 0 0 137 [some (.ref y), some (.int (nI w)), some (.int v2), some (.int (uI (lfS (wso T V sn w) v))), some (.int (uI (gsS (wso T V sn w) v))), some (.int (nI (v + 1))), some (.int (zb (alln i (wsP T V w (v + 1))))), some (.int (nI i)), some (.int (zb z))] [] μ := by
                    intro hq
                    have := tail true hq z
                    rw [zb_t] at this
                    refine r_iconst (pc := 137) (v := nI 1) X dX7_strong_137 (by decide) ?_
                    refine r_goto (pc := 138) X 142 dX7_strong_138 (by decide) ?_
                    exact this
                  refine r_istore (pc := 90) X dX7_strong_90 (by decide) rfl ?_
                  refine r_iload (pc := 92) X dX7_strong_92 rfl ?_
                  first | refine r_if_eqZ (pc := 94) X 141 dX7_strong_94 (by decide) (fun hc => ?_) (fun hc => ?_) | refine r_if_eqN (pc := 94) X 141 dX7_strong_94 (by decide) (by omega) (fun hc => ?_) (fun hc => ?_) | refine r_if_eq (pc := 94) X 141 dX7_strong_94 (by decide) (fun hc => ?_) (fun hc => ?_)
                  · exact no (by rw [ea, hc]; rfl)
                  · refine r_aload_n (pc := 97) X dX7_strong_97 rfl ?_
                    apply r_get (pc := 98) X f_X7_35 dX7_strong_98
                    · repeat (first | exact mu_self | assumption | refine (mu_ne (by omega)).trans ?_)
                    · rfl
                    refine r_iconst (pc := 101) (v := nI 3) X dX7_strong_101 (by decide) ?_
                    refine r_iload (pc := 102) X dX7_strong_102 rfl ?_
                    first | refine r_imulN (pc := 104) X dX7_strong_104 ?_ | refine r_imul (pc := 104) X dX7_strong_104 ?_
                    refine r_iconst (pc := 105) (v := nI 1) X dX7_strong_105 (by decide) ?_
                    first | refine r_iaddN (pc := 106) X dX7_strong_106 ?_ | refine r_iadd (pc := 106) X dX7_strong_106 ?_
                    apply r_iald (pc := 107) X dX7_strong_107
                    · repeat (first | exact mu_self | assumption | refine (mu_ne (by omega)).trans ?_)
                    · omega
                    · decide
                    refine r_iload_n (pc := 108) X dX7_strong_108 rfl ?_
                    first | refine r_icmp_neN (pc := 109) X 137 dX7_strong_109 (by decide) (by omega) (by omega) (fun hd => ?_) (fun hd => ?_) | refine r_icmp_ne (pc := 109) X 137 dX7_strong_109 (by decide) (fun hd => ?_) (fun hd => ?_)
                    · exact yes (by rw [ea, hc]; unfold wsP; simp [hd])
                    · refine r_iload (pc := 112) X dX7_strong_112 rfl ?_
                      refine r_aload_n (pc := 114) X dX7_strong_114 rfl ?_
                      apply r_get (pc := 115) X f_X7_35 dX7_strong_115
                      · repeat (first | exact mu_self | assumption | refine (mu_ne (by omega)).trans ?_)
                      · rfl
                      refine r_iconst (pc := 118) (v := nI 3) X dX7_strong_118 (by decide) ?_
                      refine r_iload (pc := 119) X dX7_strong_119 rfl ?_
                      first | refine r_imulN (pc := 121) X dX7_strong_121 ?_ | refine r_imul (pc := 121) X dX7_strong_121 ?_
                      refine r_iconst (pc := 122) (v := nI 2) X dX7_strong_122 (by decide) ?_
                      first | refine r_iaddN (pc := 123) X dX7_strong_123 ?_ | refine r_iadd (pc := 123) X dX7_strong_123 ?_
                      apply r_iald (pc := 124) X dX7_strong_124
                      · repeat (first | exact mu_self | assumption | refine (mu_ne (by omega)).trans ?_)
                      · omega
                      · decide
                      refine r_iconst (pc := 125) (v := nI 1) X dX7_strong_125 (by decide) ?_
                      have cmp : ∀ z2 : Bool, (V (3 * i + 2) == 1) = z2 → vV Γ p l e R s m args below meth c (vQ Γ s args below 0 0 (ri (fun r μ' => r = (if v2.toInt = 0 then uI (lfS (wso T V sn w) 20) else uI (gsS (wso T V sn w) 20)) ∧ μ' = μ))) 9 0 0 134 [some (.ref y), some (.int (nI w)), some (.int v2), some (.int (uI (lfS (wso T V sn w) v))), some (.int (uI (gsS (wso T V sn w) v))), some (.int (nI (v + 1))), some (.int (zb (alln i (wsP T V w (v + 1))))), some (.int (nI i)), some (.int (zb z))] [.int (zb z2), .int (zb z)] μ := by
                        intro z2 hz2
                        have ep : wsP T V w (v + 1) i = (z == z2) := by unfold wsP; rw [hz, hz2]; simp [hd]
                        refine r_icmp_ne (pc := 134) X 141 dX7_strong_134 (by decide) (fun hf => ?_) (fun hf => ?_)
                        · exact no (by
                            rw [ea, hc, ep]
                            cases z <;> cases z2 <;> first | rfl | exact absurd rfl hf)
                        · exact yes (by
                            rw [ea, hc, ep]
                            cases z <;> cases z2 <;> first | rfl | exact absurd hf (by decide))
                      first | refine r_icmp_neN (pc := 126) X 133 dX7_strong_126 (by decide) (by omega) (by omega) (fun he => ?_) (fun he => ?_) | refine r_icmp_ne (pc := 126) X 133 dX7_strong_126 (by decide) (fun he => ?_) (fun he => ?_)
                      · have := cmp false (by simpa using he)
                        rw [zb_f] at this
                        refine r_iconst (pc := 133) (v := nI 0) X dX7_strong_133 (by decide) ?_
                        exact this
                      · have := cmp true (by simpa using he)
                        rw [zb_t] at this
                        refine r_iconst (pc := 129) (v := nI 1) X dX7_strong_129 (by decide) ?_
                        refine r_goto (pc := 130) X 134 dX7_strong_130 (by decide) ?_
                        exact this
                refine r_aload_n (pc := 66) X dX7_strong_66 rfl ?_
                apply r_get (pc := 67) X f_X7_7 dX7_strong_67
                · repeat (first | exact mu_self | assumption | refine (mu_ne (by omega)).trans ?_)
                · rfl
                refine r_iconst (pc := 70) (v := nI 1) X dX7_strong_70 (by decide) ?_
                refine r_aload_n (pc := 71) X dX7_strong_71 rfl ?_
                apply r_get (pc := 72) X f_X7_35 dX7_strong_72
                · repeat (first | exact mu_self | assumption | refine (mu_ne (by omega)).trans ?_)
                · rfl
                refine r_iconst (pc := 75) (v := nI 3) X dX7_strong_75 (by decide) ?_
                refine r_iload (pc := 76) X dX7_strong_76 rfl ?_
                first | refine r_imulN (pc := 78) X dX7_strong_78 ?_ | refine r_imul (pc := 78) X dX7_strong_78 ?_
                apply r_iald (pc := 79) X dX7_strong_79
                · repeat (first | exact mu_self | assumption | refine (mu_ne (by omega)).trans ?_)
                · omega
                · decide
                first | refine r_iaddN (pc := 80) X dX7_strong_80 ?_ | refine r_iadd (pc := 80) X dX7_strong_80 ?_
                apply r_iald (pc := 81) X dX7_strong_81
                · repeat (first | exact mu_self | assumption | refine (mu_ne (by omega)).trans ?_)
                · omega
                · decide
                first | refine r_icmp_ltN (pc := 82) X 89 dX7_strong_82 (by decide) (by omega) (by omega) (fun hg => ?_) (fun hg => ?_) | refine r_icmp_lt (pc := 82) X 89 dX7_strong_82 (by decide) (fun hg => ?_) (fun hg => ?_)
                · have := mid false (by simpa using hg)
                  rw [zb_f] at this
                  refine r_iconst (pc := 89) (v := nI 0) X dX7_strong_89 (by decide) ?_
                  exact this
                · have := mid true (by simpa using hg)
                  rw [zb_t] at this
                  refine r_iconst (pc := 85) (v := nI 1) X dX7_strong_85 (by decide) ?_
                  refine r_goto (pc := 86) X 90 dX7_strong_86 (by decide) ?_
                  exact this
            refine r_iload (pc := 29) X dX7_strong_29 rfl ?_
            refine r_bipush (pc := 31) (v := nI 20) X dX7_strong_31 (by decide) ?_
            refine r_icmp_gtN (pc := 33) X 186 dX7_strong_33 (by decide) (by omega) (by omega) (fun h => absurd h (by omega)) (fun _ => ?_)
            refine r_iconst (pc := 36) (v := nI 1) X dX7_strong_36 (by decide) ?_
            refine r_istore (pc := 37) X dX7_strong_37 (by decide) rfl ?_
            refine r_iconst (pc := 39) (v := nI 0) X dX7_strong_39 (by decide) ?_
            refine r_istore (pc := 40) X dX7_strong_40 (by decide) rfl ?_
            exact inner sn 0 (by omega)
        have hq := key 20 0 (by omega)
        rw [show lfS (wso T V sn w) 0 = 0 from rfl, show gsS (wso T V sn w) 0 = 0 from rfl, uI_0] at hq
        refine r_iconst (pc := 21) (v := -1) X dX7_strong_21 (by decide) ?_
        refine r_istore_n (pc := 22) X dX7_strong_22 (by decide) rfl ?_
        refine r_iconst (pc := 23) (v := -1) X dX7_strong_23 (by decide) ?_
        refine r_istore (pc := 24) X dX7_strong_24 (by decide) rfl ?_
        refine r_iconst (pc := 26) (v := nI 1) X dX7_strong_26 (by decide) ?_
        refine r_istore (pc := 27) X dX7_strong_27 (by decide) rfl ?_
        exact hq
      have hq := good (nt v1) hl (by unfold opStrong; rw [if_neg (fun q => q h1')]; by_cases q0 : v2.toInt = 0
                                     · rw [if_pos q0, if_pos q0]
                                     · rw [if_neg q0, if_neg q0, if_pos (by omega)])
      rw [← hv] at hq
      exact hq
    · have h2' : ¬ (0 ≤ v2.toInt ∧ v2.toInt ≤ 1) := by simpa using h2
      have eo : opStrong T sn V v1 v2 = -3 := by unfold opStrong; rw [if_neg (fun q => q h1'), if_neg (by omega), if_neg (by omega)]
      rw [eo]
      refine r_bipush (pc := 18) (v := -3) X dX7_strong_18 (by decide) ?_
      exact r_iret (pc := 20) X dX7_strong_20 (⟨rfl, rfl⟩)
  · have h1' : ¬ (0 ≤ v1.toInt ∧ v1.toInt < T 7) := by simpa using h1
    have eo : opStrong T sn V v1 v2 = -2 := by unfold opStrong; rw [if_pos h1']
    rw [eo]
    refine r_bipush (pc := 8) (v := -2) X dX7_strong_8 (by decide) ?_
    exact r_iret (pc := 10) X dX7_strong_10 (⟨rfl, rfl⟩)
end S50
