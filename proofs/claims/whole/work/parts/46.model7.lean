section S46
variable {Γ : KK} {l : Launch} {sz : Nat} {μ : MM} {y : Nat} {T S : Nat → Nat} {un : Nat} {A : Nat → Nat → Nat} {kf : Nat → Bool} {K : Nat → Nat → Nat} {n : Nat} {xs : Nat → Nat} {sn : Nat} {V : Nat → Nat}
/-- the first i men looked at in the morning -/
def morI (T S : Nat → Nat) (i : Nat) : Nat → Nat := fun k => if k = 5 then gnS T S i else if 6 ≤ k ∧ k < 6 + i ∧ S (6 + k) ≠ 0 then (if mornP T S (k - 6) = true then 1 else 2) else if 12 ≤ k ∧ k < 12 + i then 0 else S k
theorem morI_0 (T S : Nat → Nat) : morI T S 0 = S := by
  funext k
  unfold morI
  rw [if_neg (fun q => by omega : ¬ (6 ≤ k ∧ k < 6 + 0 ∧ S (6 + k) ≠ 0)), if_neg (by omega : ¬ (12 ≤ k ∧ k < 12 + 0))]
  by_cases h : k = 5
  · rw [if_pos h, h]; rfl
  · rw [if_neg h]
theorem mornP_0 {T S : Nat → Nat} {i : Nat} (h : S (12 + i) = 0) : mornP T S i = false := by unfold mornP; simp [h]
theorem morI_n {T S : Nat → Nat} {i : Nat} (hi : i < 6) (h : S (12 + i) = 0) : morI T S (i + 1) = morI T S i := by
  funext k
  have hg : gnS T S (i + 1) = gnS T S i := by
    show (if mornP T S i = true then _ else gnS T S i) = gnS T S i
    rw [mornP_0 h]; rfl
  unfold morI
  rw [hg]
  by_cases h5 : k = 5
  · rw [if_pos h5, if_pos h5]
  · rw [if_neg h5, if_neg h5]
    by_cases h1 : k = 6 + i
    · subst h1
      rw [if_neg (fun q => q.2.2 (by rw [show 6 + (6 + i) = 12 + i by omega]; exact h)), if_neg (fun q => by omega), if_neg (by omega), if_neg (by omega)]
    · by_cases h2 : k = 12 + i
      · subst h2
        rw [if_neg (fun q => by omega), if_pos (by omega), if_neg (fun q => by omega), if_neg (by omega), h]
      · have e1 : (6 ≤ k ∧ k < 6 + (i + 1) ∧ S (6 + k) ≠ 0) = (6 ≤ k ∧ k < 6 + i ∧ S (6 + k) ≠ 0) := propext ⟨fun q => ⟨q.1, by omega, q.2.2⟩, fun q => ⟨q.1, by omega, q.2.2⟩⟩
        have e2 : (12 ≤ k ∧ k < 12 + (i + 1)) = (12 ≤ k ∧ k < 12 + i) := propext (by omega)
        simp only [e1, e2]
theorem morI_y {T S : Nat → Nat} {i w : Nat} (hi : i < 6) (h : S (12 + i) = w + 1) : morI T S (i + 1) = upN (upN (upN (morI T S i) (6 + i) (if mornP T S i = true then 1 else 2)) 5 (gnS T S i ||| (if mornP T S i = true then 1 <<< w else 0))) (12 + i) 0 := by
  funext k
  have hg : gnS T S (i + 1) = gnS T S i ||| (if mornP T S i = true then 1 <<< w else 0) := by
    show (if mornP T S i = true then gnS T S i ||| 1 <<< (S (12 + i) - 1) else gnS T S i) = _
    rw [h]
    by_cases hp : mornP T S i = true
    · rw [if_pos hp, if_pos hp]; rfl
    · rw [if_neg hp, if_neg hp, Nat.or_zero]
  unfold upN
  by_cases h2 : k = 12 + i
  · subst h2
    rw [if_pos rfl]
    unfold morI
    rw [if_neg (by omega), if_neg (fun q => by omega), if_pos (by omega)]
  · rw [if_neg h2]
    by_cases h5 : k = 5
    · rw [if_pos h5]
      unfold morI
      rw [if_pos h5, hg]
    · rw [if_neg h5]
      by_cases h1 : k = 6 + i
      · subst h1
        rw [if_pos rfl]
        unfold morI
        rw [if_neg h5, if_pos ⟨by omega, by omega, by rw [show 6 + (6 + i) = 12 + i by omega, h]; omega⟩, show 6 + i - 6 = i by omega]
      · rw [if_neg h1]
        unfold morI
        have e1 : (6 ≤ k ∧ k < 6 + (i + 1) ∧ S (6 + k) ≠ 0) = (6 ≤ k ∧ k < 6 + i ∧ S (6 + k) ≠ 0) := propext ⟨fun q => ⟨q.1, by omega, q.2.2⟩, fun q => ⟨q.1, by omega, q.2.2⟩⟩
        have e2 : (12 ≤ k ∧ k < 12 + (i + 1)) = (12 ≤ k ∧ k < 12 + i) := propext (by omega)
        rw [if_neg h5, if_neg h5]
        simp only [e1, e2]
theorem morI_men {T S : Nat → Nat} (hI : IS T S) (h6 : T 0 ≤ 6) : morI T S (T 0) = morS T S ∧ mkb (T 0) (mornP T S) = mkb 6 (mornP T S) := by
  have key : ∀ (d i : Nat), i + d = 6 → T 0 ≤ i → morI T S i = morI T S 6 ∧ mkb i (mornP T S) = mkb 6 (mornP T S) := by
    intro d
    induction d with
    | zero => intro i hi _; rw [show i = 6 by omega]; exact ⟨rfl, rfl⟩
    | succ d ih =>
      intro i hi hm
      have h0 : S (12 + i) = 0 := by
        by_cases q : S (12 + i) = 0
        · exact q
        · have := hI.2.2.2.2.2.2.2.1 i (by omega) q; omega
      have := ih (i + 1) (by omega) (by omega)
      rw [morI_n (by omega) h0, mkb_succ, mornP_0 h0] at this
      simpa using this
  have := key (6 - T 0) (T 0) (by omega) (Nat.le_refl _)
  exact ⟨this.1, this.2⟩
theorem t7_morning (h : WM Γ μ y T S un A kf K n xs sn V) (hI : INV T S un A kf K n xs sn V) : CT Γ l 2 sz 0 0 mX7_morning [.ref y] μ (ri (fun r μ' => r = (opMorning T S un A).1 ∧ WM Γ μ' y T (opMorning T S un A).2.1 (opMorning T S un A).2.2.1 (opMorning T S un A).2.2.2 kf K n xs sn V ∧ Fr y 10 μ μ')) := by
  obtain ⟨pl, tk, vl, bg, cl, rd, ah, kp, mo, a0, a1, a2, a3, a4, a5, a6, a7, a8, a9, a10, a11⟩ := id h
  obtain ⟨i1, i2, i3, i4, i5, i6, i7, i8, i9⟩ := id hI
  obtain ⟨t1, t2, t3, t4, t5, t6, t7, t8, t9, t10, t11⟩ := id i1
  obtain ⟨z1, z2, z3, z4, z5, z6, z7, z8, z9⟩ := id i2
  refine CT.go RX7 rfl "morning" rfl [some (.ref y), none, none, none, none] rfl (by decide) (Nat.le_of_ble_eq_true rfl) ?_
  intro p e R s m args below meth c X hsz
  refine r_aload_n (pc := 0) X dX7_morning_0 rfl ?_
  apply r_get (pc := 1) X f_X7_13 dX7_morning_1
  · repeat (first | exact mu_self | assumption | refine (mu_ne (by omega)).trans ?_)
  · rfl
  refine r_iconst (pc := 4) (v := nI 3) X dX7_morning_4 (by decide) ?_
  apply r_iald (pc := 5) X dX7_morning_5
  · repeat (first | exact mu_self | assumption | refine (mu_ne (by omega)).trans ?_)
  · omega
  · decide
  rw [stI_lo (by omega)]
  first | refine r_if_neZ (pc := 6) X 12 dX7_morning_6 (by decide) (fun h1 => ?_) (fun h1 => ?_) | refine r_if_neN (pc := 6) X 12 dX7_morning_6 (by decide) (by omega) (fun h1 => ?_) (fun h1 => ?_) | refine r_if_ne (pc := 6) X 12 dX7_morning_6 (by decide) (fun h1 => ?_) (fun h1 => ?_)
  · have h1' : ¬ S 3 = 0 := h1
    have eo : opMorning T S un A = (nI (mkb 6 (mornP T S)), morS T S, min 8 (un + 1), pushA un A S) := by unfold opMorning; rw [if_neg h1']
    refine r_aload_n (pc := 12) X dX7_morning_12 rfl ?_
    refine c_v X (rV (pc := 13) (ci := 7) X l_X7_144 (t7_note a0 a2 a5 a6 i3) dX7_morning_13 (by repeat (first | exact mu_self | assumption | refine (mu_ne (by omega)).trans ?_)) rfl rfl rfl (Nat.le_of_ble_eq_true rfl) (by decide) (Nat.le_of_ble_eq_true rfl) (Nat.le_of_ble_eq_true rfl)) ?_
    rintro μ1 ⟨ah', hμ1, hU⟩
    have hW1 : WM Γ μ1 y T S (min 8 (un + 1)) (pushA un A S) kf K n xs sn V := by rw [hμ1]; exact WM.noted a0 a1 a2 a3 a4 a7 a8 a9 a10 a11 hU
    have hF1 : Fr y 10 μ μ1 := fun q hq => by rw [hμ1]; exact (mu_ne (by omega)).trans (mu_ne (by omega))
    obtain ⟨pl', tk', vl', bg', cl', rd', ah1, kp', mo', d0, d1, d2, -⟩ := id hW1
    clear hμ1
    have hmen := morI_men i2 t1
    have key : ∀ (N i : Nat) (μ2 : MM), i + N = T 0 → μ2 = mu μ1 (y + 2) (xI Γ 18 (stI (morI T S i))) → vV Γ p l e R s m args below meth c (vQ Γ s args below 0 0 (ri (fun r μ' => r = (opMorning T S un A).1 ∧ WM Γ μ' y T (opMorning T S un A).2.1 (opMorning T S un A).2.2.1 (opMorning T S un A).2.2.2 kf K n xs sn V ∧ Fr y 10 μ μ'))) 5 0 0 20 [some (.ref (y)), some (.int (nI (mkb i (mornP T S)))), some (.int (nI (i))), none, none] [] (μ2) := by
      intro N
      induction N with
      | zero =>
        intro i μ2 hi hμ
        subst hμ
        have hi2 : i = T 0 := by omega
        subst hi2
        refine r_iload_n (pc := 20) X dX7_morning_20 rfl ?_
        refine r_aload_n (pc := 21) X dX7_morning_21 rfl ?_
        apply r_get (pc := 22) X f_X7_7 dX7_morning_22
        · repeat (first | exact mu_self | assumption | refine (mu_ne (by omega)).trans ?_)
        · rfl
        refine r_iconst (pc := 25) (v := nI 0) X dX7_morning_25 (by decide) ?_
        apply r_iald (pc := 26) X dX7_morning_26
        · repeat (first | exact mu_self | assumption | refine (mu_ne (by omega)).trans ?_)
        · omega
        · decide
        refine r_icmp_geN (pc := 27) X 138 dX7_morning_27 (by decide) (by omega) (by omega) (fun _ => ?_) (fun h => absurd (Nat.le_refl _) h)
        refine r_iload_n (pc := 138) X dX7_morning_138 rfl ?_
        rw [eo, hmen.1, hmen.2]
        exact r_iret (pc := 139) X dX7_morning_139 (⟨rfl, hW1.sc (fun q hq => mu_ne hq) mu_self, fun q hq => (mu_ne (by omega)).trans (hF1 q hq)⟩)
      | succ N ih =>
        intro i μ2 hi hμ
        have g0 := (congrFun hμ y).trans ((mu_ne (by omega)).trans d0)
        have g1 := (congrFun hμ (y + 1)).trans ((mu_ne (by omega)).trans d1)
        have g2 := (congrFun hμ (y + 2)).trans mu_self
        have hz := z7 i (by omega)
        have hm12 : morI T S i (12 + i) = S (12 + i) := by unfold morI; rw [if_neg (by omega), if_neg (fun q => by omega), if_neg (by omega)]
        refine r_iload_n (pc := 20) X dX7_morning_20 rfl ?_
        refine r_aload_n (pc := 21) X dX7_morning_21 rfl ?_
        apply r_get (pc := 22) X f_X7_7 dX7_morning_22
        · repeat (first | exact mu_self | assumption | refine (mu_ne (by omega)).trans ?_)
        · rfl
        refine r_iconst (pc := 25) (v := nI 0) X dX7_morning_25 (by decide) ?_
        apply r_iald (pc := 26) X dX7_morning_26
        · repeat (first | exact mu_self | assumption | refine (mu_ne (by omega)).trans ?_)
        · omega
        · decide
        refine r_icmp_geN (pc := 27) X 138 dX7_morning_27 (by decide) (by omega) (by omega) (fun h => absurd h (by omega)) (fun _ => ?_)
        refine r_aload_n (pc := 30) X dX7_morning_30 rfl ?_
        apply r_get (pc := 31) X f_X7_13 dX7_morning_31
        · repeat (first | exact mu_self | assumption | refine (mu_ne (by omega)).trans ?_)
        · rfl
        refine r_bipush (pc := 34) (v := nI 12) X dX7_morning_34 (by decide) ?_
        refine r_iload_n (pc := 36) X dX7_morning_36 rfl ?_
        first | refine r_iaddN (pc := 37) X dX7_morning_37 ?_ | refine r_iadd (pc := 37) X dX7_morning_37 ?_
        apply r_iald (pc := 38) X dX7_morning_38
        · repeat (first | exact mu_self | assumption | refine (mu_ne (by omega)).trans ?_)
        · omega
        · decide
        rw [stI_hi (by omega), hm12]
        rcases Nat.eq_zero_or_pos (S (12 + i)) with h0 | h0
        · rw [h0, uI_0]
          refine r_istore_n (pc := 39) X dX7_morning_39 (by decide) rfl ?_
          refine r_iload_n (pc := 40) X dX7_morning_40 rfl ?_
          refine r_if_lt (pc := 41) X 132 dX7_morning_41 (by decide) (fun h4 => ?_) (fun h4 => ?_)
          · have := ih (i + 1) μ2 (by omega) (by rw [morI_n (by omega) h0]; exact hμ)
            rw [mkb_succ, mornP_0 h0, if_neg (by decide), Nat.or_zero] at this
            refine r_iincN (pc := 132) (b := 1) X dX7_morning_132 rfl (by decide) rfl ?_
            refine r_goto (pc := 135) X 20 dX7_morning_135 (by decide) ?_
            exact vV.loc (fun j v hj => by rcases j with _ | _ | _ | _ | _ | j <;> first | exact hj | (simp at hj)) this
          · exact absurd (by decide) h4
        · obtain ⟨w, hw⟩ : ∃ w, S (12 + i) = w + 1 := ⟨S (12 + i) - 1, by omega⟩
          rw [hw, uI_S]
          have hm5 : morI T S i 5 = gnS T S i := if_pos rfl
          have tail : ∀ b : Bool, mornP T S i = b → vV Γ p l e R s m args below meth c (vQ Γ s args below 0 0 (ri (fun r μ' => r = (opMorning T S un A).1 ∧ WM Γ μ' y T (opMorning T S un A).2.1 (opMorning T S un A).2.2.1 (opMorning T S un A).2.2.2 kf K n xs sn V ∧ Fr y 10 μ μ'))) 5 0 0 65 [some (.ref (y)), some (.int (nI (mkb i (mornP T S)))), some (.int (nI (i))), some (.int (nI (w))), none] [.int (zb b)] (μ2) := by
            intro b hb
            subst hμ
            refine r_istore (pc := 65) X dX7_morning_65 (by decide) rfl ?_
            refine r_aload_n (pc := 67) X dX7_morning_67 rfl ?_
            apply r_get (pc := 68) X f_X7_13 dX7_morning_68
            · repeat (first | exact mu_self | assumption | refine (mu_ne (by omega)).trans ?_)
            · rfl
            refine r_bipush (pc := 71) (v := nI 6) X dX7_morning_71 (by decide) ?_
            refine r_iload_n (pc := 73) X dX7_morning_73 rfl ?_
            first | refine r_iaddN (pc := 74) X dX7_morning_74 ?_ | refine r_iadd (pc := 74) X dX7_morning_74 ?_
            refine r_iload (pc := 75) X dX7_morning_75 rfl ?_
            cases b with
            | true =>
              have hb : mornP T S i = true := hb
              have := ih (i + 1) _ (by omega) rfl
              rw [morI_y (by omega) hw, mkb_succ, hb] at this
              simp only [if_true] at this
              first | refine r_if_eqZ (pc := 77) X 84 dX7_morning_77 (by decide) (fun q => ?_) (fun q => ?_) | refine r_if_eqN (pc := 77) X 84 dX7_morning_77 (by decide) (by omega) (fun q => ?_) (fun q => ?_) | refine r_if_eq (pc := 77) X 84 dX7_morning_77 (by decide) (fun q => ?_) (fun q => ?_)
              · exact absurd q (by decide)
              · refine r_iconst (pc := 80) (v := nI 1) X dX7_morning_80 (by decide) ?_
                refine r_goto (pc := 81) X 85 dX7_morning_81 (by decide) ?_
                apply r_iast (pc := 85) X dX7_morning_85
                · repeat (first | exact mu_self | assumption | refine (mu_ne (by omega)).trans ?_)
                · omega
                · decide
                rw [mu_mu, stI_up (by omega)]
                refine r_aload_n (pc := 86) X dX7_morning_86 rfl ?_
                apply r_get (pc := 87) X f_X7_13 dX7_morning_87
                · repeat (first | exact mu_self | assumption | refine (mu_ne (by omega)).trans ?_)
                · rfl
                refine r_iconst (pc := 90) (v := nI 5) X dX7_morning_90 (by decide) ?_
                refine r_dup2 (pc := 91) X dX7_morning_91 rfl rfl ?_
                apply r_iald (pc := 92) X dX7_morning_92
                · repeat (first | exact mu_self | assumption | refine (mu_ne (by omega)).trans ?_)
                · omega
                · decide
                rw [stI_lo (by omega), upN_ne (by omega), hm5]
                refine r_iload (pc := 93) X dX7_morning_93 rfl ?_
                first | refine r_if_eqZ (pc := 95) X 104 dX7_morning_95 (by decide) (fun q2 => ?_) (fun q2 => ?_) | refine r_if_eqN (pc := 95) X 104 dX7_morning_95 (by decide) (by omega) (fun q2 => ?_) (fun q2 => ?_) | refine r_if_eq (pc := 95) X 104 dX7_morning_95 (by decide) (fun q2 => ?_) (fun q2 => ?_)
                · exact absurd q2 (by decide)
                · refine r_iconst (pc := 98) (v := nI 1) X dX7_morning_98 (by decide) ?_
                  refine r_iload_n (pc := 99) X dX7_morning_99 rfl ?_
                  first | refine r_ishlN (pc := 100) X dX7_morning_100 (by omega) ?_ | refine r_ishl (pc := 100) X dX7_morning_100 ?_
                  refine r_goto (pc := 101) X 105 dX7_morning_101 (by decide) ?_
                  first | refine r_iorN (pc := 105) X dX7_morning_105 ?_ | refine r_ior (pc := 105) X dX7_morning_105 ?_
                  apply r_iast (pc := 106) X dX7_morning_106
                  · repeat (first | exact mu_self | assumption | refine (mu_ne (by omega)).trans ?_)
                  · omega
                  · decide
                  rw [mu_mu, stI_up (by omega)]
                  refine r_aload_n (pc := 107) X dX7_morning_107 rfl ?_
                  apply r_get (pc := 108) X f_X7_13 dX7_morning_108
                  · repeat (first | exact mu_self | assumption | refine (mu_ne (by omega)).trans ?_)
                  · rfl
                  refine r_bipush (pc := 111) (v := nI 12) X dX7_morning_111 (by decide) ?_
                  refine r_iload_n (pc := 113) X dX7_morning_113 rfl ?_
                  first | refine r_iaddN (pc := 114) X dX7_morning_114 ?_ | refine r_iadd (pc := 114) X dX7_morning_114 ?_
                  refine r_iconst (pc := 115) (v := -1) X dX7_morning_115 (by decide) ?_
                  apply r_iast (pc := 116) X dX7_morning_116
                  · repeat (first | exact mu_self | assumption | refine (mu_ne (by omega)).trans ?_)
                  · omega
                  · decide
                  rw [mu_mu, ← uI_0, stI_uph (by omega)]
                  refine r_iload_n (pc := 117) X dX7_morning_117 rfl ?_
                  refine r_iload (pc := 118) X dX7_morning_118 rfl ?_
                  first | refine r_if_eqZ (pc := 120) X 129 dX7_morning_120 (by decide) (fun q3 => ?_) (fun q3 => ?_) | refine r_if_eqN (pc := 120) X 129 dX7_morning_120 (by decide) (by omega) (fun q3 => ?_) (fun q3 => ?_) | refine r_if_eq (pc := 120) X 129 dX7_morning_120 (by decide) (fun q3 => ?_) (fun q3 => ?_)
                  · exact absurd q3 (by decide)
                  · refine r_iconst (pc := 123) (v := nI 1) X dX7_morning_123 (by decide) ?_
                    refine r_iload_n (pc := 124) X dX7_morning_124 rfl ?_
                    first | refine r_ishlN (pc := 125) X dX7_morning_125 (by omega) ?_ | refine r_ishl (pc := 125) X dX7_morning_125 ?_
                    refine r_goto (pc := 126) X 130 dX7_morning_126 (by decide) ?_
                    first | refine r_iorN (pc := 130) X dX7_morning_130 ?_ | refine r_ior (pc := 130) X dX7_morning_130 ?_
                    refine r_istore_n (pc := 131) X dX7_morning_131 (by decide) rfl ?_
                    refine r_iincN (pc := 132) (b := 1) X dX7_morning_132 rfl (by decide) rfl ?_
                    refine r_goto (pc := 135) X 20 dX7_morning_135 (by decide) ?_
                    exact vV.loc (fun j v hj => by rcases j with _ | _ | _ | _ | _ | j <;> first | exact hj | (simp at hj)) this
            | false =>
              have hb : mornP T S i = false := hb
              have := ih (i + 1) _ (by omega) rfl
              rw [morI_y (by omega) hw, mkb_succ, hb] at this
              simp only [Bool.false_eq_true, if_false, Nat.or_zero] at this
              first | refine r_if_eqZ (pc := 77) X 84 dX7_morning_77 (by decide) (fun q => ?_) (fun q => ?_) | refine r_if_eqN (pc := 77) X 84 dX7_morning_77 (by decide) (by omega) (fun q => ?_) (fun q => ?_) | refine r_if_eq (pc := 77) X 84 dX7_morning_77 (by decide) (fun q => ?_) (fun q => ?_)
              · refine r_iconst (pc := 84) (v := nI 2) X dX7_morning_84 (by decide) ?_
                apply r_iast (pc := 85) X dX7_morning_85
                · repeat (first | exact mu_self | assumption | refine (mu_ne (by omega)).trans ?_)
                · omega
                · decide
                rw [mu_mu, stI_up (by omega)]
                refine r_aload_n (pc := 86) X dX7_morning_86 rfl ?_
                apply r_get (pc := 87) X f_X7_13 dX7_morning_87
                · repeat (first | exact mu_self | assumption | refine (mu_ne (by omega)).trans ?_)
                · rfl
                refine r_iconst (pc := 90) (v := nI 5) X dX7_morning_90 (by decide) ?_
                refine r_dup2 (pc := 91) X dX7_morning_91 rfl rfl ?_
                apply r_iald (pc := 92) X dX7_morning_92
                · repeat (first | exact mu_self | assumption | refine (mu_ne (by omega)).trans ?_)
                · omega
                · decide
                rw [stI_lo (by omega), upN_ne (by omega), hm5]
                refine r_iload (pc := 93) X dX7_morning_93 rfl ?_
                first | refine r_if_eqZ (pc := 95) X 104 dX7_morning_95 (by decide) (fun q2 => ?_) (fun q2 => ?_) | refine r_if_eqN (pc := 95) X 104 dX7_morning_95 (by decide) (by omega) (fun q2 => ?_) (fun q2 => ?_) | refine r_if_eq (pc := 95) X 104 dX7_morning_95 (by decide) (fun q2 => ?_) (fun q2 => ?_)
                · refine r_iconst (pc := 104) (v := nI 0) X dX7_morning_104 (by decide) ?_
                  first | refine r_iorN (pc := 105) X dX7_morning_105 ?_ | refine r_ior (pc := 105) X dX7_morning_105 ?_
                  apply r_iast (pc := 106) X dX7_morning_106
                  · repeat (first | exact mu_self | assumption | refine (mu_ne (by omega)).trans ?_)
                  · omega
                  · decide
                  rw [mu_mu, stI_up (by omega), Nat.or_zero]
                  refine r_aload_n (pc := 107) X dX7_morning_107 rfl ?_
                  apply r_get (pc := 108) X f_X7_13 dX7_morning_108
                  · repeat (first | exact mu_self | assumption | refine (mu_ne (by omega)).trans ?_)
                  · rfl
                  refine r_bipush (pc := 111) (v := nI 12) X dX7_morning_111 (by decide) ?_
                  refine r_iload_n (pc := 113) X dX7_morning_113 rfl ?_
                  first | refine r_iaddN (pc := 114) X dX7_morning_114 ?_ | refine r_iadd (pc := 114) X dX7_morning_114 ?_
                  refine r_iconst (pc := 115) (v := -1) X dX7_morning_115 (by decide) ?_
                  apply r_iast (pc := 116) X dX7_morning_116
                  · repeat (first | exact mu_self | assumption | refine (mu_ne (by omega)).trans ?_)
                  · omega
                  · decide
                  rw [mu_mu, ← uI_0, stI_uph (by omega)]
                  refine r_iload_n (pc := 117) X dX7_morning_117 rfl ?_
                  refine r_iload (pc := 118) X dX7_morning_118 rfl ?_
                  first | refine r_if_eqZ (pc := 120) X 129 dX7_morning_120 (by decide) (fun q3 => ?_) (fun q3 => ?_) | refine r_if_eqN (pc := 120) X 129 dX7_morning_120 (by decide) (by omega) (fun q3 => ?_) (fun q3 => ?_) | refine r_if_eq (pc := 120) X 129 dX7_morning_120 (by decide) (fun q3 => ?_) (fun q3 => ?_)
                  · refine r_iconst (pc := 129) (v := nI 0) X dX7_morning_129 (by decide) ?_
                    first | refine r_iorN (pc := 130) X dX7_morning_130 ?_ | refine r_ior (pc := 130) X dX7_morning_130 ?_
                    refine r_istore_n (pc := 131) X dX7_morning_131 (by decide) rfl ?_
                    refine r_iincN (pc := 132) (b := 1) X dX7_morning_132 rfl (by decide) rfl ?_
                    refine r_goto (pc := 135) X 20 dX7_morning_135 (by decide) ?_
                    rw [Nat.or_zero]
                    exact vV.loc (fun j v hj => by rcases j with _ | _ | _ | _ | _ | j <;> first | exact hj | (simp at hj)) this
                  · exact absurd q3 (by decide)
                · exact absurd q2 (by decide)
              · exact absurd q (by decide)
          have hbr := t4 i (by omega)
          have hbT := brT_le i1 (w := w) (by omega)
          refine r_istore_n (pc := 39) X dX7_morning_39 (by decide) rfl ?_
          refine r_iload_n (pc := 40) X dX7_morning_40 rfl ?_
          first | refine r_if_ltN (pc := 41) X 132 dX7_morning_41 (by decide) (by omega) (fun h4 => ?_) (fun h4 => ?_) | refine r_if_lt (pc := 41) X 132 dX7_morning_41 (by decide) (fun h4 => ?_) (fun h4 => ?_)
          · exact absurd h4 (Nat.not_lt_zero _)
          · refine r_aload_n (pc := 44) X dX7_morning_44 rfl ?_
            refine r_iload_n (pc := 45) X dX7_morning_45 rfl ?_
            refine c_i X (rV (pc := 46) (ci := 7) X l_X7_139 (t7_bears g0 g1 i1 (w := w) (by omega)) dX7_morning_46 (by repeat (first | exact mu_self | assumption | refine (mu_ne (by omega)).trans ?_)) rfl rfl rfl (Nat.le_of_ble_eq_true rfl) (by decide) (Nat.le_of_ble_eq_true rfl) (Nat.le_of_ble_eq_true rfl)) ?_
            rintro _ μq ⟨rfl, hμq⟩
            rw [hμq]
            clear hμq μq
            refine r_aload_n (pc := 49) X dX7_morning_49 rfl ?_
            apply r_get (pc := 50) X f_X7_7 dX7_morning_50
            · repeat (first | exact mu_self | assumption | refine (mu_ne (by omega)).trans ?_)
            · rfl
            refine r_iconst (pc := 53) (v := nI 1) X dX7_morning_53 (by decide) ?_
            refine r_iload_n (pc := 54) X dX7_morning_54 rfl ?_
            first | refine r_iaddN (pc := 55) X dX7_morning_55 ?_ | refine r_iadd (pc := 55) X dX7_morning_55 ?_
            apply r_iald (pc := 56) X dX7_morning_56
            · repeat (first | exact mu_self | assumption | refine (mu_ne (by omega)).trans ?_)
            · omega
            · decide
            first | refine r_icmp_ltN (pc := 57) X 64 dX7_morning_57 (by decide) (by omega) (by omega) (fun h5 => ?_) (fun h5 => ?_) | refine r_icmp_lt (pc := 57) X 64 dX7_morning_57 (by decide) (fun h5 => ?_) (fun h5 => ?_)
            · refine r_iconst (pc := 64) (v := nI 0) X dX7_morning_64 (by decide) ?_
              exact tail false (by unfold mornP; rw [hw, show w + 1 - 1 = w by omega]; simp; omega)
            · refine r_iconst (pc := 60) (v := nI 1) X dX7_morning_60 (by decide) ?_
              refine r_goto (pc := 61) X 65 dX7_morning_61 (by decide) ?_
              exact tail true (by unfold mornP; rw [hw, show w + 1 - 1 = w by omega]; simp; omega)
    have hq := key (T 0) 0 _ (by omega) rfl
    rw [morI_0] at hq
    refine r_iconst (pc := 16) (v := nI 0) X dX7_morning_16 (by decide) ?_
    refine r_istore_n (pc := 17) X dX7_morning_17 (by decide) rfl ?_
    refine r_iconst (pc := 18) (v := nI 0) X dX7_morning_18 (by decide) ?_
    refine r_istore_n (pc := 19) X dX7_morning_19 (by decide) rfl ?_
    refine vV.sub (μ' := mu μ1 (y + 2) (xI Γ 18 (stI S))) (fun H hP => hP.reI d2 (fun j hj => rfl)) ?_
    exact hq
  · have h1' : S 3 = 0 := h1
    have eo : opMorning T S un A = (-4, S, un, A) := by unfold opMorning; rw [if_pos h1']
    rw [eo]
    refine r_bipush (pc := 9) (v := -4) X dX7_morning_9 (by decide) ?_
    exact r_iret (pc := 11) X dX7_morning_11 (⟨rfl, h, Fr.rf⟩)
end S46
