theorem plv_z {T S : Nat → Nat} {G : Nat} : ∀ k X, T 0 + k ≤ 6 → plv T S G k X = 0 := by
  intro k
  induction k with
  | zero => intro X _; rfl
  | succ k ih =>
    intro X hk
    show bst (fitG T S G (5 - k)) (plv T S G k) X 6 = 0
    rw [bst_stop (Nat.zero_le 6) (fun t _ _ => by
      have : fitG T S G (5 - k) t = false := by
        unfold fitG brM
        rw [decide_eq_false (by omega)]
        simp
      rw [this]; rfl)]
    exact ih X (by omega)
/-- the reference's rows from man i on -/
def tabM (T S : Nat → Nat) (G : Nat) (g : Nat → Int32) (i : Nat) : Prop := ∀ m X, i ≤ m → m ≤ T 0 → X < 64 → g (64 * m + X) = nI (plv T S G (6 - m) X)
theorem fstF_no {P : Nat → Bool} (h : ∀ j, P j = false) : ∀ f i, fstF P f i = 0 := by
  intro f
  induction f with
  | zero => intro i; rfl
  | succ f ih =>
    intro i
    show (if P i = true then i + 1 else fstF P f (i + 1)) = 0
    rw [h i, if_neg (by simp)]
    exact ih (i + 1)
theorem fstF_hi {P : Nat → Bool} {a : Nat} (h : ∀ j, a ≤ j → P j = false) : ∀ f i, a ≤ i → fstF P f i = 0 := by
  intro f
  induction f with
  | zero => intro i _; rfl
  | succ f ih =>
    intro i hi
    show (if P i = true then i + 1 else fstF P f (i + 1)) = 0
    rw [h i hi, if_neg (by simp)]
    exact ih (i + 1) (by omega)
section S52
variable {Γ : KK} {l : Launch} {sz : Nat} {μ : MM} {y n : Nat} {pl tk vl bg cl : Int32} {un sn : Nat} {T S : Nat → Nat}
theorem t7_findPlan {G : Nat} {mo : Nat → Int32} (a0 : μ y = some (mdO y n pl tk vl bg cl un sn)) (a1 : μ (y + 1) = some (xI Γ 29 (fun i => nI (T i)))) (a2 : μ (y + 2) = some (xI Γ 18 (stI S))) (a10 : μ (y + 8) = some (xI Γ 448 mo)) (hI : IT T) (hS : IS T S) (hG : G < 64) : CT Γ l 2 sz 0 0 mX7_findPlan [.ref y, .int (nI G)] μ (rv (fun μ' => ∃ mo', μ' = mu μ (y + 8) (xI Γ 448 mo') ∧ tabM T S G mo' 0)) := by
  have t1 := hI.1
  have t2 := hI.2.1
  have z6 := hS.2.2.2.2.2.1
  refine CT.go RX7 rfl "findPlan" rfl [some (.ref y), some (.int (nI G)), none, none, none, none, none, none] rfl (by decide) (Nat.le_of_ble_eq_true rfl) ?_
  intro p e R s m args below meth c X hsz
  have key : ∀ (k : Nat) (mo : Nat → Int32), k ≤ T 0 + 1 → tabM T S G mo k → vV Γ p l e R s m args below meth c (vQ Γ s args below 0 0 (rv (fun μ' => ∃ mo', μ' = mu μ (y + 8) (xI Γ 448 mo') ∧ tabM T S G mo' 0))) 8 0 0 7 [some (.ref (y)), some (.int (nI (G))), some (.int (uI k)), none, none, none, none, none] [] (mu μ (y + 8) (xI Γ 448 mo)) := by
    intro k
    induction k with
    | zero =>
      intro mo hk ht
      rw [uI_0]
      refine r_iload_n (pc := 7) X dX7_findPlan_7 rfl ?_
      refine r_if_lt (pc := 8) X 183 dX7_findPlan_8 (by decide) (fun h1 => ?_) (fun h1 => ?_)
      · exact r_vret (pc := 183) X dX7_findPlan_183 (⟨mo, rfl, ht⟩)
      · exact absurd (by decide) h1
    | succ k ih =>
      intro mo hk ht
      rw [uI_S]
      have inner : ∀ (N x : Nat) (mo : Nat → Int32), x + N = 64 → tabM T S G mo (k + 1) → (∀ z, z < x → mo (64 * k + z) = nI (plv T S G (6 - k) z)) → vV Γ p l e R s m args below meth c (vQ Γ s args below 0 0 (rv (fun μ' => ∃ mo', μ' = mu μ (y + 8) (xI Γ 448 mo') ∧ tabM T S G mo' 0))) 8 0 0 13 [some (.ref (y)), some (.int (nI (G))), some (.int (nI (k))), some (.int (nI (x))), none, none, none, none] [] (mu μ (y + 8) (xI Γ 448 mo)) := by
        intro N
        induction N with
        | zero =>
          intro x mo hx ht hz
          refine r_iload_n (pc := 13) X dX7_findPlan_13 rfl ?_
          refine r_bipush (pc := 14) (v := nI 64) X dX7_findPlan_14 (by decide) ?_
          refine r_icmp_geN (pc := 16) X 177 dX7_findPlan_16 (by decide) (by omega) (by omega) (fun _ => ?_) (fun h => absurd (show 64 ≤ x by omega) h)
          have := ih mo (by omega) (fun m X h1 h2 h3 => by
            by_cases hm : m = k
            · subst hm; exact hz X (by omega)
            · exact ht m X (by omega) h2 h3)
          refine r_iinc (pc := 177) X dX7_findPlan_177 rfl rfl (by decide) rfl ?_
          rw [iinc_u]
          refine r_goto (pc := 180) X 7 dX7_findPlan_180 (by decide) ?_
          exact vV.loc (fun j v hj => by rcases j with _ | _ | _ | _ | _ | _ | _ | _ | j <;> first | exact hj | (simp at hj)) this
        | succ N im =>
          intro x mo hx ht hz
          have hpl := plv_le T S G (6 - k) x
          have fin : vV Γ p l e R s m args below meth c (vQ Γ s args below 0 0 (rv (fun μ' => ∃ mo', μ' = mu μ (y + 8) (xI Γ 448 mo') ∧ tabM T S G mo' 0))) 8 0 0 158 [some (.ref (y)), some (.int (nI (G))), some (.int (nI (k))), some (.int (nI (x))), some (.int (nI (plv T S G (6 - k) x))), none, none, none] [] (mu μ (y + 8) (xI Γ 448 mo)) := by
            refine r_aload_n (pc := 158) X dX7_findPlan_158 rfl ?_
            apply r_get (pc := 159) X f_X7_32 dX7_findPlan_159
            · repeat (first | exact mu_self | assumption | refine (mu_ne (by omega)).trans ?_)
            · rfl
            refine r_bipush (pc := 162) (v := nI 64) X dX7_findPlan_162 (by decide) ?_
            refine r_iload_n (pc := 164) X dX7_findPlan_164 rfl ?_
            first | refine r_imulN (pc := 165) X dX7_findPlan_165 ?_ | refine r_imul (pc := 165) X dX7_findPlan_165 ?_
            refine r_iload_n (pc := 166) X dX7_findPlan_166 rfl ?_
            first | refine r_iaddN (pc := 167) X dX7_findPlan_167 ?_ | refine r_iadd (pc := 167) X dX7_findPlan_167 ?_
            refine r_iload (pc := 168) X dX7_findPlan_168 rfl ?_
            apply r_iast (pc := 170) X dX7_findPlan_170
            · repeat (first | exact mu_self | assumption | refine (mu_ne (by omega)).trans ?_)
            · omega
            · decide
            rw [mu_mu]
            have := im (x + 1) (upd mo (64 * k + x) (nI (plv T S G (6 - k) x))) (by omega) (fun m X h1 h2 h3 => by
              unfold upd
              rw [if_neg (by omega)]
              exact ht m X h1 h2 h3) (fun z hzz => by
              unfold upd
              by_cases q : z = x
              · subst q; rw [if_pos rfl]
              · rw [if_neg (by omega)]; exact hz z (by omega))
            refine r_iincN (pc := 171) (b := 1) X dX7_findPlan_171 rfl (by decide) rfl ?_
            refine r_goto (pc := 174) X 13 dX7_findPlan_174 (by decide) ?_
            exact vV.loc (fun j v hj => by rcases j with _ | _ | _ | _ | _ | _ | _ | _ | j <;> first | exact hj | (simp at hj)) this
          refine r_iload_n (pc := 13) X dX7_findPlan_13 rfl ?_
          refine r_bipush (pc := 14) (v := nI 64) X dX7_findPlan_14 (by decide) ?_
          refine r_icmp_geN (pc := 16) X 177 dX7_findPlan_16 (by decide) (by omega) (by omega) (fun h => absurd h (by omega)) (fun _ => ?_)
          refine r_iconst (pc := 19) (v := nI 0) X dX7_findPlan_19 (by decide) ?_
          refine r_istore (pc := 20) X dX7_findPlan_20 (by decide) rfl ?_
          refine r_iload_n (pc := 22) X dX7_findPlan_22 rfl ?_
          refine r_aload_n (pc := 23) X dX7_findPlan_23 rfl ?_
          apply r_get (pc := 24) X f_X7_7 dX7_findPlan_24
          · repeat (first | exact mu_self | assumption | refine (mu_ne (by omega)).trans ?_)
          · rfl
          refine r_iconst (pc := 27) (v := nI 0) X dX7_findPlan_27 (by decide) ?_
          apply r_iald (pc := 28) X dX7_findPlan_28
          · repeat (first | exact mu_self | assumption | refine (mu_ne (by omega)).trans ?_)
          · omega
          · decide
          first | refine r_icmp_geN (pc := 29) X 158 dX7_findPlan_29 (by decide) (by omega) (by omega) (fun h2 => ?_) (fun h2 => ?_) | refine r_icmp_ge (pc := 29) X 158 dX7_findPlan_29 (by decide) (fun h2 => ?_) (fun h2 => ?_)
          · have hk0 : k = T 0 := by omega
            have e0 : plv T S G (6 - k) x = 0 := plv_z _ _ (by omega)
            rw [e0] at fin
            exact vV.loc (fun j v hj => by rcases j with _ | _ | _ | _ | _ | _ | _ | _ | j <;> first | exact hj | (simp at hj)) fin
          · have hk6 : k < 6 := by omega
            have hg : ∀ z, z < 64 → mo (64 * (k + 1) + z) = nI (plv T S G (5 - k) z) := fun z hz => by
              have := ht (k + 1) z (by omega) (by omega) hz
              rw [show 6 - (k + 1) = 5 - k by omega] at this
              exact this
            have hps := plv_s (T := T) (S := S) (G := G) hk6 x
            rw [hps] at fin
            have sl : ∀ (M j : Nat), j + M = T 7 → vV Γ p l e R s m args below meth c (vQ Γ s args below 0 0 (rv (fun μ' => ∃ mo', μ' = mu μ (y + 8) (xI Γ 448 mo') ∧ tabM T S G mo' 0))) 8 0 0 50 [some (.ref (y)), some (.int (nI (G))), some (.int (nI (k))), some (.int (nI (x))), some (.int (nI (bst (fitG T S G k) (plv T S G (5 - k)) x j))), some (.int (nI (j))), none, none] [] (mu μ (y + 8) (xI Γ 448 mo)) := by
              intro M
              induction M with
              | zero =>
                intro j hj
                refine r_iload (pc := 50) X dX7_findPlan_50 rfl ?_
                refine r_aload_n (pc := 52) X dX7_findPlan_52 rfl ?_
                apply r_get (pc := 53) X f_X7_7 dX7_findPlan_53
                · repeat (first | exact mu_self | assumption | refine (mu_ne (by omega)).trans ?_)
                · rfl
                refine r_bipush (pc := 56) (v := nI 7) X dX7_findPlan_56 (by decide) ?_
                apply r_iald (pc := 58) X dX7_findPlan_58
                · repeat (first | exact mu_self | assumption | refine (mu_ne (by omega)).trans ?_)
                · omega
                · decide
                refine r_icmp_geN (pc := 59) X 158 dX7_findPlan_59 (by decide) (by omega) (by omega) (fun _ => ?_) (fun h => absurd (show T 7 ≤ j by omega) h)
                rw [bst_stop (show j ≤ 6 by omega) (fun t h1 h2 => by
                  cases hq : fitG T S G k t with
                  | false => rfl
                  | true => have := fit_s7 hq; omega)] at fin
                exact vV.loc (fun j v hj => by rcases j with _ | _ | _ | _ | _ | _ | _ | _ | j <;> first | exact hj | (simp at hj)) fin
              | succ M is =>
                intro j hj
                have hb := bst_le (ok := fitG T S G k) (plv_le T S G (5 - k)) x j
                have hj6 : j < 6 := by omega
                refine r_iload (pc := 50) X dX7_findPlan_50 rfl ?_
                refine r_aload_n (pc := 52) X dX7_findPlan_52 rfl ?_
                apply r_get (pc := 53) X f_X7_7 dX7_findPlan_53
                · repeat (first | exact mu_self | assumption | refine (mu_ne (by omega)).trans ?_)
                · rfl
                refine r_bipush (pc := 56) (v := nI 7) X dX7_findPlan_56 (by decide) ?_
                apply r_iald (pc := 58) X dX7_findPlan_58
                · repeat (first | exact mu_self | assumption | refine (mu_ne (by omega)).trans ?_)
                · omega
                · decide
                refine r_icmp_geN (pc := 59) X 158 dX7_findPlan_59 (by decide) (by omega) (by omega) (fun h => absurd h (by omega)) (fun _ => ?_)
                refine r_aload_n (pc := 62) X dX7_findPlan_62 rfl ?_
                refine r_iload_n (pc := 63) X dX7_findPlan_63 rfl ?_
                refine c_i X (rV (pc := 64) (ci := 7) X l_X7_147 (t7_isIn (m' := k) (y := y) (S := S) ((mu_ne (by omega)).trans a0) ((mu_ne (by omega)).trans a2) hk6 (z6 k hk6)) dX7_findPlan_64 (by repeat (first | exact mu_self | assumption | refine (mu_ne (by omega)).trans ?_)) rfl rfl rfl (Nat.le_of_ble_eq_true rfl) (by decide) (Nat.le_of_ble_eq_true rfl) (Nat.le_of_ble_eq_true rfl)) ?_
                rintro _ μq ⟨rfl, hμq⟩
                rw [hμq]
                clear hμq μq
                first | refine r_if_eqZ (pc := 67) X 158 dX7_findPlan_67 (by decide) (fun h3 => ?_) (fun h3 => ?_) | refine r_if_eqN (pc := 67) X 158 dX7_findPlan_67 (by decide) (by omega) (fun h3 => ?_) (fun h3 => ?_) | refine r_if_eq (pc := 67) X 158 dX7_findPlan_67 (by decide) (fun h3 => ?_) (fun h3 => ?_)
                · have h3' : ¬ S (6 + k) = 0 := by simpa using h3
                  have hno : ∀ t, fitG T S G k t = false := fun t => by unfold fitG; simp [h3']
                  rw [bst_stop (show j ≤ 6 by omega) (fun t _ _ => by rw [hno t]; rfl)] at fin
                  exact vV.loc (fun j v hj => by rcases j with _ | _ | _ | _ | _ | _ | _ | _ | j <;> first | exact hj | (simp at hj)) fin
                · have h3' : S (6 + k) = 0 := by simpa using h3
                  have nxt := is (j + 1) (by omega)
                  have ebs : bst (fitG T S G k) (plv T S G (5 - k)) x (j + 1) = if (fitG T S G k j && !x.testBit j) = true then max (bst (fitG T S G k) (plv T S G (5 - k)) x j) (1 + plv T S G (5 - k) (x ||| 1 <<< j)) else bst (fitG T S G k) (plv T S G (5 - k)) x j := rfl
                  have hor : x ||| 1 <<< j < 64 := Nat.or_lt_two_pow (n := 6) (by omega) (shl_pow hj6)
                  have hpx := plv_le T S G (5 - k) (x ||| 1 <<< j)
                  have c103 : ∀ z : Bool, (fitG T S G k j && !x.testBit j) = z → vV Γ p l e R s m args below meth c (vQ Γ s args below 0 0 (rv (fun μ' => ∃ mo', μ' = mu μ (y + 8) (xI Γ 448 mo') ∧ tabM T S G mo' 0))) 8 0 0 103 [some (.ref (y)), some (.int (nI (G))), some (.int (nI (k))), some (.int (nI (x))), some (.int (nI (bst (fitG T S G k) (plv T S G (5 - k)) x j))), some (.int (nI (j))), none, none] [.int (zb z)] (mu μ (y + 8) (xI Γ 448 mo)) := by
                    intro z hz
                    rw [hz] at ebs
                    refine r_istore (pc := 103) X dX7_findPlan_103 (by decide) rfl ?_
                    refine r_iload (pc := 105) X dX7_findPlan_105 rfl ?_
                    cases z with
                    | false =>
                      rw [if_neg (by simp)] at ebs
                      rw [ebs] at nxt
                      refine r_if_eqZ (pc := 107) X 133 dX7_findPlan_107 (by decide) (fun _ => ?_) (fun q => absurd q (by decide))
                      refine r_iconst (pc := 133) (v := nI 0) X dX7_findPlan_133 (by decide) ?_
                      refine r_istore (pc := 134) X dX7_findPlan_134 (by decide) rfl ?_
                      refine r_iload (pc := 136) X dX7_findPlan_136 rfl ?_
                      refine r_iload (pc := 138) X dX7_findPlan_138 rfl ?_
                      first | refine r_icmp_leN (pc := 140) X 148 dX7_findPlan_140 (by decide) (by omega) (by omega) (fun h4 => ?_) (fun h4 => ?_) | refine r_icmp_le (pc := 140) X 148 dX7_findPlan_140 (by decide) (fun h4 => ?_) (fun h4 => ?_)
                      · refine r_iload (pc := 148) X dX7_findPlan_148 rfl ?_
                        refine r_istore (pc := 150) X dX7_findPlan_150 (by decide) rfl ?_
                        refine r_iincN (pc := 152) (b := 1) X dX7_findPlan_152 rfl (by decide) rfl ?_
                        refine r_goto (pc := 155) X 50 dX7_findPlan_155 (by decide) ?_
                        exact vV.loc (fun j v hj => by rcases j with _ | _ | _ | _ | _ | _ | _ | _ | j <;> first | exact hj | (simp at hj)) nxt
                      · exact absurd (Nat.zero_le _) h4
                    | true =>
                      rw [if_pos rfl] at ebs
                      rw [ebs] at nxt
                      refine r_if_eqZ (pc := 107) X 133 dX7_findPlan_107 (by decide) (fun q => absurd q (by decide)) (fun _ => ?_)
                      refine r_aload_n (pc := 110) X dX7_findPlan_110 rfl ?_
                      apply r_get (pc := 111) X f_X7_32 dX7_findPlan_111
                      · repeat (first | exact mu_self | assumption | refine (mu_ne (by omega)).trans ?_)
                      · rfl
                      refine r_bipush (pc := 114) (v := nI 64) X dX7_findPlan_114 (by decide) ?_
                      refine r_iload_n (pc := 116) X dX7_findPlan_116 rfl ?_
                      refine r_iconst (pc := 117) (v := nI 1) X dX7_findPlan_117 (by decide) ?_
                      first | refine r_iaddN (pc := 118) X dX7_findPlan_118 ?_ | refine r_iadd (pc := 118) X dX7_findPlan_118 ?_
                      first | refine r_imulN (pc := 119) X dX7_findPlan_119 ?_ | refine r_imul (pc := 119) X dX7_findPlan_119 ?_
                      refine r_iload_n (pc := 120) X dX7_findPlan_120 rfl ?_
                      refine r_iconst (pc := 121) (v := nI 1) X dX7_findPlan_121 (by decide) ?_
                      refine r_iload (pc := 122) X dX7_findPlan_122 rfl ?_
                      first | refine r_ishlN (pc := 124) X dX7_findPlan_124 (by omega) ?_ | refine r_ishl (pc := 124) X dX7_findPlan_124 ?_
                      first | refine r_iorN (pc := 125) X dX7_findPlan_125 ?_ | refine r_ior (pc := 125) X dX7_findPlan_125 ?_
                      first | refine r_iaddN (pc := 126) X dX7_findPlan_126 ?_ | refine r_iadd (pc := 126) X dX7_findPlan_126 ?_
                      apply r_iald (pc := 127) X dX7_findPlan_127
                      · repeat (first | exact mu_self | assumption | refine (mu_ne (by omega)).trans ?_)
                      · omega
                      · decide
                      rw [hg _ hor]
                      refine r_iconst (pc := 128) (v := nI 1) X dX7_findPlan_128 (by decide) ?_
                      first | refine r_iaddN (pc := 129) X dX7_findPlan_129 ?_ | refine r_iadd (pc := 129) X dX7_findPlan_129 ?_
                      refine r_goto (pc := 130) X 134 dX7_findPlan_130 (by decide) ?_
                      refine r_istore (pc := 134) X dX7_findPlan_134 (by decide) rfl ?_
                      refine r_iload (pc := 136) X dX7_findPlan_136 rfl ?_
                      refine r_iload (pc := 138) X dX7_findPlan_138 rfl ?_
                      first | refine r_icmp_leN (pc := 140) X 148 dX7_findPlan_140 (by decide) (by omega) (by omega) (fun h4 => ?_) (fun h4 => ?_) | refine r_icmp_le (pc := 140) X 148 dX7_findPlan_140 (by decide) (fun h4 => ?_) (fun h4 => ?_)
                      · rw [Nat.max_eq_left (by omega)] at nxt
                        refine r_iload (pc := 148) X dX7_findPlan_148 rfl ?_
                        refine r_istore (pc := 150) X dX7_findPlan_150 (by decide) rfl ?_
                        refine r_iincN (pc := 152) (b := 1) X dX7_findPlan_152 rfl (by decide) rfl ?_
                        refine r_goto (pc := 155) X 50 dX7_findPlan_155 (by decide) ?_
                        exact vV.loc (fun j v hj => by rcases j with _ | _ | _ | _ | _ | _ | _ | _ | j <;> first | exact hj | (simp at hj)) nxt
                      · rw [Nat.max_eq_right (by omega), Nat.add_comm 1] at nxt
                        refine r_iload (pc := 143) X dX7_findPlan_143 rfl ?_
                        refine r_goto (pc := 145) X 150 dX7_findPlan_145 (by decide) ?_
                        refine r_istore (pc := 150) X dX7_findPlan_150 (by decide) rfl ?_
                        refine r_iincN (pc := 152) (b := 1) X dX7_findPlan_152 rfl (by decide) rfl ?_
                        refine r_goto (pc := 155) X 50 dX7_findPlan_155 (by decide) ?_
                        exact vV.loc (fun j v hj => by rcases j with _ | _ | _ | _ | _ | _ | _ | _ | j <;> first | exact hj | (simp at hj)) nxt
                  have hxg : x ||| G < 64 := or_lt64 (by omega) hG
                  have hbt := brT_le hI hj6
                  have hwt := hI.2.2.2.1 k hk6
                  refine r_iload_n (pc := 70) X dX7_findPlan_70 rfl ?_
                  refine r_iload_n (pc := 71) X dX7_findPlan_71 rfl ?_
                  first | refine r_iorN (pc := 72) X dX7_findPlan_72 ?_ | refine r_ior (pc := 72) X dX7_findPlan_72 ?_
                  refine r_iload (pc := 73) X dX7_findPlan_73 rfl ?_
                  refine c_i X (rS (pc := 75) X l_X7_160 (t7_has (b := x ||| G) (k := j) (by omega) (by omega)) dX7_findPlan_75 rfl rfl (Nat.le_of_ble_eq_true rfl) (by decide) (Nat.le_of_ble_eq_true rfl) (Nat.le_of_ble_eq_true rfl)) ?_
                  rintro _ μq ⟨rfl, hμq⟩
                  rw [hμq]
                  clear hμq μq
                  first | refine r_if_neZ (pc := 78) X 102 dX7_findPlan_78 (by decide) (fun h5 => ?_) (fun h5 => ?_) | refine r_if_neN (pc := 78) X 102 dX7_findPlan_78 (by decide) (by omega) (fun h5 => ?_) (fun h5 => ?_) | refine r_if_ne (pc := 78) X 102 dX7_findPlan_78 (by decide) (fun h5 => ?_) (fun h5 => ?_)
                  · have hf : (fitG T S G k j && !x.testBit j) = false := by
                      unfold fitG
                      rw [Nat.testBit_or] at h5
                      simp only [Bool.or_eq_true] at h5
                      rcases h5 with q | q <;> simp [q]
                    have := c103 false hf
                    rw [zb_f] at this
                    refine r_iconst (pc := 102) (v := nI 0) X dX7_findPlan_102 (by decide) ?_
                    exact this
                  · have h5' : x.testBit j = false ∧ G.testBit j = false := by
                      rw [Nat.testBit_or] at h5
                      simpa using h5
                    refine r_aload_n (pc := 81) X dX7_findPlan_81 rfl ?_
                    refine r_iload (pc := 82) X dX7_findPlan_82 rfl ?_
                    refine c_i X (rV (pc := 84) (ci := 7) X l_X7_139 (t7_bears (w := j) (y := y) (T := T) ((mu_ne (by omega)).trans a0) ((mu_ne (by omega)).trans a1) hI (by omega)) dX7_findPlan_84 (by repeat (first | exact mu_self | assumption | refine (mu_ne (by omega)).trans ?_)) rfl rfl rfl (Nat.le_of_ble_eq_true rfl) (by decide) (Nat.le_of_ble_eq_true rfl) (Nat.le_of_ble_eq_true rfl)) ?_
                    rintro _ μq ⟨rfl, hμq⟩
                    rw [hμq]
                    clear hμq μq
                    refine r_aload_n (pc := 87) X dX7_findPlan_87 rfl ?_
                    apply r_get (pc := 88) X f_X7_7 dX7_findPlan_88
                    · repeat (first | exact mu_self | assumption | refine (mu_ne (by omega)).trans ?_)
                    · rfl
                    refine r_iconst (pc := 91) (v := nI 1) X dX7_findPlan_91 (by decide) ?_
                    refine r_iload_n (pc := 92) X dX7_findPlan_92 rfl ?_
                    first | refine r_iaddN (pc := 93) X dX7_findPlan_93 ?_ | refine r_iadd (pc := 93) X dX7_findPlan_93 ?_
                    apply r_iald (pc := 94) X dX7_findPlan_94
                    · repeat (first | exact mu_self | assumption | refine (mu_ne (by omega)).trans ?_)
                    · omega
                    · decide
                    first | refine r_icmp_ltN (pc := 95) X 102 dX7_findPlan_95 (by decide) (by omega) (by omega) (fun h6 => ?_) (fun h6 => ?_) | refine r_icmp_lt (pc := 95) X 102 dX7_findPlan_95 (by decide) (fun h6 => ?_) (fun h6 => ?_)
                    · have hf : (fitG T S G k j && !x.testBit j) = false := by
                        unfold fitG brM
                        rw [decide_eq_false (show ¬ (j < T 7 ∧ k < T 0 ∧ T (1 + k) ≤ brT T j) by omega)]
                        simp
                      have := c103 false hf
                      rw [zb_f] at this
                      refine r_iconst (pc := 102) (v := nI 0) X dX7_findPlan_102 (by decide) ?_
                      exact this
                    · have hf : (fitG T S G k j && !x.testBit j) = true := by
                        unfold fitG brM
                        rw [decide_eq_true (show (j < T 7 ∧ k < T 0 ∧ T (1 + k) ≤ brT T j) by omega)]
                        simp [h3', h5']
                      have := c103 true hf
                      rw [zb_t] at this
                      refine r_iconst (pc := 98) (v := nI 1) X dX7_findPlan_98 (by decide) ?_
                      refine r_goto (pc := 99) X 103 dX7_findPlan_99 (by decide) ?_
                      exact this
            refine r_aload_n (pc := 32) X dX7_findPlan_32 rfl ?_
            apply r_get (pc := 33) X f_X7_32 dX7_findPlan_33
            · repeat (first | exact mu_self | assumption | refine (mu_ne (by omega)).trans ?_)
            · rfl
            refine r_bipush (pc := 36) (v := nI 64) X dX7_findPlan_36 (by decide) ?_
            refine r_iload_n (pc := 38) X dX7_findPlan_38 rfl ?_
            refine r_iconst (pc := 39) (v := nI 1) X dX7_findPlan_39 (by decide) ?_
            first | refine r_iaddN (pc := 40) X dX7_findPlan_40 ?_ | refine r_iadd (pc := 40) X dX7_findPlan_40 ?_
            first | refine r_imulN (pc := 41) X dX7_findPlan_41 ?_ | refine r_imul (pc := 41) X dX7_findPlan_41 ?_
            refine r_iload_n (pc := 42) X dX7_findPlan_42 rfl ?_
            first | refine r_iaddN (pc := 43) X dX7_findPlan_43 ?_ | refine r_iadd (pc := 43) X dX7_findPlan_43 ?_
            apply r_iald (pc := 44) X dX7_findPlan_44
            · repeat (first | exact mu_self | assumption | refine (mu_ne (by omega)).trans ?_)
            · omega
            · decide
            rw [hg x (by omega)]
            refine r_istore (pc := 45) X dX7_findPlan_45 (by decide) rfl ?_
            refine r_iconst (pc := 47) (v := nI 0) X dX7_findPlan_47 (by decide) ?_
            refine r_istore (pc := 48) X dX7_findPlan_48 (by decide) rfl ?_
            exact vV.loc (fun j v hj => by rcases j with _ | _ | _ | _ | _ | _ | _ | _ | j <;> first | exact hj | (simp at hj)) (sl (T 7) 0 (by omega))
      refine r_iload_n (pc := 7) X dX7_findPlan_7 rfl ?_
      first | refine r_if_ltN (pc := 8) X 183 dX7_findPlan_8 (by decide) (by omega) (fun h1 => ?_) (fun h1 => ?_) | refine r_if_lt (pc := 8) X 183 dX7_findPlan_8 (by decide) (fun h1 => ?_) (fun h1 => ?_)
      · exact absurd h1 (Nat.not_lt_zero _)
      · refine r_iconst (pc := 11) (v := nI 0) X dX7_findPlan_11 (by decide) ?_
        refine r_istore_n (pc := 12) X dX7_findPlan_12 (by decide) rfl ?_
        exact inner 64 0 mo (by omega) ht (fun z hz => absurd hz (Nat.not_lt_zero _))
  have hq := key (T 0 + 1) mo (Nat.le_refl _) (fun m X h1 h2 h3 => by omega)
  rw [uI_S] at hq
  refine r_aload_n (pc := 0) X dX7_findPlan_0 rfl ?_
  apply r_get (pc := 1) X f_X7_7 dX7_findPlan_1
  · repeat (first | exact mu_self | assumption | refine (mu_ne (by omega)).trans ?_)
  · rfl
  refine r_iconst (pc := 4) (v := nI 0) X dX7_findPlan_4 (by decide) ?_
  apply r_iald (pc := 5) X dX7_findPlan_5
  · repeat (first | exact mu_self | assumption | refine (mu_ne (by omega)).trans ?_)
  · omega
  · decide
  refine r_istore_n (pc := 6) X dX7_findPlan_6 (by decide) rfl ?_
  refine vV.sub (μ' := mu μ (y + 8) (xI Γ 448 mo)) (fun H hP => hP.reI a10 (fun j hj => rfl)) ?_
  exact hq
end S52
