theorem bsR_id : ∀ k a b, ¬ (a % 5 = 0 ∧ b % 5 = 0) → bsR k a b = (a, b) := by
  intro k
  induction k with
  | zero => intro a b _; rfl
  | succ k ih =>
    intro a b h
    show (if a % 5 = 0 ∧ b % 5 = 0 then bsR k (a / 5) (b / 5) else bsR k a b) = (a, b)
    rw [if_neg h]
    exact ih a b h
theorem cop5 {a : Nat} (h : a % 5 ≠ 0) : Nat.Coprime a 5 := by
  have h1 : a % 5 < 5 := Nat.mod_lt _ (by decide)
  rw [Nat.Coprime, Nat.gcd_comm, Nat.gcd_rec]
  rcases (show a % 5 = 1 ∨ a % 5 = 2 ∨ a % 5 = 3 ∨ a % 5 = 4 by omega) with q | q | q | q <;> rw [q] <;> decide
theorem bsR_gcd : ∀ k m a, m ≤ k → bsR k a (5 ^ m) = (a / Nat.gcd a (5 ^ m), 5 ^ m / Nat.gcd a (5 ^ m)) := by
  intro k
  induction k with
  | zero =>
    intro m a h
    have : m = 0 := by omega
    subst this
    simp [bsR]
  | succ k ih =>
    intro m a h
    show (if a % 5 = 0 ∧ 5 ^ m % 5 = 0 then bsR k (a / 5) (5 ^ m / 5) else bsR k a (5 ^ m)) = _
    by_cases hq : a % 5 = 0 ∧ 5 ^ m % 5 = 0
    · rw [if_pos hq]
      cases m with
      | zero => exact absurd hq.2 (by decide)
      | succ m =>
        obtain ⟨a', ha⟩ : ∃ a', a = 5 * a' := ⟨a / 5, by omega⟩
        subst ha
        have e1 : 5 ^ (m + 1) = 5 * 5 ^ m := by rw [Nat.pow_succ, Nat.mul_comm]
        rw [e1, Nat.mul_div_cancel_left _ (by decide), Nat.mul_div_cancel_left _ (by decide), ih m a' (by omega), Nat.gcd_mul_left, Nat.mul_div_mul_left _ _ (by decide), Nat.mul_div_mul_left _ _ (by decide)]
    · rw [if_neg hq, bsR_id k a _ hq]
      have hc : Nat.gcd a (5 ^ m) = 1 := by
        cases m with
        | zero => simp
        | succ m =>
          have : 5 ^ (m + 1) % 5 = 0 := by rw [Nat.pow_succ]; exact Nat.mul_mod_left _ _
          exact Nat.Coprime.pow_right (m + 1) (cop5 (fun q => hq ⟨q, this⟩))
      rw [hc, Nat.div_one, Nat.div_one]
theorem hit_lo : ∀ b, b < 10 → ∀ q, q < 8 → q ≤ b → nI b - nI q - nI 1 + nI 1 = nI (b - q) := by decide +kernel
theorem hit_hi : ∀ b, b < 10 → ∀ q, q < 8 → ¬ q ≤ b → nI b - nI q - nI 1 + nI 1 < nI 0 := by decide +kernel
section S51
variable {Γ : KK} {l : Launch} {sz : Nat} {μ : MM} {y : Nat}
theorem t7_boasts (v1 v2 v3 v4 v5 : Int32) : CT Γ l 2 sz 0 0 mX7_boasts [.ref y, .int v1, .int v2, .int v3, .int v4, .int v5] μ (ri (fun r μ' => r = opBoasts v1 v2 v3 v4 v5 ∧ μ' = μ)) := by
  refine CT.go RX7 rfl "boasts" rfl [some (.ref y), some (.int v1), some (.int v2), some (.int v3), some (.int v4), some (.int v5), none, none, none, none, none] rfl (by decide) (Nat.le_of_ble_eq_true rfl) ?_
  intro p e R s m args below meth c X hsz
  have bad : ¬ (0 ≤ v1.toInt ∧ v1.toInt ≤ 6) ∨ ¬ (0 ≤ v2.toInt ∧ v2.toInt ≤ 20) ∨ ¬ (0 ≤ v3.toInt ∧ v3.toInt ≤ 5) ∨ ¬ (0 ≤ v4.toInt ∧ v4.toInt ≤ 9) ∨ ¬ (0 ≤ v5.toInt ∧ v5.toInt ≤ 1) → vV Γ p l e R s m args below meth c (vQ Γ s args below 0 0 (ri (fun r μ' => r = opBoasts v1 v2 v3 v4 v5 ∧ μ' = μ))) 11 0 0 57 [some (.ref (y)), some (.int (v1)), some (.int (v2)), some (.int (v3)), some (.int (v4)), some (.int (v5)), none, none, none, none, none] [] (μ) := by
    intro hq
    have eo : opBoasts v1 v2 v3 v4 v5 = -3 := by unfold opBoasts; rw [if_pos hq]
    rw [eo]
    refine r_bipush (pc := 57) (v := -3) X dX7_boasts_57 (by decide) ?_
    exact r_iret (pc := 59) X dX7_boasts_59 (⟨rfl, rfl⟩)
  have good : ∀ k1 k2 k3 k4 : Nat, k1 ≤ 6 → k2 ≤ 20 → k3 ≤ 5 → k4 < 10 → opBoasts v1 v2 v3 v4 v5 = (if v5.toInt = 0 then nI (bsR k1 (bsA k2 k3 k4 k1) (5 ^ k1)).1 else nI (bsR k1 (bsA k2 k3 k4 k1) (5 ^ k1)).2) → vV Γ p l e R s m args below meth c (vQ Γ s args below 0 0 (ri (fun r μ' => r = opBoasts v1 v2 v3 v4 v5 ∧ μ' = μ))) 11 0 0 60 [some (.ref (y)), some (.int (nI (k1))), some (.int (nI (k2))), some (.int (nI (k3))), some (.int (nI (k4))), some (.int (v5)), none, none, none, none, none] [] (μ) := by
    intro k1 k2 k3 k4 l1 l2 l3 l4 eo
    have hp5 := pow5 l1
    have hA := bsA_le k2 k3 k4 k1
    have hp0 : 0 < 5 ^ k1 := Nat.pow_pos (by decide)
    rw [bsR_gcd k1 k1 _ (Nat.le_refl _)] at eo
    have hg0 : 0 < Nat.gcd (bsA k2 k3 k4 k1) (5 ^ k1) := Nat.gcd_pos_of_pos_right _ hp0
    have fin2 : ∀ (N a b : Nat), b < N → a ≤ 15625 → b ≤ 15625 → Nat.gcd a b = Nat.gcd (bsA k2 k3 k4 k1) (5 ^ k1) → vV Γ p l e R s m args below meth c (vQ Γ s args below 0 0 (ri (fun r μ' => r = opBoasts v1 v2 v3 v4 v5 ∧ μ' = μ))) 11 0 0 159 [some (.ref (y)), some (.int (nI (k1))), some (.int (nI (k2))), some (.int (nI (k3))), some (.int (nI (k4))), some (.int (v5)), some (.int (nI (bsA k2 k3 k4 k1))), some (.int (nI (5 ^ k1))), some (.int (nI (a))), some (.int (nI (b))), none] [] (μ) := by
      intro N
      induction N with
      | zero => intro a b hN; omega
      | succ N ih =>
        intro a b hN ha hb hg
        refine r_iload (pc := 159) X dX7_boasts_159 rfl ?_
        first | refine r_if_eqZ (pc := 161) X 182 dX7_boasts_161 (by decide) (fun hz => ?_) (fun hz => ?_) | refine r_if_eqN (pc := 161) X 182 dX7_boasts_161 (by decide) (by omega) (fun hz => ?_) (fun hz => ?_) | refine r_if_eq (pc := 161) X 182 dX7_boasts_161 (by decide) (fun hz => ?_) (fun hz => ?_)
        · rw [hz, Nat.gcd_zero_right] at hg
          rw [hg]
          rw [hg] at ha
          refine r_iload (pc := 182) X dX7_boasts_182 rfl ?_
          refine r_if_ne (pc := 184) X 195 dX7_boasts_184 (by decide) (fun h6 => ?_) (fun h6 => ?_)
          · have h6' : v5.toInt ≠ 0 := fun q => h6 (Int32.toInt_inj.mp (by rw [q]; decide))
            rw [if_neg h6'] at eo
            refine r_iload (pc := 195) X dX7_boasts_195 rfl ?_
            refine r_iload (pc := 197) X dX7_boasts_197 rfl ?_
            first | refine r_idivN (pc := 199) X dX7_boasts_199 (by omega) (by omega) (by omega) ?_ | refine r_idiv (pc := 199) X dX7_boasts_199 (by decide) ?_
            exact r_iret (pc := 200) X dX7_boasts_200 (⟨eo.symm, rfl⟩)
          · have h6' : v5.toInt = 0 := by rw [h6]; decide
            rw [if_pos h6'] at eo
            refine r_iload (pc := 187) X dX7_boasts_187 rfl ?_
            refine r_iload (pc := 189) X dX7_boasts_189 rfl ?_
            first | refine r_idivN (pc := 191) X dX7_boasts_191 (by omega) (by omega) (by omega) ?_ | refine r_idiv (pc := 191) X dX7_boasts_191 (by decide) ?_
            refine r_goto (pc := 192) X 200 dX7_boasts_192 (by decide) ?_
            exact r_iret (pc := 200) X dX7_boasts_200 (⟨eo.symm, rfl⟩)
        · have hm : a % b < b := Nat.mod_lt _ (by omega)
          have := ih b (a % b) (by omega) hb (by omega) (by rw [← hg, Nat.gcd_comm a b, Nat.gcd_rec b a, Nat.gcd_comm])
          refine r_iload (pc := 164) X dX7_boasts_164 rfl ?_
          refine r_iload (pc := 166) X dX7_boasts_166 rfl ?_
          first | refine r_iremN (pc := 168) X dX7_boasts_168 (by omega) (by omega) (by omega) ?_ | refine r_irem (pc := 168) X dX7_boasts_168 (by decide) ?_
          refine r_istore (pc := 169) X dX7_boasts_169 (by decide) rfl ?_
          refine r_iload (pc := 171) X dX7_boasts_171 rfl ?_
          refine r_istore (pc := 173) X dX7_boasts_173 (by decide) rfl ?_
          refine r_iload (pc := 175) X dX7_boasts_175 rfl ?_
          refine r_istore (pc := 177) X dX7_boasts_177 (by decide) rfl ?_
          refine r_goto (pc := 179) X 159 dX7_boasts_179 (by decide) ?_
          exact vV.loc (fun j v hj => by rcases j with _ | _ | _ | _ | _ | _ | _ | _ | _ | _ | _ | j <;> first | exact hj | (simp at hj)) this
    have key : ∀ (N i : Nat), i + N = k1 → vV Γ p l e R s m args below meth c (vQ Γ s args below 0 0 (ri (fun r μ' => r = opBoasts v1 v2 v3 v4 v5 ∧ μ' = μ))) 11 0 0 69 [some (.ref (y)), some (.int (nI (k1))), some (.int (nI (k2))), some (.int (nI (k3))), some (.int (nI (k4))), some (.int (v5)), some (.int (nI (bsA k2 k3 k4 i))), some (.int (nI (5 ^ i))), some (.int (nI (i))), none, none] [] (μ) := by
      intro N
      induction N with
      | zero =>
        intro i hi
        have hi2 : i = k1 := by omega
        subst hi2
        refine r_iload (pc := 69) X dX7_boasts_69 rfl ?_
        refine r_iload_n (pc := 71) X dX7_boasts_71 rfl ?_
        refine r_icmp_geN (pc := 72) X 151 dX7_boasts_72 (by decide) (by omega) (by omega) (fun _ => ?_) (fun h => absurd (Nat.le_refl _) h)
        refine r_iload (pc := 151) X dX7_boasts_151 rfl ?_
        refine r_istore (pc := 153) X dX7_boasts_153 (by decide) rfl ?_
        refine r_iload (pc := 155) X dX7_boasts_155 rfl ?_
        refine r_istore (pc := 157) X dX7_boasts_157 (by decide) rfl ?_
        exact fin2 _ _ _ (Nat.lt_succ_self _) (by omega) hp5 rfl
      | succ N ih =>
        intro i hi
        have hir : i * k3 ≤ 5 * 5 := Nat.mul_le_mul (by omega) l3
        have h8 := ih (i + 1) (by omega)
        have fin : ∀ (f : Nat) (q : Int32), f = fms (k2 + i * k3) k4 → vV Γ p l e R s m args below meth c (vQ Γ s args below 0 0 (ri (fun r μ' => r = opBoasts v1 v2 v3 v4 v5 ∧ μ' = μ))) 11 0 0 136 [some (.ref (y)), some (.int (nI (k1))), some (.int (nI (k2))), some (.int (nI (k3))), some (.int (nI (k4))), some (.int (v5)), some (.int (nI (bsA k2 k3 k4 i))), some (.int (nI (5 ^ i))), some (.int (nI (i))), some (.int (nI (k2 + i * k3))), some (.int (q))] [.int (nI (f)), .int (nI (bsA k2 k3 k4 i))] (μ) := by
          intro f q hf
          subst hf
          first | refine r_imulN (pc := 136) X dX7_boasts_136 ?_ | refine r_imul (pc := 136) X dX7_boasts_136 ?_
          refine r_istore (pc := 137) X dX7_boasts_137 (by decide) rfl ?_
          refine r_iload (pc := 139) X dX7_boasts_139 rfl ?_
          refine r_iconst (pc := 141) (v := nI 5) X dX7_boasts_141 (by decide) ?_
          first | refine r_imulN (pc := 142) X dX7_boasts_142 ?_ | refine r_imul (pc := 142) X dX7_boasts_142 ?_
          refine r_istore (pc := 143) X dX7_boasts_143 (by decide) rfl ?_
          refine r_iincN (pc := 145) (b := 1) X dX7_boasts_145 rfl (by decide) rfl ?_
          refine r_goto (pc := 148) X 69 dX7_boasts_148 (by decide) ?_
          exact vV.loc (fun j v hj => by rcases j with _ | _ | _ | _ | _ | _ | _ | _ | _ | _ | _ | j <;> first | exact hj | (simp at hj)) h8
        have mid : ∀ hits : Nat, hits ≤ 10 → 5 - hits = fms (k2 + i * k3) k4 → vV Γ p l e R s m args below meth c (vQ Γ s args below 0 0 (ri (fun r μ' => r = opBoasts v1 v2 v3 v4 v5 ∧ μ' = μ))) 11 0 0 109 [some (.ref (y)), some (.int (nI (k1))), some (.int (nI (k2))), some (.int (nI (k3))), some (.int (nI (k4))), some (.int (v5)), some (.int (nI (bsA k2 k3 k4 i))), some (.int (nI (5 ^ i))), some (.int (nI (i))), some (.int (nI (k2 + i * k3))), none] [.int (nI (hits))] (μ) := by
          intro hits hh he
          refine r_istore (pc := 109) X dX7_boasts_109 (by decide) rfl ?_
          refine r_iload (pc := 111) X dX7_boasts_111 rfl ?_
          refine r_iload (pc := 113) X dX7_boasts_113 rfl ?_
          first | refine r_if_geN (pc := 115) X 122 dX7_boasts_115 (by decide) (by omega) (fun g1 => ?_) (fun g1 => ?_) | refine r_if_ge (pc := 115) X 122 dX7_boasts_115 (by decide) (fun g1 => ?_) (fun g1 => ?_)
          · refine r_iload (pc := 122) X dX7_boasts_122 rfl ?_
            refine r_iconst (pc := 124) (v := nI 5) X dX7_boasts_124 (by decide) ?_
            first | refine r_icmp_leN (pc := 125) X 132 dX7_boasts_125 (by decide) (by omega) (by omega) (fun g2 => ?_) (fun g2 => ?_) | refine r_icmp_le (pc := 125) X 132 dX7_boasts_125 (by decide) (fun g2 => ?_) (fun g2 => ?_)
            · refine r_iconst (pc := 132) (v := nI 5) X dX7_boasts_132 (by decide) ?_
              refine r_iload (pc := 133) X dX7_boasts_133 rfl ?_
              first | refine r_isubN (pc := 135) X dX7_boasts_135 (by omega) ?_ | refine r_isub (pc := 135) X dX7_boasts_135 ?_
              exact fin _ _ he
            · refine r_iconst (pc := 128) (v := nI 0) X dX7_boasts_128 (by decide) ?_
              refine r_goto (pc := 129) X 136 dX7_boasts_129 (by decide) ?_
              exact fin _ _ (by rw [← he]; omega)
          · exact absurd (Nat.zero_le _) g1
        refine r_iload (pc := 69) X dX7_boasts_69 rfl ?_
        refine r_iload_n (pc := 71) X dX7_boasts_71 rfl ?_
        refine r_icmp_geN (pc := 72) X 151 dX7_boasts_72 (by decide) (by omega) (by omega) (fun h => absurd h (by omega)) (fun _ => ?_)
        refine r_iload_n (pc := 75) X dX7_boasts_75 rfl ?_
        refine r_iload (pc := 76) X dX7_boasts_76 rfl ?_
        refine r_iload_n (pc := 78) X dX7_boasts_78 rfl ?_
        first | refine r_imulN (pc := 79) X dX7_boasts_79 ?_ | refine r_imul (pc := 79) X dX7_boasts_79 ?_
        first | refine r_iaddN (pc := 80) X dX7_boasts_80 ?_ | refine r_iadd (pc := 80) X dX7_boasts_80 ?_
        refine r_istore (pc := 81) X dX7_boasts_81 (by decide) rfl ?_
        refine r_iload (pc := 83) X dX7_boasts_83 rfl ?_
        refine r_bipush (pc := 85) (v := nI 10) X dX7_boasts_85 (by decide) ?_
        first | refine r_icmp_geN (pc := 87) X 95 dX7_boasts_87 (by decide) (by omega) (by omega) (fun g3 => ?_) (fun g3 => ?_) | refine r_icmp_ge (pc := 87) X 95 dX7_boasts_87 (by decide) (fun g3 => ?_) (fun g3 => ?_)
        · refine r_iload (pc := 95) X dX7_boasts_95 rfl ?_
          refine r_iload (pc := 97) X dX7_boasts_97 rfl ?_
          refine r_bipush (pc := 99) (v := nI 10) X dX7_boasts_99 (by decide) ?_
          first | refine r_isubN (pc := 101) X dX7_boasts_101 (by omega) ?_ | refine r_isub (pc := 101) X dX7_boasts_101 ?_
          refine r_iconst (pc := 102) (v := nI 5) X dX7_boasts_102 (by decide) ?_
          first | refine r_idivN (pc := 103) X dX7_boasts_103 (by omega) (by omega) (by omega) ?_ | refine r_idiv (pc := 103) X dX7_boasts_103 (by decide) ?_
          refine r_isub (pc := 104) X dX7_boasts_104 ?_
          refine r_iconst (pc := 105) (v := nI 1) X dX7_boasts_105 (by decide) ?_
          refine r_isub (pc := 106) X dX7_boasts_106 ?_
          refine r_iconst (pc := 107) (v := nI 1) X dX7_boasts_107 (by decide) ?_
          refine r_iadd (pc := 108) X dX7_boasts_108 ?_
          have hq8 : (k2 + i * k3 - 10) / 5 < 8 := by omega
          have hfm : fms (k2 + i * k3) k4 = 5 - (k4 + 1 - ((k2 + i * k3 - 10) / 5 + 1)) := by unfold fms; rw [if_neg (by omega)]
          generalize hqq : (k2 + i * k3 - 10) / 5 = qq at hq8 hfm ⊢
          by_cases hle : qq ≤ k4
          · rw [hit_lo k4 l4 qq hq8 hle]
            exact mid (k4 - qq) (by omega) (by rw [hfm]; omega)
          · have hlt := hit_hi k4 l4 qq hq8 hle
            generalize nI k4 - nI qq - nI 1 + nI 1 = z at hlt ⊢
            refine r_istore (pc := 109) X dX7_boasts_109 (by decide) rfl ?_
            refine r_iload (pc := 111) X dX7_boasts_111 rfl ?_
            refine r_iload (pc := 113) X dX7_boasts_113 rfl ?_
            refine r_if_ge (pc := 115) X 122 dX7_boasts_115 (by decide) (fun g4 => ?_) (fun g4 => ?_)
            · rw [Int32.lt_iff_toInt_lt] at hlt
              rw [Int32.le_iff_toInt_le] at g4
              omega
            · refine r_iconst (pc := 118) (v := nI 5) X dX7_boasts_118 (by decide) ?_
              refine r_goto (pc := 119) X 136 dX7_boasts_119 (by decide) ?_
              exact fin _ _ (by rw [hfm]; omega)
        · refine r_iload (pc := 90) X dX7_boasts_90 rfl ?_
          refine r_goto (pc := 92) X 107 dX7_boasts_92 (by decide) ?_
          refine r_iconst (pc := 107) (v := nI 1) X dX7_boasts_107 (by decide) ?_
          first | refine r_iaddN (pc := 108) X dX7_boasts_108 ?_ | refine r_iadd (pc := 108) X dX7_boasts_108 ?_
          exact mid (k4 + 1) (by omega) (by unfold fms; rw [if_pos (by omega)]; rfl)
    refine r_iconst (pc := 60) (v := nI 1) X dX7_boasts_60 (by decide) ?_
    refine r_istore (pc := 61) X dX7_boasts_61 (by decide) rfl ?_
    refine r_iconst (pc := 63) (v := nI 1) X dX7_boasts_63 (by decide) ?_
    refine r_istore (pc := 64) X dX7_boasts_64 (by decide) rfl ?_
    refine r_iconst (pc := 66) (v := nI 0) X dX7_boasts_66 (by decide) ?_
    refine r_istore (pc := 67) X dX7_boasts_67 (by decide) rfl ?_
    exact key k1 0 (by omega)
  refine r_iload_n (pc := 0) X dX7_boasts_0 rfl ?_
  refine r_i2l (pc := 1) X dX7_boasts_1 rfl ?_
  refine r_lconst (pc := 2) (v := 0) X dX7_boasts_2 (by decide) ?_
  refine r_ldc2 (pc := 3) X k_X7_181 dX7_boasts_3 ?_
  refine c_i X (rS (pc := 6) X l_X7_45 (t7_in v1.toInt64 0 6) dX7_boasts_6 rfl rfl (Nat.le_of_ble_eq_true rfl) (by decide) (Nat.le_of_ble_eq_true rfl) (Nat.le_of_ble_eq_true rfl)) ?_
  rintro _ μq ⟨rfl, hμq⟩
  rw [hμq]
  clear hμq μq
  rw [lt_of_dec (a := 0) (b := 6) (by decide) (by decide)]
  first | refine r_if_eqZ (pc := 9) X 57 dX7_boasts_9 (by decide) (fun h1 => ?_) (fun h1 => ?_) | refine r_if_eqN (pc := 9) X 57 dX7_boasts_9 (by decide) (by omega) (fun h1 => ?_) (fun h1 => ?_) | refine r_if_eq (pc := 9) X 57 dX7_boasts_9 (by decide) (fun h1 => ?_) (fun h1 => ?_)
  · exact bad (Or.inl (by simpa using h1))
  have h1' : 0 ≤ v1.toInt ∧ v1.toInt ≤ 6 := by simpa using h1
  refine r_iload_n (pc := 12) X dX7_boasts_12 rfl ?_
  refine r_i2l (pc := 13) X dX7_boasts_13 rfl ?_
  refine r_lconst (pc := 14) (v := 0) X dX7_boasts_14 (by decide) ?_
  refine r_ldc2 (pc := 15) X k_X7_183 dX7_boasts_15 ?_
  refine c_i X (rS (pc := 18) X l_X7_45 (t7_in v2.toInt64 0 20) dX7_boasts_18 rfl rfl (Nat.le_of_ble_eq_true rfl) (by decide) (Nat.le_of_ble_eq_true rfl) (Nat.le_of_ble_eq_true rfl)) ?_
  rintro _ μq ⟨rfl, hμq⟩
  rw [hμq]
  clear hμq μq
  rw [lt_of_dec (a := 0) (b := 20) (by decide) (by decide)]
  first | refine r_if_eqZ (pc := 21) X 57 dX7_boasts_21 (by decide) (fun h2 => ?_) (fun h2 => ?_) | refine r_if_eqN (pc := 21) X 57 dX7_boasts_21 (by decide) (by omega) (fun h2 => ?_) (fun h2 => ?_) | refine r_if_eq (pc := 21) X 57 dX7_boasts_21 (by decide) (fun h2 => ?_) (fun h2 => ?_)
  · exact bad (Or.inr (Or.inl (by simpa using h2)))
  have h2' : 0 ≤ v2.toInt ∧ v2.toInt ≤ 20 := by simpa using h2
  refine r_iload_n (pc := 24) X dX7_boasts_24 rfl ?_
  refine r_i2l (pc := 25) X dX7_boasts_25 rfl ?_
  refine r_lconst (pc := 26) (v := 0) X dX7_boasts_26 (by decide) ?_
  refine r_ldc2 (pc := 27) X k_X7_185 dX7_boasts_27 ?_
  refine c_i X (rS (pc := 30) X l_X7_45 (t7_in v3.toInt64 0 5) dX7_boasts_30 rfl rfl (Nat.le_of_ble_eq_true rfl) (by decide) (Nat.le_of_ble_eq_true rfl) (Nat.le_of_ble_eq_true rfl)) ?_
  rintro _ μq ⟨rfl, hμq⟩
  rw [hμq]
  clear hμq μq
  rw [lt_of_dec (a := 0) (b := 5) (by decide) (by decide)]
  first | refine r_if_eqZ (pc := 33) X 57 dX7_boasts_33 (by decide) (fun h3 => ?_) (fun h3 => ?_) | refine r_if_eqN (pc := 33) X 57 dX7_boasts_33 (by decide) (by omega) (fun h3 => ?_) (fun h3 => ?_) | refine r_if_eq (pc := 33) X 57 dX7_boasts_33 (by decide) (fun h3 => ?_) (fun h3 => ?_)
  · exact bad (Or.inr (Or.inr (Or.inl (by simpa using h3))))
  have h3' : 0 ≤ v3.toInt ∧ v3.toInt ≤ 5 := by simpa using h3
  refine r_iload (pc := 36) X dX7_boasts_36 rfl ?_
  refine r_i2l (pc := 38) X dX7_boasts_38 rfl ?_
  refine r_lconst (pc := 39) (v := 0) X dX7_boasts_39 (by decide) ?_
  refine r_ldc2 (pc := 40) X k_X7_187 dX7_boasts_40 ?_
  refine c_i X (rS (pc := 43) X l_X7_45 (t7_in v4.toInt64 0 9) dX7_boasts_43 rfl rfl (Nat.le_of_ble_eq_true rfl) (by decide) (Nat.le_of_ble_eq_true rfl) (Nat.le_of_ble_eq_true rfl)) ?_
  rintro _ μq ⟨rfl, hμq⟩
  rw [hμq]
  clear hμq μq
  rw [lt_of_dec (a := 0) (b := 9) (by decide) (by decide)]
  first | refine r_if_eqZ (pc := 46) X 57 dX7_boasts_46 (by decide) (fun h4 => ?_) (fun h4 => ?_) | refine r_if_eqN (pc := 46) X 57 dX7_boasts_46 (by decide) (by omega) (fun h4 => ?_) (fun h4 => ?_) | refine r_if_eq (pc := 46) X 57 dX7_boasts_46 (by decide) (fun h4 => ?_) (fun h4 => ?_)
  · exact bad (Or.inr (Or.inr (Or.inr (Or.inl (by simpa using h4)))))
  have h4' : 0 ≤ v4.toInt ∧ v4.toInt ≤ 9 := by simpa using h4
  refine r_iload (pc := 49) X dX7_boasts_49 rfl ?_
  refine c_i X (rS (pc := 51) X l_X7_169 (t7_isWhat v5) dX7_boasts_51 rfl rfl (Nat.le_of_ble_eq_true rfl) (by decide) (Nat.le_of_ble_eq_true rfl) (Nat.le_of_ble_eq_true rfl)) ?_
  rintro _ μq ⟨rfl, hμq⟩
  rw [hμq]
  clear hμq μq
  first | refine r_if_neZ (pc := 54) X 60 dX7_boasts_54 (by decide) (fun h5 => ?_) (fun h5 => ?_) | refine r_if_neN (pc := 54) X 60 dX7_boasts_54 (by decide) (by omega) (fun h5 => ?_) (fun h5 => ?_) | refine r_if_ne (pc := 54) X 60 dX7_boasts_54 (by decide) (fun h5 => ?_) (fun h5 => ?_)
  · have h5' : 0 ≤ v5.toInt ∧ v5.toInt ≤ 1 := by simpa using h5
    have hv1 := nt_nI h1'.1
    have hv2 := nt_nI h2'.1
    have hv3 := nt_nI h3'.1
    have hv4 := nt_nI h4'.1
    have hq := good (nt v1) (nt v2) (nt v3) (nt v4) (by unfold nt; omega) (by unfold nt; omega) (by unfold nt; omega) (by unfold nt; omega) (by unfold opBoasts; rw [if_neg (by omega)])
    rw [← hv1, ← hv2, ← hv3, ← hv4] at hq
    exact hq
  · exact bad (Or.inr (Or.inr (Or.inr (Or.inr (by simpa using h5)))))
end S51
