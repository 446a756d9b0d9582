section S41
variable {Γ : KK} {l : Launch} {sz : Nat} {μ : MM} {y n : Nat} {pl tk vl bg cl : Int32} {un sn : Nat} {T S : Nat → Nat}
/-- the first i men looked at -/
def eatI (S : Nat → Nat) (n i : Nat) : Nat → Nat := fun k => if 6 ≤ k ∧ k < 6 + i ∧ eatP S n (k - 6) = true then 2 else if 12 ≤ k ∧ k < 12 + i ∧ eatP S n (k - 12) = true then 0 else S k
theorem eatI_0 (S : Nat → Nat) (n : Nat) : eatI S n 0 = S := by
  funext k
  unfold eatI
  rw [if_neg (by omega), if_neg (by omega)]
theorem eatI_n {S : Nat → Nat} {n i : Nat} (hi : i < 6) (h : eatP S n i = false) : eatI S n (i + 1) = eatI S n i := by
  funext k
  unfold eatI
  by_cases h1 : k = 6 + i
  · subst h1
    rw [show 6 + i - 6 = i by omega, h]
    rw [if_neg (by simp), if_neg (by omega), if_neg (by omega), if_neg (by omega)]
  · by_cases h2 : k = 12 + i
    · subst h2
      rw [show 12 + i - 12 = i by omega, h]
      rw [if_neg (by omega), if_neg (by simp), if_neg (by omega), if_neg (by omega)]
    · have e1 : (6 ≤ k ∧ k < 6 + (i + 1) ∧ eatP S n (k - 6) = true) = (6 ≤ k ∧ k < 6 + i ∧ eatP S n (k - 6) = true) := propext ⟨fun q => ⟨q.1, by omega, q.2.2⟩, fun q => ⟨q.1, by omega, q.2.2⟩⟩
      have e2 : (12 ≤ k ∧ k < 12 + (i + 1) ∧ eatP S n (k - 12) = true) = (12 ≤ k ∧ k < 12 + i ∧ eatP S n (k - 12) = true) := propext ⟨fun q => ⟨q.1, by omega, q.2.2⟩, fun q => ⟨q.1, by omega, q.2.2⟩⟩
      simp only [e1, e2]
theorem eatI_y {S : Nat → Nat} {n i : Nat} (hi : i < 6) (h : eatP S n i = true) : eatI S n (i + 1) = upN (upN (eatI S n i) (6 + i) 2) (12 + i) 0 := by
  funext k
  unfold upN
  by_cases h2 : k = 12 + i
  · subst h2
    rw [if_pos rfl]
    unfold eatI
    rw [if_neg (by omega), if_pos ⟨by omega, by omega, by rw [show 12 + i - 12 = i by omega]; exact h⟩]
  · rw [if_neg h2]
    by_cases h1 : k = 6 + i
    · subst h1
      rw [if_pos rfl]
      unfold eatI
      rw [if_pos ⟨by omega, by omega, by rw [show 6 + i - 6 = i by omega]; exact h⟩]
    · rw [if_neg h1]
      unfold eatI
      have e1 : (6 ≤ k ∧ k < 6 + (i + 1) ∧ eatP S n (k - 6) = true) = (6 ≤ k ∧ k < 6 + i ∧ eatP S n (k - 6) = true) := propext ⟨fun q => ⟨q.1, by omega, q.2.2⟩, fun q => ⟨q.1, by omega, q.2.2⟩⟩
      have e2 : (12 ≤ k ∧ k < 12 + (i + 1) ∧ eatP S n (k - 12) = true) = (12 ≤ k ∧ k < 12 + i ∧ eatP S n (k - 12) = true) := propext ⟨fun q => ⟨q.1, by omega, q.2.2⟩, fun q => ⟨q.1, by omega, q.2.2⟩⟩
      simp only [e1, e2]
theorem eatI_fresh {S : Nat → Nat} {n i : Nat} (hi : i < 6) : eatI S n i (6 + i) = S (6 + i) := by
  unfold eatI
  rw [if_neg (by omega), if_neg (by omega)]
theorem popc_or : ∀ i, i < 6 → ∀ x, x < 64 → x.testBit i = false → popc (x ||| 1 <<< i) = popc x + 1 := by decide +kernel
/-- so many were eaten so far -/
theorem popc_eat (S : Nat → Nat) (n : Nat) : ∀ i, i ≤ 6 → popc (mkb i (eatP S n)) = min (cIn S i) n := by
  intro i
  induction i with
  | zero =>
    intro _
    have h0 : popc 0 = 0 := by decide
    show popc 0 = min 0 n
    rw [h0]
    omega
  | succ i ih =>
    intro hi
    have h1 := ih (by omega)
    have hc : cIn S (i + 1) = cIn S i + (if S (6 + i) = 0 then 1 else 0) := rfl
    rw [mkb_succ]
    by_cases hp : eatP S n i = true
    · rw [if_pos hp, popc_or i (by omega) _ (mkb_lt64 (by omega) _) (by rw [mkb_test]; simp), h1, hc]
      unfold eatP at hp
      simp at hp
      rw [if_pos hp.1]
      omega
    · rw [if_neg hp, Nat.or_zero, h1, hc]
      unfold eatP at hp
      simp at hp
      by_cases h0 : S (6 + i) = 0
      · have := hp h0
        rw [if_pos h0]
        omega
      · rw [if_neg h0]; rfl
theorem t7_eatFirst {k' : Nat} (hO : μ y = some (mdO y n pl tk vl bg cl un sn)) (hT : μ (y + 1) = some (xI Γ 29 (fun i => nI (T i)))) (hS : μ (y + 2) = some (xI Γ 18 (stI S))) (h6 : T 0 ≤ 6) (hb : ∀ m, m < 6 → S (6 + m) ≤ 2) (hk : k' ≤ 6) : CT Γ l 1 sz 0 0 mX7_eatFirst [.ref y, .int (nI k')] μ (ri (fun r μ' => r = nI (mkb (T 0) (eatP S k')) ∧ μ' = mu μ (y + 2) (xI Γ 18 (stI (eatS (T 0) k' S))))) := by
  refine CT.go RX7 rfl "eatFirst" rfl [some (.ref y), some (.int (nI k')), none, none] rfl (by decide) (Nat.le_of_ble_eq_true rfl) ?_
  intro p e R s m args below meth c X hsz
  refine r_iconst (pc := 0) (v := nI 0) X dX7_eatFirst_0 (by decide) ?_
  refine r_istore_n (pc := 1) X dX7_eatFirst_1 (by decide) rfl ?_
  refine r_iconst (pc := 2) (v := nI 0) X dX7_eatFirst_2 (by decide) ?_
  refine r_istore_n (pc := 3) X dX7_eatFirst_3 (by decide) rfl ?_
  have key : ∀ (N i : Nat) (μ1 : MM), i + N = T 0 → μ1 = mu μ (y + 2) (xI Γ 18 (stI (eatI S k' i))) → vV Γ p l e R s m args below meth c (vQ Γ s args below 0 0 (ri (fun r μ' => r = nI (mkb (T 0) (eatP S k')) ∧ μ' = mu μ (y + 2) (xI Γ 18 (stI (eatS (T 0) k' S)))))) 4 0 0 4 [some (.ref (y)), some (.int (nI (k'))), some (.int (nI (mkb i (eatP S k')))), some (.int (nI (i)))] [] (μ1) := by
    intro N
    induction N with
    | zero =>
      intro i μ1 hi hμ
      subst hμ
      have hi2 : i = T 0 := by omega
      subst hi2
      refine r_iload_n (pc := 4) X dX7_eatFirst_4 rfl ?_
      refine r_aload_n (pc := 5) X dX7_eatFirst_5 rfl ?_
      apply r_get (pc := 6) X f_X7_7 dX7_eatFirst_6
      · repeat (first | exact mu_self | assumption | refine (mu_ne (by omega)).trans ?_)
      · rfl
      refine r_iconst (pc := 9) (v := nI 0) X dX7_eatFirst_9 (by decide) ?_
      apply r_iald (pc := 10) X dX7_eatFirst_10
      · repeat (first | exact mu_self | assumption | refine (mu_ne (by omega)).trans ?_)
      · omega
      · decide
      refine r_icmp_geN (pc := 11) X 47 dX7_eatFirst_11 (by decide) (by omega) (by omega) (fun _ => ?_) (fun h => absurd (Nat.le_refl _) h)
      refine r_iload_n (pc := 47) X dX7_eatFirst_47 rfl ?_
      exact r_iret (pc := 48) X dX7_eatFirst_48 (⟨rfl, rfl⟩)
    | succ N ih =>
      intro i μ1 hi hμ
      subst hμ
      have hbi := hb i (by omega)
      have hpe := popc_eat S k' i (by omega)
      have hcl := cIn_le S i
      have hO1 : mu μ (y + 2) (xI Γ 18 (stI (eatI S k' i))) y = some (mdO y n pl tk vl bg cl un sn) := (mu_ne (by omega)).trans hO
      have no : eatP S k' i = false → vV Γ p l e R s m args below meth c (vQ Γ s args below 0 0 (ri (fun r μ' => r = nI (mkb (T 0) (eatP S k')) ∧ μ' = mu μ (y + 2) (xI Γ 18 (stI (eatS (T 0) k' S)))))) 4 0 0 41 [some (.ref (y)), some (.int (nI (k'))), some (.int (nI (mkb i (eatP S k')))), some (.int (nI (i)))] [] (mu μ (y + 2) (xI Γ 18 (stI (eatI S k' i)))) := by
        intro hq
        have e1 : mkb (i + 1) (eatP S k') = mkb i (eatP S k') := by rw [mkb_succ, hq]; simp
        have := ih (i + 1) _ (by omega) rfl
        rw [e1, eatI_n (by omega) hq] at this
        refine r_iincN (pc := 41) (b := 1) X dX7_eatFirst_41 rfl (by decide) rfl ?_
        refine r_goto (pc := 44) X 4 dX7_eatFirst_44 (by decide) ?_
        exact this
      refine r_iload_n (pc := 4) X dX7_eatFirst_4 rfl ?_
      refine r_aload_n (pc := 5) X dX7_eatFirst_5 rfl ?_
      apply r_get (pc := 6) X f_X7_7 dX7_eatFirst_6
      · repeat (first | exact mu_self | assumption | refine (mu_ne (by omega)).trans ?_)
      · rfl
      refine r_iconst (pc := 9) (v := nI 0) X dX7_eatFirst_9 (by decide) ?_
      apply r_iald (pc := 10) X dX7_eatFirst_10
      · repeat (first | exact mu_self | assumption | refine (mu_ne (by omega)).trans ?_)
      · omega
      · decide
      refine r_icmp_geN (pc := 11) X 47 dX7_eatFirst_11 (by decide) (by omega) (by omega) (fun h => absurd h (by omega)) (fun _ => ?_)
      refine r_aload_n (pc := 14) X dX7_eatFirst_14 rfl ?_
      refine r_iload_n (pc := 15) X dX7_eatFirst_15 rfl ?_
      refine c_i X (rV (pc := 16) (ci := 7) X l_X7_147 (t7_isIn (S := eatI S k' i) (m' := i) hO1 mu_self (by omega) (by rw [eatI_fresh (by omega)]; exact hbi)) dX7_eatFirst_16 (by repeat (first | exact mu_self | assumption | refine (mu_ne (by omega)).trans ?_)) rfl rfl rfl (Nat.le_of_ble_eq_true rfl) (by decide) (Nat.le_of_ble_eq_true rfl) (Nat.le_of_ble_eq_true rfl)) ?_
      rintro _ μq ⟨rfl, hμq⟩
      rw [hμq]
      clear hμq μq
      rw [eatI_fresh (by omega)]
      first | refine r_if_eqZ (pc := 19) X 41 dX7_eatFirst_19 (by decide) (fun h2 => ?_) (fun h2 => ?_) | refine r_if_eqN (pc := 19) X 41 dX7_eatFirst_19 (by decide) (by omega) (fun h2 => ?_) (fun h2 => ?_) | refine r_if_eq (pc := 19) X 41 dX7_eatFirst_19 (by decide) (fun h2 => ?_) (fun h2 => ?_)
      · exact no (by unfold eatP; simp at h2; simp [h2])
      · have h2' : S (6 + i) = 0 := by simpa using h2
        refine r_iload_n (pc := 22) X dX7_eatFirst_22 rfl ?_
        refine c_i X (rS (pc := 23) X l_X7_150 (t7_ones (mkb_lt64 (show i ≤ 6 by omega) _)) dX7_eatFirst_23 rfl rfl (Nat.le_of_ble_eq_true rfl) (by decide) (Nat.le_of_ble_eq_true rfl) (Nat.le_of_ble_eq_true rfl)) ?_
        rintro _ μq ⟨rfl, hμq⟩
        rw [hμq]
        clear hμq μq
        rw [hpe]
        refine r_iload_n (pc := 26) X dX7_eatFirst_26 rfl ?_
        first | refine r_icmp_geN (pc := 27) X 41 dX7_eatFirst_27 (by decide) (by omega) (by omega) (fun h3 => ?_) (fun h3 => ?_) | refine r_icmp_ge (pc := 27) X 41 dX7_eatFirst_27 (by decide) (fun h3 => ?_) (fun h3 => ?_)
        · exact no (by unfold eatP; exact decide_eq_false (fun q => by omega))
        · have hq : eatP S k' i = true := by unfold eatP; exact decide_eq_true ⟨h2', by omega⟩
          refine r_aload_n (pc := 30) X dX7_eatFirst_30 rfl ?_
          refine r_iload_n (pc := 31) X dX7_eatFirst_31 rfl ?_
          refine c_v X (rV (pc := 32) (ci := 7) X l_X7_153 (t7_eat (S := eatI S k' i) (m' := i) hO1 mu_self (by omega)) dX7_eatFirst_32 (by repeat (first | exact mu_self | assumption | refine (mu_ne (by omega)).trans ?_)) rfl rfl rfl (Nat.le_of_ble_eq_true rfl) (by decide) (Nat.le_of_ble_eq_true rfl) (Nat.le_of_ble_eq_true rfl)) ?_
          rintro μ2 rfl
          have e1 : mkb (i + 1) (eatP S k') = mkb i (eatP S k') ||| 1 <<< i := by rw [mkb_succ, hq]; simp
          have := ih (i + 1) _ (by omega) rfl
          rw [e1, eatI_y (by omega) hq] at this
          rw [mu_mu]
          refine r_iload_n (pc := 35) X dX7_eatFirst_35 rfl ?_
          refine r_iconst (pc := 36) (v := nI 1) X dX7_eatFirst_36 (by decide) ?_
          refine r_iload_n (pc := 37) X dX7_eatFirst_37 rfl ?_
          first | refine r_ishlN (pc := 38) X dX7_eatFirst_38 (by omega) ?_ | refine r_ishl (pc := 38) X dX7_eatFirst_38 ?_
          first | refine r_iorN (pc := 39) X dX7_eatFirst_39 ?_ | refine r_ior (pc := 39) X dX7_eatFirst_39 ?_
          refine r_istore_n (pc := 40) X dX7_eatFirst_40 (by decide) rfl ?_
          refine r_iincN (pc := 41) (b := 1) X dX7_eatFirst_41 rfl (by decide) rfl ?_
          refine r_goto (pc := 44) X 4 dX7_eatFirst_44 (by decide) ?_
          exact this
  have hq := key (T 0) 0 (mu μ (y + 2) (xI Γ 18 (stI (eatI S k' 0)))) (by omega) rfl
  refine vV.sub (μ' := mu μ (y + 2) (xI Γ 18 (stI (eatI S k' 0)))) (fun H hP => ?_) hq
  rw [eatI_0]
  have : mu μ (y + 2) (xI Γ 18 (stI S)) = μ := by
    funext q
    by_cases hq : q = y + 2
    · subst hq; rw [mu_self, hS]
    · rw [mu_ne hq]
  rw [this]
  exact hP
end S41
