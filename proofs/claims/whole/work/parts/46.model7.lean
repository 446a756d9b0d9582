section S46
variable {Γ : KK} {l : Launch} {sz : Nat} {μ : MM} {y : Nat} {T S : Nat → Nat} {un : Nat} {A : Nat → Nat → Nat} {kf : Nat → Bool} {K : Nat → Nat → Nat} {n : Nat} {xs : Nat → Nat} {sn : Nat} {V : Nat → Nat}
/-- the first i men looked at in the morning -/
def morI (T S : Nat → Nat) (i : Nat) : Nat → Nat := fun k => if k = 5 then gnS T S i else if 6 ≤ k ∧ k < 6 + i ∧ S (6 + k) ≠ 0 then (if mornP T S (k - 6) = true then 1 else 2) else if 12 ≤ k ∧ k < 12 + i then 0 else S k
theorem morI_0 (T S : Nat → Nat) : morI T S 0 = S := by
  funext k
  unfold morI
  rw [if_neg (fun q => by omega : ¬ (6 ≤ k ∧ k < 6 + 0 ∧ S (6 + k) ≠ 0)), if_neg (by omega : ¬ (12 ≤ k ∧ k < 12 + 0))]
  by_cases h : k = 5
  · rw [if_pos h, h]; rfl
  · rw [if_neg h]
theorem mornP_0 {T S : Nat → Nat} {i : Nat} (h : S (12 + i) = 0) : mornP T S i = false := by unfold mornP; simp [h]
theorem morI_n {T S : Nat → Nat} {i : Nat} (hi : i < 6) (h : S (12 + i) = 0) : morI T S (i + 1) = morI T S i := by
  funext k
  have hg : gnS T S (i + 1) = gnS T S i := by
    show (if mornP T S i = true then _ else gnS T S i) = gnS T S i
    rw [mornP_0 h]; rfl
  unfold morI
  rw [hg]
  by_cases h5 : k = 5
  · rw [if_pos h5, if_pos h5]
  · rw [if_neg h5, if_neg h5]
    by_cases h1 : k = 6 + i
    · subst h1
      rw [if_neg (fun q => q.2.2 (by rw [show 6 + (6 + i) = 12 + i by omega]; exact h)), if_neg (fun q => by omega), if_neg (by omega), if_neg (by omega)]
    · by_cases h2 : k = 12 + i
      · subst h2
        rw [if_neg (fun q => by omega), if_pos (by omega), if_neg (fun q => by omega), if_neg (by omega), h]
      · have e1 : (6 ≤ k ∧ k < 6 + (i + 1) ∧ S (6 + k) ≠ 0) = (6 ≤ k ∧ k < 6 + i ∧ S (6 + k) ≠ 0) := propext ⟨fun q => ⟨q.1, by omega, q.2.2⟩, fun q => ⟨q.1, by omega, q.2.2⟩⟩
        have e2 : (12 ≤ k ∧ k < 12 + (i + 1)) = (12 ≤ k ∧ k < 12 + i) := propext (by omega)
        simp only [e1, e2]
theorem morI_y {T S : Nat → Nat} {i w : Nat} (hi : i < 6) (h : S (12 + i) = w + 1) : morI T S (i + 1) = upN (upN (upN (morI T S i) (6 + i) (if mornP T S i = true then 1 else 2)) 5 (gnS T S i ||| (if mornP T S i = true then 1 <<< w else 0))) (12 + i) 0 := by
  funext k
  have hg : gnS T S (i + 1) = gnS T S i ||| (if mornP T S i = true then 1 <<< w else 0) := by
    show (if mornP T S i = true then gnS T S i ||| 1 <<< (S (12 + i) - 1) else gnS T S i) = _
    rw [h]
    by_cases hp : mornP T S i = true
    · rw [if_pos hp, if_pos hp]; rfl
    · rw [if_neg hp, if_neg hp, Nat.or_zero]
  unfold upN
  by_cases h2 : k = 12 + i
  · subst h2
    rw [if_pos rfl]
    unfold morI
    rw [if_neg (by omega), if_neg (fun q => by omega), if_pos (by omega)]
  · rw [if_neg h2]
    by_cases h5 : k = 5
    · rw [if_pos h5]
      unfold morI
      rw [if_pos h5, hg]
    · rw [if_neg h5]
      by_cases h1 : k = 6 + i
      · subst h1
        rw [if_pos rfl]
        unfold morI
        rw [if_neg h5, if_pos ⟨by omega, by omega, by rw [show 6 + (6 + i) = 12 + i by omega, h]; omega⟩, show 6 + i - 6 = i by omega]
      · rw [if_neg h1]
        unfold morI
        have e1 : (6 ≤ k ∧ k < 6 + (i + 1) ∧ S (6 + k) ≠ 0) = (6 ≤ k ∧ k < 6 + i ∧ S (6 + k) ≠ 0) := propext ⟨fun q => ⟨q.1, by omega, q.2.2⟩, fun q => ⟨q.1, by omega, q.2.2⟩⟩
        have e2 : (12 ≤ k ∧ k < 12 + (i + 1)) = (12 ≤ k ∧ k < 12 + i) := propext (by omega)
        rw [if_neg h5, if_neg h5]
        simp only [e1, e2]
theorem morI_men {T S : Nat → Nat} (hI : IS T S) (h6 : T 0 ≤ 6) : morI T S (T 0) = morS T S ∧ mkb (T 0) (mornP T S) = mkb 6 (mornP T S) := by
  have key : ∀ (d i : Nat), i + d = 6 → T 0 ≤ i → morI T S i = morI T S 6 ∧ mkb i (mornP T S) = mkb 6 (mornP T S) := by
    intro d
    induction d with
    | zero => intro i hi _; rw [show i = 6 by omega]; exact ⟨rfl, rfl⟩
    | succ d ih =>
      intro i hi hm
      have h0 : S (12 + i) = 0 := by
        by_cases q : S (12 + i) = 0
        · exact q
        · have := hI.2.2.2.2.2.2.2.1 i (by omega) q; omega
      have := ih (i + 1) (by omega) (by omega)
      rw [morI_n (by omega) h0, mkb_succ, mornP_0 h0] at this
      simpa using this
  have := key (6 - T 0) (T 0) (by omega) (Nat.le_refl _)
  exact ⟨this.1, this.2⟩
end S46
