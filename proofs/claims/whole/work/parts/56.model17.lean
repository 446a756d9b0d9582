def wv (f : Nat → Nat) : Nat → Nat
  | 0 => 0
  | k + 1 => 27 * wv f k + (f k - 96)
def wcd (k : Nat) : Nat := [60377, 9518, 338300818, 13162, 400360, 43347, 279252, 459653, 10337371, 158683, 99703].getD k 0
theorem wv_inj : ∀ (a b : Nat) (f g : Nat → Nat), (∀ j, j < a → 97 ≤ f j ∧ f j ≤ 122) → (∀ j, j < b → 97 ≤ g j ∧ g j ≤ 122) → wv f a = wv g b → a = b ∧ ∀ j, j < a → f j = g j := by
  intro a
  induction a with
  | zero =>
    intro b f g hf hg h
    cases b with
    | zero => exact ⟨rfl, fun j hj => by omega⟩
    | succ b =>
      have := hg b (by omega)
      have e : wv g (b + 1) = 27 * wv g b + (g b - 96) := rfl
      have e0 : wv f 0 = 0 := rfl
      omega
  | succ a ih =>
    intro b f g hf hg h
    have h1 := hf a (by omega)
    have e1 : wv f (a + 1) = 27 * wv f a + (f a - 96) := rfl
    cases b with
    | zero =>
      have e0 : wv g 0 = 0 := rfl
      omega
    | succ b =>
      have h2 := hg b (by omega)
      have e2 : wv g (b + 1) = 27 * wv g b + (g b - 96) := rfl
      have e3 : wv f a = wv g b ∧ f a = g b := by omega
      obtain ⟨q1, q2⟩ := ih b f g (fun j hj => hf j (by omega)) (fun j hj => hg j (by omega)) e3.1
      subst q1
      refine ⟨rfl, fun j hj => ?_⟩
      by_cases hq : j = a
      · rw [hq]; exact e3.2
      · exact q2 j (by omega)
theorem wv_congr {f g : Nat → Nat} : ∀ a, (∀ j, j < a → f j = g j) → wv f a = wv g a := by
  intro a
  induction a with
  | zero => intro _; rfl
  | succ a ih =>
    intro h
    show 27 * wv f a + (f a - 96) = 27 * wv g a + (g a - 96)
    rw [ih (fun j hj => h j (by omega)), h a (by omega)]
theorem wv_lt {f : Nat → Nat} : ∀ a, (∀ j, j < a → f j ≤ 122) → wv f a < 27 ^ a := by
  intro a
  induction a with
  | zero => intro _; show 0 < 1; decide
  | succ a ih =>
    intro h
    have h1 := ih (fun j hj => h j (by omega))
    have h2 := h a (by omega)
    show 27 * wv f a + (f a - 96) < 27 ^ (a + 1)
    rw [Nat.pow_succ]
    omega
theorem wcd_ok : ∀ k, k < 11 → wv (spl k) (strL.getD k 0) = wcd k := by decide +kernel
theorem spl_ok : ∀ k, k < 11 → ∀ j, j < strL.getD k 0 → 97 ≤ spl k j ∧ spl k j ≤ 122 := by decide +kernel
theorem strL_ok : ∀ k, k < 11 → 3 ≤ strL.getD k 0 ∧ strL.getD k 0 ≤ 6 := by decide
/-- the number of the word from b to e, as the reference makes it -/
def wdN (xs : Nat → Nat) (n b e : Nat) : Nat := if tkK xs n b = 1 then wv (fun j => xs (b + j)) (min 9 (e - b)) else 0
theorem alln_y {n : Nat} {p : Nat → Bool} (h : alln n p = true) : ∀ j, j < n → p j = true := by
  intro j hj
  cases hp : p j with
  | true => rfl
  | false => rw [alln_no hj hp] at h; exact absurd h (by decide)
theorem alln_of {n : Nat} {p : Nat → Bool} (h : ∀ j, j < n → p j = true) : alln n p = true := by
  induction n with
  | zero => rfl
  | succ n ih =>
    show (alln n p && p n) = true
    rw [ih (fun j hj => h j (by omega)), h n (by omega)]
    rfl
theorem tkE_sm {xs : Nat → Nat} {n b j : Nat} (hk : tkK xs n b = 1) (h1 : b ≤ j) (h2 : j < tkE xs n b) : isSm (xs j) = true := by
  have hb : isSm (xs b) = true := by
    unfold tkK at hk
    split at hk
    · omega
    · split at hk
      · assumption
      · split at hk <;> omega
  by_cases hj : j = b
  · rw [hj]; exact hb
  · unfold tkE at h2
    split at h2
    · omega
    · have h3 := rn_all (P := tkq (xs b)) (by omega) (show b + 1 ≤ j by omega) h2
      have hs : isDg (xs b) = false := by unfold isSm at hb; unfold isDg; simp at *; omega
      unfold tkq at h3
      simpa [hs, hb] using h3
theorem isSm_iff {c : Nat} : isSm c = true ↔ 97 ≤ c ∧ c ≤ 122 := by unfold isSm; simp
theorem tkIs_iff {xs : Nat → Nat} {n b k : Nat} (hk : k < 11) : tkIs xs b (tkE xs n b) k = true ↔ wdN xs n b (tkE xs n b) = wcd k := by
  have hl := strL_ok k hk
  have hc0 : ∀ k, k < 11 → wcd k ≠ 0 := by decide
  unfold wdN tkIs
  constructor
  · intro h
    simp only [Bool.and_eq_true, beq_iff_eq] at h
    obtain ⟨h1, h2⟩ := h
    have h3 := alln_y h2
    have h4 : ∀ j, j < strL.getD k 0 → xs (b + j) = spl k j := fun j hj => by simpa using h3 j hj
    have hbn : b < n := by
      refine Nat.lt_of_not_le (fun q => ?_)
      have : tkE xs n b = b := by unfold tkE; rw [if_pos q]
      omega
    have h5 : tkK xs n b = 1 := by
      unfold tkK
      rw [if_neg (by omega), if_pos]
      have := h4 0 (by omega)
      rw [show b + 0 = b from rfl] at this
      rw [this]
      exact isSm_iff.mpr (spl_ok k hk 0 (by omega))
    rw [if_pos h5, show min 9 (tkE xs n b - b) = strL.getD k 0 by omega, ← wcd_ok k hk]
    exact wv_congr _ h4
  · intro h
    by_cases h5 : tkK xs n b = 1
    · rw [if_pos h5, ← wcd_ok k hk] at h
      obtain ⟨q1, q2⟩ := wv_inj _ _ _ _ (fun j hj => isSm_iff.mp (tkE_sm h5 (show b ≤ b + j by omega) (by omega))) (spl_ok k hk) h
      simp only [Bool.and_eq_true, beq_iff_eq]
      refine ⟨by omega, alln_of (fun j hj => ?_)⟩
      have := q2 j (by omega)
      simpa using this
    · rw [if_neg h5] at h
      exact absurd h.symm (hc0 k hk)
def vbc (W : Nat) : Nat := if W = wcd 2 then 1 else if W = wcd 3 then 2 else if W = wcd 4 then 3 else if W = wcd 5 then 4 else if W = wcd 0 then 5 else if W = wcd 1 then 6 else if W = wcd 6 then 7 else if W = wcd 7 then 8 else if W = wcd 8 then 9 else if W = wcd 9 then 10 else if W = wcd 10 then 11 else 0
def vbOf (w : Nat) : Nat := [0, 5, 6, 1, 2, 3, 4, 7, 8, 9, 10, 11].getD w 0
theorem vbc_at : ∀ k, k < 11 → vbc (wcd k) = vbOf (k + 1) := by decide
theorem fstF_none {P : Nat → Bool} : ∀ f i, fstF P f i = 0 → ∀ j, i ≤ j → j < i + f → P j = false := by
  intro f
  induction f with
  | zero => intro i _ j h1 h2; omega
  | succ f ih =>
    intro i h j h1 h2
    have h' : (if P i = true then i + 1 else fstF P f (i + 1)) = 0 := h
    by_cases hp : P i = true
    · rw [if_pos hp] at h'; omega
    · rw [if_neg hp] at h'
      by_cases hj : j = i
      · rw [hj]; simpa using hp
      · exact ih (i + 1) h' j (by omega) (by omega)
theorem vbc_eq {xs : Nat → Nat} {n b : Nat} : vbc (wdN xs n b (tkE xs n b)) = vbOf (fstF (tkIs xs b (tkE xs n b)) 11 0) := by
  have hle := fstF_le (tkIs xs b (tkE xs n b)) 11 0
  rcases Nat.eq_zero_or_pos (fstF (tkIs xs b (tkE xs n b)) 11 0) with g | g
  · have hno := fstF_none 11 0 g
    have hne : ∀ k, k < 11 → wdN xs n b (tkE xs n b) ≠ wcd k := fun k hk q => by
      have h1 := hno k (by omega) (by omega)
      rw [(tkIs_iff hk).mpr q] at h1
      exact absurd h1 (by decide)
    rw [g]
    unfold vbc
    rw [if_neg (hne 2 (by omega)), if_neg (hne 3 (by omega)), if_neg (hne 4 (by omega)), if_neg (hne 5 (by omega)), if_neg (hne 0 (by omega)), if_neg (hne 1 (by omega)), if_neg (hne 6 (by omega)), if_neg (hne 7 (by omega)), if_neg (hne 8 (by omega)), if_neg (hne 9 (by omega)), if_neg (hne 10 (by omega))]
    rfl
  · obtain ⟨k, hk⟩ : ∃ k, fstF (tkIs xs b (tkE xs n b)) 11 0 = k + 1 := ⟨fstF (tkIs xs b (tkE xs n b)) 11 0 - 1, by omega⟩
    have h1 := fstF_at hk
    rw [(tkIs_iff (by omega)).mp h1, hk, vbc_at k (by omega)]
def spv (w : Int64) (x : Int32) : Int64 := if x = nI 0 then w else w * 27 + x.toInt64 - 97 + 1
def spf (x : Int32) : Int64 := 0 * 27 + (if x = nI 0 then nI 0 else x - nI 97 + nI 1).toInt64
theorem spv_y {w : Int64} {x : Int32} (h : x = nI 0) : spv w x = w := if_pos h
theorem spv_n {w : Int64} {x : Int32} (h : ¬ x = nI 0) : spv w x = w * 27 + x.toInt64 - 97 + 1 := if_neg h
section S56
variable {Γ : KK} {l : Launch} {sz : Nat} {μ : MM} {y n : Nat} {pl tk vl bg cl : Int32} {un sn : Nat} {xs : Nat → Nat}
theorem t7_spelt (v0 v1 v2 v3 v4 v5 v6 : Int32) : CT Γ l 0 sz 0 0 mX7_spelt [.int v0, .int v1, .int v2, .int v3, .int v4, .int v5, .int v6] μ (rl (fun r μ' => r = spv (spv (spv (spv (spv (spv (spf v0) v1) v2) v3) v4) v5) v6 ∧ μ' = μ)) := by
  refine CT.go RX7 rfl "spelt" rfl [some (.int v0), some (.int v1), some (.int v2), some (.int v3), some (.int v4), some (.int v5), some (.int v6), none, none] rfl (by decide) (Nat.le_of_ble_eq_true rfl) ?_
  intro p e R s m args below meth c X hsz
  have s6 : ∀ w : Int64, spv (spv (spv (spv (spv (spv (spf v0) v1) v2) v3) v4) v5) v6 = spv (w) v6 → vV Γ p l e R s m args below meth c (vQ Γ s args below 0 0 (rl (fun r μ' => r = spv (spv (spv (spv (spv (spv (spf v0) v1) v2) v3) v4) v5) v6 ∧ μ' = μ))) 9 0 0 161 [some (.int (v0)), some (.int (v1)), some (.int (v2)), some (.int (v3)), some (.int (v4)), some (.int (v5)), some (.int (v6)), some (.long (w)), none] [] (μ) := by
    intro w hw
    refine r_iload (pc := 161) X dX7_spelt_161 rfl ?_
    refine r_if_ne (pc := 163) X 171 dX7_spelt_163 (by decide) (fun h => ?_) (fun h => ?_)
    · rw [spv_n (w := w) (x := v6) h] at hw
      refine r_lload (pc := 171) X dX7_spelt_171 rfl ?_
      refine r_ldc2 (pc := 173) X k_X7_79 dX7_spelt_173 ?_
      refine r_lmul (pc := 176) X dX7_spelt_176 ?_
      refine r_iload (pc := 177) X dX7_spelt_177 rfl ?_
      refine r_i2l (pc := 179) X dX7_spelt_179 rfl ?_
      refine r_ladd (pc := 180) X dX7_spelt_180 ?_
      refine r_ldc2 (pc := 181) X k_X7_71 dX7_spelt_181 ?_
      refine r_lsub (pc := 184) X dX7_spelt_184 ?_
      refine r_lconst (pc := 185) (v := 1) X dX7_spelt_185 (by decide) ?_
      refine r_ladd (pc := 186) X dX7_spelt_186 ?_
      exact r_lret (pc := 187) X dX7_spelt_187 (⟨hw.symm, rfl⟩)
    · rw [spv_y (w := w) (x := v6) h] at hw
      refine r_lload (pc := 166) X dX7_spelt_166 rfl ?_
      refine r_goto (pc := 168) X 187 dX7_spelt_168 (by decide) ?_
      exact r_lret (pc := 187) X dX7_spelt_187 (⟨hw.symm, rfl⟩)
  have s5 : ∀ w : Int64, spv (spv (spv (spv (spv (spv (spf v0) v1) v2) v3) v4) v5) v6 = spv (spv (w) v5) v6 → vV Γ p l e R s m args below meth c (vQ Γ s args below 0 0 (rl (fun r μ' => r = spv (spv (spv (spv (spv (spv (spf v0) v1) v2) v3) v4) v5) v6 ∧ μ' = μ))) 9 0 0 133 [some (.int (v0)), some (.int (v1)), some (.int (v2)), some (.int (v3)), some (.int (v4)), some (.int (v5)), some (.int (v6)), some (.long (w)), none] [] (μ) := by
    intro w hw
    refine r_iload (pc := 133) X dX7_spelt_133 rfl ?_
    refine r_if_ne (pc := 135) X 143 dX7_spelt_135 (by decide) (fun h => ?_) (fun h => ?_)
    · rw [spv_n (w := w) (x := v5) h] at hw
      refine r_lload (pc := 143) X dX7_spelt_143 rfl ?_
      refine r_ldc2 (pc := 145) X k_X7_79 dX7_spelt_145 ?_
      refine r_lmul (pc := 148) X dX7_spelt_148 ?_
      refine r_iload (pc := 149) X dX7_spelt_149 rfl ?_
      refine r_i2l (pc := 151) X dX7_spelt_151 rfl ?_
      refine r_ladd (pc := 152) X dX7_spelt_152 ?_
      refine r_ldc2 (pc := 153) X k_X7_71 dX7_spelt_153 ?_
      refine r_lsub (pc := 156) X dX7_spelt_156 ?_
      refine r_lconst (pc := 157) (v := 1) X dX7_spelt_157 (by decide) ?_
      refine r_ladd (pc := 158) X dX7_spelt_158 ?_
      refine r_lstore (pc := 159) X dX7_spelt_159 (by decide) rfl ?_
      exact s6 _ hw
    · rw [spv_y (w := w) (x := v5) h] at hw
      refine r_lload (pc := 138) X dX7_spelt_138 rfl ?_
      refine r_goto (pc := 140) X 159 dX7_spelt_140 (by decide) ?_
      refine r_lstore (pc := 159) X dX7_spelt_159 (by decide) rfl ?_
      exact s6 _ hw
  have s4 : ∀ w : Int64, spv (spv (spv (spv (spv (spv (spf v0) v1) v2) v3) v4) v5) v6 = spv (spv (spv (w) v4) v5) v6 → vV Γ p l e R s m args below meth c (vQ Γ s args below 0 0 (rl (fun r μ' => r = spv (spv (spv (spv (spv (spv (spf v0) v1) v2) v3) v4) v5) v6 ∧ μ' = μ))) 9 0 0 105 [some (.int (v0)), some (.int (v1)), some (.int (v2)), some (.int (v3)), some (.int (v4)), some (.int (v5)), some (.int (v6)), some (.long (w)), none] [] (μ) := by
    intro w hw
    refine r_iload (pc := 105) X dX7_spelt_105 rfl ?_
    refine r_if_ne (pc := 107) X 115 dX7_spelt_107 (by decide) (fun h => ?_) (fun h => ?_)
    · rw [spv_n (w := w) (x := v4) h] at hw
      refine r_lload (pc := 115) X dX7_spelt_115 rfl ?_
      refine r_ldc2 (pc := 117) X k_X7_79 dX7_spelt_117 ?_
      refine r_lmul (pc := 120) X dX7_spelt_120 ?_
      refine r_iload (pc := 121) X dX7_spelt_121 rfl ?_
      refine r_i2l (pc := 123) X dX7_spelt_123 rfl ?_
      refine r_ladd (pc := 124) X dX7_spelt_124 ?_
      refine r_ldc2 (pc := 125) X k_X7_71 dX7_spelt_125 ?_
      refine r_lsub (pc := 128) X dX7_spelt_128 ?_
      refine r_lconst (pc := 129) (v := 1) X dX7_spelt_129 (by decide) ?_
      refine r_ladd (pc := 130) X dX7_spelt_130 ?_
      refine r_lstore (pc := 131) X dX7_spelt_131 (by decide) rfl ?_
      exact s5 _ hw
    · rw [spv_y (w := w) (x := v4) h] at hw
      refine r_lload (pc := 110) X dX7_spelt_110 rfl ?_
      refine r_goto (pc := 112) X 131 dX7_spelt_112 (by decide) ?_
      refine r_lstore (pc := 131) X dX7_spelt_131 (by decide) rfl ?_
      exact s5 _ hw
  have s3 : ∀ w : Int64, spv (spv (spv (spv (spv (spv (spf v0) v1) v2) v3) v4) v5) v6 = spv (spv (spv (spv (w) v3) v4) v5) v6 → vV Γ p l e R s m args below meth c (vQ Γ s args below 0 0 (rl (fun r μ' => r = spv (spv (spv (spv (spv (spv (spf v0) v1) v2) v3) v4) v5) v6 ∧ μ' = μ))) 9 0 0 79 [some (.int (v0)), some (.int (v1)), some (.int (v2)), some (.int (v3)), some (.int (v4)), some (.int (v5)), some (.int (v6)), some (.long (w)), none] [] (μ) := by
    intro w hw
    refine r_iload_n (pc := 79) X dX7_spelt_79 rfl ?_
    refine r_if_ne (pc := 80) X 88 dX7_spelt_80 (by decide) (fun h => ?_) (fun h => ?_)
    · rw [spv_n (w := w) (x := v3) h] at hw
      refine r_lload (pc := 88) X dX7_spelt_88 rfl ?_
      refine r_ldc2 (pc := 90) X k_X7_79 dX7_spelt_90 ?_
      refine r_lmul (pc := 93) X dX7_spelt_93 ?_
      refine r_iload_n (pc := 94) X dX7_spelt_94 rfl ?_
      refine r_i2l (pc := 95) X dX7_spelt_95 rfl ?_
      refine r_ladd (pc := 96) X dX7_spelt_96 ?_
      refine r_ldc2 (pc := 97) X k_X7_71 dX7_spelt_97 ?_
      refine r_lsub (pc := 100) X dX7_spelt_100 ?_
      refine r_lconst (pc := 101) (v := 1) X dX7_spelt_101 (by decide) ?_
      refine r_ladd (pc := 102) X dX7_spelt_102 ?_
      refine r_lstore (pc := 103) X dX7_spelt_103 (by decide) rfl ?_
      exact s4 _ hw
    · rw [spv_y (w := w) (x := v3) h] at hw
      refine r_lload (pc := 83) X dX7_spelt_83 rfl ?_
      refine r_goto (pc := 85) X 103 dX7_spelt_85 (by decide) ?_
      refine r_lstore (pc := 103) X dX7_spelt_103 (by decide) rfl ?_
      exact s4 _ hw
  have s2 : ∀ w : Int64, spv (spv (spv (spv (spv (spv (spf v0) v1) v2) v3) v4) v5) v6 = spv (spv (spv (spv (spv (w) v2) v3) v4) v5) v6 → vV Γ p l e R s m args below meth c (vQ Γ s args below 0 0 (rl (fun r μ' => r = spv (spv (spv (spv (spv (spv (spf v0) v1) v2) v3) v4) v5) v6 ∧ μ' = μ))) 9 0 0 53 [some (.int (v0)), some (.int (v1)), some (.int (v2)), some (.int (v3)), some (.int (v4)), some (.int (v5)), some (.int (v6)), some (.long (w)), none] [] (μ) := by
    intro w hw
    refine r_iload_n (pc := 53) X dX7_spelt_53 rfl ?_
    refine r_if_ne (pc := 54) X 62 dX7_spelt_54 (by decide) (fun h => ?_) (fun h => ?_)
    · rw [spv_n (w := w) (x := v2) h] at hw
      refine r_lload (pc := 62) X dX7_spelt_62 rfl ?_
      refine r_ldc2 (pc := 64) X k_X7_79 dX7_spelt_64 ?_
      refine r_lmul (pc := 67) X dX7_spelt_67 ?_
      refine r_iload_n (pc := 68) X dX7_spelt_68 rfl ?_
      refine r_i2l (pc := 69) X dX7_spelt_69 rfl ?_
      refine r_ladd (pc := 70) X dX7_spelt_70 ?_
      refine r_ldc2 (pc := 71) X k_X7_71 dX7_spelt_71 ?_
      refine r_lsub (pc := 74) X dX7_spelt_74 ?_
      refine r_lconst (pc := 75) (v := 1) X dX7_spelt_75 (by decide) ?_
      refine r_ladd (pc := 76) X dX7_spelt_76 ?_
      refine r_lstore (pc := 77) X dX7_spelt_77 (by decide) rfl ?_
      exact s3 _ hw
    · rw [spv_y (w := w) (x := v2) h] at hw
      refine r_lload (pc := 57) X dX7_spelt_57 rfl ?_
      refine r_goto (pc := 59) X 77 dX7_spelt_59 (by decide) ?_
      refine r_lstore (pc := 77) X dX7_spelt_77 (by decide) rfl ?_
      exact s3 _ hw
  have s1 : ∀ w : Int64, spv (spv (spv (spv (spv (spv (spf v0) v1) v2) v3) v4) v5) v6 = spv (spv (spv (spv (spv (spv (w) v1) v2) v3) v4) v5) v6 → vV Γ p l e R s m args below meth c (vQ Γ s args below 0 0 (rl (fun r μ' => r = spv (spv (spv (spv (spv (spv (spf v0) v1) v2) v3) v4) v5) v6 ∧ μ' = μ))) 9 0 0 27 [some (.int (v0)), some (.int (v1)), some (.int (v2)), some (.int (v3)), some (.int (v4)), some (.int (v5)), some (.int (v6)), some (.long (w)), none] [] (μ) := by
    intro w hw
    refine r_iload_n (pc := 27) X dX7_spelt_27 rfl ?_
    refine r_if_ne (pc := 28) X 36 dX7_spelt_28 (by decide) (fun h => ?_) (fun h => ?_)
    · rw [spv_n (w := w) (x := v1) h] at hw
      refine r_lload (pc := 36) X dX7_spelt_36 rfl ?_
      refine r_ldc2 (pc := 38) X k_X7_79 dX7_spelt_38 ?_
      refine r_lmul (pc := 41) X dX7_spelt_41 ?_
      refine r_iload_n (pc := 42) X dX7_spelt_42 rfl ?_
      refine r_i2l (pc := 43) X dX7_spelt_43 rfl ?_
      refine r_ladd (pc := 44) X dX7_spelt_44 ?_
      refine r_ldc2 (pc := 45) X k_X7_71 dX7_spelt_45 ?_
      refine r_lsub (pc := 48) X dX7_spelt_48 ?_
      refine r_lconst (pc := 49) (v := 1) X dX7_spelt_49 (by decide) ?_
      refine r_ladd (pc := 50) X dX7_spelt_50 ?_
      refine r_lstore (pc := 51) X dX7_spelt_51 (by decide) rfl ?_
      exact s2 _ hw
    · rw [spv_y (w := w) (x := v1) h] at hw
      refine r_lload (pc := 31) X dX7_spelt_31 rfl ?_
      refine r_goto (pc := 33) X 51 dX7_spelt_33 (by decide) ?_
      refine r_lstore (pc := 51) X dX7_spelt_51 (by decide) rfl ?_
      exact s2 _ hw
  refine r_lconst (pc := 0) (v := 0) X dX7_spelt_0 (by decide) ?_
  refine r_lstore (pc := 1) X dX7_spelt_1 (by decide) rfl ?_
  refine r_lload (pc := 3) X dX7_spelt_3 rfl ?_
  refine r_ldc2 (pc := 5) X k_X7_79 dX7_spelt_5 ?_
  refine r_lmul (pc := 8) X dX7_spelt_8 ?_
  refine r_iload_n (pc := 9) X dX7_spelt_9 rfl ?_
  refine r_if_ne (pc := 10) X 17 dX7_spelt_10 (by decide) (fun h => ?_) (fun h => ?_)
  · have e : spf v0 = 0 * 27 + (v0 - nI 97 + nI 1).toInt64 := by unfold spf; rw [if_neg h]
    refine r_iload_n (pc := 17) X dX7_spelt_17 rfl ?_
    refine r_bipush (pc := 18) (v := nI 97) X dX7_spelt_18 (by decide) ?_
    refine r_isub (pc := 20) X dX7_spelt_20 ?_
    refine r_iconst (pc := 21) (v := nI 1) X dX7_spelt_21 (by decide) ?_
    refine r_iadd (pc := 22) X dX7_spelt_22 ?_
    refine r_i2l (pc := 23) X dX7_spelt_23 rfl ?_
    refine r_ladd (pc := 24) X dX7_spelt_24 ?_
    refine r_lstore (pc := 25) X dX7_spelt_25 (by decide) rfl ?_
    exact s1 _ (by rw [← e])
  · have e : spf v0 = 0 * 27 + (nI 0).toInt64 := by unfold spf; rw [if_pos h]
    refine r_iconst (pc := 13) (v := nI 0) X dX7_spelt_13 (by decide) ?_
    refine r_goto (pc := 14) X 23 dX7_spelt_14 (by decide) ?_
    refine r_i2l (pc := 23) X dX7_spelt_23 rfl ?_
    refine r_ladd (pc := 24) X dX7_spelt_24 ?_
    refine r_lstore (pc := 25) X dX7_spelt_25 (by decide) rfl ?_
    exact s1 _ (by rw [← e])
theorem t7_wordOf {b e' K : Nat} (hO : μ y = some (mdO y n (nI e') (nI K) vl (nI b) cl un sn)) (hX : μ (y + 3) = some (xI Γ 160 (fun i => nI (xs i)))) (hn : n ≤ 160) (hb : b ≤ e') (he : e' ≤ n) (hK : K ≤ 3) (hs : K = 1 → ∀ j, b ≤ j → j < e' → isSm (xs j) = true) : CT Γ l 0 sz 0 0 mX7_wordOf [.ref y] μ (rl (fun r μ' => r = lN (if K = 1 then wv (fun j => xs (b + j)) (min 9 (e' - b)) else 0) ∧ μ' = μ)) := by
  refine CT.go RX7 rfl "wordOf" rfl [some (.ref y), none, none, none] rfl (by decide) (Nat.le_of_ble_eq_true rfl) ?_
  intro p e R s m args below meth c X hsz
  have fin : ∀ (i : Nat) (w : Int64), (K = 1 → w = lN (wv (fun j => xs (b + j)) (min 9 (e' - b)))) → vV Γ p l e R s m args below meth c (vQ Γ s args below 0 0 (rl (fun r μ' => r = lN (if K = 1 then wv (fun j => xs (b + j)) (min 9 (e' - b)) else 0) ∧ μ' = μ))) 4 0 0 52 [some (.ref (y)), some (.long (w)), none, some (.int (nI (i)))] [] (μ) := by
    intro i w hw
    refine r_aload_n (pc := 52) X dX7_wordOf_52 rfl ?_
    apply r_get (pc := 53) X f_X7_68 dX7_wordOf_53
    · repeat (first | exact mu_self | assumption | refine (mu_ne (by omega)).trans ?_)
    · rfl
    refine r_iconst (pc := 56) (v := nI 1) X dX7_wordOf_56 (by decide) ?_
    first | refine r_icmp_neN (pc := 57) X 64 dX7_wordOf_57 (by decide) (by omega) (by omega) (fun h => ?_) (fun h => ?_) | refine r_icmp_ne (pc := 57) X 64 dX7_wordOf_57 (by decide) (fun h => ?_) (fun h => ?_)
    · rw [if_neg h]
      refine r_lconst (pc := 64) (v := 0) X dX7_wordOf_64 (by decide) ?_
      exact r_lret (pc := 65) X dX7_wordOf_65 (⟨rfl, rfl⟩)
    · rw [if_pos h, hw h]
      refine r_lload_n (pc := 60) X dX7_wordOf_60 rfl ?_
      refine r_goto (pc := 61) X 65 dX7_wordOf_61 (by decide) ?_
      exact r_lret (pc := 65) X dX7_wordOf_65 (⟨rfl, rfl⟩)
  have key : ∀ (N i : Nat) (w : Int64), i + N = min e' (b + 9) → b ≤ i → (K = 1 → w = lN (wv (fun j => xs (b + j)) (i - b))) → vV Γ p l e R s m args below meth c (vQ Γ s args below 0 0 (rl (fun r μ' => r = lN (if K = 1 then wv (fun j => xs (b + j)) (min 9 (e' - b)) else 0) ∧ μ' = μ))) 4 0 0 7 [some (.ref (y)), some (.long (w)), none, some (.int (nI (i)))] [] (μ) := by
    intro N
    induction N with
    | zero =>
      intro i w hi hbi hw
      have hm : min 9 (e' - b) = i - b := by omega
      refine r_iload_n (pc := 7) X dX7_wordOf_7 rfl ?_
      refine r_aload_n (pc := 8) X dX7_wordOf_8 rfl ?_
      apply r_get (pc := 9) X f_X7_55 dX7_wordOf_9
      · repeat (first | exact mu_self | assumption | refine (mu_ne (by omega)).trans ?_)
      · rfl
      first | refine r_icmp_geN (pc := 12) X 52 dX7_wordOf_12 (by decide) (by omega) (by omega) (fun h => ?_) (fun h => ?_) | refine r_icmp_ge (pc := 12) X 52 dX7_wordOf_12 (by decide) (fun h => ?_) (fun h => ?_)
      · exact fin i w (by rw [hm]; exact hw)
      · refine r_iload_n (pc := 15) X dX7_wordOf_15 rfl ?_
        refine r_aload_n (pc := 16) X dX7_wordOf_16 rfl ?_
        apply r_get (pc := 17) X f_X7_62 dX7_wordOf_17
        · repeat (first | exact mu_self | assumption | refine (mu_ne (by omega)).trans ?_)
        · rfl
        refine r_bipush (pc := 20) (v := nI 9) X dX7_wordOf_20 (by decide) ?_
        first | refine r_iaddN (pc := 22) X dX7_wordOf_22 ?_ | refine r_iadd (pc := 22) X dX7_wordOf_22 ?_
        first | refine r_icmp_geN (pc := 23) X 52 dX7_wordOf_23 (by decide) (by omega) (by omega) (fun h2 => ?_) (fun h2 => ?_) | refine r_icmp_ge (pc := 23) X 52 dX7_wordOf_23 (by decide) (fun h2 => ?_) (fun h2 => ?_)
        · exact fin i w (by rw [hm]; exact hw)
        · omega
    | succ N ih =>
      intro i w hi hbi hw
      refine r_iload_n (pc := 7) X dX7_wordOf_7 rfl ?_
      refine r_aload_n (pc := 8) X dX7_wordOf_8 rfl ?_
      apply r_get (pc := 9) X f_X7_55 dX7_wordOf_9
      · repeat (first | exact mu_self | assumption | refine (mu_ne (by omega)).trans ?_)
      · rfl
      first | refine r_icmp_geN (pc := 12) X 52 dX7_wordOf_12 (by decide) (by omega) (by omega) (fun h => ?_) (fun h => ?_) | refine r_icmp_ge (pc := 12) X 52 dX7_wordOf_12 (by decide) (fun h => ?_) (fun h => ?_)
      · omega
      · refine r_iload_n (pc := 15) X dX7_wordOf_15 rfl ?_
        refine r_aload_n (pc := 16) X dX7_wordOf_16 rfl ?_
        apply r_get (pc := 17) X f_X7_62 dX7_wordOf_17
        · repeat (first | exact mu_self | assumption | refine (mu_ne (by omega)).trans ?_)
        · rfl
        refine r_bipush (pc := 20) (v := nI 9) X dX7_wordOf_20 (by decide) ?_
        first | refine r_iaddN (pc := 22) X dX7_wordOf_22 ?_ | refine r_iadd (pc := 22) X dX7_wordOf_22 ?_
        first | refine r_icmp_geN (pc := 23) X 52 dX7_wordOf_23 (by decide) (by omega) (by omega) (fun h2 => ?_) (fun h2 => ?_) | refine r_icmp_ge (pc := 23) X 52 dX7_wordOf_23 (by decide) (fun h2 => ?_) (fun h2 => ?_)
        · omega
        · refine r_ldc2 (pc := 26) X k_X7_79 dX7_wordOf_26 ?_
          refine r_lload_n (pc := 29) X dX7_wordOf_29 rfl ?_
          refine r_lmul (pc := 30) X dX7_wordOf_30 ?_
          refine r_aload_n (pc := 31) X dX7_wordOf_31 rfl ?_
          apply r_get (pc := 32) X f_X7_16 dX7_wordOf_32
          · repeat (first | exact mu_self | assumption | refine (mu_ne (by omega)).trans ?_)
          · rfl
          refine r_iload_n (pc := 35) X dX7_wordOf_35 rfl ?_
          apply r_iald (pc := 36) X dX7_wordOf_36
          · repeat (first | exact mu_self | assumption | refine (mu_ne (by omega)).trans ?_)
          · omega
          · decide
          refine r_i2l (pc := 37) X dX7_wordOf_37 rfl ?_
          refine r_ladd (pc := 38) X dX7_wordOf_38 ?_
          refine r_ldc2 (pc := 39) X k_X7_71 dX7_wordOf_39 ?_
          refine r_lsub (pc := 42) X dX7_wordOf_42 ?_
          refine r_lconst (pc := 43) (v := 1) X dX7_wordOf_43 (by decide) ?_
          refine r_ladd (pc := 44) X dX7_wordOf_44 ?_
          refine r_lstore_n (pc := 45) X dX7_wordOf_45 (by decide) rfl ?_
          have := ih (i + 1) (27 * w + (nI (xs i)).toInt64 - 97 + 1) (by omega) (by omega) (fun hk => by
            have hsm := isSm_iff.mp (hs hk i hbi (by omega))
            rw [hw hk, nI_l (by omega), show (27 : Int64) = lN 27 from rfl, lN_mul, lN_add, show (97 : Int64) = lN 97 from rfl, lN_sub (by omega), lN_1, show i + 1 - b = (i - b) + 1 by omega]
            show _ = lN (27 * wv (fun j => xs (b + j)) (i - b) + (xs (b + (i - b)) - 96))
            rw [show b + (i - b) = i by omega]
            congr 1
            omega)
          refine r_iincN (pc := 46) (b := 1) X dX7_wordOf_46 rfl (by decide) rfl ?_
          refine r_goto (pc := 49) X 7 dX7_wordOf_49 (by decide) ?_
          exact this
  have hq := key (min e' (b + 9) - b) b 0 (by omega) (Nat.le_refl _) (fun _ => by rw [Nat.sub_self]; rfl)
  refine r_lconst (pc := 0) (v := 0) X dX7_wordOf_0 (by decide) ?_
  refine r_lstore_n (pc := 1) X dX7_wordOf_1 (by decide) rfl ?_
  refine r_aload_n (pc := 2) X dX7_wordOf_2 rfl ?_
  apply r_get (pc := 3) X f_X7_62 dX7_wordOf_3
  · repeat (first | exact mu_self | assumption | refine (mu_ne (by omega)).trans ?_)
  · rfl
  refine r_istore_n (pc := 6) X dX7_wordOf_6 (by decide) rfl ?_
  exact hq
theorem lN_eq63 {a b : Nat} (ha : a < 2 ^ 63) (hb : b < 2 ^ 63) : lN a = lN b ↔ a = b := by
  rw [← Int64.toInt_inj, show (lN a).toInt = (a : Int) from lg_ofNat_toInt ha, show (lN b).toInt = (b : Int) from lg_ofNat_toInt hb]
  omega
theorem lcmp_N {a b : Nat} (ha : a < 2 ^ 63) (hb : b < 2 ^ 63) : lg_cmp (lN a) (lN b) = nI 0 ↔ a = b := by
  rw [show nI 0 = (0 : Int32) from rfl, lg_cmp_eq, lN_eq63 ha hb]
theorem wcd_63 : ∀ k, k < 11 → wcd k < 2 ^ 63 := by decide
theorem t7_verb {b : Nat} (hO : μ y = some (mdO y n (nI (tkE xs n b)) (nI (tkK xs n b)) vl (nI b) cl un sn)) (hX : μ (y + 3) = some (xI Γ 160 (fun i => nI (xs i)))) (hn : n ≤ 160) (hb : b ≤ n) : CT Γ l 1 sz 0 0 mX7_verb [.ref y] μ (ri (fun r μ' => r = uI (vbOf (fstF (tkIs xs b (tkE xs n b)) 11 0)) ∧ μ' = μ)) := by
  rw [← vbc_eq]
  refine CT.go RX7 rfl "verb" rfl [some (.ref y), none, none] rfl (by decide) (Nat.le_of_ble_eq_true rfl) ?_
  intro p e R s m args below meth c X hsz
  refine r_aload_n (pc := 0) X dX7_verb_0 rfl ?_
  have hK : tkK xs n b ≤ 3 := by unfold tkK; repeat (first | omega | split)
  refine c_l X (rV (pc := 1) (ci := 7) X l_X7_81 (t7_wordOf hO hX hn tkE_ge (tkE_le hb) hK (fun hk j h1 h2 => tkE_sm hk h1 h2)) dX7_verb_1 (by repeat (first | exact mu_self | assumption | refine (mu_ne (by omega)).trans ?_)) rfl rfl rfl (Nat.le_of_ble_eq_true rfl) (by decide) (Nat.le_of_ble_eq_true rfl) (Nat.le_of_ble_eq_true rfl)) ?_
  rintro _ μq ⟨rfl, hμq⟩
  rw [hμq]
  clear hμq μq
  rw [show (if tkK xs n b = 1 then wv (fun j => xs (b + j)) (min 9 (tkE xs n b - b)) else 0) = wdN xs n b (tkE xs n b) from rfl]
  have hlt : wdN xs n b (tkE xs n b) < 2 ^ 63 := by
    unfold wdN
    split
    · rename_i hk
      have h1 := wv_lt (f := fun j => xs (b + j)) (min 9 (tkE xs n b - b)) (fun j hj => (isSm_iff.mp (tkE_sm hk (show b ≤ b + j by omega) (by omega))).2)
      have h2 : 27 ^ (min 9 (tkE xs n b - b)) ≤ 27 ^ 9 := Nat.pow_le_pow_right (by decide) (by omega)
      have h3 : 27 ^ 9 < 2 ^ 63 := by decide
      omega
    · decide
  generalize wdN xs n b (tkE xs n b) = W at hlt ⊢
  refine r_lstore_n (pc := 4) X dX7_verb_4 (by decide) rfl ?_
  refine r_lload_n (pc := 5) X dX7_verb_5 rfl ?_
  refine r_bipush (pc := 6) (v := nI 119) X dX7_verb_6 (by decide) ?_
  refine r_bipush (pc := 8) (v := nI 111) X dX7_verb_8 (by decide) ?_
  refine r_bipush (pc := 10) (v := nI 111) X dX7_verb_10 (by decide) ?_
  refine r_bipush (pc := 12) (v := nI 108) X dX7_verb_12 (by decide) ?_
  refine r_bipush (pc := 14) (v := nI 108) X dX7_verb_14 (by decide) ?_
  refine r_bipush (pc := 16) (v := nI 121) X dX7_verb_16 (by decide) ?_
  refine r_iconst (pc := 18) (v := nI 0) X dX7_verb_18 (by decide) ?_
  refine c_l X (rS (pc := 19) X l_X7_85 (t7_spelt (nI 119) (nI 111) (nI 111) (nI 108) (nI 108) (nI 121) (nI 0)) dX7_verb_19 rfl rfl (Nat.le_of_ble_eq_true rfl) (by decide) (Nat.le_of_ble_eq_true rfl) (Nat.le_of_ble_eq_true rfl)) ?_
  rintro _ μq ⟨rfl, hμq⟩
  rw [hμq]
  clear hμq μq
  rw [show spv (spv (spv (spv (spv (spv (spf (nI 119)) (nI 111)) (nI 111)) (nI 108)) (nI 108)) (nI 121)) (nI 0) = lN (wcd 2) by decide +kernel]
  refine r_lcmp (pc := 22) X dX7_verb_22 ?_
  refine r_if_ne (pc := 23) X 28 dX7_verb_23 (by decide) (fun h0 => ?_) (fun h0 => ?_)
  rotate_left
  · have h0 := (lcmp_N hlt (wcd_63 2 (by omega))).mp h0
    have eo : vbc W = 0+1 := by unfold vbc; rw [if_pos h0]
    rw [eo, uI_S]
    refine r_iconst (pc := 26) (v := nI 0) X dX7_verb_26 (by decide) ?_
    exact r_iret (pc := 27) X dX7_verb_27 (⟨rfl, rfl⟩)
  have h0 : ¬ W = wcd 2 := fun q => h0 ((lcmp_N hlt (wcd_63 2 (by omega))).mpr q)
  refine r_lload_n (pc := 28) X dX7_verb_28 rfl ?_
  refine r_bipush (pc := 29) (v := nI 114) X dX7_verb_29 (by decide) ?_
  refine r_bipush (pc := 31) (v := nI 97) X dX7_verb_31 (by decide) ?_
  refine r_bipush (pc := 33) (v := nI 109) X dX7_verb_33 (by decide) ?_
  refine r_iconst (pc := 35) (v := nI 0) X dX7_verb_35 (by decide) ?_
  refine r_iconst (pc := 36) (v := nI 0) X dX7_verb_36 (by decide) ?_
  refine r_iconst (pc := 37) (v := nI 0) X dX7_verb_37 (by decide) ?_
  refine r_iconst (pc := 38) (v := nI 0) X dX7_verb_38 (by decide) ?_
  refine c_l X (rS (pc := 39) X l_X7_85 (t7_spelt (nI 114) (nI 97) (nI 109) (nI 0) (nI 0) (nI 0) (nI 0)) dX7_verb_39 rfl rfl (Nat.le_of_ble_eq_true rfl) (by decide) (Nat.le_of_ble_eq_true rfl) (Nat.le_of_ble_eq_true rfl)) ?_
  rintro _ μq ⟨rfl, hμq⟩
  rw [hμq]
  clear hμq μq
  rw [show spv (spv (spv (spv (spv (spv (spf (nI 114)) (nI 97)) (nI 109)) (nI 0)) (nI 0)) (nI 0)) (nI 0) = lN (wcd 3) by decide +kernel]
  refine r_lcmp (pc := 42) X dX7_verb_42 ?_
  refine r_if_ne (pc := 43) X 48 dX7_verb_43 (by decide) (fun h1 => ?_) (fun h1 => ?_)
  rotate_left
  · have h1 := (lcmp_N hlt (wcd_63 3 (by omega))).mp h1
    have eo : vbc W = 1+1 := by unfold vbc; rw [if_neg h0, if_pos h1]
    rw [eo, uI_S]
    refine r_iconst (pc := 46) (v := nI 1) X dX7_verb_46 (by decide) ?_
    exact r_iret (pc := 47) X dX7_verb_47 (⟨rfl, rfl⟩)
  have h1 : ¬ W = wcd 3 := fun q => h1 ((lcmp_N hlt (wcd_63 3 (by omega))).mpr q)
  refine r_lload_n (pc := 48) X dX7_verb_48 rfl ?_
  refine r_bipush (pc := 49) (v := nI 116) X dX7_verb_49 (by decide) ?_
  refine r_bipush (pc := 51) (v := nI 105) X dX7_verb_51 (by decide) ?_
  refine r_bipush (pc := 53) (v := nI 101) X dX7_verb_53 (by decide) ?_
  refine r_bipush (pc := 55) (v := nI 100) X dX7_verb_55 (by decide) ?_
  refine r_iconst (pc := 57) (v := nI 0) X dX7_verb_57 (by decide) ?_
  refine r_iconst (pc := 58) (v := nI 0) X dX7_verb_58 (by decide) ?_
  refine r_iconst (pc := 59) (v := nI 0) X dX7_verb_59 (by decide) ?_
  refine c_l X (rS (pc := 60) X l_X7_85 (t7_spelt (nI 116) (nI 105) (nI 101) (nI 100) (nI 0) (nI 0) (nI 0)) dX7_verb_60 rfl rfl (Nat.le_of_ble_eq_true rfl) (by decide) (Nat.le_of_ble_eq_true rfl) (Nat.le_of_ble_eq_true rfl)) ?_
  rintro _ μq ⟨rfl, hμq⟩
  rw [hμq]
  clear hμq μq
  rw [show spv (spv (spv (spv (spv (spv (spf (nI 116)) (nI 105)) (nI 101)) (nI 100)) (nI 0)) (nI 0)) (nI 0) = lN (wcd 4) by decide +kernel]
  refine r_lcmp (pc := 63) X dX7_verb_63 ?_
  refine r_if_ne (pc := 64) X 69 dX7_verb_64 (by decide) (fun h2 => ?_) (fun h2 => ?_)
  rotate_left
  · have h2 := (lcmp_N hlt (wcd_63 4 (by omega))).mp h2
    have eo : vbc W = 2+1 := by unfold vbc; rw [if_neg h0, if_neg h1, if_pos h2]
    rw [eo, uI_S]
    refine r_iconst (pc := 67) (v := nI 2) X dX7_verb_67 (by decide) ?_
    exact r_iret (pc := 68) X dX7_verb_68 (⟨rfl, rfl⟩)
  have h2 : ¬ W = wcd 4 := fun q => h2 ((lcmp_N hlt (wcd_63 4 (by omega))).mpr q)
  refine r_lload_n (pc := 69) X dX7_verb_69 rfl ?_
  refine r_bipush (pc := 70) (v := nI 98) X dX7_verb_70 (by decide) ?_
  refine r_bipush (pc := 72) (v := nI 101) X dX7_verb_72 (by decide) ?_
  refine r_bipush (pc := 74) (v := nI 108) X dX7_verb_74 (by decide) ?_
  refine r_bipush (pc := 76) (v := nI 108) X dX7_verb_76 (by decide) ?_
  refine r_iconst (pc := 78) (v := nI 0) X dX7_verb_78 (by decide) ?_
  refine r_iconst (pc := 79) (v := nI 0) X dX7_verb_79 (by decide) ?_
  refine r_iconst (pc := 80) (v := nI 0) X dX7_verb_80 (by decide) ?_
  refine c_l X (rS (pc := 81) X l_X7_85 (t7_spelt (nI 98) (nI 101) (nI 108) (nI 108) (nI 0) (nI 0) (nI 0)) dX7_verb_81 rfl rfl (Nat.le_of_ble_eq_true rfl) (by decide) (Nat.le_of_ble_eq_true rfl) (Nat.le_of_ble_eq_true rfl)) ?_
  rintro _ μq ⟨rfl, hμq⟩
  rw [hμq]
  clear hμq μq
  rw [show spv (spv (spv (spv (spv (spv (spf (nI 98)) (nI 101)) (nI 108)) (nI 108)) (nI 0)) (nI 0)) (nI 0) = lN (wcd 5) by decide +kernel]
  refine r_lcmp (pc := 84) X dX7_verb_84 ?_
  refine r_if_ne (pc := 85) X 90 dX7_verb_85 (by decide) (fun h3 => ?_) (fun h3 => ?_)
  rotate_left
  · have h3 := (lcmp_N hlt (wcd_63 5 (by omega))).mp h3
    have eo : vbc W = 3+1 := by unfold vbc; rw [if_neg h0, if_neg h1, if_neg h2, if_pos h3]
    rw [eo, uI_S]
    refine r_iconst (pc := 88) (v := nI 3) X dX7_verb_88 (by decide) ?_
    exact r_iret (pc := 89) X dX7_verb_89 (⟨rfl, rfl⟩)
  have h3 : ¬ W = wcd 5 := fun q => h3 ((lcmp_N hlt (wcd_63 5 (by omega))).mpr q)
  refine r_lload_n (pc := 90) X dX7_verb_90 rfl ?_
  refine r_bipush (pc := 91) (v := nI 99) X dX7_verb_91 (by decide) ?_
  refine r_bipush (pc := 93) (v := nI 97) X dX7_verb_93 (by decide) ?_
  refine r_bipush (pc := 95) (v := nI 118) X dX7_verb_95 (by decide) ?_
  refine r_bipush (pc := 97) (v := nI 101) X dX7_verb_97 (by decide) ?_
  refine r_iconst (pc := 99) (v := nI 0) X dX7_verb_99 (by decide) ?_
  refine r_iconst (pc := 100) (v := nI 0) X dX7_verb_100 (by decide) ?_
  refine r_iconst (pc := 101) (v := nI 0) X dX7_verb_101 (by decide) ?_
  refine c_l X (rS (pc := 102) X l_X7_85 (t7_spelt (nI 99) (nI 97) (nI 118) (nI 101) (nI 0) (nI 0) (nI 0)) dX7_verb_102 rfl rfl (Nat.le_of_ble_eq_true rfl) (by decide) (Nat.le_of_ble_eq_true rfl) (Nat.le_of_ble_eq_true rfl)) ?_
  rintro _ μq ⟨rfl, hμq⟩
  rw [hμq]
  clear hμq μq
  rw [show spv (spv (spv (spv (spv (spv (spf (nI 99)) (nI 97)) (nI 118)) (nI 101)) (nI 0)) (nI 0)) (nI 0) = lN (wcd 0) by decide +kernel]
  refine r_lcmp (pc := 105) X dX7_verb_105 ?_
  refine r_if_ne (pc := 106) X 111 dX7_verb_106 (by decide) (fun h4 => ?_) (fun h4 => ?_)
  rotate_left
  · have h4 := (lcmp_N hlt (wcd_63 0 (by omega))).mp h4
    have eo : vbc W = 4+1 := by unfold vbc; rw [if_neg h0, if_neg h1, if_neg h2, if_neg h3, if_pos h4]
    rw [eo, uI_S]
    refine r_iconst (pc := 109) (v := nI 4) X dX7_verb_109 (by decide) ?_
    exact r_iret (pc := 110) X dX7_verb_110 (⟨rfl, rfl⟩)
  have h4 : ¬ W = wcd 0 := fun q => h4 ((lcmp_N hlt (wcd_63 0 (by omega))).mpr q)
  refine r_lload_n (pc := 111) X dX7_verb_111 rfl ?_
  refine r_bipush (pc := 112) (v := nI 109) X dX7_verb_112 (by decide) ?_
  refine r_bipush (pc := 114) (v := nI 97) X dX7_verb_114 (by decide) ?_
  refine r_bipush (pc := 116) (v := nI 110) X dX7_verb_116 (by decide) ?_
  refine r_iconst (pc := 118) (v := nI 0) X dX7_verb_118 (by decide) ?_
  refine r_iconst (pc := 119) (v := nI 0) X dX7_verb_119 (by decide) ?_
  refine r_iconst (pc := 120) (v := nI 0) X dX7_verb_120 (by decide) ?_
  refine r_iconst (pc := 121) (v := nI 0) X dX7_verb_121 (by decide) ?_
  refine c_l X (rS (pc := 122) X l_X7_85 (t7_spelt (nI 109) (nI 97) (nI 110) (nI 0) (nI 0) (nI 0) (nI 0)) dX7_verb_122 rfl rfl (Nat.le_of_ble_eq_true rfl) (by decide) (Nat.le_of_ble_eq_true rfl) (Nat.le_of_ble_eq_true rfl)) ?_
  rintro _ μq ⟨rfl, hμq⟩
  rw [hμq]
  clear hμq μq
  rw [show spv (spv (spv (spv (spv (spv (spf (nI 109)) (nI 97)) (nI 110)) (nI 0)) (nI 0)) (nI 0)) (nI 0) = lN (wcd 1) by decide +kernel]
  refine r_lcmp (pc := 125) X dX7_verb_125 ?_
  refine r_if_ne (pc := 126) X 131 dX7_verb_126 (by decide) (fun h5 => ?_) (fun h5 => ?_)
  rotate_left
  · have h5 := (lcmp_N hlt (wcd_63 1 (by omega))).mp h5
    have eo : vbc W = 5+1 := by unfold vbc; rw [if_neg h0, if_neg h1, if_neg h2, if_neg h3, if_neg h4, if_pos h5]
    rw [eo, uI_S]
    refine r_iconst (pc := 129) (v := nI 5) X dX7_verb_129 (by decide) ?_
    exact r_iret (pc := 130) X dX7_verb_130 (⟨rfl, rfl⟩)
  have h5 : ¬ W = wcd 1 := fun q => h5 ((lcmp_N hlt (wcd_63 1 (by omega))).mpr q)
  refine r_lload_n (pc := 131) X dX7_verb_131 rfl ?_
  refine r_bipush (pc := 132) (v := nI 110) X dX7_verb_132 (by decide) ?_
  refine r_bipush (pc := 134) (v := nI 101) X dX7_verb_134 (by decide) ?_
  refine r_bipush (pc := 136) (v := nI 97) X dX7_verb_136 (by decide) ?_
  refine r_bipush (pc := 138) (v := nI 114) X dX7_verb_138 (by decide) ?_
  refine r_iconst (pc := 140) (v := nI 0) X dX7_verb_140 (by decide) ?_
  refine r_iconst (pc := 141) (v := nI 0) X dX7_verb_141 (by decide) ?_
  refine r_iconst (pc := 142) (v := nI 0) X dX7_verb_142 (by decide) ?_
  refine c_l X (rS (pc := 143) X l_X7_85 (t7_spelt (nI 110) (nI 101) (nI 97) (nI 114) (nI 0) (nI 0) (nI 0)) dX7_verb_143 rfl rfl (Nat.le_of_ble_eq_true rfl) (by decide) (Nat.le_of_ble_eq_true rfl) (Nat.le_of_ble_eq_true rfl)) ?_
  rintro _ μq ⟨rfl, hμq⟩
  rw [hμq]
  clear hμq μq
  rw [show spv (spv (spv (spv (spv (spv (spf (nI 110)) (nI 101)) (nI 97)) (nI 114)) (nI 0)) (nI 0)) (nI 0) = lN (wcd 6) by decide +kernel]
  refine r_lcmp (pc := 146) X dX7_verb_146 ?_
  refine r_if_ne (pc := 147) X 153 dX7_verb_147 (by decide) (fun h6 => ?_) (fun h6 => ?_)
  rotate_left
  · have h6 := (lcmp_N hlt (wcd_63 6 (by omega))).mp h6
    have eo : vbc W = 6+1 := by unfold vbc; rw [if_neg h0, if_neg h1, if_neg h2, if_neg h3, if_neg h4, if_neg h5, if_pos h6]
    rw [eo, uI_S]
    refine r_bipush (pc := 150) (v := nI 6) X dX7_verb_150 (by decide) ?_
    exact r_iret (pc := 152) X dX7_verb_152 (⟨rfl, rfl⟩)
  have h6 : ¬ W = wcd 6 := fun q => h6 ((lcmp_N hlt (wcd_63 6 (by omega))).mpr q)
  refine r_lload_n (pc := 153) X dX7_verb_153 rfl ?_
  refine r_bipush (pc := 154) (v := nI 119) X dX7_verb_154 (by decide) ?_
  refine r_bipush (pc := 156) (v := nI 105) X dX7_verb_156 (by decide) ?_
  refine r_bipush (pc := 158) (v := nI 110) X dX7_verb_158 (by decide) ?_
  refine r_bipush (pc := 160) (v := nI 101) X dX7_verb_160 (by decide) ?_
  refine r_iconst (pc := 162) (v := nI 0) X dX7_verb_162 (by decide) ?_
  refine r_iconst (pc := 163) (v := nI 0) X dX7_verb_163 (by decide) ?_
  refine r_iconst (pc := 164) (v := nI 0) X dX7_verb_164 (by decide) ?_
  refine c_l X (rS (pc := 165) X l_X7_85 (t7_spelt (nI 119) (nI 105) (nI 110) (nI 101) (nI 0) (nI 0) (nI 0)) dX7_verb_165 rfl rfl (Nat.le_of_ble_eq_true rfl) (by decide) (Nat.le_of_ble_eq_true rfl) (Nat.le_of_ble_eq_true rfl)) ?_
  rintro _ μq ⟨rfl, hμq⟩
  rw [hμq]
  clear hμq μq
  rw [show spv (spv (spv (spv (spv (spv (spf (nI 119)) (nI 105)) (nI 110)) (nI 101)) (nI 0)) (nI 0)) (nI 0) = lN (wcd 7) by decide +kernel]
  refine r_lcmp (pc := 168) X dX7_verb_168 ?_
  refine r_if_ne (pc := 169) X 175 dX7_verb_169 (by decide) (fun h7 => ?_) (fun h7 => ?_)
  rotate_left
  · have h7 := (lcmp_N hlt (wcd_63 7 (by omega))).mp h7
    have eo : vbc W = 7+1 := by unfold vbc; rw [if_neg h0, if_neg h1, if_neg h2, if_neg h3, if_neg h4, if_neg h5, if_neg h6, if_pos h7]
    rw [eo, uI_S]
    refine r_bipush (pc := 172) (v := nI 7) X dX7_verb_172 (by decide) ?_
    exact r_iret (pc := 174) X dX7_verb_174 (⟨rfl, rfl⟩)
  have h7 : ¬ W = wcd 7 := fun q => h7 ((lcmp_N hlt (wcd_63 7 (by omega))).mpr q)
  refine r_lload_n (pc := 175) X dX7_verb_175 rfl ?_
  refine r_bipush (pc := 176) (v := nI 115) X dX7_verb_176 (by decide) ?_
  refine r_bipush (pc := 178) (v := nI 108) X dX7_verb_178 (by decide) ?_
  refine r_bipush (pc := 180) (v := nI 101) X dX7_verb_180 (by decide) ?_
  refine r_bipush (pc := 182) (v := nI 101) X dX7_verb_182 (by decide) ?_
  refine r_bipush (pc := 184) (v := nI 112) X dX7_verb_184 (by decide) ?_
  refine r_iconst (pc := 186) (v := nI 0) X dX7_verb_186 (by decide) ?_
  refine r_iconst (pc := 187) (v := nI 0) X dX7_verb_187 (by decide) ?_
  refine c_l X (rS (pc := 188) X l_X7_85 (t7_spelt (nI 115) (nI 108) (nI 101) (nI 101) (nI 112) (nI 0) (nI 0)) dX7_verb_188 rfl rfl (Nat.le_of_ble_eq_true rfl) (by decide) (Nat.le_of_ble_eq_true rfl) (Nat.le_of_ble_eq_true rfl)) ?_
  rintro _ μq ⟨rfl, hμq⟩
  rw [hμq]
  clear hμq μq
  rw [show spv (spv (spv (spv (spv (spv (spf (nI 115)) (nI 108)) (nI 101)) (nI 101)) (nI 112)) (nI 0)) (nI 0) = lN (wcd 8) by decide +kernel]
  refine r_lcmp (pc := 191) X dX7_verb_191 ?_
  refine r_if_ne (pc := 192) X 198 dX7_verb_192 (by decide) (fun h8 => ?_) (fun h8 => ?_)
  rotate_left
  · have h8 := (lcmp_N hlt (wcd_63 8 (by omega))).mp h8
    have eo : vbc W = 8+1 := by unfold vbc; rw [if_neg h0, if_neg h1, if_neg h2, if_neg h3, if_neg h4, if_neg h5, if_neg h6, if_neg h7, if_pos h8]
    rw [eo, uI_S]
    refine r_bipush (pc := 195) (v := nI 8) X dX7_verb_195 (by decide) ?_
    exact r_iret (pc := 197) X dX7_verb_197 (⟨rfl, rfl⟩)
  have h8 : ¬ W = wcd 8 := fun q => h8 ((lcmp_N hlt (wcd_63 8 (by omega))).mpr q)
  refine r_lload_n (pc := 198) X dX7_verb_198 rfl ?_
  refine r_bipush (pc := 199) (v := nI 104) X dX7_verb_199 (by decide) ?_
  refine r_bipush (pc := 201) (v := nI 97) X dX7_verb_201 (by decide) ?_
  refine r_bipush (pc := 203) (v := nI 114) X dX7_verb_203 (by decide) ?_
  refine r_bipush (pc := 205) (v := nI 100) X dX7_verb_205 (by decide) ?_
  refine r_iconst (pc := 207) (v := nI 0) X dX7_verb_207 (by decide) ?_
  refine r_iconst (pc := 208) (v := nI 0) X dX7_verb_208 (by decide) ?_
  refine r_iconst (pc := 209) (v := nI 0) X dX7_verb_209 (by decide) ?_
  refine c_l X (rS (pc := 210) X l_X7_85 (t7_spelt (nI 104) (nI 97) (nI 114) (nI 100) (nI 0) (nI 0) (nI 0)) dX7_verb_210 rfl rfl (Nat.le_of_ble_eq_true rfl) (by decide) (Nat.le_of_ble_eq_true rfl) (Nat.le_of_ble_eq_true rfl)) ?_
  rintro _ μq ⟨rfl, hμq⟩
  rw [hμq]
  clear hμq μq
  rw [show spv (spv (spv (spv (spv (spv (spf (nI 104)) (nI 97)) (nI 114)) (nI 100)) (nI 0)) (nI 0)) (nI 0) = lN (wcd 9) by decide +kernel]
  refine r_lcmp (pc := 213) X dX7_verb_213 ?_
  refine r_if_ne (pc := 214) X 222 dX7_verb_214 (by decide) (fun h9 => ?_) (fun h9 => ?_)
  rotate_left
  · have h9 := (lcmp_N hlt (wcd_63 9 (by omega))).mp h9
    have eo : vbc W = 9+1 := by unfold vbc; rw [if_neg h0, if_neg h1, if_neg h2, if_neg h3, if_neg h4, if_neg h5, if_neg h6, if_neg h7, if_neg h8, if_pos h9]
    rw [eo, uI_S]
    refine r_bipush (pc := 217) (v := nI 9) X dX7_verb_217 (by decide) ?_
    refine r_goto (pc := 219) X 247 dX7_verb_219 (by decide) ?_
    exact r_iret (pc := 247) X dX7_verb_247 (⟨rfl, rfl⟩)
  have h9 : ¬ W = wcd 9 := fun q => h9 ((lcmp_N hlt (wcd_63 9 (by omega))).mpr q)
  refine r_lload_n (pc := 222) X dX7_verb_222 rfl ?_
  refine r_bipush (pc := 223) (v := nI 101) X dX7_verb_223 (by decide) ?_
  refine r_bipush (pc := 225) (v := nI 97) X dX7_verb_225 (by decide) ?_
  refine r_bipush (pc := 227) (v := nI 116) X dX7_verb_227 (by decide) ?_
  refine r_bipush (pc := 229) (v := nI 115) X dX7_verb_229 (by decide) ?_
  refine r_iconst (pc := 231) (v := nI 0) X dX7_verb_231 (by decide) ?_
  refine r_iconst (pc := 232) (v := nI 0) X dX7_verb_232 (by decide) ?_
  refine r_iconst (pc := 233) (v := nI 0) X dX7_verb_233 (by decide) ?_
  refine c_l X (rS (pc := 234) X l_X7_85 (t7_spelt (nI 101) (nI 97) (nI 116) (nI 115) (nI 0) (nI 0) (nI 0)) dX7_verb_234 rfl rfl (Nat.le_of_ble_eq_true rfl) (by decide) (Nat.le_of_ble_eq_true rfl) (Nat.le_of_ble_eq_true rfl)) ?_
  rintro _ μq ⟨rfl, hμq⟩
  rw [hμq]
  clear hμq μq
  rw [show spv (spv (spv (spv (spv (spv (spf (nI 101)) (nI 97)) (nI 116)) (nI 115)) (nI 0)) (nI 0)) (nI 0) = lN (wcd 10) by decide +kernel]
  refine r_lcmp (pc := 237) X dX7_verb_237 ?_
  refine r_if_ne (pc := 238) X 246 dX7_verb_238 (by decide) (fun h10 => ?_) (fun h10 => ?_)
  rotate_left
  · have h10 := (lcmp_N hlt (wcd_63 10 (by omega))).mp h10
    have eo : vbc W = 10+1 := by unfold vbc; rw [if_neg h0, if_neg h1, if_neg h2, if_neg h3, if_neg h4, if_neg h5, if_neg h6, if_neg h7, if_neg h8, if_neg h9, if_pos h10]
    rw [eo, uI_S]
    refine r_bipush (pc := 241) (v := nI 10) X dX7_verb_241 (by decide) ?_
    refine r_goto (pc := 243) X 247 dX7_verb_243 (by decide) ?_
    exact r_iret (pc := 247) X dX7_verb_247 (⟨rfl, rfl⟩)
  have h10 : ¬ W = wcd 10 := fun q => h10 ((lcmp_N hlt (wcd_63 10 (by omega))).mpr q)
  have eo : vbc W = 0 := by unfold vbc; rw [if_neg h0, if_neg h1, if_neg h2, if_neg h3, if_neg h4, if_neg h5, if_neg h6, if_neg h7, if_neg h8, if_neg h9, if_neg h10]
  rw [eo, uI_0]
  refine r_iconst (pc := 246) (v := -1) X dX7_verb_246 (by decide) ?_
  exact r_iret (pc := 247) X dX7_verb_247 (⟨rfl, rfl⟩)
end S56
