def isSm (c : Nat) : Bool := decide (97 ≤ c ∧ c ≤ 122)
def isDg (c : Nat) : Bool := decide (48 ≤ c ∧ c ≤ 57)
def rnF (P : Nat → Bool) (X : Nat → Nat) (n : Nat) : Nat → Nat → Nat
  | 0, i => i
  | f + 1, i => if (decide (i < n) && P (X i)) = true then rnF P X n f (i + 1) else i
/-- the end of the run of letters of a kind that begins at i -/
def rn (P : Nat → Bool) (X : Nat → Nat) (n i : Nat) : Nat := rnF P X n (n - i) i
theorem rn_y {P : Nat → Bool} {X : Nat → Nat} {n i : Nat} (hi : i < n) (hp : P (X i) = true) : rn P X n i = rn P X n (i + 1) := by
  unfold rn
  rw [show n - i = (n - (i + 1)) + 1 by omega]
  show (if (decide (i < n) && P (X i)) = true then rnF P X n (n - (i + 1)) (i + 1) else i) = _
  rw [if_pos (by simp [hi, hp])]
theorem rn_n {P : Nat → Bool} {X : Nat → Nat} {n i : Nat} (h : n ≤ i ∨ P (X i) = false) : rn P X n i = i := by
  unfold rn
  cases hq : n - i with
  | zero => rfl
  | succ f =>
    show (if (decide (i < n) && P (X i)) = true then rnF P X n f (i + 1) else i) = i
    rw [if_neg]
    rcases h with h | h
    · simp; omega
    · simp [h]
theorem rn_ind {P : Nat → Bool} {X : Nat → Nat} {n : Nat} : ∀ N i, i + N = n → i ≤ rn P X n i ∧ rn P X n i ≤ n ∧ ∀ j, i ≤ j → j < rn P X n i → P (X j) = true := by
  intro N
  induction N with
  | zero =>
    intro i hi
    rw [rn_n (Or.inl (by omega))]
    exact ⟨Nat.le_refl _, by omega, fun j h1 h2 => by omega⟩
  | succ N ih =>
    intro i hi
    by_cases hp : P (X i) = true
    · rw [rn_y (by omega) hp]
      obtain ⟨h1, h2, h3⟩ := ih (i + 1) (by omega)
      refine ⟨by omega, h2, fun j h4 h5 => ?_⟩
      by_cases hj : j = i
      · rw [hj]; exact hp
      · exact h3 j (by omega) h5
    · rw [rn_n (Or.inr (by simpa using hp))]
      exact ⟨Nat.le_refl _, by omega, fun j h1 h2 => by omega⟩
theorem rn_ge {P : Nat → Bool} {X : Nat → Nat} {n i : Nat} (h : i ≤ n) : i ≤ rn P X n i := (rn_ind (n - i) i (by omega)).1
theorem rn_le {P : Nat → Bool} {X : Nat → Nat} {n i : Nat} (h : i ≤ n) : rn P X n i ≤ n := (rn_ind (n - i) i (by omega)).2.1
theorem rn_all {P : Nat → Bool} {X : Nat → Nat} {n i j : Nat} (h : i ≤ n) (h1 : i ≤ j) (h2 : j < rn P X n i) : P (X j) = true := (rn_ind (n - i) i (by omega)).2.2 j h1 h2
/-- the token behind e: where it begins, where it ends -/
def tkB (X : Nat → Nat) (n e : Nat) : Nat := rn (fun c => c == 32) X n e
def tkq (x c : Nat) : Bool := (isSm x && isSm c) || (isDg x && isDg c)
def tkE (X : Nat → Nat) (n b : Nat) : Nat := if n ≤ b then b else rn (tkq (X b)) X n (b + 1)
theorem tkE_le {X : Nat → Nat} {n b : Nat} (h : b ≤ n) : tkE X n b ≤ n := by
  unfold tkE
  split
  · exact h
  · exact rn_le (by omega)
theorem tkE_ge {X : Nat → Nat} {n b : Nat} : b ≤ tkE X n b := by
  unfold tkE
  split
  · exact Nat.le_refl _
  · have := rn_ge (P := tkq (X b)) (X := X) (n := n) (i := b + 1) (by omega)
    omega
theorem tkE_dig {X : Nat → Nat} {n b j : Nat} (hb : isDg (X b) = true) (h1 : b ≤ j) (h2 : j < tkE X n b) : isDg (X j) = true := by
  by_cases hj : j = b
  · rw [hj]; exact hb
  · unfold tkE at h2
    split at h2
    · omega
    · have h3 := rn_all (P := tkq (X b)) (by omega) (show b + 1 ≤ j by omega) h2
      have hs : isSm (X b) = false := by unfold isSm isDg at *; simp at *; omega
      unfold tkq at h3
      simpa [hs, hb] using h3
def tkIs (X : Nat → Nat) (b e k : Nat) : Bool := (e - b == strL.getD k 0) && alln (strL.getD k 0) (fun j => X (b + j) == spl k j)
def nv (X : Nat → Nat) (b : Nat) : Nat → Nat
  | 0 => 0
  | k + 1 => 10 * nv X b k + X (b + k) - 48
def nmC (X : Nat → Nat) (n b e : Nat) : Nat := if b < n ∧ e - b ≤ 3 ∧ isDg (X b) = true then nv X b (e - b) + 1 else 0
theorem nv_lt {X : Nat → Nat} {b e : Nat} (hd : ∀ j, b ≤ j → j < e → isDg (X j) = true) : ∀ k, b + k ≤ e → nv X b k < 10 ^ k := by
  intro k
  induction k with
  | zero => intro _; show 0 < 1; decide
  | succ k ih =>
    intro hk
    have h1 := ih (by omega)
    have h2 := hd (b + k) (by omega) (by omega)
    unfold isDg at h2
    simp at h2
    show 10 * nv X b k + X (b + k) - 48 < 10 ^ (k + 1)
    rw [Nat.pow_succ]
    omega
section S21
variable {Γ : KK} {l : Launch} {sz : Nat} {μ : MM} {a n : Nat} 
theorem t4_isSmall {c' : Nat} (hc : c' < 256) : CT Γ l 0 sz 0 0 mX4_isSmall [.int (nI c')] μ (ri (fun r μ' => r = zb (isSm c') ∧ μ' = μ)) := by
  refine CT.go RX4 rfl "isSmall" rfl [some (.int (nI c'))] rfl (by decide) (Nat.le_of_ble_eq_true rfl) ?_
  intro p e R s m args below meth c X hsz
  refine r_iload_n (pc := 0) X dX4_isSmall_0 rfl ?_
  refine r_bipush (pc := 1) (v := nI 97) X dX4_isSmall_1 (by decide) ?_
  first | refine r_icmp_ltN (pc := 3) X 16 dX4_isSmall_3 (by decide) (by omega) (by omega) (fun h => ?_) (fun h => ?_) | refine r_icmp_lt (pc := 3) X 16 dX4_isSmall_3 (by decide) (fun h => ?_) (fun h => ?_)
  · refine r_iconst (pc := 16) (v := nI 0) X dX4_isSmall_16 (by decide) ?_
    exact r_zret (pc := 17) X dX4_isSmall_17 (by first | rfl | decide | exact zb_nar _) (⟨by unfold isSm; rw [decide_eq_false (by omega)]; rfl, rfl⟩)
  · refine r_iload_n (pc := 6) X dX4_isSmall_6 rfl ?_
    refine r_bipush (pc := 7) (v := nI 122) X dX4_isSmall_7 (by decide) ?_
    first | refine r_icmp_gtN (pc := 9) X 16 dX4_isSmall_9 (by decide) (by omega) (by omega) (fun h2 => ?_) (fun h2 => ?_) | refine r_icmp_gt (pc := 9) X 16 dX4_isSmall_9 (by decide) (fun h2 => ?_) (fun h2 => ?_)
    · refine r_iconst (pc := 16) (v := nI 0) X dX4_isSmall_16 (by decide) ?_
      exact r_zret (pc := 17) X dX4_isSmall_17 (by first | rfl | decide | exact zb_nar _) (⟨by unfold isSm; rw [decide_eq_false (by omega)]; rfl, rfl⟩)
    · refine r_iconst (pc := 12) (v := nI 1) X dX4_isSmall_12 (by decide) ?_
      refine r_goto (pc := 13) X 17 dX4_isSmall_13 (by decide) ?_
      exact r_zret (pc := 17) X dX4_isSmall_17 (by first | rfl | decide | exact zb_nar _) (⟨by unfold isSm; rw [decide_eq_true (by omega)]; rfl, rfl⟩)
theorem t4_isDigit {c' : Nat} (hc : c' < 256) : CT Γ l 0 sz 0 0 mX4_isDigit [.int (nI c')] μ (ri (fun r μ' => r = zb (isDg c') ∧ μ' = μ)) := by
  refine CT.go RX4 rfl "isDigit" rfl [some (.int (nI c'))] rfl (by decide) (Nat.le_of_ble_eq_true rfl) ?_
  intro p e R s m args below meth c X hsz
  refine r_iload_n (pc := 0) X dX4_isDigit_0 rfl ?_
  refine r_bipush (pc := 1) (v := nI 48) X dX4_isDigit_1 (by decide) ?_
  first | refine r_icmp_ltN (pc := 3) X 16 dX4_isDigit_3 (by decide) (by omega) (by omega) (fun h => ?_) (fun h => ?_) | refine r_icmp_lt (pc := 3) X 16 dX4_isDigit_3 (by decide) (fun h => ?_) (fun h => ?_)
  · refine r_iconst (pc := 16) (v := nI 0) X dX4_isDigit_16 (by decide) ?_
    exact r_zret (pc := 17) X dX4_isDigit_17 (by first | rfl | decide | exact zb_nar _) (⟨by unfold isDg; rw [decide_eq_false (by omega)]; rfl, rfl⟩)
  · refine r_iload_n (pc := 6) X dX4_isDigit_6 rfl ?_
    refine r_bipush (pc := 7) (v := nI 57) X dX4_isDigit_7 (by decide) ?_
    first | refine r_icmp_gtN (pc := 9) X 16 dX4_isDigit_9 (by decide) (by omega) (by omega) (fun h2 => ?_) (fun h2 => ?_) | refine r_icmp_gt (pc := 9) X 16 dX4_isDigit_9 (by decide) (fun h2 => ?_) (fun h2 => ?_)
    · refine r_iconst (pc := 16) (v := nI 0) X dX4_isDigit_16 (by decide) ?_
      exact r_zret (pc := 17) X dX4_isDigit_17 (by first | rfl | decide | exact zb_nar _) (⟨by unfold isDg; rw [decide_eq_false (by omega)]; rfl, rfl⟩)
    · refine r_iconst (pc := 12) (v := nI 1) X dX4_isDigit_12 (by decide) ?_
      refine r_goto (pc := 13) X 17 dX4_isDigit_13 (by decide) ?_
      exact r_zret (pc := 17) X dX4_isDigit_17 (by first | rfl | decide | exact zb_nar _) (⟨by unfold isDg; rw [decide_eq_true (by omega)]; rfl, rfl⟩)
end S21
section S21b
variable {Γ : KK} {l : Launch} {sz : Nat} {μ : MM} {a n : Nat} {xs : Nat → Nat} {cl : Int32}
theorem t4_nextToken {b0 : Int32} {e0 : Nat} (h : TextAt Γ μ a n xs cl b0 (nI e0)) (hn : n ≤ 160) (hx : ∀ i, xs i < 256) (he : e0 ≤ n) : CT Γ l 1 sz 0 0 mX4_nextToken [.ref a] μ (rv (fun μ' => TextAt Γ μ' a n xs cl (nI (tkB xs n e0)) (nI (tkE xs n (tkB xs n e0))) ∧ Fr a 1 μ μ')) := by
  obtain ⟨g0, g1⟩ := h
  refine CT.go RX4 rfl "nextToken" rfl [some (.ref a), none, none] rfl (by decide) (Nat.le_of_ble_eq_true rfl) ?_
  intro p e R s m args below meth c X hsz
  refine r_aload_n (pc := 0) X dX4_nextToken_0 rfl ?_
  refine r_aload_n (pc := 1) X dX4_nextToken_1 rfl ?_
  apply r_get (pc := 2) X f_X4_19 dX4_nextToken_2
  · repeat (first | exact mu_self | assumption | refine (mu_ne (by omega)).trans ?_)
  · rfl
  first | refine r_putS (pc := 5) X f_X4_26 dX4_nextToken_5 (by first | rfl | assumption | decide | simp [narrow]) (by first | rfl | assumption) (Nat.le_of_ble_eq_true rfl) ?_ | refine r_put (pc := 5) X f_X4_26 dX4_nextToken_5 (by repeat (first | exact mu_self | assumption | refine (mu_ne (by omega)).trans ?_)) (by first | rfl | assumption | decide | simp [narrow]) (by first | rfl | assumption) (Nat.le_of_ble_eq_true rfl) ?_
  have fin2 : ∀ (N j : Nat) (μ1 : MM), j + N = n → tkB xs n e0 < n → tkE xs n (tkB xs n e0) = rn (tkq (xs (tkB xs n e0))) xs n j → μ1 a = some (xO 4 [.ref (a + 1), .int (nI n), .int cl, .int (nI (tkB xs n e0)), .int (nI j)]) → μ1 (a + 1) = some (xC Γ 160 (fun i => nI (xs i))) → Fr a 1 μ μ1 → vV Γ p l e R s m args below meth c (vQ Γ s args below 0 0 (rv (fun μ' => TextAt Γ μ' a n xs cl (nI (tkB xs n e0)) (nI (tkE xs n (tkB xs n e0))) ∧ Fr a 1 μ μ'))) 3 0 0 102 [some (.ref (a)), some (.int (zb (isSm (xs (tkB xs n e0))))), some (.int (zb (isDg (xs (tkB xs n e0)))))] [] (μ1) := by
    intro N
    induction N with
    | zero =>
      intro j μ1 hj hb hE q0 q1 q2
      have hj2 : j = n := by omega
      refine r_aload_n (pc := 102) X dX4_nextToken_102 rfl ?_
      apply r_get (pc := 103) X f_X4_19 dX4_nextToken_103
      · repeat (first | exact mu_self | assumption | refine (mu_ne (by omega)).trans ?_)
      · rfl
      refine r_aload_n (pc := 106) X dX4_nextToken_106 rfl ?_
      apply r_get (pc := 107) X f_X4_15 dX4_nextToken_107
      · repeat (first | exact mu_self | assumption | refine (mu_ne (by omega)).trans ?_)
      · rfl
      refine r_icmp_geN (pc := 110) X 164 dX4_nextToken_110 (by decide) (by omega) (by omega) (fun _ => ?_) (fun h => absurd (show n ≤ j by omega) h)
      rw [rn_n (Or.inl (by omega))] at hE
      exact r_vret (pc := 164) X dX4_nextToken_164 (⟨⟨by rw [hE]; exact q0, q1⟩, q2⟩)
    | succ N ih =>
      intro j μ1 hj hb hE q0 q1 q2
      have hxj := hx j
      have yes : tkq (xs (tkB xs n e0)) (xs j) = true → vV Γ p l e R s m args below meth c (vQ Γ s args below 0 0 (rv (fun μ' => TextAt Γ μ' a n xs cl (nI (tkB xs n e0)) (nI (tkE xs n (tkB xs n e0))) ∧ Fr a 1 μ μ'))) 3 0 0 151 [some (.ref (a)), some (.int (zb (isSm (xs (tkB xs n e0))))), some (.int (zb (isDg (xs (tkB xs n e0)))))] [] (μ1) := by
        intro hq
        refine r_aload_n (pc := 151) X dX4_nextToken_151 rfl ?_
        refine r_dup (pc := 152) X dX4_nextToken_152 rfl ?_
        apply r_get (pc := 153) X f_X4_19 dX4_nextToken_153
        · repeat (first | exact mu_self | assumption | refine (mu_ne (by omega)).trans ?_)
        · rfl
        refine r_iconst (pc := 156) (v := nI 1) X dX4_nextToken_156 (by decide) ?_
        first | refine r_iaddN (pc := 157) X dX4_nextToken_157 ?_ | refine r_iadd (pc := 157) X dX4_nextToken_157 ?_
        first | refine r_putS (pc := 158) X f_X4_19 dX4_nextToken_158 (by first | rfl | assumption | decide | simp [narrow]) (by first | rfl | assumption) (Nat.le_of_ble_eq_true rfl) ?_ | refine r_put (pc := 158) X f_X4_19 dX4_nextToken_158 (by repeat (first | exact mu_self | assumption | refine (mu_ne (by omega)).trans ?_)) (by first | rfl | assumption | decide | simp [narrow]) (by first | rfl | assumption) (Nat.le_of_ble_eq_true rfl) ?_
        refine r_goto (pc := 161) X 102 dX4_nextToken_161 (by decide) ?_
        exact ih (j + 1) _ (by omega) hb (by rw [hE, rn_y (by omega) hq]) mu_self (by repeat (first | exact mu_self | assumption | refine (mu_ne (by omega)).trans ?_)) (fun q hq => (mu_ne (by omega)).trans (q2 q hq))
      have no : tkq (xs (tkB xs n e0)) (xs j) = false → vV Γ p l e R s m args below meth c (vQ Γ s args below 0 0 (rv (fun μ' => TextAt Γ μ' a n xs cl (nI (tkB xs n e0)) (nI (tkE xs n (tkB xs n e0))) ∧ Fr a 1 μ μ'))) 3 0 0 164 [some (.ref (a)), some (.int (zb (isSm (xs (tkB xs n e0))))), some (.int (zb (isDg (xs (tkB xs n e0)))))] [] (μ1) := by
        intro hq
        rw [rn_n (Or.inr hq)] at hE
        exact r_vret (pc := 164) X dX4_nextToken_164 (⟨⟨by rw [hE]; exact q0, q1⟩, q2⟩)
      have dig : (isSm (xs (tkB xs n e0)) && isSm (xs j)) = false → vV Γ p l e R s m args below meth c (vQ Γ s args below 0 0 (rv (fun μ' => TextAt Γ μ' a n xs cl (nI (tkB xs n e0)) (nI (tkE xs n (tkB xs n e0))) ∧ Fr a 1 μ μ'))) 3 0 0 132 [some (.ref (a)), some (.int (zb (isSm (xs (tkB xs n e0))))), some (.int (zb (isDg (xs (tkB xs n e0)))))] [] (μ1) := by
        intro hq
        refine r_iload_n (pc := 132) X dX4_nextToken_132 rfl ?_
        first | refine r_if_eqZ (pc := 133) X 164 dX4_nextToken_133 (by decide) (fun h2 => ?_) (fun h2 => ?_) | refine r_if_eqN (pc := 133) X 164 dX4_nextToken_133 (by decide) (by omega) (fun h2 => ?_) (fun h2 => ?_) | refine r_if_eq (pc := 133) X 164 dX4_nextToken_133 (by decide) (fun h2 => ?_) (fun h2 => ?_)
        · exact no (by unfold tkq; rw [hq, h2]; rfl)
        · refine r_aload_n (pc := 136) X dX4_nextToken_136 rfl ?_
          apply r_get (pc := 137) X f_X4_9 dX4_nextToken_137
          · repeat (first | exact mu_self | assumption | refine (mu_ne (by omega)).trans ?_)
          · rfl
          refine r_aload_n (pc := 140) X dX4_nextToken_140 rfl ?_
          apply r_get (pc := 141) X f_X4_19 dX4_nextToken_141
          · repeat (first | exact mu_self | assumption | refine (mu_ne (by omega)).trans ?_)
          · rfl
          apply r_cald (pc := 144) X dX4_nextToken_144
          · repeat (first | exact mu_self | assumption | refine (mu_ne (by omega)).trans ?_)
          · omega
          · decide
          refine c_i X (rS (pc := 145) X l_X4_67 (t4_isDigit hxj) dX4_nextToken_145 rfl rfl (Nat.le_of_ble_eq_true rfl) (by decide) (Nat.le_of_ble_eq_true rfl) (Nat.le_of_ble_eq_true rfl)) ?_
          rintro _ μq ⟨rfl, hμq⟩
          rw [hμq]
          clear hμq μq
          first | refine r_if_eqZ (pc := 148) X 164 dX4_nextToken_148 (by decide) (fun h3 => ?_) (fun h3 => ?_) | refine r_if_eqN (pc := 148) X 164 dX4_nextToken_148 (by decide) (by omega) (fun h3 => ?_) (fun h3 => ?_) | refine r_if_eq (pc := 148) X 164 dX4_nextToken_148 (by decide) (fun h3 => ?_) (fun h3 => ?_)
          · exact no (by unfold tkq; rw [hq, h3]; simp)
          · exact yes (by unfold tkq; rw [h2, h3]; simp)
      refine r_aload_n (pc := 102) X dX4_nextToken_102 rfl ?_
      apply r_get (pc := 103) X f_X4_19 dX4_nextToken_103
      · repeat (first | exact mu_self | assumption | refine (mu_ne (by omega)).trans ?_)
      · rfl
      refine r_aload_n (pc := 106) X dX4_nextToken_106 rfl ?_
      apply r_get (pc := 107) X f_X4_15 dX4_nextToken_107
      · repeat (first | exact mu_self | assumption | refine (mu_ne (by omega)).trans ?_)
      · rfl
      refine r_icmp_geN (pc := 110) X 164 dX4_nextToken_110 (by decide) (by omega) (by omega) (fun h => absurd h (by omega)) (fun _ => ?_)
      refine r_iload_n (pc := 113) X dX4_nextToken_113 rfl ?_
      first | refine r_if_eqZ (pc := 114) X 132 dX4_nextToken_114 (by decide) (fun h1 => ?_) (fun h1 => ?_) | refine r_if_eqN (pc := 114) X 132 dX4_nextToken_114 (by decide) (by omega) (fun h1 => ?_) (fun h1 => ?_) | refine r_if_eq (pc := 114) X 132 dX4_nextToken_114 (by decide) (fun h1 => ?_) (fun h1 => ?_)
      · exact dig (by rw [h1]; rfl)
      · refine r_aload_n (pc := 117) X dX4_nextToken_117 rfl ?_
        apply r_get (pc := 118) X f_X4_9 dX4_nextToken_118
        · repeat (first | exact mu_self | assumption | refine (mu_ne (by omega)).trans ?_)
        · rfl
        refine r_aload_n (pc := 121) X dX4_nextToken_121 rfl ?_
        apply r_get (pc := 122) X f_X4_19 dX4_nextToken_122
        · repeat (first | exact mu_self | assumption | refine (mu_ne (by omega)).trans ?_)
        · rfl
        apply r_cald (pc := 125) X dX4_nextToken_125
        · repeat (first | exact mu_self | assumption | refine (mu_ne (by omega)).trans ?_)
        · omega
        · decide
        refine c_i X (rS (pc := 126) X l_X4_63 (t4_isSmall hxj) dX4_nextToken_126 rfl rfl (Nat.le_of_ble_eq_true rfl) (by decide) (Nat.le_of_ble_eq_true rfl) (Nat.le_of_ble_eq_true rfl)) ?_
        rintro _ μq ⟨rfl, hμq⟩
        rw [hμq]
        clear hμq μq
        first | refine r_if_neZ (pc := 129) X 151 dX4_nextToken_129 (by decide) (fun h3 => ?_) (fun h3 => ?_) | refine r_if_neN (pc := 129) X 151 dX4_nextToken_129 (by decide) (by omega) (fun h3 => ?_) (fun h3 => ?_) | refine r_if_ne (pc := 129) X 151 dX4_nextToken_129 (by decide) (fun h3 => ?_) (fun h3 => ?_)
        · exact yes (by unfold tkq; rw [h1, h3]; simp)
        · exact dig (by rw [h3]; simp)
  have fin1 : ∀ (i : Nat) (μ1 : MM), i ≤ n → tkB xs n e0 = i → μ1 a = some (xO 4 [.ref (a + 1), .int (nI n), .int cl, .int (nI i), .int (nI e0)]) → μ1 (a + 1) = some (xC Γ 160 (fun i => nI (xs i))) → Fr a 1 μ μ1 → vV Γ p l e R s m args below meth c (vQ Γ s args below 0 0 (rv (fun μ' => TextAt Γ μ' a n xs cl (nI (tkB xs n e0)) (nI (tkE xs n (tkB xs n e0))) ∧ Fr a 1 μ μ'))) 3 0 0 46 [some (.ref (a)), none, none] [] (μ1) := by
    intro i μ1 hi hB q0 q1 q2
    subst hB
    refine r_aload_n (pc := 46) X dX4_nextToken_46 rfl ?_
    refine r_aload_n (pc := 47) X dX4_nextToken_47 rfl ?_
    apply r_get (pc := 48) X f_X4_26 dX4_nextToken_48
    · repeat (first | exact mu_self | assumption | refine (mu_ne (by omega)).trans ?_)
    · rfl
    first | refine r_putS (pc := 51) X f_X4_19 dX4_nextToken_51 (by first | rfl | assumption | decide | simp [narrow]) (by first | rfl | assumption) (Nat.le_of_ble_eq_true rfl) ?_ | refine r_put (pc := 51) X f_X4_19 dX4_nextToken_51 (by repeat (first | exact mu_self | assumption | refine (mu_ne (by omega)).trans ?_)) (by first | rfl | assumption | decide | simp [narrow]) (by first | rfl | assumption) (Nat.le_of_ble_eq_true rfl) ?_
    refine r_aload_n (pc := 54) X dX4_nextToken_54 rfl ?_
    apply r_get (pc := 55) X f_X4_26 dX4_nextToken_55
    · repeat (first | exact mu_self | assumption | refine (mu_ne (by omega)).trans ?_)
    · rfl
    refine r_aload_n (pc := 58) X dX4_nextToken_58 rfl ?_
    apply r_get (pc := 59) X f_X4_15 dX4_nextToken_59
    · repeat (first | exact mu_self | assumption | refine (mu_ne (by omega)).trans ?_)
    · rfl
    first | refine r_icmp_ltN (pc := 62) X 66 dX4_nextToken_62 (by decide) (by omega) (by omega) (fun h2 => ?_) (fun h2 => ?_) | refine r_icmp_lt (pc := 62) X 66 dX4_nextToken_62 (by decide) (fun h2 => ?_) (fun h2 => ?_)
    · have hxi := hx (tkB xs n e0)
      refine r_aload_n (pc := 66) X dX4_nextToken_66 rfl ?_
      refine r_dup (pc := 67) X dX4_nextToken_67 rfl ?_
      apply r_get (pc := 68) X f_X4_19 dX4_nextToken_68
      · repeat (first | exact mu_self | assumption | refine (mu_ne (by omega)).trans ?_)
      · rfl
      refine r_iconst (pc := 71) (v := nI 1) X dX4_nextToken_71 (by decide) ?_
      first | refine r_iaddN (pc := 72) X dX4_nextToken_72 ?_ | refine r_iadd (pc := 72) X dX4_nextToken_72 ?_
      first | refine r_putS (pc := 73) X f_X4_19 dX4_nextToken_73 (by first | rfl | assumption | decide | simp [narrow]) (by first | rfl | assumption) (Nat.le_of_ble_eq_true rfl) ?_ | refine r_put (pc := 73) X f_X4_19 dX4_nextToken_73 (by repeat (first | exact mu_self | assumption | refine (mu_ne (by omega)).trans ?_)) (by first | rfl | assumption | decide | simp [narrow]) (by first | rfl | assumption) (Nat.le_of_ble_eq_true rfl) ?_
      refine r_aload_n (pc := 76) X dX4_nextToken_76 rfl ?_
      apply r_get (pc := 77) X f_X4_9 dX4_nextToken_77
      · repeat (first | exact mu_self | assumption | refine (mu_ne (by omega)).trans ?_)
      · rfl
      refine r_aload_n (pc := 80) X dX4_nextToken_80 rfl ?_
      apply r_get (pc := 81) X f_X4_26 dX4_nextToken_81
      · repeat (first | exact mu_self | assumption | refine (mu_ne (by omega)).trans ?_)
      · rfl
      apply r_cald (pc := 84) X dX4_nextToken_84
      · repeat (first | exact mu_self | assumption | refine (mu_ne (by omega)).trans ?_)
      · omega
      · decide
      refine c_i X (rS (pc := 85) X l_X4_63 (t4_isSmall hxi) dX4_nextToken_85 rfl rfl (Nat.le_of_ble_eq_true rfl) (by decide) (Nat.le_of_ble_eq_true rfl) (Nat.le_of_ble_eq_true rfl)) ?_
      rintro _ μq ⟨rfl, hμq⟩
      rw [hμq]
      clear hμq μq
      refine r_istore_n (pc := 88) X dX4_nextToken_88 (by decide) rfl ?_
      refine r_aload_n (pc := 89) X dX4_nextToken_89 rfl ?_
      apply r_get (pc := 90) X f_X4_9 dX4_nextToken_90
      · repeat (first | exact mu_self | assumption | refine (mu_ne (by omega)).trans ?_)
      · rfl
      refine r_aload_n (pc := 93) X dX4_nextToken_93 rfl ?_
      apply r_get (pc := 94) X f_X4_26 dX4_nextToken_94
      · repeat (first | exact mu_self | assumption | refine (mu_ne (by omega)).trans ?_)
      · rfl
      apply r_cald (pc := 97) X dX4_nextToken_97
      · repeat (first | exact mu_self | assumption | refine (mu_ne (by omega)).trans ?_)
      · omega
      · decide
      refine c_i X (rS (pc := 98) X l_X4_67 (t4_isDigit hxi) dX4_nextToken_98 rfl rfl (Nat.le_of_ble_eq_true rfl) (by decide) (Nat.le_of_ble_eq_true rfl) (Nat.le_of_ble_eq_true rfl)) ?_
      rintro _ μq ⟨rfl, hμq⟩
      rw [hμq]
      clear hμq μq
      refine r_istore_n (pc := 101) X dX4_nextToken_101 (by decide) rfl ?_
      exact fin2 (n - (tkB xs n e0 + 1)) (tkB xs n e0 + 1) _ (by omega) (by omega) (by unfold tkE; rw [if_neg (by omega)]) mu_self (by repeat (first | exact mu_self | assumption | refine (mu_ne (by omega)).trans ?_)) (fun q hq => (mu_ne (by omega)).trans (q2 q hq))
    · have hE : tkE xs n (tkB xs n e0) = tkB xs n e0 := by unfold tkE; rw [if_pos (by omega)]
      exact r_vret (pc := 65) X dX4_nextToken_65 (⟨⟨by rw [hE]; exact mu_self, (by repeat (first | exact mu_self | assumption | refine (mu_ne (by omega)).trans ?_))⟩, fun q hq => (mu_ne (by omega)).trans (q2 q hq)⟩)
  have key : ∀ (N i : Nat) (μ1 : MM), i + N = n → tkB xs n e0 = tkB xs n i → μ1 a = some (xO 4 [.ref (a + 1), .int (nI n), .int cl, .int (nI i), .int (nI e0)]) → μ1 (a + 1) = some (xC Γ 160 (fun i => nI (xs i))) → Fr a 1 μ μ1 → vV Γ p l e R s m args below meth c (vQ Γ s args below 0 0 (rv (fun μ' => TextAt Γ μ' a n xs cl (nI (tkB xs n e0)) (nI (tkE xs n (tkB xs n e0))) ∧ Fr a 1 μ μ'))) 3 0 0 8 [some (.ref (a)), none, none] [] (μ1) := by
    intro N
    induction N with
    | zero =>
      intro i μ1 hi hB q0 q1 q2
      refine r_aload_n (pc := 8) X dX4_nextToken_8 rfl ?_
      apply r_get (pc := 9) X f_X4_26 dX4_nextToken_9
      · repeat (first | exact mu_self | assumption | refine (mu_ne (by omega)).trans ?_)
      · rfl
      refine r_aload_n (pc := 12) X dX4_nextToken_12 rfl ?_
      apply r_get (pc := 13) X f_X4_15 dX4_nextToken_13
      · repeat (first | exact mu_self | assumption | refine (mu_ne (by omega)).trans ?_)
      · rfl
      refine r_icmp_geN (pc := 16) X 46 dX4_nextToken_16 (by decide) (by omega) (by omega) (fun _ => ?_) (fun h => absurd (show n ≤ i by omega) h)
      exact fin1 i μ1 (by omega) (by rw [hB]; exact rn_n (Or.inl (by omega))) q0 q1 q2
    | succ N ih =>
      intro i μ1 hi hB q0 q1 q2
      have hxi := hx i
      refine r_aload_n (pc := 8) X dX4_nextToken_8 rfl ?_
      apply r_get (pc := 9) X f_X4_26 dX4_nextToken_9
      · repeat (first | exact mu_self | assumption | refine (mu_ne (by omega)).trans ?_)
      · rfl
      refine r_aload_n (pc := 12) X dX4_nextToken_12 rfl ?_
      apply r_get (pc := 13) X f_X4_15 dX4_nextToken_13
      · repeat (first | exact mu_self | assumption | refine (mu_ne (by omega)).trans ?_)
      · rfl
      refine r_icmp_geN (pc := 16) X 46 dX4_nextToken_16 (by decide) (by omega) (by omega) (fun h => absurd h (by omega)) (fun _ => ?_)
      refine r_aload_n (pc := 19) X dX4_nextToken_19 rfl ?_
      apply r_get (pc := 20) X f_X4_9 dX4_nextToken_20
      · repeat (first | exact mu_self | assumption | refine (mu_ne (by omega)).trans ?_)
      · rfl
      refine r_aload_n (pc := 23) X dX4_nextToken_23 rfl ?_
      apply r_get (pc := 24) X f_X4_26 dX4_nextToken_24
      · repeat (first | exact mu_self | assumption | refine (mu_ne (by omega)).trans ?_)
      · rfl
      apply r_cald (pc := 27) X dX4_nextToken_27
      · repeat (first | exact mu_self | assumption | refine (mu_ne (by omega)).trans ?_)
      · omega
      · decide
      refine r_bipush (pc := 28) (v := nI 32) X dX4_nextToken_28 (by decide) ?_
      first | refine r_icmp_neN (pc := 30) X 46 dX4_nextToken_30 (by decide) (by omega) (by omega) (fun h2 => ?_) (fun h2 => ?_) | refine r_icmp_ne (pc := 30) X 46 dX4_nextToken_30 (by decide) (fun h2 => ?_) (fun h2 => ?_)
      · exact fin1 i μ1 (by omega) (by rw [hB]; exact rn_n (Or.inr (by simpa using h2))) q0 q1 q2
      · refine r_aload_n (pc := 33) X dX4_nextToken_33 rfl ?_
        refine r_dup (pc := 34) X dX4_nextToken_34 rfl ?_
        apply r_get (pc := 35) X f_X4_26 dX4_nextToken_35
        · repeat (first | exact mu_self | assumption | refine (mu_ne (by omega)).trans ?_)
        · rfl
        refine r_iconst (pc := 38) (v := nI 1) X dX4_nextToken_38 (by decide) ?_
        first | refine r_iaddN (pc := 39) X dX4_nextToken_39 ?_ | refine r_iadd (pc := 39) X dX4_nextToken_39 ?_
        first | refine r_putS (pc := 40) X f_X4_26 dX4_nextToken_40 (by first | rfl | assumption | decide | simp [narrow]) (by first | rfl | assumption) (Nat.le_of_ble_eq_true rfl) ?_ | refine r_put (pc := 40) X f_X4_26 dX4_nextToken_40 (by repeat (first | exact mu_self | assumption | refine (mu_ne (by omega)).trans ?_)) (by first | rfl | assumption | decide | simp [narrow]) (by first | rfl | assumption) (Nat.le_of_ble_eq_true rfl) ?_
        refine r_goto (pc := 43) X 8 dX4_nextToken_43 (by decide) ?_
        exact ih (i + 1) _ (by omega) (by rw [hB]; exact rn_y (by omega) (by simpa using h2)) mu_self (by repeat (first | exact mu_self | assumption | refine (mu_ne (by omega)).trans ?_)) (fun q hq => (mu_ne (by omega)).trans (q2 q hq))
  exact key (n - e0) e0 _ (by omega) rfl mu_self (by repeat (first | exact mu_self | assumption | refine (mu_ne (by omega)).trans ?_)) (fun q hq => by repeat (first | rfl | refine (mu_ne (by omega)).trans ?_))
end S21b
