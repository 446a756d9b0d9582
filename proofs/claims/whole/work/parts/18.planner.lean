def fitG (T S : Nat → Nat) (G m s : Nat) : Bool := (S (6 + m) == 0) && !G.testBit s && brM T s m
def bst (ok : Nat → Bool) (nx : Nat → Nat) (X : Nat) : Nat → Nat
  | 0 => nx X
  | s + 1 => if (ok s && !X.testBit s) = true then max (bst ok nx X s) (1 + nx (X ||| 1 <<< s)) else bst ok nx X s
/-- how many of the last k men get out, with the sheep of X not to be had -/
def plv (T S : Nat → Nat) (G : Nat) : Nat → Nat → Nat
  | 0, _ => 0
  | k + 1, X => bst (fitG T S G (5 - k)) (plv T S G k) X 6
def fitM (T S : Nat → Nat) (G m : Nat) : Nat := mkb 6 (fitG T S G m)
theorem bst_le {ok : Nat → Bool} {nx : Nat → Nat} {b : Nat} (h : ∀ X, nx X ≤ b) (X n : Nat) : bst ok nx X n ≤ b + 1 := by
  induction n with
  | zero => have := h X; show nx X ≤ b + 1; omega
  | succ n ih =>
    show (if (ok n && !X.testBit n) = true then max (bst ok nx X n) (1 + nx (X ||| 1 <<< n)) else bst ok nx X n) ≤ b + 1
    have := h (X ||| 1 <<< n)
    split <;> omega
theorem plv_le (T S : Nat → Nat) (G : Nat) : ∀ k X, plv T S G k X ≤ k := by
  intro k
  induction k with
  | zero => intro X; exact Nat.le_refl _
  | succ k ih => intro X; exact bst_le ih X 6
theorem bst_stop {ok : Nat → Bool} {nx : Nat → Nat} {X s n : Nat} (hn : s ≤ n) (h : ∀ t, s ≤ t → t < n → (ok t && !X.testBit t) = false) : bst ok nx X n = bst ok nx X s := by
  induction n with
  | zero => have : s = 0 := by omega
            subst this; rfl
  | succ n ih =>
    by_cases hq : s = n + 1
    · subst hq; rfl
    · show (if (ok n && !X.testBit n) = true then _ else bst ok nx X n) = _
      rw [h n (by omega) (by omega), if_neg (by simp)]
      exact ih (by omega) (fun t h1 h2 => h t h1 (by omega))
theorem fit_s7 {T S : Nat → Nat} {G m s : Nat} (h : fitG T S G m s = true) : s < T 7 := by
  unfold fitG brM at h
  simp at h
  exact h.2.1
theorem open_test {T S : Nat → Nat} {G m X s : Nat} (hs : s < 6) : (fitM T S G m &&& (X ^^^ 63)).testBit s = (fitG T S G m s && !X.testBit s) := by
  rw [andn_test hs]
  unfold fitM
  rw [mkb_test]
  simp [hs]
theorem plv_s {T S : Nat → Nat} {G m : Nat} (hm : m < 6) (X : Nat) : plv T S G (6 - m) X = bst (fitG T S G m) (plv T S G (5 - m)) X 6 := by
  obtain ⟨k, hk⟩ : ∃ k, 5 - m = k := ⟨_, rfl⟩
  rw [show 6 - m = k + 1 by omega, hk]
  show bst (fitG T S G (5 - k)) (plv T S G k) X 6 = _
  rw [show 5 - k = m by omega]
def tab (T S : Nat → Nat) (G : Nat) (g : Nat → Int32) (i : Nat) : Prop := ∀ m X, i ≤ m → m ≤ 6 → X < 2 ^ T 7 → g (64 * m + X) = nI (plv T S G (6 - m) X)
theorem shr_test {a s t : Nat} (h : a >>> s = 0) (ht : s ≤ t) : a.testBit t = false := by
  have h1 : (a >>> s).testBit (t - s) = a.testBit t := by rw [Nat.testBit_shiftRight, show s + (t - s) = t by omega]
  rw [← h1, h]
  simp
theorem or_shl_lt {X s n : Nat} (hX : X < 2 ^ n) (hs : s < n) : X ||| 1 <<< s < 2 ^ n := Nat.or_lt_two_pow hX (shl_pow hs)
def fbP (T S : Nat → Nat) (G m X s : Nat) : Bool := (fitG T S G m s && !X.testBit s) && decide (1 + plv T S G (5 - m) (X ||| 1 <<< s) = plv T S G (6 - m) X)
/-- the first of f numbers from i on (0: none, else it and 1) -/
def fstF (P : Nat → Bool) : Nat → Nat → Nat
  | 0, _ => 0
  | f + 1, i => if P i = true then i + 1 else fstF P f (i + 1)
theorem fstF_le (P : Nat → Bool) : ∀ f i, fstF P f i ≤ i + f := by
  intro f
  induction f with
  | zero => intro i; exact Nat.zero_le _
  | succ f ih =>
    intro i
    show (if P i = true then i + 1 else fstF P f (i + 1)) ≤ i + (f + 1)
    have := ih (i + 1)
    split <;> omega
theorem fstF_at {P : Nat → Bool} : ∀ {f i k : Nat}, fstF P f i = k + 1 → P k = true := by
  intro f
  induction f with
  | zero => intro i k h; exact absurd h (by simp [fstF])
  | succ f ih =>
    intro i k h
    have h' : (if P i = true then i + 1 else fstF P f (i + 1)) = k + 1 := h
    by_cases hp : P i = true
    · rw [if_pos hp] at h'
      have : i = k := by omega
      rw [← this]; exact hp
    · rw [if_neg hp] at h'
      exact ih h'
def tkN (T S : Nat → Nat) (G : Nat) : Nat → Nat
  | 0 => 0
  | m + 1 => if fstF (fbP T S G m (tkN T S G m)) 6 0 = 0 then tkN T S G m else tkN T S G m ||| 1 <<< (fstF (fbP T S G m (tkN T S G m)) 6 0 - 1)
theorem tkN_lt (T S : Nat → Nat) (G : Nat) : ∀ m, tkN T S G m < 2 ^ T 7 := by
  intro m
  induction m with
  | zero => exact Nat.two_pow_pos _
  | succ m ih =>
    show (if fstF (fbP T S G m (tkN T S G m)) 6 0 = 0 then tkN T S G m else tkN T S G m ||| 1 <<< (fstF (fbP T S G m (tkN T S G m)) 6 0 - 1)) < 2 ^ T 7
    by_cases h : fstF (fbP T S G m (tkN T S G m)) 6 0 = 0
    · rw [if_pos h]; exact ih
    · rw [if_neg h]
      obtain ⟨k, hk⟩ : ∃ k, fstF (fbP T S G m (tkN T S G m)) 6 0 = k + 1 := ⟨_, (Nat.succ_pred h).symm⟩
      have h1 := fstF_at hk
      rw [hk]
      refine or_shl_lt ih ?_
      unfold fbP at h1
      simp only [Bool.and_eq_true] at h1
      exact fit_s7 h1.1.1
theorem iinc_u (k : Nat) : nI k + Int32.ofInt (-1) = uI k := by
  unfold uI
  rw [show Int32.ofInt (-1) = -1 by decide, show nI 1 = 1 by decide, Int32.sub_eq_add_neg]
section S18
variable {Γ : KK} {l : Launch} {sz : Nat} {μ : MM} {a b c' : Nat} {T S : Nat → Nat}
theorem t1_fitting {m' : Nat} (hT : ToldAt Γ μ b T) (hs : ScAt Γ μ c' (scV (T 0) S) (scU S)) (hI : IT T) (hS : IS T S) (hm : m' < 6) : CT Γ l 4 sz 0 0 mX1_fitting [.ref b, .ref c', .int (nI m')] μ (ri (fun r μ' => r = nI (fitM T S (S 5) m') ∧ μ' = μ)) := by
  obtain ⟨g0, g1, gz⟩ := hs
  have k0 := hT.1
  have h6 := hI.1
  have h7 := hI.2.1
  have hg : S 5 < 2 ^ 6 := Nat.lt_of_lt_of_le hS.2.2.2.2.1 (Nat.pow_le_pow_right (by decide) h7)
  refine CT.go RX1 rfl "fitting" rfl [some (.ref b), some (.ref c'), some (.int (nI m')), none, none] rfl (by decide) (Nat.le_of_ble_eq_true rfl) ?_
  intro p e R s m args below meth c X hsz
  refine r_iconst (pc := 0) (v := nI 0) X dX1_fitting_0 (by decide) ?_
  refine r_istore_n (pc := 1) X dX1_fitting_1 (by decide) rfl ?_
  refine r_iconst (pc := 2) (v := nI 0) X dX1_fitting_2 (by decide) ?_
  refine r_istore (pc := 3) X dX1_fitting_3 (by decide) rfl ?_
  have key : ∀ (N i : Nat), i + N = 6 → vV Γ p l e R s m args below meth c (vQ Γ s args below 0 0 (ri (fun r μ' => r = nI (fitM T S (S 5) m') ∧ μ' = μ))) 5 0 0 5 [some (.ref (b)), some (.ref (c')), some (.int (nI (m'))), some (.int (nI (mkb i (fitG T S (S 5) m')))), some (.int (nI (i)))] [] (μ) := by
    intro N
    induction N with
    | zero =>
      intro i hi
      have hi2 : i = 6 := by omega
      subst hi2
      refine r_iload (pc := 5) X dX1_fitting_5 rfl ?_
      refine r_bipush (pc := 7) (v := nI 6) X dX1_fitting_7 (by decide) ?_
      refine r_icmp_geN (pc := 9) X 58 dX1_fitting_9 (by decide) (by omega) (by omega) (fun _ => ?_) (fun h => absurd (Nat.le_refl _) h)
      refine r_iload_n (pc := 58) X dX1_fitting_58 rfl ?_
      exact r_iret (pc := 59) X dX1_fitting_59 (⟨rfl, rfl⟩)
    | succ N ih =>
      intro i hi
      refine r_iload (pc := 5) X dX1_fitting_5 rfl ?_
      refine r_bipush (pc := 7) (v := nI 6) X dX1_fitting_7 (by decide) ?_
      refine r_icmp_geN (pc := 9) X 58 dX1_fitting_9 (by decide) (by omega) (by omega) (fun h => absurd h (by omega)) (fun _ => ?_)
      refine r_aload_n (pc := 12) X dX1_fitting_12 rfl ?_
      apply r_get (pc := 13) X f_X1_32 dX1_fitting_13
      · repeat (first | exact mu_self | assumption | refine (mu_ne (by omega)).trans ?_)
      · rfl
      refine r_iload_n (pc := 16) X dX1_fitting_16 rfl ?_
      refine c_i X (rSN (pc := 17) X l_X1_37 (t6_hasBit (b := msk (T 0) S 0) (k := m') (Nat.lt_trans (msk_lt h6 S 0) (by decide)) (by omega)) dX1_fitting_17 rfl rfl (Nat.le_of_ble_eq_true rfl) (by decide) (Nat.le_of_ble_eq_true rfl) (Nat.le_of_ble_eq_true rfl)) ?_
      rintro _ μq ⟨rfl, hμq⟩
      rw [hμq]
      clear hμq μq
      have no : fitG T S (S 5) m' i = false → vV Γ p l e R s m args below meth c (vQ Γ s args below 0 0 (ri (fun r μ' => r = nI (fitM T S (S 5) m') ∧ μ' = μ))) 5 0 0 52 [some (.ref (b)), some (.ref (c')), some (.int (nI (m'))), some (.int (nI (mkb i (fitG T S (S 5) m')))), some (.int (nI (i)))] [] (μ) := by
        intro hq
        refine r_iincN (pc := 52) (b := 1) X dX1_fitting_52 rfl (by decide) rfl ?_
        refine r_goto (pc := 55) X 5 dX1_fitting_55 (by decide) ?_
        have e : mkb (i + 1) (fitG T S (S 5) m') = mkb i (fitG T S (S 5) m') := by rw [mkb_succ, hq]; simp
        rw [← e]
        exact ih (i + 1) (by omega)
      rw [msk_test]
      first | refine r_if_eqZ (pc := 20) X 52 dX1_fitting_20 (by decide) (fun h => ?_) (fun h => ?_) | refine r_if_eqN (pc := 20) X 52 dX1_fitting_20 (by decide) (by omega) (fun h => ?_) (fun h => ?_) | refine r_if_eq (pc := 20) X 52 dX1_fitting_20 (by decide) (fun h => ?_) (fun h => ?_)
      · refine no ?_
        unfold fitG brM
        simp at h
        by_cases h1 : m' < T 0
        · simp [h h1]
        · simp [h1]
      · simp at h
        refine r_aload_n (pc := 23) X dX1_fitting_23 rfl ?_
        apply r_get (pc := 24) X f_X1_41 dX1_fitting_24
        · repeat (first | exact mu_self | assumption | refine (mu_ne (by omega)).trans ?_)
        · rfl
        refine r_iload (pc := 27) X dX1_fitting_27 rfl ?_
        refine c_i X (rSN (pc := 29) X l_X1_37 (t6_hasBit (b := S 5) (k := i) (by omega) (by omega)) dX1_fitting_29 rfl rfl (Nat.le_of_ble_eq_true rfl) (by decide) (Nat.le_of_ble_eq_true rfl) (Nat.le_of_ble_eq_true rfl)) ?_
        rintro _ μq ⟨rfl, hμq⟩
        rw [hμq]
        clear hμq μq
        first | refine r_if_neZ (pc := 32) X 52 dX1_fitting_32 (by decide) (fun h2 => ?_) (fun h2 => ?_) | refine r_if_neN (pc := 32) X 52 dX1_fitting_32 (by decide) (by omega) (fun h2 => ?_) (fun h2 => ?_) | refine r_if_ne (pc := 32) X 52 dX1_fitting_32 (by decide) (fun h2 => ?_) (fun h2 => ?_)
        · refine no ?_
          unfold fitG
          simp [h2]
        · refine r_aload_n (pc := 35) X dX1_fitting_35 rfl ?_
          refine r_iload (pc := 36) X dX1_fitting_36 rfl ?_
          refine r_iload_n (pc := 38) X dX1_fitting_38 rfl ?_
          refine c_i X (rV (pc := 39) (ci := 5) X l_X1_44 (t5_bearsMan hT hI (w := i) (m' := m') (by omega) hm) dX1_fitting_39 (by repeat (first | exact mu_self | assumption | refine (mu_ne (by omega)).trans ?_)) rfl rfl rfl (Nat.le_of_ble_eq_true rfl) (by decide) (Nat.le_of_ble_eq_true rfl) (Nat.le_of_ble_eq_true rfl)) ?_
          rintro _ μq ⟨rfl, hμq⟩
          rw [hμq]
          clear hμq μq
          first | refine r_if_eqZ (pc := 42) X 52 dX1_fitting_42 (by decide) (fun h3 => ?_) (fun h3 => ?_) | refine r_if_eqN (pc := 42) X 52 dX1_fitting_42 (by decide) (by omega) (fun h3 => ?_) (fun h3 => ?_) | refine r_if_eq (pc := 42) X 52 dX1_fitting_42 (by decide) (fun h3 => ?_) (fun h3 => ?_)
          · refine no ?_
            unfold fitG
            simp [h3]
          · refine r_iload_n (pc := 45) X dX1_fitting_45 rfl ?_
            refine r_iconst (pc := 46) (v := nI 1) X dX1_fitting_46 (by decide) ?_
            refine r_iload (pc := 47) X dX1_fitting_47 rfl ?_
            first | refine r_ishlN (pc := 49) X dX1_fitting_49 (by omega) ?_ | refine r_ishl (pc := 49) X dX1_fitting_49 ?_
            first | refine r_iorN (pc := 50) X dX1_fitting_50 ?_ | refine r_ior (pc := 50) X dX1_fitting_50 ?_
            refine r_istore_n (pc := 51) X dX1_fitting_51 (by decide) rfl ?_
            refine r_iincN (pc := 52) (b := 1) X dX1_fitting_52 rfl (by decide) rfl ?_
            refine r_goto (pc := 55) X 5 dX1_fitting_55 (by decide) ?_
            have hq : fitG T S (S 5) m' i = true := by unfold fitG; simp [h.2, h2, h3]
            have e : mkb (i + 1) (fitG T S (S 5) m') = mkb i (fitG T S (S 5) m') ||| 1 <<< i := by rw [mkb_succ, hq]; simp
            rw [← e]
            exact ih (i + 1) (by omega)
  exact key 6 0 (by omega)
theorem t1_bestFrom {m' x : Nat} {G : Nat} {f g : Nat → Int32} (h : PlanAt Γ μ a f g) (h7 : T 7 ≤ 6) (hm : m' < 6) (hx : x < 2 ^ T 7) (hf : f m' = nI (fitM T S G m')) (ht : tab T S G g (m' + 1)) : CT Γ l 1 sz 0 0 mX1_bestFrom [.ref a, .int (nI m'), .int (nI x)] μ (ri (fun r μ' => r = nI (plv T S G (6 - m') x) ∧ μ' = μ)) := by
  obtain ⟨g0, g1, g2⟩ := h
  have hx6 : x < 64 := Nat.lt_of_lt_of_le hx (pow6 h7)
  have hg : ∀ y, y < 2 ^ T 7 → g ((m' + 1) * 64 + y) = nI (plv T S G (5 - m') y) := fun y hy => by
    have := ht (m' + 1) y (by omega) (by omega) hy
    rw [show 6 - (m' + 1) = 5 - m' by omega] at this
    rw [show (m' + 1) * 64 + y = 64 * (m' + 1) + y by omega]
    exact this
  have hfl : fitM T S G m' < 64 := mkb_lt64 (Nat.le_refl 6) _
  refine CT.go RX1 rfl "bestFrom" rfl [some (.ref a), some (.int (nI m')), some (.int (nI x)), none, none, none, none] rfl (by decide) (Nat.le_of_ble_eq_true rfl) ?_
  intro p e R s m args below meth c X hsz
  refine r_iload_n (pc := 0) X dX1_bestFrom_0 rfl ?_
  refine r_iconst (pc := 1) (v := nI 1) X dX1_bestFrom_1 (by decide) ?_
  first | refine r_iaddN (pc := 2) X dX1_bestFrom_2 ?_ | refine r_iadd (pc := 2) X dX1_bestFrom_2 ?_
  refine r_bipush (pc := 3) (v := nI 64) X dX1_bestFrom_3 (by decide) ?_
  first | refine r_imulN (pc := 5) X dX1_bestFrom_5 ?_ | refine r_imul (pc := 5) X dX1_bestFrom_5 ?_
  refine r_istore_n (pc := 6) X dX1_bestFrom_6 (by decide) rfl ?_
  refine r_aload_n (pc := 7) X dX1_bestFrom_7 rfl ?_
  apply r_get (pc := 8) X f_X1_15 dX1_bestFrom_8
  · repeat (first | exact mu_self | assumption | refine (mu_ne (by omega)).trans ?_)
  · rfl
  refine r_iload_n (pc := 11) X dX1_bestFrom_11 rfl ?_
  refine r_iload_n (pc := 12) X dX1_bestFrom_12 rfl ?_
  first | refine r_iaddN (pc := 13) X dX1_bestFrom_13 ?_ | refine r_iadd (pc := 13) X dX1_bestFrom_13 ?_
  apply r_iald (pc := 14) X dX1_bestFrom_14
  · repeat (first | exact mu_self | assumption | refine (mu_ne (by omega)).trans ?_)
  · omega
  · decide
  rw [hg x hx]
  refine r_istore (pc := 15) X dX1_bestFrom_15 (by decide) rfl ?_
  refine r_aload_n (pc := 17) X dX1_bestFrom_17 rfl ?_
  apply r_get (pc := 18) X f_X1_9 dX1_bestFrom_18
  · repeat (first | exact mu_self | assumption | refine (mu_ne (by omega)).trans ?_)
  · rfl
  refine r_iload_n (pc := 21) X dX1_bestFrom_21 rfl ?_
  apply r_iald (pc := 22) X dX1_bestFrom_22
  · repeat (first | exact mu_self | assumption | refine (mu_ne (by omega)).trans ?_)
  · omega
  · decide
  refine r_iload_n (pc := 23) X dX1_bestFrom_23 rfl ?_
  refine r_iconst (pc := 24) (v := -1) X dX1_bestFrom_24 (by decide) ?_
  refine r_ixor (pc := 25) X dX1_bestFrom_25 ?_
  refine r_iand (pc := 26) X dX1_bestFrom_26 ?_
  rw [hf, nI_andn _ hfl _ hx6]
  obtain ⟨op, hop⟩ : ∃ op, op = fitM T S G m' &&& (x ^^^ 63) := ⟨_, rfl⟩
  have hopl : op < 64 := by rw [hop]; exact andn_lt hfl
  have hopt : ∀ s, s < 6 → op.testBit s = (fitG T S G m' s && !x.testBit s) := fun s hs => by rw [hop]; exact open_test hs
  rw [← hop]
  refine r_istore (pc := 27) X dX1_bestFrom_27 (by decide) rfl ?_
  refine r_iconst (pc := 29) (v := nI 0) X dX1_bestFrom_29 (by decide) ?_
  refine r_istore (pc := 30) X dX1_bestFrom_30 (by decide) rfl ?_
  rw [plv_s hm x]
  have key : ∀ (N i : Nat), i + N = 6 → vV Γ p l e R s m args below meth c (vQ Γ s args below 0 0 (ri (fun r μ' => r = nI (bst (fitG T S G m') (plv T S G (5 - m')) x 6) ∧ μ' = μ))) 7 0 0 32 [some (.ref a), some (.int (nI m')), some (.int (nI x)), some (.int (nI ((m' + 1) * 64))), some (.int (nI (bst (fitG T S G m') (plv T S G (5 - m')) x i))), some (.int (nI op)), some (.int (nI i))] [] μ := by
    intro N
    induction N with
    | zero =>
      intro i hi
      have hi2 : i = 6 := by omega
      subst hi2
      refine r_iload (pc := 32) X dX1_bestFrom_32 rfl ?_
      refine r_iload (pc := 34) X dX1_bestFrom_34 rfl ?_
      first | refine r_ishrN (pc := 36) X dX1_bestFrom_36 (by omega) (by omega) ?_ | refine r_ishr (pc := 36) X dX1_bestFrom_36 ?_
      first | refine r_if_eqZ (pc := 37) X 85 dX1_bestFrom_37 (by decide) (fun h => ?_) (fun h => ?_) | refine r_if_eqN (pc := 37) X 85 dX1_bestFrom_37 (by decide) (by omega) (fun h => ?_) (fun h => ?_) | refine r_if_eq (pc := 37) X 85 dX1_bestFrom_37 (by decide) (fun h => ?_) (fun h => ?_)
      · refine r_iload (pc := 85) X dX1_bestFrom_85 rfl ?_
        exact r_iret (pc := 87) X dX1_bestFrom_87 (⟨rfl, rfl⟩)
      · refine r_iload (pc := 40) X dX1_bestFrom_40 rfl ?_
        refine r_bipush (pc := 42) (v := nI 6) X dX1_bestFrom_42 (by decide) ?_
        refine r_icmp_geN (pc := 44) X 85 dX1_bestFrom_44 (by decide) (by omega) (by omega) (fun _ => ?_) (fun h => absurd (Nat.le_refl _) h)
        refine r_iload (pc := 85) X dX1_bestFrom_85 rfl ?_
        exact r_iret (pc := 87) X dX1_bestFrom_87 (⟨rfl, rfl⟩)
    | succ N ih =>
      intro i hi
      have hb := bst_le (ok := fitG T S G m') (plv_le T S G (5 - m')) x i
      have hsr : op >>> i ≤ op := by rw [Nat.shiftRight_eq_div_pow]; exact Nat.div_le_self _ _
      refine r_iload (pc := 32) X dX1_bestFrom_32 rfl ?_
      refine r_iload (pc := 34) X dX1_bestFrom_34 rfl ?_
      first | refine r_ishrN (pc := 36) X dX1_bestFrom_36 (by omega) (by omega) ?_ | refine r_ishr (pc := 36) X dX1_bestFrom_36 ?_
      first | refine r_if_eqZ (pc := 37) X 85 dX1_bestFrom_37 (by decide) (fun h => ?_) (fun h => ?_) | refine r_if_eqN (pc := 37) X 85 dX1_bestFrom_37 (by decide) (by omega) (fun h => ?_) (fun h => ?_) | refine r_if_eq (pc := 37) X 85 dX1_bestFrom_37 (by decide) (fun h => ?_) (fun h => ?_)
      · refine r_iload (pc := 85) X dX1_bestFrom_85 rfl ?_
        exact r_iret (pc := 87) X dX1_bestFrom_87 (⟨by rw [bst_stop (show i ≤ 6 by omega) (fun t h1 h2 => by rw [← hopt t h2]; exact shr_test h h1)], rfl⟩)
      · refine r_iload (pc := 40) X dX1_bestFrom_40 rfl ?_
        refine r_bipush (pc := 42) (v := nI 6) X dX1_bestFrom_42 (by decide) ?_
        refine r_icmp_geN (pc := 44) X 85 dX1_bestFrom_44 (by decide) (by omega) (by omega) (fun h => absurd h (by omega)) (fun _ => ?_)
        refine r_iload (pc := 47) X dX1_bestFrom_47 rfl ?_
        refine r_iload (pc := 49) X dX1_bestFrom_49 rfl ?_
        refine c_i X (rSN (pc := 51) X l_X1_37 (t6_hasBit (b := op) (k := i) (by omega) (by omega)) dX1_bestFrom_51 rfl rfl (Nat.le_of_ble_eq_true rfl) (by decide) (Nat.le_of_ble_eq_true rfl) (Nat.le_of_ble_eq_true rfl)) ?_
        rintro _ μq ⟨rfl, hμq⟩
        rw [hμq]
        clear hμq μq
        rw [hopt i (by omega)]
        first | refine r_if_eqZ (pc := 54) X 79 dX1_bestFrom_54 (by decide) (fun h2 => ?_) (fun h2 => ?_) | refine r_if_eqN (pc := 54) X 79 dX1_bestFrom_54 (by decide) (by omega) (fun h2 => ?_) (fun h2 => ?_) | refine r_if_eq (pc := 54) X 79 dX1_bestFrom_54 (by decide) (fun h2 => ?_) (fun h2 => ?_)
        · refine r_iincN (pc := 79) (b := 1) X dX1_bestFrom_79 rfl (by decide) rfl ?_
          refine r_goto (pc := 82) X 32 dX1_bestFrom_82 (by decide) ?_
          have e : bst (fitG T S G m') (plv T S G (5 - m')) x (i + 1) = bst (fitG T S G m') (plv T S G (5 - m')) x i := by
            show (if (fitG T S G m' i && !x.testBit i) = true then _ else _) = _
            rw [h2]; rfl
          rw [← e]
          exact ih (i + 1) (by omega)
        · have hi7 : i < T 7 := by
            simp only [Bool.and_eq_true] at h2
            exact fit_s7 h2.1
          have hxo := or_shl_lt hx hi7
          have hxo6 : x ||| 1 <<< i < 64 := Nat.lt_of_lt_of_le hxo (pow6 h7)
          have hp := plv_le T S G (5 - m') (x ||| 1 <<< i)
          refine r_iload (pc := 57) X dX1_bestFrom_57 rfl ?_
          refine r_iconst (pc := 59) (v := nI 1) X dX1_bestFrom_59 (by decide) ?_
          refine r_aload_n (pc := 60) X dX1_bestFrom_60 rfl ?_
          apply r_get (pc := 61) X f_X1_15 dX1_bestFrom_61
          · repeat (first | exact mu_self | assumption | refine (mu_ne (by omega)).trans ?_)
          · rfl
          refine r_iload_n (pc := 64) X dX1_bestFrom_64 rfl ?_
          refine r_iload_n (pc := 65) X dX1_bestFrom_65 rfl ?_
          refine r_iconst (pc := 66) (v := nI 1) X dX1_bestFrom_66 (by decide) ?_
          refine r_iload (pc := 67) X dX1_bestFrom_67 rfl ?_
          first | refine r_ishlN (pc := 69) X dX1_bestFrom_69 (by omega) ?_ | refine r_ishl (pc := 69) X dX1_bestFrom_69 ?_
          first | refine r_iorN (pc := 70) X dX1_bestFrom_70 ?_ | refine r_ior (pc := 70) X dX1_bestFrom_70 ?_
          first | refine r_iaddN (pc := 71) X dX1_bestFrom_71 ?_ | refine r_iadd (pc := 71) X dX1_bestFrom_71 ?_
          apply r_iald (pc := 72) X dX1_bestFrom_72
          · repeat (first | exact mu_self | assumption | refine (mu_ne (by omega)).trans ?_)
          · omega
          · decide
          rw [hg _ hxo]
          first | refine r_iaddN (pc := 73) X dX1_bestFrom_73 ?_ | refine r_iadd (pc := 73) X dX1_bestFrom_73 ?_
          refine r_max (pc := 74) X l_X1_47 dX1_bestFrom_74 (by decide) (Nat.le_of_ble_eq_true rfl) (by decide) (by decide) ?_
          rw [max_nI (by omega) (by omega)]
          refine r_istore (pc := 77) X dX1_bestFrom_77 (by decide) rfl ?_
          refine r_iincN (pc := 79) (b := 1) X dX1_bestFrom_79 rfl (by decide) rfl ?_
          refine r_goto (pc := 82) X 32 dX1_bestFrom_82 (by decide) ?_
          have e : bst (fitG T S G m') (plv T S G (5 - m')) x (i + 1) = max (bst (fitG T S G m') (plv T S G (5 - m')) x i) (1 + plv T S G (5 - m') (x ||| 1 <<< i)) := by
            show (if (fitG T S G m' i && !x.testBit i) = true then max _ _ else _) = _
            rw [h2]; rfl
          rw [← e]
          exact ih (i + 1) (by omega)
  exact key 6 0 (by omega)
theorem t1_mostOut {x : Nat} {f g : Nat → Int32} (h : PlanAt Γ μ a f g) (hx : x < 64) : CT Γ l 0 sz 0 0 mX1_mostOut [.ref a, .int (nI x)] μ (ri (fun r μ' => r = g x ∧ μ' = μ)) := by
  obtain ⟨g0, g1, g2⟩ := h
  refine CT.go RX1 rfl "mostOut" rfl [some (.ref a), some (.int (nI x))] rfl (by decide) (Nat.le_of_ble_eq_true rfl) ?_
  intro p e R s m args below meth c X hsz
  refine r_iload_n (pc := 0) X dX1_mostOut_0 rfl ?_
  refine r_if_ltN (pc := 1) X 19 dX1_mostOut_1 (by decide) (by omega) (fun h => absurd h (by omega)) (fun _ => ?_)
  refine r_iload_n (pc := 4) X dX1_mostOut_4 rfl ?_
  refine r_bipush (pc := 5) (v := nI 64) X dX1_mostOut_5 (by decide) ?_
  refine r_icmp_geN (pc := 7) X 19 dX1_mostOut_7 (by decide) (by omega) (by omega) (fun h => absurd h (by omega)) (fun _ => ?_)
  refine r_aload_n (pc := 10) X dX1_mostOut_10 rfl ?_
  apply r_get (pc := 11) X f_X1_15 dX1_mostOut_11
  · repeat (first | exact mu_self | assumption | refine (mu_ne (by omega)).trans ?_)
  · rfl
  refine r_iload_n (pc := 14) X dX1_mostOut_14 rfl ?_
  apply r_iald (pc := 15) X dX1_mostOut_15
  · repeat (first | exact mu_self | assumption | refine (mu_ne (by omega)).trans ?_)
  · omega
  · decide
  refine r_goto (pc := 16) X 20 dX1_mostOut_16 (by decide) ?_
  exact r_iret (pc := 20) X dX1_mostOut_20 (⟨rfl, rfl⟩)
end S18
