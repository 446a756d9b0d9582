theorem cIn_mono (S : Nat → Nat) {i j : Nat} (h : i ≤ j) : cIn S i ≤ cIn S j := by
  induction j with
  | zero => have : i = 0 := by omega
            subst this; exact Nat.le_refl _
  | succ j ih =>
    by_cases h1 : i = j + 1
    · subst h1; exact Nat.le_refl _
    · have := ih (by omega)
      show cIn S i ≤ cIn S j + _
      omega
theorem cIn_le (S : Nat → Nat) (i : Nat) : cIn S i ≤ i := by
  induction i with
  | zero => exact Nat.le_refl _
  | succ i ih =>
    show cIn S i + (if S (6 + i) = 0 then 1 else 0) ≤ i + 1
    split <;> omega
def eatQ (men : Nat) (S : Nat → Nat) (n k : Nat) : Bool := decide (k < men) && eatP S n k
theorem mkb_cut {n k : Nat} {p : Nat → Bool} (h : n ≤ k) (hp : ∀ i, n ≤ i → i < k → p i = false) : mkb k p = mkb n p := by
  apply Nat.eq_of_testBit_eq
  intro i
  rw [mkb_test, mkb_test]
  by_cases h1 : i < n
  · simp [h1, show i < k by omega]
  · by_cases h2 : i < k
    · simp [h1, h2, hp i (by omega) h2]
    · simp [h1, h2]
theorem eatQ_all {men n : Nat} {S : Nat → Nat} (hm : men ≤ 6) {i : Nat} (hi : i ≤ 6) (hn : ∀ k, i ≤ k → k < men → eatP S n k = false) : mkb i (eatQ men S n) = mkb men (eatP S n) := by
  apply Nat.eq_of_testBit_eq
  intro k
  rw [mkb_test, mkb_test]
  unfold eatQ
  by_cases h1 : k < i
  · simp [h1]
  · by_cases h2 : k < men
    · simp [h1, h2, hn k (by omega) h2]
    · simp [h1, h2]
theorem eatS_how {men n : Nat} {S : Nat → Nat} {k : Nat} (hk : k < 6) : eatS men n S (6 + k) = if eatQ men S n k = true then 2 else S (6 + k) := by
  unfold eatS eatQ
  rw [show 6 + k - 6 = k by omega]
  by_cases h : k < men
  · by_cases h2 : eatP S n k = true
    · rw [if_pos ⟨by omega, by omega, h2⟩, if_pos (by simp [h, h2])]
    · rw [if_neg (fun q => h2 q.2.2), if_neg (by omega), if_neg (by simp [h2])]
  · rw [if_neg (by omega), if_neg (by omega), if_neg (by simp [h])]
theorem eatS_und {men n : Nat} {S : Nat → Nat} {k : Nat} (hm : men ≤ 6) : eatS men n S (12 + k) = if eatQ men S n k = true then 0 else S (12 + k) := by
  unfold eatS eatQ
  rw [show 12 + k - 12 = k by omega]
  by_cases h : k < men
  · by_cases h2 : eatP S n k = true
    · rw [if_neg (by omega), if_pos ⟨by omega, by omega, h2⟩, if_pos (by simp [h, h2])]
    · rw [if_neg (by omega), if_neg (fun q => h2 q.2.2), if_neg (by simp [h2])]
  · rw [if_neg (by omega), if_neg (by omega), if_neg (by simp [h])]
theorem eatS_lo {men n : Nat} {S : Nat → Nat} {k : Nat} (hk : k < 6) : eatS men n S k = S k := by
  unfold eatS
  rw [if_neg (by omega), if_neg (by omega)]
theorem eat_in {men n : Nat} {S : Nat → Nat} (hm : men ≤ 6) : msk men S 0 &&& (mkb men (eatP S n) ^^^ 63) = msk men (eatS men n S) 0 := by
  refine eq_test6 (andn_lt (msk_lt hm S 0)) (msk_lt hm _ 0) (fun k hk => ?_)
  rw [andn_test hk, msk_test, msk_test, mkb_test, eatS_how hk]
  unfold eatQ
  by_cases h : k < men
  · cases h2 : eatP S n k <;> simp [h]
  · simp [h]
theorem eat_ea {men n : Nat} {S : Nat → Nat} (hm : men ≤ 6) : msk men S 2 ||| mkb men (eatP S n) = msk men (eatS men n S) 2 := by
  refine eq_test6 (or_lt64 (msk_lt hm S 2) (mkb_lt64 hm _)) (msk_lt hm _ 2) (fun k hk => ?_)
  rw [Nat.testBit_or, msk_test, msk_test, mkb_test, eatS_how hk]
  unfold eatQ
  by_cases h : k < men
  · cases h2 : eatP S n k <;> simp [h]
  · simp [h]
theorem eat_out {men n : Nat} {S : Nat → Nat} (hm : men ≤ 6) : msk men S 1 = msk men (eatS men n S) 1 := by
  refine eq_test6 (msk_lt hm S 1) (msk_lt hm _ 1) (fun k hk => ?_)
  rw [msk_test, msk_test, eatS_how hk]
  unfold eatQ
  by_cases h : k < men
  · cases h2 : eatP S n k
    · simp [h]
    · have : S (6 + k) = 0 := by unfold eatP at h2; simp at h2; exact h2.1
      simp [h, this]
  · simp [h]
section S15
variable {Γ : KK} {l : Launch} {sz : Nat} {μ : MM} {a : Nat} {T S : Nat → Nat}
theorem mP.reI {b n : Nat} {f g : Nat → Int32} {H : Heap} (h : mP Γ μ H) (hb : μ b = some (xI Γ n f)) (he : ∀ i, i < n → f i = g i) : mP Γ (mu μ b (xI Γ n g)) H := by
  refine mP.congrI he ?_
  have : mu μ b (xI Γ n f) = μ := by
    funext q
    by_cases hq : q = b
    · subst hq; rw [mu_self, hb]
    · rw [mu_ne hq]
  rw [this]
  exact h
theorem t2_eatFirst {n : Nat} (ha : ScAt Γ μ a (scV (T 0) S) (scU S)) (hI : T 0 ≤ 6) (hn : n ≤ 6) : CT Γ l 1 sz 0 0 mX2_eatFirst [.ref a, .int (nI n)] μ (ri (fun r μ' => r = nI (mkb (T 0) (eatP S n)) ∧ ScAt Γ μ' a (scV (T 0) (eatS (T 0) n S)) (scU (eatS (T 0) n S)) ∧ Fr a 2 μ μ')) := by
  obtain ⟨g0, g1, gz⟩ := ha
  refine CT.go RX2 rfl "eatFirst" rfl [some (.ref a), some (.int (nI n)), none, none, none] rfl (by decide) (Nat.le_of_ble_eq_true rfl) ?_
  intro p e R s m args below meth c X hsz
  refine r_iconst (pc := 0) (v := nI 0) X dX2_eatFirst_0 (by decide) ?_
  refine r_istore_n (pc := 1) X dX2_eatFirst_1 (by decide) rfl ?_
  refine r_iload_n (pc := 2) X dX2_eatFirst_2 rfl ?_
  refine r_istore_n (pc := 3) X dX2_eatFirst_3 (by decide) rfl ?_
  refine r_iconst (pc := 4) (v := nI 0) X dX2_eatFirst_4 (by decide) ?_
  refine r_istore (pc := 5) X dX2_eatFirst_5 (by decide) rfl ?_
  have fin : ∀ (i left : Nat) (f : Nat → Int32) (μ1 : MM), (∀ j, j < 6 → f j = scU (eatS (T 0) n S) j) → μ1 a = μ a → μ1 (a + 1) = some (xI Γ 6 f) → Fr a 2 μ μ1 → vV Γ p l e R s m args below meth c (vQ Γ s args below 0 0 (ri (fun r μ' => r = nI (mkb (T 0) (eatP S n)) ∧ ScAt Γ μ' a (scV (T 0) (eatS (T 0) n S)) (scU (eatS (T 0) n S)) ∧ Fr a 2 μ μ'))) 5 0 0 54 [some (.ref (a)), some (.int (nI (n))), some (.int (nI (mkb (T 0) (eatP S n)))), some (.int (nI (left))), some (.int (nI (i)))] [] (μ1) := by
    intro i left f μ1 hf q0 q1 q2
    have q0' := q0.trans g0
    refine vV.sub (μ' := mu μ1 (a + 1) (xI Γ 6 (scU (eatS (T 0) n S)))) (fun H hP => hP.reI q1 hf) ?_
    have q3 : mu μ1 (a + 1) (xI Γ 6 (scU (eatS (T 0) n S))) a = _ := (mu_ne (by omega)).trans q0'
    refine r_aload_n (pc := 54) X dX2_eatFirst_54 rfl ?_
    refine r_dup (pc := 55) X dX2_eatFirst_55 rfl ?_
    apply r_get (pc := 56) X f_X2_44 dX2_eatFirst_56
    · repeat (first | exact mu_self | assumption | refine (mu_ne (by omega)).trans ?_)
    · rfl
    refine r_iload_n (pc := 59) X dX2_eatFirst_59 rfl ?_
    refine r_iconst (pc := 60) (v := -1) X dX2_eatFirst_60 (by decide) ?_
    refine r_ixor (pc := 61) X dX2_eatFirst_61 ?_
    refine r_iand (pc := 62) X dX2_eatFirst_62 ?_
    have e1 : scV (T 0) S 5 &&& (nI (mkb (T 0) (eatP S n)) ^^^ -1) = scV (T 0) (eatS (T 0) n S) 5 := by
      show nI (msk (T 0) S 0) &&& _ = nI (msk (T 0) (eatS (T 0) n S) 0)
      rw [nI_andn _ (msk_lt hI S 0) _ (mkb_lt64 hI _), eat_in hI]
    rw [e1]
    first | refine r_putS (pc := 63) X f_X2_44 dX2_eatFirst_63 (by first | rfl | assumption | decide | simp [narrow]) (by first | rfl | assumption) (Nat.le_of_ble_eq_true rfl) ?_ | refine r_put (pc := 63) X f_X2_44 dX2_eatFirst_63 (by repeat (first | exact mu_self | assumption | refine (mu_ne (by omega)).trans ?_)) (by first | rfl | assumption | decide | simp [narrow]) (by first | rfl | assumption) (Nat.le_of_ble_eq_true rfl) ?_
    refine r_aload_n (pc := 66) X dX2_eatFirst_66 rfl ?_
    refine r_dup (pc := 67) X dX2_eatFirst_67 rfl ?_
    apply r_get (pc := 68) X f_X2_50 dX2_eatFirst_68
    · repeat (first | exact mu_self | assumption | refine (mu_ne (by omega)).trans ?_)
    · rfl
    refine r_iload_n (pc := 71) X dX2_eatFirst_71 rfl ?_
    refine r_ior (pc := 72) X dX2_eatFirst_72 ?_
    have e2 : scV (T 0) S 7 ||| nI (mkb (T 0) (eatP S n)) = scV (T 0) (eatS (T 0) n S) 7 := by
      show nI (msk (T 0) S 2) ||| _ = nI (msk (T 0) (eatS (T 0) n S) 2)
      rw [nI_or, eat_ea hI]
    rw [e2]
    first | refine r_putS (pc := 73) X f_X2_50 dX2_eatFirst_73 (by first | rfl | assumption | decide | simp [narrow]) (by first | rfl | assumption) (Nat.le_of_ble_eq_true rfl) ?_ | refine r_put (pc := 73) X f_X2_50 dX2_eatFirst_73 (by repeat (first | exact mu_self | assumption | refine (mu_ne (by omega)).trans ?_)) (by first | rfl | assumption | decide | simp [narrow]) (by first | rfl | assumption) (Nat.le_of_ble_eq_true rfl) ?_
    refine r_iload_n (pc := 76) X dX2_eatFirst_76 rfl ?_
    have e3 : scV (T 0) S 6 = scV (T 0) (eatS (T 0) n S) 6 := by
      show nI (msk (T 0) S 1) = nI (msk (T 0) (eatS (T 0) n S) 1)
      rw [eat_out hI]
    have e0 : ∀ k, k < 6 → S k = eatS (T 0) n S k := fun k hk => (eatS_lo hk).symm
    refine r_iret (pc := 77) X dX2_eatFirst_77 ⟨rfl, ⟨?_, (by repeat (first | exact mu_self | assumption | refine (mu_ne (by omega)).trans ?_)), ?_⟩, fun q hq => (mu_ne (by omega)).trans ((mu_ne (by omega)).trans (q2 q hq))⟩
    · rw [mu_self]
      have z0 : scV (T 0) S 0 = scV (T 0) (eatS (T 0) n S) 0 := congrArg nI (e0 4 (by omega))
      have z1 : scV (T 0) S 1 = scV (T 0) (eatS (T 0) n S) 1 := congrArg nI (e0 0 (by omega))
      have z2 : scV (T 0) S 2 = scV (T 0) (eatS (T 0) n S) 2 := congrArg nI (e0 1 (by omega))
      have z3 : scV (T 0) S 3 = scV (T 0) (eatS (T 0) n S) 3 := congrArg nI (e0 2 (by omega))
      have z4 : scV (T 0) S 4 = scV (T 0) (eatS (T 0) n S) 4 := congrArg nI (e0 3 (by omega))
      have z8 : scV (T 0) S 8 = scV (T 0) (eatS (T 0) n S) 8 := congrArg nI (e0 5 (by omega))
      rw [← z0, ← z1, ← z2, ← z3, ← z4, ← z8, ← e3]
      rfl
    · have z4 : scV (T 0) S 4 = scV (T 0) (eatS (T 0) n S) 4 := congrArg nI (e0 3 (by omega))
      rw [← z4]
      exact gz
  have key : ∀ (N i : Nat) (f : Nat → Int32) (μ1 : MM), i + N = 6 → (∀ j, j < 6 → f j = if j < i ∧ eatQ (T 0) S n j = true then uI 0 else scU S j) → μ1 a = μ a → μ1 (a + 1) = some (xI Γ 6 f) → Fr a 2 μ μ1 → vV Γ p l e R s m args below meth c (vQ Γ s args below 0 0 (ri (fun r μ' => r = nI (mkb (T 0) (eatP S n)) ∧ ScAt Γ μ' a (scV (T 0) (eatS (T 0) n S)) (scU (eatS (T 0) n S)) ∧ Fr a 2 μ μ'))) 5 0 0 7 [some (.ref (a)), some (.int (nI (n))), some (.int (nI (mkb i (eatQ (T 0) S n)))), some (.int (nI (n - cIn S (min i (T 0))))), some (.int (nI (i)))] [] (μ1) := by
    intro N
    induction N with
    | zero =>
      intro i f μ1 hi hf q0 q1 q2
      have hi2 : i = 6 := by omega
      subst hi2
      refine r_iload (pc := 7) X dX2_eatFirst_7 rfl ?_
      refine r_bipush (pc := 9) (v := nI 6) X dX2_eatFirst_9 (by decide) ?_
      refine r_icmp_geN (pc := 11) X 54 dX2_eatFirst_11 (by decide) (by omega) (by omega) (fun _ => ?_) (fun h => absurd (Nat.le_refl _) h)
      rw [eatQ_all hI (Nat.le_refl 6) (fun k h1 h2 => by omega)]
      refine fin _ _ f μ1 (fun j hj => ?_) q0 q1 q2
      rw [hf j hj]
      show _ = uI (eatS (T 0) n S (12 + j))
      rw [eatS_und hI]
      by_cases hq : eatQ (T 0) S n j = true
      · rw [if_pos ⟨hj, hq⟩, if_pos hq]
      · rw [if_neg (fun z => hq z.2), if_neg hq]; rfl
    | succ N ih =>
      intro i f μ1 hi hf q0 q1 q2
      have q0' := q0.trans g0
      have hcl := cIn_le S (min i (T 0))
      refine r_iload (pc := 7) X dX2_eatFirst_7 rfl ?_
      refine r_bipush (pc := 9) (v := nI 6) X dX2_eatFirst_9 (by decide) ?_
      refine r_icmp_geN (pc := 11) X 54 dX2_eatFirst_11 (by decide) (by omega) (by omega) (fun h => absurd h (by omega)) (fun h => ?_)
      refine r_iload_n (pc := 14) X dX2_eatFirst_14 rfl ?_
      first | refine r_if_leN (pc := 15) X 54 dX2_eatFirst_15 (by decide) (by omega) (fun h2 => ?_) (fun h2 => ?_) | refine r_if_le (pc := 15) X 54 dX2_eatFirst_15 (by decide) (fun h2 => ?_) (fun h2 => ?_)
      · have hrest : ∀ k, i ≤ k → k < T 0 → eatP S n k = false := fun k h3 h4 => by
          have h5 := cIn_mono S (show min i (T 0) ≤ k by omega)
          unfold eatP
          exact decide_eq_false (fun q => by omega)
        rw [eatQ_all hI (by omega) hrest]
        refine fin _ _ f μ1 (fun j hj => ?_) q0 q1 q2
        rw [hf j hj]
        show _ = uI (eatS (T 0) n S (12 + j))
        rw [eatS_und hI]
        by_cases hq : eatQ (T 0) S n j = true
        · have hji : j < i := by
            refine Nat.lt_of_not_le (fun z => ?_)
            unfold eatQ at hq
            simp at hq
            rw [hrest j z hq.1] at hq
            exact absurd hq.2 (by decide)
          rw [if_pos ⟨hji, hq⟩, if_pos hq]
        · rw [if_neg (fun z => hq z.2), if_neg hq]; rfl
      · refine r_aload_n (pc := 18) X dX2_eatFirst_18 rfl ?_
        apply r_get (pc := 19) X f_X2_44 dX2_eatFirst_19
        · repeat (first | exact mu_self | assumption | refine (mu_ne (by omega)).trans ?_)
        · rfl
        refine r_iload (pc := 22) X dX2_eatFirst_22 rfl ?_
        refine c_i X (rSN (pc := 24) X l_X2_62 (t6_hasBit (b := msk (T 0) S 0) (k := i) (Nat.lt_trans (msk_lt hI S 0) (by decide)) (by omega)) dX2_eatFirst_24 rfl rfl (Nat.le_of_ble_eq_true rfl) (by decide) (Nat.le_of_ble_eq_true rfl) (Nat.le_of_ble_eq_true rfl)) ?_
        rintro _ μq ⟨rfl, hμq⟩
        rw [hμq]
        clear hμq μq
        rw [msk_test]
        first | refine r_if_eqZ (pc := 27) X 48 dX2_eatFirst_27 (by decide) (fun h3 => ?_) (fun h3 => ?_) | refine r_if_eqN (pc := 27) X 48 dX2_eatFirst_27 (by decide) (by omega) (fun h3 => ?_) (fun h3 => ?_) | refine r_if_eq (pc := 27) X 48 dX2_eatFirst_27 (by decide) (fun h3 => ?_) (fun h3 => ?_)
        · have hQ : eatQ (T 0) S n i = false := by
            unfold eatQ eatP
            simp at h3
            by_cases h4 : i < T 0
            · simp [h3 h4]
            · simp [h4]
          have e1 : mkb (i + 1) (eatQ (T 0) S n) = mkb i (eatQ (T 0) S n) := by rw [mkb_succ, hQ]; simp
          have e2 : cIn S (min (i + 1) (T 0)) = cIn S (min i (T 0)) := by
            by_cases h4 : i < T 0
            · have h5 : S (6 + i) ≠ 0 := by simp at h3; exact h3 h4
              rw [Nat.min_eq_left (by omega), Nat.min_eq_left (by omega)]
              show cIn S i + (if S (6 + i) = 0 then 1 else 0) = _
              rw [if_neg h5]
              rfl
            · rw [Nat.min_eq_right (by omega), Nat.min_eq_right (by omega)]
          refine r_iincN (pc := 48) (b := 1) X dX2_eatFirst_48 rfl (by decide) rfl ?_
          refine r_goto (pc := 51) X 7 dX2_eatFirst_51 (by decide) ?_
          have := ih (i + 1) f _ (by omega) (fun j hj => by
            rw [hf j hj]
            by_cases h5 : j = i
            · subst h5
              rw [if_neg (by omega), if_neg (by rw [hQ]; simp)]
            · by_cases h6 : j < i
              · simp [h6, show j < i + 1 by omega]
              · rw [if_neg (by omega), if_neg (by omega)]) q0 q1 q2
          rw [e1, e2] at this
          exact this
        · simp at h3
          have hP : eatP S n i = true := by
            unfold eatP
            rw [Nat.min_eq_left (by omega)] at h2
            exact decide_eq_true ⟨h3.2, by omega⟩
          have hQ : eatQ (T 0) S n i = true := by unfold eatQ; simp [h3.1, hP]
          have e1 : mkb (i + 1) (eatQ (T 0) S n) = mkb i (eatQ (T 0) S n) ||| 1 <<< i := by rw [mkb_succ, hQ]; simp
          have e2 : cIn S (min (i + 1) (T 0)) = cIn S (min i (T 0)) + 1 := by
            rw [Nat.min_eq_left (by omega), Nat.min_eq_left (by omega)]
            show cIn S i + (if S (6 + i) = 0 then 1 else 0) = _
            rw [if_pos h3.2]
          refine r_iload_n (pc := 30) X dX2_eatFirst_30 rfl ?_
          refine r_iconst (pc := 31) (v := nI 1) X dX2_eatFirst_31 (by decide) ?_
          refine r_iload (pc := 32) X dX2_eatFirst_32 rfl ?_
          first | refine r_ishlN (pc := 34) X dX2_eatFirst_34 (by omega) ?_ | refine r_ishl (pc := 34) X dX2_eatFirst_34 ?_
          first | refine r_iorN (pc := 35) X dX2_eatFirst_35 ?_ | refine r_ior (pc := 35) X dX2_eatFirst_35 ?_
          refine r_istore_n (pc := 36) X dX2_eatFirst_36 (by decide) rfl ?_
          refine r_aload_n (pc := 37) X dX2_eatFirst_37 rfl ?_
          apply r_get (pc := 38) X f_X2_9 dX2_eatFirst_38
          · repeat (first | exact mu_self | assumption | refine (mu_ne (by omega)).trans ?_)
          · rfl
          refine r_iload (pc := 41) X dX2_eatFirst_41 rfl ?_
          refine r_iconst (pc := 43) (v := -1) X dX2_eatFirst_43 (by decide) ?_
          apply r_iast (pc := 44) X dX2_eatFirst_44
          · repeat (first | exact mu_self | assumption | refine (mu_ne (by omega)).trans ?_)
          · omega
          · decide
          obtain ⟨lf, hlf⟩ : ∃ lf, n - cIn S (min i (T 0)) = lf + 1 := ⟨n - cIn S (min i (T 0)) - 1, by omega⟩
          rw [hlf]
          refine r_iincD (pc := 45) X dX2_eatFirst_45 rfl (by decide) rfl ?_
          refine r_iincN (pc := 48) (b := 1) X dX2_eatFirst_48 rfl (by decide) rfl ?_
          refine r_goto (pc := 51) X 7 dX2_eatFirst_51 (by decide) ?_
          have := ih (i + 1) (upd f i (-1)) (mu _ (a + 1) (xI Γ 6 (upd f i (-1)))) (by omega) (fun j hj => by
            unfold upd
            by_cases h5 : j = i
            · subst h5
              rw [if_pos rfl, if_pos ⟨by omega, hQ⟩, uI_0]
            · rw [if_neg h5, hf j hj]
              by_cases h6 : j < i
              · simp [h6, show j < i + 1 by omega]
              · rw [if_neg (by omega), if_neg (by omega)]) ((mu_ne (by omega)).trans q0) mu_self (fun q hq => (mu_ne (by omega)).trans (q2 q hq))
          rw [e1, e2, show n - (cIn S (min i (T 0)) + 1) = lf by omega] at this
          exact this
  exact key 6 0 (scU S) _ (by omega) (fun j hj => by rw [if_neg (by omega)]) rfl g1 Fr.rf
end S15
