section S61
variable {T S : Nat → Nat} {un : Nat} {A : Nat → Nat → Nat} {kf : Nat → Bool} {K : Nat → Nat → Nat} {n : Nat} {xs : Nat → Nat} {sn : Nat} {V : Nat → Nat}
theorem IS_of {S' : Nat → Nat} (h : IS T S) (h0 : S' 0 + S' 1 ≤ 50) (h2 : S' 2 ≤ 9) (h3 : S' 3 ≤ 1) (h4 : S' 4 ≤ 99) (hk : ∀ k, 5 ≤ k → S' k = S k) : IS T S' := by
  obtain ⟨z1, z2, z3, z4, z5, z6, z7, z8, z9⟩ := h
  refine ⟨h0, h2, h3, h4, by rw [hk 5 (by omega)]; exact z5, fun m hm => by rw [hk _ (by omega)]; exact z6 m hm, fun m hm => by rw [hk _ (by omega)]; exact z7 m hm, fun m hm => ?_, fun m k hm hn => ?_⟩
  · rw [hk _ (by omega), hk _ (by omega)]; exact z8 m hm
  · rw [hk _ (by omega), hk _ (by omega)]; exact z9 m k hm hn
theorem IS_eat (h : IS T S) (h6 : T 0 ≤ 6) (k' : Nat) : IS T (eatS (T 0) k' S) := by
  obtain ⟨z1, z2, z3, z4, z5, z6, z7, z8, z9⟩ := h
  refine ⟨by rw [eatS_lo (by omega), eatS_lo (by omega)]; exact z1, by rw [eatS_lo (by omega)]; exact z2, by rw [eatS_lo (by omega)]; exact z3, by rw [eatS_lo (by omega)]; exact z4, by rw [eatS_lo (by omega)]; exact z5, fun m hm => ?_, fun m hm => ?_, fun m hm => ?_, fun m k hm hk => ?_⟩
  · rw [eatS_how hm]
    split
    · omega
    · exact z6 m hm
  · rw [eatS_und h6]
    split
    · omega
    · exact z7 m hm
  · rw [eatS_und h6, eatS_how hm]
    by_cases hq : eatQ (T 0) S k' m = true
    · rw [if_pos hq]; intro q; exact absurd rfl q
    · rw [if_neg hq, if_neg hq]; exact z8 m hm
  · rw [eatS_und h6, eatS_und h6]
    by_cases hq : eatQ (T 0) S k' m = true
    · rw [if_pos hq]; intro q; exact absurd rfl q
    · rw [if_neg hq]
      by_cases hr : eatQ (T 0) S k' k = true
      · rw [if_pos hr]; intro q1 q2; exact absurd q2 q1
      · rw [if_neg hr]; exact z9 m k hm hk
theorem IS_push (hu : un ≤ 8) (hS : IS T S) (hA : ∀ i, i < un → IS T (A i)) : ∀ i, i < min 8 (un + 1) → IS T (pushA un A S i) := by
  intro i hi
  unfold pushA
  by_cases h8 : un = 8
  · rw [if_pos h8]
    show IS T (if i = 7 then S else A (i + 1))
    by_cases h7 : i = 7
    · rw [if_pos h7]; exact hS
    · rw [if_neg h7]; exact hA _ (by omega)
  · rw [if_neg h8]
    show IS T (if i = un then S else A i)
    by_cases h7 : i = un
    · rw [if_pos h7]; exact hS
    · rw [if_neg h7]; exact hA _ (by omega)
theorem INV.done {S' : Nat → Nat} (h : INV T S un A kf K n xs sn V) (hS : IS T S') : INV T S' (min 8 (un + 1)) (pushA un A S) kf K n xs sn V := by
  obtain ⟨i1, i2, i3, i4, i5, i6, i7, i8, i9⟩ := h
  exact ⟨i1, hS, by omega, IS_push i3 i2 i4, i5, i6, i7, i8, i9⟩
theorem inv_write (h : INV T S un A kf K n xs sn V) (v1 : Int32) : INV T S un A kf K (opWrite n xs v1).2.1 (opWrite n xs v1).2.2 sn V := by
  obtain ⟨i1, i2, i3, i4, i5, i6, i7, i8, i9⟩ := id h
  unfold opWrite
  by_cases h1 : ¬ (0 ≤ v1.toInt ∧ v1.toInt ≤ 255)
  · rw [if_pos h1]; exact h
  · rw [if_neg h1]
    by_cases h2 : n = 160
    · rw [if_pos h2]; exact h
    · rw [if_neg h2]
      refine ⟨i1, i2, i3, i4, i5, by show n + 1 ≤ 160; omega, fun i => ?_, i8, i9⟩
      show upN xs n (nt v1) i < 256
      unfold upN
      split
      · unfold nt; omega
      · exact i7 i
theorem inv_erase (h : INV T S un A kf K n xs sn V) : INV T S un A kf K 0 xs sn V := by
  obtain ⟨i1, i2, i3, i4, i5, i6, i7, i8, i9⟩ := h
  exact ⟨i1, i2, i3, i4, i5, Nat.zero_le _, i7, i8, i9⟩
theorem IS_begin (h : IT T) : IS T (beginS T) := by
  have h25 := h.2.2.2.2.2.2.2.1
  refine ⟨by show T 25 + 0 ≤ 50; omega, Nat.zero_le _, Nat.zero_le _, Nat.zero_le _, Nat.two_pow_pos _, fun m hm => ?_, fun m hm => ?_, fun m hm => ?_, fun m k hm hk => ?_⟩
  · unfold beginS; rw [if_neg (by omega)]; omega
  · unfold beginS; rw [if_neg (by omega)]; omega
  · intro q; exact absurd (by unfold beginS; rw [if_neg (by omega)]) q
  · intro q; exact absurd (by unfold beginS; rw [if_neg (by omega)]) q
theorem inv_cave (h : INV T S un A kf K n xs sn V) : INV (cvT xs n T) (beginS (cvT xs n T)) 0 A (fun _ => false) K 0 xs 0 V := by
  obtain ⟨i1, i2, i3, i4, i5, i6, i7, i8, i9⟩ := h
  have hT : IT (cvT xs n T) := rdT_IT 14 0 T 0 0 i1 (Nat.zero_le _)
  exact ⟨hT, IS_begin hT, Nat.zero_le _, fun i hi => absurd hi (Nat.not_lt_zero _), fun i _ hk => absurd hk (by simp), Nat.zero_le _, i7, Nat.zero_le _, fun k hk => absurd hk (Nat.not_lt_zero _)⟩
theorem inv_give (h : INV T S un A kf K n xs sn V) (v1 : Int32) : INV T (opGive S un A v1).2.1 (opGive S un A v1).2.2.1 (opGive S un A v1).2.2.2 kf K n xs sn V := by
  obtain ⟨i1, i2, i3, i4, i5, i6, i7, i8, i9⟩ := id h
  obtain ⟨z1, z2, z3, z4, z5, z6, z7, z8, z9⟩ := id i2
  unfold opGive
  by_cases h1 : ¬ (1 ≤ v1.toInt ∧ v1.toInt ≤ 50)
  · rw [if_pos h1]; exact h
  · rw [if_neg h1]
    by_cases h2 : S 3 = 1 ∨ S 0 < nt v1
    · rw [if_pos h2]; exact h
    · rw [if_neg h2]
      refine INV.done (S' := upN (upN S 0 (S 0 - nt v1)) 1 (S 1 + nt v1)) h (IS_of i2 ?_ ?_ ?_ ?_ (fun k hk => ?_))
      · rw [upN_ne (by omega), upN_self, upN_self]; omega
      · rw [upN_ne (by omega), upN_ne (by omega)]; exact z2
      · rw [upN_ne (by omega), upN_ne (by omega)]; exact z3
      · rw [upN_ne (by omega), upN_ne (by omega)]; exact z4
      · rw [upN_ne (by omega), upN_ne (by omega)]
theorem inv_day (h : INV T S un A kf K n xs sn V) : INV T (opDay T S un A).2.1 (opDay T S un A).2.2.1 (opDay T S un A).2.2.2 kf K n xs sn V := by
  obtain ⟨i1, i2, i3, i4, i5, i6, i7, i8, i9⟩ := id h
  obtain ⟨z1, z2, z3, z4, z5, z6, z7, z8, z9⟩ := id i2
  unfold opDay
  by_cases h1 : S 4 = 99
  · rw [if_pos h1]; exact h
  · rw [if_neg h1]
    have he := IS_eat i2 i1.1 (dayN T S)
    refine INV.done (S' := dayS T S) h (IS_of he ?_ ?_ ?_ ?_ (fun k hk => ?_))
    · unfold dayS
      rw [upN_ne (by omega), upN_ne (by omega), upN_ne (by omega), upN_ne (by omega), upN_self, eatS_lo (by omega)]; omega
    · unfold dayS
      rw [upN_ne (by omega), upN_ne (by omega), upN_self]; omega
    · unfold dayS
      rw [upN_ne (by omega), upN_ne (by omega), upN_ne (by omega)]; exact he.2.2.1
    · unfold dayS
      rw [upN_self]; omega
    · unfold dayS
      rw [upN_ne (by omega), upN_ne (by omega), upN_ne (by omega)]
theorem inv_blind (h : INV T S un A kf K n xs sn V) (v1 : Int32) : INV T (opBlind T S un A v1).2.1 (opBlind T S un A v1).2.2.1 (opBlind T S un A v1).2.2.2 kf K n xs sn V := by
  obtain ⟨i1, i2, i3, i4, i5, i6, i7, i8, i9⟩ := id h
  obtain ⟨z1, z2, z3, z4, z5, z6, z7, z8, z9⟩ := id i2
  unfold opBlind
  by_cases h1 : ¬ (0 ≤ v1.toInt ∧ v1.toInt ≤ 7)
  · rw [if_pos h1]; exact h
  · rw [if_neg h1]
    by_cases h2 : S 3 = 1 ∨ S 1 < T 26 ∨ S 2 < T 27
    · rw [if_pos h2]; exact h
    · rw [if_neg h2]
      refine INV.done (S' := eatS (T 0) (popc (comT T (nt v1))) (upN S 3 1)) h (IS_eat (IS_of i2 ?_ ?_ ?_ ?_ (fun k hk => ?_)) i1.1 _)
      · rw [upN_ne (by omega), upN_ne (by omega)]; exact z1
      · rw [upN_ne (by omega)]; exact z2
      · rw [upN_self]; omega
      · rw [upN_ne (by omega)]; exact z4
      · rw [upN_ne (by omega)]
theorem wu_zero {S : Nat → Nat} {s : Nat} : ∀ k, wu S s k = 0 → ∀ m, m < k → S (12 + m) ≠ s + 1 := by
  intro k
  induction k with
  | zero => intro _ m hm; omega
  | succ k ih =>
    intro h m hm
    have h' : (if S (12 + k) = s + 1 then k + 1 else wu S s k) = 0 := h
    by_cases hq : S (12 + k) = s + 1
    · rw [if_pos hq] at h'; omega
    · rw [if_neg hq] at h'
      by_cases hm2 : m = k
      · rw [hm2]; exact hq
      · exact ih h' m (by omega)
theorem inv_hide (h : INV T S un A kf K n xs sn V) (v1 v2 : Int32) : INV T (opHide T S un A v1 v2).2.1 (opHide T S un A v1 v2).2.2.1 (opHide T S un A v1 v2).2.2.2 kf K n xs sn V := by
  obtain ⟨i1, i2, i3, i4, i5, i6, i7, i8, i9⟩ := id h
  obtain ⟨z1, z2, z3, z4, z5, z6, z7, z8, z9⟩ := id i2
  have t1 := i1.1
  have t2 := i1.2.1
  unfold opHide
  by_cases h1 : ¬ (0 ≤ v1.toInt ∧ v1.toInt < T 0) ∨ ¬ (-1 ≤ v2.toInt ∧ v2.toInt < T 7)
  · rw [if_pos h1]; exact h
  · rw [if_neg h1]
    by_cases h2 : canT S (nt v1) (cd v2) = false
    · rw [if_pos h2]; exact h
    · rw [if_neg h2]
      have hm : nt v1 < T 0 := by unfold nt; omega
      have hc : cd v2 ≤ T 7 := by unfold cd; omega
      obtain ⟨m, hme⟩ : ∃ m, m = nt v1 := ⟨_, rfl⟩
      obtain ⟨w, hwe⟩ : ∃ w, w = cd v2 := ⟨_, rfl⟩
      rw [← hme, ← hwe] at h2 ⊢
      rw [← hme] at hm
      rw [← hwe] at hc
      have h2' : canT S m w = true := by simpa using h2
      unfold canT at h2'
      simp only [Bool.and_eq_true, beq_iff_eq] at h2'
      obtain ⟨g1, g2⟩ := h2'
      have hfree : w ≠ 0 → ∀ k, k < 6 → S (12 + k) ≠ w := by
        intro hw k hk
        rw [if_neg hw] at g2
        simp only [Bool.and_eq_true, decide_eq_true_eq] at g2
        have := wu_zero 6 g2.2 k hk
        omega
      refine INV.done (S' := upN S (12 + m) w) h ⟨?_, ?_, ?_, ?_, ?_, fun k hk => ?_, fun k hk => ?_, fun k hk => ?_, fun k j hk hj => ?_⟩
      · rw [upN_ne (by omega), upN_ne (by omega)]; exact z1
      · rw [upN_ne (by omega)]; exact z2
      · rw [upN_ne (by omega)]; exact z3
      · rw [upN_ne (by omega)]; exact z4
      · rw [upN_ne (by omega)]; exact z5
      · rw [upN_ne (by omega)]; exact z6 k hk
      · exact upN_le (z7 k hk) (fun _ => hc)
      · rw [upN_ne (i := 6 + k) (by omega)]
        by_cases hq : k = m
        · subst hq
          intro _
          exact ⟨hm, g1⟩
        · rw [upN_ne (by omega)]; exact z8 k hk
      · by_cases hq : k = m
        · subst hq
          rw [upN_self]
          by_cases hr : j = k
          · intro _ _; exact hr.symm
          · rw [upN_ne (by omega)]
            intro q1 q2
            exact absurd q2.symm (hfree q1 j hj)
        · rw [upN_ne (i := 12 + k) (by omega)]
          by_cases hr : j = m
          · subst hr
            rw [upN_self]
            intro q1 q2
            exact absurd q2 (hfree (by omega) k hk)
          · rw [upN_ne (by omega)]; exact z9 k j hk hj
theorem inv_morning (h : INV T S un A kf K n xs sn V) : INV T (opMorning T S un A).2.1 (opMorning T S un A).2.2.1 (opMorning T S un A).2.2.2 kf K n xs sn V := by
  obtain ⟨i1, i2, i3, i4, i5, i6, i7, i8, i9⟩ := id h
  obtain ⟨z1, z2, z3, z4, z5, z6, z7, z8, z9⟩ := id i2
  unfold opMorning
  by_cases h1 : S 3 = 0
  · rw [if_pos h1]; exact h
  · rw [if_neg h1]
    refine INV.done (S' := morS T S) h ⟨?_, ?_, ?_, ?_, ?_, fun k hk => ?_, fun k hk => ?_, fun k hk => ?_, fun k j hk hj => ?_⟩
    · rw [morS_lo (by omega), morS_lo (by omega)]; exact z1
    · rw [morS_lo (by omega)]; exact z2
    · rw [morS_lo (by omega)]; exact z3
    · rw [morS_lo (by omega)]; exact z4
    · rw [morS_5]; exact gnS_lt i2 6 (Nat.le_refl _)
    · rw [morS_how hk]
      have := z6 k hk
      repeat (first | omega | split)
    · rw [morS_und hk]; omega
    · rw [morS_und hk]; intro q; exact absurd rfl q
    · rw [morS_und hk]; intro q; exact absurd rfl q
theorem inv_undo (h : INV T S un A kf K n xs sn V) : INV T (opUndo S un A).2.1 (opUndo S un A).2.2.1 (opUndo S un A).2.2.2 kf K n xs sn V := by
  obtain ⟨i1, i2, i3, i4, i5, i6, i7, i8, i9⟩ := id h
  unfold opUndo
  by_cases h1 : un = 0
  · rw [if_pos h1]; exact h
  · rw [if_neg h1]
    exact ⟨i1, i4 _ (by omega), by show un - 1 ≤ 8; omega, fun i hi => i4 i (by have : i < un - 1 := hi; omega), i5, i6, i7, i8, i9⟩
theorem inv_keep (h : INV T S un A kf K n xs sn V) (v1 : Int32) : INV T S un A (opKeep S kf K v1).2.1 (opKeep S kf K v1).2.2 n xs sn V := by
  obtain ⟨i1, i2, i3, i4, i5, i6, i7, i8, i9⟩ := id h
  unfold opKeep
  by_cases h1 : ¬ (0 ≤ v1.toInt ∧ v1.toInt ≤ 1)
  · rw [if_pos h1]; exact h
  · rw [if_neg h1]
    refine ⟨i1, i2, i3, i4, fun i hi hk => ?_, i6, i7, i8, i9⟩
    show IS T (if i = nt v1 then S else K i)
    have hk' : (if i = nt v1 then true else kf i) = true := hk
    by_cases hq : i = nt v1
    · rw [if_pos hq]; exact i2
    · rw [if_neg hq]
      rw [if_neg hq] at hk'
      exact i5 i hi hk'
theorem inv_back (h : INV T S un A kf K n xs sn V) (v1 : Int32) : INV T (opBack S un kf K v1).2.1 (opBack S un kf K v1).2.2 A kf K n xs sn V := by
  obtain ⟨i1, i2, i3, i4, i5, i6, i7, i8, i9⟩ := id h
  unfold opBack
  by_cases h1 : ¬ (0 ≤ v1.toInt ∧ v1.toInt ≤ 1)
  · rw [if_pos h1]; exact h
  · rw [if_neg h1]
    by_cases h2 : kf (nt v1) = false
    · rw [if_pos h2]; exact h
    · rw [if_neg h2]
      exact ⟨i1, i5 _ (by unfold nt; omega) (by simpa using h2), Nat.zero_le _, fun i hi => absurd hi (Nat.not_lt_zero _), i5, i6, i7, i8, i9⟩
theorem inv_seen (h : INV T S un A kf K n xs sn V) (v1 v2 v3 : Int32) : INV T S un A kf K n xs (opSeen T sn V v1 v2 v3).2.1 (opSeen T sn V v1 v2 v3).2.2 := by
  obtain ⟨i1, i2, i3, i4, i5, i6, i7, i8, i9⟩ := id h
  unfold opSeen
  by_cases h1 : ¬ (0 ≤ v1.toInt ∧ v1.toInt < T 0) ∨ ¬ (0 ≤ v2.toInt ∧ v2.toInt < T 7)
  · rw [if_pos h1]; exact h
  · rw [if_neg h1]
    by_cases h2 : ¬ (0 ≤ v3.toInt ∧ v3.toInt ≤ 1)
    · rw [if_pos h2]; exact h
    · rw [if_neg h2]
      by_cases h3 : sn = 6
      · rw [if_pos h3]; exact h
      · rw [if_neg h3]
        refine ⟨i1, i2, i3, i4, i5, i6, i7, by show sn + 1 ≤ 6; omega, fun k hk => ?_⟩
        have hk' : k < sn + 1 := hk
        show upN (upN (upN V (3 * sn) (nt v1)) (3 * sn + 1) (nt v2)) (3 * sn + 2) (nt v3) (3 * k) < T 0 ∧ upN (upN (upN V (3 * sn) (nt v1)) (3 * sn + 1) (nt v2)) (3 * sn + 2) (nt v3) (3 * k + 1) < T 7 ∧ upN (upN (upN V (3 * sn) (nt v1)) (3 * sn + 1) (nt v2)) (3 * sn + 2) (nt v3) (3 * k + 2) ≤ 1
        by_cases hq : k = sn
        · subst hq
          rw [upN_ne (i := 3 * k) (by omega), upN_ne (i := 3 * k) (by omega), upN_self, upN_ne (i := 3 * k + 1) (by omega), upN_self, upN_self]
          refine ⟨by unfold nt; omega, by unfold nt; omega, by unfold nt; omega⟩
        · rw [upN_ne (i := 3 * k) (by omega), upN_ne (i := 3 * k) (by omega), upN_ne (i := 3 * k) (by omega), upN_ne (i := 3 * k + 1) (by omega), upN_ne (i := 3 * k + 1) (by omega), upN_ne (i := 3 * k + 1) (by omega), upN_ne (i := 3 * k + 2) (by omega), upN_ne (i := 3 * k + 2) (by omega), upN_ne (i := 3 * k + 2) (by omega)]
          exact i9 k (by omega)
theorem inv_forget (h : INV T S un A kf K n xs sn V) : INV T S un A kf K n xs 0 V := by
  obtain ⟨i1, i2, i3, i4, i5, i6, i7, i8, i9⟩ := h
  exact ⟨i1, i2, i3, i4, i5, i6, i7, Nat.zero_le _, fun k hk => absurd hk (Nat.not_lt_zero _)⟩
theorem inv_00 : INV T00 S00 0 (fun _ _ => 0) (fun _ => false) (fun _ _ => 0) 0 (fun _ => 0) 0 (fun _ => 0) := by
  have hT : IT T00 := IT_rs (T := fun _ => 0) ⟨by decide, by decide, by decide, fun i hi => Nat.zero_le _, fun i hi => Nat.zero_le _, fun i hi => Nat.zero_le _, fun i hi => Nat.zero_le _, by decide, by decide, by decide, by decide⟩
  exact ⟨hT, IS_begin hT, Nat.zero_le _, fun i hi => absurd hi (Nat.not_lt_zero _), fun i _ hk => absurd hk (by simp), Nat.zero_le _, fun i => (by decide : (0 : Nat) < 256), Nat.zero_le _, fun k hk => absurd hk (Nat.not_lt_zero _)⟩
end S61
