def inL (T S : Nat → Nat) (i : Nat) : Nat := mkb (T 0) (fun k => (S (6 + k) == 0) && !(decide (k < i) && decide (S (12 + k) ≠ 0)))
def eaL (T S : Nat → Nat) (i : Nat) : Nat := mkb (T 0) (fun k => (S (6 + k) == 2) || (decide (k < i) && decide (S (12 + k) ≠ 0) && !mornP T S k))
theorem shl_pow {s n : Nat} (h : s < n) : 1 <<< s < 2 ^ n := by rw [Nat.one_shiftLeft]; exact Nat.pow_lt_pow_right (by decide) h
theorem gnS_lt {T S : Nat → Nat} (hS : IS T S) : ∀ i, i ≤ 6 → gnS T S i < 2 ^ T 7 := by
  intro i
  induction i with
  | zero => intro _; exact hS.2.2.2.2.1
  | succ i ih =>
    intro hi
    show (if mornP T S i = true then gnS T S i ||| 1 <<< (S (12 + i) - 1) else gnS T S i) < 2 ^ T 7
    by_cases h : mornP T S i = true
    · rw [if_pos h]
      have h1 : S (12 + i) ≠ 0 := by unfold mornP at h; simp at h; exact h.1
      have h2 := hS.2.2.2.2.2.2.1 i (by omega)
      exact Nat.or_lt_two_pow (ih (by omega)) (shl_pow (by omega))
    · rw [if_neg h]; exact ih (by omega)
theorem morS_how {T S : Nat → Nat} {k : Nat} (hk : k < 6) : morS T S (6 + k) = if S (12 + k) ≠ 0 then (if mornP T S k = true then 1 else 2) else S (6 + k) := by
  unfold morS
  rw [if_neg (by omega), show 6 + (6 + k) = 12 + k by omega, show 6 + k - 6 = k by omega]
  by_cases h : S (12 + k) = 0
  · rw [if_neg (fun q => q.2.2 h), if_neg (by omega), if_neg (fun q => q h)]
  · rw [if_pos ⟨by omega, by omega, h⟩, if_pos h]
theorem morS_und {T S : Nat → Nat} {k : Nat} (hk : k < 6) : morS T S (12 + k) = 0 := by
  unfold morS
  rw [if_neg (by omega), if_neg (by omega), if_pos ⟨by omega, by omega⟩]
theorem morS_lo {T S : Nat → Nat} {k : Nat} (hk : k < 5) : morS T S k = S k := by
  unfold morS
  rw [if_neg (by omega), if_neg (by omega), if_neg (by omega)]
theorem morS_5 {T S : Nat → Nat} : morS T S 5 = gnS T S 6 := if_pos rfl
theorem mor_in {T S : Nat → Nat} (hI : T 0 ≤ 6) : inL T S 6 = msk (T 0) (morS T S) 0 := by
  refine eq_test6 (mkb_lt64 hI _) (msk_lt hI _ 0) (fun k hk => ?_)
  unfold inL
  rw [mkb_test, msk_test, morS_how hk]
  by_cases h : S (12 + k) = 0
  · simp [h]
  · cases h2 : mornP T S k <;> simp [h, hk]
theorem mor_ea {T S : Nat → Nat} (hI : T 0 ≤ 6) (hS : IS T S) : eaL T S 6 = msk (T 0) (morS T S) 2 := by
  refine eq_test6 (mkb_lt64 hI _) (msk_lt hI _ 2) (fun k hk => ?_)
  unfold eaL
  rw [mkb_test, msk_test, morS_how hk]
  by_cases h : S (12 + k) = 0
  · simp [h]
  · have h3 := (hS.2.2.2.2.2.2.2.1 k hk h).2
    cases h2 : mornP T S k <;> simp [h, hk, h3]
theorem mor_out {T S : Nat → Nat} (hI : T 0 ≤ 6) (hS : IS T S) : msk (T 0) S 1 ||| mkb 6 (mornP T S) = msk (T 0) (morS T S) 1 := by
  refine eq_test6 (or_lt64 (msk_lt hI S 1) (mkb_lt64 (Nat.le_refl 6) _)) (msk_lt hI _ 1) (fun k hk => ?_)
  rw [Nat.testBit_or, mkb_test, msk_test, msk_test, morS_how hk]
  by_cases h : S (12 + k) = 0
  · have h4 : mornP T S k = false := by unfold mornP; simp [h]
    simp [h, h4]
  · have h3 := hS.2.2.2.2.2.2.2.1 k hk h
    cases h2 : mornP T S k <;> simp [h, hk, h3.1, h3.2]
theorem inL_s {T S : Nat → Nat} (hI : T 0 ≤ 6) {i : Nat} (hi : i < 6) (h : S (12 + i) ≠ 0) : inL T S i &&& (1 <<< i ^^^ 63) = inL T S (i + 1) := by
  refine eq_test6 (andn_lt (mkb_lt64 hI _)) (mkb_lt64 hI _) (fun k hk => ?_)
  rw [andn_test hk, one_shl_test]
  unfold inL
  rw [mkb_test, mkb_test]
  by_cases h1 : k = i
  · subst h1; simp [h]
  · by_cases h2 : k < i
    · simp [h1, h2, show k < i + 1 by omega]
    · simp [h1, h2, show ¬ k < i + 1 by omega]
theorem inL_n {T S : Nat → Nat} {i : Nat} (h : S (12 + i) = 0) : inL T S (i + 1) = inL T S i := by
  refine mkb_congr (fun k hk => ?_)
  by_cases h1 : k = i
  · subst h1; simp [h]
  · by_cases h2 : k < i
    · simp [h2, show k < i + 1 by omega]
    · simp [h2, show ¬ k < i + 1 by omega]
theorem eaL_s {T S : Nat → Nat} (hI : T 0 ≤ 6) {i : Nat} (hi : i < T 0) (h : S (12 + i) ≠ 0) (hm : mornP T S i = false) : eaL T S i ||| 1 <<< i = eaL T S (i + 1) := by
  refine eq_test6 (or_lt64 (mkb_lt64 hI _) (one_shl_lt (by omega))) (mkb_lt64 hI _) (fun k hk => ?_)
  rw [Nat.testBit_or, one_shl_test]
  unfold eaL
  rw [mkb_test, mkb_test]
  by_cases h1 : k = i
  · subst h1; simp [h, hm, hi]
  · by_cases h2 : k < i
    · simp [h1, h2, show k < i + 1 by omega]
    · simp [h1, h2, show ¬ k < i + 1 by omega]
theorem eaL_n {T S : Nat → Nat} {i : Nat} (h : S (12 + i) = 0 ∨ mornP T S i = true) : eaL T S (i + 1) = eaL T S i := by
  refine mkb_congr (fun k hk => ?_)
  by_cases h1 : k = i
  · subst h1
    rcases h with h | h <;> simp [h]
  · by_cases h2 : k < i
    · simp [h2, show k < i + 1 by omega]
    · simp [h2, show ¬ k < i + 1 by omega]
theorem inL_0 {T S : Nat → Nat} : inL T S 0 = msk (T 0) S 0 := mkb_congr (fun k hk => by simp)
theorem eaL_0 {T S : Nat → Nat} : eaL T S 0 = msk (T 0) S 2 := mkb_congr (fun k hk => by simp)
section S16
variable {Γ : KK} {l : Launch} {sz : Nat} {μ : MM} {a b : Nat} {T S : Nat → Nat}
theorem t2_leave (ha : ScAt Γ μ a (scV (T 0) S) (scU S)) (hT : ToldAt Γ μ b T) (hI : IT T) (hS : IS T S) (hd : a + 2 ≤ b ∨ b + 5 ≤ a) : CT Γ l 4 sz 0 0 mX2_leave [.ref a, .ref b] μ (ri (fun r μ' => r = nI (mkb 6 (mornP T S)) ∧ ScAt Γ μ' a (scV (T 0) (morS T S)) (scU (morS T S)) ∧ Fr a 2 μ μ')) := by
  obtain ⟨g0, g1, gz⟩ := ha
  have h6 := hI.1
  have h7 := hI.2.1
  have hp7 := pow6 h7
  refine CT.go RX2 rfl "leave" rfl [some (.ref a), some (.ref b), none, none, none] rfl (by decide) (Nat.le_of_ble_eq_true rfl) ?_
  intro p e R s m args below meth c X hsz
  refine r_iconst (pc := 0) (v := nI 0) X dX2_leave_0 (by decide) ?_
  refine r_istore_n (pc := 1) X dX2_leave_1 (by decide) rfl ?_
  refine r_iconst (pc := 2) (v := nI 0) X dX2_leave_2 (by decide) ?_
  refine r_istore_n (pc := 3) X dX2_leave_3 (by decide) rfl ?_
  have key : ∀ (N i : Nat) (f : Nat → Int32) (q4 : Option Value) (μ1 : MM), i + N = 6 → (∀ j, j < 6 → f j = if j < i then uI 0 else scU S j) →
      μ1 a = some (xO 2 [.int (scV (T 0) S 0), .int (scV (T 0) S 1), .int (scV (T 0) S 2), .int (scV (T 0) S 3), .int (scV (T 0) S 4), .int (nI (inL T S i)), .int (scV (T 0) S 6), .int (nI (eaL T S i)), .int (nI (gnS T S i)), .ref (a + 1)]) → μ1 (a + 1) = some (xI Γ 6 f) → Fr a 2 μ μ1 →
      vV Γ p l e R s m args below meth c (vQ Γ s args below 0 0 (ri (fun r μ' => r = nI (mkb 6 (mornP T S)) ∧ ScAt Γ μ' a (scV (T 0) (morS T S)) (scU (morS T S)) ∧ Fr a 2 μ μ'))) 5 0 0 4 [some (.ref a), some (.ref b), some (.int (nI (mkb i (mornP T S)))), some (.int (nI i)), q4] [] μ1 := by
    intro N
    induction N with
    | zero =>
      intro i f q4 μ1 hi hf q0 q1 q2
      have hi2 : i = 6 := by omega
      subst hi2
      refine r_iload_n (pc := 4) X dX2_leave_4 rfl ?_
      refine r_bipush (pc := 5) (v := nI 6) X dX2_leave_5 (by decide) ?_
      refine r_icmp_geN (pc := 7) X 98 dX2_leave_7 (by decide) (by omega) (by omega) (fun _ => ?_) (fun h => absurd (Nat.le_refl _) h)
      refine vV.sub (μ' := mu μ1 (a + 1) (xI Γ 6 (scU (morS T S)))) (fun H hP => hP.reI q1 (fun j hj => by
        rw [hf j hj, if_pos hj]
        show uI 0 = uI (morS T S (12 + j))
        rw [morS_und hj])) ?_
      have q3 : mu μ1 (a + 1) (xI Γ 6 (scU (morS T S))) a = _ := (mu_ne (by omega)).trans q0
      refine r_aload_n (pc := 98) X dX2_leave_98 rfl ?_
      refine r_dup (pc := 99) X dX2_leave_99 rfl ?_
      apply r_get (pc := 100) X f_X2_47 dX2_leave_100
      · repeat (first | exact mu_self | assumption | refine (mu_ne (by omega)).trans ?_)
      · rfl
      refine r_iload_n (pc := 103) X dX2_leave_103 rfl ?_
      refine r_ior (pc := 104) X dX2_leave_104 ?_
      have e2 : scV (T 0) S 6 ||| nI (mkb 6 (mornP T S)) = scV (T 0) (morS T S) 6 := by
        show nI (msk (T 0) S 1) ||| _ = nI (msk (T 0) (morS T S) 1)
        rw [nI_or, mor_out h6 hS]
      rw [e2]
      first | refine r_putS (pc := 105) X f_X2_47 dX2_leave_105 (by first | rfl | assumption | decide | simp [narrow]) (by first | rfl | assumption) (Nat.le_of_ble_eq_true rfl) ?_ | refine r_put (pc := 105) X f_X2_47 dX2_leave_105 (by repeat (first | exact mu_self | assumption | refine (mu_ne (by omega)).trans ?_)) (by first | rfl | assumption | decide | simp [narrow]) (by first | rfl | assumption) (Nat.le_of_ble_eq_true rfl) ?_
      refine r_iload_n (pc := 108) X dX2_leave_108 rfl ?_
      have z0 : scV (T 0) S 0 = scV (T 0) (morS T S) 0 := congrArg nI (morS_lo (by omega)).symm
      have z1 : scV (T 0) S 1 = scV (T 0) (morS T S) 1 := congrArg nI (morS_lo (by omega)).symm
      have z2 : scV (T 0) S 2 = scV (T 0) (morS T S) 2 := congrArg nI (morS_lo (by omega)).symm
      have z3 : scV (T 0) S 3 = scV (T 0) (morS T S) 3 := congrArg nI (morS_lo (by omega)).symm
      have z4 : scV (T 0) S 4 = scV (T 0) (morS T S) 4 := congrArg nI (morS_lo (by omega)).symm
      have z5 : nI (inL T S 6) = scV (T 0) (morS T S) 5 := congrArg nI (mor_in h6)
      have z7 : nI (eaL T S 6) = scV (T 0) (morS T S) 7 := congrArg nI (mor_ea h6 hS)
      have z8 : nI (gnS T S 6) = scV (T 0) (morS T S) 8 := congrArg nI morS_5.symm
      refine r_iret (pc := 109) X dX2_leave_109 ⟨rfl, ⟨?_, (by repeat (first | exact mu_self | assumption | refine (mu_ne (by omega)).trans ?_)), ?_⟩, fun q hq => (mu_ne (by omega)).trans ((mu_ne (by omega)).trans (q2 q hq))⟩
      · rw [mu_self, ← z0, ← z1, ← z2, ← z3, ← z4, ← z5, ← z7, ← z8]
        rfl
      · rw [← z4]; exact gz
    | succ N ih =>
      intro i f q4 μ1 hi hf q0 q1 q2
      have k0 : ToldAt Γ μ1 b T := hT.kept (fun q h1 h2 => q2 q (by omega))
      have k00 := k0.1
      have hu := hS.2.2.2.2.2.2.1 i (by omega)
      have hgl := gnS_lt hS i (by omega)
      have hil : inL T S i < 64 := mkb_lt64 h6 _
      refine r_iload_n (pc := 4) X dX2_leave_4 rfl ?_
      refine r_bipush (pc := 5) (v := nI 6) X dX2_leave_5 (by decide) ?_
      refine r_icmp_geN (pc := 7) X 98 dX2_leave_7 (by decide) (by omega) (by omega) (fun h => absurd h (by omega)) (fun h => ?_)
      refine r_aload_n (pc := 10) X dX2_leave_10 rfl ?_
      apply r_get (pc := 11) X f_X2_9 dX2_leave_11
      · repeat (first | exact mu_self | assumption | refine (mu_ne (by omega)).trans ?_)
      · rfl
      refine r_iload_n (pc := 14) X dX2_leave_14 rfl ?_
      apply r_iald (pc := 15) X dX2_leave_15
      · repeat (first | exact mu_self | assumption | refine (mu_ne (by omega)).trans ?_)
      · omega
      · decide
      have ef : f i = uI (S (12 + i)) := by rw [hf i (by omega), if_neg (by omega)]; rfl
      rw [ef]
      refine r_istore (pc := 16) X dX2_leave_16 (by decide) rfl ?_
      refine r_iload (pc := 18) X dX2_leave_18 rfl ?_
      refine r_iconst (pc := 20) (v := -1) X dX2_leave_20 (by decide) ?_
      refine r_icmp_ne (pc := 21) X 27 dX2_leave_21 (by decide) (fun h2 => ?_) (fun h2 => ?_)
      · have hu0 : S (12 + i) ≠ 0 := fun q => h2 (by rw [q, uI_0])
        obtain ⟨hm1, hm2⟩ := hS.2.2.2.2.2.2.2.1 i (by omega) hu0
        obtain ⟨t, ht⟩ : ∃ t, S (12 + i) = t + 1 := ⟨S (12 + i) - 1, by omega⟩
        rw [ht, uI_S]
        have hbm : brM T t i = mornP T S i := by
          unfold brM mornP
          rw [ht]
          simp [hm1, show t < T 7 by omega]
        refine r_aload_n (pc := 27) X dX2_leave_27 rfl ?_
        apply r_get (pc := 28) X f_X2_9 dX2_leave_28
        · repeat (first | exact mu_self | assumption | refine (mu_ne (by omega)).trans ?_)
        · rfl
        refine r_iload_n (pc := 31) X dX2_leave_31 rfl ?_
        refine r_iconst (pc := 32) (v := -1) X dX2_leave_32 (by decide) ?_
        apply r_iast (pc := 33) X dX2_leave_33
        · repeat (first | exact mu_self | assumption | refine (mu_ne (by omega)).trans ?_)
        · omega
        · decide
        refine r_aload_n (pc := 34) X dX2_leave_34 rfl ?_
        refine r_dup (pc := 35) X dX2_leave_35 rfl ?_
        apply r_get (pc := 36) X f_X2_44 dX2_leave_36
        · repeat (first | exact mu_self | assumption | refine (mu_ne (by omega)).trans ?_)
        · rfl
        refine r_iconst (pc := 39) (v := nI 1) X dX2_leave_39 (by decide) ?_
        refine r_iload_n (pc := 40) X dX2_leave_40 rfl ?_
        refine r_ishl (pc := 41) X dX2_leave_41 ?_
        refine r_iconst (pc := 42) (v := -1) X dX2_leave_42 (by decide) ?_
        refine r_ixor (pc := 43) X dX2_leave_43 ?_
        refine r_iand (pc := 44) X dX2_leave_44 ?_
        have e1 : nI (inL T S i) &&& (nI 1 <<< (nI i &&& 31) ^^^ -1) = nI (inL T S (i + 1)) := by
          rw [nI_shl (by omega), nI_andn _ hil _ (one_shl_lt (by omega)), inL_s h6 (by omega) hu0]
        rw [e1]
        first | refine r_putS (pc := 45) X f_X2_44 dX2_leave_45 (by first | rfl | assumption | decide | simp [narrow]) (by first | rfl | assumption) (Nat.le_of_ble_eq_true rfl) ?_ | refine r_put (pc := 45) X f_X2_44 dX2_leave_45 (by repeat (first | exact mu_self | assumption | refine (mu_ne (by omega)).trans ?_)) (by first | rfl | assumption | decide | simp [narrow]) (by first | rfl | assumption) (Nat.le_of_ble_eq_true rfl) ?_
        refine r_aload_n (pc := 48) X dX2_leave_48 rfl ?_
        refine r_iload (pc := 49) X dX2_leave_49 rfl ?_
        refine r_iload_n (pc := 51) X dX2_leave_51 rfl ?_
        refine c_i X (rV (pc := 52) (ci := 5) X l_X2_69 (t5_bearsMan (T := T) (k0.kept (fun q h1 h2 => by repeat (first | rfl | refine (mu_ne (by omega)).trans ?_))) hI (w := t) (m' := i) (by omega) (by omega)) dX2_leave_52 (by repeat (first | exact mu_self | assumption | refine (mu_ne (by omega)).trans ?_)) rfl rfl rfl (Nat.le_of_ble_eq_true rfl) (by decide) (Nat.le_of_ble_eq_true rfl) (Nat.le_of_ble_eq_true rfl)) ?_
        rintro _ μq ⟨rfl, hμq⟩
        rw [hμq]
        clear hμq μq
        rw [hbm]
        have hf' : ∀ j, j < 6 → upd f i (-1) j = if j < i + 1 then uI 0 else scU S j := fun j hj => by
          unfold upd
          by_cases h5 : j = i
          · subst h5; rw [if_pos rfl, if_pos (by omega), uI_0]
          · rw [if_neg h5, hf j hj]
            by_cases h6 : j < i
            · rw [if_pos h6, if_pos (by omega)]
            · rw [if_neg h6, if_neg (by omega)]
        first | refine r_if_eqZ (pc := 55) X 80 dX2_leave_55 (by decide) (fun h3 => ?_) (fun h3 => ?_) | refine r_if_eqN (pc := 55) X 80 dX2_leave_55 (by decide) (by omega) (fun h3 => ?_) (fun h3 => ?_) | refine r_if_eq (pc := 55) X 80 dX2_leave_55 (by decide) (fun h3 => ?_) (fun h3 => ?_)
        · refine r_aload_n (pc := 80) X dX2_leave_80 rfl ?_
          refine r_dup (pc := 81) X dX2_leave_81 rfl ?_
          apply r_get (pc := 82) X f_X2_50 dX2_leave_82
          · repeat (first | exact mu_self | assumption | refine (mu_ne (by omega)).trans ?_)
          · rfl
          refine r_iconst (pc := 85) (v := nI 1) X dX2_leave_85 (by decide) ?_
          refine r_iload_n (pc := 86) X dX2_leave_86 rfl ?_
          first | refine r_ishlN (pc := 87) X dX2_leave_87 (by omega) ?_ | refine r_ishl (pc := 87) X dX2_leave_87 ?_
          first | refine r_iorN (pc := 88) X dX2_leave_88 ?_ | refine r_ior (pc := 88) X dX2_leave_88 ?_
          first | refine r_putS (pc := 89) X f_X2_50 dX2_leave_89 (by first | rfl | assumption | decide | simp [narrow]) (by first | rfl | assumption) (Nat.le_of_ble_eq_true rfl) ?_ | refine r_put (pc := 89) X f_X2_50 dX2_leave_89 (by repeat (first | exact mu_self | assumption | refine (mu_ne (by omega)).trans ?_)) (by first | rfl | assumption | decide | simp [narrow]) (by first | rfl | assumption) (Nat.le_of_ble_eq_true rfl) ?_
          refine r_iincN (pc := 92) (b := 1) X dX2_leave_92 rfl (by decide) rfl ?_
          refine r_goto (pc := 95) X 4 dX2_leave_95 (by decide) ?_
          have e4 : mkb (i + 1) (mornP T S) = mkb i (mornP T S) := by rw [mkb_succ, h3]; simp
          have e3 : gnS T S (i + 1) = gnS T S i := by show (if mornP T S i = true then _ else gnS T S i) = _; rw [h3]; rfl
          rw [← e4]
          refine ih (i + 1) (upd f i (-1)) _ _ (by omega) hf' ?_ (by repeat (first | exact mu_self | assumption | refine (mu_ne (by omega)).trans ?_)) (fun q hq => (mu_ne (by omega)).trans ((mu_ne (by omega)).trans (q2 q hq)))
          rw [mu_self, ← eaL_s h6 hm1 hu0 h3, e3]
          rfl
        · refine r_iload_n (pc := 58) X dX2_leave_58 rfl ?_
          refine r_iconst (pc := 59) (v := nI 1) X dX2_leave_59 (by decide) ?_
          refine r_iload_n (pc := 60) X dX2_leave_60 rfl ?_
          first | refine r_ishlN (pc := 61) X dX2_leave_61 (by omega) ?_ | refine r_ishl (pc := 61) X dX2_leave_61 ?_
          first | refine r_iorN (pc := 62) X dX2_leave_62 ?_ | refine r_ior (pc := 62) X dX2_leave_62 ?_
          refine r_istore_n (pc := 63) X dX2_leave_63 (by decide) rfl ?_
          refine r_aload_n (pc := 64) X dX2_leave_64 rfl ?_
          refine r_dup (pc := 65) X dX2_leave_65 rfl ?_
          apply r_get (pc := 66) X f_X2_53 dX2_leave_66
          · repeat (first | exact mu_self | assumption | refine (mu_ne (by omega)).trans ?_)
          · rfl
          refine r_iconst (pc := 69) (v := nI 1) X dX2_leave_69 (by decide) ?_
          refine r_iload (pc := 70) X dX2_leave_70 rfl ?_
          first | refine r_ishlN (pc := 72) X dX2_leave_72 (by omega) ?_ | refine r_ishl (pc := 72) X dX2_leave_72 ?_
          first | refine r_iorN (pc := 73) X dX2_leave_73 ?_ | refine r_ior (pc := 73) X dX2_leave_73 ?_
          first | refine r_putS (pc := 74) X f_X2_53 dX2_leave_74 (by first | rfl | assumption | decide | simp [narrow]) (by first | rfl | assumption) (Nat.le_of_ble_eq_true rfl) ?_ | refine r_put (pc := 74) X f_X2_53 dX2_leave_74 (by repeat (first | exact mu_self | assumption | refine (mu_ne (by omega)).trans ?_)) (by first | rfl | assumption | decide | simp [narrow]) (by first | rfl | assumption) (Nat.le_of_ble_eq_true rfl) ?_
          refine r_goto (pc := 77) X 92 dX2_leave_77 (by decide) ?_
          refine r_iincN (pc := 92) (b := 1) X dX2_leave_92 rfl (by decide) rfl ?_
          refine r_goto (pc := 95) X 4 dX2_leave_95 (by decide) ?_
          have e4 : mkb (i + 1) (mornP T S) = mkb i (mornP T S) ||| 1 <<< i := by rw [mkb_succ, h3]; simp
          have e3 : gnS T S (i + 1) = gnS T S i ||| 1 <<< t := by show (if mornP T S i = true then gnS T S i ||| 1 <<< (S (12 + i) - 1) else gnS T S i) = _; rw [h3, ht]; rfl
          rw [← e4]
          refine ih (i + 1) (upd f i (-1)) _ _ (by omega) hf' ?_ (by repeat (first | exact mu_self | assumption | refine (mu_ne (by omega)).trans ?_)) (fun q hq => (mu_ne (by omega)).trans ((mu_ne (by omega)).trans (q2 q hq)))
          rw [mu_self, eaL_n (Or.inr h3), e3]
          rfl
      · have hu0 : S (12 + i) = 0 := (uI_eq (by omega) (by omega)).mp (by rw [h2, uI_0])
        refine r_goto (pc := 24) X 92 dX2_leave_24 (by decide) ?_
        refine r_iincN (pc := 92) (b := 1) X dX2_leave_92 rfl (by decide) rfl ?_
        refine r_goto (pc := 95) X 4 dX2_leave_95 (by decide) ?_
        have hm : mornP T S i = false := by unfold mornP; simp [hu0]
        have e4 : mkb (i + 1) (mornP T S) = mkb i (mornP T S) := by rw [mkb_succ, hm]; simp
        have e3 : gnS T S (i + 1) = gnS T S i := by show (if mornP T S i = true then _ else gnS T S i) = _; rw [hm]; rfl
        have := ih (i + 1) f (some (.int (uI (S (12 + i))))) μ1 (by omega) (fun j hj => by
          rw [hf j hj]
          by_cases h5 : j = i
          · subst h5
            rw [if_neg (by omega), if_pos (by omega)]
            show uI (S (12 + j)) = uI 0
            rw [hu0]
          · by_cases h6 : j < i
            · rw [if_pos h6, if_pos (by omega)]
            · rw [if_neg h6, if_neg (by omega)]) (by rw [inL_n hu0, eaL_n (Or.inl hu0), e3]; exact q0) q1 q2
        rw [e4] at this
        exact this
  exact key 6 0 (scU S) none μ (by omega) (fun j hj => by rw [if_neg (by omega)]) (by rw [inL_0, eaL_0]; exact g0) g1 Fr.rf
theorem t0_clear {held next : Nat} {V U : Nat → Nat → Int32} (h : PastAt Γ μ a held next V U) : CT Γ l 0 sz 0 0 mX0_clear [.ref a] μ (rv (fun μ' => PastAt Γ μ' a 0 next V U ∧ Fr a 18 μ μ')) := by
  have h0 := h.1
  refine CT.go RX0 rfl "clear" rfl [some (.ref a)] rfl (by decide) (Nat.le_of_ble_eq_true rfl) ?_
  intro p e R s m args below meth c X hsz
  refine r_aload_n (pc := 0) X dX0_clear_0 rfl ?_
  refine r_iconst (pc := 1) (v := nI 0) X dX0_clear_1 (by decide) ?_
  first | refine r_putS (pc := 2) X f_X0_18 dX0_clear_2 (by first | rfl | assumption | decide | simp [narrow]) (by first | rfl | assumption) (Nat.le_of_ble_eq_true rfl) ?_ | refine r_put (pc := 2) X f_X0_18 dX0_clear_2 (by repeat (first | exact mu_self | assumption | refine (mu_ne (by omega)).trans ?_)) (by first | rfl | assumption | decide | simp [narrow]) (by first | rfl | assumption) (Nat.le_of_ble_eq_true rfl) ?_
  exact r_vret (pc := 5) X dX0_clear_5 (⟨⟨mu_self, (mu_ne (by omega)).trans h.2.1, fun i hi => (h.2.2 i hi).kept (fun q h1 h2 => mu_ne (by omega))⟩, fun q hq => mu_ne (by omega)⟩)
theorem min_nI {x y : Nat} (hx : x < 2 ^ 31) (hy : y < 2 ^ 31) : (if nI y < nI x then nI y else nI x) = nI (min x y) := by
  by_cases h : y < x
  · rw [if_pos ((nI_lt_iff hy hx).mpr h), Nat.min_eq_right (by omega)]
  · rw [if_neg (fun q => h ((nI_lt_iff hy hx).mp q)), Nat.min_eq_left (by omega)]
theorem max_nI {x y : Nat} (hx : x < 2 ^ 31) (hy : y < 2 ^ 31) : (if nI x < nI y then nI y else nI x) = nI (max x y) := by
  by_cases h : x < y
  · rw [if_pos ((nI_lt_iff hx hy).mpr h), Nat.max_eq_right (by omega)]
  · rw [if_neg (fun q => h ((nI_lt_iff hx hy).mp q)), Nat.max_eq_left (by omega)]
def updV2 (V : Nat → Nat → Int32) (k : Nat) (v : Nat → Int32) : Nat → Nat → Int32 := fun i => if i = k then v else V i
theorem t0_push {held next : Nat} {V U : Nat → Nat → Int32} {v u : Nat → Int32} (h : PastAt Γ μ a held next V U) (hb : ScAt Γ μ b v u) (hd : b + 2 ≤ a ∨ a + 18 ≤ b) (hn : next < 8) (hh : held ≤ 8) : CT Γ l 2 sz 0 0 mX0_push [.ref a, .ref b] μ (rv (fun μ' => PastAt Γ μ' a (min 8 (held + 1)) ((next + 1) % 8) (updV2 V next v) (updV2 U next u) ∧ Fr a 18 μ μ')) := by
  obtain ⟨g0, g1, g2⟩ := h
  refine CT.go RX0 rfl "push" rfl [some (.ref a), some (.ref b)] rfl (by decide) (Nat.le_of_ble_eq_true rfl) ?_
  intro p e R s m args below meth c X hsz
  refine r_aload_n (pc := 0) X dX0_push_0 rfl ?_
  apply r_get (pc := 1) X f_X0_11 dX0_push_1
  · repeat (first | exact mu_self | assumption | refine (mu_ne (by omega)).trans ?_)
  · rfl
  refine r_aload_n (pc := 4) X dX0_push_4 rfl ?_
  apply r_get (pc := 5) X f_X0_22 dX0_push_5
  · repeat (first | exact mu_self | assumption | refine (mu_ne (by omega)).trans ?_)
  · rfl
  refine r_sald (pc := 8) X dX0_push_8 g1 hn (by decide) rfl ?_
  refine r_aload_n (pc := 9) X dX0_push_9 rfl ?_
  have hsc := g2 next hn
  have hsc0 := hsc.1
  refine c_v X (rV (pc := 10) (ci := 2) X l_X0_25 (t2_copy (g2 next hn) hb (by omega)) dX0_push_10 (by repeat (first | exact mu_self | assumption | refine (mu_ne (by omega)).trans ?_)) rfl rfl rfl (Nat.le_of_ble_eq_true rfl) (by decide) (Nat.le_of_ble_eq_true rfl) (Nat.le_of_ble_eq_true rfl)) ?_
  rintro μ1 ⟨k1, k2⟩
  have f0 : μ1 a = some (xO 0 [.int (nI held), .int (nI next), .ref (a + 1)]) := (k2 a (by omega)).trans g0
  refine r_aload_n (pc := 13) X dX0_push_13 rfl ?_
  refine r_aload_n (pc := 14) X dX0_push_14 rfl ?_
  apply r_get (pc := 15) X f_X0_22 dX0_push_15
  · repeat (first | exact mu_self | assumption | refine (mu_ne (by omega)).trans ?_)
  · rfl
  refine r_iconst (pc := 18) (v := nI 1) X dX0_push_18 (by decide) ?_
  first | refine r_iaddN (pc := 19) X dX0_push_19 ?_ | refine r_iadd (pc := 19) X dX0_push_19 ?_
  refine r_bipush (pc := 20) (v := nI 8) X dX0_push_20 (by decide) ?_
  first | refine r_iremN (pc := 22) X dX0_push_22 (by omega) (by omega) (by omega) ?_ | refine r_irem (pc := 22) X dX0_push_22 (by decide) ?_
  first | refine r_putS (pc := 23) X f_X0_22 dX0_push_23 (by first | rfl | assumption | decide | simp [narrow]) (by first | rfl | assumption) (Nat.le_of_ble_eq_true rfl) ?_ | refine r_put (pc := 23) X f_X0_22 dX0_push_23 (by repeat (first | exact mu_self | assumption | refine (mu_ne (by omega)).trans ?_)) (by first | rfl | assumption | decide | simp [narrow]) (by first | rfl | assumption) (Nat.le_of_ble_eq_true rfl) ?_
  refine r_aload_n (pc := 26) X dX0_push_26 rfl ?_
  refine r_bipush (pc := 27) (v := nI 8) X dX0_push_27 (by decide) ?_
  refine r_aload_n (pc := 29) X dX0_push_29 rfl ?_
  apply r_get (pc := 30) X f_X0_18 dX0_push_30
  · repeat (first | exact mu_self | assumption | refine (mu_ne (by omega)).trans ?_)
  · rfl
  refine r_iconst (pc := 33) (v := nI 1) X dX0_push_33 (by decide) ?_
  first | refine r_iaddN (pc := 34) X dX0_push_34 ?_ | refine r_iadd (pc := 34) X dX0_push_34 ?_
  refine r_min (pc := 35) X l_X0_29 dX0_push_35 (by decide) (Nat.le_of_ble_eq_true rfl) (by decide) (by decide) ?_
  rw [min_nI (by omega) (by omega)]
  first | refine r_putS (pc := 38) X f_X0_18 dX0_push_38 (by first | rfl | assumption | decide | simp [narrow]) (by first | rfl | assumption) (Nat.le_of_ble_eq_true rfl) ?_ | refine r_put (pc := 38) X f_X0_18 dX0_push_38 (by repeat (first | exact mu_self | assumption | refine (mu_ne (by omega)).trans ?_)) (by first | rfl | assumption | decide | simp [narrow]) (by first | rfl | assumption) (Nat.le_of_ble_eq_true rfl) ?_
  refine r_vret (pc := 41) X dX0_push_41 ⟨⟨mu_self, (mu_ne (by omega)).trans ((k2 _ (by omega)).trans g1), fun i hi => ?_⟩, fun q hq => (mu_ne (by omega)).trans (k2 q (by omega))⟩
  by_cases hin : i = next
  · subst hin
    unfold updV2
    rw [if_pos rfl, if_pos rfl]
    exact k1.kept (fun q h1 h2 => mu_ne (by omega))
  · unfold updV2
    rw [if_neg hin, if_neg hin]
    exact (g2 i hi).kept (fun q h1 h2 => (mu_ne (by omega)).trans (k2 q (by omega)))
theorem t0_pop0 {next : Nat} {V U : Nat → Nat → Int32} (h : PastAt Γ μ a 0 next V U) : CT Γ l 2 sz 0 0 mX0_pop [.ref a, .ref b] μ (ri (fun r μ' => r = nI 0 ∧ μ' = μ)) := by
  obtain ⟨g0, g1, g2⟩ := h
  refine CT.go RX0 rfl "pop" rfl [some (.ref a), some (.ref b)] rfl (by decide) (Nat.le_of_ble_eq_true rfl) ?_
  intro p e R s m args below meth c X hsz
  refine r_aload_n (pc := 0) X dX0_pop_0 rfl ?_
  apply r_get (pc := 1) X f_X0_18 dX0_pop_1
  · repeat (first | exact mu_self | assumption | refine (mu_ne (by omega)).trans ?_)
  · rfl
  refine r_if_neN (pc := 4) X 9 dX0_pop_4 (by decide) (by omega) (fun h => absurd rfl h) (fun _ => ?_)
  refine r_iconst (pc := 7) (v := nI 0) X dX0_pop_7 (by decide) ?_
  exact r_zret (pc := 8) X dX0_pop_8 (by first | rfl | decide | exact zb_nar _) (⟨rfl, rfl⟩)
theorem t0_pop {held next : Nat} {V U : Nat → Nat → Int32} {v u : Nat → Int32} (h : PastAt Γ μ a (held + 1) next V U) (hb : ScAt Γ μ b v u) (hd : b + 2 ≤ a ∨ a + 18 ≤ b) (hn : next < 8) (hh : held < 8) : CT Γ l 2 sz 0 0 mX0_pop [.ref a, .ref b] μ (ri (fun r μ' => r = nI 1 ∧ PastAt Γ μ' a held ((next + 7) % 8) V U ∧ ScAt Γ μ' b (V ((next + 7) % 8)) (U ((next + 7) % 8)) ∧ ∀ q : Nat, (q < a ∨ a + 18 ≤ q) → (q < b ∨ b + 2 ≤ q) → μ' q = μ q)) := by
  obtain ⟨g0, g1, g2⟩ := h
  refine CT.go RX0 rfl "pop" rfl [some (.ref a), some (.ref b)] rfl (by decide) (Nat.le_of_ble_eq_true rfl) ?_
  intro p e R s m args below meth c X hsz
  refine r_aload_n (pc := 0) X dX0_pop_0 rfl ?_
  apply r_get (pc := 1) X f_X0_18 dX0_pop_1
  · repeat (first | exact mu_self | assumption | refine (mu_ne (by omega)).trans ?_)
  · rfl
  refine r_if_neN (pc := 4) X 9 dX0_pop_4 (by decide) (by omega) (fun _ => ?_) (fun h => absurd h (by omega))
  refine r_aload_n (pc := 9) X dX0_pop_9 rfl ?_
  refine r_aload_n (pc := 10) X dX0_pop_10 rfl ?_
  apply r_get (pc := 11) X f_X0_22 dX0_pop_11
  · repeat (first | exact mu_self | assumption | refine (mu_ne (by omega)).trans ?_)
  · rfl
  refine r_bipush (pc := 14) (v := nI 8) X dX0_pop_14 (by decide) ?_
  first | refine r_iaddN (pc := 16) X dX0_pop_16 ?_ | refine r_iadd (pc := 16) X dX0_pop_16 ?_
  refine r_iconst (pc := 17) (v := nI 1) X dX0_pop_17 (by decide) ?_
  first | refine r_isubN (pc := 18) X dX0_pop_18 (by omega) ?_ | refine r_isub (pc := 18) X dX0_pop_18 ?_
  refine r_bipush (pc := 19) (v := nI 8) X dX0_pop_19 (by decide) ?_
  first | refine r_iremN (pc := 21) X dX0_pop_21 (by omega) (by omega) (by omega) ?_ | refine r_irem (pc := 21) X dX0_pop_21 (by decide) ?_
  first | refine r_putS (pc := 22) X f_X0_22 dX0_pop_22 (by first | rfl | assumption | decide | simp [narrow]) (by first | rfl | assumption) (Nat.le_of_ble_eq_true rfl) ?_ | refine r_put (pc := 22) X f_X0_22 dX0_pop_22 (by repeat (first | exact mu_self | assumption | refine (mu_ne (by omega)).trans ?_)) (by first | rfl | assumption | decide | simp [narrow]) (by first | rfl | assumption) (Nat.le_of_ble_eq_true rfl) ?_
  refine r_aload_n (pc := 25) X dX0_pop_25 rfl ?_
  refine r_aload_n (pc := 26) X dX0_pop_26 rfl ?_
  apply r_get (pc := 27) X f_X0_11 dX0_pop_27
  · repeat (first | exact mu_self | assumption | refine (mu_ne (by omega)).trans ?_)
  · rfl
  refine r_aload_n (pc := 30) X dX0_pop_30 rfl ?_
  apply r_get (pc := 31) X f_X0_22 dX0_pop_31
  · repeat (first | exact mu_self | assumption | refine (mu_ne (by omega)).trans ?_)
  · rfl
  have hb0 := hb.1
  have hm : (next + 8 - 1) % 8 < 8 := Nat.mod_lt _ (by decide)
  have em : (next + 8 - 1) % 8 = (next + 7) % 8 := rfl
  refine r_sald (pc := 34) X dX0_pop_34 ((mu_ne (by omega)).trans g1) hm (by decide) rfl ?_
  refine c_v X (rV (pc := 35) (ci := 2) X l_X0_25 (t2_copy (hb.kept (fun q h1 h2 => mu_ne (by omega))) ((g2 ((next + 8 - 1) % 8) hm).kept (fun q h1 h2 => mu_ne (by omega))) (by omega)) dX0_pop_35 (by repeat (first | exact mu_self | assumption | refine (mu_ne (by omega)).trans ?_)) rfl rfl rfl (Nat.le_of_ble_eq_true rfl) (by decide) (Nat.le_of_ble_eq_true rfl) (Nat.le_of_ble_eq_true rfl)) ?_
  rintro μ1 ⟨k1, k2⟩
  have f0 : μ1 a = _ := (k2 a (by omega)).trans mu_self
  refine r_aload_n (pc := 38) X dX0_pop_38 rfl ?_
  refine r_dup (pc := 39) X dX0_pop_39 rfl ?_
  apply r_get (pc := 40) X f_X0_18 dX0_pop_40
  · repeat (first | exact mu_self | assumption | refine (mu_ne (by omega)).trans ?_)
  · rfl
  refine r_iconst (pc := 43) (v := nI 1) X dX0_pop_43 (by decide) ?_
  first | refine r_isubN (pc := 44) X dX0_pop_44 (by omega) ?_ | refine r_isub (pc := 44) X dX0_pop_44 ?_
  first | refine r_putS (pc := 45) X f_X0_18 dX0_pop_45 (by first | rfl | assumption | decide | simp [narrow]) (by first | rfl | assumption) (Nat.le_of_ble_eq_true rfl) ?_ | refine r_put (pc := 45) X f_X0_18 dX0_pop_45 (by repeat (first | exact mu_self | assumption | refine (mu_ne (by omega)).trans ?_)) (by first | rfl | assumption | decide | simp [narrow]) (by first | rfl | assumption) (Nat.le_of_ble_eq_true rfl) ?_
  refine r_iconst (pc := 48) (v := nI 1) X dX0_pop_48 (by decide) ?_
  refine r_zret (pc := 49) X dX0_pop_49 rfl ⟨rfl, ⟨mu_self, (mu_ne (by omega)).trans ((k2 _ (by omega)).trans ((mu_ne (by omega)).trans g1)), fun i hi => (g2 i hi).kept (fun q h1 h2 => (mu_ne (by omega)).trans ((k2 q (by omega)).trans (mu_ne (by omega))))⟩, k1.kept (fun q h1 h2 => mu_ne (by omega)), fun q h1 h2 => (mu_ne (by omega)).trans ((k2 q (by omega)).trans (mu_ne (by omega)))⟩
end S16
