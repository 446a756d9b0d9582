section S42
variable {Γ : KK} {l : Launch} {sz : Nat} {μ : MM} {y : Nat} {T S : Nat → Nat} {un : Nat} {A : Nat → Nat → Nat} {kf : Nat → Bool} {K : Nat → Nat → Nat} {n : Nat} {xs : Nat → Nat} {sn : Nat} {V : Nat → Nat} {pl tk vl bg cl : Int32}
/-- what is noted: the scene as it is goes behind the others -/
theorem t7_note {ah : Nat → Int32} (hO : μ y = some (mdO y n pl tk vl bg cl un sn)) (hS : μ (y + 2) = some (xI Γ 18 (stI S))) (hA : μ (y + 5) = some (xI Γ 144 ah)) (hU : ∀ i k, i < un → k < 18 → ah (18 * i + k) = stI (A i) k) (hu : un ≤ 8) : CT Γ l 0 sz 0 0 mX7_note [.ref y] μ (rv (fun μ' => ∃ ah', μ' = mu (mu μ (y + 5) (xI Γ 144 ah')) y (mdO y n pl tk vl bg cl (min 8 (un + 1)) sn) ∧ ∀ i k, i < min 8 (un + 1) → k < 18 → ah' (18 * i + k) = stI (pushA un A S i) k)) := by
  refine CT.go RX7 rfl "note" rfl [some (.ref y), none] rfl (by decide) (Nat.le_of_ble_eq_true rfl) ?_
  intro p e R s m args below meth c X hsz
  have fin : ∀ (u : Nat) (A' : Nat → Nat → Nat) (ah1 : Nat → Int32) (μ1 : MM) (q1 : Option Value), u < 8 → min 8 (un + 1) = u + 1 → (∀ i, i < u → pushA un A S i = A' i) → pushA un A S u = S → μ1 y = some (mdO y n pl tk vl bg cl u sn) → μ1 (y + 2) = some (xI Γ 18 (stI S)) → μ1 (y + 5) = some (xI Γ 144 ah1) → (∀ q, q ≠ y → q ≠ y + 5 → μ1 q = μ q) → (∀ i k, i < u → k < 18 → ah1 (18 * i + k) = stI (A' i) k) → vV Γ p l e R s m args below meth c (vQ Γ s args below 0 0 (rv (fun μ' => ∃ ah', μ' = mu (mu μ (y + 5) (xI Γ 144 ah')) y (mdO y n pl tk vl bg cl (min 8 (un + 1)) sn) ∧ ∀ i k, i < min 8 (un + 1) → k < 18 → ah' (18 * i + k) = stI (pushA un A S i) k))) 2 0 0 48 [some (.ref y), q1] [] μ1 := by
    intro u A' ah1 μ1 q1 hu8 hmin hp1 hp2 f0 f2 f5 fF fA
    refine r_iconst (pc := 48) (v := nI 0) X dX7_note_48 (by decide) ?_
    refine r_istore_n (pc := 49) X dX7_note_49 (by decide) rfl ?_
    have key : ∀ (N i : Nat) (ah2 : Nat → Int32) (μ2 : MM), i + N = 18 → μ2 y = some (mdO y n pl tk vl bg cl u sn) → μ2 (y + 2) = some (xI Γ 18 (stI S)) → μ2 (y + 5) = some (xI Γ 144 ah2) → (∀ q, q ≠ y → q ≠ y + 5 → μ2 q = μ q) → (∀ i k, i < u → k < 18 → ah2 (18 * i + k) = stI (A' i) k) → (∀ k, k < i → ah2 (18 * u + k) = stI S k) → vV Γ p l e R s m args below meth c (vQ Γ s args below 0 0 (rv (fun μ' => ∃ ah', μ' = mu (mu μ (y + 5) (xI Γ 144 ah')) y (mdO y n pl tk vl bg cl (min 8 (un + 1)) sn) ∧ ∀ i k, i < min 8 (un + 1) → k < 18 → ah' (18 * i + k) = stI (pushA un A S i) k))) 2 0 0 50 [some (.ref (y)), some (.int (nI (i)))] [] (μ2) := by
      intro N
      induction N with
      | zero =>
        intro i ah2 μ2 hi g0 g2 g5 gF gA gB
        have hi2 : i = 18 := by omega
        subst hi2
        refine r_iload_n (pc := 50) X dX7_note_50 rfl ?_
        refine r_bipush (pc := 51) (v := nI 18) X dX7_note_51 (by decide) ?_
        refine r_icmp_geN (pc := 53) X 82 dX7_note_53 (by decide) (by omega) (by omega) (fun _ => ?_) (fun h => absurd (Nat.le_refl _) h)
        refine r_aload_n (pc := 82) X dX7_note_82 rfl ?_
        refine r_dup (pc := 83) X dX7_note_83 rfl ?_
        apply r_get (pc := 84) X f_X7_117 dX7_note_84
        · repeat (first | exact mu_self | assumption | refine (mu_ne (by omega)).trans ?_)
        · rfl
        refine r_iconst (pc := 87) (v := nI 1) X dX7_note_87 (by decide) ?_
        first | refine r_iaddN (pc := 88) X dX7_note_88 ?_ | refine r_iadd (pc := 88) X dX7_note_88 ?_
        first | refine r_putS (pc := 89) X f_X7_117 dX7_note_89 (by first | rfl | assumption | decide | simp [narrow]) (by first | rfl | assumption) (Nat.le_of_ble_eq_true rfl) ?_ | refine r_put (pc := 89) X f_X7_117 dX7_note_89 (by repeat (first | exact mu_self | assumption | refine (mu_ne (by omega)).trans ?_)) (by first | rfl | assumption | decide | simp [narrow]) (by first | rfl | assumption) (Nat.le_of_ble_eq_true rfl) ?_
        refine r_vret (pc := 92) X dX7_note_92 ⟨ah2, ?_, fun i k h1 h2 => ?_⟩
        · rw [hmin]
          funext q
          by_cases hq : q = y
          · subst hq; rw [mu_self, mu_self]; rfl
          · rw [mu_ne hq, mu_ne hq]
            by_cases hq5 : q = y + 5
            · subst hq5; rw [mu_self, g5]
            · rw [mu_ne hq5]; exact gF q hq hq5
        · by_cases hiu : i = u
          · subst hiu; rw [hp2]; exact gB k h2
          · rw [hp1 i (by omega)]; exact gA i k (by omega) h2
      | succ N ih =>
        intro i ah2 μ2 hi g0 g2 g5 gF gA gB
        refine r_iload_n (pc := 50) X dX7_note_50 rfl ?_
        refine r_bipush (pc := 51) (v := nI 18) X dX7_note_51 (by decide) ?_
        refine r_icmp_geN (pc := 53) X 82 dX7_note_53 (by decide) (by omega) (by omega) (fun h => absurd h (by omega)) (fun _ => ?_)
        refine r_aload_n (pc := 56) X dX7_note_56 rfl ?_
        apply r_get (pc := 57) X f_X7_22 dX7_note_57
        · repeat (first | exact mu_self | assumption | refine (mu_ne (by omega)).trans ?_)
        · rfl
        refine r_bipush (pc := 60) (v := nI 18) X dX7_note_60 (by decide) ?_
        refine r_aload_n (pc := 62) X dX7_note_62 rfl ?_
        apply r_get (pc := 63) X f_X7_117 dX7_note_63
        · repeat (first | exact mu_self | assumption | refine (mu_ne (by omega)).trans ?_)
        · rfl
        first | refine r_imulN (pc := 66) X dX7_note_66 ?_ | refine r_imul (pc := 66) X dX7_note_66 ?_
        refine r_iload_n (pc := 67) X dX7_note_67 rfl ?_
        first | refine r_iaddN (pc := 68) X dX7_note_68 ?_ | refine r_iadd (pc := 68) X dX7_note_68 ?_
        refine r_aload_n (pc := 69) X dX7_note_69 rfl ?_
        apply r_get (pc := 70) X f_X7_13 dX7_note_70
        · repeat (first | exact mu_self | assumption | refine (mu_ne (by omega)).trans ?_)
        · rfl
        refine r_iload_n (pc := 73) X dX7_note_73 rfl ?_
        apply r_iald (pc := 74) X dX7_note_74
        · repeat (first | exact mu_self | assumption | refine (mu_ne (by omega)).trans ?_)
        · omega
        · decide
        apply r_iast (pc := 75) X dX7_note_75
        · repeat (first | exact mu_self | assumption | refine (mu_ne (by omega)).trans ?_)
        · omega
        · decide
        refine r_iincN (pc := 76) (b := 1) X dX7_note_76 rfl (by decide) rfl ?_
        refine r_goto (pc := 79) X 50 dX7_note_79 (by decide) ?_
        refine ih (i + 1) (upd ah2 (18 * u + i) (stI S i)) _ (by omega) (by repeat (first | exact mu_self | assumption | refine (mu_ne (by omega)).trans ?_)) (by repeat (first | exact mu_self | assumption | refine (mu_ne (by omega)).trans ?_)) mu_self (fun q h1 h2 => (mu_ne h2).trans (gF q h1 h2)) (fun j k h1 h2 => ?_) (fun k h1 => ?_)
        · unfold upd
          rw [if_neg (by omega)]
          exact gA j k h1 h2
        · unfold upd
          by_cases hk : k = i
          · rw [if_pos (by omega), hk]
          · rw [if_neg (by omega)]; exact gB k (by omega)
    exact key 18 0 ah1 μ1 (by omega) f0 f2 f5 fF fA (fun k hk => by omega)
  refine r_aload_n (pc := 0) X dX7_note_0 rfl ?_
  apply r_get (pc := 1) X f_X7_117 dX7_note_1
  · repeat (first | exact mu_self | assumption | refine (mu_ne (by omega)).trans ?_)
  · rfl
  refine r_bipush (pc := 4) (v := nI 8) X dX7_note_4 (by decide) ?_
  first | refine r_icmp_neN (pc := 6) X 48 dX7_note_6 (by decide) (by omega) (by omega) (fun h1 => ?_) (fun h1 => ?_) | refine r_icmp_ne (pc := 6) X 48 dX7_note_6 (by decide) (fun h1 => ?_) (fun h1 => ?_)
  · exact fin un A ah μ none (by omega) (by omega) (fun i hi => by unfold pushA; rw [if_neg h1]; exact if_neg (by omega)) (by unfold pushA; rw [if_neg h1]; exact if_pos rfl) hO hS hA (fun _ _ _ => rfl) hU
  · rw [h1] at hO
    refine r_iconst (pc := 9) (v := nI 0) X dX7_note_9 (by decide) ?_
    refine r_istore_n (pc := 10) X dX7_note_10 (by decide) rfl ?_
    have key : ∀ (N i : Nat) (ah2 : Nat → Int32) (μ2 : MM), i + N = 126 → μ2 y = some (mdO y n pl tk vl bg cl 8 sn) → μ2 (y + 2) = some (xI Γ 18 (stI S)) → μ2 (y + 5) = some (xI Γ 144 ah2) → (∀ q, q ≠ y → q ≠ y + 5 → μ2 q = μ q) → (∀ j, j < i → ah2 j = ah (j + 18)) → (∀ j, i ≤ j → ah2 j = ah j) → vV Γ p l e R s m args below meth c (vQ Γ s args below 0 0 (rv (fun μ' => ∃ ah', μ' = mu (mu μ (y + 5) (xI Γ 144 ah')) y (mdO y n pl tk vl bg cl (min 8 (un + 1)) sn) ∧ ∀ i k, i < min 8 (un + 1) → k < 18 → ah' (18 * i + k) = stI (pushA un A S i) k))) 2 0 0 11 [some (.ref (y)), some (.int (nI (i)))] [] (μ2) := by
      intro N
      induction N with
      | zero =>
        intro i ah2 μ2 hi g0 g2 g5 gF gA gB
        have hi2 : i = 126 := by omega
        subst hi2
        refine r_iload_n (pc := 11) X dX7_note_11 rfl ?_
        refine r_bipush (pc := 12) (v := nI 126) X dX7_note_12 (by decide) ?_
        refine r_icmp_geN (pc := 14) X 38 dX7_note_14 (by decide) (by omega) (by omega) (fun _ => ?_) (fun h => absurd (Nat.le_refl _) h)
        refine r_aload_n (pc := 38) X dX7_note_38 rfl ?_
        refine r_dup (pc := 39) X dX7_note_39 rfl ?_
        apply r_get (pc := 40) X f_X7_117 dX7_note_40
        · repeat (first | exact mu_self | assumption | refine (mu_ne (by omega)).trans ?_)
        · rfl
        refine r_iconst (pc := 43) (v := nI 1) X dX7_note_43 (by decide) ?_
        first | refine r_isubN (pc := 44) X dX7_note_44 (by omega) ?_ | refine r_isub (pc := 44) X dX7_note_44 ?_
        first | refine r_putS (pc := 45) X f_X7_117 dX7_note_45 (by first | rfl | assumption | decide | simp [narrow]) (by first | rfl | assumption) (Nat.le_of_ble_eq_true rfl) ?_ | refine r_put (pc := 45) X f_X7_117 dX7_note_45 (by repeat (first | exact mu_self | assumption | refine (mu_ne (by omega)).trans ?_)) (by first | rfl | assumption | decide | simp [narrow]) (by first | rfl | assumption) (Nat.le_of_ble_eq_true rfl) ?_
        refine fin 7 (fun i => A (i + 1)) ah2 _ _ (by omega) (by omega) (fun i hi => by unfold pushA; rw [if_pos h1]; exact if_neg (by omega)) (by unfold pushA; rw [if_pos h1]; exact if_pos rfl) mu_self (by repeat (first | exact mu_self | assumption | refine (mu_ne (by omega)).trans ?_)) (by repeat (first | exact mu_self | assumption | refine (mu_ne (by omega)).trans ?_)) (fun q h1 h2 => (mu_ne h1).trans (gF q h1 h2)) (fun i k h1 h2 => ?_)
        rw [gA _ (by omega), show 18 * i + k + 18 = 18 * (i + 1) + k by omega]
        exact hU (i + 1) k (by omega) h2
      | succ N ih =>
        intro i ah2 μ2 hi g0 g2 g5 gF gA gB
        refine r_iload_n (pc := 11) X dX7_note_11 rfl ?_
        refine r_bipush (pc := 12) (v := nI 126) X dX7_note_12 (by decide) ?_
        refine r_icmp_geN (pc := 14) X 38 dX7_note_14 (by decide) (by omega) (by omega) (fun h => absurd h (by omega)) (fun _ => ?_)
        refine r_aload_n (pc := 17) X dX7_note_17 rfl ?_
        apply r_get (pc := 18) X f_X7_22 dX7_note_18
        · repeat (first | exact mu_self | assumption | refine (mu_ne (by omega)).trans ?_)
        · rfl
        refine r_iload_n (pc := 21) X dX7_note_21 rfl ?_
        refine r_aload_n (pc := 22) X dX7_note_22 rfl ?_
        apply r_get (pc := 23) X f_X7_22 dX7_note_23
        · repeat (first | exact mu_self | assumption | refine (mu_ne (by omega)).trans ?_)
        · rfl
        refine r_iload_n (pc := 26) X dX7_note_26 rfl ?_
        refine r_bipush (pc := 27) (v := nI 18) X dX7_note_27 (by decide) ?_
        first | refine r_iaddN (pc := 29) X dX7_note_29 ?_ | refine r_iadd (pc := 29) X dX7_note_29 ?_
        apply r_iald (pc := 30) X dX7_note_30
        · repeat (first | exact mu_self | assumption | refine (mu_ne (by omega)).trans ?_)
        · omega
        · decide
        apply r_iast (pc := 31) X dX7_note_31
        · repeat (first | exact mu_self | assumption | refine (mu_ne (by omega)).trans ?_)
        · omega
        · decide
        refine r_iincN (pc := 32) (b := 1) X dX7_note_32 rfl (by decide) rfl ?_
        refine r_goto (pc := 35) X 11 dX7_note_35 (by decide) ?_
        refine ih (i + 1) (upd ah2 i (ah2 (i + 18))) _ (by omega) (by repeat (first | exact mu_self | assumption | refine (mu_ne (by omega)).trans ?_)) (by repeat (first | exact mu_self | assumption | refine (mu_ne (by omega)).trans ?_)) mu_self (fun q h1 h2 => (mu_ne h2).trans (gF q h1 h2)) (fun j hj => ?_) (fun j hj => ?_)
        · unfold upd
          by_cases hk : j = i
          · rw [if_pos hk, hk]; exact gB _ (by omega)
          · rw [if_neg hk]; exact gA j (by omega)
        · unfold upd
          rw [if_neg (by omega)]
          exact gB j (by omega)
    exact key 126 0 ah μ (by omega) hO hS hA (fun _ _ _ => rfl) (fun j hj => by omega) (fun j _ => rfl)
theorem WM.sc {μ' : MM} {S' : Nat → Nat} (h : WM Γ μ y T S un A kf K n xs sn V) (hq : ∀ q : Nat, q ≠ y + 2 → μ' q = μ q) (hs : μ' (y + 2) = some (xI Γ 18 (stI S'))) : WM Γ μ' y T S' un A kf K n xs sn V := by
  obtain ⟨pl, tk, vl, bg, cl, rd, ah, kp, mo, a0, a1, a2, a3, a4, a5, a6, a7, a8, a9, a10, a11⟩ := h
  exact ⟨pl, tk, vl, bg, cl, rd, ah, kp, mo, (hq _ (by omega)).trans a0, (hq _ (by omega)).trans a1, hs, (hq _ (by omega)).trans a3, (hq _ (by omega)).trans a4, (hq _ (by omega)).trans a5, a6, (hq _ (by omega)).trans a7, (hq _ (by omega)).trans a8, a9, (hq _ (by omega)).trans a10, (hq _ (by omega)).trans a11⟩
theorem WM.kept {μ' : MM} (h : WM Γ μ y T S un A kf K n xs sn V) (hq : ∀ q : Nat, y ≤ q → q < y + 10 → μ' q = μ q) : WM Γ μ' y T S un A kf K n xs sn V := by
  obtain ⟨pl, tk, vl, bg, cl, rd, ah, kp, mo, a0, a1, a2, a3, a4, a5, a6, a7, a8, a9, a10, a11⟩ := h
  exact ⟨pl, tk, vl, bg, cl, rd, ah, kp, mo, (hq _ (by omega) (by omega)).trans a0, (hq _ (by omega) (by omega)).trans a1, (hq _ (by omega) (by omega)).trans a2, (hq _ (by omega) (by omega)).trans a3, (hq _ (by omega) (by omega)).trans a4, (hq _ (by omega) (by omega)).trans a5, a6, (hq _ (by omega) (by omega)).trans a7, (hq _ (by omega) (by omega)).trans a8, a9, (hq _ (by omega) (by omega)).trans a10, (hq _ (by omega) (by omega)).trans a11⟩
theorem WM.mo {μ' : MM} {mo : Nat → Int32} (h : WM Γ μ y T S un A kf K n xs sn V) (hq : ∀ q : Nat, q ≠ y + 8 → μ' q = μ q) (hs : μ' (y + 8) = some (xI Γ 448 mo)) : WM Γ μ' y T S un A kf K n xs sn V := by
  obtain ⟨pl, tk, vl, bg, cl, rd, ah, kp, mo', a0, a1, a2, a3, a4, a5, a6, a7, a8, a9, a10, a11⟩ := h
  exact ⟨pl, tk, vl, bg, cl, rd, ah, kp, mo, (hq _ (by omega)).trans a0, (hq _ (by omega)).trans a1, (hq _ (by omega)).trans a2, (hq _ (by omega)).trans a3, (hq _ (by omega)).trans a4, (hq _ (by omega)).trans a5, a6, (hq _ (by omega)).trans a7, (hq _ (by omega)).trans a8, a9, hs, (hq _ (by omega)).trans a11⟩
end S42
