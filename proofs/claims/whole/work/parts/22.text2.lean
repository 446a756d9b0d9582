def lstA (w : Nat) : Nat := [0, 1, 1, 1, 1, 1, 0, 0, 1, 1, 0].getD w 0
def mstA (w : Nat) : Nat := [0, 20, 20, 20, 20, 20, 255, 50, 9, 9, 3].getD w 0
/-- a clause read from e on: whether it stands, what is told then, where the last token begins and ends -/
def rcl (xs : Nat → Nat) (n : Nat) (T : Nat → Nat) (e : Nat) : Bool × (Nat → Nat) × Nat × Nat :=
  let b1 := tkB xs n e
  let e1 := tkE xs n b1
  let w := fstF (tkIs xs b1 e1) 11 0
  if w = 0 ∨ roomT T (w - 1) = false then (false, T, b1, e1)
  else if w = 1 then (true, tellT T 0 0, b1, e1)
  else
    let b2 := tkB xs n e1
    let e2 := tkE xs n b2
    let nc := nmC xs n b2 e2
    if nc = 0 ∨ nc - 1 < lstA (w - 1) ∨ mstA (w - 1) < nc - 1 then (false, T, b2, e2) else (true, tellT T (w - 1) (nc - 1), b2, e2)
/-- clauses read: the place of the fault (0: none, else it and 1), what is told then, how many clauses -/
def rdT (xs : Nat → Nat) (n : Nat) : Nat → Nat → (Nat → Nat) → Nat → Nat → Nat × (Nat → Nat) × Nat
  | 0, _, T, _, b => (b + 1, T, 0)
  | f + 1, k, T, e, _ =>
    let q := rcl xs n T e
    if q.1 = false then (q.2.2.1 + 1, q.2.1, 0)
    else
      let b2 := tkB xs n q.2.2.2
      let e2 := tkE xs n b2
      if n ≤ b2 then (0, q.2.1, k + 1) else if xs b2 ≠ 59 then (b2 + 1, q.2.1, 0) else rdT xs n f (k + 1) q.2.1 e2 b2
theorem IT_rs {T : Nat → Nat} (h : IT T) : IT (rsT T) := by
  obtain ⟨h1, h2, h3, h4, h5, h6, h7, h8, h9, h10, h11⟩ := h
  refine ⟨by show 0 ≤ 6; decide, by show 0 ≤ 6; decide, by show 0 ≤ 4; decide, fun i hi => ?_, fun i hi => ?_, fun i hi => ?_, fun i hi => ?_, by show 12 ≤ 50; decide, by show 3 ≤ 9; decide, by show 4 ≤ 9; decide, by show 2 ≤ 3; decide⟩
  · rw [rsT_ne T (by omega)]; exact h4 i hi
  · rw [rsT_ne T (by omega)]; exact h5 i hi
  · rw [rsT_ne T (by omega)]; exact h6 i hi
  · rw [rsT_ne T (by omega)]; exact h7 i hi
theorem upN_le {f : Nat → Nat} {k v i b : Nat} (h1 : f i ≤ b) (h2 : i = k → v ≤ b) : upN f k v i ≤ b := by
  unfold upN
  by_cases h : i = k
  · rw [if_pos h]; exact h2 h
  · rw [if_neg h]; exact h1
theorem IT_tell {T : Nat → Nat} (h : IT T) {w num : Nat} (hw : w < 11) (hr : roomT T w = true) (hl : w = 0 ∨ num ≤ mstA w) : IT (tellT T w num) := by
  have hI := h
  obtain ⟨h1, h2, h3, h4, h5, h6, h7, h8, h9, h10, h11⟩ := h
  rcases (show w = 0 ∨ w = 1 ∨ (2 ≤ w ∧ w < 6) ∨ w = 6 ∨ 7 ≤ w by omega) with rfl | rfl | hs | rfl | hs
  · exact IT_rs hI
  · have hm : T 0 < 6 := by unfold roomT at hr; simpa using hr
    have hn : num ≤ 20 := by rcases hl with h | h; omega; exact h
    rw [tellT_1]
    refine ⟨upN_le (upN_le h1 (fun _ => by omega)) (fun _ => by omega), ?_, ?_, fun i hi => ?_, fun i hi => ?_, fun i hi => ?_, fun i hi => ?_, ?_, ?_, ?_, ?_⟩
    all_goals first
      | (refine upN_le (upN_le (by first | assumption | (first | exact h4 i hi | exact h5 i hi | exact h6 i hi | exact h7 i hi)) (fun _ => by omega)) (fun _ => by omega))
  · have hm : T 7 < 6 := by
      unfold roomT at hr
      rw [if_neg (by omega), if_neg (by omega), if_pos (by omega)] at hr
      simpa using hr
    obtain ⟨kd, rfl⟩ : ∃ kd, w = 2 + kd := ⟨w - 2, by omega⟩
    have hn : num ≤ 20 := by
      rcases hl with h | h
      · omega
      · have : ∀ kd, kd < 4 → mstA (2 + kd) = 20 := by decide
        rw [this kd (by omega)] at h; exact h
    rw [tellT_s T kd num (by omega)]
    unfold addShT
    refine ⟨?_, ?_, ?_, fun i hi => ?_, fun i hi => ?_, fun i hi => ?_, fun i hi => ?_, ?_, ?_, ?_, ?_⟩
    all_goals first
      | (refine upN_le (upN_le (upN_le (by first | assumption | (first | exact h4 i hi | exact h5 i hi | exact h6 i hi | exact h7 i hi)) (fun _ => by omega)) (fun _ => by omega)) (fun _ => by omega))
  · have hm : T 20 < 4 := by unfold roomT at hr; simpa using hr
    have hn : num ≤ 255 := by rcases hl with h | h; omega; exact h
    rw [tellT_6]
    refine ⟨?_, ?_, ?_, fun i hi => ?_, fun i hi => ?_, fun i hi => ?_, fun i hi => ?_, ?_, ?_, ?_, ?_⟩
    all_goals first
      | (refine upN_le (upN_le (by first | assumption | (first | exact h4 i hi | exact h5 i hi | exact h6 i hi | exact h7 i hi)) (fun _ => by omega)) (fun _ => by omega))
  · obtain ⟨k, rfl⟩ : ∃ k, w = 7 + k := ⟨w - 7, by omega⟩
    rw [tellT_7]
    have hn : num ≤ mstA (7 + k) := by rcases hl with h | h; omega; exact h
    rcases (show k = 0 ∨ k = 1 ∨ k = 2 ∨ k = 3 by omega) with rfl | rfl | rfl | rfl
    · have hn : num ≤ 50 := hn
      refine ⟨?_, ?_, ?_, fun i hi => ?_, fun i hi => ?_, fun i hi => ?_, fun i hi => ?_, ?_, ?_, ?_, ?_⟩
      all_goals first
        | (refine upN_le (by first | assumption | (first | exact h4 i hi | exact h5 i hi | exact h6 i hi | exact h7 i hi)) (fun _ => by omega))
    · have hn : num ≤ 9 := hn
      refine ⟨?_, ?_, ?_, fun i hi => ?_, fun i hi => ?_, fun i hi => ?_, fun i hi => ?_, ?_, ?_, ?_, ?_⟩
      all_goals first
        | (refine upN_le (by first | assumption | (first | exact h4 i hi | exact h5 i hi | exact h6 i hi | exact h7 i hi)) (fun _ => by omega))
    · have hn : num ≤ 9 := hn
      refine ⟨?_, ?_, ?_, fun i hi => ?_, fun i hi => ?_, fun i hi => ?_, fun i hi => ?_, ?_, ?_, ?_, ?_⟩
      all_goals first
        | (refine upN_le (by first | assumption | (first | exact h4 i hi | exact h5 i hi | exact h6 i hi | exact h7 i hi)) (fun _ => by omega))
    · have hn : num ≤ 3 := hn
      refine ⟨?_, ?_, ?_, fun i hi => ?_, fun i hi => ?_, fun i hi => ?_, fun i hi => ?_, ?_, ?_, ?_, ?_⟩
      all_goals first
        | (refine upN_le (by first | assumption | (first | exact h4 i hi | exact h5 i hi | exact h6 i hi | exact h7 i hi)) (fun _ => by omega))
section S22
variable {Γ : KK} {l : Launch} {sz : Nat} {μ : MM} {a n : Nat} {xs : Nat → Nat} {cl : Int32}
theorem t4_spelling {w : Nat} (hw : w < 11) : CT Γ l 0 sz 0 0 mX4_spelling [.int (nI w)] μ (rr (fun r μ' => r = kQ Γ w ∧ μ' = μ)) := by
  refine CT.go RX4 rfl "spelling" rfl [some (.int (nI w))] rfl (by decide) (Nat.le_of_ble_eq_true rfl) ?_
  intro p e R s m args below meth c X hsz
  refine r_iload_n (pc := 0) X dX4_spelling_0 rfl ?_
  rcases (show w = 0 ∨ w = 1 ∨ w = 2 ∨ w = 3 ∨ w = 4 ∨ w = 5 ∨ w = 6 ∨ w = 7 ∨ w = 8 ∨ w = 9 ∨ w = 10 by omega) with rfl | rfl | rfl | rfl | rfl | rfl | rfl | rfl | rfl | rfl | rfl
  · refine r_tableIn (pc := 1) X 56 dX4_spelling_1 (by decide) (by decide) rfl (by decide) ?_
    refine r_ldcS (pc := 56) (i := 0) X (by decide) rfl rfl dX4_spelling_56 ?_
    exact r_aret (pc := 58) X dX4_spelling_58 (⟨rfl, rfl⟩)
  · refine r_tableIn (pc := 1) X 59 dX4_spelling_1 (by decide) (by decide) rfl (by decide) ?_
    refine r_ldcS (pc := 59) (i := 1) X (by decide) rfl rfl dX4_spelling_59 ?_
    exact r_aret (pc := 61) X dX4_spelling_61 (⟨rfl, rfl⟩)
  · refine r_tableIn (pc := 1) X 62 dX4_spelling_1 (by decide) (by decide) rfl (by decide) ?_
    refine r_ldcS (pc := 62) (i := 2) X (by decide) rfl rfl dX4_spelling_62 ?_
    exact r_aret (pc := 64) X dX4_spelling_64 (⟨rfl, rfl⟩)
  · refine r_tableIn (pc := 1) X 65 dX4_spelling_1 (by decide) (by decide) rfl (by decide) ?_
    refine r_ldcS (pc := 65) (i := 3) X (by decide) rfl rfl dX4_spelling_65 ?_
    exact r_aret (pc := 67) X dX4_spelling_67 (⟨rfl, rfl⟩)
  · refine r_tableIn (pc := 1) X 68 dX4_spelling_1 (by decide) (by decide) rfl (by decide) ?_
    refine r_ldcS (pc := 68) (i := 4) X (by decide) rfl rfl dX4_spelling_68 ?_
    exact r_aret (pc := 70) X dX4_spelling_70 (⟨rfl, rfl⟩)
  · refine r_tableIn (pc := 1) X 71 dX4_spelling_1 (by decide) (by decide) rfl (by decide) ?_
    refine r_ldcS (pc := 71) (i := 5) X (by decide) rfl rfl dX4_spelling_71 ?_
    exact r_aret (pc := 73) X dX4_spelling_73 (⟨rfl, rfl⟩)
  · refine r_tableIn (pc := 1) X 74 dX4_spelling_1 (by decide) (by decide) rfl (by decide) ?_
    refine r_ldcS (pc := 74) (i := 6) X (by decide) rfl rfl dX4_spelling_74 ?_
    exact r_aret (pc := 76) X dX4_spelling_76 (⟨rfl, rfl⟩)
  · refine r_tableIn (pc := 1) X 77 dX4_spelling_1 (by decide) (by decide) rfl (by decide) ?_
    refine r_ldcS (pc := 77) (i := 7) X (by decide) rfl rfl dX4_spelling_77 ?_
    exact r_aret (pc := 79) X dX4_spelling_79 (⟨rfl, rfl⟩)
  · refine r_tableIn (pc := 1) X 80 dX4_spelling_1 (by decide) (by decide) rfl (by decide) ?_
    refine r_ldcS (pc := 80) (i := 8) X (by decide) rfl rfl dX4_spelling_80 ?_
    exact r_aret (pc := 82) X dX4_spelling_82 (⟨rfl, rfl⟩)
  · refine r_tableIn (pc := 1) X 83 dX4_spelling_1 (by decide) (by decide) rfl (by decide) ?_
    refine r_ldcS (pc := 83) (i := 9) X (by decide) rfl rfl dX4_spelling_83 ?_
    exact r_aret (pc := 85) X dX4_spelling_85 (⟨rfl, rfl⟩)
  · refine r_tableOut (pc := 1) X 86 dX4_spelling_1 (by decide) (by decide) ?_
    refine r_ldcS (pc := 86) (i := 10) X (by decide) rfl rfl dX4_spelling_86 ?_
    exact r_aret (pc := 88) X dX4_spelling_88 (⟨rfl, rfl⟩)
theorem spl_lt : ∀ i, i < 11 → ∀ j, j < strL.getD i 0 → spl i j < 256 := by decide +kernel
theorem t4_tokenIs {b' e' k' : Nat} (h : TextAt Γ μ a n xs cl (nI b') (nI e')) (hn : n ≤ 160) (hx : ∀ i, xs i < 256) (hb : b' ≤ e') (he : e' ≤ n) (hk : k' < 11) : CT Γ l 4 sz 0 0 mX4_tokenIs [.ref a, .ref (kQ Γ k')] μ (ri (fun r μ' => r = zb (tkIs xs b' e' k') ∧ μ' = μ)) := by
  obtain ⟨g0, g1⟩ := h
  have hl := strL_le k' hk
  refine CT.go RX4 rfl "tokenIs" rfl [some (.ref a), some (.ref (kQ Γ k')), none] rfl (by decide) (Nat.le_of_ble_eq_true rfl) ?_
  intro p e R s m args below meth c X hsz
  refine r_aload_n (pc := 0) X dX4_tokenIs_0 rfl ?_
  apply r_get (pc := 1) X f_X4_19 dX4_tokenIs_1
  · repeat (first | exact mu_self | assumption | refine (mu_ne (by omega)).trans ?_)
  · rfl
  refine r_aload_n (pc := 4) X dX4_tokenIs_4 rfl ?_
  apply r_get (pc := 5) X f_X4_26 dX4_tokenIs_5
  · repeat (first | exact mu_self | assumption | refine (mu_ne (by omega)).trans ?_)
  · rfl
  first | refine r_isubN (pc := 8) X dX4_tokenIs_8 (by omega) ?_ | refine r_isub (pc := 8) X dX4_tokenIs_8 ?_
  refine r_aload_n (pc := 9) X dX4_tokenIs_9 rfl ?_
  refine c_i X (rVs (pc := 10) X hk l_X4_78 (tJ_length hk) dX4_tokenIs_10 rfl rfl rfl (Nat.le_of_ble_eq_true rfl) (by decide) (Nat.le_of_ble_eq_true rfl) (Nat.le_of_ble_eq_true rfl)) ?_
  rintro _ μq ⟨rfl, hμq⟩
  rw [hμq]
  clear hμq μq
  first | refine r_icmp_eqN (pc := 13) X 18 dX4_tokenIs_13 (by decide) (by omega) (by omega) (fun h1 => ?_) (fun h1 => ?_) | refine r_icmp_eq (pc := 13) X 18 dX4_tokenIs_13 (by decide) (fun h1 => ?_) (fun h1 => ?_)
  · refine r_iconst (pc := 18) (v := nI 0) X dX4_tokenIs_18 (by decide) ?_
    refine r_istore_n (pc := 19) X dX4_tokenIs_19 (by decide) rfl ?_
    have key : ∀ (N i : Nat), i + N = strL.getD k' 0 → alln i (fun j => xs (b' + j) == spl k' j) = true → vV Γ p l e R s m args below meth c (vQ Γ s args below 0 0 (ri (fun r μ' => r = zb (tkIs xs b' e' k') ∧ μ' = μ))) 3 0 0 20 [some (.ref (a)), some (.ref (kQ Γ k')), some (.int (nI (i)))] [] (μ) := by
      intro N
      induction N with
      | zero =>
        intro i hi hal
        have hi2 : i = strL.getD k' 0 := by omega
        refine r_iload_n (pc := 20) X dX4_tokenIs_20 rfl ?_
        refine r_aload_n (pc := 21) X dX4_tokenIs_21 rfl ?_
        refine c_i X (rVs (pc := 22) X hk l_X4_78 (tJ_length hk) dX4_tokenIs_22 rfl rfl rfl (Nat.le_of_ble_eq_true rfl) (by decide) (Nat.le_of_ble_eq_true rfl) (Nat.le_of_ble_eq_true rfl)) ?_
        rintro _ μq ⟨rfl, hμq⟩
        rw [hμq]
        clear hμq μq
        refine r_icmp_geN (pc := 25) X 55 dX4_tokenIs_25 (by decide) (by omega) (by omega) (fun _ => ?_) (fun h => absurd (show strL.getD k' 0 ≤ i by omega) h)
        refine r_iconst (pc := 55) (v := nI 1) X dX4_tokenIs_55 (by decide) ?_
        have e : tkIs xs b' e' k' = true := by unfold tkIs; rw [← hi2, hal]; simp; omega
        exact r_zret (pc := 56) X dX4_tokenIs_56 (by first | rfl | decide | exact zb_nar _) (⟨by rw [e]; rfl, rfl⟩)
      | succ N ih =>
        intro i hi hal
        have hxi := hx (b' + i)
        have hsp := spl_lt k' hk i (by omega)
        refine r_iload_n (pc := 20) X dX4_tokenIs_20 rfl ?_
        refine r_aload_n (pc := 21) X dX4_tokenIs_21 rfl ?_
        refine c_i X (rVs (pc := 22) X hk l_X4_78 (tJ_length hk) dX4_tokenIs_22 rfl rfl rfl (Nat.le_of_ble_eq_true rfl) (by decide) (Nat.le_of_ble_eq_true rfl) (Nat.le_of_ble_eq_true rfl)) ?_
        rintro _ μq ⟨rfl, hμq⟩
        rw [hμq]
        clear hμq μq
        refine r_icmp_geN (pc := 25) X 55 dX4_tokenIs_25 (by decide) (by omega) (by omega) (fun h => absurd h (by omega)) (fun _ => ?_)
        refine r_aload_n (pc := 28) X dX4_tokenIs_28 rfl ?_
        apply r_get (pc := 29) X f_X4_9 dX4_tokenIs_29
        · repeat (first | exact mu_self | assumption | refine (mu_ne (by omega)).trans ?_)
        · rfl
        refine r_aload_n (pc := 32) X dX4_tokenIs_32 rfl ?_
        apply r_get (pc := 33) X f_X4_26 dX4_tokenIs_33
        · repeat (first | exact mu_self | assumption | refine (mu_ne (by omega)).trans ?_)
        · rfl
        refine r_iload_n (pc := 36) X dX4_tokenIs_36 rfl ?_
        first | refine r_iaddN (pc := 37) X dX4_tokenIs_37 ?_ | refine r_iadd (pc := 37) X dX4_tokenIs_37 ?_
        apply r_cald (pc := 38) X dX4_tokenIs_38
        · repeat (first | exact mu_self | assumption | refine (mu_ne (by omega)).trans ?_)
        · omega
        · decide
        refine r_aload_n (pc := 39) X dX4_tokenIs_39 rfl ?_
        refine r_iload_n (pc := 40) X dX4_tokenIs_40 rfl ?_
        refine c_i X (rVs (pc := 41) X hk l_X4_82 (tJ_charAt hk (j := i) (by omega)) dX4_tokenIs_41 rfl rfl rfl (Nat.le_of_ble_eq_true rfl) (by decide) (Nat.le_of_ble_eq_true rfl) (Nat.le_of_ble_eq_true rfl)) ?_
        rintro _ μq ⟨rfl, hμq⟩
        rw [hμq]
        clear hμq μq
        first | refine r_icmp_eqN (pc := 44) X 49 dX4_tokenIs_44 (by decide) (by omega) (by omega) (fun h2 => ?_) (fun h2 => ?_) | refine r_icmp_eq (pc := 44) X 49 dX4_tokenIs_44 (by decide) (fun h2 => ?_) (fun h2 => ?_)
        · refine r_iincN (pc := 49) (b := 1) X dX4_tokenIs_49 rfl (by decide) rfl ?_
          refine r_goto (pc := 52) X 20 dX4_tokenIs_52 (by decide) ?_
          exact ih (i + 1) (by omega) (by show (alln i _ && _) = true; rw [hal]; simp [h2])
        · refine r_iconst (pc := 47) (v := nI 0) X dX4_tokenIs_47 (by decide) ?_
          have e : tkIs xs b' e' k' = false := by unfold tkIs; rw [alln_no (show i < strL.getD k' 0 by omega) (by simp [h2])]; simp
          exact r_zret (pc := 48) X dX4_tokenIs_48 (by first | rfl | decide | exact zb_nar _) (⟨by rw [e]; rfl, rfl⟩)
    exact key (strL.getD k' 0) 0 (by omega) rfl
  · refine r_iconst (pc := 16) (v := nI 0) X dX4_tokenIs_16 (by decide) ?_
    have e : tkIs xs b' e' k' = false := by unfold tkIs; rw [beq_eq_false_iff_ne.mpr h1]; rfl
    exact r_zret (pc := 17) X dX4_tokenIs_17 (by first | rfl | decide | exact zb_nar _) (⟨by rw [e]; rfl, rfl⟩)
theorem t4_wordHere {b' e' : Nat} (h : TextAt Γ μ a n xs cl (nI b') (nI e')) (hn : n ≤ 160) (hx : ∀ i, xs i < 256) (hb : b' ≤ e') (he : e' ≤ n) : CT Γ l 5 sz 0 0 mX4_wordHere [.ref a] μ (ri (fun r μ' => r = uI (fstF (tkIs xs b' e') 11 0) ∧ μ' = μ)) := by
  have hh := h
  have g0 := h.1
  refine CT.go RX4 rfl "wordHere" rfl [some (.ref a), none] rfl (by decide) (Nat.le_of_ble_eq_true rfl) ?_
  intro p e R s m args below meth c X hsz
  refine r_iconst (pc := 0) (v := nI 0) X dX4_wordHere_0 (by decide) ?_
  refine r_istore_n (pc := 1) X dX4_wordHere_1 (by decide) rfl ?_
  have key : ∀ (N i : Nat), i + N = 11 → vV Γ p l e R s m args below meth c (vQ Γ s args below 0 0 (ri (fun r μ' => r = uI (fstF (tkIs xs b' e') N i) ∧ μ' = μ))) 2 0 0 2 [some (.ref a), some (.int (nI i))] [] μ := by
    intro N
    induction N with
    | zero =>
      intro i hi
      refine r_iload_n (pc := 2) X dX4_wordHere_2 rfl ?_
      refine r_bipush (pc := 3) (v := nI 11) X dX4_wordHere_3 (by decide) ?_
      refine r_icmp_geN (pc := 5) X 27 dX4_wordHere_5 (by decide) (by omega) (by omega) (fun _ => ?_) (fun h => absurd (show 11 ≤ i by omega) h)
      refine r_iconst (pc := 27) (v := -1) X dX4_wordHere_27 (by decide) ?_
      exact r_iret (pc := 28) X dX4_wordHere_28 (⟨uI_0.symm, rfl⟩)
    | succ N ih =>
      intro i hi
      refine r_iload_n (pc := 2) X dX4_wordHere_2 rfl ?_
      refine r_bipush (pc := 3) (v := nI 11) X dX4_wordHere_3 (by decide) ?_
      refine r_icmp_geN (pc := 5) X 27 dX4_wordHere_5 (by decide) (by omega) (by omega) (fun h => absurd h (by omega)) (fun _ => ?_)
      refine r_aload_n (pc := 8) X dX4_wordHere_8 rfl ?_
      refine r_iload_n (pc := 9) X dX4_wordHere_9 rfl ?_
      refine c_r X (rS (pc := 10) X l_X4_70 (t4_spelling (w := i) (by omega)) dX4_wordHere_10 rfl rfl (Nat.le_of_ble_eq_true rfl) (by decide) (Nat.le_of_ble_eq_true rfl) (Nat.le_of_ble_eq_true rfl)) ?_
      rintro _ μq ⟨rfl, hμq⟩
      rw [hμq]
      clear hμq μq
      refine c_i X (rV (pc := 13) (ci := 4) X l_X4_74 (t4_tokenIs hh hn hx hb he (k' := i) (by omega)) dX4_wordHere_13 (by repeat (first | exact mu_self | assumption | refine (mu_ne (by omega)).trans ?_)) rfl rfl rfl (Nat.le_of_ble_eq_true rfl) (by decide) (Nat.le_of_ble_eq_true rfl) (Nat.le_of_ble_eq_true rfl)) ?_
      rintro _ μq ⟨rfl, hμq⟩
      rw [hμq]
      clear hμq μq
      first | refine r_if_eqZ (pc := 16) X 21 dX4_wordHere_16 (by decide) (fun h2 => ?_) (fun h2 => ?_) | refine r_if_eqN (pc := 16) X 21 dX4_wordHere_16 (by decide) (by omega) (fun h2 => ?_) (fun h2 => ?_) | refine r_if_eq (pc := 16) X 21 dX4_wordHere_16 (by decide) (fun h2 => ?_) (fun h2 => ?_)
      · have e1 : fstF (tkIs xs b' e') (N + 1) i = fstF (tkIs xs b' e') N (i + 1) := by
          show (if tkIs xs b' e' i = true then i + 1 else _) = _
          rw [h2]; rfl
        rw [e1]
        refine r_iincN (pc := 21) (b := 1) X dX4_wordHere_21 rfl (by decide) rfl ?_
        refine r_goto (pc := 24) X 2 dX4_wordHere_24 (by decide) ?_
        exact ih (i + 1) (by omega)
      · refine r_iload_n (pc := 19) X dX4_wordHere_19 rfl ?_
        have e1 : fstF (tkIs xs b' e') (N + 1) i = i + 1 := by
          show (if tkIs xs b' e' i = true then i + 1 else _) = _
          rw [h2]; rfl
        exact r_iret (pc := 20) X dX4_wordHere_20 (⟨by rw [e1, uI_S], rfl⟩)
  exact key 11 0 (by omega)
theorem t4_numberHere {b' e' : Nat} (h : TextAt Γ μ a n xs cl (nI b') (nI e')) (hn : n ≤ 160) (hx : ∀ i, xs i < 256) (hb : b' ≤ e') (he : e' ≤ n) (hd : isDg (xs b') = true → ∀ j, b' ≤ j → j < e' → isDg (xs j) = true) : CT Γ l 1 sz 0 0 mX4_numberHere [.ref a] μ (ri (fun r μ' => r = uI (nmC xs n b' e') ∧ μ' = μ)) := by
  obtain ⟨g0, g1⟩ := h
  refine CT.go RX4 rfl "numberHere" rfl [some (.ref a), none, none] rfl (by decide) (Nat.le_of_ble_eq_true rfl) ?_
  intro p e R s m args below meth c X hsz
  have no : ¬ (b' < n ∧ e' - b' ≤ 3 ∧ isDg (xs b') = true) → vV Γ p l e R s m args below meth c (vQ Γ s args below 0 0 (ri (fun r μ' => r = uI (nmC xs n b' e') ∧ μ' = μ))) 3 0 0 39 [some (.ref (a)), none, none] [] (μ) := by
    intro hq
    refine r_iconst (pc := 39) (v := -1) X dX4_numberHere_39 (by decide) ?_
    exact r_iret (pc := 40) X dX4_numberHere_40 (⟨by unfold nmC; rw [if_neg hq]; exact uI_0.symm, rfl⟩)
  refine r_aload_n (pc := 0) X dX4_numberHere_0 rfl ?_
  apply r_get (pc := 1) X f_X4_26 dX4_numberHere_1
  · repeat (first | exact mu_self | assumption | refine (mu_ne (by omega)).trans ?_)
  · rfl
  refine r_aload_n (pc := 4) X dX4_numberHere_4 rfl ?_
  apply r_get (pc := 5) X f_X4_15 dX4_numberHere_5
  · repeat (first | exact mu_self | assumption | refine (mu_ne (by omega)).trans ?_)
  · rfl
  first | refine r_icmp_geN (pc := 8) X 39 dX4_numberHere_8 (by decide) (by omega) (by omega) (fun h1 => ?_) (fun h1 => ?_) | refine r_icmp_ge (pc := 8) X 39 dX4_numberHere_8 (by decide) (fun h1 => ?_) (fun h1 => ?_)
  · exact no (by omega)
  · refine r_aload_n (pc := 11) X dX4_numberHere_11 rfl ?_
    apply r_get (pc := 12) X f_X4_19 dX4_numberHere_12
    · repeat (first | exact mu_self | assumption | refine (mu_ne (by omega)).trans ?_)
    · rfl
    refine r_aload_n (pc := 15) X dX4_numberHere_15 rfl ?_
    apply r_get (pc := 16) X f_X4_26 dX4_numberHere_16
    · repeat (first | exact mu_self | assumption | refine (mu_ne (by omega)).trans ?_)
    · rfl
    first | refine r_isubN (pc := 19) X dX4_numberHere_19 (by omega) ?_ | refine r_isub (pc := 19) X dX4_numberHere_19 ?_
    refine r_iconst (pc := 20) (v := nI 3) X dX4_numberHere_20 (by decide) ?_
    first | refine r_icmp_gtN (pc := 21) X 39 dX4_numberHere_21 (by decide) (by omega) (by omega) (fun h2 => ?_) (fun h2 => ?_) | refine r_icmp_gt (pc := 21) X 39 dX4_numberHere_21 (by decide) (fun h2 => ?_) (fun h2 => ?_)
    · exact no (by omega)
    · have hxb := hx b'
      refine r_aload_n (pc := 24) X dX4_numberHere_24 rfl ?_
      apply r_get (pc := 25) X f_X4_9 dX4_numberHere_25
      · repeat (first | exact mu_self | assumption | refine (mu_ne (by omega)).trans ?_)
      · rfl
      refine r_aload_n (pc := 28) X dX4_numberHere_28 rfl ?_
      apply r_get (pc := 29) X f_X4_26 dX4_numberHere_29
      · repeat (first | exact mu_self | assumption | refine (mu_ne (by omega)).trans ?_)
      · rfl
      apply r_cald (pc := 32) X dX4_numberHere_32
      · repeat (first | exact mu_self | assumption | refine (mu_ne (by omega)).trans ?_)
      · omega
      · decide
      refine c_i X (rS (pc := 33) X l_X4_67 (t4_isDigit hxb) dX4_numberHere_33 rfl rfl (Nat.le_of_ble_eq_true rfl) (by decide) (Nat.le_of_ble_eq_true rfl) (Nat.le_of_ble_eq_true rfl)) ?_
      rintro _ μq ⟨rfl, hμq⟩
      rw [hμq]
      clear hμq μq
      first | refine r_if_neZ (pc := 36) X 41 dX4_numberHere_36 (by decide) (fun h3 => ?_) (fun h3 => ?_) | refine r_if_neN (pc := 36) X 41 dX4_numberHere_36 (by decide) (by omega) (fun h3 => ?_) (fun h3 => ?_) | refine r_if_ne (pc := 36) X 41 dX4_numberHere_36 (by decide) (fun h3 => ?_) (fun h3 => ?_)
      · have hdd := hd h3
        refine r_iconst (pc := 41) (v := nI 0) X dX4_numberHere_41 (by decide) ?_
        refine r_istore_n (pc := 42) X dX4_numberHere_42 (by decide) rfl ?_
        refine r_aload_n (pc := 43) X dX4_numberHere_43 rfl ?_
        apply r_get (pc := 44) X f_X4_26 dX4_numberHere_44
        · repeat (first | exact mu_self | assumption | refine (mu_ne (by omega)).trans ?_)
        · rfl
        refine r_istore_n (pc := 47) X dX4_numberHere_47 (by decide) rfl ?_
        have key : ∀ (N i : Nat), i + N = e' - b' → vV Γ p l e R s m args below meth c (vQ Γ s args below 0 0 (ri (fun r μ' => r = uI (nmC xs n b' e') ∧ μ' = μ))) 3 0 0 48 [some (.ref (a)), some (.int (nI (nv xs b' i))), some (.int (nI (b' + i)))] [] (μ) := by
          intro N
          induction N with
          | zero =>
            intro i hi
            have hi2 : i = e' - b' := by omega
            refine r_iload_n (pc := 48) X dX4_numberHere_48 rfl ?_
            refine r_aload_n (pc := 49) X dX4_numberHere_49 rfl ?_
            apply r_get (pc := 50) X f_X4_19 dX4_numberHere_50
            · repeat (first | exact mu_self | assumption | refine (mu_ne (by omega)).trans ?_)
            · rfl
            refine r_icmp_geN (pc := 53) X 77 dX4_numberHere_53 (by decide) (by omega) (by omega) (fun _ => ?_) (fun h => absurd (show e' ≤ b' + i by omega) h)
            refine r_iload_n (pc := 77) X dX4_numberHere_77 rfl ?_
            exact r_iret (pc := 78) X dX4_numberHere_78 (⟨by unfold nmC; rw [if_pos ⟨by omega, by omega, h3⟩, uI_S, hi2], rfl⟩)
          | succ N ih =>
            intro i hi
            have hxi := hx (b' + i)
            have hdi := hdd (b' + i) (by omega) (by omega)
            unfold isDg at hdi
            simp at hdi
            refine r_iload_n (pc := 48) X dX4_numberHere_48 rfl ?_
            refine r_aload_n (pc := 49) X dX4_numberHere_49 rfl ?_
            apply r_get (pc := 50) X f_X4_19 dX4_numberHere_50
            · repeat (first | exact mu_self | assumption | refine (mu_ne (by omega)).trans ?_)
            · rfl
            refine r_icmp_geN (pc := 53) X 77 dX4_numberHere_53 (by decide) (by omega) (by omega) (fun h => absurd h (by omega)) (fun _ => ?_)
            refine r_bipush (pc := 56) (v := nI 10) X dX4_numberHere_56 (by decide) ?_
            refine r_iload_n (pc := 58) X dX4_numberHere_58 rfl ?_
            first | refine r_imulN (pc := 59) X dX4_numberHere_59 ?_ | refine r_imul (pc := 59) X dX4_numberHere_59 ?_
            refine r_aload_n (pc := 60) X dX4_numberHere_60 rfl ?_
            apply r_get (pc := 61) X f_X4_9 dX4_numberHere_61
            · repeat (first | exact mu_self | assumption | refine (mu_ne (by omega)).trans ?_)
            · rfl
            refine r_iload_n (pc := 64) X dX4_numberHere_64 rfl ?_
            apply r_cald (pc := 65) X dX4_numberHere_65
            · repeat (first | exact mu_self | assumption | refine (mu_ne (by omega)).trans ?_)
            · omega
            · decide
            first | refine r_iaddN (pc := 66) X dX4_numberHere_66 ?_ | refine r_iadd (pc := 66) X dX4_numberHere_66 ?_
            refine r_bipush (pc := 67) (v := nI 48) X dX4_numberHere_67 (by decide) ?_
            first | refine r_isubN (pc := 69) X dX4_numberHere_69 (by omega) ?_ | refine r_isub (pc := 69) X dX4_numberHere_69 ?_
            refine r_istore_n (pc := 70) X dX4_numberHere_70 (by decide) rfl ?_
            refine r_iincN (pc := 71) (b := 1) X dX4_numberHere_71 rfl (by decide) rfl ?_
            refine r_goto (pc := 74) X 48 dX4_numberHere_74 (by decide) ?_
            exact ih (i + 1) (by omega)
        exact key (e' - b') 0 (by omega)
      · exact no (by rw [h3]; simp)
end S22
