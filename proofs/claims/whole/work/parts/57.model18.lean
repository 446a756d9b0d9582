/-- a number within its bounds (0: none, else it and 1) -/
def nuC (nc lo hi : Nat) : Nat := if nc = 0 ∨ nc - 1 < lo ∨ hi < nc - 1 then 0 else nc
theorem tkK_2 {xs : Nat → Nat} {n b : Nat} (h : tkK xs n b = 2) : b < n ∧ isSm (xs b) = false ∧ isDg (xs b) = true := by
  unfold tkK at h
  split at h
  · omega
  · split at h
    · omega
    · split at h
      · rename_i h1 h2 h3
        exact ⟨by omega, by simpa using h2, h3⟩
      · omega
theorem tkK_not2 {xs : Nat → Nat} {n b : Nat} (h : tkK xs n b ≠ 2) (e : Nat) : nmC xs n b e = 0 := by
  unfold nmC
  rw [if_neg]
  rintro ⟨h1, -, h3⟩
  apply h
  unfold tkK
  have hs : isSm (xs b) = false := by unfold isDg at h3; unfold isSm; simp at *; omega
  rw [if_neg (by omega), if_neg (by simp [hs]), if_pos h3]
theorem tkK_le {xs : Nat → Nat} {n b : Nat} : tkK xs n b ≤ 3 := by unfold tkK; repeat (first | omega | split)
theorem num_2 {xs : Nat → Nat} {n b : Nat} (h : tkK xs n b = 2) : tkV xs n b ≤ 9999 ∧ ((nmC xs n b (tkE xs n b) = 0 ∧ tkV xs n b = 9999) ∨ nmC xs n b (tkE xs n b) = tkV xs n b + 1) := by
  obtain ⟨h1, h2, h3⟩ := tkK_2 h
  have eV : tkV xs n b = if 3 < tkE xs n b - b then 9999 else nv xs b (tkE xs n b - b) := by unfold tkV; rw [if_neg (by omega), if_neg (by simp [h2]), if_pos h3]
  by_cases h4 : 3 < tkE xs n b - b
  · rw [if_pos h4] at eV
    refine ⟨by omega, Or.inl ⟨?_, eV⟩⟩
    unfold nmC
    rw [if_neg (by omega)]
  · rw [if_neg h4] at eV
    have h5 := nv_lt (X := xs) (b := b) (e := tkE xs n b) (fun j q1 q2 => tkE_dig h3 q1 q2) (tkE xs n b - b) (by have := tkE_ge (X := xs) (n := n) (b := b); omega)
    have h6 : 10 ^ (tkE xs n b - b) ≤ 10 ^ 3 := Nat.pow_le_pow_right (by decide) (by omega)
    refine ⟨by omega, Or.inr ?_⟩
    unfold nmC
    rw [if_pos ⟨h1, by omega, h3⟩, eV]
theorem nuC_not2 {xs : Nat → Nat} {n b lo hi : Nat} (h : tkK xs n b ≠ 2) : nuC (nmC xs n b (tkE xs n b)) lo hi = 0 := by
  unfold nuC
  rw [tkK_not2 h, if_pos (Or.inl rfl)]
theorem nuC_2 {xs : Nat → Nat} {n b lo hi : Nat} (h : tkK xs n b = 2) (hh : hi ≤ 255) : nuC (nmC xs n b (tkE xs n b)) lo hi = if lo ≤ tkV xs n b ∧ tkV xs n b ≤ hi then tkV xs n b + 1 else 0 := by
  obtain ⟨h1, h2⟩ := num_2 h
  unfold nuC
  rcases h2 with ⟨h2, h3⟩ | h2
  · rw [if_pos (Or.inl h2), if_neg (by omega)]
  · rw [h2]
    by_cases h4 : lo ≤ tkV xs n b ∧ tkV xs n b ≤ hi
    · rw [if_neg (by omega), if_pos h4]
    · rw [if_pos (by omega), if_neg h4]
theorem nuC_le {nc lo hi : Nat} : nuC nc lo hi ≤ hi + 1 := by
  unfold nuC
  split <;> omega
theorem rcl_0 {xs : Nat → Nat} {n e : Nat} {T : Nat → Nat} (h : fstF (tkIs xs (tkB xs n e) (tkE xs n (tkB xs n e))) 11 0 = 0) : rcl xs n T e = (false, T, tkB xs n e, tkE xs n (tkB xs n e)) := by
  unfold rcl
  simp only [h]
  rw [if_pos (Or.inl trivial)]
theorem rcl_full {xs : Nat → Nat} {n e w : Nat} {T : Nat → Nat} (h : fstF (tkIs xs (tkB xs n e) (tkE xs n (tkB xs n e))) 11 0 = w + 1) (hr : roomT T w = false) : rcl xs n T e = (false, T, tkB xs n e, tkE xs n (tkB xs n e)) := by
  unfold rcl
  simp only [h]
  rw [if_pos (Or.inr (by rw [show w + 1 - 1 = w by omega]; exact hr))]
theorem rcl_cave {xs : Nat → Nat} {n e : Nat} {T : Nat → Nat} (h : fstF (tkIs xs (tkB xs n e) (tkE xs n (tkB xs n e))) 11 0 = 0 + 1) : rcl xs n T e = (true, rsT T, tkB xs n e, tkE xs n (tkB xs n e)) := by
  unfold rcl
  simp only [h]
  rw [if_neg (by
    rintro (q | q)
    · omega
    · exact absurd q (by unfold roomT; simp)), if_pos (by first | omega | exact trivial)]
  rfl
theorem rcl_bad {xs : Nat → Nat} {n e w : Nat} {T : Nat → Nat} (h : fstF (tkIs xs (tkB xs n e) (tkE xs n (tkB xs n e))) 11 0 = w + 1) (hw : w ≠ 0) (hr : roomT T w = true) (hn : nuC (nmC xs n (tkB xs n (tkE xs n (tkB xs n e))) (tkE xs n (tkB xs n (tkE xs n (tkB xs n e))))) (lstA w) (mstA w) = 0) : rcl xs n T e = (false, T, tkB xs n (tkE xs n (tkB xs n e)), tkE xs n (tkB xs n (tkE xs n (tkB xs n e)))) := by
  unfold rcl
  simp only [h]
  rw [show w + 1 - 1 = w by omega, if_neg (by
    rintro (q | q)
    · omega
    · rw [hr] at q; exact absurd q (by decide)), if_neg (by omega), if_pos]
  unfold nuC at hn
  split at hn
  · assumption
  · rename_i q; exact absurd (Or.inl hn) q
theorem rcl_good {xs : Nat → Nat} {n e w v : Nat} {T : Nat → Nat} (h : fstF (tkIs xs (tkB xs n e) (tkE xs n (tkB xs n e))) 11 0 = w + 1) (hw : w ≠ 0) (hr : roomT T w = true) (hn : nuC (nmC xs n (tkB xs n (tkE xs n (tkB xs n e))) (tkE xs n (tkB xs n (tkE xs n (tkB xs n e))))) (lstA w) (mstA w) = v + 1) : rcl xs n T e = (true, tellT T w v, tkB xs n (tkE xs n (tkB xs n e)), tkE xs n (tkB xs n (tkE xs n (tkB xs n e)))) := by
  unfold rcl
  simp only [h]
  unfold nuC at hn
  split at hn
  · omega
  · rename_i q
    rw [show w + 1 - 1 = w by omega, if_neg (by
      rintro (q | q)
      · omega
      · rw [hr] at q; exact absurd q (by decide)), if_neg (by omega), if_neg q, hn]
    rfl
section S57
variable {Γ : KK} {l : Launch} {sz : Nat} {μ : MM} {y n : Nat} {pl tk vl bg cl : Int32} {un sn : Nat} {xs : Nat → Nat} {T : Nat → Nat}
theorem t7_takeFirst {a : Nat} (h : μ a = some (xI Γ 29 (fun i => nI (T i)))) : CT Γ l 0 sz 0 0 mX7_takeFirst [.ref a] μ (rv (fun μ' => μ' = mu μ a (xI Γ 29 (fun i => nI (rsT T i))))) := by
  refine CT.go RX7 rfl "takeFirst" rfl [some (.ref a)] rfl (by decide) (Nat.le_of_ble_eq_true rfl) ?_
  intro p e R s m args below meth c X hsz
  refine r_aload_n (pc := 0) X dX7_takeFirst_0 rfl ?_
  refine r_iconst (pc := 1) (v := nI 0) X dX7_takeFirst_1 (by decide) ?_
  refine r_iconst (pc := 2) (v := nI 0) X dX7_takeFirst_2 (by decide) ?_
  apply r_iast (pc := 3) X dX7_takeFirst_3
  · repeat (first | exact mu_self | assumption | refine (mu_ne (by omega)).trans ?_)
  · omega
  · decide
  rw [nI_up]
  refine r_aload_n (pc := 4) X dX7_takeFirst_4 rfl ?_
  refine r_bipush (pc := 5) (v := nI 7) X dX7_takeFirst_5 (by decide) ?_
  refine r_iconst (pc := 7) (v := nI 0) X dX7_takeFirst_7 (by decide) ?_
  apply r_iast (pc := 8) X dX7_takeFirst_8
  · repeat (first | exact mu_self | assumption | refine (mu_ne (by omega)).trans ?_)
  · omega
  · decide
  rw [mu_mu, nI_up]
  refine r_aload_n (pc := 9) X dX7_takeFirst_9 rfl ?_
  refine r_bipush (pc := 10) (v := nI 20) X dX7_takeFirst_10 (by decide) ?_
  refine r_iconst (pc := 12) (v := nI 0) X dX7_takeFirst_12 (by decide) ?_
  apply r_iast (pc := 13) X dX7_takeFirst_13
  · repeat (first | exact mu_self | assumption | refine (mu_ne (by omega)).trans ?_)
  · omega
  · decide
  rw [mu_mu, nI_up]
  refine r_aload_n (pc := 14) X dX7_takeFirst_14 rfl ?_
  refine r_bipush (pc := 15) (v := nI 25) X dX7_takeFirst_15 (by decide) ?_
  refine r_bipush (pc := 17) (v := nI 12) X dX7_takeFirst_17 (by decide) ?_
  apply r_iast (pc := 19) X dX7_takeFirst_19
  · repeat (first | exact mu_self | assumption | refine (mu_ne (by omega)).trans ?_)
  · omega
  · decide
  rw [mu_mu, nI_up]
  refine r_aload_n (pc := 20) X dX7_takeFirst_20 rfl ?_
  refine r_bipush (pc := 21) (v := nI 26) X dX7_takeFirst_21 (by decide) ?_
  refine r_iconst (pc := 23) (v := nI 3) X dX7_takeFirst_23 (by decide) ?_
  apply r_iast (pc := 24) X dX7_takeFirst_24
  · repeat (first | exact mu_self | assumption | refine (mu_ne (by omega)).trans ?_)
  · omega
  · decide
  rw [mu_mu, nI_up]
  refine r_aload_n (pc := 25) X dX7_takeFirst_25 rfl ?_
  refine r_bipush (pc := 26) (v := nI 27) X dX7_takeFirst_26 (by decide) ?_
  refine r_iconst (pc := 28) (v := nI 4) X dX7_takeFirst_28 (by decide) ?_
  apply r_iast (pc := 29) X dX7_takeFirst_29
  · repeat (first | exact mu_self | assumption | refine (mu_ne (by omega)).trans ?_)
  · omega
  · decide
  rw [mu_mu, nI_up]
  refine r_aload_n (pc := 30) X dX7_takeFirst_30 rfl ?_
  refine r_bipush (pc := 31) (v := nI 28) X dX7_takeFirst_31 (by decide) ?_
  refine r_iconst (pc := 33) (v := nI 2) X dX7_takeFirst_33 (by decide) ?_
  apply r_iast (pc := 34) X dX7_takeFirst_34
  · repeat (first | exact mu_self | assumption | refine (mu_ne (by omega)).trans ?_)
  · omega
  · decide
  rw [mu_mu, nI_up]
  exact r_vret (pc := 35) X dX7_takeFirst_35 (rfl)
theorem t7_number {p0 lo hi : Nat} (hO : μ y = some (mdO y n (nI p0) tk vl bg cl un sn)) (hX : μ (y + 3) = some (xI Γ 160 (fun i => nI (xs i)))) (hn : n ≤ 160) (hx : ∀ i, xs i < 256) (hp : p0 ≤ n) (hl : lo ≤ 255) (hh : hi ≤ 255) : CT Γ l 2 sz 0 0 mX7_number [.ref y, .int (nI lo), .int (nI hi)] μ (ri (fun r μ' => r = uI (nuC (nmC xs n (tkB xs n p0) (tkE xs n (tkB xs n p0))) lo hi) ∧ μ' = mu μ y (mdO y n (nI (tkE xs n (tkB xs n p0))) (nI (tkK xs n (tkB xs n p0))) (nI (tkV xs n (tkB xs n p0))) (nI (tkB xs n p0)) cl un sn))) := by
  refine CT.go RX7 rfl "number" rfl [some (.ref y), some (.int (nI lo)), some (.int (nI hi))] rfl (by decide) (Nat.le_of_ble_eq_true rfl) ?_
  intro p e R s m args below meth c X hsz
  refine r_aload_n (pc := 0) X dX7_number_0 rfl ?_
  refine c_v X (rV (pc := 1) (ci := 7) X l_X7_89 (t7_nextToken hO hX hn hx hp) dX7_number_1 (by repeat (first | exact mu_self | assumption | refine (mu_ne (by omega)).trans ?_)) rfl rfl rfl (Nat.le_of_ble_eq_true rfl) (by decide) (Nat.le_of_ble_eq_true rfl) (Nat.le_of_ble_eq_true rfl)) ?_
  rintro _ rfl
  have hK := tkK_le (xs := xs) (n := n) (b := tkB xs n p0)
  refine r_aload_n (pc := 4) X dX7_number_4 rfl ?_
  apply r_get (pc := 5) X f_X7_68 dX7_number_5
  · repeat (first | exact mu_self | assumption | refine (mu_ne (by omega)).trans ?_)
  · rfl
  refine r_iconst (pc := 8) (v := nI 2) X dX7_number_8 (by decide) ?_
  first | refine r_icmp_neN (pc := 9) X 34 dX7_number_9 (by decide) (by omega) (by omega) (fun h1 => ?_) (fun h1 => ?_) | refine r_icmp_ne (pc := 9) X 34 dX7_number_9 (by decide) (fun h1 => ?_) (fun h1 => ?_)
  · rw [nuC_not2 h1, uI_0]
    refine r_iconst (pc := 34) (v := -1) X dX7_number_34 (by decide) ?_
    exact r_iret (pc := 35) X dX7_number_35 (⟨rfl, rfl⟩)
  · obtain ⟨h2, -⟩ := num_2 h1
    rw [nuC_2 h1 hh]
    refine r_aload_n (pc := 12) X dX7_number_12 rfl ?_
    apply r_get (pc := 13) X f_X7_65 dX7_number_13
    · repeat (first | exact mu_self | assumption | refine (mu_ne (by omega)).trans ?_)
    · rfl
    refine r_i2l (pc := 16) X dX7_number_16 rfl ?_
    refine r_iload_n (pc := 17) X dX7_number_17 rfl ?_
    refine r_i2l (pc := 18) X dX7_number_18 rfl ?_
    refine r_iload_n (pc := 19) X dX7_number_19 rfl ?_
    refine r_i2l (pc := 20) X dX7_number_20 rfl ?_
    refine c_i X (rS (pc := 21) X l_X7_45 (t7_in (nI (tkV xs n (tkB xs n p0))).toInt64 (nI lo).toInt64 (nI hi).toInt64) dX7_number_21 rfl rfl (Nat.le_of_ble_eq_true rfl) (by decide) (Nat.le_of_ble_eq_true rfl) (Nat.le_of_ble_eq_true rfl)) ?_
    rintro _ μq ⟨rfl, hμq⟩
    rw [hμq]
    clear hμq μq
    rw [i64, i64, i64, nI_toInt (by omega), nI_toInt (by omega), nI_toInt (by omega)]
    first | refine r_if_eqZ (pc := 24) X 34 dX7_number_24 (by decide) (fun h3 => ?_) (fun h3 => ?_) | refine r_if_eqN (pc := 24) X 34 dX7_number_24 (by decide) (by omega) (fun h3 => ?_) (fun h3 => ?_) | refine r_if_eq (pc := 24) X 34 dX7_number_24 (by decide) (fun h3 => ?_) (fun h3 => ?_)
    · rw [if_neg (by simp at h3; omega), uI_0]
      refine r_iconst (pc := 34) (v := -1) X dX7_number_34 (by decide) ?_
      exact r_iret (pc := 35) X dX7_number_35 (⟨rfl, rfl⟩)
    · rw [if_pos (by simp at h3; omega), uI_S]
      refine r_aload_n (pc := 27) X dX7_number_27 rfl ?_
      apply r_get (pc := 28) X f_X7_65 dX7_number_28
      · repeat (first | exact mu_self | assumption | refine (mu_ne (by omega)).trans ?_)
      · rfl
      refine r_goto (pc := 31) X 35 dX7_number_31 (by decide) ?_
      exact r_iret (pc := 35) X dX7_number_35 (⟨rfl, rfl⟩)
theorem t7_readOne {p0 c0 rm at0 lo hi : Nat} (hO : μ y = some (mdO y n (nI p0) tk vl bg cl un sn)) (hX : μ (y + 3) = some (xI Γ 160 (fun i => nI (xs i)))) (hR : μ (y + 4) = some (xI Γ 29 (fun i => nI (T i)))) (hn : n ≤ 160) (hx : ∀ i, xs i < 256) (hp : p0 ≤ n) (hl : lo ≤ 255) (hh : hi ≤ 255) (hc : c0 < at0) (ha : at0 + rm ≤ 29) (hT : T c0 ≤ rm) : CT Γ l 3 sz 0 0 mX7_readOne [.ref y, .int (nI c0), .int (nI rm), .int (nI at0), .int (nI lo), .int (nI hi)] μ (ri (fun r μ' => (T c0 = rm → r = zb false ∧ μ' = μ) ∧ (T c0 ≠ rm → nuC (nmC xs n (tkB xs n p0) (tkE xs n (tkB xs n p0))) lo hi = 0 → r = zb false ∧ μ' = mu μ y (mdO y n (nI (tkE xs n (tkB xs n p0))) (nI (tkK xs n (tkB xs n p0))) (nI (tkV xs n (tkB xs n p0))) (nI (tkB xs n p0)) cl un sn)) ∧ ∀ v, T c0 ≠ rm → nuC (nmC xs n (tkB xs n p0) (tkE xs n (tkB xs n p0))) lo hi = v + 1 → r = zb true ∧ μ' = mu (mu μ y (mdO y n (nI (tkE xs n (tkB xs n p0))) (nI (tkK xs n (tkB xs n p0))) (nI (tkV xs n (tkB xs n p0))) (nI (tkB xs n p0)) cl un sn)) (y + 4) (xI Γ 29 (fun i => nI (upN (upN T (at0 + T c0) v) c0 (T c0 + 1) i))))) := by
  refine CT.go RX7 rfl "readOne" rfl [some (.ref y), some (.int (nI c0)), some (.int (nI rm)), some (.int (nI at0)), some (.int (nI lo)), some (.int (nI hi)), none, none] rfl (by decide) (Nat.le_of_ble_eq_true rfl) ?_
  intro p e R s m args below meth c X hsz
  refine r_aload_n (pc := 0) X dX7_readOne_0 rfl ?_
  apply r_get (pc := 1) X f_X7_19 dX7_readOne_1
  · repeat (first | exact mu_self | assumption | refine (mu_ne (by omega)).trans ?_)
  · rfl
  refine r_iload_n (pc := 4) X dX7_readOne_4 rfl ?_
  apply r_iald (pc := 5) X dX7_readOne_5
  · repeat (first | exact mu_self | assumption | refine (mu_ne (by omega)).trans ?_)
  · omega
  · decide
  refine r_istore (pc := 6) X dX7_readOne_6 (by decide) rfl ?_
  refine r_iload (pc := 8) X dX7_readOne_8 rfl ?_
  refine r_iload_n (pc := 10) X dX7_readOne_10 rfl ?_
  first | refine r_icmp_neN (pc := 11) X 18 dX7_readOne_11 (by decide) (by omega) (by omega) (fun h1 => ?_) (fun h1 => ?_) | refine r_icmp_ne (pc := 11) X 18 dX7_readOne_11 (by decide) (fun h1 => ?_) (fun h1 => ?_)
  · refine r_aload_n (pc := 18) X dX7_readOne_18 rfl ?_
    refine r_iload (pc := 19) X dX7_readOne_19 rfl ?_
    refine r_iload (pc := 21) X dX7_readOne_21 rfl ?_
    refine c_i X (rV (pc := 23) (ci := 7) X l_X7_92 (t7_number hO hX hn hx hp hl hh) dX7_readOne_23 (by repeat (first | exact mu_self | assumption | refine (mu_ne (by omega)).trans ?_)) rfl rfl rfl (Nat.le_of_ble_eq_true rfl) (by decide) (Nat.le_of_ble_eq_true rfl) (Nat.le_of_ble_eq_true rfl)) ?_
    rintro _ μq ⟨rfl, hμq⟩
    rw [hμq]
    clear hμq μq
    have hle := nuC_le (nc := nmC xs n (tkB xs n p0) (tkE xs n (tkB xs n p0))) (lo := lo) (hi := hi)
    refine r_istore (pc := 26) X dX7_readOne_26 (by decide) rfl ?_
    refine r_iload (pc := 28) X dX7_readOne_28 rfl ?_
    rcases Nat.eq_zero_or_pos (nuC (nmC xs n (tkB xs n p0) (tkE xs n (tkB xs n p0))) lo hi) with g | g
    · rw [g, uI_0]
      refine r_if_ge (pc := 30) X 35 dX7_readOne_30 (by decide) (fun h2 => ?_) (fun h2 => ?_)
      · exact absurd h2 (by decide)
      · refine r_iconst (pc := 33) (v := nI 0) X dX7_readOne_33 (by decide) ?_
        exact r_zret (pc := 34) X dX7_readOne_34 (by first | rfl | decide | exact zb_nar _) (⟨fun q => absurd q h1, fun _ _ => ⟨rfl, rfl⟩, fun v _ q => by omega⟩)
    · obtain ⟨v, hv⟩ : ∃ v, nuC (nmC xs n (tkB xs n p0) (tkE xs n (tkB xs n p0))) lo hi = v + 1 := ⟨nuC (nmC xs n (tkB xs n p0) (tkE xs n (tkB xs n p0))) lo hi - 1, by omega⟩
      rw [hv, uI_S]
      first | refine r_if_geN (pc := 30) X 35 dX7_readOne_30 (by decide) (by omega) (fun h2 => ?_) (fun h2 => ?_) | refine r_if_ge (pc := 30) X 35 dX7_readOne_30 (by decide) (fun h2 => ?_) (fun h2 => ?_)
      · refine r_aload_n (pc := 35) X dX7_readOne_35 rfl ?_
        apply r_get (pc := 36) X f_X7_19 dX7_readOne_36
        · repeat (first | exact mu_self | assumption | refine (mu_ne (by omega)).trans ?_)
        · rfl
        refine r_iload_n (pc := 39) X dX7_readOne_39 rfl ?_
        refine r_iload (pc := 40) X dX7_readOne_40 rfl ?_
        first | refine r_iaddN (pc := 42) X dX7_readOne_42 ?_ | refine r_iadd (pc := 42) X dX7_readOne_42 ?_
        refine r_iload (pc := 43) X dX7_readOne_43 rfl ?_
        apply r_iast (pc := 45) X dX7_readOne_45
        · repeat (first | exact mu_self | assumption | refine (mu_ne (by omega)).trans ?_)
        · omega
        · decide
        rw [nI_up]
        refine r_aload_n (pc := 46) X dX7_readOne_46 rfl ?_
        apply r_get (pc := 47) X f_X7_19 dX7_readOne_47
        · repeat (first | exact mu_self | assumption | refine (mu_ne (by omega)).trans ?_)
        · rfl
        refine r_iload_n (pc := 50) X dX7_readOne_50 rfl ?_
        refine r_dup2 (pc := 51) X dX7_readOne_51 rfl rfl ?_
        apply r_iald (pc := 52) X dX7_readOne_52
        · repeat (first | exact mu_self | assumption | refine (mu_ne (by omega)).trans ?_)
        · omega
        · decide
        rw [upN_ne (f := T) (k := at0 + T c0) (by omega)]
        refine r_iconst (pc := 53) (v := nI 1) X dX7_readOne_53 (by decide) ?_
        first | refine r_iaddN (pc := 54) X dX7_readOne_54 ?_ | refine r_iadd (pc := 54) X dX7_readOne_54 ?_
        apply r_iast (pc := 55) X dX7_readOne_55
        · repeat (first | exact mu_self | assumption | refine (mu_ne (by omega)).trans ?_)
        · omega
        · decide
        rw [mu_mu, nI_up]
        refine r_iconst (pc := 56) (v := nI 1) X dX7_readOne_56 (by decide) ?_
        exact r_zret (pc := 57) X dX7_readOne_57 (by first | rfl | decide | exact zb_nar _) (⟨fun q => absurd q h1, fun _ q => by omega, fun v' _ q => by rw [show v' = v by omega]; exact ⟨rfl, rfl⟩⟩)
      · exact absurd (Nat.zero_le _) h2
  · refine r_iconst (pc := 14) (v := -1) X dX7_readOne_14 (by decide) ?_
    refine r_goto (pc := 15) X 26 dX7_readOne_15 (by decide) ?_
    refine r_istore (pc := 26) X dX7_readOne_26 (by decide) rfl ?_
    refine r_iload (pc := 28) X dX7_readOne_28 rfl ?_
    refine r_if_ge (pc := 30) X 35 dX7_readOne_30 (by decide) (fun h2 => ?_) (fun h2 => ?_)
    · exact absurd h2 (by decide)
    · refine r_iconst (pc := 33) (v := nI 0) X dX7_readOne_33 (by decide) ?_
      exact r_zret (pc := 34) X dX7_readOne_34 (by first | rfl | decide | exact zb_nar _) (⟨fun _ => ⟨rfl, rfl⟩, fun q => absurd h1 q, fun v q => absurd h1 q⟩)
end S57
