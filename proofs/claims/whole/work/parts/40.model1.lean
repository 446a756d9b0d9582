abbrev mdO (y n : Nat) (pl tk vl bg cl : Int32) (un sn : Nat) : va_E := xO 7 [.ref (y + 1), .ref (y + 2), .ref (y + 3), .int (nI n), .int pl, .int tk, .int vl, .int bg, .ref (y + 4), .int cl, .ref (y + 5), .int (nI un), .ref (y + 6), .ref (y + 7), .ref (y + 8), .ref (y + 9), .int (nI sn)]
theorem stI_lo {S : Nat → Nat} {k : Nat} (h : k < 12) : stI S k = nI (S k) := if_pos h
theorem stI_hi {S : Nat → Nat} {k : Nat} (h : 12 ≤ k) : stI S k = uI (S k) := if_neg (by omega)
theorem stI_up {S : Nat → Nat} {k v : Nat} (h : k < 12) : upd (stI S) k (nI v) = stI (upN S k v) := by
  funext j
  unfold upd stI upN
  by_cases hj : j = k
  · rw [if_pos hj, if_pos (by omega), if_pos hj]
  · rw [if_neg hj, if_neg hj]
theorem stI_uph {S : Nat → Nat} {k v : Nat} (h : 12 ≤ k) : upd (stI S) k (uI v) = stI (upN S k v) := by
  funext j
  unfold upd stI upN
  by_cases hj : j = k
  · rw [if_pos hj, if_neg (by omega), if_pos hj]
  · rw [if_neg hj, if_neg hj]
theorem i64 (x : Int32) : x.toInt64.toInt = x.toInt := by simp
section S40
variable {Γ : KK} {l : Launch} {sz : Nat} {μ : MM} {y n : Nat} {pl tk vl bg cl : Int32} {un sn : Nat} {T S : Nat → Nat}
theorem t7_isMan (hO : μ y = some (mdO y n pl tk vl bg cl un sn)) (hT : μ (y + 1) = some (xI Γ 29 (fun i => nI (T i)))) (h6 : T 0 ≤ 6) (v1 : Int32) : CT Γ l 1 sz 0 0 mX7_isMan [.ref y, .int v1] μ (ri (fun r μ' => r = zb (decide (0 ≤ v1.toInt ∧ v1.toInt < T 0)) ∧ μ' = μ)) := by
  refine CT.go RX7 rfl "isMan" rfl [some (.ref y), some (.int v1)] rfl (by decide) (Nat.le_of_ble_eq_true rfl) ?_
  intro p e R s m args below meth c X hsz
  refine r_iload_n (pc := 0) X dX7_isMan_0 rfl ?_
  refine r_i2l (pc := 1) X dX7_isMan_1 rfl ?_
  refine r_lconst (pc := 2) (v := 0) X dX7_isMan_2 (by decide) ?_
  refine r_aload_n (pc := 3) X dX7_isMan_3 rfl ?_
  apply r_get (pc := 4) X f_X7_7 dX7_isMan_4
  · repeat (first | exact mu_self | assumption | refine (mu_ne (by omega)).trans ?_)
  · rfl
  refine r_iconst (pc := 7) (v := nI 0) X dX7_isMan_7 (by decide) ?_
  apply r_iald (pc := 8) X dX7_isMan_8
  · repeat (first | exact mu_self | assumption | refine (mu_ne (by omega)).trans ?_)
  · omega
  · decide
  refine r_iconst (pc := 9) (v := nI 1) X dX7_isMan_9 (by decide) ?_
  refine r_isub (pc := 10) X dX7_isMan_10 ?_
  refine r_i2l (pc := 11) X dX7_isMan_11 rfl ?_
  refine c_i X (rS (pc := 12) X l_X7_45 (t7_in v1.toInt64 0 (nI (T 0) - nI 1).toInt64) dX7_isMan_12 rfl rfl (Nat.le_of_ble_eq_true rfl) (by decide) (Nat.le_of_ble_eq_true rfl) (Nat.le_of_ble_eq_true rfl)) ?_
  rintro _ μq ⟨rfl, hμq⟩
  rw [hμq]
  clear hμq μq
  have e1 : (nI (T 0) - nI 1).toInt = (T 0 : Int) - 1 := uI_toInt (by omega)
  rw [i64, i64, e1, show (0 : Int64).toInt = 0 by decide]
  have e2 : decide (0 ≤ v1.toInt ∧ v1.toInt ≤ (T 0 : Int) - 1) = decide (0 ≤ v1.toInt ∧ v1.toInt < T 0) := by
    congr 1
    exact propext ⟨fun h => by omega, fun h => by omega⟩
  rw [e2]
  exact r_zret (pc := 15) X dX7_isMan_15 (by first | rfl | decide | exact zb_nar _) (⟨rfl, rfl⟩)
theorem t7_isSheep (hO : μ y = some (mdO y n pl tk vl bg cl un sn)) (hT : μ (y + 1) = some (xI Γ 29 (fun i => nI (T i)))) (h6 : T 7 ≤ 6) (v1 : Int32) : CT Γ l 1 sz 0 0 mX7_isSheep [.ref y, .int v1] μ (ri (fun r μ' => r = zb (decide (0 ≤ v1.toInt ∧ v1.toInt < T 7)) ∧ μ' = μ)) := by
  refine CT.go RX7 rfl "isSheep" rfl [some (.ref y), some (.int v1)] rfl (by decide) (Nat.le_of_ble_eq_true rfl) ?_
  intro p e R s m args below meth c X hsz
  refine r_iload_n (pc := 0) X dX7_isSheep_0 rfl ?_
  refine r_i2l (pc := 1) X dX7_isSheep_1 rfl ?_
  refine r_lconst (pc := 2) (v := 0) X dX7_isSheep_2 (by decide) ?_
  refine r_aload_n (pc := 3) X dX7_isSheep_3 rfl ?_
  apply r_get (pc := 4) X f_X7_7 dX7_isSheep_4
  · repeat (first | exact mu_self | assumption | refine (mu_ne (by omega)).trans ?_)
  · rfl
  refine r_bipush (pc := 7) (v := nI 7) X dX7_isSheep_7 (by decide) ?_
  apply r_iald (pc := 9) X dX7_isSheep_9
  · repeat (first | exact mu_self | assumption | refine (mu_ne (by omega)).trans ?_)
  · omega
  · decide
  refine r_iconst (pc := 10) (v := nI 1) X dX7_isSheep_10 (by decide) ?_
  refine r_isub (pc := 11) X dX7_isSheep_11 ?_
  refine r_i2l (pc := 12) X dX7_isSheep_12 rfl ?_
  refine c_i X (rS (pc := 13) X l_X7_45 (t7_in v1.toInt64 0 (nI (T 7) - nI 1).toInt64) dX7_isSheep_13 rfl rfl (Nat.le_of_ble_eq_true rfl) (by decide) (Nat.le_of_ble_eq_true rfl) (Nat.le_of_ble_eq_true rfl)) ?_
  rintro _ μq ⟨rfl, hμq⟩
  rw [hμq]
  clear hμq μq
  have e1 : (nI (T 7) - nI 1).toInt = (T 7 : Int) - 1 := uI_toInt (by omega)
  rw [i64, i64, e1, show (0 : Int64).toInt = 0 by decide]
  have e2 : decide (0 ≤ v1.toInt ∧ v1.toInt ≤ (T 7 : Int) - 1) = decide (0 ≤ v1.toInt ∧ v1.toInt < T 7) := by
    congr 1
    exact propext ⟨fun h => by omega, fun h => by omega⟩
  rw [e2]
  exact r_zret (pc := 16) X dX7_isSheep_16 (by first | rfl | decide | exact zb_nar _) (⟨rfl, rfl⟩)
theorem t7_isWhat (v1 : Int32) : CT Γ l 1 sz 0 0 mX7_isWhat [.int v1] μ (ri (fun r μ' => r = zb (decide (0 ≤ v1.toInt ∧ v1.toInt ≤ 1)) ∧ μ' = μ)) := by
  refine CT.go RX7 rfl "isWhat" rfl [some (.int v1)] rfl (by decide) (Nat.le_of_ble_eq_true rfl) ?_
  intro p e R s m args below meth c X hsz
  refine r_iload_n (pc := 0) X dX7_isWhat_0 rfl ?_
  refine r_i2l (pc := 1) X dX7_isWhat_1 rfl ?_
  refine r_lconst (pc := 2) (v := 0) X dX7_isWhat_2 (by decide) ?_
  refine r_lconst (pc := 3) (v := 1) X dX7_isWhat_3 (by decide) ?_
  refine c_i X (rS (pc := 4) X l_X7_45 (t7_in v1.toInt64 0 1) dX7_isWhat_4 rfl rfl (Nat.le_of_ble_eq_true rfl) (by decide) (Nat.le_of_ble_eq_true rfl) (Nat.le_of_ble_eq_true rfl)) ?_
  rintro _ μq ⟨rfl, hμq⟩
  rw [hμq]
  clear hμq μq
  rw [i64, show (0 : Int64).toInt = 0 by decide, show (1 : Int64).toInt = 1 by decide]
  exact r_zret (pc := 7) X dX7_isWhat_7 (by first | rfl | decide | exact zb_nar _) (⟨rfl, rfl⟩)
theorem t7_isIn {m' : Nat} (hO : μ y = some (mdO y n pl tk vl bg cl un sn)) (hS : μ (y + 2) = some (xI Γ 18 (stI S))) (hm : m' < 6) (hb : S (6 + m') ≤ 2) : CT Γ l 0 sz 0 0 mX7_isIn [.ref y, .int (nI m')] μ (ri (fun r μ' => r = zb (decide (S (6 + m') = 0)) ∧ μ' = μ)) := by
  refine CT.go RX7 rfl "isIn" rfl [some (.ref y), some (.int (nI m'))] rfl (by decide) (Nat.le_of_ble_eq_true rfl) ?_
  intro p e R s m args below meth c X hsz
  refine r_aload_n (pc := 0) X dX7_isIn_0 rfl ?_
  apply r_get (pc := 1) X f_X7_13 dX7_isIn_1
  · repeat (first | exact mu_self | assumption | refine (mu_ne (by omega)).trans ?_)
  · rfl
  refine r_bipush (pc := 4) (v := nI 6) X dX7_isIn_4 (by decide) ?_
  refine r_iload_n (pc := 6) X dX7_isIn_6 rfl ?_
  first | refine r_iaddN (pc := 7) X dX7_isIn_7 ?_ | refine r_iadd (pc := 7) X dX7_isIn_7 ?_
  apply r_iald (pc := 8) X dX7_isIn_8
  · repeat (first | exact mu_self | assumption | refine (mu_ne (by omega)).trans ?_)
  · omega
  · decide
  rw [stI_lo (by omega)]
  first | refine r_if_neZ (pc := 9) X 16 dX7_isIn_9 (by decide) (fun h => ?_) (fun h => ?_) | refine r_if_neN (pc := 9) X 16 dX7_isIn_9 (by decide) (by omega) (fun h => ?_) (fun h => ?_) | refine r_if_ne (pc := 9) X 16 dX7_isIn_9 (by decide) (fun h => ?_) (fun h => ?_)
  · refine r_iconst (pc := 16) (v := nI 0) X dX7_isIn_16 (by decide) ?_
    exact r_zret (pc := 17) X dX7_isIn_17 (by first | rfl | decide | exact zb_nar _) (⟨by rw [decide_eq_false h]; rfl, rfl⟩)
  · refine r_iconst (pc := 12) (v := nI 1) X dX7_isIn_12 (by decide) ?_
    refine r_goto (pc := 13) X 17 dX7_isIn_13 (by decide) ?_
    exact r_zret (pc := 17) X dX7_isIn_17 (by first | rfl | decide | exact zb_nar _) (⟨by rw [decide_eq_true h]; rfl, rfl⟩)
theorem t7_menOf {hh : Nat} (hO : μ y = some (mdO y n pl tk vl bg cl un sn)) (hT : μ (y + 1) = some (xI Γ 29 (fun i => nI (T i)))) (hS : μ (y + 2) = some (xI Γ 18 (stI S))) (h6 : T 0 ≤ 6) (hI : IS T S) (hhh : hh ≤ 2) : CT Γ l 0 sz 0 0 mX7_menOf [.ref y, .int (nI hh)] μ (ri (fun r μ' => r = nI (msk (T 0) S hh) ∧ μ' = μ)) := by
  refine CT.go RX7 rfl "menOf" rfl [some (.ref y), some (.int (nI hh)), none, none] rfl (by decide) (Nat.le_of_ble_eq_true rfl) ?_
  intro p e R s m args below meth c X hsz
  refine r_iconst (pc := 0) (v := nI 0) X dX7_menOf_0 (by decide) ?_
  refine r_istore_n (pc := 1) X dX7_menOf_1 (by decide) rfl ?_
  refine r_iconst (pc := 2) (v := nI 0) X dX7_menOf_2 (by decide) ?_
  refine r_istore_n (pc := 3) X dX7_menOf_3 (by decide) rfl ?_
  have key : ∀ (N i : Nat), i + N = T 0 → vV Γ p l e R s m args below meth c (vQ Γ s args below 0 0 (ri (fun r μ' => r = nI (msk (T 0) S hh) ∧ μ' = μ))) 4 0 0 4 [some (.ref (y)), some (.int (nI (hh))), some (.int (nI (mkb i (fun m => S (6 + m) == hh)))), some (.int (nI (i)))] [] (μ) := by
    intro N
    induction N with
    | zero =>
      intro i hi
      have hi2 : i = T 0 := by omega
      subst hi2
      refine r_iload_n (pc := 4) X dX7_menOf_4 rfl ?_
      refine r_aload_n (pc := 5) X dX7_menOf_5 rfl ?_
      apply r_get (pc := 6) X f_X7_7 dX7_menOf_6
      · repeat (first | exact mu_self | assumption | refine (mu_ne (by omega)).trans ?_)
      · rfl
      refine r_iconst (pc := 9) (v := nI 0) X dX7_menOf_9 (by decide) ?_
      apply r_iald (pc := 10) X dX7_menOf_10
      · repeat (first | exact mu_self | assumption | refine (mu_ne (by omega)).trans ?_)
      · omega
      · decide
      refine r_icmp_geN (pc := 11) X 43 dX7_menOf_11 (by decide) (by omega) (by omega) (fun _ => ?_) (fun h => absurd (Nat.le_refl _) h)
      refine r_iload_n (pc := 43) X dX7_menOf_43 rfl ?_
      exact r_iret (pc := 44) X dX7_menOf_44 (⟨rfl, rfl⟩)
    | succ N ih =>
      intro i hi
      have hb := hI.2.2.2.2.2.1 i (by omega)
      refine r_iload_n (pc := 4) X dX7_menOf_4 rfl ?_
      refine r_aload_n (pc := 5) X dX7_menOf_5 rfl ?_
      apply r_get (pc := 6) X f_X7_7 dX7_menOf_6
      · repeat (first | exact mu_self | assumption | refine (mu_ne (by omega)).trans ?_)
      · rfl
      refine r_iconst (pc := 9) (v := nI 0) X dX7_menOf_9 (by decide) ?_
      apply r_iald (pc := 10) X dX7_menOf_10
      · repeat (first | exact mu_self | assumption | refine (mu_ne (by omega)).trans ?_)
      · omega
      · decide
      refine r_icmp_geN (pc := 11) X 43 dX7_menOf_11 (by decide) (by omega) (by omega) (fun h => absurd h (by omega)) (fun _ => ?_)
      refine r_iload_n (pc := 14) X dX7_menOf_14 rfl ?_
      refine r_aload_n (pc := 15) X dX7_menOf_15 rfl ?_
      apply r_get (pc := 16) X f_X7_13 dX7_menOf_16
      · repeat (first | exact mu_self | assumption | refine (mu_ne (by omega)).trans ?_)
      · rfl
      refine r_bipush (pc := 19) (v := nI 6) X dX7_menOf_19 (by decide) ?_
      refine r_iload_n (pc := 21) X dX7_menOf_21 rfl ?_
      first | refine r_iaddN (pc := 22) X dX7_menOf_22 ?_ | refine r_iadd (pc := 22) X dX7_menOf_22 ?_
      apply r_iald (pc := 23) X dX7_menOf_23
      · repeat (first | exact mu_self | assumption | refine (mu_ne (by omega)).trans ?_)
      · omega
      · decide
      rw [stI_lo (by omega)]
      refine r_iload_n (pc := 24) X dX7_menOf_24 rfl ?_
      first | refine r_icmp_neN (pc := 25) X 34 dX7_menOf_25 (by decide) (by omega) (by omega) (fun h => ?_) (fun h => ?_) | refine r_icmp_ne (pc := 25) X 34 dX7_menOf_25 (by decide) (fun h => ?_) (fun h => ?_)
      · have e1 : mkb (i + 1) (fun m => S (6 + m) == hh) = mkb i (fun m => S (6 + m) == hh) ||| 0 := by rw [mkb_succ]; simp [h]
        have := ih (i + 1) (by omega)
        rw [e1] at this
        refine r_iconst (pc := 34) (v := nI 0) X dX7_menOf_34 (by decide) ?_
        first | refine r_iorN (pc := 35) X dX7_menOf_35 ?_ | refine r_ior (pc := 35) X dX7_menOf_35 ?_
        refine r_istore_n (pc := 36) X dX7_menOf_36 (by decide) rfl ?_
        refine r_iincN (pc := 37) (b := 1) X dX7_menOf_37 rfl (by decide) rfl ?_
        refine r_goto (pc := 40) X 4 dX7_menOf_40 (by decide) ?_
        exact this
      · have e1 : mkb (i + 1) (fun m => S (6 + m) == hh) = mkb i (fun m => S (6 + m) == hh) ||| 1 <<< i := by rw [mkb_succ]; simp [h]
        have := ih (i + 1) (by omega)
        rw [e1] at this
        refine r_iconst (pc := 28) (v := nI 1) X dX7_menOf_28 (by decide) ?_
        refine r_iload_n (pc := 29) X dX7_menOf_29 rfl ?_
        first | refine r_ishlN (pc := 30) X dX7_menOf_30 (by omega) ?_ | refine r_ishl (pc := 30) X dX7_menOf_30 ?_
        refine r_goto (pc := 31) X 35 dX7_menOf_31 (by decide) ?_
        first | refine r_iorN (pc := 35) X dX7_menOf_35 ?_ | refine r_ior (pc := 35) X dX7_menOf_35 ?_
        refine r_istore_n (pc := 36) X dX7_menOf_36 (by decide) rfl ?_
        refine r_iincN (pc := 37) (b := 1) X dX7_menOf_37 rfl (by decide) rfl ?_
        refine r_goto (pc := 40) X 4 dX7_menOf_40 (by decide) ?_
        exact this
  exact key (T 0) 0 (by omega)
theorem wu_men {T S : Nat → Nat} (hI : IS T S) (h6 : T 0 ≤ 6) (s : Nat) : wu S s 6 = wu S s (T 0) := by
  have key : ∀ N i, i + N = 6 → T 0 ≤ i → wu S s 6 = wu S s i := by
    intro N
    induction N with
    | zero => intro i hi _; rw [show i = 6 by omega]
    | succ N ih =>
      intro i hi h0
      rw [ih (i + 1) (by omega) (by omega)]
      show (if S (12 + i) = s + 1 then i + 1 else wu S s i) = _
      rw [if_neg]
      intro q
      have := hI.2.2.2.2.2.2.2.1 i (by omega) (by omega)
      omega
  exact key (6 - T 0) (T 0) (by omega) (Nat.le_refl _)
theorem t7_under {s' : Nat} (hO : μ y = some (mdO y n pl tk vl bg cl un sn)) (hT : μ (y + 1) = some (xI Γ 29 (fun i => nI (T i)))) (hS : μ (y + 2) = some (xI Γ 18 (stI S))) (h6 : T 0 ≤ 6) (h7 : T 7 ≤ 6) (hI : IS T S) (hs : s' < 6) : CT Γ l 0 sz 0 0 mX7_under [.ref y, .int (nI s')] μ (ri (fun r μ' => r = uI (wu S s' 6) ∧ μ' = μ)) := by
  refine CT.go RX7 rfl "under" rfl [some (.ref y), some (.int (nI s')), none, none] rfl (by decide) (Nat.le_of_ble_eq_true rfl) ?_
  intro p e R s m args below meth c X hsz
  refine r_iconst (pc := 0) (v := -1) X dX7_under_0 (by decide) ?_
  refine r_istore_n (pc := 1) X dX7_under_1 (by decide) rfl ?_
  refine r_iconst (pc := 2) (v := nI 0) X dX7_under_2 (by decide) ?_
  refine r_istore_n (pc := 3) X dX7_under_3 (by decide) rfl ?_
  have key : ∀ (N i : Nat), i + N = T 0 → vV Γ p l e R s m args below meth c (vQ Γ s args below 0 0 (ri (fun r μ' => r = uI (wu S s' 6) ∧ μ' = μ))) 4 0 0 4 [some (.ref (y)), some (.int (nI (s'))), some (.int (uI (wu S s' i))), some (.int (nI (i)))] [] (μ) := by
    intro N
    induction N with
    | zero =>
      intro i hi
      have hi2 : i = T 0 := by omega
      subst hi2
      refine r_iload_n (pc := 4) X dX7_under_4 rfl ?_
      refine r_aload_n (pc := 5) X dX7_under_5 rfl ?_
      apply r_get (pc := 6) X f_X7_7 dX7_under_6
      · repeat (first | exact mu_self | assumption | refine (mu_ne (by omega)).trans ?_)
      · rfl
      refine r_iconst (pc := 9) (v := nI 0) X dX7_under_9 (by decide) ?_
      apply r_iald (pc := 10) X dX7_under_10
      · repeat (first | exact mu_self | assumption | refine (mu_ne (by omega)).trans ?_)
      · omega
      · decide
      refine r_icmp_geN (pc := 11) X 39 dX7_under_11 (by decide) (by omega) (by omega) (fun _ => ?_) (fun h => absurd (Nat.le_refl _) h)
      refine r_iload_n (pc := 39) X dX7_under_39 rfl ?_
      exact r_iret (pc := 40) X dX7_under_40 (⟨by rw [wu_men hI h6], rfl⟩)
    | succ N ih =>
      intro i hi
      have hb := hI.2.2.2.2.2.2.1 i (by omega)
      have := ih (i + 1) (by omega)
      have e0 : wu S s' (i + 1) = if S (12 + i) = s' + 1 then i + 1 else wu S s' i := rfl
      refine r_iload_n (pc := 4) X dX7_under_4 rfl ?_
      refine r_aload_n (pc := 5) X dX7_under_5 rfl ?_
      apply r_get (pc := 6) X f_X7_7 dX7_under_6
      · repeat (first | exact mu_self | assumption | refine (mu_ne (by omega)).trans ?_)
      · rfl
      refine r_iconst (pc := 9) (v := nI 0) X dX7_under_9 (by decide) ?_
      apply r_iald (pc := 10) X dX7_under_10
      · repeat (first | exact mu_self | assumption | refine (mu_ne (by omega)).trans ?_)
      · omega
      · decide
      refine r_icmp_geN (pc := 11) X 39 dX7_under_11 (by decide) (by omega) (by omega) (fun h => absurd h (by omega)) (fun _ => ?_)
      refine r_aload_n (pc := 14) X dX7_under_14 rfl ?_
      apply r_get (pc := 15) X f_X7_13 dX7_under_15
      · repeat (first | exact mu_self | assumption | refine (mu_ne (by omega)).trans ?_)
      · rfl
      refine r_bipush (pc := 18) (v := nI 12) X dX7_under_18 (by decide) ?_
      refine r_iload_n (pc := 20) X dX7_under_20 rfl ?_
      first | refine r_iaddN (pc := 21) X dX7_under_21 ?_ | refine r_iadd (pc := 21) X dX7_under_21 ?_
      apply r_iald (pc := 22) X dX7_under_22
      · repeat (first | exact mu_self | assumption | refine (mu_ne (by omega)).trans ?_)
      · omega
      · decide
      rw [stI_hi (by omega)]
      refine r_iload_n (pc := 23) X dX7_under_23 rfl ?_
      refine r_icmp_ne (pc := 24) X 31 dX7_under_24 (by decide) (fun h => ?_) (fun h => ?_)
      · rw [if_neg (fun q => h (by rw [q, uI_S]))] at e0
        rw [e0] at this
        refine r_iload_n (pc := 31) X dX7_under_31 rfl ?_
        refine r_istore_n (pc := 32) X dX7_under_32 (by decide) rfl ?_
        refine r_iincN (pc := 33) (b := 1) X dX7_under_33 rfl (by decide) rfl ?_
        refine r_goto (pc := 36) X 4 dX7_under_36 (by decide) ?_
        exact this
      · have h' : S (12 + i) = s' + 1 := (uI_eq (by omega) (by omega)).mp (by rw [uI_S]; exact h)
        rw [if_pos h'] at e0
        rw [e0, uI_S] at this
        refine r_iload_n (pc := 27) X dX7_under_27 rfl ?_
        refine r_goto (pc := 28) X 32 dX7_under_28 (by decide) ?_
        refine r_istore_n (pc := 32) X dX7_under_32 (by decide) rfl ?_
        refine r_iincN (pc := 33) (b := 1) X dX7_under_33 rfl (by decide) rfl ?_
        refine r_goto (pc := 36) X 4 dX7_under_36 (by decide) ?_
        exact this
  have hq := key (T 0) 0 (by omega)
  rw [show uI (wu S s' 0) = -1 from uI_0] at hq
  exact hq
theorem t7_bearsBy {kd st' : Nat} (hk : kd ≤ 3) (hs : st' < 2 ^ 20) : CT Γ l 0 sz 0 0 mX7_bearsBy [.ref y, .int (nI kd), .int (nI st')] μ (ri (fun r μ' => r = nI (brs kd st') ∧ μ' = μ)) := by
  refine CT.go RX7 rfl "bearsBy" rfl [some (.ref y), some (.int (nI kd)), some (.int (nI st'))] rfl (by decide) (Nat.le_of_ble_eq_true rfl) ?_
  intro p e R s m args below meth c X hsz
  refine r_iload_n (pc := 0) X dX7_bearsBy_0 rfl ?_
  refine r_iconst (pc := 1) (v := nI 3) X dX7_bearsBy_1 (by decide) ?_
  first | refine r_icmp_neN (pc := 2) X 18 dX7_bearsBy_2 (by decide) (by omega) (by omega) (fun h => ?_) (fun h => ?_) | refine r_icmp_ne (pc := 2) X 18 dX7_bearsBy_2 (by decide) (fun h => ?_) (fun h => ?_)
  · refine r_iload_n (pc := 18) X dX7_bearsBy_18 rfl ?_
    refine r_iconst (pc := 19) (v := nI 1) X dX7_bearsBy_19 (by decide) ?_
    first | refine r_icmp_neN (pc := 20) X 31 dX7_bearsBy_20 (by decide) (by omega) (by omega) (fun h2 => ?_) (fun h2 => ?_) | refine r_icmp_ne (pc := 20) X 31 dX7_bearsBy_20 (by decide) (fun h2 => ?_) (fun h2 => ?_)
    · refine r_iload_n (pc := 31) X dX7_bearsBy_31 rfl ?_
      refine r_iconst (pc := 32) (v := nI 2) X dX7_bearsBy_32 (by decide) ?_
      first | refine r_icmp_neN (pc := 33) X 42 dX7_bearsBy_33 (by decide) (by omega) (by omega) (fun h3 => ?_) (fun h3 => ?_) | refine r_icmp_ne (pc := 33) X 42 dX7_bearsBy_33 (by decide) (fun h3 => ?_) (fun h3 => ?_)
      · refine r_iload_n (pc := 42) X dX7_bearsBy_42 rfl ?_
        exact r_iret (pc := 43) X dX7_bearsBy_43 (⟨by unfold brs; rw [if_neg h2, if_neg h3, if_neg h], rfl⟩)
      · refine r_iconst (pc := 36) (v := nI 2) X dX7_bearsBy_36 (by decide) ?_
        refine r_iload_n (pc := 37) X dX7_bearsBy_37 rfl ?_
        first | refine r_imulN (pc := 38) X dX7_bearsBy_38 ?_ | refine r_imul (pc := 38) X dX7_bearsBy_38 ?_
        refine r_goto (pc := 39) X 43 dX7_bearsBy_39 (by decide) ?_
        exact r_iret (pc := 43) X dX7_bearsBy_43 (⟨by unfold brs; rw [if_neg h2, if_pos h3], rfl⟩)
    · refine r_iload_n (pc := 23) X dX7_bearsBy_23 rfl ?_
      refine r_iload_n (pc := 24) X dX7_bearsBy_24 rfl ?_
      refine r_iconst (pc := 25) (v := nI 2) X dX7_bearsBy_25 (by decide) ?_
      first | refine r_idivN (pc := 26) X dX7_bearsBy_26 (by omega) (by omega) (by omega) ?_ | refine r_idiv (pc := 26) X dX7_bearsBy_26 (by decide) ?_
      first | refine r_iaddN (pc := 27) X dX7_bearsBy_27 ?_ | refine r_iadd (pc := 27) X dX7_bearsBy_27 ?_
      refine r_goto (pc := 28) X 43 dX7_bearsBy_28 (by decide) ?_
      exact r_iret (pc := 43) X dX7_bearsBy_43 (⟨by unfold brs; rw [if_pos h2], rfl⟩)
  · refine r_iload_n (pc := 5) X dX7_bearsBy_5 rfl ?_
    refine r_iconst (pc := 6) (v := nI 3) X dX7_bearsBy_6 (by decide) ?_
    first | refine r_icmp_geN (pc := 7) X 14 dX7_bearsBy_7 (by decide) (by omega) (by omega) (fun h2 => ?_) (fun h2 => ?_) | refine r_icmp_ge (pc := 7) X 14 dX7_bearsBy_7 (by decide) (fun h2 => ?_) (fun h2 => ?_)
    · refine r_iload_n (pc := 14) X dX7_bearsBy_14 rfl ?_
      refine r_iconst (pc := 15) (v := nI 3) X dX7_bearsBy_15 (by decide) ?_
      first | refine r_isubN (pc := 16) X dX7_bearsBy_16 (by omega) ?_ | refine r_isub (pc := 16) X dX7_bearsBy_16 ?_
      exact r_iret (pc := 17) X dX7_bearsBy_17 (⟨by unfold brs; rw [if_neg (by omega), if_neg (by omega), if_pos h], rfl⟩)
    · refine r_iconst (pc := 10) (v := nI 0) X dX7_bearsBy_10 (by decide) ?_
      refine r_goto (pc := 11) X 17 dX7_bearsBy_11 (by decide) ?_
      exact r_iret (pc := 17) X dX7_bearsBy_17 (⟨by unfold brs; rw [if_neg (by omega), if_neg (by omega), if_pos h, show st' - 3 = 0 by omega], rfl⟩)
theorem t7_bears {w : Nat} (hO : μ y = some (mdO y n pl tk vl bg cl un sn)) (hT : μ (y + 1) = some (xI Γ 29 (fun i => nI (T i)))) (hI : IT T) (hw : w < T 7) : CT Γ l 1 sz 0 0 mX7_bears [.ref y, .int (nI w)] μ (ri (fun r μ' => r = nI (brT T w) ∧ μ' = μ)) := by
  have h7 := hI.2.1
  refine CT.go RX7 rfl "bears" rfl [some (.ref y), some (.int (nI w))] rfl (by decide) (Nat.le_of_ble_eq_true rfl) ?_
  intro p e R s m args below meth c X hsz
  refine r_aload_n (pc := 0) X dX7_bears_0 rfl ?_
  refine r_aload_n (pc := 1) X dX7_bears_1 rfl ?_
  apply r_get (pc := 2) X f_X7_7 dX7_bears_2
  · repeat (first | exact mu_self | assumption | refine (mu_ne (by omega)).trans ?_)
  · rfl
  refine r_bipush (pc := 5) (v := nI 8) X dX7_bears_5 (by decide) ?_
  refine r_iload_n (pc := 7) X dX7_bears_7 rfl ?_
  first | refine r_iaddN (pc := 8) X dX7_bears_8 ?_ | refine r_iadd (pc := 8) X dX7_bears_8 ?_
  apply r_iald (pc := 9) X dX7_bears_9
  · repeat (first | exact mu_self | assumption | refine (mu_ne (by omega)).trans ?_)
  · omega
  · decide
  refine r_aload_n (pc := 10) X dX7_bears_10 rfl ?_
  apply r_get (pc := 11) X f_X7_7 dX7_bears_11
  · repeat (first | exact mu_self | assumption | refine (mu_ne (by omega)).trans ?_)
  · rfl
  refine r_bipush (pc := 14) (v := nI 14) X dX7_bears_14 (by decide) ?_
  refine r_iload_n (pc := 16) X dX7_bears_16 rfl ?_
  first | refine r_iaddN (pc := 17) X dX7_bears_17 ?_ | refine r_iadd (pc := 17) X dX7_bears_17 ?_
  apply r_iald (pc := 18) X dX7_bears_18
  · repeat (first | exact mu_self | assumption | refine (mu_ne (by omega)).trans ?_)
  · omega
  · decide
  refine c_i X (rV (pc := 19) (ci := 7) X l_X7_120 (t7_bearsBy (hI.2.2.2.2.1 w (by omega)) (Nat.lt_of_le_of_lt (hI.2.2.2.2.2.1 w (by omega)) (by decide))) dX7_bears_19 (by repeat (first | exact mu_self | assumption | refine (mu_ne (by omega)).trans ?_)) rfl rfl rfl (Nat.le_of_ble_eq_true rfl) (by decide) (Nat.le_of_ble_eq_true rfl) (Nat.le_of_ble_eq_true rfl)) ?_
  rintro _ μq ⟨rfl, hμq⟩
  rw [hμq]
  clear hμq μq
  exact r_iret (pc := 22) X dX7_bears_22 (⟨by unfold brT; rw [if_pos hw], rfl⟩)
theorem t7_comeBy {nm : Nat} (hO : μ y = some (mdO y n pl tk vl bg cl un sn)) (hT : μ (y + 1) = some (xI Γ 29 (fun i => nI (T i)))) (hI : IT T) (hn : nm < 8) : CT Γ l 1 sz 0 0 mX7_comeBy [.ref y, .int (nI nm)] μ (ri (fun r μ' => r = nI (comT T nm) ∧ μ' = μ)) := by
  have h20 := hI.2.2.1
  refine CT.go RX7 rfl "comeBy" rfl [some (.ref y), some (.int (nI nm)), none, none] rfl (by decide) (Nat.le_of_ble_eq_true rfl) ?_
  intro p e R s m args below meth c X hsz
  refine r_iconst (pc := 0) (v := nI 0) X dX7_comeBy_0 (by decide) ?_
  refine r_istore_n (pc := 1) X dX7_comeBy_1 (by decide) rfl ?_
  refine r_iconst (pc := 2) (v := nI 0) X dX7_comeBy_2 (by decide) ?_
  refine r_istore_n (pc := 3) X dX7_comeBy_3 (by decide) rfl ?_
  have key : ∀ (N i : Nat), i + N = T 20 → vV Γ p l e R s m args below meth c (vQ Γ s args below 0 0 (ri (fun r μ' => r = nI (comT T nm) ∧ μ' = μ))) 4 0 0 4 [some (.ref (y)), some (.int (nI (nm))), some (.int (nI (mkb i (fun k => !(T (21 + k)).testBit nm)))), some (.int (nI (i)))] [] (μ) := by
    intro N
    induction N with
    | zero =>
      intro i hi
      have hi2 : i = T 20 := by omega
      subst hi2
      refine r_iload_n (pc := 4) X dX7_comeBy_4 rfl ?_
      refine r_aload_n (pc := 5) X dX7_comeBy_5 rfl ?_
      apply r_get (pc := 6) X f_X7_7 dX7_comeBy_6
      · repeat (first | exact mu_self | assumption | refine (mu_ne (by omega)).trans ?_)
      · rfl
      refine r_bipush (pc := 9) (v := nI 20) X dX7_comeBy_9 (by decide) ?_
      apply r_iald (pc := 11) X dX7_comeBy_11
      · repeat (first | exact mu_self | assumption | refine (mu_ne (by omega)).trans ?_)
      · omega
      · decide
      refine r_icmp_geN (pc := 12) X 47 dX7_comeBy_12 (by decide) (by omega) (by omega) (fun _ => ?_) (fun h => absurd (Nat.le_refl _) h)
      refine r_iload_n (pc := 47) X dX7_comeBy_47 rfl ?_
      exact r_iret (pc := 48) X dX7_comeBy_48 (⟨rfl, rfl⟩)
    | succ N ih =>
      intro i hi
      have ht := hI.2.2.2.2.2.2.1 i (by omega)
      refine r_iload_n (pc := 4) X dX7_comeBy_4 rfl ?_
      refine r_aload_n (pc := 5) X dX7_comeBy_5 rfl ?_
      apply r_get (pc := 6) X f_X7_7 dX7_comeBy_6
      · repeat (first | exact mu_self | assumption | refine (mu_ne (by omega)).trans ?_)
      · rfl
      refine r_bipush (pc := 9) (v := nI 20) X dX7_comeBy_9 (by decide) ?_
      apply r_iald (pc := 11) X dX7_comeBy_11
      · repeat (first | exact mu_self | assumption | refine (mu_ne (by omega)).trans ?_)
      · omega
      · decide
      refine r_icmp_geN (pc := 12) X 47 dX7_comeBy_12 (by decide) (by omega) (by omega) (fun h => absurd h (by omega)) (fun _ => ?_)
      refine r_iload_n (pc := 15) X dX7_comeBy_15 rfl ?_
      refine r_aload_n (pc := 16) X dX7_comeBy_16 rfl ?_
      apply r_get (pc := 17) X f_X7_7 dX7_comeBy_17
      · repeat (first | exact mu_self | assumption | refine (mu_ne (by omega)).trans ?_)
      · rfl
      refine r_bipush (pc := 20) (v := nI 21) X dX7_comeBy_20 (by decide) ?_
      refine r_iload_n (pc := 22) X dX7_comeBy_22 rfl ?_
      first | refine r_iaddN (pc := 23) X dX7_comeBy_23 ?_ | refine r_iadd (pc := 23) X dX7_comeBy_23 ?_
      apply r_iald (pc := 24) X dX7_comeBy_24
      · repeat (first | exact mu_self | assumption | refine (mu_ne (by omega)).trans ?_)
      · omega
      · decide
      refine r_iload_n (pc := 25) X dX7_comeBy_25 rfl ?_
      refine c_i X (rS (pc := 26) X l_X7_160 (t7_has (b := T (21 + i)) (k := nm) (by omega) (by omega)) dX7_comeBy_26 rfl rfl (Nat.le_of_ble_eq_true rfl) (by decide) (Nat.le_of_ble_eq_true rfl) (Nat.le_of_ble_eq_true rfl)) ?_
      rintro _ μq ⟨rfl, hμq⟩
      rw [hμq]
      clear hμq μq
      have := ih (i + 1) (by omega)
      first | refine r_if_eqZ (pc := 29) X 36 dX7_comeBy_29 (by decide) (fun h2 => ?_) (fun h2 => ?_) | refine r_if_eqN (pc := 29) X 36 dX7_comeBy_29 (by decide) (by omega) (fun h2 => ?_) (fun h2 => ?_) | refine r_if_eq (pc := 29) X 36 dX7_comeBy_29 (by decide) (fun h2 => ?_) (fun h2 => ?_)
      · have e1 : mkb (i + 1) (fun k => !(T (21 + k)).testBit nm) = mkb i (fun k => !(T (21 + k)).testBit nm) ||| 1 <<< i := by rw [mkb_succ]; simp [h2]
        rw [e1] at this
        refine r_iconst (pc := 36) (v := nI 1) X dX7_comeBy_36 (by decide) ?_
        refine r_iload_n (pc := 37) X dX7_comeBy_37 rfl ?_
        first | refine r_ishlN (pc := 38) X dX7_comeBy_38 (by omega) ?_ | refine r_ishl (pc := 38) X dX7_comeBy_38 ?_
        first | refine r_iorN (pc := 39) X dX7_comeBy_39 ?_ | refine r_ior (pc := 39) X dX7_comeBy_39 ?_
        refine r_istore_n (pc := 40) X dX7_comeBy_40 (by decide) rfl ?_
        refine r_iincN (pc := 41) (b := 1) X dX7_comeBy_41 rfl (by decide) rfl ?_
        refine r_goto (pc := 44) X 4 dX7_comeBy_44 (by decide) ?_
        exact this
      · have e1 : mkb (i + 1) (fun k => !(T (21 + k)).testBit nm) = mkb i (fun k => !(T (21 + k)).testBit nm) ||| 0 := by rw [mkb_succ]; simp [h2]
        rw [e1] at this
        refine r_iconst (pc := 32) (v := nI 0) X dX7_comeBy_32 (by decide) ?_
        refine r_goto (pc := 33) X 39 dX7_comeBy_33 (by decide) ?_
        first | refine r_iorN (pc := 39) X dX7_comeBy_39 ?_ | refine r_ior (pc := 39) X dX7_comeBy_39 ?_
        refine r_istore_n (pc := 40) X dX7_comeBy_40 (by decide) rfl ?_
        refine r_iincN (pc := 41) (b := 1) X dX7_comeBy_41 rfl (by decide) rfl ?_
        refine r_goto (pc := 44) X 4 dX7_comeBy_44 (by decide) ?_
        exact this
  exact key (T 20) 0 (by omega)
theorem t7_eat {m' : Nat} (hO : μ y = some (mdO y n pl tk vl bg cl un sn)) (hS : μ (y + 2) = some (xI Γ 18 (stI S))) (hm : m' < 6) : CT Γ l 0 sz 0 0 mX7_eat [.ref y, .int (nI m')] μ (rv (fun μ' => μ' = mu μ (y + 2) (xI Γ 18 (stI (upN (upN S (6 + m') 2) (12 + m') 0))))) := by
  refine CT.go RX7 rfl "eat" rfl [some (.ref y), some (.int (nI m'))] rfl (by decide) (Nat.le_of_ble_eq_true rfl) ?_
  intro p e R s m args below meth c X hsz
  refine r_aload_n (pc := 0) X dX7_eat_0 rfl ?_
  apply r_get (pc := 1) X f_X7_13 dX7_eat_1
  · repeat (first | exact mu_self | assumption | refine (mu_ne (by omega)).trans ?_)
  · rfl
  refine r_bipush (pc := 4) (v := nI 6) X dX7_eat_4 (by decide) ?_
  refine r_iload_n (pc := 6) X dX7_eat_6 rfl ?_
  first | refine r_iaddN (pc := 7) X dX7_eat_7 ?_ | refine r_iadd (pc := 7) X dX7_eat_7 ?_
  refine r_iconst (pc := 8) (v := nI 2) X dX7_eat_8 (by decide) ?_
  apply r_iast (pc := 9) X dX7_eat_9
  · repeat (first | exact mu_self | assumption | refine (mu_ne (by omega)).trans ?_)
  · omega
  · decide
  refine r_aload_n (pc := 10) X dX7_eat_10 rfl ?_
  apply r_get (pc := 11) X f_X7_13 dX7_eat_11
  · repeat (first | exact mu_self | assumption | refine (mu_ne (by omega)).trans ?_)
  · rfl
  refine r_bipush (pc := 14) (v := nI 12) X dX7_eat_14 (by decide) ?_
  refine r_iload_n (pc := 16) X dX7_eat_16 rfl ?_
  first | refine r_iaddN (pc := 17) X dX7_eat_17 ?_ | refine r_iadd (pc := 17) X dX7_eat_17 ?_
  refine r_iconst (pc := 18) (v := -1) X dX7_eat_18 (by decide) ?_
  apply r_iast (pc := 19) X dX7_eat_19
  · repeat (first | exact mu_self | assumption | refine (mu_ne (by omega)).trans ?_)
  · omega
  · decide
  rw [mu_mu, stI_up (by omega), ← uI_0, stI_uph (by omega)]
  exact r_vret (pc := 20) X dX7_eat_20 (rfl)
end S40
