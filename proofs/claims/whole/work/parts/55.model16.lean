/-- the reference's token that begins at b: its kind (1 letters, 2 digits, 3 the end, 0 another), its value -/
def tkK (xs : Nat → Nat) (n b : Nat) : Nat := if n ≤ b then 3 else if isSm (xs b) = true then 1 else if isDg (xs b) = true then 2 else 0
def tkV (xs : Nat → Nat) (n b : Nat) : Nat := if n ≤ b then 0 else if isSm (xs b) = true then 0 else if isDg (xs b) = true then (if 3 < tkE xs n b - b then 9999 else nv xs b (tkE xs n b - b)) else xs b
theorem in_sm {c : Nat} (hc : c < 256) : zb (decide ((97 : Int64).toInt ≤ (nI c).toInt64.toInt ∧ (nI c).toInt64.toInt ≤ (122 : Int64).toInt)) = zb (isSm c) := by
  rw [i64, nI_toInt (by omega), show (97 : Int64).toInt = 97 by decide, show (122 : Int64).toInt = 122 by decide]
  unfold isSm
  congr 1
  by_cases h : 97 ≤ c ∧ c ≤ 122
  · rw [decide_eq_true h, decide_eq_true (by omega)]
  · rw [decide_eq_false h, decide_eq_false (by omega)]
theorem in_dg {c : Nat} (hc : c < 256) : zb (decide ((48 : Int64).toInt ≤ (nI c).toInt64.toInt ∧ (nI c).toInt64.toInt ≤ (57 : Int64).toInt)) = zb (isDg c) := by
  rw [i64, nI_toInt (by omega), show (48 : Int64).toInt = 48 by decide, show (57 : Int64).toInt = 57 by decide]
  unfold isDg
  congr 1
  by_cases h : 48 ≤ c ∧ c ≤ 57
  · rw [decide_eq_true h, decide_eq_true (by omega)]
  · rw [decide_eq_false h, decide_eq_false (by omega)]
def lA (xs : Nat → Nat) (n k : Nat) : Nat := if k < n then xs k else 0
section S55
variable {Γ : KK} {l : Launch} {sz : Nat} {μ : MM} {y n : Nat} {pl tk vl bg cl : Int32} {un sn : Nat} {xs : Nat → Nat}
theorem t7_letterAt {k' : Nat} (hO : μ y = some (mdO y n pl tk vl bg cl un sn)) (hX : μ (y + 3) = some (xI Γ 160 (fun i => nI (xs i)))) (hn : n ≤ 160) (hk : k' ≤ 160) : CT Γ l 0 sz 0 0 mX7_letterAt [.ref y, .int (nI k')] μ (ri (fun r μ' => r = nI (lA xs n k') ∧ μ' = μ)) := by
  refine CT.go RX7 rfl "letterAt" rfl [some (.ref y), some (.int (nI k'))] rfl (by decide) (Nat.le_of_ble_eq_true rfl) ?_
  intro p e R s m args below meth c X hsz
  refine r_iload_n (pc := 0) X dX7_letterAt_0 rfl ?_
  refine r_aload_n (pc := 1) X dX7_letterAt_1 rfl ?_
  apply r_get (pc := 2) X f_X7_51 dX7_letterAt_2
  · repeat (first | exact mu_self | assumption | refine (mu_ne (by omega)).trans ?_)
  · rfl
  first | refine r_icmp_geN (pc := 5) X 17 dX7_letterAt_5 (by decide) (by omega) (by omega) (fun h => ?_) (fun h => ?_) | refine r_icmp_ge (pc := 5) X 17 dX7_letterAt_5 (by decide) (fun h => ?_) (fun h => ?_)
  · refine r_iconst (pc := 17) (v := nI 0) X dX7_letterAt_17 (by decide) ?_
    exact r_iret (pc := 18) X dX7_letterAt_18 (⟨by unfold lA; rw [if_neg (by omega)], rfl⟩)
  · refine r_aload_n (pc := 8) X dX7_letterAt_8 rfl ?_
    apply r_get (pc := 9) X f_X7_16 dX7_letterAt_9
    · repeat (first | exact mu_self | assumption | refine (mu_ne (by omega)).trans ?_)
    · rfl
    refine r_iload_n (pc := 12) X dX7_letterAt_12 rfl ?_
    apply r_iald (pc := 13) X dX7_letterAt_13
    · repeat (first | exact mu_self | assumption | refine (mu_ne (by omega)).trans ?_)
    · omega
    · decide
    refine r_goto (pc := 14) X 18 dX7_letterAt_14 (by decide) ?_
    exact r_iret (pc := 18) X dX7_letterAt_18 (⟨by unfold lA; rw [if_pos (by omega)], rfl⟩)
theorem t7_nextToken {p0 : Nat} (hO : μ y = some (mdO y n (nI p0) tk vl bg cl un sn)) (hX : μ (y + 3) = some (xI Γ 160 (fun i => nI (xs i)))) (hn : n ≤ 160) (hx : ∀ i, xs i < 256) (hp : p0 ≤ n) : CT Γ l 1 sz 0 0 mX7_nextToken [.ref y] μ (rv (fun μ' => μ' = mu μ y (mdO y n (nI (tkE xs n (tkB xs n p0))) (nI (tkK xs n (tkB xs n p0))) (nI (tkV xs n (tkB xs n p0))) (nI (tkB xs n p0)) cl un sn))) := by
  refine CT.go RX7 rfl "nextToken" rfl [some (.ref y)] rfl (by decide) (Nat.le_of_ble_eq_true rfl) ?_
  intro p e R s m args below meth c X hsz
  have fin0 : ∀ B : Nat, B ≤ n → tkB xs n p0 = B → vV Γ p l e R s m args below meth c (vQ Γ s args below 0 0 (rv (fun μ' => μ' = mu μ y (mdO y n (nI (tkE xs n (tkB xs n p0))) (nI (tkK xs n (tkB xs n p0))) (nI (tkV xs n (tkB xs n p0))) (nI (tkB xs n p0)) cl un sn)))) 1 0 0 26 [some (.ref (y))] [] (mu μ y (mdO y n (nI B) tk vl bg cl un sn)) := by
    intro B hB eB
    rw [eB]
    clear eB
    have hxB := hx B
    have out : ∀ (pl1 tk1 vl1 : Nat), tk1 ≤ 3 → tk1 ≠ 0 → tk1 ≠ 2 → pl1 = tkE xs n B → tk1 = tkK xs n B → vl1 = tkV xs n B → vV Γ p l e R s m args below meth c (vQ Γ s args below 0 0 (rv (fun μ' => μ' = mu μ y (mdO y n (nI (tkE xs n B)) (nI (tkK xs n B)) (nI (tkV xs n B)) (nI B) cl un sn)))) 1 0 0 194 [some (.ref y)] [] (mu μ y (mdO y n (nI pl1) (nI tk1) (nI vl1) (nI B) cl un sn)) := by
      intro pl1 tk1 vl1 h3 h0 h2 e1 e2 e3
      subst e1 e3
      refine r_aload_n (pc := 194) X dX7_nextToken_194 rfl ?_
      apply r_get (pc := 195) X f_X7_68 dX7_nextToken_195
      · repeat (first | exact mu_self | assumption | refine (mu_ne (by omega)).trans ?_)
      · rfl
      refine r_iconst (pc := 198) (v := nI 2) X dX7_nextToken_198 (by decide) ?_
      refine r_icmp_neN (pc := 199) X 222 dX7_nextToken_199 (by decide) (by omega) (by omega) (fun _ => ?_) (fun q => absurd q h2)
      refine r_aload_n (pc := 222) X dX7_nextToken_222 rfl ?_
      apply r_get (pc := 223) X f_X7_68 dX7_nextToken_223
      · repeat (first | exact mu_self | assumption | refine (mu_ne (by omega)).trans ?_)
      · rfl
      refine r_if_neN (pc := 226) X 252 dX7_nextToken_226 (by decide) (by omega) (fun _ => ?_) (fun q => absurd q h0)
      rw [e2]
      exact r_vret (pc := 252) X dX7_nextToken_252 (rfl)
    have sml : ∀ (N j : Nat), j + N = n → B < n → isSm (xs B) = true → tkE xs n B = rn (tkq (xs B)) xs n j → vV Γ p l e R s m args below meth c (vQ Γ s args below 0 0 (rv (fun μ' => μ' = mu μ y (mdO y n (nI (tkE xs n B)) (nI (tkK xs n B)) (nI (tkV xs n B)) (nI B) cl un sn)))) 1 0 0 59 [some (.ref y)] [] (mu μ y (mdO y n (nI j) (nI 1) (nI 0) (nI B) cl un sn)) := by
      intro N
      have hout : ∀ j : Nat, B < n → isSm (xs B) = true → j = tkE xs n B → vV Γ p l e R s m args below meth c (vQ Γ s args below 0 0 (rv (fun μ' => μ' = mu μ y (mdO y n (nI (tkE xs n B)) (nI (tkK xs n B)) (nI (tkV xs n B)) (nI B) cl un sn)))) 1 0 0 106 [some (.ref y)] [] (mu μ y (mdO y n (nI j) (nI 1) (nI 0) (nI B) cl un sn)) := by
        intro j hBn hsm hj
        refine r_aload_n (pc := 106) X dX7_nextToken_106 rfl ?_
        apply r_get (pc := 107) X f_X7_68 dX7_nextToken_107
        · repeat (first | exact mu_self | assumption | refine (mu_ne (by omega)).trans ?_)
        · rfl
        refine r_iconst (pc := 110) (v := nI 1) X dX7_nextToken_110 (by decide) ?_
        refine r_icmp_eqN (pc := 111) X 194 dX7_nextToken_111 (by decide) (by omega) (by omega) (fun _ => ?_) (fun q => absurd rfl q)
        exact out j 1 0 (by omega) (by omega) (by omega) hj (by unfold tkK; rw [if_neg (by omega), if_pos hsm]) (by unfold tkV; rw [if_neg (by omega), if_pos hsm])
      induction N with
      | zero =>
        intro j hj hBn hsm hE
        rw [rn_n (Or.inl (by omega))] at hE
        refine r_aload_n (pc := 59) X dX7_nextToken_59 rfl ?_
        apply r_get (pc := 60) X f_X7_68 dX7_nextToken_60
        · repeat (first | exact mu_self | assumption | refine (mu_ne (by omega)).trans ?_)
        · rfl
        refine r_iconst (pc := 63) (v := nI 2) X dX7_nextToken_63 (by decide) ?_
        refine r_icmp_geN (pc := 64) X 106 dX7_nextToken_64 (by decide) (by omega) (by omega) (fun q => absurd q (by omega)) (fun _ => ?_)
        refine r_aload_n (pc := 67) X dX7_nextToken_67 rfl ?_
        refine r_aload_n (pc := 68) X dX7_nextToken_68 rfl ?_
        apply r_get (pc := 69) X f_X7_55 dX7_nextToken_69
        · repeat (first | exact mu_self | assumption | refine (mu_ne (by omega)).trans ?_)
        · rfl
        refine c_i X (rV (pc := 72) (ci := 7) X l_X7_58 (t7_letterAt (xs := xs) mu_self ((mu_ne (by omega)).trans hX) hn (k' := j) (by omega)) dX7_nextToken_72 (by repeat (first | exact mu_self | assumption | refine (mu_ne (by omega)).trans ?_)) rfl rfl rfl (Nat.le_of_ble_eq_true rfl) (by decide) (Nat.le_of_ble_eq_true rfl) (Nat.le_of_ble_eq_true rfl)) ?_
        rintro _ μq ⟨rfl, hμq⟩
        rw [hμq]
        clear hμq μq
        have e0 : lA xs n j = 0 := by unfold lA; rw [if_neg (by omega)]
        rw [e0]
        refine r_i2l (pc := 75) X dX7_nextToken_75 rfl ?_
        refine r_ldc2 (pc := 76) X k_X7_71 dX7_nextToken_76 ?_
        refine r_ldc2 (pc := 79) X k_X7_73 dX7_nextToken_79 ?_
        refine c_i X (rS (pc := 82) X l_X7_45 (t7_in (nI 0).toInt64 97 122) dX7_nextToken_82 rfl rfl (Nat.le_of_ble_eq_true rfl) (by decide) (Nat.le_of_ble_eq_true rfl) (Nat.le_of_ble_eq_true rfl)) ?_
        rintro _ μq ⟨rfl, hμq⟩
        rw [hμq]
        clear hμq μq
        rw [in_sm (by omega)]
        first | refine r_if_eqZ (pc := 85) X 106 dX7_nextToken_85 (by decide) (fun h5 => ?_) (fun h5 => ?_) | refine r_if_eqN (pc := 85) X 106 dX7_nextToken_85 (by decide) (by omega) (fun h5 => ?_) (fun h5 => ?_) | refine r_if_eq (pc := 85) X 106 dX7_nextToken_85 (by decide) (fun h5 => ?_) (fun h5 => ?_)
        · exact hout j hBn hsm hE.symm
        · exact absurd h5 (by decide)
      | succ N ih =>
        intro j hj hBn hsm hE
        have hxj := hx j
        refine r_aload_n (pc := 59) X dX7_nextToken_59 rfl ?_
        apply r_get (pc := 60) X f_X7_68 dX7_nextToken_60
        · repeat (first | exact mu_self | assumption | refine (mu_ne (by omega)).trans ?_)
        · rfl
        refine r_iconst (pc := 63) (v := nI 2) X dX7_nextToken_63 (by decide) ?_
        refine r_icmp_geN (pc := 64) X 106 dX7_nextToken_64 (by decide) (by omega) (by omega) (fun q => absurd q (by omega)) (fun _ => ?_)
        refine r_aload_n (pc := 67) X dX7_nextToken_67 rfl ?_
        refine r_aload_n (pc := 68) X dX7_nextToken_68 rfl ?_
        apply r_get (pc := 69) X f_X7_55 dX7_nextToken_69
        · repeat (first | exact mu_self | assumption | refine (mu_ne (by omega)).trans ?_)
        · rfl
        refine c_i X (rV (pc := 72) (ci := 7) X l_X7_58 (t7_letterAt (xs := xs) mu_self ((mu_ne (by omega)).trans hX) hn (k' := j) (by omega)) dX7_nextToken_72 (by repeat (first | exact mu_self | assumption | refine (mu_ne (by omega)).trans ?_)) rfl rfl rfl (Nat.le_of_ble_eq_true rfl) (by decide) (Nat.le_of_ble_eq_true rfl) (Nat.le_of_ble_eq_true rfl)) ?_
        rintro _ μq ⟨rfl, hμq⟩
        rw [hμq]
        clear hμq μq
        have e0 : lA xs n j = xs j := by unfold lA; rw [if_pos (by omega)]
        rw [e0]
        refine r_i2l (pc := 75) X dX7_nextToken_75 rfl ?_
        refine r_ldc2 (pc := 76) X k_X7_71 dX7_nextToken_76 ?_
        refine r_ldc2 (pc := 79) X k_X7_73 dX7_nextToken_79 ?_
        refine c_i X (rS (pc := 82) X l_X7_45 (t7_in (nI (xs j)).toInt64 97 122) dX7_nextToken_82 rfl rfl (Nat.le_of_ble_eq_true rfl) (by decide) (Nat.le_of_ble_eq_true rfl) (Nat.le_of_ble_eq_true rfl)) ?_
        rintro _ μq ⟨rfl, hμq⟩
        rw [hμq]
        clear hμq μq
        rw [in_sm hxj]
        have hdg : isDg (xs B) = false := by unfold isSm at hsm; unfold isDg; simp at *; omega
        first | refine r_if_eqZ (pc := 85) X 106 dX7_nextToken_85 (by decide) (fun h5 => ?_) (fun h5 => ?_) | refine r_if_eqN (pc := 85) X 106 dX7_nextToken_85 (by decide) (by omega) (fun h5 => ?_) (fun h5 => ?_) | refine r_if_eq (pc := 85) X 106 dX7_nextToken_85 (by decide) (fun h5 => ?_) (fun h5 => ?_)
        · have hq : tkq (xs B) (xs j) = false := by unfold tkq; rw [h5, hdg]; simp
          rw [rn_n (Or.inr hq)] at hE
          exact hout j hBn hsm hE.symm
        · have hq : tkq (xs B) (xs j) = true := by unfold tkq; rw [h5, hsm]; rfl
          rw [rn_y (by omega) hq] at hE
          refine r_aload_n (pc := 88) X dX7_nextToken_88 rfl ?_
          refine r_iconst (pc := 89) (v := nI 1) X dX7_nextToken_89 (by decide) ?_
          first | refine r_putS (pc := 90) X f_X7_68 dX7_nextToken_90 (by first | rfl | assumption | decide | simp [narrow]) (by first | rfl | assumption) (Nat.le_of_ble_eq_true rfl) ?_ | refine r_put (pc := 90) X f_X7_68 dX7_nextToken_90 (by repeat (first | exact mu_self | assumption | refine (mu_ne (by omega)).trans ?_)) (by first | rfl | assumption | decide | simp [narrow]) (by first | rfl | assumption) (Nat.le_of_ble_eq_true rfl) ?_
          refine r_aload_n (pc := 93) X dX7_nextToken_93 rfl ?_
          refine r_dup (pc := 94) X dX7_nextToken_94 rfl ?_
          apply r_get (pc := 95) X f_X7_55 dX7_nextToken_95
          · repeat (first | exact mu_self | assumption | refine (mu_ne (by omega)).trans ?_)
          · rfl
          refine r_iconst (pc := 98) (v := nI 1) X dX7_nextToken_98 (by decide) ?_
          first | refine r_iaddN (pc := 99) X dX7_nextToken_99 ?_ | refine r_iadd (pc := 99) X dX7_nextToken_99 ?_
          first | refine r_putS (pc := 100) X f_X7_55 dX7_nextToken_100 (by first | rfl | assumption | decide | simp [narrow]) (by first | rfl | assumption) (Nat.le_of_ble_eq_true rfl) ?_ | refine r_put (pc := 100) X f_X7_55 dX7_nextToken_100 (by repeat (first | exact mu_self | assumption | refine (mu_ne (by omega)).trans ?_)) (by first | rfl | assumption | decide | simp [narrow]) (by first | rfl | assumption) (Nat.le_of_ble_eq_true rfl) ?_
          refine r_goto (pc := 103) X 59 dX7_nextToken_103 (by decide) ?_
          exact ih (j + 1) (by omega) hBn hsm hE
    have dig : ∀ (N j u : Nat), j + N = n → B < j → isDg (xs B) = true → isSm (xs B) = false → (∀ i, B ≤ i → i < j → isDg (xs i) = true) → u ≤ 9999 → (j - B ≤ 3 → u = nv xs B (j - B)) → tkE xs n B = rn (tkq (xs B)) xs n j → vV Γ p l e R s m args below meth c (vQ Γ s args below 0 0 (rv (fun μ' => μ' = mu μ y (mdO y n (nI (tkE xs n B)) (nI (tkK xs n B)) (nI (tkV xs n B)) (nI B) cl un sn)))) 1 0 0 106 [some (.ref y)] [] (mu μ y (mdO y n (nI j) (nI 2) (nI u) (nI B) cl un sn)) := by
      intro N
      have hout : ∀ j u : Nat, B < j → j ≤ n → isDg (xs B) = true → isSm (xs B) = false → u ≤ 9999 → (j - B ≤ 3 → u = nv xs B (j - B)) → j = tkE xs n B → vV Γ p l e R s m args below meth c (vQ Γ s args below 0 0 (rv (fun μ' => μ' = mu μ y (mdO y n (nI (tkE xs n B)) (nI (tkK xs n B)) (nI (tkV xs n B)) (nI B) cl un sn)))) 1 0 0 194 [some (.ref y)] [] (mu μ y (mdO y n (nI j) (nI 2) (nI u) (nI B) cl un sn)) := by
        intro j u hBj hjn hd hs hu hnv hj
        have eK : tkK xs n B = 2 := by unfold tkK; rw [if_neg (by omega), if_neg (by simp [hs]), if_pos hd]
        have eV : tkV xs n B = if 3 < j - B then 9999 else nv xs B (j - B) := by unfold tkV; rw [if_neg (by omega), if_neg (by simp [hs]), if_pos hd, hj]
        have last : ∀ u' : Nat, u' = tkV xs n B → vV Γ p l e R s m args below meth c (vQ Γ s args below 0 0 (rv (fun μ' => μ' = mu μ y (mdO y n (nI (tkE xs n B)) (nI (tkK xs n B)) (nI (tkV xs n B)) (nI B) cl un sn)))) 1 0 0 222 [some (.ref y)] [] (mu μ y (mdO y n (nI j) (nI 2) (nI u') (nI B) cl un sn)) := by
          intro u' hu'
          refine r_aload_n (pc := 222) X dX7_nextToken_222 rfl ?_
          apply r_get (pc := 223) X f_X7_68 dX7_nextToken_223
          · repeat (first | exact mu_self | assumption | refine (mu_ne (by omega)).trans ?_)
          · rfl
          refine r_if_neN (pc := 226) X 252 dX7_nextToken_226 (by decide) (by omega) (fun _ => ?_) (fun q => absurd q (by omega))
          rw [hu', hj, eK]
          exact r_vret (pc := 252) X dX7_nextToken_252 (rfl)
        refine r_aload_n (pc := 194) X dX7_nextToken_194 rfl ?_
        apply r_get (pc := 195) X f_X7_68 dX7_nextToken_195
        · repeat (first | exact mu_self | assumption | refine (mu_ne (by omega)).trans ?_)
        · rfl
        refine r_iconst (pc := 198) (v := nI 2) X dX7_nextToken_198 (by decide) ?_
        refine r_icmp_neN (pc := 199) X 222 dX7_nextToken_199 (by decide) (by omega) (by omega) (fun q => absurd rfl q) (fun _ => ?_)
        refine r_aload_n (pc := 202) X dX7_nextToken_202 rfl ?_
        apply r_get (pc := 203) X f_X7_55 dX7_nextToken_203
        · repeat (first | exact mu_self | assumption | refine (mu_ne (by omega)).trans ?_)
        · rfl
        refine r_aload_n (pc := 206) X dX7_nextToken_206 rfl ?_
        apply r_get (pc := 207) X f_X7_62 dX7_nextToken_207
        · repeat (first | exact mu_self | assumption | refine (mu_ne (by omega)).trans ?_)
        · rfl
        first | refine r_isubN (pc := 210) X dX7_nextToken_210 (by omega) ?_ | refine r_isub (pc := 210) X dX7_nextToken_210 ?_
        refine r_iconst (pc := 211) (v := nI 3) X dX7_nextToken_211 (by decide) ?_
        first | refine r_icmp_leN (pc := 212) X 222 dX7_nextToken_212 (by decide) (by omega) (by omega) (fun h6 => ?_) (fun h6 => ?_) | refine r_icmp_le (pc := 212) X 222 dX7_nextToken_212 (by decide) (fun h6 => ?_) (fun h6 => ?_)
        · rw [if_neg (by omega)] at eV
          exact last u (by rw [eV]; exact hnv (by omega))
        · rw [if_pos (by omega)] at eV
          refine r_aload_n (pc := 215) X dX7_nextToken_215 rfl ?_
          refine r_sipush (pc := 216) (v := nI 9999) X dX7_nextToken_216 (by decide) ?_
          first | refine r_putS (pc := 219) X f_X7_65 dX7_nextToken_219 (by first | rfl | assumption | decide | simp [narrow]) (by first | rfl | assumption) (Nat.le_of_ble_eq_true rfl) ?_ | refine r_put (pc := 219) X f_X7_65 dX7_nextToken_219 (by repeat (first | exact mu_self | assumption | refine (mu_ne (by omega)).trans ?_)) (by first | rfl | assumption | decide | simp [narrow]) (by first | rfl | assumption) (Nat.le_of_ble_eq_true rfl) ?_
          exact last 9999 eV.symm
      induction N with
      | zero =>
        intro j u hj hBj hd hs hall hu hnv hE
        rw [rn_n (Or.inl (by omega))] at hE
        refine r_aload_n (pc := 106) X dX7_nextToken_106 rfl ?_
        apply r_get (pc := 107) X f_X7_68 dX7_nextToken_107
        · repeat (first | exact mu_self | assumption | refine (mu_ne (by omega)).trans ?_)
        · rfl
        refine r_iconst (pc := 110) (v := nI 1) X dX7_nextToken_110 (by decide) ?_
        refine r_icmp_eqN (pc := 111) X 194 dX7_nextToken_111 (by decide) (by omega) (by omega) (fun q => absurd q (by omega)) (fun _ => ?_)
        refine r_aload_n (pc := 114) X dX7_nextToken_114 rfl ?_
        refine r_aload_n (pc := 115) X dX7_nextToken_115 rfl ?_
        apply r_get (pc := 116) X f_X7_55 dX7_nextToken_116
        · repeat (first | exact mu_self | assumption | refine (mu_ne (by omega)).trans ?_)
        · rfl
        refine c_i X (rV (pc := 119) (ci := 7) X l_X7_58 (t7_letterAt (xs := xs) mu_self ((mu_ne (by omega)).trans hX) hn (k' := j) (by omega)) dX7_nextToken_119 (by repeat (first | exact mu_self | assumption | refine (mu_ne (by omega)).trans ?_)) rfl rfl rfl (Nat.le_of_ble_eq_true rfl) (by decide) (Nat.le_of_ble_eq_true rfl) (Nat.le_of_ble_eq_true rfl)) ?_
        rintro _ μq ⟨rfl, hμq⟩
        rw [hμq]
        clear hμq μq
        have e0 : lA xs n j = 0 := by unfold lA; rw [if_neg (by omega)]
        rw [e0]
        refine r_i2l (pc := 122) X dX7_nextToken_122 rfl ?_
        refine r_ldc2 (pc := 123) X k_X7_75 dX7_nextToken_123 ?_
        refine r_ldc2 (pc := 126) X k_X7_77 dX7_nextToken_126 ?_
        refine c_i X (rS (pc := 129) X l_X7_45 (t7_in (nI 0).toInt64 48 57) dX7_nextToken_129 rfl rfl (Nat.le_of_ble_eq_true rfl) (by decide) (Nat.le_of_ble_eq_true rfl) (Nat.le_of_ble_eq_true rfl)) ?_
        rintro _ μq ⟨rfl, hμq⟩
        rw [hμq]
        clear hμq μq
        rw [in_dg (by omega)]
        first | refine r_if_eqZ (pc := 132) X 194 dX7_nextToken_132 (by decide) (fun h5 => ?_) (fun h5 => ?_) | refine r_if_eqN (pc := 132) X 194 dX7_nextToken_132 (by decide) (by omega) (fun h5 => ?_) (fun h5 => ?_) | refine r_if_eq (pc := 132) X 194 dX7_nextToken_132 (by decide) (fun h5 => ?_) (fun h5 => ?_)
        · exact hout j u hBj (by omega) hd hs hu hnv hE.symm
        · exact absurd h5 (by decide)
      | succ N ih =>
        intro j u hj hBj hd hs hall hu hnv hE
        have hxj := hx j
        refine r_aload_n (pc := 106) X dX7_nextToken_106 rfl ?_
        apply r_get (pc := 107) X f_X7_68 dX7_nextToken_107
        · repeat (first | exact mu_self | assumption | refine (mu_ne (by omega)).trans ?_)
        · rfl
        refine r_iconst (pc := 110) (v := nI 1) X dX7_nextToken_110 (by decide) ?_
        refine r_icmp_eqN (pc := 111) X 194 dX7_nextToken_111 (by decide) (by omega) (by omega) (fun q => absurd q (by omega)) (fun _ => ?_)
        refine r_aload_n (pc := 114) X dX7_nextToken_114 rfl ?_
        refine r_aload_n (pc := 115) X dX7_nextToken_115 rfl ?_
        apply r_get (pc := 116) X f_X7_55 dX7_nextToken_116
        · repeat (first | exact mu_self | assumption | refine (mu_ne (by omega)).trans ?_)
        · rfl
        refine c_i X (rV (pc := 119) (ci := 7) X l_X7_58 (t7_letterAt (xs := xs) mu_self ((mu_ne (by omega)).trans hX) hn (k' := j) (by omega)) dX7_nextToken_119 (by repeat (first | exact mu_self | assumption | refine (mu_ne (by omega)).trans ?_)) rfl rfl rfl (Nat.le_of_ble_eq_true rfl) (by decide) (Nat.le_of_ble_eq_true rfl) (Nat.le_of_ble_eq_true rfl)) ?_
        rintro _ μq ⟨rfl, hμq⟩
        rw [hμq]
        clear hμq μq
        have e0 : lA xs n j = xs j := by unfold lA; rw [if_pos (by omega)]
        rw [e0]
        refine r_i2l (pc := 122) X dX7_nextToken_122 rfl ?_
        refine r_ldc2 (pc := 123) X k_X7_75 dX7_nextToken_123 ?_
        refine r_ldc2 (pc := 126) X k_X7_77 dX7_nextToken_126 ?_
        refine c_i X (rS (pc := 129) X l_X7_45 (t7_in (nI (xs j)).toInt64 48 57) dX7_nextToken_129 rfl rfl (Nat.le_of_ble_eq_true rfl) (by decide) (Nat.le_of_ble_eq_true rfl) (Nat.le_of_ble_eq_true rfl)) ?_
        rintro _ μq ⟨rfl, hμq⟩
        rw [hμq]
        clear hμq μq
        rw [in_dg hxj]
        first | refine r_if_eqZ (pc := 132) X 194 dX7_nextToken_132 (by decide) (fun h5 => ?_) (fun h5 => ?_) | refine r_if_eqN (pc := 132) X 194 dX7_nextToken_132 (by decide) (by omega) (fun h5 => ?_) (fun h5 => ?_) | refine r_if_eq (pc := 132) X 194 dX7_nextToken_132 (by decide) (fun h5 => ?_) (fun h5 => ?_)
        · have hq : tkq (xs B) (xs j) = false := by unfold tkq; rw [h5, hs]; simp
          rw [rn_n (Or.inr hq)] at hE
          exact hout j u hBj (by omega) hd hs hu hnv hE.symm
        · have hq : tkq (xs B) (xs j) = true := by unfold tkq; rw [h5, hd]; simp
          rw [rn_y (by omega) hq] at hE
          have h5' : 48 ≤ xs j ∧ xs j ≤ 57 := by unfold isDg at h5; simpa using h5
          have hall' : ∀ i, B ≤ i → i < j + 1 → isDg (xs i) = true := fun i h1 h2 => by
            by_cases q : i = j
            · subst q; exact h5
            · exact hall i h1 (by omega)
          have hlt := nv_lt hall
          have go : ∀ u' : Nat, u' ≤ 9999 → (j + 1 - B ≤ 3 → u' = nv xs B (j + 1 - B)) → vV Γ p l e R s m args below meth c (vQ Γ s args below 0 0 (rv (fun μ' => μ' = mu μ y (mdO y n (nI (tkE xs n B)) (nI (tkK xs n B)) (nI (tkV xs n B)) (nI B) cl un sn)))) 1 0 0 173 [some (.ref y)] [.int (nI u'), .ref y] (mu μ y (mdO y n (nI j) (nI 2) (nI u) (nI B) cl un sn)) := by
            intro u' h1 h2
            first | refine r_putS (pc := 173) X f_X7_65 dX7_nextToken_173 (by first | rfl | assumption | decide | simp [narrow]) (by first | rfl | assumption) (Nat.le_of_ble_eq_true rfl) ?_ | refine r_put (pc := 173) X f_X7_65 dX7_nextToken_173 (by repeat (first | exact mu_self | assumption | refine (mu_ne (by omega)).trans ?_)) (by first | rfl | assumption | decide | simp [narrow]) (by first | rfl | assumption) (Nat.le_of_ble_eq_true rfl) ?_
            refine r_aload_n (pc := 176) X dX7_nextToken_176 rfl ?_
            refine r_iconst (pc := 177) (v := nI 2) X dX7_nextToken_177 (by decide) ?_
            first | refine r_putS (pc := 178) X f_X7_68 dX7_nextToken_178 (by first | rfl | assumption | decide | simp [narrow]) (by first | rfl | assumption) (Nat.le_of_ble_eq_true rfl) ?_ | refine r_put (pc := 178) X f_X7_68 dX7_nextToken_178 (by repeat (first | exact mu_self | assumption | refine (mu_ne (by omega)).trans ?_)) (by first | rfl | assumption | decide | simp [narrow]) (by first | rfl | assumption) (Nat.le_of_ble_eq_true rfl) ?_
            refine r_aload_n (pc := 181) X dX7_nextToken_181 rfl ?_
            refine r_dup (pc := 182) X dX7_nextToken_182 rfl ?_
            apply r_get (pc := 183) X f_X7_55 dX7_nextToken_183
            · repeat (first | exact mu_self | assumption | refine (mu_ne (by omega)).trans ?_)
            · rfl
            refine r_iconst (pc := 186) (v := nI 1) X dX7_nextToken_186 (by decide) ?_
            first | refine r_iaddN (pc := 187) X dX7_nextToken_187 ?_ | refine r_iadd (pc := 187) X dX7_nextToken_187 ?_
            first | refine r_putS (pc := 188) X f_X7_55 dX7_nextToken_188 (by first | rfl | assumption | decide | simp [narrow]) (by first | rfl | assumption) (Nat.le_of_ble_eq_true rfl) ?_ | refine r_put (pc := 188) X f_X7_55 dX7_nextToken_188 (by repeat (first | exact mu_self | assumption | refine (mu_ne (by omega)).trans ?_)) (by first | rfl | assumption | decide | simp [narrow]) (by first | rfl | assumption) (Nat.le_of_ble_eq_true rfl) ?_
            refine r_goto (pc := 191) X 106 dX7_nextToken_191 (by decide) ?_
            exact ih (j + 1) u' (by omega) (by omega) hd hs hall' h1 h2 hE
          refine r_aload_n (pc := 135) X dX7_nextToken_135 rfl ?_
          refine r_aload_n (pc := 136) X dX7_nextToken_136 rfl ?_
          apply r_get (pc := 137) X f_X7_65 dX7_nextToken_137
          · repeat (first | exact mu_self | assumption | refine (mu_ne (by omega)).trans ?_)
          · rfl
          refine r_sipush (pc := 140) (v := nI 999) X dX7_nextToken_140 (by decide) ?_
          first | refine r_icmp_leN (pc := 143) X 153 dX7_nextToken_143 (by decide) (by omega) (by omega) (fun h6 => ?_) (fun h6 => ?_) | refine r_icmp_le (pc := 143) X 153 dX7_nextToken_143 (by decide) (fun h6 => ?_) (fun h6 => ?_)
          · refine r_bipush (pc := 153) (v := nI 10) X dX7_nextToken_153 (by decide) ?_
            refine r_aload_n (pc := 155) X dX7_nextToken_155 rfl ?_
            apply r_get (pc := 156) X f_X7_65 dX7_nextToken_156
            · repeat (first | exact mu_self | assumption | refine (mu_ne (by omega)).trans ?_)
            · rfl
            first | refine r_imulN (pc := 159) X dX7_nextToken_159 ?_ | refine r_imul (pc := 159) X dX7_nextToken_159 ?_
            refine r_aload_n (pc := 160) X dX7_nextToken_160 rfl ?_
            apply r_get (pc := 161) X f_X7_16 dX7_nextToken_161
            · repeat (first | exact mu_self | assumption | refine (mu_ne (by omega)).trans ?_)
            · rfl
            refine r_aload_n (pc := 164) X dX7_nextToken_164 rfl ?_
            apply r_get (pc := 165) X f_X7_55 dX7_nextToken_165
            · repeat (first | exact mu_self | assumption | refine (mu_ne (by omega)).trans ?_)
            · rfl
            apply r_iald (pc := 168) X dX7_nextToken_168
            · repeat (first | exact mu_self | assumption | refine (mu_ne (by omega)).trans ?_)
            · omega
            · decide
            first | refine r_iaddN (pc := 169) X dX7_nextToken_169 ?_ | refine r_iadd (pc := 169) X dX7_nextToken_169 ?_
            refine r_bipush (pc := 170) (v := nI 48) X dX7_nextToken_170 (by decide) ?_
            first | refine r_isubN (pc := 172) X dX7_nextToken_172 (by omega) ?_ | refine r_isub (pc := 172) X dX7_nextToken_172 ?_
            refine go _ (by omega) (fun h3 => ?_)
            have := hnv (by omega)
            rw [show j + 1 - B = (j - B) + 1 by omega]
            show _ = 10 * nv xs B (j - B) + xs (B + (j - B)) - 48
            rw [this, show B + (j - B) = j by omega]
          · refine r_aload_n (pc := 146) X dX7_nextToken_146 rfl ?_
            apply r_get (pc := 147) X f_X7_65 dX7_nextToken_147
            · repeat (first | exact mu_self | assumption | refine (mu_ne (by omega)).trans ?_)
            · rfl
            refine r_goto (pc := 150) X 173 dX7_nextToken_150 (by decide) ?_
            refine go _ hu (fun h3 => ?_)
            have h7 := hnv (by omega)
            have h8 := hlt (j - B) (by omega)
            have h9 : 10 ^ (j - B) ≤ 10 ^ 2 := Nat.pow_le_pow_right (by decide) (by omega)
            rw [← h7] at h8
            omega
    refine r_aload_n (pc := 26) X dX7_nextToken_26 rfl ?_
    refine r_aload_n (pc := 27) X dX7_nextToken_27 rfl ?_
    apply r_get (pc := 28) X f_X7_55 dX7_nextToken_28
    · repeat (first | exact mu_self | assumption | refine (mu_ne (by omega)).trans ?_)
    · rfl
    first | refine r_putS (pc := 31) X f_X7_62 dX7_nextToken_31 (by first | rfl | assumption | decide | simp [narrow]) (by first | rfl | assumption) (Nat.le_of_ble_eq_true rfl) ?_ | refine r_put (pc := 31) X f_X7_62 dX7_nextToken_31 (by repeat (first | exact mu_self | assumption | refine (mu_ne (by omega)).trans ?_)) (by first | rfl | assumption | decide | simp [narrow]) (by first | rfl | assumption) (Nat.le_of_ble_eq_true rfl) ?_
    refine r_aload_n (pc := 34) X dX7_nextToken_34 rfl ?_
    refine r_iconst (pc := 35) (v := nI 0) X dX7_nextToken_35 (by decide) ?_
    first | refine r_putS (pc := 36) X f_X7_65 dX7_nextToken_36 (by first | rfl | assumption | decide | simp [narrow]) (by first | rfl | assumption) (Nat.le_of_ble_eq_true rfl) ?_ | refine r_put (pc := 36) X f_X7_65 dX7_nextToken_36 (by repeat (first | exact mu_self | assumption | refine (mu_ne (by omega)).trans ?_)) (by first | rfl | assumption | decide | simp [narrow]) (by first | rfl | assumption) (Nat.le_of_ble_eq_true rfl) ?_
    refine r_aload_n (pc := 39) X dX7_nextToken_39 rfl ?_
    refine r_aload_n (pc := 40) X dX7_nextToken_40 rfl ?_
    apply r_get (pc := 41) X f_X7_55 dX7_nextToken_41
    · repeat (first | exact mu_self | assumption | refine (mu_ne (by omega)).trans ?_)
    · rfl
    refine r_aload_n (pc := 44) X dX7_nextToken_44 rfl ?_
    apply r_get (pc := 45) X f_X7_51 dX7_nextToken_45
    · repeat (first | exact mu_self | assumption | refine (mu_ne (by omega)).trans ?_)
    · rfl
    first | refine r_icmp_neN (pc := 48) X 55 dX7_nextToken_48 (by decide) (by omega) (by omega) (fun h1 => ?_) (fun h1 => ?_) | refine r_icmp_ne (pc := 48) X 55 dX7_nextToken_48 (by decide) (fun h1 => ?_) (fun h1 => ?_)
    · have hBn : B < n := by omega
      have eE : tkE xs n B = rn (tkq (xs B)) xs n (B + 1) := by unfold tkE; rw [if_neg (by omega)]
      refine r_iconst (pc := 55) (v := nI 0) X dX7_nextToken_55 (by decide) ?_
      first | refine r_putS (pc := 56) X f_X7_68 dX7_nextToken_56 (by first | rfl | assumption | decide | simp [narrow]) (by first | rfl | assumption) (Nat.le_of_ble_eq_true rfl) ?_ | refine r_put (pc := 56) X f_X7_68 dX7_nextToken_56 (by repeat (first | exact mu_self | assumption | refine (mu_ne (by omega)).trans ?_)) (by first | rfl | assumption | decide | simp [narrow]) (by first | rfl | assumption) (Nat.le_of_ble_eq_true rfl) ?_
      refine r_aload_n (pc := 59) X dX7_nextToken_59 rfl ?_
      apply r_get (pc := 60) X f_X7_68 dX7_nextToken_60
      · repeat (first | exact mu_self | assumption | refine (mu_ne (by omega)).trans ?_)
      · rfl
      refine r_iconst (pc := 63) (v := nI 2) X dX7_nextToken_63 (by decide) ?_
      refine r_icmp_geN (pc := 64) X 106 dX7_nextToken_64 (by decide) (by omega) (by omega) (fun q => absurd q (by omega)) (fun _ => ?_)
      refine r_aload_n (pc := 67) X dX7_nextToken_67 rfl ?_
      refine r_aload_n (pc := 68) X dX7_nextToken_68 rfl ?_
      apply r_get (pc := 69) X f_X7_55 dX7_nextToken_69
      · repeat (first | exact mu_self | assumption | refine (mu_ne (by omega)).trans ?_)
      · rfl
      refine c_i X (rV (pc := 72) (ci := 7) X l_X7_58 (t7_letterAt (xs := xs) mu_self ((mu_ne (by omega)).trans hX) hn (k' := B) (by omega)) dX7_nextToken_72 (by repeat (first | exact mu_self | assumption | refine (mu_ne (by omega)).trans ?_)) rfl rfl rfl (Nat.le_of_ble_eq_true rfl) (by decide) (Nat.le_of_ble_eq_true rfl) (Nat.le_of_ble_eq_true rfl)) ?_
      rintro _ μq ⟨rfl, hμq⟩
      rw [hμq]
      clear hμq μq
      have e0 : lA xs n B = xs B := by unfold lA; rw [if_pos hBn]
      rw [e0]
      refine r_i2l (pc := 75) X dX7_nextToken_75 rfl ?_
      refine r_ldc2 (pc := 76) X k_X7_71 dX7_nextToken_76 ?_
      refine r_ldc2 (pc := 79) X k_X7_73 dX7_nextToken_79 ?_
      refine c_i X (rS (pc := 82) X l_X7_45 (t7_in (nI (xs B)).toInt64 97 122) dX7_nextToken_82 rfl rfl (Nat.le_of_ble_eq_true rfl) (by decide) (Nat.le_of_ble_eq_true rfl) (Nat.le_of_ble_eq_true rfl)) ?_
      rintro _ μq ⟨rfl, hμq⟩
      rw [hμq]
      clear hμq μq
      rw [in_sm hxB]
      first | refine r_if_eqZ (pc := 85) X 106 dX7_nextToken_85 (by decide) (fun h5 => ?_) (fun h5 => ?_) | refine r_if_eqN (pc := 85) X 106 dX7_nextToken_85 (by decide) (by omega) (fun h5 => ?_) (fun h5 => ?_) | refine r_if_eq (pc := 85) X 106 dX7_nextToken_85 (by decide) (fun h5 => ?_) (fun h5 => ?_)
      · refine r_aload_n (pc := 106) X dX7_nextToken_106 rfl ?_
        apply r_get (pc := 107) X f_X7_68 dX7_nextToken_107
        · repeat (first | exact mu_self | assumption | refine (mu_ne (by omega)).trans ?_)
        · rfl
        refine r_iconst (pc := 110) (v := nI 1) X dX7_nextToken_110 (by decide) ?_
        refine r_icmp_eqN (pc := 111) X 194 dX7_nextToken_111 (by decide) (by omega) (by omega) (fun q => absurd q (by omega)) (fun _ => ?_)
        refine r_aload_n (pc := 114) X dX7_nextToken_114 rfl ?_
        refine r_aload_n (pc := 115) X dX7_nextToken_115 rfl ?_
        apply r_get (pc := 116) X f_X7_55 dX7_nextToken_116
        · repeat (first | exact mu_self | assumption | refine (mu_ne (by omega)).trans ?_)
        · rfl
        refine c_i X (rV (pc := 119) (ci := 7) X l_X7_58 (t7_letterAt (xs := xs) mu_self ((mu_ne (by omega)).trans hX) hn (k' := B) (by omega)) dX7_nextToken_119 (by repeat (first | exact mu_self | assumption | refine (mu_ne (by omega)).trans ?_)) rfl rfl rfl (Nat.le_of_ble_eq_true rfl) (by decide) (Nat.le_of_ble_eq_true rfl) (Nat.le_of_ble_eq_true rfl)) ?_
        rintro _ μq ⟨rfl, hμq⟩
        rw [hμq]
        clear hμq μq
        rw [e0]
        refine r_i2l (pc := 122) X dX7_nextToken_122 rfl ?_
        refine r_ldc2 (pc := 123) X k_X7_75 dX7_nextToken_123 ?_
        refine r_ldc2 (pc := 126) X k_X7_77 dX7_nextToken_126 ?_
        refine c_i X (rS (pc := 129) X l_X7_45 (t7_in (nI (xs B)).toInt64 48 57) dX7_nextToken_129 rfl rfl (Nat.le_of_ble_eq_true rfl) (by decide) (Nat.le_of_ble_eq_true rfl) (Nat.le_of_ble_eq_true rfl)) ?_
        rintro _ μq ⟨rfl, hμq⟩
        rw [hμq]
        clear hμq μq
        rw [in_dg hxB]
        first | refine r_if_eqZ (pc := 132) X 194 dX7_nextToken_132 (by decide) (fun h6 => ?_) (fun h6 => ?_) | refine r_if_eqN (pc := 132) X 194 dX7_nextToken_132 (by decide) (by omega) (fun h6 => ?_) (fun h6 => ?_) | refine r_if_eq (pc := 132) X 194 dX7_nextToken_132 (by decide) (fun h6 => ?_) (fun h6 => ?_)
        · have eE2 : tkE xs n B = B + 1 := by
            rw [eE]
            have key : ∀ c, tkq (xs B) c = false := fun c => by unfold tkq; rw [h5, h6]; rfl
            exact rn_n (Or.inr (key _))
          have eK : tkK xs n B = 0 := by unfold tkK; rw [if_neg (by omega), if_neg (by simp [h5]), if_neg (by simp [h6])]
          have eV : tkV xs n B = xs B := by unfold tkV; rw [if_neg (by omega), if_neg (by simp [h5]), if_neg (by simp [h6])]
          rw [eE2, eK, eV]
          refine r_aload_n (pc := 194) X dX7_nextToken_194 rfl ?_
          apply r_get (pc := 195) X f_X7_68 dX7_nextToken_195
          · repeat (first | exact mu_self | assumption | refine (mu_ne (by omega)).trans ?_)
          · rfl
          refine r_iconst (pc := 198) (v := nI 2) X dX7_nextToken_198 (by decide) ?_
          refine r_icmp_neN (pc := 199) X 222 dX7_nextToken_199 (by decide) (by omega) (by omega) (fun _ => ?_) (fun q => absurd q (by omega))
          refine r_aload_n (pc := 222) X dX7_nextToken_222 rfl ?_
          apply r_get (pc := 223) X f_X7_68 dX7_nextToken_223
          · repeat (first | exact mu_self | assumption | refine (mu_ne (by omega)).trans ?_)
          · rfl
          refine r_if_neN (pc := 226) X 252 dX7_nextToken_226 (by decide) (by omega) (fun q => absurd rfl q) (fun _ => ?_)
          refine r_aload_n (pc := 229) X dX7_nextToken_229 rfl ?_
          refine r_aload_n (pc := 230) X dX7_nextToken_230 rfl ?_
          apply r_get (pc := 231) X f_X7_16 dX7_nextToken_231
          · repeat (first | exact mu_self | assumption | refine (mu_ne (by omega)).trans ?_)
          · rfl
          refine r_aload_n (pc := 234) X dX7_nextToken_234 rfl ?_
          apply r_get (pc := 235) X f_X7_55 dX7_nextToken_235
          · repeat (first | exact mu_self | assumption | refine (mu_ne (by omega)).trans ?_)
          · rfl
          apply r_iald (pc := 238) X dX7_nextToken_238
          · repeat (first | exact mu_self | assumption | refine (mu_ne (by omega)).trans ?_)
          · omega
          · decide
          first | refine r_putS (pc := 239) X f_X7_65 dX7_nextToken_239 (by first | rfl | assumption | decide | simp [narrow]) (by first | rfl | assumption) (Nat.le_of_ble_eq_true rfl) ?_ | refine r_put (pc := 239) X f_X7_65 dX7_nextToken_239 (by repeat (first | exact mu_self | assumption | refine (mu_ne (by omega)).trans ?_)) (by first | rfl | assumption | decide | simp [narrow]) (by first | rfl | assumption) (Nat.le_of_ble_eq_true rfl) ?_
          refine r_aload_n (pc := 242) X dX7_nextToken_242 rfl ?_
          refine r_dup (pc := 243) X dX7_nextToken_243 rfl ?_
          apply r_get (pc := 244) X f_X7_55 dX7_nextToken_244
          · repeat (first | exact mu_self | assumption | refine (mu_ne (by omega)).trans ?_)
          · rfl
          refine r_iconst (pc := 247) (v := nI 1) X dX7_nextToken_247 (by decide) ?_
          first | refine r_iaddN (pc := 248) X dX7_nextToken_248 ?_ | refine r_iadd (pc := 248) X dX7_nextToken_248 ?_
          first | refine r_putS (pc := 249) X f_X7_55 dX7_nextToken_249 (by first | rfl | assumption | decide | simp [narrow]) (by first | rfl | assumption) (Nat.le_of_ble_eq_true rfl) ?_ | refine r_put (pc := 249) X f_X7_55 dX7_nextToken_249 (by repeat (first | exact mu_self | assumption | refine (mu_ne (by omega)).trans ?_)) (by first | rfl | assumption | decide | simp [narrow]) (by first | rfl | assumption) (Nat.le_of_ble_eq_true rfl) ?_
          exact r_vret (pc := 252) X dX7_nextToken_252 (rfl)
        · have h6' : 48 ≤ xs B ∧ xs B ≤ 57 := by unfold isDg at h6; simpa using h6
          refine r_aload_n (pc := 135) X dX7_nextToken_135 rfl ?_
          refine r_aload_n (pc := 136) X dX7_nextToken_136 rfl ?_
          apply r_get (pc := 137) X f_X7_65 dX7_nextToken_137
          · repeat (first | exact mu_self | assumption | refine (mu_ne (by omega)).trans ?_)
          · rfl
          refine r_sipush (pc := 140) (v := nI 999) X dX7_nextToken_140 (by decide) ?_
          first | refine r_icmp_leN (pc := 143) X 153 dX7_nextToken_143 (by decide) (by omega) (by omega) (fun h7 => ?_) (fun h7 => ?_) | refine r_icmp_le (pc := 143) X 153 dX7_nextToken_143 (by decide) (fun h7 => ?_) (fun h7 => ?_)
          · refine r_bipush (pc := 153) (v := nI 10) X dX7_nextToken_153 (by decide) ?_
            refine r_aload_n (pc := 155) X dX7_nextToken_155 rfl ?_
            apply r_get (pc := 156) X f_X7_65 dX7_nextToken_156
            · repeat (first | exact mu_self | assumption | refine (mu_ne (by omega)).trans ?_)
            · rfl
            first | refine r_imulN (pc := 159) X dX7_nextToken_159 ?_ | refine r_imul (pc := 159) X dX7_nextToken_159 ?_
            refine r_aload_n (pc := 160) X dX7_nextToken_160 rfl ?_
            apply r_get (pc := 161) X f_X7_16 dX7_nextToken_161
            · repeat (first | exact mu_self | assumption | refine (mu_ne (by omega)).trans ?_)
            · rfl
            refine r_aload_n (pc := 164) X dX7_nextToken_164 rfl ?_
            apply r_get (pc := 165) X f_X7_55 dX7_nextToken_165
            · repeat (first | exact mu_self | assumption | refine (mu_ne (by omega)).trans ?_)
            · rfl
            apply r_iald (pc := 168) X dX7_nextToken_168
            · repeat (first | exact mu_self | assumption | refine (mu_ne (by omega)).trans ?_)
            · omega
            · decide
            first | refine r_iaddN (pc := 169) X dX7_nextToken_169 ?_ | refine r_iadd (pc := 169) X dX7_nextToken_169 ?_
            refine r_bipush (pc := 170) (v := nI 48) X dX7_nextToken_170 (by decide) ?_
            first | refine r_isubN (pc := 172) X dX7_nextToken_172 (by omega) ?_ | refine r_isub (pc := 172) X dX7_nextToken_172 ?_
            first | refine r_putS (pc := 173) X f_X7_65 dX7_nextToken_173 (by first | rfl | assumption | decide | simp [narrow]) (by first | rfl | assumption) (Nat.le_of_ble_eq_true rfl) ?_ | refine r_put (pc := 173) X f_X7_65 dX7_nextToken_173 (by repeat (first | exact mu_self | assumption | refine (mu_ne (by omega)).trans ?_)) (by first | rfl | assumption | decide | simp [narrow]) (by first | rfl | assumption) (Nat.le_of_ble_eq_true rfl) ?_
            refine r_aload_n (pc := 176) X dX7_nextToken_176 rfl ?_
            refine r_iconst (pc := 177) (v := nI 2) X dX7_nextToken_177 (by decide) ?_
            first | refine r_putS (pc := 178) X f_X7_68 dX7_nextToken_178 (by first | rfl | assumption | decide | simp [narrow]) (by first | rfl | assumption) (Nat.le_of_ble_eq_true rfl) ?_ | refine r_put (pc := 178) X f_X7_68 dX7_nextToken_178 (by repeat (first | exact mu_self | assumption | refine (mu_ne (by omega)).trans ?_)) (by first | rfl | assumption | decide | simp [narrow]) (by first | rfl | assumption) (Nat.le_of_ble_eq_true rfl) ?_
            refine r_aload_n (pc := 181) X dX7_nextToken_181 rfl ?_
            refine r_dup (pc := 182) X dX7_nextToken_182 rfl ?_
            apply r_get (pc := 183) X f_X7_55 dX7_nextToken_183
            · repeat (first | exact mu_self | assumption | refine (mu_ne (by omega)).trans ?_)
            · rfl
            refine r_iconst (pc := 186) (v := nI 1) X dX7_nextToken_186 (by decide) ?_
            first | refine r_iaddN (pc := 187) X dX7_nextToken_187 ?_ | refine r_iadd (pc := 187) X dX7_nextToken_187 ?_
            first | refine r_putS (pc := 188) X f_X7_55 dX7_nextToken_188 (by first | rfl | assumption | decide | simp [narrow]) (by first | rfl | assumption) (Nat.le_of_ble_eq_true rfl) ?_ | refine r_put (pc := 188) X f_X7_55 dX7_nextToken_188 (by repeat (first | exact mu_self | assumption | refine (mu_ne (by omega)).trans ?_)) (by first | rfl | assumption | decide | simp [narrow]) (by first | rfl | assumption) (Nat.le_of_ble_eq_true rfl) ?_
            refine r_goto (pc := 191) X 106 dX7_nextToken_191 (by decide) ?_
            refine dig (n - (B + 1)) (B + 1) _ (by omega) (by omega) h6 h5 (fun i q1 q2 => by rw [show i = B by omega]; exact h6) (by omega) (fun _ => ?_) eE
            rw [show B + 1 - B = 0 + 1 by omega]
            rfl
          · exact absurd (by omega) h7
      · refine r_aload_n (pc := 88) X dX7_nextToken_88 rfl ?_
        refine r_iconst (pc := 89) (v := nI 1) X dX7_nextToken_89 (by decide) ?_
        first | refine r_putS (pc := 90) X f_X7_68 dX7_nextToken_90 (by first | rfl | assumption | decide | simp [narrow]) (by first | rfl | assumption) (Nat.le_of_ble_eq_true rfl) ?_ | refine r_put (pc := 90) X f_X7_68 dX7_nextToken_90 (by repeat (first | exact mu_self | assumption | refine (mu_ne (by omega)).trans ?_)) (by first | rfl | assumption | decide | simp [narrow]) (by first | rfl | assumption) (Nat.le_of_ble_eq_true rfl) ?_
        refine r_aload_n (pc := 93) X dX7_nextToken_93 rfl ?_
        refine r_dup (pc := 94) X dX7_nextToken_94 rfl ?_
        apply r_get (pc := 95) X f_X7_55 dX7_nextToken_95
        · repeat (first | exact mu_self | assumption | refine (mu_ne (by omega)).trans ?_)
        · rfl
        refine r_iconst (pc := 98) (v := nI 1) X dX7_nextToken_98 (by decide) ?_
        first | refine r_iaddN (pc := 99) X dX7_nextToken_99 ?_ | refine r_iadd (pc := 99) X dX7_nextToken_99 ?_
        first | refine r_putS (pc := 100) X f_X7_55 dX7_nextToken_100 (by first | rfl | assumption | decide | simp [narrow]) (by first | rfl | assumption) (Nat.le_of_ble_eq_true rfl) ?_ | refine r_put (pc := 100) X f_X7_55 dX7_nextToken_100 (by repeat (first | exact mu_self | assumption | refine (mu_ne (by omega)).trans ?_)) (by first | rfl | assumption | decide | simp [narrow]) (by first | rfl | assumption) (Nat.le_of_ble_eq_true rfl) ?_
        refine r_goto (pc := 103) X 59 dX7_nextToken_103 (by decide) ?_
        exact sml (n - (B + 1)) (B + 1) (by omega) hBn h5 eE
    · have hBn : B = n := by omega
      refine r_iconst (pc := 51) (v := nI 3) X dX7_nextToken_51 (by decide) ?_
      refine r_goto (pc := 52) X 56 dX7_nextToken_52 (by decide) ?_
      first | refine r_putS (pc := 56) X f_X7_68 dX7_nextToken_56 (by first | rfl | assumption | decide | simp [narrow]) (by first | rfl | assumption) (Nat.le_of_ble_eq_true rfl) ?_ | refine r_put (pc := 56) X f_X7_68 dX7_nextToken_56 (by repeat (first | exact mu_self | assumption | refine (mu_ne (by omega)).trans ?_)) (by first | rfl | assumption | decide | simp [narrow]) (by first | rfl | assumption) (Nat.le_of_ble_eq_true rfl) ?_
      refine r_aload_n (pc := 59) X dX7_nextToken_59 rfl ?_
      apply r_get (pc := 60) X f_X7_68 dX7_nextToken_60
      · repeat (first | exact mu_self | assumption | refine (mu_ne (by omega)).trans ?_)
      · rfl
      refine r_iconst (pc := 63) (v := nI 2) X dX7_nextToken_63 (by decide) ?_
      refine r_icmp_geN (pc := 64) X 106 dX7_nextToken_64 (by decide) (by omega) (by omega) (fun _ => ?_) (fun q => absurd (by omega) q)
      refine r_aload_n (pc := 106) X dX7_nextToken_106 rfl ?_
      apply r_get (pc := 107) X f_X7_68 dX7_nextToken_107
      · repeat (first | exact mu_self | assumption | refine (mu_ne (by omega)).trans ?_)
      · rfl
      refine r_iconst (pc := 110) (v := nI 1) X dX7_nextToken_110 (by decide) ?_
      refine r_icmp_eqN (pc := 111) X 194 dX7_nextToken_111 (by decide) (by omega) (by omega) (fun q => absurd q (by omega)) (fun _ => ?_)
      refine r_aload_n (pc := 114) X dX7_nextToken_114 rfl ?_
      refine r_aload_n (pc := 115) X dX7_nextToken_115 rfl ?_
      apply r_get (pc := 116) X f_X7_55 dX7_nextToken_116
      · repeat (first | exact mu_self | assumption | refine (mu_ne (by omega)).trans ?_)
      · rfl
      refine c_i X (rV (pc := 119) (ci := 7) X l_X7_58 (t7_letterAt (xs := xs) mu_self ((mu_ne (by omega)).trans hX) hn (k' := B) (by omega)) dX7_nextToken_119 (by repeat (first | exact mu_self | assumption | refine (mu_ne (by omega)).trans ?_)) rfl rfl rfl (Nat.le_of_ble_eq_true rfl) (by decide) (Nat.le_of_ble_eq_true rfl) (Nat.le_of_ble_eq_true rfl)) ?_
      rintro _ μq ⟨rfl, hμq⟩
      rw [hμq]
      clear hμq μq
      have e0 : lA xs n B = 0 := by unfold lA; rw [if_neg (by omega)]
      rw [e0]
      refine r_i2l (pc := 122) X dX7_nextToken_122 rfl ?_
      refine r_ldc2 (pc := 123) X k_X7_75 dX7_nextToken_123 ?_
      refine r_ldc2 (pc := 126) X k_X7_77 dX7_nextToken_126 ?_
      refine c_i X (rS (pc := 129) X l_X7_45 (t7_in (nI 0).toInt64 48 57) dX7_nextToken_129 rfl rfl (Nat.le_of_ble_eq_true rfl) (by decide) (Nat.le_of_ble_eq_true rfl) (Nat.le_of_ble_eq_true rfl)) ?_
      rintro _ μq ⟨rfl, hμq⟩
      rw [hμq]
      clear hμq μq
      rw [in_dg (by omega)]
      first | refine r_if_eqZ (pc := 132) X 194 dX7_nextToken_132 (by decide) (fun h5 => ?_) (fun h5 => ?_) | refine r_if_eqN (pc := 132) X 194 dX7_nextToken_132 (by decide) (by omega) (fun h5 => ?_) (fun h5 => ?_) | refine r_if_eq (pc := 132) X 194 dX7_nextToken_132 (by decide) (fun h5 => ?_) (fun h5 => ?_)
      · exact out B 3 0 (by omega) (by omega) (by omega) (by unfold tkE; rw [if_pos (by omega)]) (by unfold tkK; rw [if_pos (by omega)]) (by unfold tkV; rw [if_pos (by omega)])
      · exact absurd h5 (by decide)
  have key : ∀ (N i : Nat), i + N = n → tkB xs n p0 = tkB xs n i → vV Γ p l e R s m args below meth c (vQ Γ s args below 0 0 (rv (fun μ' => μ' = mu μ y (mdO y n (nI (tkE xs n (tkB xs n p0))) (nI (tkK xs n (tkB xs n p0))) (nI (tkV xs n (tkB xs n p0))) (nI (tkB xs n p0)) cl un sn)))) 1 0 0 0 [some (.ref (y))] [] (mu μ y (mdO y n (nI i) tk vl bg cl un sn)) := by
    intro N
    induction N with
    | zero =>
      intro i hi hB
      refine r_aload_n (pc := 0) X dX7_nextToken_0 rfl ?_
      refine r_aload_n (pc := 1) X dX7_nextToken_1 rfl ?_
      apply r_get (pc := 2) X f_X7_55 dX7_nextToken_2
      · repeat (first | exact mu_self | assumption | refine (mu_ne (by omega)).trans ?_)
      · rfl
      refine c_i X (rV (pc := 5) (ci := 7) X l_X7_58 (t7_letterAt (xs := xs) mu_self ((mu_ne (by omega)).trans hX) hn (k' := i) (by omega)) dX7_nextToken_5 (by repeat (first | exact mu_self | assumption | refine (mu_ne (by omega)).trans ?_)) rfl rfl rfl (Nat.le_of_ble_eq_true rfl) (by decide) (Nat.le_of_ble_eq_true rfl) (Nat.le_of_ble_eq_true rfl)) ?_
      rintro _ μq ⟨rfl, hμq⟩
      rw [hμq]
      clear hμq μq
      have e0 : lA xs n i = 0 := by unfold lA; rw [if_neg (by omega)]
      rw [e0]
      refine r_bipush (pc := 8) (v := nI 32) X dX7_nextToken_8 (by decide) ?_
      refine r_icmp_neN (pc := 10) X 26 dX7_nextToken_10 (by decide) (by omega) (by omega) (fun _ => ?_) (fun q => absurd q (by omega))
      exact fin0 i (by omega) (by rw [hB]; exact rn_n (Or.inl (by omega)))
    | succ N ih =>
      intro i hi hB
      have hxi := hx i
      refine r_aload_n (pc := 0) X dX7_nextToken_0 rfl ?_
      refine r_aload_n (pc := 1) X dX7_nextToken_1 rfl ?_
      apply r_get (pc := 2) X f_X7_55 dX7_nextToken_2
      · repeat (first | exact mu_self | assumption | refine (mu_ne (by omega)).trans ?_)
      · rfl
      refine c_i X (rV (pc := 5) (ci := 7) X l_X7_58 (t7_letterAt (xs := xs) mu_self ((mu_ne (by omega)).trans hX) hn (k' := i) (by omega)) dX7_nextToken_5 (by repeat (first | exact mu_self | assumption | refine (mu_ne (by omega)).trans ?_)) rfl rfl rfl (Nat.le_of_ble_eq_true rfl) (by decide) (Nat.le_of_ble_eq_true rfl) (Nat.le_of_ble_eq_true rfl)) ?_
      rintro _ μq ⟨rfl, hμq⟩
      rw [hμq]
      clear hμq μq
      have e0 : lA xs n i = xs i := by unfold lA; rw [if_pos (by omega)]
      rw [e0]
      refine r_bipush (pc := 8) (v := nI 32) X dX7_nextToken_8 (by decide) ?_
      first | refine r_icmp_neN (pc := 10) X 26 dX7_nextToken_10 (by decide) (by omega) (by omega) (fun h2 => ?_) (fun h2 => ?_) | refine r_icmp_ne (pc := 10) X 26 dX7_nextToken_10 (by decide) (fun h2 => ?_) (fun h2 => ?_)
      · exact fin0 i (by omega) (by rw [hB]; exact rn_n (Or.inr (by simpa using h2)))
      · refine r_aload_n (pc := 13) X dX7_nextToken_13 rfl ?_
        refine r_dup (pc := 14) X dX7_nextToken_14 rfl ?_
        apply r_get (pc := 15) X f_X7_55 dX7_nextToken_15
        · repeat (first | exact mu_self | assumption | refine (mu_ne (by omega)).trans ?_)
        · rfl
        refine r_iconst (pc := 18) (v := nI 1) X dX7_nextToken_18 (by decide) ?_
        first | refine r_iaddN (pc := 19) X dX7_nextToken_19 ?_ | refine r_iadd (pc := 19) X dX7_nextToken_19 ?_
        first | refine r_putS (pc := 20) X f_X7_55 dX7_nextToken_20 (by first | rfl | assumption | decide | simp [narrow]) (by first | rfl | assumption) (Nat.le_of_ble_eq_true rfl) ?_ | refine r_put (pc := 20) X f_X7_55 dX7_nextToken_20 (by repeat (first | exact mu_self | assumption | refine (mu_ne (by omega)).trans ?_)) (by first | rfl | assumption | decide | simp [narrow]) (by first | rfl | assumption) (Nat.le_of_ble_eq_true rfl) ?_
        refine r_goto (pc := 23) X 0 dX7_nextToken_23 (by decide) ?_
        exact ih (i + 1) (by omega) (by rw [hB]; exact rn_y (by omega) (by simpa using h2))
  have hq := key (n - p0) p0 (by omega) rfl
  have em : mu μ y (mdO y n (nI p0) tk vl bg cl un sn) = μ := by
    funext q
    by_cases hqy : q = y
    · subst hqy; rw [mu_self, hO]
    · rw [mu_ne hqy]
  rw [em] at hq
  exact hq
end S55
