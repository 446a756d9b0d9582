theorem tkK_3 {xs : Nat → Nat} {n b : Nat} : tkK xs n b = 3 ↔ n ≤ b := by
  unfold tkK
  constructor
  · intro h
    split at h
    · assumption
    · split at h
      · omega
      · split at h <;> omega
  · intro h
    rw [if_pos h]
theorem tkK_0 {xs : Nat → Nat} {n b : Nat} (h : tkK xs n b = 0) : b < n ∧ tkV xs n b = xs b := by
  unfold tkK at h
  unfold tkV
  split at h
  · omega
  · split at h
    · omega
    · split at h
      · omega
      · rename_i h1 h2 h3
        rw [if_neg h1, if_neg h2, if_neg h3]
        exact ⟨by omega, rfl⟩
theorem tkK_59 {xs : Nat → Nat} {n b : Nat} (h : tkK xs n b ≠ 0) (h2 : ¬ n ≤ b) : xs b ≠ 59 := by
  intro q
  apply h
  unfold tkK
  rw [if_neg h2, q]
  rfl
section S59
variable {Γ : KK} {l : Launch} {sz : Nat} {μ : MM} {y n : Nat} {pl tk vl bg cl : Int32} {un sn : Nat} {xs : Nat → Nat} {T : Nat → Nat}
theorem t7_readText {rd : Nat → Int32} (hO : μ y = some (mdO y n pl tk vl bg cl un sn)) (hT : μ (y + 1) = some (xI Γ 29 (fun i => nI (T i)))) (hX : μ (y + 3) = some (xI Γ 160 (fun i => nI (xs i)))) (hR : μ (y + 4) = some (xI Γ 29 rd)) (hI : IT T) (hn : n ≤ 160) (hx : ∀ i, xs i < 256) : CT Γ l 5 sz 0 0 mX7_readText [.ref y] μ (ri (fun r μ' => r = zb (decide ((rdT xs n 14 0 T 0 0).1 = 0)) ∧ ∃ (pl' tk' vl' bg' cl' : Int32) (rd' : Nat → Int32), μ' y = some (mdO y n pl' tk' vl' bg' cl' un sn) ∧ μ' (y + 4) = some (xI Γ 29 rd') ∧ (∀ q, q ≠ y → q ≠ y + 4 → μ' q = μ q) ∧ ((rdT xs n 14 0 T 0 0).1 = 0 → cl' = nI (rdT xs n 14 0 T 0 0).2.2 ∧ rd' = fun i => nI ((rdT xs n 14 0 T 0 0).2.1 i)) ∧ ((rdT xs n 14 0 T 0 0).1 ≠ 0 → bg' = uI (rdT xs n 14 0 T 0 0).1))) := by
  obtain ⟨R, hRe⟩ : ∃ R, rdT xs n 14 0 T 0 0 = R := ⟨_, rfl⟩
  rw [hRe]
  refine CT.go RX7 rfl "readText" rfl [some (.ref y), none] rfl (by decide) (Nat.le_of_ble_eq_true rfl) ?_
  intro p e R0 s m args below meth c X hsz
  have loop : ∀ (f k : Nat) (T' : Nat → Nat) (e' b' : Nat) (μ1 : MM) (tk vl bg : Int32), f + 1 + k = 14 → e' ≤ n → IT T' → μ1 y = some (mdO y n (nI e') tk vl bg (nI k) un sn) → μ1 (y + 4) = some (xI Γ 29 (fun i => nI (T' i))) → (∀ q, q ≠ y → q ≠ y + 4 → μ1 q = μ q) → rdT xs n (f + 1) k T' e' b' = R → vV Γ p l e R0 s m args below meth c (vQ Γ s args below 0 0 (ri (fun r μ' => r = zb (decide (R.1 = 0)) ∧ ∃ (pl' tk' vl' bg' cl' : Int32) (rd' : Nat → Int32), μ' y = some (mdO y n pl' tk' vl' bg' cl' un sn) ∧ μ' (y + 4) = some (xI Γ 29 rd') ∧ (∀ q, q ≠ y → q ≠ y + 4 → μ' q = μ q) ∧ (R.1 = 0 → cl' = nI R.2.2 ∧ rd' = fun i => nI (R.2.1 i)) ∧ (R.1 ≠ 0 → bg' = uI R.1)))) 2 0 0 36 [some (.ref y), some (.int (nI 29))] [] μ1 := by
    intro f
    induction f with
    | zero =>
      intro k T' e' b' μ1 tk vl bg hk he hT' m0 m4 mF hr
      obtain ⟨r1, r2, r3⟩ := rcl_ok (xs := xs) hT' he
      obtain ⟨Q, hQ⟩ : ∃ Q, Q = rcl xs n T' e' := ⟨_, rfl⟩
      rw [← hQ] at r1 r2 r3
      have hb2 := tkB_le (xs := xs) r2
      have he2 := tkE_le (X := xs) hb2
      have hr' : (if Q.1 = false then (Q.2.2.1 + 1, Q.2.1, 0) else if n ≤ tkB xs n Q.2.2.2 then (0, Q.2.1, k + 1) else if xs (tkB xs n Q.2.2.2) ≠ 59 then (tkB xs n Q.2.2.2 + 1, Q.2.1, 0) else rdT xs n 0 (k + 1) Q.2.1 (tkE xs n (tkB xs n Q.2.2.2)) (tkB xs n Q.2.2.2)) = R := by rw [hQ]; exact hr
      have mX := (mF (y + 3) (by omega) (by omega)).trans hX
      refine r_aload_n (pc := 36) X dX7_readText_36 rfl ?_
      refine c_v X (rV (pc := 37) (ci := 7) X l_X7_89 (t7_nextToken m0 mX hn hx he) dX7_readText_37 (by repeat (first | exact mu_self | assumption | refine (mu_ne (by omega)).trans ?_)) rfl rfl rfl (Nat.le_of_ble_eq_true rfl) (by decide) (Nat.le_of_ble_eq_true rfl) (Nat.le_of_ble_eq_true rfl)) ?_
      rintro _ rfl
      refine r_aload_n (pc := 40) X dX7_readText_40 rfl ?_
      refine c_i X (rV (pc := 41) (ci := 7) X l_X7_107 (t7_readClause (e0 := e') mu_self ((mu_ne (by omega)).trans mX) ((mu_ne (by omega)).trans m4) hT' hn hx he) dX7_readText_41 (by repeat (first | exact mu_self | assumption | refine (mu_ne (by omega)).trans ?_)) rfl rfl rfl (Nat.le_of_ble_eq_true rfl) (by decide) (Nat.le_of_ble_eq_true rfl) (Nat.le_of_ble_eq_true rfl)) ?_
      rintro rr0 μ2 ⟨hrr, ⟨tk', vl', c0⟩, c4, cF⟩
      subst hrr
      rw [← hQ] at c0 c4 ⊢
      have cF' : ∀ q, q ≠ y → q ≠ y + 4 → μ2 q = μ q := fun q h1 h2 => (cF q h1 h2).trans ((mu_ne h1).trans (mF q h1 h2))
      clear cF
      first | refine r_if_neZ (pc := 44) X 49 dX7_readText_44 (by decide) (fun h1 => ?_) (fun h1 => ?_) | refine r_if_neN (pc := 44) X 49 dX7_readText_44 (by decide) (by omega) (fun h1 => ?_) (fun h1 => ?_) | refine r_if_ne (pc := 44) X 49 dX7_readText_44 (by decide) (fun h1 => ?_) (fun h1 => ?_)
      rotate_left
      · rw [if_pos h1] at hr'
        rw [← hr']
        refine r_iconst (pc := 47) (v := nI 0) X dX7_readText_47 (by decide) ?_
        exact r_zret (pc := 48) X dX7_readText_48 (by first | rfl | decide | exact zb_nar _) (⟨rfl, _, _, _, _, _, _, c0, c4, cF', fun q => absurd q (Nat.succ_ne_zero _), fun _ => (uI_S _).symm⟩)
      rw [if_neg (by simp [h1])] at hr'
      have mX2 := (cF' (y + 3) (by omega) (by omega)).trans hX
      refine r_aload_n (pc := 49) X dX7_readText_49 rfl ?_
      refine r_dup (pc := 50) X dX7_readText_50 rfl ?_
      apply r_get (pc := 51) X f_X7_104 dX7_readText_51
      · repeat (first | exact mu_self | assumption | refine (mu_ne (by omega)).trans ?_)
      · rfl
      refine r_iconst (pc := 54) (v := nI 1) X dX7_readText_54 (by decide) ?_
      first | refine r_iaddN (pc := 55) X dX7_readText_55 ?_ | refine r_iadd (pc := 55) X dX7_readText_55 ?_
      first | refine r_putS (pc := 56) X f_X7_104 dX7_readText_56 (by first | rfl | assumption | decide | simp [narrow]) (by first | rfl | assumption) (Nat.le_of_ble_eq_true rfl) ?_ | refine r_put (pc := 56) X f_X7_104 dX7_readText_56 (by repeat (first | exact mu_self | assumption | refine (mu_ne (by omega)).trans ?_)) (by first | rfl | assumption | decide | simp [narrow]) (by first | rfl | assumption) (Nat.le_of_ble_eq_true rfl) ?_
      refine r_aload_n (pc := 59) X dX7_readText_59 rfl ?_
      refine c_v X (rV (pc := 60) (ci := 7) X l_X7_89 (t7_nextToken mu_self ((mu_ne (by omega)).trans mX2) hn hx r2) dX7_readText_60 (by repeat (first | exact mu_self | assumption | refine (mu_ne (by omega)).trans ?_)) rfl rfl rfl (Nat.le_of_ble_eq_true rfl) (by decide) (Nat.le_of_ble_eq_true rfl) (Nat.le_of_ble_eq_true rfl)) ?_
      rintro _ rfl
      rw [mu_mu]
      have hK := tkK_le (xs := xs) (n := n) (b := tkB xs n Q.2.2.2)
      have c4' : mu μ2 y (mdO y n (nI (tkE xs n (tkB xs n Q.2.2.2))) (nI (tkK xs n (tkB xs n Q.2.2.2))) (nI (tkV xs n (tkB xs n Q.2.2.2))) (nI (tkB xs n Q.2.2.2)) (nI (k + 1)) un sn) (y + 4) = some (xI Γ 29 (fun i => nI (Q.2.1 i))) := (mu_ne (by omega)).trans c4
      have no : R = (tkB xs n Q.2.2.2 + 1, R.2.1, R.2.2) → vV Γ p l e R0 s m args below meth c (vQ Γ s args below 0 0 (ri (fun r μ' => r = zb (decide (R.1 = 0)) ∧ ∃ (pl' tk' vl' bg' cl' : Int32) (rd' : Nat → Int32), μ' y = some (mdO y n pl' tk' vl' bg' cl' un sn) ∧ μ' (y + 4) = some (xI Γ 29 rd') ∧ (∀ q, q ≠ y → q ≠ y + 4 → μ' q = μ q) ∧ (R.1 = 0 → cl' = nI R.2.2 ∧ rd' = fun i => nI (R.2.1 i)) ∧ (R.1 ≠ 0 → bg' = uI R.1)))) 2 0 0 98 [some (.ref y), some (.int (nI 29))] [] (mu μ2 y (mdO y n (nI (tkE xs n (tkB xs n Q.2.2.2))) (nI (tkK xs n (tkB xs n Q.2.2.2))) (nI (tkV xs n (tkB xs n Q.2.2.2))) (nI (tkB xs n Q.2.2.2)) (nI (k + 1)) un sn)) := by
        intro hq
        have hq1 : R.1 = tkB xs n Q.2.2.2 + 1 := by rw [hq]
        refine r_iconst (pc := 98) (v := nI 0) X dX7_readText_98 (by decide) ?_
        exact r_zret (pc := 99) X dX7_readText_99 (by first | rfl | decide | exact zb_nar _) (⟨by rw [decide_eq_false (by omega)]; rfl, _, _, _, _, _, _, mu_self, c4', fun q h1 h2 => (mu_ne h1).trans (cF' q h1 h2), fun q => absurd q (by omega), fun _ => by rw [hq1, uI_S]⟩)
      refine r_aload_n (pc := 63) X dX7_readText_63 rfl ?_
      apply r_get (pc := 64) X f_X7_68 dX7_readText_64
      · repeat (first | exact mu_self | assumption | refine (mu_ne (by omega)).trans ?_)
      · rfl
      refine r_iconst (pc := 67) (v := nI 3) X dX7_readText_67 (by decide) ?_
      first | refine r_icmp_neN (pc := 68) X 73 dX7_readText_68 (by decide) (by omega) (by omega) (fun h2 => ?_) (fun h2 => ?_) | refine r_icmp_ne (pc := 68) X 73 dX7_readText_68 (by decide) (fun h2 => ?_) (fun h2 => ?_)
      · have h2' : ¬ n ≤ tkB xs n Q.2.2.2 := fun q => h2 (tkK_3.mpr q)
        rw [if_neg h2'] at hr'
        refine r_aload_n (pc := 73) X dX7_readText_73 rfl ?_
        apply r_get (pc := 74) X f_X7_68 dX7_readText_74
        · repeat (first | exact mu_self | assumption | refine (mu_ne (by omega)).trans ?_)
        · rfl
        first | refine r_if_neZ (pc := 77) X 98 dX7_readText_77 (by decide) (fun h3 => ?_) (fun h3 => ?_) | refine r_if_neN (pc := 77) X 98 dX7_readText_77 (by decide) (by omega) (fun h3 => ?_) (fun h3 => ?_) | refine r_if_ne (pc := 77) X 98 dX7_readText_77 (by decide) (fun h3 => ?_) (fun h3 => ?_)
        · have h59 := tkK_59 h3 h2'
          rw [if_pos h59] at hr'
          exact no (by rw [← hr'])
        · obtain ⟨hbn, hV⟩ := tkK_0 h3
          have hxb := hx (tkB xs n Q.2.2.2)
          refine r_aload_n (pc := 80) X dX7_readText_80 rfl ?_
          apply r_get (pc := 81) X f_X7_65 dX7_readText_81
          · repeat (first | exact mu_self | assumption | refine (mu_ne (by omega)).trans ?_)
          · rfl
          rw [hV]
          refine r_bipush (pc := 84) (v := nI 59) X dX7_readText_84 (by decide) ?_
          rw [← hV]
          rw [← hV] at hxb
          first | refine r_icmp_neN (pc := 86) X 98 dX7_readText_86 (by decide) (by omega) (by omega) (fun h4 => ?_) (fun h4 => ?_) | refine r_icmp_ne (pc := 86) X 98 dX7_readText_86 (by decide) (fun h4 => ?_) (fun h4 => ?_)
          · rw [if_pos (by rw [← hV]; exact h4)] at hr'
            exact no (by rw [← hr'])
          · rw [if_neg (fun q => q (by rw [← hV]; exact h4))] at hr'
            refine r_aload_n (pc := 89) X dX7_readText_89 rfl ?_
            apply r_get (pc := 90) X f_X7_104 dX7_readText_90
            · repeat (first | exact mu_self | assumption | refine (mu_ne (by omega)).trans ?_)
            · rfl
            refine r_bipush (pc := 93) (v := nI 14) X dX7_readText_93 (by decide) ?_
            first | refine r_icmp_neN (pc := 95) X 36 dX7_readText_95 (by decide) (by omega) (by omega) (fun h5 => ?_) (fun h5 => ?_) | refine r_icmp_ne (pc := 95) X 36 dX7_readText_95 (by decide) (fun h5 => ?_) (fun h5 => ?_)
            · omega
            · exact no (by rw [← hr']; rfl)
      · have h2' : n ≤ tkB xs n Q.2.2.2 := tkK_3.mp h2
        rw [if_pos h2'] at hr'
        rw [← hr']
        refine r_iconst (pc := 71) (v := nI 1) X dX7_readText_71 (by decide) ?_
        exact r_zret (pc := 72) X dX7_readText_72 (by first | rfl | decide | exact zb_nar _) (⟨rfl, _, _, _, _, _, _, mu_self, c4', fun q h1 h2 => (mu_ne h1).trans (cF' q h1 h2), fun _ => ⟨rfl, rfl⟩, fun q => absurd rfl q⟩)
    | succ f ih =>
      intro k T' e' b' μ1 tk vl bg hk he hT' m0 m4 mF hr
      obtain ⟨r1, r2, r3⟩ := rcl_ok (xs := xs) hT' he
      obtain ⟨Q, hQ⟩ : ∃ Q, Q = rcl xs n T' e' := ⟨_, rfl⟩
      rw [← hQ] at r1 r2 r3
      have hb2 := tkB_le (xs := xs) r2
      have he2 := tkE_le (X := xs) hb2
      have hr' : (if Q.1 = false then (Q.2.2.1 + 1, Q.2.1, 0) else if n ≤ tkB xs n Q.2.2.2 then (0, Q.2.1, k + 1) else if xs (tkB xs n Q.2.2.2) ≠ 59 then (tkB xs n Q.2.2.2 + 1, Q.2.1, 0) else rdT xs n (f + 1) (k + 1) Q.2.1 (tkE xs n (tkB xs n Q.2.2.2)) (tkB xs n Q.2.2.2)) = R := by rw [hQ]; exact hr
      have mX := (mF (y + 3) (by omega) (by omega)).trans hX
      refine r_aload_n (pc := 36) X dX7_readText_36 rfl ?_
      refine c_v X (rV (pc := 37) (ci := 7) X l_X7_89 (t7_nextToken m0 mX hn hx he) dX7_readText_37 (by repeat (first | exact mu_self | assumption | refine (mu_ne (by omega)).trans ?_)) rfl rfl rfl (Nat.le_of_ble_eq_true rfl) (by decide) (Nat.le_of_ble_eq_true rfl) (Nat.le_of_ble_eq_true rfl)) ?_
      rintro _ rfl
      refine r_aload_n (pc := 40) X dX7_readText_40 rfl ?_
      refine c_i X (rV (pc := 41) (ci := 7) X l_X7_107 (t7_readClause (e0 := e') mu_self ((mu_ne (by omega)).trans mX) ((mu_ne (by omega)).trans m4) hT' hn hx he) dX7_readText_41 (by repeat (first | exact mu_self | assumption | refine (mu_ne (by omega)).trans ?_)) rfl rfl rfl (Nat.le_of_ble_eq_true rfl) (by decide) (Nat.le_of_ble_eq_true rfl) (Nat.le_of_ble_eq_true rfl)) ?_
      rintro rr0 μ2 ⟨hrr, ⟨tk', vl', c0⟩, c4, cF⟩
      subst hrr
      rw [← hQ] at c0 c4 ⊢
      have cF' : ∀ q, q ≠ y → q ≠ y + 4 → μ2 q = μ q := fun q h1 h2 => (cF q h1 h2).trans ((mu_ne h1).trans (mF q h1 h2))
      clear cF
      first | refine r_if_neZ (pc := 44) X 49 dX7_readText_44 (by decide) (fun h1 => ?_) (fun h1 => ?_) | refine r_if_neN (pc := 44) X 49 dX7_readText_44 (by decide) (by omega) (fun h1 => ?_) (fun h1 => ?_) | refine r_if_ne (pc := 44) X 49 dX7_readText_44 (by decide) (fun h1 => ?_) (fun h1 => ?_)
      rotate_left
      · rw [if_pos h1] at hr'
        rw [← hr']
        refine r_iconst (pc := 47) (v := nI 0) X dX7_readText_47 (by decide) ?_
        exact r_zret (pc := 48) X dX7_readText_48 (by first | rfl | decide | exact zb_nar _) (⟨rfl, _, _, _, _, _, _, c0, c4, cF', fun q => absurd q (Nat.succ_ne_zero _), fun _ => (uI_S _).symm⟩)
      rw [if_neg (by simp [h1])] at hr'
      have mX2 := (cF' (y + 3) (by omega) (by omega)).trans hX
      refine r_aload_n (pc := 49) X dX7_readText_49 rfl ?_
      refine r_dup (pc := 50) X dX7_readText_50 rfl ?_
      apply r_get (pc := 51) X f_X7_104 dX7_readText_51
      · repeat (first | exact mu_self | assumption | refine (mu_ne (by omega)).trans ?_)
      · rfl
      refine r_iconst (pc := 54) (v := nI 1) X dX7_readText_54 (by decide) ?_
      first | refine r_iaddN (pc := 55) X dX7_readText_55 ?_ | refine r_iadd (pc := 55) X dX7_readText_55 ?_
      first | refine r_putS (pc := 56) X f_X7_104 dX7_readText_56 (by first | rfl | assumption | decide | simp [narrow]) (by first | rfl | assumption) (Nat.le_of_ble_eq_true rfl) ?_ | refine r_put (pc := 56) X f_X7_104 dX7_readText_56 (by repeat (first | exact mu_self | assumption | refine (mu_ne (by omega)).trans ?_)) (by first | rfl | assumption | decide | simp [narrow]) (by first | rfl | assumption) (Nat.le_of_ble_eq_true rfl) ?_
      refine r_aload_n (pc := 59) X dX7_readText_59 rfl ?_
      refine c_v X (rV (pc := 60) (ci := 7) X l_X7_89 (t7_nextToken mu_self ((mu_ne (by omega)).trans mX2) hn hx r2) dX7_readText_60 (by repeat (first | exact mu_self | assumption | refine (mu_ne (by omega)).trans ?_)) rfl rfl rfl (Nat.le_of_ble_eq_true rfl) (by decide) (Nat.le_of_ble_eq_true rfl) (Nat.le_of_ble_eq_true rfl)) ?_
      rintro _ rfl
      rw [mu_mu]
      have hK := tkK_le (xs := xs) (n := n) (b := tkB xs n Q.2.2.2)
      have c4' : mu μ2 y (mdO y n (nI (tkE xs n (tkB xs n Q.2.2.2))) (nI (tkK xs n (tkB xs n Q.2.2.2))) (nI (tkV xs n (tkB xs n Q.2.2.2))) (nI (tkB xs n Q.2.2.2)) (nI (k + 1)) un sn) (y + 4) = some (xI Γ 29 (fun i => nI (Q.2.1 i))) := (mu_ne (by omega)).trans c4
      have no : R = (tkB xs n Q.2.2.2 + 1, R.2.1, R.2.2) → vV Γ p l e R0 s m args below meth c (vQ Γ s args below 0 0 (ri (fun r μ' => r = zb (decide (R.1 = 0)) ∧ ∃ (pl' tk' vl' bg' cl' : Int32) (rd' : Nat → Int32), μ' y = some (mdO y n pl' tk' vl' bg' cl' un sn) ∧ μ' (y + 4) = some (xI Γ 29 rd') ∧ (∀ q, q ≠ y → q ≠ y + 4 → μ' q = μ q) ∧ (R.1 = 0 → cl' = nI R.2.2 ∧ rd' = fun i => nI (R.2.1 i)) ∧ (R.1 ≠ 0 → bg' = uI R.1)))) 2 0 0 98 [some (.ref y), some (.int (nI 29))] [] (mu μ2 y (mdO y n (nI (tkE xs n (tkB xs n Q.2.2.2))) (nI (tkK xs n (tkB xs n Q.2.2.2))) (nI (tkV xs n (tkB xs n Q.2.2.2))) (nI (tkB xs n Q.2.2.2)) (nI (k + 1)) un sn)) := by
        intro hq
        have hq1 : R.1 = tkB xs n Q.2.2.2 + 1 := by rw [hq]
        refine r_iconst (pc := 98) (v := nI 0) X dX7_readText_98 (by decide) ?_
        exact r_zret (pc := 99) X dX7_readText_99 (by first | rfl | decide | exact zb_nar _) (⟨by rw [decide_eq_false (by omega)]; rfl, _, _, _, _, _, _, mu_self, c4', fun q h1 h2 => (mu_ne h1).trans (cF' q h1 h2), fun q => absurd q (by omega), fun _ => by rw [hq1, uI_S]⟩)
      refine r_aload_n (pc := 63) X dX7_readText_63 rfl ?_
      apply r_get (pc := 64) X f_X7_68 dX7_readText_64
      · repeat (first | exact mu_self | assumption | refine (mu_ne (by omega)).trans ?_)
      · rfl
      refine r_iconst (pc := 67) (v := nI 3) X dX7_readText_67 (by decide) ?_
      first | refine r_icmp_neN (pc := 68) X 73 dX7_readText_68 (by decide) (by omega) (by omega) (fun h2 => ?_) (fun h2 => ?_) | refine r_icmp_ne (pc := 68) X 73 dX7_readText_68 (by decide) (fun h2 => ?_) (fun h2 => ?_)
      · have h2' : ¬ n ≤ tkB xs n Q.2.2.2 := fun q => h2 (tkK_3.mpr q)
        rw [if_neg h2'] at hr'
        refine r_aload_n (pc := 73) X dX7_readText_73 rfl ?_
        apply r_get (pc := 74) X f_X7_68 dX7_readText_74
        · repeat (first | exact mu_self | assumption | refine (mu_ne (by omega)).trans ?_)
        · rfl
        first | refine r_if_neZ (pc := 77) X 98 dX7_readText_77 (by decide) (fun h3 => ?_) (fun h3 => ?_) | refine r_if_neN (pc := 77) X 98 dX7_readText_77 (by decide) (by omega) (fun h3 => ?_) (fun h3 => ?_) | refine r_if_ne (pc := 77) X 98 dX7_readText_77 (by decide) (fun h3 => ?_) (fun h3 => ?_)
        · have h59 := tkK_59 h3 h2'
          rw [if_pos h59] at hr'
          exact no (by rw [← hr'])
        · obtain ⟨hbn, hV⟩ := tkK_0 h3
          have hxb := hx (tkB xs n Q.2.2.2)
          refine r_aload_n (pc := 80) X dX7_readText_80 rfl ?_
          apply r_get (pc := 81) X f_X7_65 dX7_readText_81
          · repeat (first | exact mu_self | assumption | refine (mu_ne (by omega)).trans ?_)
          · rfl
          rw [hV]
          refine r_bipush (pc := 84) (v := nI 59) X dX7_readText_84 (by decide) ?_
          rw [← hV]
          rw [← hV] at hxb
          first | refine r_icmp_neN (pc := 86) X 98 dX7_readText_86 (by decide) (by omega) (by omega) (fun h4 => ?_) (fun h4 => ?_) | refine r_icmp_ne (pc := 86) X 98 dX7_readText_86 (by decide) (fun h4 => ?_) (fun h4 => ?_)
          · rw [if_pos (by rw [← hV]; exact h4)] at hr'
            exact no (by rw [← hr'])
          · rw [if_neg (fun q => q (by rw [← hV]; exact h4))] at hr'
            refine r_aload_n (pc := 89) X dX7_readText_89 rfl ?_
            apply r_get (pc := 90) X f_X7_104 dX7_readText_90
            · repeat (first | exact mu_self | assumption | refine (mu_ne (by omega)).trans ?_)
            · rfl
            refine r_bipush (pc := 93) (v := nI 14) X dX7_readText_93 (by decide) ?_
            first | refine r_icmp_neN (pc := 95) X 36 dX7_readText_95 (by decide) (by omega) (by omega) (fun h5 => ?_) (fun h5 => ?_) | refine r_icmp_ne (pc := 95) X 36 dX7_readText_95 (by decide) (fun h5 => ?_) (fun h5 => ?_)
            · exact ih (k + 1) Q.2.1 _ _ _ _ _ _ (by omega) he2 r3 mu_self c4' (fun q h1 h2 => (mu_ne h1).trans (cF' q h1 h2)) hr'
            · omega
      · have h2' : n ≤ tkB xs n Q.2.2.2 := tkK_3.mp h2
        rw [if_pos h2'] at hr'
        rw [← hr']
        refine r_iconst (pc := 71) (v := nI 1) X dX7_readText_71 (by decide) ?_
        exact r_zret (pc := 72) X dX7_readText_72 (by first | rfl | decide | exact zb_nar _) (⟨rfl, _, _, _, _, _, _, mu_self, c4', fun q h1 h2 => (mu_ne h1).trans (cF' q h1 h2), fun _ => ⟨rfl, rfl⟩, fun q => absurd rfl q⟩)
  have key : ∀ (N i : Nat) (rd' : Nat → Int32), i + N = 29 → (∀ k, k < i → rd' k = nI (T k)) → vV Γ p l e R0 s m args below meth c (vQ Γ s args below 0 0 (ri (fun r μ' => r = zb (decide (R.1 = 0)) ∧ ∃ (pl' tk' vl' bg' cl' : Int32) (rd' : Nat → Int32), μ' y = some (mdO y n pl' tk' vl' bg' cl' un sn) ∧ μ' (y + 4) = some (xI Γ 29 rd') ∧ (∀ q, q ≠ y → q ≠ y + 4 → μ' q = μ q) ∧ (R.1 = 0 → cl' = nI R.2.2 ∧ rd' = fun i => nI (R.2.1 i)) ∧ (R.1 ≠ 0 → bg' = uI R.1)))) 2 0 0 12 [some (.ref y), some (.int (nI i))] [] (mu (mu μ y (mdO y n (nI 0) tk vl bg (nI 0) un sn)) (y + 4) (xI Γ 29 rd')) := by
    intro N
    induction N with
    | zero =>
      intro i rd' hi hrd
      have hi2 : i = 29 := by omega
      subst hi2
      refine r_iload_n (pc := 12) X dX7_readText_12 rfl ?_
      refine r_bipush (pc := 13) (v := nI 29) X dX7_readText_13 (by decide) ?_
      refine r_icmp_geN (pc := 15) X 36 dX7_readText_15 (by decide) (by omega) (by omega) (fun _ => ?_) (fun h => absurd (Nat.le_refl _) h)
      refine vV.sub (μ' := mu (mu μ y (mdO y n (nI 0) tk vl bg (nI 0) un sn)) (y + 4) (xI Γ 29 (fun i => nI (T i)))) (fun H hP => mP.congrI (fun j hj => hrd j hj) hP) ?_
      exact loop 13 0 T 0 0 _ tk vl bg (by omega) (Nat.zero_le _) hI ((mu_ne (by omega)).trans mu_self) mu_self (fun q h1 h2 => (mu_ne h2).trans (mu_ne h1)) hRe
    | succ N ih =>
      intro i rd' hi hrd
      refine r_iload_n (pc := 12) X dX7_readText_12 rfl ?_
      refine r_bipush (pc := 13) (v := nI 29) X dX7_readText_13 (by decide) ?_
      refine r_icmp_geN (pc := 15) X 36 dX7_readText_15 (by decide) (by omega) (by omega) (fun h => absurd h (by omega)) (fun _ => ?_)
      refine r_aload_n (pc := 18) X dX7_readText_18 rfl ?_
      apply r_get (pc := 19) X f_X7_19 dX7_readText_19
      · repeat (first | exact mu_self | assumption | refine (mu_ne (by omega)).trans ?_)
      · rfl
      refine r_iload_n (pc := 22) X dX7_readText_22 rfl ?_
      refine r_aload_n (pc := 23) X dX7_readText_23 rfl ?_
      apply r_get (pc := 24) X f_X7_7 dX7_readText_24
      · repeat (first | exact mu_self | assumption | refine (mu_ne (by omega)).trans ?_)
      · rfl
      refine r_iload_n (pc := 27) X dX7_readText_27 rfl ?_
      apply r_iald (pc := 28) X dX7_readText_28
      · repeat (first | exact mu_self | assumption | refine (mu_ne (by omega)).trans ?_)
      · omega
      · decide
      apply r_iast (pc := 29) X dX7_readText_29
      · repeat (first | exact mu_self | assumption | refine (mu_ne (by omega)).trans ?_)
      · omega
      · decide
      rw [mu_mu]
      have := ih (i + 1) (upd rd' i (nI (T i))) (by omega) (fun k hk => by
        unfold upd
        by_cases q : k = i
        · rw [if_pos q, q]
        · rw [if_neg q]; exact hrd k (by omega))
      refine r_iincN (pc := 30) (b := 1) X dX7_readText_30 rfl (by decide) rfl ?_
      refine r_goto (pc := 33) X 12 dX7_readText_33 (by decide) ?_
      exact this
  refine r_aload_n (pc := 0) X dX7_readText_0 rfl ?_
  refine r_iconst (pc := 1) (v := nI 0) X dX7_readText_1 (by decide) ?_
  first | refine r_putS (pc := 2) X f_X7_55 dX7_readText_2 (by first | rfl | assumption | decide | simp [narrow]) (by first | rfl | assumption) (Nat.le_of_ble_eq_true rfl) ?_ | refine r_put (pc := 2) X f_X7_55 dX7_readText_2 (by repeat (first | exact mu_self | assumption | refine (mu_ne (by omega)).trans ?_)) (by first | rfl | assumption | decide | simp [narrow]) (by first | rfl | assumption) (Nat.le_of_ble_eq_true rfl) ?_
  refine r_aload_n (pc := 5) X dX7_readText_5 rfl ?_
  refine r_iconst (pc := 6) (v := nI 0) X dX7_readText_6 (by decide) ?_
  first | refine r_putS (pc := 7) X f_X7_104 dX7_readText_7 (by first | rfl | assumption | decide | simp [narrow]) (by first | rfl | assumption) (Nat.le_of_ble_eq_true rfl) ?_ | refine r_put (pc := 7) X f_X7_104 dX7_readText_7 (by repeat (first | exact mu_self | assumption | refine (mu_ne (by omega)).trans ?_)) (by first | rfl | assumption | decide | simp [narrow]) (by first | rfl | assumption) (Nat.le_of_ble_eq_true rfl) ?_
  refine r_iconst (pc := 10) (v := nI 0) X dX7_readText_10 (by decide) ?_
  refine r_istore_n (pc := 11) X dX7_readText_11 (by decide) rfl ?_
  refine vV.sub (μ' := mu (mu μ y (mdO y n (nI 0) tk vl bg (nI 0) un sn)) (y + 4) (xI Γ 29 rd)) (fun H hP => ?_) ?_
  · exact mP.reI hP ((mu_ne (by omega)).trans hR) (fun j hj => rfl)
  exact key 29 0 rd (by omega) (fun k hk => by omega)
theorem t7_anew {g : Nat → Int32} (hO : μ y = some (mdO y n pl tk vl bg cl un sn)) (hT : μ (y + 1) = some (xI Γ 29 (fun i => nI (T i)))) (hS : μ (y + 2) = some (xI Γ 18 g)) : CT Γ l 0 sz 0 0 mX7_anew [.ref y] μ (rv (fun μ' => μ' = mu μ (y + 2) (xI Γ 18 (stI (beginS T))))) := by
  refine CT.go RX7 rfl "anew" rfl [some (.ref y), none] rfl (by decide) (Nat.le_of_ble_eq_true rfl) ?_
  intro p e R s m args below meth c X hsz
  have key : ∀ (N i : Nat) (g' : Nat → Int32), i + N = 18 → (∀ k, k < i → g' k = if k < 12 then nI 0 else -1) → vV Γ p l e R s m args below meth c (vQ Γ s args below 0 0 (rv (fun μ' => μ' = mu μ (y + 2) (xI Γ 18 (stI (beginS T)))))) 2 0 0 2 [some (.ref (y)), some (.int (nI (i)))] [] (mu μ (y + 2) (xI Γ 18 g')) := by
    intro N
    induction N with
    | zero =>
      intro i g' hi hg
      have hi2 : i = 18 := by omega
      subst hi2
      refine r_iload_n (pc := 2) X dX7_anew_2 rfl ?_
      refine r_bipush (pc := 3) (v := nI 18) X dX7_anew_3 (by decide) ?_
      refine r_icmp_geN (pc := 5) X 31 dX7_anew_5 (by decide) (by omega) (by omega) (fun _ => ?_) (fun h => absurd (Nat.le_refl _) h)
      refine r_aload_n (pc := 31) X dX7_anew_31 rfl ?_
      apply r_get (pc := 32) X f_X7_13 dX7_anew_32
      · repeat (first | exact mu_self | assumption | refine (mu_ne (by omega)).trans ?_)
      · rfl
      refine r_iconst (pc := 35) (v := nI 0) X dX7_anew_35 (by decide) ?_
      refine r_aload_n (pc := 36) X dX7_anew_36 rfl ?_
      apply r_get (pc := 37) X f_X7_7 dX7_anew_37
      · repeat (first | exact mu_self | assumption | refine (mu_ne (by omega)).trans ?_)
      · rfl
      refine r_bipush (pc := 40) (v := nI 25) X dX7_anew_40 (by decide) ?_
      apply r_iald (pc := 42) X dX7_anew_42
      · repeat (first | exact mu_self | assumption | refine (mu_ne (by omega)).trans ?_)
      · omega
      · decide
      apply r_iast (pc := 43) X dX7_anew_43
      · repeat (first | exact mu_self | assumption | refine (mu_ne (by omega)).trans ?_)
      · omega
      · decide
      rw [mu_mu]
      refine vV.sub (μ' := mu μ (y + 2) (xI Γ 18 (stI (beginS T)))) (fun H hP => mP.congrI (fun j hj => ?_) hP) ?_
      · unfold upd stI beginS
        by_cases q : j = 0
        · rw [if_pos q, if_pos (by omega), if_pos q]
        · rw [if_neg q, hg j hj, if_neg q, uI_0]
      exact r_vret (pc := 44) X dX7_anew_44 (rfl)
    | succ N ih =>
      intro i g' hi hg
      refine r_iload_n (pc := 2) X dX7_anew_2 rfl ?_
      refine r_bipush (pc := 3) (v := nI 18) X dX7_anew_3 (by decide) ?_
      refine r_icmp_geN (pc := 5) X 31 dX7_anew_5 (by decide) (by omega) (by omega) (fun h => absurd h (by omega)) (fun _ => ?_)
      refine r_aload_n (pc := 8) X dX7_anew_8 rfl ?_
      apply r_get (pc := 9) X f_X7_13 dX7_anew_9
      · repeat (first | exact mu_self | assumption | refine (mu_ne (by omega)).trans ?_)
      · rfl
      refine r_iload_n (pc := 12) X dX7_anew_12 rfl ?_
      refine r_iload_n (pc := 13) X dX7_anew_13 rfl ?_
      refine r_bipush (pc := 14) (v := nI 12) X dX7_anew_14 (by decide) ?_
      first | refine r_icmp_geN (pc := 16) X 23 dX7_anew_16 (by decide) (by omega) (by omega) (fun h1 => ?_) (fun h1 => ?_) | refine r_icmp_ge (pc := 16) X 23 dX7_anew_16 (by decide) (fun h1 => ?_) (fun h1 => ?_)
      · refine r_iconst (pc := 23) (v := -1) X dX7_anew_23 (by decide) ?_
        apply r_iast (pc := 24) X dX7_anew_24
        · repeat (first | exact mu_self | assumption | refine (mu_ne (by omega)).trans ?_)
        · omega
        · decide
        rw [mu_mu]
        have := ih (i + 1) (upd g' i (-1)) (by omega) (fun k hk => by
          unfold upd
          by_cases q : k = i
          · rw [if_pos q, if_neg (by omega)]
          · rw [if_neg q]; exact hg k (by omega))
        refine r_iincN (pc := 25) (b := 1) X dX7_anew_25 rfl (by decide) rfl ?_
        refine r_goto (pc := 28) X 2 dX7_anew_28 (by decide) ?_
        exact this
      · refine r_iconst (pc := 19) (v := nI 0) X dX7_anew_19 (by decide) ?_
        refine r_goto (pc := 20) X 24 dX7_anew_20 (by decide) ?_
        apply r_iast (pc := 24) X dX7_anew_24
        · repeat (first | exact mu_self | assumption | refine (mu_ne (by omega)).trans ?_)
        · omega
        · decide
        rw [mu_mu]
        have := ih (i + 1) (upd g' i (nI 0)) (by omega) (fun k hk => by
          unfold upd
          by_cases q : k = i
          · rw [if_pos q, if_pos (by omega)]
          · rw [if_neg q]; exact hg k (by omega))
        refine r_iincN (pc := 25) (b := 1) X dX7_anew_25 rfl (by decide) rfl ?_
        refine r_goto (pc := 28) X 2 dX7_anew_28 (by decide) ?_
        exact this
  refine r_iconst (pc := 0) (v := nI 0) X dX7_anew_0 (by decide) ?_
  refine r_istore_n (pc := 1) X dX7_anew_1 (by decide) rfl ?_
  refine vV.sub (μ' := mu μ (y + 2) (xI Γ 18 g)) (fun H hP => mP.reI hP hS (fun j hj => rfl)) ?_
  exact key 18 0 g (by omega) (fun k hk => by omega)
theorem mP.reZ {μ : MM} {b n : Nat} {f g : Nat → Int32} {H : Heap} (h : mP Γ μ H) (hb : μ b = some (xZ Γ n f)) (he : ∀ i, i < n → f i = g i) : mP Γ (mu μ b (xZ Γ n g)) H := by
  intro a e ha
  by_cases hba : a = b
  · subst hba
    rw [mu_self] at ha
    cases ha
    have h1 := h a _ hb
    refine ⟨?_, h1.2⟩
    have h2 : H[a]? = some (vp_cell (kcZ Γ) (n, .inl f)) := h1.1
    show H[a]? = some (vp_cell (kcZ Γ) (n, .inl g))
    rw [h2, vp_cell_i, vp_cell_i, arrV_congr (fun j hj => by rw [he j hj])]
  · rw [mu_ne hba] at ha
    exact h a e ha
theorem tI_Model (h : μ y = some (xO 7 [.null, .null, .null, .int (nI 0), .int (nI 0), .int (nI 0), .int (nI 0), .int (nI 0), .null, .int (nI 0), .null, .int (nI 0), .null, .null, .null, .null, .int (nI 0)])) (hs : sz = y + 1) : CT Γ l 1 sz 9 884 mX7_init [.ref y] μ (rv (fun μ' => WM Γ μ' y T00 S00 0 (fun _ _ => 0) (fun _ => false) (fun _ _ => 0) 0 (fun _ => 0) 0 (fun _ => 0) ∧ Fr y 10 μ μ')) := by
  refine CT.go RX7 rfl "<init>" rfl [some (.ref y)] rfl (by decide) (Nat.le_of_ble_eq_true rfl) ?_
  intro p e R s m args below meth c X hsz
  refine r_aload_n (pc := 0) X dX7_init_0 rfl ?_
  refine r_objInit (pc := 1) X l_X7_1 dX7_init_1 (by decide) (Nat.le_of_ble_eq_true rfl) ?_
  refine r_aload_n (pc := 4) X dX7_init_4 rfl ?_
  refine r_bipush (pc := 5) (v := nI 29) X dX7_init_5 (by decide) ?_
  refine r_newaI' (pc := 7) X ac_I dX7_init_7 (by decide) (by omega) (by omega) (y + 1) (by omega) ?_
  first | refine r_putFS (pc := 9) X f_X7_7 rfl rfl dX7_init_9 (by first | rfl | assumption | decide | simp [narrow]) (by first | rfl | assumption) (Nat.le_of_ble_eq_true rfl) ?_ | refine r_putF (pc := 9) X f_X7_7 rfl rfl dX7_init_9 (by repeat (first | exact mu_self | assumption | refine (mu_ne (by omega)).trans ?_)) (by first | rfl | assumption | decide | simp [narrow]) (by first | rfl | assumption) (Nat.le_of_ble_eq_true rfl) ?_
  refine r_aload_n (pc := 12) X dX7_init_12 rfl ?_
  refine r_bipush (pc := 13) (v := nI 18) X dX7_init_13 (by decide) ?_
  refine r_newaI' (pc := 15) X ac_I dX7_init_15 (by decide) (by omega) (by omega) (y + 2) (by omega) ?_
  first | refine r_putFS (pc := 17) X f_X7_13 rfl rfl dX7_init_17 (by first | rfl | assumption | decide | simp [narrow]) (by first | rfl | assumption) (Nat.le_of_ble_eq_true rfl) ?_ | refine r_putF (pc := 17) X f_X7_13 rfl rfl dX7_init_17 (by repeat (first | exact mu_self | assumption | refine (mu_ne (by omega)).trans ?_)) (by first | rfl | assumption | decide | simp [narrow]) (by first | rfl | assumption) (Nat.le_of_ble_eq_true rfl) ?_
  refine r_aload_n (pc := 20) X dX7_init_20 rfl ?_
  refine r_sipush (pc := 21) (v := nI 160) X dX7_init_21 (by decide) ?_
  refine r_newaI' (pc := 24) X ac_I dX7_init_24 (by decide) (by omega) (by omega) (y + 3) (by omega) ?_
  first | refine r_putFS (pc := 26) X f_X7_16 rfl rfl dX7_init_26 (by first | rfl | assumption | decide | simp [narrow]) (by first | rfl | assumption) (Nat.le_of_ble_eq_true rfl) ?_ | refine r_putF (pc := 26) X f_X7_16 rfl rfl dX7_init_26 (by repeat (first | exact mu_self | assumption | refine (mu_ne (by omega)).trans ?_)) (by first | rfl | assumption | decide | simp [narrow]) (by first | rfl | assumption) (Nat.le_of_ble_eq_true rfl) ?_
  refine r_aload_n (pc := 29) X dX7_init_29 rfl ?_
  refine r_bipush (pc := 30) (v := nI 29) X dX7_init_30 (by decide) ?_
  refine r_newaI' (pc := 32) X ac_I dX7_init_32 (by decide) (by omega) (by omega) (y + 4) (by omega) ?_
  first | refine r_putFS (pc := 34) X f_X7_19 rfl rfl dX7_init_34 (by first | rfl | assumption | decide | simp [narrow]) (by first | rfl | assumption) (Nat.le_of_ble_eq_true rfl) ?_ | refine r_putF (pc := 34) X f_X7_19 rfl rfl dX7_init_34 (by repeat (first | exact mu_self | assumption | refine (mu_ne (by omega)).trans ?_)) (by first | rfl | assumption | decide | simp [narrow]) (by first | rfl | assumption) (Nat.le_of_ble_eq_true rfl) ?_
  refine r_aload_n (pc := 37) X dX7_init_37 rfl ?_
  refine r_sipush (pc := 38) (v := nI 144) X dX7_init_38 (by decide) ?_
  refine r_newaI' (pc := 41) X ac_I dX7_init_41 (by decide) (by omega) (by omega) (y + 5) (by omega) ?_
  first | refine r_putFS (pc := 43) X f_X7_22 rfl rfl dX7_init_43 (by first | rfl | assumption | decide | simp [narrow]) (by first | rfl | assumption) (Nat.le_of_ble_eq_true rfl) ?_ | refine r_putF (pc := 43) X f_X7_22 rfl rfl dX7_init_43 (by repeat (first | exact mu_self | assumption | refine (mu_ne (by omega)).trans ?_)) (by first | rfl | assumption | decide | simp [narrow]) (by first | rfl | assumption) (Nat.le_of_ble_eq_true rfl) ?_
  refine r_aload_n (pc := 46) X dX7_init_46 rfl ?_
  refine r_iconst (pc := 47) (v := nI 2) X dX7_init_47 (by decide) ?_
  refine r_newaZ' (pc := 48) X ac_Z dX7_init_48 (by decide) (by omega) (by omega) (y + 6) (by omega) ?_
  first | refine r_putFS (pc := 50) X f_X7_25 rfl rfl dX7_init_50 (by first | rfl | assumption | decide | simp [narrow]) (by first | rfl | assumption) (Nat.le_of_ble_eq_true rfl) ?_ | refine r_putF (pc := 50) X f_X7_25 rfl rfl dX7_init_50 (by repeat (first | exact mu_self | assumption | refine (mu_ne (by omega)).trans ?_)) (by first | rfl | assumption | decide | simp [narrow]) (by first | rfl | assumption) (Nat.le_of_ble_eq_true rfl) ?_
  refine r_aload_n (pc := 53) X dX7_init_53 rfl ?_
  refine r_bipush (pc := 54) (v := nI 36) X dX7_init_54 (by decide) ?_
  refine r_newaI' (pc := 56) X ac_I dX7_init_56 (by decide) (by omega) (by omega) (y + 7) (by omega) ?_
  first | refine r_putFS (pc := 58) X f_X7_29 rfl rfl dX7_init_58 (by first | rfl | assumption | decide | simp [narrow]) (by first | rfl | assumption) (Nat.le_of_ble_eq_true rfl) ?_ | refine r_putF (pc := 58) X f_X7_29 rfl rfl dX7_init_58 (by repeat (first | exact mu_self | assumption | refine (mu_ne (by omega)).trans ?_)) (by first | rfl | assumption | decide | simp [narrow]) (by first | rfl | assumption) (Nat.le_of_ble_eq_true rfl) ?_
  refine r_aload_n (pc := 61) X dX7_init_61 rfl ?_
  refine r_sipush (pc := 62) (v := nI 448) X dX7_init_62 (by decide) ?_
  refine r_newaI' (pc := 65) X ac_I dX7_init_65 (by decide) (by omega) (by omega) (y + 8) (by omega) ?_
  first | refine r_putFS (pc := 67) X f_X7_32 rfl rfl dX7_init_67 (by first | rfl | assumption | decide | simp [narrow]) (by first | rfl | assumption) (Nat.le_of_ble_eq_true rfl) ?_ | refine r_putF (pc := 67) X f_X7_32 rfl rfl dX7_init_67 (by repeat (first | exact mu_self | assumption | refine (mu_ne (by omega)).trans ?_)) (by first | rfl | assumption | decide | simp [narrow]) (by first | rfl | assumption) (Nat.le_of_ble_eq_true rfl) ?_
  refine r_aload_n (pc := 70) X dX7_init_70 rfl ?_
  refine r_bipush (pc := 71) (v := nI 18) X dX7_init_71 (by decide) ?_
  refine r_newaI' (pc := 73) X ac_I dX7_init_73 (by decide) (by omega) (by omega) (y + 9) (by omega) ?_
  first | refine r_putFS (pc := 75) X f_X7_35 rfl rfl dX7_init_75 (by first | rfl | assumption | decide | simp [narrow]) (by first | rfl | assumption) (Nat.le_of_ble_eq_true rfl) ?_ | refine r_putF (pc := 75) X f_X7_35 rfl rfl dX7_init_75 (by repeat (first | exact mu_self | assumption | refine (mu_ne (by omega)).trans ?_)) (by first | rfl | assumption | decide | simp [narrow]) (by first | rfl | assumption) (Nat.le_of_ble_eq_true rfl) ?_
  refine r_aload_n (pc := 78) X dX7_init_78 rfl ?_
  apply r_get (pc := 79) X f_X7_7 dX7_init_79
  · repeat (first | exact mu_self | assumption | refine (mu_ne (by omega)).trans ?_)
  · rfl
  refine c_v X (rS (pc := 82) X l_X7_38 (t7_takeFirst (a := y + 1) (T := fun _ => 0) (by repeat (first | exact mu_self | assumption | refine (mu_ne (by omega)).trans ?_))) dX7_init_82 rfl rfl (Nat.le_of_ble_eq_true rfl) (by decide) (Nat.le_of_ble_eq_true rfl) (Nat.le_of_ble_eq_true rfl)) ?_
  rintro _ rfl
  refine r_aload_n (pc := 85) X dX7_init_85 rfl ?_
  refine c_v X (rV (pc := 86) (ci := 7) X l_X7_42 (t7_anew (T := T00) (pl := nI 0) (tk := nI 0) (vl := nI 0) (bg := nI 0) (cl := nI 0) (n := 0) (un := 0) (sn := 0) (g := fun _ => nI 0) (by repeat (first | exact mu_self | assumption | refine (mu_ne (by omega)).trans ?_)) mu_self (by repeat (first | exact mu_self | assumption | refine (mu_ne (by omega)).trans ?_))) dX7_init_86 (by repeat (first | exact mu_self | assumption | refine (mu_ne (by omega)).trans ?_)) rfl rfl rfl (Nat.le_of_ble_eq_true rfl) (by decide) (Nat.le_of_ble_eq_true rfl) (Nat.le_of_ble_eq_true rfl)) ?_
  rintro _ rfl
  exact r_vret (pc := 89) X dX7_init_89 (⟨⟨nI 0, nI 0, nI 0, nI 0, nI 0, fun _ => nI 0, fun _ => nI 0, fun _ => nI 0, fun _ => nI 0, (by repeat (first | exact mu_self | assumption | refine (mu_ne (by omega)).trans ?_)), (by repeat (first | exact mu_self | assumption | refine (mu_ne (by omega)).trans ?_)), (by repeat (first | exact mu_self | assumption | refine (mu_ne (by omega)).trans ?_)), (by repeat (first | exact mu_self | assumption | refine (mu_ne (by omega)).trans ?_)), (by repeat (first | exact mu_self | assumption | refine (mu_ne (by omega)).trans ?_)), (by repeat (first | exact mu_self | assumption | refine (mu_ne (by omega)).trans ?_)), fun i k hi => absurd hi (Nat.not_lt_zero _), (by repeat (first | exact mu_self | assumption | refine (mu_ne (by omega)).trans ?_)), (by repeat (first | exact mu_self | assumption | refine (mu_ne (by omega)).trans ?_)), fun i k _ hk => absurd hk (by simp), (by repeat (first | exact mu_self | assumption | refine (mu_ne (by omega)).trans ?_)), (by repeat (first | exact mu_self | assumption | refine (mu_ne (by omega)).trans ?_))⟩, (fun q hq => by repeat (first | rfl | refine (mu_ne (by omega)).trans ?_))⟩)
end S59
