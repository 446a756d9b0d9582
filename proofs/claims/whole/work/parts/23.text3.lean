theorem lst_ok : ∀ w, w < 11 → (stV 1).getD w 0 = nI (lstA w) := by decide +kernel
theorem mst_ok : ∀ w, w < 11 → (stV 2).getD w 0 = nI (mstA w) := by decide +kernel
theorem lst_le : ∀ w, w < 11 → lstA w ≤ 1 ∧ mstA w ≤ 255 := by decide +kernel
theorem tkB_le {xs : Nat → Nat} {n e : Nat} (h : e ≤ n) : tkB xs n e ≤ n := rn_le h
theorem nmC_lt {xs : Nat → Nat} {n e0 : Nat} : nmC xs n (tkB xs n e0) (tkE xs n (tkB xs n e0)) ≤ 1000 := by
  unfold nmC
  split
  · rename_i h
    have h1 := nv_lt (X := xs) (b := tkB xs n e0) (e := tkE xs n (tkB xs n e0)) (fun j h1 h2 => tkE_dig h.2.2 h1 h2) (tkE xs n (tkB xs n e0) - tkB xs n e0) (by have := tkE_ge (X := xs) (n := n) (b := tkB xs n e0); omega)
    have h2 : 10 ^ (tkE xs n (tkB xs n e0) - tkB xs n e0) ≤ 10 ^ 3 := Nat.pow_le_pow_right (by decide) h.2.1
    omega
  · omega
/-- a clause's reading keeps within the text and within what may be told -/
theorem rcl_ok {xs : Nat → Nat} {n e : Nat} {T : Nat → Nat} (hI : IT T) (he : e ≤ n) : (rcl xs n T e).2.2.1 ≤ n ∧ (rcl xs n T e).2.2.2 ≤ n ∧ IT (rcl xs n T e).2.1 := by
  have hb1 := tkB_le (xs := xs) he
  have he1 := tkE_le (X := xs) hb1
  have hb2 := tkB_le (xs := xs) he1
  have he2 := tkE_le (X := xs) hb2
  unfold rcl
  have hfl := fstF_le (tkIs xs (tkB xs n e) (tkE xs n (tkB xs n e))) 11 0
  dsimp only
  split
  · exact ⟨hb1, he1, hI⟩
  · rename_i h1
    split
    · exact ⟨hb1, he1, IT_rs hI⟩
    · rename_i h2
      split
      · exact ⟨hb2, he2, hI⟩
      · rename_i h3
        exact ⟨hb2, he2, IT_tell hI (by omega) (by cases hq : roomT T (fstF (tkIs xs (tkB xs n e) (tkE xs n (tkB xs n e))) 11 0 - 1); exact absurd (Or.inr hq) h1; rfl) (Or.inr (by omega))⟩
section S23
variable {Γ : KK} {l : Launch} {sz : Nat} {μ : MM} {a b n : Nat} {xs T : Nat → Nat} {cl : Int32}
theorem t4_add {x : Nat} {b0 e0 : Int32} (h : TextAt Γ μ a n xs cl b0 e0) (hn : n < 160) (hx : x < 256) : CT Γ l 0 sz 0 0 mX4_add [.ref a, .int (nI x)] μ (ri (fun r μ' => r = nI 1 ∧ TextAt Γ μ' a (n + 1) (upN xs n x) cl b0 e0 ∧ Fr a 2 μ μ')) := by
  obtain ⟨g0, g1⟩ := h
  refine CT.go RX4 rfl "add" rfl [some (.ref a), some (.int (nI x))] rfl (by decide) (Nat.le_of_ble_eq_true rfl) ?_
  intro p e R s m args below meth c X hsz
  refine r_aload_n (pc := 0) X dX4_add_0 rfl ?_
  apply r_get (pc := 1) X f_X4_15 dX4_add_1
  · repeat (first | exact mu_self | assumption | refine (mu_ne (by omega)).trans ?_)
  · rfl
  refine r_sipush (pc := 4) (v := nI 160) X dX4_add_4 (by decide) ?_
  refine r_icmp_ltN (pc := 7) X 12 dX4_add_7 (by decide) (by omega) (by omega) (fun _ => ?_) (fun h => absurd hn h)
  refine r_aload_n (pc := 12) X dX4_add_12 rfl ?_
  apply r_get (pc := 13) X f_X4_9 dX4_add_13
  · repeat (first | exact mu_self | assumption | refine (mu_ne (by omega)).trans ?_)
  · rfl
  refine r_aload_n (pc := 16) X dX4_add_16 rfl ?_
  refine r_dup (pc := 17) X dX4_add_17 rfl ?_
  apply r_get (pc := 18) X f_X4_15 dX4_add_18
  · repeat (first | exact mu_self | assumption | refine (mu_ne (by omega)).trans ?_)
  · rfl
  refine r_dup_x1 (pc := 21) X dX4_add_21 rfl rfl ?_
  refine r_iconst (pc := 22) (v := nI 1) X dX4_add_22 (by decide) ?_
  first | refine r_iaddN (pc := 23) X dX4_add_23 ?_ | refine r_iadd (pc := 23) X dX4_add_23 ?_
  first | refine r_putS (pc := 24) X f_X4_15 dX4_add_24 (by first | rfl | assumption | decide | simp [narrow]) (by first | rfl | assumption) (Nat.le_of_ble_eq_true rfl) ?_ | refine r_put (pc := 24) X f_X4_15 dX4_add_24 (by repeat (first | exact mu_self | assumption | refine (mu_ne (by omega)).trans ?_)) (by first | rfl | assumption | decide | simp [narrow]) (by first | rfl | assumption) (Nat.le_of_ble_eq_true rfl) ?_
  refine r_iload_n (pc := 27) X dX4_add_27 rfl ?_
  have hnar : ∀ x, x < 256 → vp_nar .char (nI x) = nI x := by decide +kernel
  apply r_cast (pc := 28) X dX4_add_28 (hnar x hx)
  ·  repeat (first | exact mu_self | assumption | refine (mu_ne (by omega)).trans ?_)
  · omega
  · decide
  refine r_iconst (pc := 29) (v := nI 1) X dX4_add_29 (by decide) ?_
  have e1 : upd (fun i => nI (xs i)) n (nI x) = fun i => nI (upN xs n x i) := by
    funext i
    unfold upd upN
    by_cases hi : i = n
    · rw [if_pos hi, if_pos hi]
    · rw [if_neg hi, if_neg hi]
  rw [e1]
  exact r_zret (pc := 30) X dX4_add_30 (by first | rfl | decide | exact zb_nar _) (⟨rfl, ⟨(by repeat (first | exact mu_self | assumption | refine (mu_ne (by omega)).trans ?_)), (by repeat (first | exact mu_self | assumption | refine (mu_ne (by omega)).trans ?_))⟩, (fun q hq => by repeat (first | rfl | refine (mu_ne (by omega)).trans ?_))⟩)
theorem t4_addFull {x b0 e0 : Int32} (h : TextAt Γ μ a 160 xs cl b0 e0) : CT Γ l 0 sz 0 0 mX4_add [.ref a, .int x] μ (ri (fun r μ' => r = nI 0 ∧ μ' = μ)) := by
  obtain ⟨g0, g1⟩ := h
  refine CT.go RX4 rfl "add" rfl [some (.ref a), some (.int x)] rfl (by decide) (Nat.le_of_ble_eq_true rfl) ?_
  intro p e R s m args below meth c X hsz
  refine r_aload_n (pc := 0) X dX4_add_0 rfl ?_
  apply r_get (pc := 1) X f_X4_15 dX4_add_1
  · repeat (first | exact mu_self | assumption | refine (mu_ne (by omega)).trans ?_)
  · rfl
  refine r_sipush (pc := 4) (v := nI 160) X dX4_add_4 (by decide) ?_
  refine r_icmp_ltN (pc := 7) X 12 dX4_add_7 (by decide) (by omega) (by omega) (fun h => absurd h (by omega)) (fun _ => ?_)
  refine r_iconst (pc := 10) (v := nI 0) X dX4_add_10 (by decide) ?_
  exact r_zret (pc := 11) X dX4_add_11 (by first | rfl | decide | exact zb_nar _) (⟨rfl, rfl⟩)
theorem t4_readClause {b0 : Int32} {e0 : Nat} (h : TextAt Γ μ a n xs cl b0 (nI e0)) (hT : ToldAt Γ μ b T) (hI : IT T) (hn : n ≤ 160) (hx : ∀ i, xs i < 256) (he : e0 ≤ n) (hd : a + 2 ≤ b ∨ b + 5 ≤ a) : CT Γ l 6 sz 0 0 mX4_readClause [.ref a, .ref b] μ (ri (fun r μ' => r = zb (rcl xs n T e0).1 ∧ TextAt Γ μ' a n xs cl (nI (rcl xs n T e0).2.2.1) (nI (rcl xs n T e0).2.2.2) ∧ ToldAt Γ μ' b (rcl xs n T e0).2.1 ∧ ∀ q : Nat, (q < a ∨ a + 2 ≤ q) → (q < b ∨ b + 5 ≤ q) → μ' q = μ q)) := by
  have g0 := h.1
  have k0 := hT.1
  have hb1 := tkB_le (xs := xs) he
  have he1 := tkE_le (X := xs) hb1
  have hb2 := tkB_le (xs := xs) he1
  have he2 := tkE_le (X := xs) hb2
  have hg1 := tkE_ge (X := xs) (n := n) (b := tkB xs n e0)
  have hg2 := tkE_ge (X := xs) (n := n) (b := tkB xs n (tkE xs n (tkB xs n e0)))
  obtain ⟨W, hW⟩ : ∃ W, W = fstF (tkIs xs (tkB xs n e0) (tkE xs n (tkB xs n e0))) 11 0 := ⟨_, rfl⟩
  have hWl : W ≤ 11 := by rw [hW]; exact fstF_le _ 11 0
  refine CT.go RX4 rfl "readClause" rfl [some (.ref a), some (.ref b), none, none] rfl (by decide) (Nat.le_of_ble_eq_true rfl) ?_
  intro p e R s m args below meth c X hsz
  refine r_aload_n (pc := 0) X dX4_readClause_0 rfl ?_
  refine c_v X (rV (pc := 1) (ci := 4) X l_X4_29 (t4_nextToken h hn hx he) dX4_readClause_1 (by repeat (first | exact mu_self | assumption | refine (mu_ne (by omega)).trans ?_)) rfl rfl rfl (Nat.le_of_ble_eq_true rfl) (by decide) (Nat.le_of_ble_eq_true rfl) (Nat.le_of_ble_eq_true rfl)) ?_
  rintro μ1 ⟨j1, j2⟩
  have j10 := j1.1
  have hT1 : ToldAt Γ μ1 b T := hT.kept (fun q h1 h2 => j2 q (by omega))
  have k1 := hT1.1
  refine r_aload_n (pc := 4) X dX4_readClause_4 rfl ?_
  refine c_i X (rV (pc := 5) (ci := 4) X l_X4_35 (t4_wordHere j1 hn hx hg1 he1) dX4_readClause_5 (by repeat (first | exact mu_self | assumption | refine (mu_ne (by omega)).trans ?_)) rfl rfl rfl (Nat.le_of_ble_eq_true rfl) (by decide) (Nat.le_of_ble_eq_true rfl) (Nat.le_of_ble_eq_true rfl)) ?_
  rintro _ μq ⟨rfl, hμq⟩
  rw [hμq]
  clear hμq μq
  rw [← hW]
  have bad : W = 0 ∨ roomT T (W - 1) = false → vV Γ p l e R s m args below meth c (vQ Γ s args below 0 0 (ri (fun r μ' => r = zb (rcl xs n T e0).1 ∧ TextAt Γ μ' a n xs cl (nI (rcl xs n T e0).2.2.1) (nI (rcl xs n T e0).2.2.2) ∧ ToldAt Γ μ' b (rcl xs n T e0).2.1 ∧ ∀ q : Nat, (q < a ∨ a + 2 ≤ q) → (q < b ∨ b + 5 ≤ q) → μ' q = μ q))) 4 0 0 22 [some (.ref (a)), some (.ref (b)), some (.int (uI W)), none] [] (μ1) := by
    intro hq
    have e1 : rcl xs n T e0 = (false, T, tkB xs n e0, tkE xs n (tkB xs n e0)) := by
      unfold rcl
      dsimp only
      rw [← hW, if_pos hq]
    rw [e1]
    refine r_iconst (pc := 22) (v := nI 0) X dX4_readClause_22 (by decide) ?_
    exact r_zret (pc := 23) X dX4_readClause_23 (by first | rfl | decide | exact zb_nar _) (⟨rfl, j1, hT1, fun q h1 h2 => j2 q (by omega)⟩)
  refine r_istore_n (pc := 8) X dX4_readClause_8 (by decide) rfl ?_
  refine r_iload_n (pc := 9) X dX4_readClause_9 rfl ?_
  refine r_iconst (pc := 10) (v := -1) X dX4_readClause_10 (by decide) ?_
  refine r_icmp_eq (pc := 11) X 22 dX4_readClause_11 (by decide) (fun h1 => ?_) (fun h1 => ?_)
  · exact bad (Or.inl ((uI_eq (by omega) (by omega)).mp (by rw [h1, uI_0])))
  · have hW0 : W ≠ 0 := fun q => h1 (by rw [q, uI_0])
    obtain ⟨w, rfl⟩ : ∃ w, W = w + 1 := ⟨W - 1, by omega⟩
    rw [uI_S] at *
    refine r_aload_n (pc := 14) X dX4_readClause_14 rfl ?_
    refine r_iload_n (pc := 15) X dX4_readClause_15 rfl ?_
    refine c_i X (rV (pc := 16) (ci := 5) X l_X4_39 (t5_hasRoomFor hT1 hI (w := w) (by omega)) dX4_readClause_16 (by repeat (first | exact mu_self | assumption | refine (mu_ne (by omega)).trans ?_)) rfl rfl rfl (Nat.le_of_ble_eq_true rfl) (by decide) (Nat.le_of_ble_eq_true rfl) (Nat.le_of_ble_eq_true rfl)) ?_
    rintro _ μq ⟨rfl, hμq⟩
    rw [hμq]
    clear hμq μq
    first | refine r_if_neZ (pc := 19) X 24 dX4_readClause_19 (by decide) (fun h2 => ?_) (fun h2 => ?_) | refine r_if_neN (pc := 19) X 24 dX4_readClause_19 (by decide) (by omega) (fun h2 => ?_) (fun h2 => ?_) | refine r_if_ne (pc := 19) X 24 dX4_readClause_19 (by decide) (fun h2 => ?_) (fun h2 => ?_)
    · refine r_iconst (pc := 24) (v := nI 0) X dX4_readClause_24 (by decide) ?_
      refine r_istore_n (pc := 25) X dX4_readClause_25 (by decide) rfl ?_
      refine r_iload_n (pc := 26) X dX4_readClause_26 rfl ?_
      first | refine r_if_eqZ (pc := 27) X 63 dX4_readClause_27 (by decide) (fun h3 => ?_) (fun h3 => ?_) | refine r_if_eqN (pc := 27) X 63 dX4_readClause_27 (by decide) (by omega) (fun h3 => ?_) (fun h3 => ?_) | refine r_if_eq (pc := 27) X 63 dX4_readClause_27 (by decide) (fun h3 => ?_) (fun h3 => ?_)
      · subst h3
        have e1 : rcl xs n T e0 = (true, tellT T 0 0, tkB xs n e0, tkE xs n (tkB xs n e0)) := by
          unfold rcl
          dsimp only
          rw [← hW, if_neg (by rw [show 0 + 1 - 1 = 0 from rfl, h2]; simp), if_pos rfl]
        rw [e1]
        refine r_aload_n (pc := 63) X dX4_readClause_63 rfl ?_
        refine r_iload_n (pc := 64) X dX4_readClause_64 rfl ?_
        refine r_iload_n (pc := 65) X dX4_readClause_65 rfl ?_
        refine c_v X (rV (pc := 66) (ci := 5) X l_X4_59 (t5_tell hT1 hI (w := 0) (num := 0) (by omega) h2) dX4_readClause_66 (by repeat (first | exact mu_self | assumption | refine (mu_ne (by omega)).trans ?_)) rfl rfl rfl (Nat.le_of_ble_eq_true rfl) (by decide) (Nat.le_of_ble_eq_true rfl) (Nat.le_of_ble_eq_true rfl)) ?_
        rintro μ2 ⟨m1, m2⟩
        refine r_iconst (pc := 69) (v := nI 1) X dX4_readClause_69 (by decide) ?_
        exact r_zret (pc := 70) X dX4_readClause_70 (by first | rfl | decide | exact zb_nar _) (⟨rfl, j1.kept (fun q h1 h2 => m2 q (by omega)), m1, fun q h1 h2 => (m2 q (by omega)).trans (j2 q (by omega))⟩)
      · refine r_aload_n (pc := 30) X dX4_readClause_30 rfl ?_
        refine c_v X (rV (pc := 31) (ci := 4) X l_X4_29 (t4_nextToken j1 hn hx he1) dX4_readClause_31 (by repeat (first | exact mu_self | assumption | refine (mu_ne (by omega)).trans ?_)) rfl rfl rfl (Nat.le_of_ble_eq_true rfl) (by decide) (Nat.le_of_ble_eq_true rfl) (Nat.le_of_ble_eq_true rfl)) ?_
        rintro μ2 ⟨n1, n2⟩
        have n10 := n1.1
        have hT2 : ToldAt Γ μ2 b T := hT1.kept (fun q h1 h2 => n2 q (by omega))
        have k2 := hT2.1
        obtain ⟨hla, hma⟩ := lst_le w (by omega)
        refine r_aload_n (pc := 34) X dX4_readClause_34 rfl ?_
        refine c_i X (rV (pc := 35) (ci := 4) X l_X4_45 (t4_numberHere n1 hn hx hg2 he2 (fun hq j h1 h2 => tkE_dig hq h1 h2)) dX4_readClause_35 (by repeat (first | exact mu_self | assumption | refine (mu_ne (by omega)).trans ?_)) rfl rfl rfl (Nat.le_of_ble_eq_true rfl) (by decide) (Nat.le_of_ble_eq_true rfl) (Nat.le_of_ble_eq_true rfl)) ?_
        rintro _ μq ⟨rfl, hμq⟩
        rw [hμq]
        clear hμq μq
        have hncl := nmC_lt (xs := xs) (n := n) (e0 := tkE xs n (tkB xs n e0))
        obtain ⟨nc, hnc⟩ : ∃ nc, nc = nmC xs n (tkB xs n (tkE xs n (tkB xs n e0))) (tkE xs n (tkB xs n (tkE xs n (tkB xs n e0)))) := ⟨_, rfl⟩
        rw [← hnc] at hncl ⊢
        have bad2 : ∀ z, nc = 0 ∨ nc - 1 < lstA w ∨ mstA w < nc - 1 → vV Γ p l e R s m args below meth c (vQ Γ s args below 0 0 (ri (fun r μ' => r = zb (rcl xs n T e0).1 ∧ TextAt Γ μ' a n xs cl (nI (rcl xs n T e0).2.2.1) (nI (rcl xs n T e0).2.2.2) ∧ ToldAt Γ μ' b (rcl xs n T e0).2.1 ∧ ∀ q : Nat, (q < a ∨ a + 2 ≤ q) → (q < b ∨ b + 5 ≤ q) → μ' q = μ q))) 4 0 0 61 [some (.ref (a)), some (.ref (b)), some (.int (nI (w))), some (.int (z))] [] (μ2) := by
          intro z hq
          have e1 : rcl xs n T e0 = (false, T, tkB xs n (tkE xs n (tkB xs n e0)), tkE xs n (tkB xs n (tkE xs n (tkB xs n e0)))) := by
            unfold rcl
            dsimp only
            rw [← hW, ← hnc, if_neg (by rw [show w + 1 - 1 = w from rfl, h2]; simp), if_neg (by omega), show w + 1 - 1 = w from rfl, if_pos hq]
          rw [e1]
          refine r_iconst (pc := 61) (v := nI 0) X dX4_readClause_61 (by decide) ?_
          exact r_zret (pc := 62) X dX4_readClause_62 (by first | rfl | decide | exact zb_nar _) (⟨rfl, n1, hT2, fun q h1 h2 => (n2 q (by omega)).trans (j2 q (by omega))⟩)
        refine r_istore_n (pc := 38) X dX4_readClause_38 (by decide) rfl ?_
        refine r_iload_n (pc := 39) X dX4_readClause_39 rfl ?_
        refine r_iconst (pc := 40) (v := -1) X dX4_readClause_40 (by decide) ?_
        refine r_icmp_eq (pc := 41) X 61 dX4_readClause_41 (by decide) (fun h4 => ?_) (fun h4 => ?_)
        · exact bad2 _ (Or.inl ((uI_eq (by omega) (by omega)).mp (by rw [h4, uI_0])))
        · have hc0 : nc ≠ 0 := fun q => h4 (by rw [q, uI_0])
          obtain ⟨v, rfl⟩ : ∃ v, nc = v + 1 := ⟨nc - 1, by omega⟩
          rw [uI_S] at *
          refine r_iload_n (pc := 44) X dX4_readClause_44 rfl ?_
          refine r_getsN (pc := 45) X (i := 1) (by decide) s_X4_48 dX4_readClause_45 ?_
          refine r_iload_n (pc := 48) X dX4_readClause_48 rfl ?_
          refine r_tald (pc := 49) X (i := 1) (by decide) dX4_readClause_49 (show w < 11 by omega) ?_
          rw [lst_ok w (by omega)]
          refine r_getsN (pc := 50) X (i := 2) (by decide) s_X4_52 dX4_readClause_50 ?_
          refine r_iload_n (pc := 53) X dX4_readClause_53 rfl ?_
          refine r_tald (pc := 54) X (i := 2) (by decide) dX4_readClause_54 (show w < 11 by omega) ?_
          rw [mst_ok w (by omega)]
          refine c_i X (rSN (pc := 55) X l_X4_55 (t6_isOutside (nI v) (nI (lstA w)) (nI (mstA w))) dX4_readClause_55 rfl rfl (Nat.le_of_ble_eq_true rfl) (by decide) (Nat.le_of_ble_eq_true rfl) (Nat.le_of_ble_eq_true rfl)) ?_
          rintro _ μq ⟨rfl, hμq⟩
          rw [hμq]
          clear hμq μq
          rw [nI_toInt (by omega), nI_toInt (by omega), nI_toInt (by omega)]
          first | refine r_if_eqZ (pc := 58) X 63 dX4_readClause_58 (by decide) (fun h5 => ?_) (fun h5 => ?_) | refine r_if_eqN (pc := 58) X 63 dX4_readClause_58 (by decide) (by omega) (fun h5 => ?_) (fun h5 => ?_) | refine r_if_eq (pc := 58) X 63 dX4_readClause_58 (by decide) (fun h5 => ?_) (fun h5 => ?_)
          · have h5' : ¬ (v < lstA w ∨ mstA w < v) := by simp at h5; omega
            have e1 : rcl xs n T e0 = (true, tellT T w v, tkB xs n (tkE xs n (tkB xs n e0)), tkE xs n (tkB xs n (tkE xs n (tkB xs n e0)))) := by
              unfold rcl
              dsimp only
              rw [← hW, ← hnc, if_neg (by rw [show w + 1 - 1 = w from rfl, h2]; simp), if_neg (by omega), show w + 1 - 1 = w from rfl, show v + 1 - 1 = v from rfl, if_neg (by omega)]
            rw [e1]
            refine r_aload_n (pc := 63) X dX4_readClause_63 rfl ?_
            refine r_iload_n (pc := 64) X dX4_readClause_64 rfl ?_
            refine r_iload_n (pc := 65) X dX4_readClause_65 rfl ?_
            refine c_v X (rV (pc := 66) (ci := 5) X l_X4_59 (t5_tell hT2 hI (w := w) (num := v) (by omega) h2) dX4_readClause_66 (by repeat (first | exact mu_self | assumption | refine (mu_ne (by omega)).trans ?_)) rfl rfl rfl (Nat.le_of_ble_eq_true rfl) (by decide) (Nat.le_of_ble_eq_true rfl) (Nat.le_of_ble_eq_true rfl)) ?_
            rintro μ3 ⟨m1, m2⟩
            refine r_iconst (pc := 69) (v := nI 1) X dX4_readClause_69 (by decide) ?_
            exact r_zret (pc := 70) X dX4_readClause_70 (by first | rfl | decide | exact zb_nar _) (⟨rfl, n1.kept (fun q h1 h2 => m2 q (by omega)), m1, fun q h1 h2 => (m2 q (by omega)).trans ((n2 q (by omega)).trans (j2 q (by omega)))⟩)
          · have h5' : v < lstA w ∨ mstA w < v := by simp at h5; omega
            exact bad2 _ (Or.inr h5')
    · exact bad (Or.inr h2)
theorem t4_read {b0 e0 : Int32} (h : TextAt Γ μ a n xs cl b0 e0) (hT : ToldAt Γ μ b T) (hI : IT T) (hn : n ≤ 160) (hx : ∀ i, xs i < 256) (hd : a + 2 ≤ b ∨ b + 5 ≤ a) : CT Γ l 7 sz 0 0 mX4_read [.ref a, .ref b] μ (ri (fun r μ' => r = uI (rdT xs n 14 0 T 0 0).1 ∧ (∃ cl' b' e', TextAt Γ μ' a n xs cl' b' e' ∧ ((rdT xs n 14 0 T 0 0).1 = 0 → cl' = nI (rdT xs n 14 0 T 0 0).2.2)) ∧ ToldAt Γ μ' b (rdT xs n 14 0 T 0 0).2.1 ∧ ∀ q : Nat, (q < a ∨ a + 2 ≤ q) → (q < b ∨ b + 5 ≤ q) → μ' q = μ q)) := by
  have g0 := h.1
  refine CT.go RX4 rfl "read" rfl [some (.ref a), some (.ref b), none] rfl (by decide) (Nat.le_of_ble_eq_true rfl) ?_
  intro p e R s m args below meth c X hsz
  refine r_aload_n (pc := 0) X dX4_read_0 rfl ?_
  refine r_iconst (pc := 1) (v := nI 0) X dX4_read_1 (by decide) ?_
  first | refine r_putS (pc := 2) X f_X4_19 dX4_read_2 (by first | rfl | assumption | decide | simp [narrow]) (by first | rfl | assumption) (Nat.le_of_ble_eq_true rfl) ?_ | refine r_put (pc := 2) X f_X4_19 dX4_read_2 (by repeat (first | exact mu_self | assumption | refine (mu_ne (by omega)).trans ?_)) (by first | rfl | assumption | decide | simp [narrow]) (by first | rfl | assumption) (Nat.le_of_ble_eq_true rfl) ?_
  refine r_iconst (pc := 5) (v := nI 0) X dX4_read_5 (by decide) ?_
  refine r_istore_n (pc := 6) X dX4_read_6 (by decide) rfl ?_
  have key : ∀ (N k' : Nat) (T' : Nat → Nat) (e' b' : Nat) (μ1 : MM), k' + N = 14 → e' ≤ n → IT T' → TextAt Γ μ1 a n xs cl (if N = 14 then b0 else nI b') (nI e') → ToldAt Γ μ1 b T' → (∀ q : Nat, (q < a ∨ a + 2 ≤ q) → (q < b ∨ b + 5 ≤ q) → μ1 q = μ q) →
      vV Γ p l e R s m args below meth c (vQ Γ s args below 0 0 (ri (fun r μ' => r = uI (rdT xs n N k' T' e' b').1 ∧ (∃ cl' b'' e'', TextAt Γ μ' a n xs cl' b'' e'' ∧ ((rdT xs n N k' T' e' b').1 = 0 → cl' = nI (rdT xs n N k' T' e' b').2.2)) ∧ ToldAt Γ μ' b (rdT xs n N k' T' e' b').2.1 ∧ ∀ q : Nat, (q < a ∨ a + 2 ≤ q) → (q < b ∨ b + 5 ≤ q) → μ' q = μ q))) 3 0 0 7 [some (.ref a), some (.ref b), some (.int (nI k'))] [] μ1 := by
    intro N
    induction N with
    | zero =>
      intro k' T' e' b' μ1 hk he hI' hq hT' hF
      rw [if_neg (by omega)] at hq
      have q0 := hq.1
      refine r_iload_n (pc := 7) X dX4_read_7 rfl ?_
      refine r_bipush (pc := 8) (v := nI 14) X dX4_read_8 (by decide) ?_
      refine r_icmp_geN (pc := 10) X 75 dX4_read_10 (by decide) (by omega) (by omega) (fun _ => ?_) (fun h => absurd (show 14 ≤ k' by omega) h)
      refine r_aload_n (pc := 75) X dX4_read_75 rfl ?_
      apply r_get (pc := 76) X f_X4_26 dX4_read_76
      · repeat (first | exact mu_self | assumption | refine (mu_ne (by omega)).trans ?_)
      · rfl
      exact r_iret (pc := 79) X dX4_read_79 (⟨(uI_S b').symm, ⟨_, _, _, hq, fun z => absurd z (Nat.succ_ne_zero b')⟩, hT', hF⟩)
    | succ N ih =>
      intro k' T' e' b' μ1 hk he hI' hq hT' hF
      have q0 := hq.1
      obtain ⟨r1, r2, r3⟩ := rcl_ok (xs := xs) hI' he
      obtain ⟨Q, hQ⟩ : ∃ Q, Q = rcl xs n T' e' := ⟨_, rfl⟩
      rw [← hQ] at r1 r2 r3
      have hb2 := tkB_le (xs := xs) r2
      have he2 := tkE_le (X := xs) hb2
      refine r_iload_n (pc := 7) X dX4_read_7 rfl ?_
      refine r_bipush (pc := 8) (v := nI 14) X dX4_read_8 (by decide) ?_
      refine r_icmp_geN (pc := 10) X 75 dX4_read_10 (by decide) (by omega) (by omega) (fun h => absurd h (by omega)) (fun _ => ?_)
      refine r_aload_n (pc := 13) X dX4_read_13 rfl ?_
      refine r_aload_n (pc := 14) X dX4_read_14 rfl ?_
      refine c_i X (rV (pc := 15) (ci := 4) X l_X4_22 (t4_readClause hq hT' hI' hn hx he hd) dX4_read_15 (by repeat (first | exact mu_self | assumption | refine (mu_ne (by omega)).trans ?_)) rfl rfl rfl (Nat.le_of_ble_eq_true rfl) (by decide) (Nat.le_of_ble_eq_true rfl) (Nat.le_of_ble_eq_true rfl)) ?_
      rintro _ μ2 ⟨rfl, m1, m2, m3⟩
      rw [← hQ] at m1 m2 ⊢
      have m10 := m1.1
      have hF2 : ∀ q : Nat, (q < a ∨ a + 2 ≤ q) → (q < b ∨ b + 5 ≤ q) → μ2 q = μ q := fun q h1 h2 => (m3 q h1 h2).trans (hF q h1 h2)
      have e0' : rdT xs n (N + 1) k' T' e' b' = if Q.1 = false then (Q.2.2.1 + 1, Q.2.1, 0) else if n ≤ tkB xs n Q.2.2.2 then (0, Q.2.1, k' + 1) else if xs (tkB xs n Q.2.2.2) ≠ 59 then (tkB xs n Q.2.2.2 + 1, Q.2.1, 0) else rdT xs n N (k' + 1) Q.2.1 (tkE xs n (tkB xs n Q.2.2.2)) (tkB xs n Q.2.2.2) := by
        rw [hQ]; rfl
      first | refine r_if_neZ (pc := 18) X 26 dX4_read_18 (by decide) (fun h1 => ?_) (fun h1 => ?_) | refine r_if_neN (pc := 18) X 26 dX4_read_18 (by decide) (by omega) (fun h1 => ?_) (fun h1 => ?_) | refine r_if_ne (pc := 18) X 26 dX4_read_18 (by decide) (fun h1 => ?_) (fun h1 => ?_)
      · rw [h1] at e0'
        rw [if_neg (by decide)] at e0'
        refine r_aload_n (pc := 26) X dX4_read_26 rfl ?_
        refine c_v X (rV (pc := 27) (ci := 4) X l_X4_29 (t4_nextToken m1 hn hx r2) dX4_read_27 (by repeat (first | exact mu_self | assumption | refine (mu_ne (by omega)).trans ?_)) rfl rfl rfl (Nat.le_of_ble_eq_true rfl) (by decide) (Nat.le_of_ble_eq_true rfl) (Nat.le_of_ble_eq_true rfl)) ?_
        rintro μ3 ⟨n1, n2⟩
        have n10 := n1.1
        have n11 := n1.2
        have hF3 : ∀ q : Nat, (q < a ∨ a + 2 ≤ q) → (q < b ∨ b + 5 ≤ q) → μ3 q = μ q := fun q h1 h2 => (n2 q (by omega)).trans (hF2 q h1 h2)
        have hT3 : ToldAt Γ μ3 b Q.2.1 := m2.kept (fun q h1 h2 => n2 q (by omega))
        refine r_aload_n (pc := 30) X dX4_read_30 rfl ?_
        apply r_get (pc := 31) X f_X4_26 dX4_read_31
        · repeat (first | exact mu_self | assumption | refine (mu_ne (by omega)).trans ?_)
        · rfl
        refine r_aload_n (pc := 34) X dX4_read_34 rfl ?_
        apply r_get (pc := 35) X f_X4_15 dX4_read_35
        · repeat (first | exact mu_self | assumption | refine (mu_ne (by omega)).trans ?_)
        · rfl
        first | refine r_icmp_ltN (pc := 38) X 50 dX4_read_38 (by decide) (by omega) (by omega) (fun h2 => ?_) (fun h2 => ?_) | refine r_icmp_lt (pc := 38) X 50 dX4_read_38 (by decide) (fun h2 => ?_) (fun h2 => ?_)
        · rw [if_neg (by omega)] at e0'
          have hxb := hx (tkB xs n Q.2.2.2)
          refine r_aload_n (pc := 50) X dX4_read_50 rfl ?_
          apply r_get (pc := 51) X f_X4_9 dX4_read_51
          · repeat (first | exact mu_self | assumption | refine (mu_ne (by omega)).trans ?_)
          · rfl
          refine r_aload_n (pc := 54) X dX4_read_54 rfl ?_
          apply r_get (pc := 55) X f_X4_26 dX4_read_55
          · repeat (first | exact mu_self | assumption | refine (mu_ne (by omega)).trans ?_)
          · rfl
          apply r_cald (pc := 58) X dX4_read_58
          · repeat (first | exact mu_self | assumption | refine (mu_ne (by omega)).trans ?_)
          · omega
          · decide
          refine r_bipush (pc := 59) (v := nI 59) X dX4_read_59 (by decide) ?_
          first | refine r_icmp_eqN (pc := 61) X 69 dX4_read_61 (by decide) (by omega) (by omega) (fun h3 => ?_) (fun h3 => ?_) | refine r_icmp_eq (pc := 61) X 69 dX4_read_61 (by decide) (fun h3 => ?_) (fun h3 => ?_)
          · rw [if_neg (by simp [h3])] at e0'
            rw [e0']
            refine r_iincN (pc := 69) (b := 1) X dX4_read_69 rfl (by decide) rfl ?_
            refine r_goto (pc := 72) X 7 dX4_read_72 (by decide) ?_
            exact ih (k' + 1) Q.2.1 _ (tkB xs n Q.2.2.2) μ3 (by omega) he2 r3 (by rw [if_neg (by omega)]; exact n1) hT3 hF3
          · rw [if_pos h3] at e0'
            rw [e0']
            refine r_aload_n (pc := 64) X dX4_read_64 rfl ?_
            apply r_get (pc := 65) X f_X4_26 dX4_read_65
            · repeat (first | exact mu_self | assumption | refine (mu_ne (by omega)).trans ?_)
            · rfl
            exact r_iret (pc := 68) X dX4_read_68 (⟨(uI_S _).symm, ⟨_, _, _, n1, fun z => absurd z (Nat.succ_ne_zero _)⟩, hT3, hF3⟩)
        · rw [if_pos (by omega)] at e0'
          rw [e0']
          refine r_aload_n (pc := 41) X dX4_read_41 rfl ?_
          refine r_iload_n (pc := 42) X dX4_read_42 rfl ?_
          refine r_iconst (pc := 43) (v := nI 1) X dX4_read_43 (by decide) ?_
          first | refine r_iaddN (pc := 44) X dX4_read_44 ?_ | refine r_iadd (pc := 44) X dX4_read_44 ?_
          first | refine r_putS (pc := 45) X f_X4_32 dX4_read_45 (by first | rfl | assumption | decide | simp [narrow]) (by first | rfl | assumption) (Nat.le_of_ble_eq_true rfl) ?_ | refine r_put (pc := 45) X f_X4_32 dX4_read_45 (by repeat (first | exact mu_self | assumption | refine (mu_ne (by omega)).trans ?_)) (by first | rfl | assumption | decide | simp [narrow]) (by first | rfl | assumption) (Nat.le_of_ble_eq_true rfl) ?_
          refine r_iconst (pc := 48) (v := -1) X dX4_read_48 (by decide) ?_
          exact r_iret (pc := 49) X dX4_read_49 (⟨uI_0.symm, ⟨nI (k' + 1), _, _, ⟨mu_self, (by repeat (first | exact mu_self | assumption | refine (mu_ne (by omega)).trans ?_))⟩, fun _ => rfl⟩, hT3.kept (fun q h1 h2 => mu_ne (by omega)), fun q h1 h2 => (mu_ne (by omega)).trans (hF3 q h1 h2)⟩)
      · rw [h1, if_pos rfl] at e0'
        rw [e0']
        refine r_aload_n (pc := 21) X dX4_read_21 rfl ?_
        apply r_get (pc := 22) X f_X4_26 dX4_read_22
        · repeat (first | exact mu_self | assumption | refine (mu_ne (by omega)).trans ?_)
        · rfl
        exact r_iret (pc := 25) X dX4_read_25 (⟨(uI_S _).symm, ⟨_, _, _, m1, fun z => absurd z (Nat.succ_ne_zero _)⟩, m2, hF2⟩)
  refine key 14 0 T 0 0 _ (by omega) (by omega) hI ⟨by rw [if_pos rfl]; exact mu_self, (mu_ne (by omega)).trans h.2⟩ (hT.kept (fun q h1 h2 => mu_ne (by omega))) (fun q h1 h2 => mu_ne (by omega))
end S23
