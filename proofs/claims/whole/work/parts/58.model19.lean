theorem sh_eq {T : Nat → Nat} {a v : Nat} (h : T 7 < 6) : upN (upN (upN T (14 + T 7) a) 7 (T 7 + 1)) (8 + (T 7 + 1) - 1) v = addShT T v a := by
  funext i
  unfold addShT upN
  by_cases h1 : i = 7
  · rw [if_neg (by omega), if_pos h1, if_pos h1]
  · rw [if_neg h1, if_neg h1]
    by_cases h2 : i = 8 + T 7
    · rw [if_pos (by omega), if_neg (by omega), if_pos h2]
    · rw [if_neg (by omega), if_neg h2]
theorem tell_n {T : Nat → Nat} {w num : Nat} (h : 7 ≤ w) : tellT T w num = upN T (18 + w) num := by
  unfold tellT
  rw [if_neg (by omega), if_neg (by omega), if_neg (by omega), if_neg (by omega)]
section S58
variable {Γ : KK} {l : Launch} {sz : Nat} {μ : MM} {y n : Nat} {pl tk vl bg cl : Int32} {un sn : Nat} {xs : Nat → Nat} {T : Nat → Nat}
theorem t7_readClause {e0 : Nat} (hO : μ y = some (mdO y n (nI (tkE xs n (tkB xs n e0))) (nI (tkK xs n (tkB xs n e0))) vl (nI (tkB xs n e0)) cl un sn)) (hX : μ (y + 3) = some (xI Γ 160 (fun i => nI (xs i)))) (hR : μ (y + 4) = some (xI Γ 29 (fun i => nI (T i)))) (hI : IT T) (hn : n ≤ 160) (hx : ∀ i, xs i < 256) (he : e0 ≤ n) : CT Γ l 4 sz 0 0 mX7_readClause [.ref y] μ (ri (fun r μ' => r = zb (rcl xs n T e0).1 ∧ (∃ tk' vl', μ' y = some (mdO y n (nI (rcl xs n T e0).2.2.2) tk' vl' (nI (rcl xs n T e0).2.2.1) cl un sn)) ∧ μ' (y + 4) = some (xI Γ 29 (fun i => nI ((rcl xs n T e0).2.1 i))) ∧ ∀ q, q ≠ y → q ≠ y + 4 → μ' q = μ q)) := by
  have t1 := hI.1
  have t2 := hI.2.1
  have t3 := hI.2.2.1
  have hB : tkB xs n e0 ≤ n := tkB_le he
  have hE : tkE xs n (tkB xs n e0) ≤ n := tkE_le hB
  refine CT.go RX7 rfl "readClause" rfl [some (.ref y), none, none] rfl (by decide) (Nat.le_of_ble_eq_true rfl) ?_
  intro p e R s m args below meth c X hsz
  have sheep : ∀ v : Nat, v < 4 → fstF (tkIs xs (tkB xs n e0) (tkE xs n (tkB xs n e0))) 11 0 = (v + 2) + 1 → vV Γ p l e R s m args below meth c (vQ Γ s args below 0 0 (ri (fun r μ' => r = zb (rcl xs n T e0).1 ∧ (∃ tk' vl', μ' y = some (mdO y n (nI (rcl xs n T e0).2.2.2) tk' vl' (nI (rcl xs n T e0).2.2.1) cl un sn)) ∧ μ' (y + 4) = some (xI Γ 29 (fun i => nI ((rcl xs n T e0).2.1 i))) ∧ ∀ q, q ≠ y → q ≠ y + 4 → μ' q = μ q))) 3 0 0 5 [some (.ref (y)), some (.int (nI (v))), none] [] (μ) := by
    intro v hv hw
    have hrt : roomT T (v + 2) = decide (T 7 < 6) := by unfold roomT; rw [if_neg (by omega), if_neg (by omega), if_pos (by omega)]
    have hls : lstA (v + 2) = 1 ∧ mstA (v + 2) = 20 := by
      rcases (show v = 0 ∨ v = 1 ∨ v = 2 ∨ v = 3 by omega) with rfl | rfl | rfl | rfl <;> exact ⟨rfl, rfl⟩
    refine r_iload_n (pc := 5) X dX7_readClause_5 rfl ?_
    first | refine r_if_geN (pc := 6) X 11 dX7_readClause_6 (by decide) (by omega) (fun h1 => ?_) (fun h1 => ?_) | refine r_if_ge (pc := 6) X 11 dX7_readClause_6 (by decide) (fun h1 => ?_) (fun h1 => ?_)
    · refine r_iload_n (pc := 11) X dX7_readClause_11 rfl ?_
      refine r_iconst (pc := 12) (v := nI 4) X dX7_readClause_12 (by decide) ?_
      first | refine r_icmp_geN (pc := 13) X 54 dX7_readClause_13 (by decide) (by omega) (by omega) (fun h2 => ?_) (fun h2 => ?_) | refine r_icmp_ge (pc := 13) X 54 dX7_readClause_13 (by decide) (fun h2 => ?_) (fun h2 => ?_)
      · omega
      · refine r_aload_n (pc := 16) X dX7_readClause_16 rfl ?_
        refine r_bipush (pc := 17) (v := nI 7) X dX7_readClause_17 (by decide) ?_
        refine r_bipush (pc := 19) (v := nI 6) X dX7_readClause_19 (by decide) ?_
        refine r_bipush (pc := 21) (v := nI 14) X dX7_readClause_21 (by decide) ?_
        refine r_iconst (pc := 23) (v := nI 1) X dX7_readClause_23 (by decide) ?_
        refine r_bipush (pc := 24) (v := nI 20) X dX7_readClause_24 (by decide) ?_
        refine c_i X (rV (pc := 26) (ci := 7) X l_X7_100 (t7_readOne (c0 := 7) (rm := 6) (at0 := 14) (lo := 1) (hi := 20) hO hX hR hn hx hE (by omega) (by omega) (by omega) (by omega) t2) dX7_readClause_26 (by repeat (first | exact mu_self | assumption | refine (mu_ne (by omega)).trans ?_)) rfl rfl rfl (Nat.le_of_ble_eq_true rfl) (by decide) (Nat.le_of_ble_eq_true rfl) (Nat.le_of_ble_eq_true rfl)) ?_
        rintro r1 μ1 ⟨p1, p2, p3⟩
        by_cases h3 : T 7 = 6
        · obtain ⟨rfl, hμ⟩ := p1 h3
          rw [hμ]
          have er := rcl_full hw (T := T) (by rw [hrt, decide_eq_false (by omega)])
          refine r_if_neZ (pc := 29) X 34 dX7_readClause_29 (by decide) (fun q => absurd q (by decide)) (fun _ => ?_)
          refine r_iconst (pc := 32) (v := nI 0) X dX7_readClause_32 (by decide) ?_
          exact r_zret (pc := 33) X dX7_readClause_33 (by first | rfl | decide | exact zb_nar _) (⟨by rw [er]; rfl, ⟨_, _, by rw [er]; exact hO⟩, by rw [er]; exact hR, fun q _ _ => rfl⟩)
        · have hrt' : roomT T (v + 2) = true := by rw [hrt, decide_eq_true (by omega)]
          rcases Nat.eq_zero_or_pos (nuC (nmC xs n (tkB xs n (tkE xs n (tkB xs n e0))) (tkE xs n (tkB xs n (tkE xs n (tkB xs n e0))))) 1 20) with g | g
          · obtain ⟨rfl, hμ⟩ := p2 h3 g
            rw [hμ]
            have er := rcl_bad hw (T := T) (by omega) hrt' (by rw [hls.1, hls.2]; exact g)
            refine r_if_neZ (pc := 29) X 34 dX7_readClause_29 (by decide) (fun q => absurd q (by decide)) (fun _ => ?_)
            refine r_iconst (pc := 32) (v := nI 0) X dX7_readClause_32 (by decide) ?_
            exact r_zret (pc := 33) X dX7_readClause_33 (by first | rfl | decide | exact zb_nar _) (⟨by rw [er]; rfl, ⟨_, _, by rw [er]; exact mu_self⟩, by rw [er]; exact (mu_ne (by omega)).trans hR, fun q h1 h2 => mu_ne h1⟩)
          · obtain ⟨u, hu⟩ : ∃ u, nuC (nmC xs n (tkB xs n (tkE xs n (tkB xs n e0))) (tkE xs n (tkB xs n (tkE xs n (tkB xs n e0))))) 1 20 = u + 1 := ⟨_, (Nat.succ_pred (by omega)).symm⟩
            obtain ⟨rfl, hμ⟩ := p3 u h3 hu
            rw [hμ]
            have er := rcl_good hw (T := T) (by omega) hrt' (v := u) (by rw [hls.1, hls.2]; exact hu)
            have et : tellT T (v + 2) u = addShT T v u := by rw [Nat.add_comm v 2]; exact tellT_s T v u hv
            rw [et] at er
            refine r_if_neZ (pc := 29) X 34 dX7_readClause_29 (by decide) (fun _ => ?_) (fun q => absurd q (by decide))
            refine r_aload_n (pc := 34) X dX7_readClause_34 rfl ?_
            apply r_get (pc := 35) X f_X7_19 dX7_readClause_35
            · repeat (first | exact mu_self | assumption | refine (mu_ne (by omega)).trans ?_)
            · rfl
            refine r_bipush (pc := 38) (v := nI 8) X dX7_readClause_38 (by decide) ?_
            refine r_aload_n (pc := 40) X dX7_readClause_40 rfl ?_
            apply r_get (pc := 41) X f_X7_19 dX7_readClause_41
            · repeat (first | exact mu_self | assumption | refine (mu_ne (by omega)).trans ?_)
            · rfl
            refine r_bipush (pc := 44) (v := nI 7) X dX7_readClause_44 (by decide) ?_
            apply r_iald (pc := 46) X dX7_readClause_46
            · repeat (first | exact mu_self | assumption | refine (mu_ne (by omega)).trans ?_)
            · omega
            · decide
            rw [upN_self]
            first | refine r_iaddN (pc := 47) X dX7_readClause_47 ?_ | refine r_iadd (pc := 47) X dX7_readClause_47 ?_
            refine r_iconst (pc := 48) (v := nI 1) X dX7_readClause_48 (by decide) ?_
            first | refine r_isubN (pc := 49) X dX7_readClause_49 (by omega) ?_ | refine r_isub (pc := 49) X dX7_readClause_49 ?_
            refine r_iload_n (pc := 50) X dX7_readClause_50 rfl ?_
            apply r_iast (pc := 51) X dX7_readClause_51
            · repeat (first | exact mu_self | assumption | refine (mu_ne (by omega)).trans ?_)
            · omega
            · decide
            rw [mu_mu, nI_up, sh_eq (by omega)]
            refine r_iconst (pc := 52) (v := nI 1) X dX7_readClause_52 (by decide) ?_
            exact r_zret (pc := 53) X dX7_readClause_53 (by first | rfl | decide | exact zb_nar _) (⟨by rw [er]; rfl, ⟨_, _, by rw [er]; exact (mu_ne (by omega)).trans mu_self⟩, by rw [er]; exact mu_self, fun q h1 h2 => (mu_ne h2).trans (mu_ne h1)⟩)
    · exact absurd (Nat.zero_le _) h1
  have ones : ∀ (v c0 rm at0 hi lo : Nat), (v = 5 ∧ c0 = 0 ∧ rm = 6 ∧ at0 = 1 ∧ lo = 1 ∧ hi = 20) ∨ (v = 6 ∧ c0 = 20 ∧ rm = 4 ∧ at0 = 21 ∧ lo = 0 ∧ hi = 255) → ∀ w : Nat, w ≠ 0 → roomT T w = decide (T c0 < rm) → lstA w = lo → mstA w = hi → (∀ u, tellT T w u = upN (upN T (at0 + T c0) u) c0 (T c0 + 1)) → T c0 ≤ rm → fstF (tkIs xs (tkB xs n e0) (tkE xs n (tkB xs n e0))) 11 0 = w + 1 → ∀ (r1 : Int32) (μ1 : MM), ((T c0 = rm → r1 = zb false ∧ μ1 = μ) ∧ (T c0 ≠ rm → nuC (nmC xs n (tkB xs n (tkE xs n (tkB xs n e0))) (tkE xs n (tkB xs n (tkE xs n (tkB xs n e0))))) lo hi = 0 → r1 = zb false ∧ μ1 = mu μ y (mdO y n (nI (tkE xs n (tkB xs n (tkE xs n (tkB xs n e0))))) (nI (tkK xs n (tkB xs n (tkE xs n (tkB xs n e0))))) (nI (tkV xs n (tkB xs n (tkE xs n (tkB xs n e0))))) (nI (tkB xs n (tkE xs n (tkB xs n e0)))) cl un sn)) ∧ ∀ v, T c0 ≠ rm → nuC (nmC xs n (tkB xs n (tkE xs n (tkB xs n e0))) (tkE xs n (tkB xs n (tkE xs n (tkB xs n e0))))) lo hi = v + 1 → r1 = zb true ∧ μ1 = mu (mu μ y (mdO y n (nI (tkE xs n (tkB xs n (tkE xs n (tkB xs n e0))))) (nI (tkK xs n (tkB xs n (tkE xs n (tkB xs n e0))))) (nI (tkV xs n (tkB xs n (tkE xs n (tkB xs n e0))))) (nI (tkB xs n (tkE xs n (tkB xs n e0)))) cl un sn)) (y + 4) (xI Γ 29 (fun i => nI (upN (upN T (at0 + T c0) v) c0 (T c0 + 1) i)))) → vV Γ p l e R s m args below meth c (vQ Γ s args below 0 0 (ri (fun r μ' => r = zb (rcl xs n T e0).1 ∧ (∃ tk' vl', μ' y = some (mdO y n (nI (rcl xs n T e0).2.2.2) tk' vl' (nI (rcl xs n T e0).2.2.1) cl un sn)) ∧ μ' (y + 4) = some (xI Γ 29 (fun i => nI ((rcl xs n T e0).2.1 i))) ∧ ∀ q, q ≠ y → q ≠ y + 4 → μ' q = μ q))) 3 0 0 106 [some (.ref (y)), some (.int (nI (v))), none] [.int (r1)] (μ1) := by
    intro v c0 rm at0 hi lo hcs w hw0 hrt hl hm ht hT hw r1 μ1 hp
    obtain ⟨p1, p2, p3⟩ := hp
    by_cases h3 : T c0 = rm
    · obtain ⟨rfl, hμ⟩ := p1 h3
      rw [hμ]
      have er := rcl_full hw (T := T) (by rw [hrt, decide_eq_false (by omega)])
      exact r_zret (pc := 106) X dX7_readClause_106 (by first | rfl | decide | exact zb_nar _) (⟨by rw [er], ⟨_, _, by rw [er]; exact hO⟩, by rw [er]; exact hR, fun q _ _ => rfl⟩)
    · have hrt' : roomT T w = true := by rw [hrt, decide_eq_true (by omega)]
      rcases Nat.eq_zero_or_pos (nuC (nmC xs n (tkB xs n (tkE xs n (tkB xs n e0))) (tkE xs n (tkB xs n (tkE xs n (tkB xs n e0))))) lo hi) with g | g
      · obtain ⟨rfl, hμ⟩ := p2 h3 g
        rw [hμ]
        have er := rcl_bad hw (T := T) hw0 hrt' (by rw [hl, hm]; exact g)
        exact r_zret (pc := 106) X dX7_readClause_106 (by first | rfl | decide | exact zb_nar _) (⟨by rw [er], ⟨_, _, by rw [er]; exact mu_self⟩, by rw [er]; exact (mu_ne (by omega)).trans hR, fun q h1 h2 => mu_ne h1⟩)
      · obtain ⟨u, hu⟩ : ∃ u, nuC (nmC xs n (tkB xs n (tkE xs n (tkB xs n e0))) (tkE xs n (tkB xs n (tkE xs n (tkB xs n e0))))) lo hi = u + 1 := ⟨_, (Nat.succ_pred (by omega)).symm⟩
        obtain ⟨rfl, hμ⟩ := p3 u h3 hu
        rw [hμ]
        have er := rcl_good hw (T := T) hw0 hrt' (v := u) (by rw [hl, hm]; exact hu)
        rw [ht] at er
        exact r_zret (pc := 106) X dX7_readClause_106 (by first | rfl | decide | exact zb_nar _) (⟨by rw [er], ⟨_, _, by rw [er]; exact (mu_ne (by omega)).trans mu_self⟩, by rw [er]; exact mu_self, fun q h1 h2 => (mu_ne h2).trans (mu_ne h1)⟩)
  have nums : ∀ v lo hi : Nat, 7 ≤ v → v ≤ 10 → lstA v = lo → mstA v = hi → hi ≤ 255 → fstF (tkIs xs (tkB xs n e0) (tkE xs n (tkB xs n e0))) 11 0 = v + 1 → vV Γ p l e R s m args below meth c (vQ Γ s args below 0 0 (ri (fun r μ' => r = zb (rcl xs n T e0).1 ∧ (∃ tk' vl', μ' y = some (mdO y n (nI (rcl xs n T e0).2.2.2) tk' vl' (nI (rcl xs n T e0).2.2.1) cl un sn)) ∧ μ' (y + 4) = some (xI Γ 29 (fun i => nI ((rcl xs n T e0).2.1 i))) ∧ ∀ q, q ≠ y → q ≠ y + 4 → μ' q = μ q))) 3 0 0 145 [some (.ref (y)), some (.int (nI (v))), none] [.int (uI (nuC (nmC xs n (tkB xs n (tkE xs n (tkB xs n e0))) (tkE xs n (tkB xs n (tkE xs n (tkB xs n e0))))) lo hi))] (mu μ y (mdO y n (nI (tkE xs n (tkB xs n (tkE xs n (tkB xs n e0))))) (nI (tkK xs n (tkB xs n (tkE xs n (tkB xs n e0))))) (nI (tkV xs n (tkB xs n (tkE xs n (tkB xs n e0))))) (nI (tkB xs n (tkE xs n (tkB xs n e0)))) cl un sn)) := by
    intro v lo hi h7 h10 hl hm hh hw
    have hrt' : roomT T v = true := by unfold roomT; rw [if_neg (by omega), if_neg (by omega), if_neg (by omega), if_neg (by omega)]
    have hle := nuC_le (nc := nmC xs n (tkB xs n (tkE xs n (tkB xs n e0))) (tkE xs n (tkB xs n (tkE xs n (tkB xs n e0))))) (lo := lo) (hi := hi)
    refine r_istore_n (pc := 145) X dX7_readClause_145 (by decide) rfl ?_
    refine r_iload_n (pc := 146) X dX7_readClause_146 rfl ?_
    rcases Nat.eq_zero_or_pos (nuC (nmC xs n (tkB xs n (tkE xs n (tkB xs n e0))) (tkE xs n (tkB xs n (tkE xs n (tkB xs n e0))))) lo hi) with g | g
    · have er := rcl_bad hw (T := T) (by omega) hrt' (by rw [hl, hm]; exact g)
      rw [g, uI_0]
      refine r_if_ge (pc := 147) X 152 dX7_readClause_147 (by decide) (fun h2 => ?_) (fun h2 => ?_)
      · exact absurd h2 (by decide)
      · refine r_iconst (pc := 150) (v := nI 0) X dX7_readClause_150 (by decide) ?_
        exact r_zret (pc := 151) X dX7_readClause_151 (by first | rfl | decide | exact zb_nar _) (⟨by rw [er]; rfl, ⟨_, _, by rw [er]; exact mu_self⟩, by rw [er]; exact (mu_ne (by omega)).trans hR, fun q h1 h2 => mu_ne h1⟩)
    · obtain ⟨u, hu⟩ : ∃ u, nuC (nmC xs n (tkB xs n (tkE xs n (tkB xs n e0))) (tkE xs n (tkB xs n (tkE xs n (tkB xs n e0))))) lo hi = u + 1 := ⟨_, (Nat.succ_pred (by omega)).symm⟩
      have er := rcl_good hw (T := T) (by omega) hrt' (v := u) (by rw [hl, hm]; exact hu)
      rw [tell_n h7] at er
      rw [hu, uI_S]
      first | refine r_if_geN (pc := 147) X 152 dX7_readClause_147 (by decide) (by omega) (fun h2 => ?_) (fun h2 => ?_) | refine r_if_ge (pc := 147) X 152 dX7_readClause_147 (by decide) (fun h2 => ?_) (fun h2 => ?_)
      · refine r_aload_n (pc := 152) X dX7_readClause_152 rfl ?_
        apply r_get (pc := 153) X f_X7_19 dX7_readClause_153
        · repeat (first | exact mu_self | assumption | refine (mu_ne (by omega)).trans ?_)
        · rfl
        refine r_bipush (pc := 156) (v := nI 25) X dX7_readClause_156 (by decide) ?_
        refine r_iload_n (pc := 158) X dX7_readClause_158 rfl ?_
        first | refine r_iaddN (pc := 159) X dX7_readClause_159 ?_ | refine r_iadd (pc := 159) X dX7_readClause_159 ?_
        refine r_bipush (pc := 160) (v := nI 7) X dX7_readClause_160 (by decide) ?_
        first | refine r_isubN (pc := 162) X dX7_readClause_162 (by omega) ?_ | refine r_isub (pc := 162) X dX7_readClause_162 ?_
        refine r_iload_n (pc := 163) X dX7_readClause_163 rfl ?_
        apply r_iast (pc := 164) X dX7_readClause_164
        · repeat (first | exact mu_self | assumption | refine (mu_ne (by omega)).trans ?_)
        · omega
        · decide
        rw [nI_up, show 25 + v - 7 = 18 + v by omega]
        refine r_iconst (pc := 165) (v := nI 1) X dX7_readClause_165 (by decide) ?_
        exact r_zret (pc := 166) X dX7_readClause_166 (by first | rfl | decide | exact zb_nar _) (⟨by rw [er]; rfl, ⟨_, _, by rw [er]; exact (mu_ne (by omega)).trans mu_self⟩, by rw [er]; exact mu_self, fun q h1 h2 => (mu_ne h2).trans (mu_ne h1)⟩)
      · exact absurd (Nat.zero_le _) h2
  have big : ∀ v : Nat, 7 ≤ v → v ≤ 10 → fstF (tkIs xs (tkB xs n e0) (tkE xs n (tkB xs n e0))) 11 0 = v + 1 → vV Γ p l e R s m args below meth c (vQ Γ s args below 0 0 (ri (fun r μ' => r = zb (rcl xs n T e0).1 ∧ (∃ tk' vl', μ' y = some (mdO y n (nI (rcl xs n T e0).2.2.2) tk' vl' (nI (rcl xs n T e0).2.2.1) cl un sn)) ∧ μ' (y + 4) = some (xI Γ 29 (fun i => nI ((rcl xs n T e0).2.1 i))) ∧ ∀ q, q ≠ y → q ≠ y + 4 → μ' q = μ q))) 3 0 0 5 [some (.ref (y)), some (.int (nI (v))), none] [] (μ) := by
    intro v h7 h10 hw
    refine r_iload_n (pc := 5) X dX7_readClause_5 rfl ?_
    first | refine r_if_geN (pc := 6) X 11 dX7_readClause_6 (by decide) (by omega) (fun h1 => ?_) (fun h1 => ?_) | refine r_if_ge (pc := 6) X 11 dX7_readClause_6 (by decide) (fun h1 => ?_) (fun h1 => ?_)
    · refine r_iload_n (pc := 11) X dX7_readClause_11 rfl ?_
      refine r_iconst (pc := 12) (v := nI 4) X dX7_readClause_12 (by decide) ?_
      first | refine r_icmp_geN (pc := 13) X 54 dX7_readClause_13 (by decide) (by omega) (by omega) (fun h2 => ?_) (fun h2 => ?_) | refine r_icmp_ge (pc := 13) X 54 dX7_readClause_13 (by decide) (fun h2 => ?_) (fun h2 => ?_)
      · refine r_iload_n (pc := 54) X dX7_readClause_54 rfl ?_
        refine r_iconst (pc := 55) (v := nI 4) X dX7_readClause_55 (by decide) ?_
        first | refine r_icmp_neN (pc := 56) X 68 dX7_readClause_56 (by decide) (by omega) (by omega) (fun h3 => ?_) (fun h3 => ?_) | refine r_icmp_ne (pc := 56) X 68 dX7_readClause_56 (by decide) (fun h3 => ?_) (fun h3 => ?_)
        · refine r_iload_n (pc := 68) X dX7_readClause_68 rfl ?_
          refine r_bipush (pc := 69) (v := nI 7) X dX7_readClause_69 (by decide) ?_
          first | refine r_icmp_geN (pc := 71) X 107 dX7_readClause_71 (by decide) (by omega) (by omega) (fun h4 => ?_) (fun h4 => ?_) | refine r_icmp_ge (pc := 71) X 107 dX7_readClause_71 (by decide) (fun h4 => ?_) (fun h4 => ?_)
          · refine r_iload_n (pc := 107) X dX7_readClause_107 rfl ?_
            refine r_bipush (pc := 108) (v := nI 7) X dX7_readClause_108 (by decide) ?_
            first | refine r_icmp_neN (pc := 110) X 123 dX7_readClause_110 (by decide) (by omega) (by omega) (fun h5 => ?_) (fun h5 => ?_) | refine r_icmp_ne (pc := 110) X 123 dX7_readClause_110 (by decide) (fun h5 => ?_) (fun h5 => ?_)
            · refine r_iload_n (pc := 123) X dX7_readClause_123 rfl ?_
              refine r_bipush (pc := 124) (v := nI 10) X dX7_readClause_124 (by decide) ?_
              first | refine r_icmp_neN (pc := 126) X 138 dX7_readClause_126 (by decide) (by omega) (by omega) (fun h6 => ?_) (fun h6 => ?_) | refine r_icmp_ne (pc := 126) X 138 dX7_readClause_126 (by decide) (fun h6 => ?_) (fun h6 => ?_)
              · refine r_aload_n (pc := 138) X dX7_readClause_138 rfl ?_
                refine r_iconst (pc := 139) (v := nI 1) X dX7_readClause_139 (by decide) ?_
                refine r_bipush (pc := 140) (v := nI 9) X dX7_readClause_140 (by decide) ?_
                refine c_i X (rV (pc := 142) (ci := 7) X l_X7_92 (t7_number (lo := 1) (hi := 9) hO hX hn hx hE (by omega) (by omega)) dX7_readClause_142 (by repeat (first | exact mu_self | assumption | refine (mu_ne (by omega)).trans ?_)) rfl rfl rfl (Nat.le_of_ble_eq_true rfl) (by decide) (Nat.le_of_ble_eq_true rfl) (Nat.le_of_ble_eq_true rfl)) ?_
                rintro _ μq ⟨rfl, hμq⟩
                rw [hμq]
                clear hμq μq
                refine nums v 1 9 h7 h10 ?_ ?_ (by omega) hw
                · rcases (show v = 8 ∨ v = 9 by omega) with rfl | rfl <;> rfl
                · rcases (show v = 8 ∨ v = 9 by omega) with rfl | rfl <;> rfl
              · refine r_aload_n (pc := 129) X dX7_readClause_129 rfl ?_
                refine r_iconst (pc := 130) (v := nI 0) X dX7_readClause_130 (by decide) ?_
                refine r_iconst (pc := 131) (v := nI 3) X dX7_readClause_131 (by decide) ?_
                refine c_i X (rV (pc := 132) (ci := 7) X l_X7_92 (t7_number (lo := 0) (hi := 3) hO hX hn hx hE (by omega) (by omega)) dX7_readClause_132 (by repeat (first | exact mu_self | assumption | refine (mu_ne (by omega)).trans ?_)) rfl rfl rfl (Nat.le_of_ble_eq_true rfl) (by decide) (Nat.le_of_ble_eq_true rfl) (Nat.le_of_ble_eq_true rfl)) ?_
                rintro _ μq ⟨rfl, hμq⟩
                rw [hμq]
                clear hμq μq
                refine r_goto (pc := 135) X 145 dX7_readClause_135 (by decide) ?_
                exact nums v 0 3 h7 h10 (by rw [h6]; rfl) (by rw [h6]; rfl) (by omega) hw
            · refine r_aload_n (pc := 113) X dX7_readClause_113 rfl ?_
              refine r_iconst (pc := 114) (v := nI 0) X dX7_readClause_114 (by decide) ?_
              refine r_bipush (pc := 115) (v := nI 50) X dX7_readClause_115 (by decide) ?_
              refine c_i X (rV (pc := 117) (ci := 7) X l_X7_92 (t7_number (lo := 0) (hi := 50) hO hX hn hx hE (by omega) (by omega)) dX7_readClause_117 (by repeat (first | exact mu_self | assumption | refine (mu_ne (by omega)).trans ?_)) rfl rfl rfl (Nat.le_of_ble_eq_true rfl) (by decide) (Nat.le_of_ble_eq_true rfl) (Nat.le_of_ble_eq_true rfl)) ?_
              rintro _ μq ⟨rfl, hμq⟩
              rw [hμq]
              clear hμq μq
              refine r_goto (pc := 120) X 145 dX7_readClause_120 (by decide) ?_
              exact nums v 0 50 h7 h10 (by rw [h5]; rfl) (by rw [h5]; rfl) (by omega) hw
          · omega
        · omega
      · omega
    · exact absurd (Nat.zero_le _) h1
  have mid : ∀ v : Nat, 5 ≤ v → v ≤ 6 → fstF (tkIs xs (tkB xs n e0) (tkE xs n (tkB xs n e0))) 11 0 = (if v = 5 then 1 else 6) + 1 → vV Γ p l e R s m args below meth c (vQ Γ s args below 0 0 (ri (fun r μ' => r = zb (rcl xs n T e0).1 ∧ (∃ tk' vl', μ' y = some (mdO y n (nI (rcl xs n T e0).2.2.2) tk' vl' (nI (rcl xs n T e0).2.2.1) cl un sn)) ∧ μ' (y + 4) = some (xI Γ 29 (fun i => nI ((rcl xs n T e0).2.1 i))) ∧ ∀ q, q ≠ y → q ≠ y + 4 → μ' q = μ q))) 3 0 0 5 [some (.ref (y)), some (.int (nI (v))), none] [] (μ) := by
    intro v h5 h6 hw
    refine r_iload_n (pc := 5) X dX7_readClause_5 rfl ?_
    first | refine r_if_geN (pc := 6) X 11 dX7_readClause_6 (by decide) (by omega) (fun h1 => ?_) (fun h1 => ?_) | refine r_if_ge (pc := 6) X 11 dX7_readClause_6 (by decide) (fun h1 => ?_) (fun h1 => ?_)
    · refine r_iload_n (pc := 11) X dX7_readClause_11 rfl ?_
      refine r_iconst (pc := 12) (v := nI 4) X dX7_readClause_12 (by decide) ?_
      first | refine r_icmp_geN (pc := 13) X 54 dX7_readClause_13 (by decide) (by omega) (by omega) (fun h2 => ?_) (fun h2 => ?_) | refine r_icmp_ge (pc := 13) X 54 dX7_readClause_13 (by decide) (fun h2 => ?_) (fun h2 => ?_)
      · refine r_iload_n (pc := 54) X dX7_readClause_54 rfl ?_
        refine r_iconst (pc := 55) (v := nI 4) X dX7_readClause_55 (by decide) ?_
        first | refine r_icmp_neN (pc := 56) X 68 dX7_readClause_56 (by decide) (by omega) (by omega) (fun h3 => ?_) (fun h3 => ?_) | refine r_icmp_ne (pc := 56) X 68 dX7_readClause_56 (by decide) (fun h3 => ?_) (fun h3 => ?_)
        · refine r_iload_n (pc := 68) X dX7_readClause_68 rfl ?_
          refine r_bipush (pc := 69) (v := nI 7) X dX7_readClause_69 (by decide) ?_
          first | refine r_icmp_geN (pc := 71) X 107 dX7_readClause_71 (by decide) (by omega) (by omega) (fun h4 => ?_) (fun h4 => ?_) | refine r_icmp_ge (pc := 71) X 107 dX7_readClause_71 (by decide) (fun h4 => ?_) (fun h4 => ?_)
          · omega
          · refine r_iload_n (pc := 74) X dX7_readClause_74 rfl ?_
            refine r_iconst (pc := 75) (v := nI 5) X dX7_readClause_75 (by decide) ?_
            first | refine r_icmp_neN (pc := 76) X 93 dX7_readClause_76 (by decide) (by omega) (by omega) (fun h7 => ?_) (fun h7 => ?_) | refine r_icmp_ne (pc := 76) X 93 dX7_readClause_76 (by decide) (fun h7 => ?_) (fun h7 => ?_)
            · rw [if_neg h7] at hw
              refine r_aload_n (pc := 93) X dX7_readClause_93 rfl ?_
              refine r_bipush (pc := 94) (v := nI 20) X dX7_readClause_94 (by decide) ?_
              refine r_iconst (pc := 96) (v := nI 4) X dX7_readClause_96 (by decide) ?_
              refine r_bipush (pc := 97) (v := nI 21) X dX7_readClause_97 (by decide) ?_
              refine r_iconst (pc := 99) (v := nI 0) X dX7_readClause_99 (by decide) ?_
              refine r_sipush (pc := 100) (v := nI 255) X dX7_readClause_100 (by decide) ?_
              refine c_i X (rV (pc := 103) (ci := 7) X l_X7_100 (t7_readOne (c0 := 20) (rm := 4) (at0 := 21) (lo := 0) (hi := 255) hO hX hR hn hx hE (by omega) (by omega) (by omega) (by omega) t3) dX7_readClause_103 (by repeat (first | exact mu_self | assumption | refine (mu_ne (by omega)).trans ?_)) rfl rfl rfl (Nat.le_of_ble_eq_true rfl) (by decide) (Nat.le_of_ble_eq_true rfl) (Nat.le_of_ble_eq_true rfl)) ?_
              rintro r1 μ1 hp
              exact ones v 20 4 21 255 0 (Or.inr ⟨by omega, rfl, rfl, rfl, rfl, rfl⟩) 6 (by omega) rfl rfl rfl (fun u => rfl) t3 hw r1 μ1 hp
            · rw [if_pos h7] at hw
              refine r_aload_n (pc := 79) X dX7_readClause_79 rfl ?_
              refine r_iconst (pc := 80) (v := nI 0) X dX7_readClause_80 (by decide) ?_
              refine r_bipush (pc := 81) (v := nI 6) X dX7_readClause_81 (by decide) ?_
              refine r_iconst (pc := 83) (v := nI 1) X dX7_readClause_83 (by decide) ?_
              refine r_iconst (pc := 84) (v := nI 1) X dX7_readClause_84 (by decide) ?_
              refine r_bipush (pc := 85) (v := nI 20) X dX7_readClause_85 (by decide) ?_
              refine c_i X (rV (pc := 87) (ci := 7) X l_X7_100 (t7_readOne (c0 := 0) (rm := 6) (at0 := 1) (lo := 1) (hi := 20) hO hX hR hn hx hE (by omega) (by omega) (by omega) (by omega) t1) dX7_readClause_87 (by repeat (first | exact mu_self | assumption | refine (mu_ne (by omega)).trans ?_)) rfl rfl rfl (Nat.le_of_ble_eq_true rfl) (by decide) (Nat.le_of_ble_eq_true rfl) (Nat.le_of_ble_eq_true rfl)) ?_
              rintro r1 μ1 hp
              refine r_goto (pc := 90) X 106 dX7_readClause_90 (by decide) ?_
              exact ones v 0 6 1 20 1 (Or.inl ⟨h7, rfl, rfl, rfl, rfl, rfl⟩) 1 (by omega) rfl rfl rfl (fun u => rfl) t1 hw r1 μ1 hp
        · omega
      · omega
    · exact absurd (Nat.zero_le _) h1
  refine r_aload_n (pc := 0) X dX7_readClause_0 rfl ?_
  refine c_i X (rV (pc := 1) (ci := 7) X l_X7_96 (t7_verb hO hX hn hB) dX7_readClause_1 (by repeat (first | exact mu_self | assumption | refine (mu_ne (by omega)).trans ?_)) rfl rfl rfl (Nat.le_of_ble_eq_true rfl) (by decide) (Nat.le_of_ble_eq_true rfl) (Nat.le_of_ble_eq_true rfl)) ?_
  rintro _ μq ⟨rfl, hμq⟩
  rw [hμq]
  clear hμq μq
  have hfl := fstF_le (tkIs xs (tkB xs n e0) (tkE xs n (tkB xs n e0))) 11 0
  obtain ⟨w, hw⟩ : ∃ w, w = fstF (tkIs xs (tkB xs n e0) (tkE xs n (tkB xs n e0))) 11 0 := ⟨_, rfl⟩
  rw [← hw]
  rw [← hw] at hfl
  refine r_istore_n (pc := 4) X dX7_readClause_4 (by decide) rfl ?_
  rcases (show w = 0 ∨ w = 1 ∨ w = 2 ∨ w = 3 ∨ w = 4 ∨ w = 5 ∨ w = 6 ∨ w = 7 ∨ w = 8 ∨ w = 9 ∨ w = 10 ∨ w = 11 by omega) with rfl | rfl | rfl | rfl | rfl | rfl | rfl | rfl | rfl | rfl | rfl | rfl
  · have er := rcl_0 (T := T) hw.symm
    rw [show uI (vbOf 0) = -1 by decide]
    refine r_iload_n (pc := 5) X dX7_readClause_5 rfl ?_
    refine r_if_ge (pc := 6) X 11 dX7_readClause_6 (by decide) (fun h2 => ?_) (fun h2 => ?_)
    · exact absurd h2 (by decide)
    · refine r_iconst (pc := 9) (v := nI 0) X dX7_readClause_9 (by decide) ?_
      exact r_zret (pc := 10) X dX7_readClause_10 (by first | rfl | decide | exact zb_nar _) (⟨by rw [er]; rfl, ⟨_, _, by rw [er]; exact hO⟩, by rw [er]; exact hR, fun q _ _ => rfl⟩)
  · have er := rcl_cave (T := T) hw.symm
    rw [show uI (vbOf 1) = nI 4 by decide]
    refine r_iload_n (pc := 5) X dX7_readClause_5 rfl ?_
    first | refine r_if_geN (pc := 6) X 11 dX7_readClause_6 (by decide) (by omega) (fun h1 => ?_) (fun h1 => ?_) | refine r_if_ge (pc := 6) X 11 dX7_readClause_6 (by decide) (fun h1 => ?_) (fun h1 => ?_)
    · refine r_iload_n (pc := 11) X dX7_readClause_11 rfl ?_
      refine r_iconst (pc := 12) (v := nI 4) X dX7_readClause_12 (by decide) ?_
      first | refine r_icmp_geN (pc := 13) X 54 dX7_readClause_13 (by decide) (by omega) (by omega) (fun h2 => ?_) (fun h2 => ?_) | refine r_icmp_ge (pc := 13) X 54 dX7_readClause_13 (by decide) (fun h2 => ?_) (fun h2 => ?_)
      · refine r_iload_n (pc := 54) X dX7_readClause_54 rfl ?_
        refine r_iconst (pc := 55) (v := nI 4) X dX7_readClause_55 (by decide) ?_
        first | refine r_icmp_neN (pc := 56) X 68 dX7_readClause_56 (by decide) (by omega) (by omega) (fun h3 => ?_) (fun h3 => ?_) | refine r_icmp_ne (pc := 56) X 68 dX7_readClause_56 (by decide) (fun h3 => ?_) (fun h3 => ?_)
        · exact absurd rfl h3
        · refine r_aload_n (pc := 59) X dX7_readClause_59 rfl ?_
          apply r_get (pc := 60) X f_X7_19 dX7_readClause_60
          · repeat (first | exact mu_self | assumption | refine (mu_ne (by omega)).trans ?_)
          · rfl
          refine c_v X (rS (pc := 63) X l_X7_38 (t7_takeFirst hR) dX7_readClause_63 rfl rfl (Nat.le_of_ble_eq_true rfl) (by decide) (Nat.le_of_ble_eq_true rfl) (Nat.le_of_ble_eq_true rfl)) ?_
          rintro _ rfl
          refine r_iconst (pc := 66) (v := nI 1) X dX7_readClause_66 (by decide) ?_
          exact r_zret (pc := 67) X dX7_readClause_67 (by first | rfl | decide | exact zb_nar _) (⟨by rw [er]; rfl, ⟨_, _, by rw [er]; exact (mu_ne (by omega)).trans hO⟩, by rw [er]; exact mu_self, fun q h1 h2 => mu_ne h2⟩)
      · exact absurd (by omega) h2
    · exact absurd (Nat.zero_le _) h1
  · rw [show uI (vbOf 2) = nI 5 by decide]
    exact mid 5 (by omega) (by omega) hw.symm
  · rw [show uI (vbOf 3) = nI 0 by decide]
    exact sheep 0 (by omega) hw.symm
  · rw [show uI (vbOf 4) = nI 1 by decide]
    exact sheep 1 (by omega) hw.symm
  · rw [show uI (vbOf 5) = nI 2 by decide]
    exact sheep 2 (by omega) hw.symm
  · rw [show uI (vbOf 6) = nI 3 by decide]
    exact sheep 3 (by omega) hw.symm
  · rw [show uI (vbOf 7) = nI 6 by decide]
    exact mid 6 (by omega) (by omega) hw.symm
  · rw [show uI (vbOf 8) = nI 7 by decide]
    exact big 7 (by omega) (by omega) hw.symm
  · rw [show uI (vbOf 9) = nI 8 by decide]
    exact big 8 (by omega) (by omega) hw.symm
  · rw [show uI (vbOf 10) = nI 9 by decide]
    exact big 9 (by omega) (by omega) hw.symm
  · rw [show uI (vbOf 11) = nI 10 by decide]
    exact big 10 (by omega) (by omega) hw.symm
end S58
