def alln : Nat → (Nat → Bool) → Bool
  | 0, _ => true
  | n + 1, p => alln n p && p n
theorem alln_no {n i : Nat} {p : Nat → Bool} (hi : i < n) (h : p i = false) : alln n p = false := by
  induction n with
  | zero => omega
  | succ n ih =>
    show (alln n p && p n) = false
    by_cases hn : i = n
    · subst hn; simp [h]
    · rw [ih (by omega)]; rfl
def wsP (T V : Nat → Nat) (w v i : Nat) : Bool := (V (3 * i + 1) != w) || (decide (T (1 + V (3 * i)) ≤ brs (T (8 + w)) v) == (V (3 * i + 2) == 1))
def wso (T V : Nat → Nat) (sn w v : Nat) : Bool := alln sn (wsP T V w v)
/-- the first, and the last, of 1 .. n of which P holds (0: none, else it and 1) -/
def lfS (P : Nat → Bool) : Nat → Nat
  | 0 => 0
  | v + 1 => if lfS P v = 0 ∧ P (v + 1) = true then v + 2 else lfS P v
def gsS (P : Nat → Bool) : Nat → Nat
  | 0 => 0
  | v + 1 => if P (v + 1) = true then v + 2 else gsS P v
theorem lfS_no {P : Nat → Bool} {n : Nat} (h : ∀ j, 1 ≤ j → j ≤ n → P j = false) : lfS P n = 0 := by
  induction n with
  | zero => rfl
  | succ n ih =>
    show (if lfS P n = 0 ∧ P (n + 1) = true then n + 2 else lfS P n) = 0
    rw [if_neg (by rw [h (n + 1) (by omega) (by omega)]; simp)]
    exact ih (fun j h1 h2 => h j h1 (by omega))
theorem lfS_at {P : Nat → Bool} {v n : Nat} (h : ∀ j, 1 ≤ j → j ≤ v → P j = false) (hv : P (v + 1) = true) (hn : v + 1 ≤ n) : lfS P n = v + 2 := by
  induction n with
  | zero => omega
  | succ n ih =>
    show (if lfS P n = 0 ∧ P (n + 1) = true then n + 2 else lfS P n) = v + 2
    by_cases hq : n = v
    · subst hq
      rw [if_pos ⟨lfS_no h, hv⟩]
    · have := ih (by omega)
      rw [if_neg (by omega)]
      exact this
theorem gsS_up {P : Nat → Bool} {v n : Nat} (hn : v ≤ n) (h : ∀ j, v < j → j ≤ n → P j = false) : gsS P n = gsS P v := by
  induction n with
  | zero => have : v = 0 := by omega
            subst this; rfl
  | succ n ih =>
    by_cases hq : v = n + 1
    · subst hq; rfl
    · show (if P (n + 1) = true then n + 2 else gsS P n) = gsS P v
      rw [if_neg (by rw [h (n + 1) (by omega) (by omega)]; simp)]
      exact ih (by omega) (fun j h1 h2 => h j h1 (by omega))
theorem lfS_le (P : Nat → Bool) (n : Nat) : lfS P n ≤ n + 1 := by
  induction n with
  | zero => exact Nat.zero_le _
  | succ n ih =>
    show (if lfS P n = 0 ∧ P (n + 1) = true then n + 2 else lfS P n) ≤ n + 1 + 1
    split <;> omega
theorem gsS_le (P : Nat → Bool) (n : Nat) : gsS P n ≤ n + 1 := by
  induction n with
  | zero => exact Nat.zero_le _
  | succ n ih =>
    show (if P (n + 1) = true then n + 2 else gsS P n) ≤ n + 1 + 1
    split <;> omega
theorem brs_le {kd v : Nat} (h : v ≤ 20) : brs kd v ≤ 40 := by
  unfold brs
  split
  · omega
  · split
    · omega
    · split <;> omega
section S17
variable {Γ : KK} {l : Launch} {sz : Nat} {μ : MM} {a b sn : Nat} {T V : Nat → Nat}
theorem t3_add {mm ww oo : Nat} (h : SigAt Γ μ a sn V) (hs : sn < 6) (ho : oo ≤ 1) : CT Γ l 0 sz 0 0 mX3_add [.ref a, .int (nI mm), .int (nI ww), .int (nI oo)] μ (ri (fun r μ' => r = nI 1 ∧ SigAt Γ μ' a (sn + 1) (upN (upN (upN V (3 * sn) mm) (3 * sn + 1) ww) (3 * sn + 2) oo) ∧ Fr a 4 μ μ')) := by
  obtain ⟨g0, g1, g2, g3⟩ := h
  refine CT.go RX3 rfl "add" rfl [some (.ref a), some (.int (nI mm)), some (.int (nI ww)), some (.int (nI oo))] rfl (by decide) (Nat.le_of_ble_eq_true rfl) ?_
  intro p e R s m args below meth c X hsz
  refine r_aload_n (pc := 0) X dX3_add_0 rfl ?_
  apply r_get (pc := 1) X f_X3_22 dX3_add_1
  · repeat (first | exact mu_self | assumption | refine (mu_ne (by omega)).trans ?_)
  · rfl
  refine r_bipush (pc := 4) (v := nI 6) X dX3_add_4 (by decide) ?_
  refine r_icmp_ltN (pc := 6) X 11 dX3_add_6 (by decide) (by omega) (by omega) (fun _ => ?_) (fun h => absurd hs h)
  refine r_aload_n (pc := 11) X dX3_add_11 rfl ?_
  apply r_get (pc := 12) X f_X3_9 dX3_add_12
  · repeat (first | exact mu_self | assumption | refine (mu_ne (by omega)).trans ?_)
  · rfl
  refine r_aload_n (pc := 15) X dX3_add_15 rfl ?_
  apply r_get (pc := 16) X f_X3_22 dX3_add_16
  · repeat (first | exact mu_self | assumption | refine (mu_ne (by omega)).trans ?_)
  · rfl
  refine r_iload_n (pc := 19) X dX3_add_19 rfl ?_
  apply r_iast (pc := 20) X dX3_add_20
  · repeat (first | exact mu_self | assumption | refine (mu_ne (by omega)).trans ?_)
  · omega
  · decide
  refine r_aload_n (pc := 21) X dX3_add_21 rfl ?_
  apply r_get (pc := 22) X f_X3_15 dX3_add_22
  · repeat (first | exact mu_self | assumption | refine (mu_ne (by omega)).trans ?_)
  · rfl
  refine r_aload_n (pc := 25) X dX3_add_25 rfl ?_
  apply r_get (pc := 26) X f_X3_22 dX3_add_26
  · repeat (first | exact mu_self | assumption | refine (mu_ne (by omega)).trans ?_)
  · rfl
  refine r_iload_n (pc := 29) X dX3_add_29 rfl ?_
  apply r_iast (pc := 30) X dX3_add_30
  · repeat (first | exact mu_self | assumption | refine (mu_ne (by omega)).trans ?_)
  · omega
  · decide
  refine r_aload_n (pc := 31) X dX3_add_31 rfl ?_
  apply r_get (pc := 32) X f_X3_18 dX3_add_32
  · repeat (first | exact mu_self | assumption | refine (mu_ne (by omega)).trans ?_)
  · rfl
  refine r_aload_n (pc := 35) X dX3_add_35 rfl ?_
  apply r_get (pc := 36) X f_X3_22 dX3_add_36
  · repeat (first | exact mu_self | assumption | refine (mu_ne (by omega)).trans ?_)
  · rfl
  refine r_iload_n (pc := 39) X dX3_add_39 rfl ?_
  have hbo : vp_nar .boolean (nI oo) = nI oo := by
    rcases (show oo = 0 ∨ oo = 1 by omega) with rfl | rfl <;> rfl
  apply r_zast (pc := 40) X dX3_add_40 hbo
  ·  repeat (first | exact mu_self | assumption | refine (mu_ne (by omega)).trans ?_)
  · omega
  · decide
  refine r_aload_n (pc := 41) X dX3_add_41 rfl ?_
  refine r_dup (pc := 42) X dX3_add_42 rfl ?_
  apply r_get (pc := 43) X f_X3_22 dX3_add_43
  · repeat (first | exact mu_self | assumption | refine (mu_ne (by omega)).trans ?_)
  · rfl
  refine r_iconst (pc := 46) (v := nI 1) X dX3_add_46 (by decide) ?_
  first | refine r_iaddN (pc := 47) X dX3_add_47 ?_ | refine r_iadd (pc := 47) X dX3_add_47 ?_
  first | refine r_putS (pc := 48) X f_X3_22 dX3_add_48 (by first | rfl | assumption | decide | simp [narrow]) (by first | rfl | assumption) (Nat.le_of_ble_eq_true rfl) ?_ | refine r_put (pc := 48) X f_X3_22 dX3_add_48 (by repeat (first | exact mu_self | assumption | refine (mu_ne (by omega)).trans ?_)) (by first | rfl | assumption | decide | simp [narrow]) (by first | rfl | assumption) (Nat.le_of_ble_eq_true rfl) ?_
  refine r_iconst (pc := 51) (v := nI 1) X dX3_add_51 (by decide) ?_
  refine vV.sub (μ' := mu (mu (mu (mu μ (a + 1) (xI Γ 6 (fun i => nI (upN (upN (upN V (3 * sn) mm) (3 * sn + 1) ww) (3 * sn + 2) oo (3 * i))))) (a + 2) (xI Γ 6 (fun i => nI (upN (upN (upN V (3 * sn) mm) (3 * sn + 1) ww) (3 * sn + 2) oo (3 * i + 1))))) (a + 3) (xZ Γ 6 (fun i => nI (upN (upN (upN V (3 * sn) mm) (3 * sn + 1) ww) (3 * sn + 2) oo (3 * i + 2))))) a (xO 3 [.int (nI (sn + 1)), .ref (a + 1), .ref (a + 2), .ref (a + 3)])) (fun H hP => ?_) ?_
  · have e1 : upd (fun i => nI (V (3 * i))) sn (nI mm) = fun i => nI (upN (upN (upN V (3 * sn) mm) (3 * sn + 1) ww) (3 * sn + 2) oo (3 * i)) := by
      funext i
      unfold upd upN
      by_cases hi : i = sn
      · subst hi; rw [if_pos rfl, if_neg (by omega), if_neg (by omega), if_pos rfl]
      · rw [if_neg hi, if_neg (by omega), if_neg (by omega), if_neg (by omega)]
    have e2 : upd (fun i => nI (V (3 * i + 1))) sn (nI ww) = fun i => nI (upN (upN (upN V (3 * sn) mm) (3 * sn + 1) ww) (3 * sn + 2) oo (3 * i + 1)) := by
      funext i
      unfold upd upN
      by_cases hi : i = sn
      · subst hi; rw [if_pos rfl, if_neg (by omega), if_pos rfl]
      · rw [if_neg hi, if_neg (by omega), if_neg (by omega), if_neg (by omega)]
    have e3 : upd (fun i => nI (V (3 * i + 2))) sn (nI oo) = fun i => nI (upN (upN (upN V (3 * sn) mm) (3 * sn + 1) ww) (3 * sn + 2) oo (3 * i + 2)) := by
      funext i
      unfold upd upN
      by_cases hi : i = sn
      · subst hi; rw [if_pos rfl, if_pos rfl]
      · rw [if_neg hi, if_neg (by omega), if_neg (by omega), if_neg (by omega)]
    rw [← e1, ← e2, ← e3]
    exact hP
  exact r_zret (pc := 52) X dX3_add_52 (by first | rfl | decide | exact zb_nar _) (⟨rfl, ⟨mu_self, (by repeat (first | exact mu_self | assumption | refine (mu_ne (by omega)).trans ?_)), (by repeat (first | exact mu_self | assumption | refine (mu_ne (by omega)).trans ?_)), (by repeat (first | exact mu_self | assumption | refine (mu_ne (by omega)).trans ?_))⟩, (fun q hq => by repeat (first | rfl | refine (mu_ne (by omega)).trans ?_))⟩)
theorem t3_addFull {x y z : Int32} (h : SigAt Γ μ a 6 V) : CT Γ l 0 sz 0 0 mX3_add [.ref a, .int x, .int y, .int z] μ (ri (fun r μ' => r = nI 0 ∧ μ' = μ)) := by
  obtain ⟨g0, g1, g2, g3⟩ := h
  refine CT.go RX3 rfl "add" rfl [some (.ref a), some (.int x), some (.int y), some (.int z)] rfl (by decide) (Nat.le_of_ble_eq_true rfl) ?_
  intro p e R s m args below meth c X hsz
  refine r_aload_n (pc := 0) X dX3_add_0 rfl ?_
  apply r_get (pc := 1) X f_X3_22 dX3_add_1
  · repeat (first | exact mu_self | assumption | refine (mu_ne (by omega)).trans ?_)
  · rfl
  refine r_bipush (pc := 4) (v := nI 6) X dX3_add_4 (by decide) ?_
  refine r_icmp_ltN (pc := 6) X 11 dX3_add_6 (by decide) (by omega) (by omega) (fun h => absurd h (by omega)) (fun _ => ?_)
  refine r_iconst (pc := 9) (v := nI 0) X dX3_add_9 (by decide) ?_
  exact r_zret (pc := 10) X dX3_add_10 (by first | rfl | decide | exact zb_nar _) (⟨rfl, rfl⟩)
theorem t3_wouldBeSo {w v : Nat} (h : SigAt Γ μ a sn V) (hT : ToldAt Γ μ b T) (hI : IT T) (hs : sn ≤ 6) (hV : ∀ k, k < sn → V (3 * k) < T 0 ∧ V (3 * k + 1) < T 7 ∧ V (3 * k + 2) ≤ 1) (hw : w < T 7) (hv : v ≤ 20) : CT Γ l 2 sz 0 0 mX3_wouldBeSo [.ref a, .ref b, .int (nI w), .int (nI v)] μ (ri (fun r μ' => r = zb (wso T V sn w v) ∧ μ' = μ)) := by
  obtain ⟨g0, g1, g2, g3⟩ := h
  obtain ⟨k0, k1, k2, k3, k4⟩ := hT
  have h6 := hI.1
  have h7 := hI.2.1
  have hbl := brs_le (kd := T (8 + w)) hv
  refine CT.go RX3 rfl "wouldBeSo" rfl [some (.ref a), some (.ref b), some (.int (nI w)), some (.int (nI v)), none, none] rfl (by decide) (Nat.le_of_ble_eq_true rfl) ?_
  intro p e R s m args below meth c X hsz
  refine r_aload_n (pc := 0) X dX3_wouldBeSo_0 rfl ?_
  apply r_get (pc := 1) X f_X3_30 dX3_wouldBeSo_1
  · repeat (first | exact mu_self | assumption | refine (mu_ne (by omega)).trans ?_)
  · rfl
  refine r_iload_n (pc := 4) X dX3_wouldBeSo_4 rfl ?_
  apply r_iald (pc := 5) X dX3_wouldBeSo_5
  · repeat (first | exact mu_self | assumption | refine (mu_ne (by omega)).trans ?_)
  · omega
  · decide
  refine r_iload_n (pc := 6) X dX3_wouldBeSo_6 rfl ?_
  refine c_i X (rSN (pc := 7) X l_X3_35 (t6_bearing (kd := T (8 + w)) (st := v) (hI.2.2.2.2.1 w (by omega)) (by omega)) dX3_wouldBeSo_7 rfl rfl (Nat.le_of_ble_eq_true rfl) (by decide) (Nat.le_of_ble_eq_true rfl) (Nat.le_of_ble_eq_true rfl)) ?_
  rintro _ μq ⟨rfl, hμq⟩
  rw [hμq]
  clear hμq μq
  refine r_istore (pc := 10) X dX3_wouldBeSo_10 (by decide) rfl ?_
  refine r_iconst (pc := 12) (v := nI 0) X dX3_wouldBeSo_12 (by decide) ?_
  refine r_istore (pc := 13) X dX3_wouldBeSo_13 (by decide) rfl ?_
  have key : ∀ (N i : Nat), i + N = sn → alln i (wsP T V w v) = true → vV Γ p l e R s m args below meth c (vQ Γ s args below 0 0 (ri (fun r μ' => r = zb (wso T V sn w v) ∧ μ' = μ))) 6 0 0 15 [some (.ref (a)), some (.ref (b)), some (.int (nI (w))), some (.int (nI (v))), some (.int (nI (brs (T (8 + w)) v))), some (.int (nI (i)))] [] (μ) := by
    intro N
    induction N with
    | zero =>
      intro i hi hal
      have hi2 : i = sn := by omega
      subst hi2
      refine r_iload (pc := 15) X dX3_wouldBeSo_15 rfl ?_
      refine r_aload_n (pc := 17) X dX3_wouldBeSo_17 rfl ?_
      apply r_get (pc := 18) X f_X3_22 dX3_wouldBeSo_18
      · repeat (first | exact mu_self | assumption | refine (mu_ne (by omega)).trans ?_)
      · rfl
      refine r_icmp_geN (pc := 21) X 75 dX3_wouldBeSo_21 (by decide) (by omega) (by omega) (fun _ => ?_) (fun h => absurd (Nat.le_refl _) h)
      refine r_iconst (pc := 75) (v := nI 1) X dX3_wouldBeSo_75 (by decide) ?_
      exact r_zret (pc := 76) X dX3_wouldBeSo_76 (by first | rfl | decide | exact zb_nar _) (⟨by unfold wso; rw [hal]; rfl, rfl⟩)
    | succ N ih =>
      intro i hi hal
      obtain ⟨v1, v2, v3⟩ := hV i (by omega)
      have hwt := hI.2.2.2.1 (V (3 * i)) (by omega)
      refine r_iload (pc := 15) X dX3_wouldBeSo_15 rfl ?_
      refine r_aload_n (pc := 17) X dX3_wouldBeSo_17 rfl ?_
      apply r_get (pc := 18) X f_X3_22 dX3_wouldBeSo_18
      · repeat (first | exact mu_self | assumption | refine (mu_ne (by omega)).trans ?_)
      · rfl
      refine r_icmp_geN (pc := 21) X 75 dX3_wouldBeSo_21 (by decide) (by omega) (by omega) (fun h => absurd h (by omega)) (fun _ => ?_)
      refine r_aload_n (pc := 24) X dX3_wouldBeSo_24 rfl ?_
      apply r_get (pc := 25) X f_X3_15 dX3_wouldBeSo_25
      · repeat (first | exact mu_self | assumption | refine (mu_ne (by omega)).trans ?_)
      · rfl
      refine r_iload (pc := 28) X dX3_wouldBeSo_28 rfl ?_
      apply r_iald (pc := 30) X dX3_wouldBeSo_30
      · repeat (first | exact mu_self | assumption | refine (mu_ne (by omega)).trans ?_)
      · omega
      · decide
      refine r_iload_n (pc := 31) X dX3_wouldBeSo_31 rfl ?_
      first | refine r_icmp_neN (pc := 32) X 69 dX3_wouldBeSo_32 (by decide) (by omega) (by omega) (fun h2 => ?_) (fun h2 => ?_) | refine r_icmp_ne (pc := 32) X 69 dX3_wouldBeSo_32 (by decide) (fun h2 => ?_) (fun h2 => ?_)
      · have hp : wsP T V w v i = true := by unfold wsP; simp [h2]
        refine r_iincN (pc := 69) (b := 1) X dX3_wouldBeSo_69 rfl (by decide) rfl ?_
        refine r_goto (pc := 72) X 15 dX3_wouldBeSo_72 (by decide) ?_
        exact ih (i + 1) (by omega) (by show (alln i _ && _) = true; rw [hal, hp]; rfl)
      · refine r_iload (pc := 35) X dX3_wouldBeSo_35 rfl ?_
        refine r_aload_n (pc := 37) X dX3_wouldBeSo_37 rfl ?_
        apply r_get (pc := 38) X f_X3_39 dX3_wouldBeSo_38
        · repeat (first | exact mu_self | assumption | refine (mu_ne (by omega)).trans ?_)
        · rfl
        refine r_aload_n (pc := 41) X dX3_wouldBeSo_41 rfl ?_
        apply r_get (pc := 42) X f_X3_9 dX3_wouldBeSo_42
        · repeat (first | exact mu_self | assumption | refine (mu_ne (by omega)).trans ?_)
        · rfl
        refine r_iload (pc := 45) X dX3_wouldBeSo_45 rfl ?_
        apply r_iald (pc := 47) X dX3_wouldBeSo_47
        · repeat (first | exact mu_self | assumption | refine (mu_ne (by omega)).trans ?_)
        · omega
        · decide
        apply r_iald (pc := 48) X dX3_wouldBeSo_48
        · repeat (first | exact mu_self | assumption | refine (mu_ne (by omega)).trans ?_)
        · omega
        · decide
        first | refine r_icmp_ltN (pc := 49) X 56 dX3_wouldBeSo_49 (by decide) (by omega) (by omega) (fun h3 => ?_) (fun h3 => ?_) | refine r_icmp_lt (pc := 49) X 56 dX3_wouldBeSo_49 (by decide) (fun h3 => ?_) (fun h3 => ?_)
        · refine r_iconst (pc := 56) (v := nI 0) X dX3_wouldBeSo_56 (by decide) ?_
          refine r_aload_n (pc := 57) X dX3_wouldBeSo_57 rfl ?_
          apply r_get (pc := 58) X f_X3_18 dX3_wouldBeSo_58
          · repeat (first | exact mu_self | assumption | refine (mu_ne (by omega)).trans ?_)
          · rfl
          refine r_iload (pc := 61) X dX3_wouldBeSo_61 rfl ?_
          apply r_zald (pc := 63) X dX3_wouldBeSo_63
          · repeat (first | exact mu_self | assumption | refine (mu_ne (by omega)).trans ?_)
          · omega
          · decide
          first | refine r_icmp_eqN (pc := 64) X 69 dX3_wouldBeSo_64 (by decide) (by omega) (by omega) (fun h4 => ?_) (fun h4 => ?_) | refine r_icmp_eq (pc := 64) X 69 dX3_wouldBeSo_64 (by decide) (fun h4 => ?_) (fun h4 => ?_)
          · have hp : wsP T V w v i = true := by
              unfold wsP
              rw [decide_eq_false (show ¬ T (1 + V (3 * i)) ≤ brs (T (8 + w)) v by omega), ← h4]
              simp
            refine r_iincN (pc := 69) (b := 1) X dX3_wouldBeSo_69 rfl (by decide) rfl ?_
            refine r_goto (pc := 72) X 15 dX3_wouldBeSo_72 (by decide) ?_
            exact ih (i + 1) (by omega) (by show (alln i _ && _) = true; rw [hal, hp]; rfl)
          · have hp : wsP T V w v i = false := by
              unfold wsP
              rw [decide_eq_false (show ¬ T (1 + V (3 * i)) ≤ brs (T (8 + w)) v by omega), show V (3 * i + 2) = 1 by omega]
              simp [h2]
            refine r_iconst (pc := 67) (v := nI 0) X dX3_wouldBeSo_67 (by decide) ?_
            exact r_zret (pc := 68) X dX3_wouldBeSo_68 (by first | rfl | decide | exact zb_nar _) (⟨by unfold wso; rw [alln_no (show i < sn by omega) hp]; rfl, rfl⟩)
        · refine r_iconst (pc := 52) (v := nI 1) X dX3_wouldBeSo_52 (by decide) ?_
          refine r_goto (pc := 53) X 57 dX3_wouldBeSo_53 (by decide) ?_
          refine r_aload_n (pc := 57) X dX3_wouldBeSo_57 rfl ?_
          apply r_get (pc := 58) X f_X3_18 dX3_wouldBeSo_58
          · repeat (first | exact mu_self | assumption | refine (mu_ne (by omega)).trans ?_)
          · rfl
          refine r_iload (pc := 61) X dX3_wouldBeSo_61 rfl ?_
          apply r_zald (pc := 63) X dX3_wouldBeSo_63
          · repeat (first | exact mu_self | assumption | refine (mu_ne (by omega)).trans ?_)
          · omega
          · decide
          first | refine r_icmp_eqN (pc := 64) X 69 dX3_wouldBeSo_64 (by decide) (by omega) (by omega) (fun h4 => ?_) (fun h4 => ?_) | refine r_icmp_eq (pc := 64) X 69 dX3_wouldBeSo_64 (by decide) (fun h4 => ?_) (fun h4 => ?_)
          · have hp : wsP T V w v i = true := by
              unfold wsP
              rw [decide_eq_true (show T (1 + V (3 * i)) ≤ brs (T (8 + w)) v by omega), ← h4]
              simp
            refine r_iincN (pc := 69) (b := 1) X dX3_wouldBeSo_69 rfl (by decide) rfl ?_
            refine r_goto (pc := 72) X 15 dX3_wouldBeSo_72 (by decide) ?_
            exact ih (i + 1) (by omega) (by show (alln i _ && _) = true; rw [hal, hp]; rfl)
          · have hp : wsP T V w v i = false := by
              unfold wsP
              rw [decide_eq_true (show T (1 + V (3 * i)) ≤ brs (T (8 + w)) v by omega), show V (3 * i + 2) = 0 by omega]
              simp [h2]
            refine r_iconst (pc := 67) (v := nI 0) X dX3_wouldBeSo_67 (by decide) ?_
            exact r_zret (pc := 68) X dX3_wouldBeSo_68 (by first | rfl | decide | exact zb_nar _) (⟨by unfold wso; rw [alln_no (show i < sn by omega) hp]; rfl, rfl⟩)
  exact key sn 0 (by omega) rfl
theorem t3_leastStrong {w : Nat} (h : SigAt Γ μ a sn V) (hT : ToldAt Γ μ b T) (hI : IT T) (hs : sn ≤ 6) (hV : ∀ k, k < sn → V (3 * k) < T 0 ∧ V (3 * k + 1) < T 7 ∧ V (3 * k + 2) ≤ 1) (hw : w < T 7) : CT Γ l 3 sz 0 0 mX3_leastStrong [.ref a, .ref b, .int (nI w)] μ (ri (fun r μ' => r = uI (lfS (wso T V sn w) 20) ∧ μ' = μ)) := by
  have hh := h
  have g0 := h.1
  refine CT.go RX3 rfl "leastStrong" rfl [some (.ref a), some (.ref b), some (.int (nI w)), none] rfl (by decide) (Nat.le_of_ble_eq_true rfl) ?_
  intro p e R s m args below meth c X hsz
  refine r_iconst (pc := 0) (v := nI 1) X dX3_leastStrong_0 (by decide) ?_
  refine r_istore_n (pc := 1) X dX3_leastStrong_1 (by decide) rfl ?_
  have key : ∀ (N v : Nat), v + 1 + N = 21 → (∀ j, 1 ≤ j → j ≤ v → wso T V sn w j = false) → vV Γ p l e R s m args below meth c (vQ Γ s args below 0 0 (ri (fun r μ' => r = uI (lfS (wso T V sn w) 20) ∧ μ' = μ))) 4 0 0 2 [some (.ref (a)), some (.ref (b)), some (.int (nI (w))), some (.int (nI (v + 1)))] [] (μ) := by
    intro N
    induction N with
    | zero =>
      intro v hv hn
      have hv2 : v = 20 := by omega
      subst hv2
      refine r_iload_n (pc := 2) X dX3_leastStrong_2 rfl ?_
      refine r_bipush (pc := 3) (v := nI 20) X dX3_leastStrong_3 (by decide) ?_
      refine r_icmp_gtN (pc := 5) X 26 dX3_leastStrong_5 (by decide) (by omega) (by omega) (fun _ => ?_) (fun h => absurd (show 20 < 20 + 1 by omega) h)
      refine r_iconst (pc := 26) (v := -1) X dX3_leastStrong_26 (by decide) ?_
      exact r_iret (pc := 27) X dX3_leastStrong_27 (⟨by rw [lfS_no hn, uI_0], rfl⟩)
    | succ N ih =>
      intro v hv hn
      refine r_iload_n (pc := 2) X dX3_leastStrong_2 rfl ?_
      refine r_bipush (pc := 3) (v := nI 20) X dX3_leastStrong_3 (by decide) ?_
      refine r_icmp_gtN (pc := 5) X 26 dX3_leastStrong_5 (by decide) (by omega) (by omega) (fun h => absurd h (by omega)) (fun _ => ?_)
      refine r_aload_n (pc := 8) X dX3_leastStrong_8 rfl ?_
      refine r_aload_n (pc := 9) X dX3_leastStrong_9 rfl ?_
      refine r_iload_n (pc := 10) X dX3_leastStrong_10 rfl ?_
      refine r_iload_n (pc := 11) X dX3_leastStrong_11 rfl ?_
      refine c_i X (rV (pc := 12) (ci := 3) X l_X3_26 (t3_wouldBeSo hh hT hI hs hV hw (v := v + 1) (by omega)) dX3_leastStrong_12 (by repeat (first | exact mu_self | assumption | refine (mu_ne (by omega)).trans ?_)) rfl rfl rfl (Nat.le_of_ble_eq_true rfl) (by decide) (Nat.le_of_ble_eq_true rfl) (Nat.le_of_ble_eq_true rfl)) ?_
      rintro _ μq ⟨rfl, hμq⟩
      rw [hμq]
      clear hμq μq
      first | refine r_if_eqZ (pc := 15) X 20 dX3_leastStrong_15 (by decide) (fun h2 => ?_) (fun h2 => ?_) | refine r_if_eqN (pc := 15) X 20 dX3_leastStrong_15 (by decide) (by omega) (fun h2 => ?_) (fun h2 => ?_) | refine r_if_eq (pc := 15) X 20 dX3_leastStrong_15 (by decide) (fun h2 => ?_) (fun h2 => ?_)
      · refine r_iincN (pc := 20) (b := 1) X dX3_leastStrong_20 rfl (by decide) rfl ?_
        refine r_goto (pc := 23) X 2 dX3_leastStrong_23 (by decide) ?_
        refine ih (v + 1) (by omega) (fun j h1 h3 => ?_)
        by_cases hj : j = v + 1
        · subst hj; exact h2
        · exact hn j h1 (by omega)
      · refine r_iload_n (pc := 18) X dX3_leastStrong_18 rfl ?_
        exact r_iret (pc := 19) X dX3_leastStrong_19 (⟨by rw [lfS_at hn h2 (by omega), uI_S], rfl⟩)
  exact key 20 0 (by omega) (fun j h1 h2 => by omega)
theorem t3_greatestStrong {w : Nat} (h : SigAt Γ μ a sn V) (hT : ToldAt Γ μ b T) (hI : IT T) (hs : sn ≤ 6) (hV : ∀ k, k < sn → V (3 * k) < T 0 ∧ V (3 * k + 1) < T 7 ∧ V (3 * k + 2) ≤ 1) (hw : w < T 7) : CT Γ l 3 sz 0 0 mX3_greatestStrong [.ref a, .ref b, .int (nI w)] μ (ri (fun r μ' => r = uI (gsS (wso T V sn w) 20) ∧ μ' = μ)) := by
  have hh := h
  have g0 := h.1
  refine CT.go RX3 rfl "greatestStrong" rfl [some (.ref a), some (.ref b), some (.int (nI w)), none] rfl (by decide) (Nat.le_of_ble_eq_true rfl) ?_
  intro p e R s m args below meth c X hsz
  refine r_bipush (pc := 0) (v := nI 20) X dX3_greatestStrong_0 (by decide) ?_
  refine r_istore_n (pc := 2) X dX3_greatestStrong_2 (by decide) rfl ?_
  have key : ∀ (v : Nat), v ≤ 20 → (∀ j, v < j → j ≤ 20 → wso T V sn w j = false) → vV Γ p l e R s m args below meth c (vQ Γ s args below 0 0 (ri (fun r μ' => r = uI (gsS (wso T V sn w) 20) ∧ μ' = μ))) 4 0 0 3 [some (.ref (a)), some (.ref (b)), some (.int (nI (w))), some (.int (nI (v)))] [] (μ) := by
    intro v
    induction v with
    | zero =>
      intro hv hn
      refine r_iload_n (pc := 3) X dX3_greatestStrong_3 rfl ?_
      refine r_iconst (pc := 4) (v := nI 1) X dX3_greatestStrong_4 (by decide) ?_
      refine r_icmp_ltN (pc := 5) X 26 dX3_greatestStrong_5 (by decide) (by omega) (by omega) (fun _ => ?_) (fun h => absurd (show 0 < 1 by omega) h)
      refine r_iconst (pc := 26) (v := -1) X dX3_greatestStrong_26 (by decide) ?_
      exact r_iret (pc := 27) X dX3_greatestStrong_27 (⟨by rw [gsS_up hv hn]; exact uI_0.symm, rfl⟩)
    | succ v ih =>
      intro hv hn
      refine r_iload_n (pc := 3) X dX3_greatestStrong_3 rfl ?_
      refine r_iconst (pc := 4) (v := nI 1) X dX3_greatestStrong_4 (by decide) ?_
      refine r_icmp_ltN (pc := 5) X 26 dX3_greatestStrong_5 (by decide) (by omega) (by omega) (fun h => absurd h (by omega)) (fun _ => ?_)
      refine r_aload_n (pc := 8) X dX3_greatestStrong_8 rfl ?_
      refine r_aload_n (pc := 9) X dX3_greatestStrong_9 rfl ?_
      refine r_iload_n (pc := 10) X dX3_greatestStrong_10 rfl ?_
      refine r_iload_n (pc := 11) X dX3_greatestStrong_11 rfl ?_
      refine c_i X (rV (pc := 12) (ci := 3) X l_X3_26 (t3_wouldBeSo hh hT hI hs hV hw (v := v + 1) (by omega)) dX3_greatestStrong_12 (by repeat (first | exact mu_self | assumption | refine (mu_ne (by omega)).trans ?_)) rfl rfl rfl (Nat.le_of_ble_eq_true rfl) (by decide) (Nat.le_of_ble_eq_true rfl) (Nat.le_of_ble_eq_true rfl)) ?_
      rintro _ μq ⟨rfl, hμq⟩
      rw [hμq]
      clear hμq μq
      first | refine r_if_eqZ (pc := 15) X 20 dX3_greatestStrong_15 (by decide) (fun h2 => ?_) (fun h2 => ?_) | refine r_if_eqN (pc := 15) X 20 dX3_greatestStrong_15 (by decide) (by omega) (fun h2 => ?_) (fun h2 => ?_) | refine r_if_eq (pc := 15) X 20 dX3_greatestStrong_15 (by decide) (fun h2 => ?_) (fun h2 => ?_)
      · refine r_iincD (pc := 20) X dX3_greatestStrong_20 rfl (by decide) rfl ?_
        refine r_goto (pc := 23) X 3 dX3_greatestStrong_23 (by decide) ?_
        refine ih (by omega) (fun j h1 h3 => ?_)
        by_cases hj : j = v + 1
        · subst hj; exact h2
        · exact hn j (by omega) h3
      · refine r_iload_n (pc := 18) X dX3_greatestStrong_18 rfl ?_
        have e : gsS (wso T V sn w) (v + 1) = v + 2 := by show (if wso T V sn w (v + 1) = true then v + 2 else _) = _; rw [if_pos h2]
        exact r_iret (pc := 19) X dX3_greatestStrong_19 (⟨by rw [gsS_up hv hn, e, uI_S], rfl⟩)
  exact key 20 (by omega) (fun j h1 h2 => by omega)
end S17
