def rsT (T : Nat → Nat) : Nat → Nat := upN (upN (upN (upN (upN (upN (upN T 0 0) 7 0) 20 0) 25 12) 26 3) 27 4) 28 2
def roomT (T : Nat → Nat) (w : Nat) : Bool := if w = 1 then decide (T 0 < 6) else if w = 0 then true else if w < 6 then decide (T 7 < 6) else if w = 6 then decide (T 20 < 4) else true
def addShT (T : Nat → Nat) (kd num : Nat) : Nat → Nat := upN (upN (upN T (8 + T 7) kd) (14 + T 7) num) 7 (T 7 + 1)
def tellT (T : Nat → Nat) (w num : Nat) : Nat → Nat := if w = 0 then rsT T else if w = 1 then upN (upN T (1 + T 0) num) 0 (T 0 + 1) else if w < 6 then addShT T (w - 2) num else if w = 6 then upN (upN T (21 + T 20) num) 20 (T 20 + 1) else upN T (18 + w) num
def comT (T : Nat → Nat) (nm : Nat) : Nat := mkb (T 20) (fun k => !(T (21 + k)).testBit nm)
def namT (T : Nat → Nat) (st : Nat) : Nat := mkb 8 (fun nm => comT T nm == st)
def qn (T : Nat → Nat) : Nat → Nat
  | 0 => 0
  | n + 1 => if popc (comT T n) < popc (comT T (qn T n)) then n else qn T n
def brT (T : Nat → Nat) (w : Nat) : Nat := if w < T 7 then brs (T (8 + w)) (T (14 + w)) else 0
def brM (T : Nat → Nat) (w m : Nat) : Bool := decide (w < T 7 ∧ m < T 0 ∧ T (1 + m) ≤ brT T w)
theorem comT_lt {T : Nat → Nat} (h : T 20 ≤ 4) (nm : Nat) : comT T nm < 16 := Nat.lt_of_lt_of_le (mkb_lt _ _) (by have := Nat.pow_le_pow_right (n := 2) (by decide) h; simpa using this)
theorem brT_le {T : Nat → Nat} (h : IT T) {w : Nat} (hw : w < 6) : brT T w ≤ 40 := by
  unfold brT
  have h1 := h.2.2.2.2.2.1 w hw
  split
  · unfold brs
    split
    · omega
    · split
      · omega
      · split <;> omega
  · omega
theorem qn_lt (T : Nat → Nat) : ∀ n, qn T n < 8 ∨ n > 8 := by
  intro n
  induction n with
  | zero => left; show 0 < 8; decide
  | succ n ih =>
    by_cases h : n + 1 > 8
    · exact Or.inr h
    · left
      show (if _ then n else qn T n) < 8
      split
      · omega
      · rcases ih with h1 | h1
        · exact h1
        · omega
theorem popc16 : ∀ x, x < 16 → popc x ≤ 4 := by decide +kernel
section S12
variable {Γ : KK} {l : Launch} {sz : Nat} {μ : MM} {a : Nat} {T : Nat → Nat}
theorem t5_hasMan (hT : ToldAt Γ μ a T) (h6 : T 0 ≤ 6) (x : Int32) : CT Γ l 0 sz 0 0 mX5_hasMan [.ref a, .int x] μ (ri (fun r μ' => r = zb (decide (0 ≤ x.toInt ∧ x.toInt < T 0)) ∧ μ' = μ)) := by
  obtain ⟨g0, g1, g2, g3, g4⟩ := hT
  refine CT.go RX5 rfl "hasMan" rfl [some (.ref a), some (.int x)] rfl (by decide) (Nat.le_of_ble_eq_true rfl) ?_
  intro p e R s m args below meth c X hsz
  refine r_iload_n (pc := 0) X dX5_hasMan_0 rfl ?_
  refine r_if_lt (pc := 1) X 16 dX5_hasMan_1 (by decide) (fun h => ?_) (fun h => ?_)
  · rw [Int32.lt_iff_toInt_lt, nI_toInt (by omega)] at h
    refine r_iconst (pc := 16) (v := nI 0) X dX5_hasMan_16 (by decide) ?_
    exact r_zret (pc := 17) X dX5_hasMan_17 (by first | rfl | decide | exact zb_nar _) (⟨by rw [decide_eq_false (by omega)]; rfl, rfl⟩)
  · rw [Int32.lt_iff_toInt_lt, nI_toInt (by omega)] at h
    refine r_iload_n (pc := 4) X dX5_hasMan_4 rfl ?_
    refine r_aload_n (pc := 5) X dX5_hasMan_5 rfl ?_
    apply r_get (pc := 6) X f_X5_27 dX5_hasMan_6
    · repeat (first | exact mu_self | assumption | refine (mu_ne (by omega)).trans ?_)
    · rfl
    refine r_icmp_ge (pc := 9) X 16 dX5_hasMan_9 (by decide) (fun h2 => ?_) (fun h2 => ?_)
    · rw [Int32.le_iff_toInt_le, nI_toInt (by omega)] at h2
      refine r_iconst (pc := 16) (v := nI 0) X dX5_hasMan_16 (by decide) ?_
      exact r_zret (pc := 17) X dX5_hasMan_17 (by first | rfl | decide | exact zb_nar _) (⟨by rw [decide_eq_false (by omega)]; rfl, rfl⟩)
    · rw [Int32.le_iff_toInt_le, nI_toInt (by omega)] at h2
      refine r_iconst (pc := 12) (v := nI 1) X dX5_hasMan_12 (by decide) ?_
      refine r_goto (pc := 13) X 17 dX5_hasMan_13 (by decide) ?_
      exact r_zret (pc := 17) X dX5_hasMan_17 (by first | rfl | decide | exact zb_nar _) (⟨by rw [decide_eq_true (by omega)]; rfl, rfl⟩)
theorem t5_hasSheep (hT : ToldAt Γ μ a T) (h6 : T 7 ≤ 6) (x : Int32) : CT Γ l 0 sz 0 0 mX5_hasSheep [.ref a, .int x] μ (ri (fun r μ' => r = zb (decide (0 ≤ x.toInt ∧ x.toInt < T 7)) ∧ μ' = μ)) := by
  obtain ⟨g0, g1, g2, g3, g4⟩ := hT
  refine CT.go RX5 rfl "hasSheep" rfl [some (.ref a), some (.int x)] rfl (by decide) (Nat.le_of_ble_eq_true rfl) ?_
  intro p e R s m args below meth c X hsz
  refine r_iload_n (pc := 0) X dX5_hasSheep_0 rfl ?_
  refine r_if_lt (pc := 1) X 16 dX5_hasSheep_1 (by decide) (fun h => ?_) (fun h => ?_)
  · rw [Int32.lt_iff_toInt_lt, nI_toInt (by omega)] at h
    refine r_iconst (pc := 16) (v := nI 0) X dX5_hasSheep_16 (by decide) ?_
    exact r_zret (pc := 17) X dX5_hasSheep_17 (by first | rfl | decide | exact zb_nar _) (⟨by rw [decide_eq_false (by omega)]; rfl, rfl⟩)
  · rw [Int32.lt_iff_toInt_lt, nI_toInt (by omega)] at h
    refine r_iload_n (pc := 4) X dX5_hasSheep_4 rfl ?_
    refine r_aload_n (pc := 5) X dX5_hasSheep_5 rfl ?_
    apply r_get (pc := 6) X f_X5_31 dX5_hasSheep_6
    · repeat (first | exact mu_self | assumption | refine (mu_ne (by omega)).trans ?_)
    · rfl
    refine r_icmp_ge (pc := 9) X 16 dX5_hasSheep_9 (by decide) (fun h2 => ?_) (fun h2 => ?_)
    · rw [Int32.le_iff_toInt_le, nI_toInt (by omega)] at h2
      refine r_iconst (pc := 16) (v := nI 0) X dX5_hasSheep_16 (by decide) ?_
      exact r_zret (pc := 17) X dX5_hasSheep_17 (by first | rfl | decide | exact zb_nar _) (⟨by rw [decide_eq_false (by omega)]; rfl, rfl⟩)
    · rw [Int32.le_iff_toInt_le, nI_toInt (by omega)] at h2
      refine r_iconst (pc := 12) (v := nI 1) X dX5_hasSheep_12 (by decide) ?_
      refine r_goto (pc := 13) X 17 dX5_hasSheep_13 (by decide) ?_
      exact r_zret (pc := 17) X dX5_hasSheep_17 (by first | rfl | decide | exact zb_nar _) (⟨by rw [decide_eq_true (by omega)]; rfl, rfl⟩)
theorem t5_hasNeighbour (hT : ToldAt Γ μ a T) (h6 : T 20 ≤ 4) (x : Int32) : CT Γ l 0 sz 0 0 mX5_hasNeighbour [.ref a, .int x] μ (ri (fun r μ' => r = zb (decide (0 ≤ x.toInt ∧ x.toInt < T 20)) ∧ μ' = μ)) := by
  obtain ⟨g0, g1, g2, g3, g4⟩ := hT
  refine CT.go RX5 rfl "hasNeighbour" rfl [some (.ref a), some (.int x)] rfl (by decide) (Nat.le_of_ble_eq_true rfl) ?_
  intro p e R s m args below meth c X hsz
  refine r_iload_n (pc := 0) X dX5_hasNeighbour_0 rfl ?_
  refine r_if_lt (pc := 1) X 16 dX5_hasNeighbour_1 (by decide) (fun h => ?_) (fun h => ?_)
  · rw [Int32.lt_iff_toInt_lt, nI_toInt (by omega)] at h
    refine r_iconst (pc := 16) (v := nI 0) X dX5_hasNeighbour_16 (by decide) ?_
    exact r_zret (pc := 17) X dX5_hasNeighbour_17 (by first | rfl | decide | exact zb_nar _) (⟨by rw [decide_eq_false (by omega)]; rfl, rfl⟩)
  · rw [Int32.lt_iff_toInt_lt, nI_toInt (by omega)] at h
    refine r_iload_n (pc := 4) X dX5_hasNeighbour_4 rfl ?_
    refine r_aload_n (pc := 5) X dX5_hasNeighbour_5 rfl ?_
    apply r_get (pc := 6) X f_X5_34 dX5_hasNeighbour_6
    · repeat (first | exact mu_self | assumption | refine (mu_ne (by omega)).trans ?_)
    · rfl
    refine r_icmp_ge (pc := 9) X 16 dX5_hasNeighbour_9 (by decide) (fun h2 => ?_) (fun h2 => ?_)
    · rw [Int32.le_iff_toInt_le, nI_toInt (by omega)] at h2
      refine r_iconst (pc := 16) (v := nI 0) X dX5_hasNeighbour_16 (by decide) ?_
      exact r_zret (pc := 17) X dX5_hasNeighbour_17 (by first | rfl | decide | exact zb_nar _) (⟨by rw [decide_eq_false (by omega)]; rfl, rfl⟩)
    · rw [Int32.le_iff_toInt_le, nI_toInt (by omega)] at h2
      refine r_iconst (pc := 12) (v := nI 1) X dX5_hasNeighbour_12 (by decide) ?_
      refine r_goto (pc := 13) X 17 dX5_hasNeighbour_13 (by decide) ?_
      exact r_zret (pc := 17) X dX5_hasNeighbour_17 (by first | rfl | decide | exact zb_nar _) (⟨by rw [decide_eq_true (by omega)]; rfl, rfl⟩)
theorem t5_allSheep (hT : ToldAt Γ μ a T) (h6 : T 7 ≤ 6) : CT Γ l 1 sz 0 0 mX5_allSheep [.ref a] μ (ri (fun r μ' => r = nI (2 ^ T 7 - 1) ∧ μ' = μ)) := by
  obtain ⟨g0, g1, g2, g3, g4⟩ := hT
  refine CT.go RX5 rfl "allSheep" rfl [some (.ref a)] rfl (by decide) (Nat.le_of_ble_eq_true rfl) ?_
  intro p e R s m args below meth c X hsz
  refine r_aload_n (pc := 0) X dX5_allSheep_0 rfl ?_
  apply r_get (pc := 1) X f_X5_31 dX5_allSheep_1
  · repeat (first | exact mu_self | assumption | refine (mu_ne (by omega)).trans ?_)
  · rfl
  refine c_i X (rSN (pc := 4) X l_X5_63 (t6_allBits (by omega)) dX5_allSheep_4 rfl rfl (Nat.le_of_ble_eq_true rfl) (by decide) (Nat.le_of_ble_eq_true rfl) (Nat.le_of_ble_eq_true rfl)) ?_
  rintro _ μq ⟨rfl, hμq⟩
  rw [hμq]
  clear hμq μq
  exact r_iret (pc := 7) X dX5_allSheep_7 (⟨rfl, rfl⟩)
theorem toldO_rs (a : Nat) (T : Nat → Nat) : toldO a (rsT T) = xO 5 [.int (nI 0), .int (nI 0), .int (nI 0), .int (nI 12), .int (nI 3), .int (nI 4), .int (nI 2), .ref (a + 1), .ref (a + 2), .ref (a + 3), .ref (a + 4)] := rfl
theorem rsT_ne (T : Nat → Nat) {i : Nat} (h : i ≠ 0 ∧ i ≠ 7 ∧ i ≠ 20 ∧ i < 25) : rsT T i = T i := by
  unfold rsT
  rw [upN_ne (by omega), upN_ne (by omega), upN_ne (by omega), upN_ne (by omega), upN_ne (by omega), upN_ne (by omega), upN_ne (by omega)]
theorem xI_eq {Γ : KK} {n : Nat} {f g : Nat → Int32} (h : f = g) : xI Γ n f = xI Γ n g := by rw [h]
/-- an array's row beyond its length counts for nothing -/
theorem ToldAt.of {a : Nat} {T' : Nat → Nat} {f1 f2 f3 f4 : Nat → Int32} {H : Heap} (hP : mP Γ μ H) (g0 : μ a = some (toldO a T')) (g1 : μ (a + 1) = some (xI Γ 6 f1)) (g2 : μ (a + 2) = some (xI Γ 6 f2)) (g3 : μ (a + 3) = some (xI Γ 6 f3)) (g4 : μ (a + 4) = some (xI Γ 4 f4))
    (e1 : ∀ i, i < 6 → f1 i = nI (T' (1 + i))) (e2 : ∀ i, i < 6 → f2 i = nI (T' (8 + i))) (e3 : ∀ i, i < 6 → f3 i = nI (T' (14 + i))) (e4 : ∀ i, i < 4 → f4 i = nI (T' (21 + i))) :
    ∃ μ', mP Γ μ' H ∧ ToldAt Γ μ' a T' ∧ Fr a 5 μ μ' := by
  refine ⟨mu (mu (mu (mu μ (a + 1) (xI Γ 6 (fun i => nI (T' (1 + i))))) (a + 2) (xI Γ 6 (fun i => nI (T' (8 + i))))) (a + 3) (xI Γ 6 (fun i => nI (T' (14 + i))))) (a + 4) (xI Γ 4 (fun i => nI (T' (21 + i)))), ?_, ⟨(by repeat (first | exact mu_self | assumption | refine (mu_ne (by omega)).trans ?_)), (by repeat (first | exact mu_self | assumption | refine (mu_ne (by omega)).trans ?_)), (by repeat (first | exact mu_self | assumption | refine (mu_ne (by omega)).trans ?_)), (by repeat (first | exact mu_self | assumption | refine (mu_ne (by omega)).trans ?_)), (by repeat (first | exact mu_self | assumption | refine (mu_ne (by omega)).trans ?_))⟩, (fun q hq => by repeat (first | rfl | refine (mu_ne (by omega)).trans ?_))⟩
  have key : ∀ {b n : Nat} {μ : MM} {f g : Nat → Int32}, mP Γ μ H → μ b = some (xI Γ n f) → (∀ i, i < n → f i = g i) → mP Γ (mu μ b (xI Γ n g)) H := by
    intro b n μ f g h hb he
    refine mP.congrI he ?_
    have : mu μ b (xI Γ n f) = μ := by
      funext q
      by_cases hq : q = b
      · subst hq; rw [mu_self, hb]
      · rw [mu_ne hq]
    rw [this]
    exact h
  exact key (key (key (key hP g1 e1) (by repeat (first | exact mu_self | assumption | refine (mu_ne (by omega)).trans ?_)) e2) (by repeat (first | exact mu_self | assumption | refine (mu_ne (by omega)).trans ?_)) e3) (by repeat (first | exact mu_self | assumption | refine (mu_ne (by omega)).trans ?_)) e4
theorem t5_reset (hT : ToldAt Γ μ a T) : CT Γ l 0 sz 0 0 mX5_reset [.ref a] μ (rv (fun μ' => ToldAt Γ μ' a (rsT T) ∧ Fr a 5 μ μ')) := by
  obtain ⟨g0, g1, g2, g3, g4⟩ := hT
  refine CT.go RX5 rfl "reset" rfl [some (.ref a)] rfl (by decide) (Nat.le_of_ble_eq_true rfl) ?_
  intro p e R s m args below meth c X hsz
  refine r_aload_n (pc := 0) X dX5_reset_0 rfl ?_
  refine r_iconst (pc := 1) (v := nI 0) X dX5_reset_1 (by decide) ?_
  first | refine r_putS (pc := 2) X f_X5_27 dX5_reset_2 (by first | rfl | assumption | decide | simp [narrow]) (by first | rfl | assumption) (Nat.le_of_ble_eq_true rfl) ?_ | refine r_put (pc := 2) X f_X5_27 dX5_reset_2 (by repeat (first | exact mu_self | assumption | refine (mu_ne (by omega)).trans ?_)) (by first | rfl | assumption | decide | simp [narrow]) (by first | rfl | assumption) (Nat.le_of_ble_eq_true rfl) ?_
  refine r_aload_n (pc := 5) X dX5_reset_5 rfl ?_
  refine r_iconst (pc := 6) (v := nI 0) X dX5_reset_6 (by decide) ?_
  first | refine r_putS (pc := 7) X f_X5_31 dX5_reset_7 (by first | rfl | assumption | decide | simp [narrow]) (by first | rfl | assumption) (Nat.le_of_ble_eq_true rfl) ?_ | refine r_put (pc := 7) X f_X5_31 dX5_reset_7 (by repeat (first | exact mu_self | assumption | refine (mu_ne (by omega)).trans ?_)) (by first | rfl | assumption | decide | simp [narrow]) (by first | rfl | assumption) (Nat.le_of_ble_eq_true rfl) ?_
  refine r_aload_n (pc := 10) X dX5_reset_10 rfl ?_
  refine r_iconst (pc := 11) (v := nI 0) X dX5_reset_11 (by decide) ?_
  first | refine r_putS (pc := 12) X f_X5_34 dX5_reset_12 (by first | rfl | assumption | decide | simp [narrow]) (by first | rfl | assumption) (Nat.le_of_ble_eq_true rfl) ?_ | refine r_put (pc := 12) X f_X5_34 dX5_reset_12 (by repeat (first | exact mu_self | assumption | refine (mu_ne (by omega)).trans ?_)) (by first | rfl | assumption | decide | simp [narrow]) (by first | rfl | assumption) (Nat.le_of_ble_eq_true rfl) ?_
  refine r_aload_n (pc := 15) X dX5_reset_15 rfl ?_
  refine r_bipush (pc := 16) (v := nI 12) X dX5_reset_16 (by decide) ?_
  first | refine r_putS (pc := 18) X f_X5_37 dX5_reset_18 (by first | rfl | assumption | decide | simp [narrow]) (by first | rfl | assumption) (Nat.le_of_ble_eq_true rfl) ?_ | refine r_put (pc := 18) X f_X5_37 dX5_reset_18 (by repeat (first | exact mu_self | assumption | refine (mu_ne (by omega)).trans ?_)) (by first | rfl | assumption | decide | simp [narrow]) (by first | rfl | assumption) (Nat.le_of_ble_eq_true rfl) ?_
  refine r_aload_n (pc := 21) X dX5_reset_21 rfl ?_
  refine r_iconst (pc := 22) (v := nI 3) X dX5_reset_22 (by decide) ?_
  first | refine r_putS (pc := 23) X f_X5_40 dX5_reset_23 (by first | rfl | assumption | decide | simp [narrow]) (by first | rfl | assumption) (Nat.le_of_ble_eq_true rfl) ?_ | refine r_put (pc := 23) X f_X5_40 dX5_reset_23 (by repeat (first | exact mu_self | assumption | refine (mu_ne (by omega)).trans ?_)) (by first | rfl | assumption | decide | simp [narrow]) (by first | rfl | assumption) (Nat.le_of_ble_eq_true rfl) ?_
  refine r_aload_n (pc := 26) X dX5_reset_26 rfl ?_
  refine r_iconst (pc := 27) (v := nI 4) X dX5_reset_27 (by decide) ?_
  first | refine r_putS (pc := 28) X f_X5_43 dX5_reset_28 (by first | rfl | assumption | decide | simp [narrow]) (by first | rfl | assumption) (Nat.le_of_ble_eq_true rfl) ?_ | refine r_put (pc := 28) X f_X5_43 dX5_reset_28 (by repeat (first | exact mu_self | assumption | refine (mu_ne (by omega)).trans ?_)) (by first | rfl | assumption | decide | simp [narrow]) (by first | rfl | assumption) (Nat.le_of_ble_eq_true rfl) ?_
  refine r_aload_n (pc := 31) X dX5_reset_31 rfl ?_
  refine r_iconst (pc := 32) (v := nI 2) X dX5_reset_32 (by decide) ?_
  first | refine r_putS (pc := 33) X f_X5_46 dX5_reset_33 (by first | rfl | assumption | decide | simp [narrow]) (by first | rfl | assumption) (Nat.le_of_ble_eq_true rfl) ?_ | refine r_put (pc := 33) X f_X5_46 dX5_reset_33 (by repeat (first | exact mu_self | assumption | refine (mu_ne (by omega)).trans ?_)) (by first | rfl | assumption | decide | simp [narrow]) (by first | rfl | assumption) (Nat.le_of_ble_eq_true rfl) ?_
  refine vV.sub' (fun H hP => ToldAt.of (a := a) (T' := rsT T) hP mu_self (by repeat (first | exact mu_self | assumption | refine (mu_ne (by omega)).trans ?_)) (by repeat (first | exact mu_self | assumption | refine (mu_ne (by omega)).trans ?_)) (by repeat (first | exact mu_self | assumption | refine (mu_ne (by omega)).trans ?_)) (by repeat (first | exact mu_self | assumption | refine (mu_ne (by omega)).trans ?_)) (fun i hi => by rw [rsT_ne T (by omega)]) (fun i hi => by rw [rsT_ne T (by omega)]) (fun i hi => by rw [rsT_ne T (by omega)]) (fun i hi => by rw [rsT_ne T (by omega)])) (fun μ' h => ?_)
  exact r_vret (pc := 36) X dX5_reset_36 (⟨h.1, fun q hq => (h.2 q hq).trans (mu_ne (by omega))⟩)
theorem t5_copy {b : Nat} {T' : Nat → Nat} (hT : ToldAt Γ μ a T) (hb : ToldAt Γ μ b T') (hd : a + 5 ≤ b ∨ b + 5 ≤ a) : CT Γ l 1 sz 0 0 mX5_copy [.ref a, .ref b] μ (rv (fun μ' => ToldAt Γ μ' a T' ∧ Fr a 5 μ μ')) := by
  obtain ⟨g0, g1, g2, g3, g4⟩ := hT
  obtain ⟨k0, k1, k2, k3, k4⟩ := hb
  refine CT.go RX5 rfl "copy" rfl [some (.ref a), some (.ref b)] rfl (by decide) (Nat.le_of_ble_eq_true rfl) ?_
  intro p e R s m args below meth c X hsz
  refine r_aload_n (pc := 0) X dX5_copy_0 rfl ?_
  refine r_aload_n (pc := 1) X dX5_copy_1 rfl ?_
  apply r_get (pc := 2) X f_X5_27 dX5_copy_2
  · repeat (first | exact mu_self | assumption | refine (mu_ne (by omega)).trans ?_)
  · rfl
  first | refine r_putS (pc := 5) X f_X5_27 dX5_copy_5 (by first | rfl | assumption | decide | simp [narrow]) (by first | rfl | assumption) (Nat.le_of_ble_eq_true rfl) ?_ | refine r_put (pc := 5) X f_X5_27 dX5_copy_5 (by repeat (first | exact mu_self | assumption | refine (mu_ne (by omega)).trans ?_)) (by first | rfl | assumption | decide | simp [narrow]) (by first | rfl | assumption) (Nat.le_of_ble_eq_true rfl) ?_
  refine r_aload_n (pc := 8) X dX5_copy_8 rfl ?_
  refine r_aload_n (pc := 9) X dX5_copy_9 rfl ?_
  apply r_get (pc := 10) X f_X5_31 dX5_copy_10
  · repeat (first | exact mu_self | assumption | refine (mu_ne (by omega)).trans ?_)
  · rfl
  first | refine r_putS (pc := 13) X f_X5_31 dX5_copy_13 (by first | rfl | assumption | decide | simp [narrow]) (by first | rfl | assumption) (Nat.le_of_ble_eq_true rfl) ?_ | refine r_put (pc := 13) X f_X5_31 dX5_copy_13 (by repeat (first | exact mu_self | assumption | refine (mu_ne (by omega)).trans ?_)) (by first | rfl | assumption | decide | simp [narrow]) (by first | rfl | assumption) (Nat.le_of_ble_eq_true rfl) ?_
  refine r_aload_n (pc := 16) X dX5_copy_16 rfl ?_
  refine r_aload_n (pc := 17) X dX5_copy_17 rfl ?_
  apply r_get (pc := 18) X f_X5_34 dX5_copy_18
  · repeat (first | exact mu_self | assumption | refine (mu_ne (by omega)).trans ?_)
  · rfl
  first | refine r_putS (pc := 21) X f_X5_34 dX5_copy_21 (by first | rfl | assumption | decide | simp [narrow]) (by first | rfl | assumption) (Nat.le_of_ble_eq_true rfl) ?_ | refine r_put (pc := 21) X f_X5_34 dX5_copy_21 (by repeat (first | exact mu_self | assumption | refine (mu_ne (by omega)).trans ?_)) (by first | rfl | assumption | decide | simp [narrow]) (by first | rfl | assumption) (Nat.le_of_ble_eq_true rfl) ?_
  refine r_aload_n (pc := 24) X dX5_copy_24 rfl ?_
  refine r_aload_n (pc := 25) X dX5_copy_25 rfl ?_
  apply r_get (pc := 26) X f_X5_37 dX5_copy_26
  · repeat (first | exact mu_self | assumption | refine (mu_ne (by omega)).trans ?_)
  · rfl
  first | refine r_putS (pc := 29) X f_X5_37 dX5_copy_29 (by first | rfl | assumption | decide | simp [narrow]) (by first | rfl | assumption) (Nat.le_of_ble_eq_true rfl) ?_ | refine r_put (pc := 29) X f_X5_37 dX5_copy_29 (by repeat (first | exact mu_self | assumption | refine (mu_ne (by omega)).trans ?_)) (by first | rfl | assumption | decide | simp [narrow]) (by first | rfl | assumption) (Nat.le_of_ble_eq_true rfl) ?_
  refine r_aload_n (pc := 32) X dX5_copy_32 rfl ?_
  refine r_aload_n (pc := 33) X dX5_copy_33 rfl ?_
  apply r_get (pc := 34) X f_X5_40 dX5_copy_34
  · repeat (first | exact mu_self | assumption | refine (mu_ne (by omega)).trans ?_)
  · rfl
  first | refine r_putS (pc := 37) X f_X5_40 dX5_copy_37 (by first | rfl | assumption | decide | simp [narrow]) (by first | rfl | assumption) (Nat.le_of_ble_eq_true rfl) ?_ | refine r_put (pc := 37) X f_X5_40 dX5_copy_37 (by repeat (first | exact mu_self | assumption | refine (mu_ne (by omega)).trans ?_)) (by first | rfl | assumption | decide | simp [narrow]) (by first | rfl | assumption) (Nat.le_of_ble_eq_true rfl) ?_
  refine r_aload_n (pc := 40) X dX5_copy_40 rfl ?_
  refine r_aload_n (pc := 41) X dX5_copy_41 rfl ?_
  apply r_get (pc := 42) X f_X5_43 dX5_copy_42
  · repeat (first | exact mu_self | assumption | refine (mu_ne (by omega)).trans ?_)
  · rfl
  first | refine r_putS (pc := 45) X f_X5_43 dX5_copy_45 (by first | rfl | assumption | decide | simp [narrow]) (by first | rfl | assumption) (Nat.le_of_ble_eq_true rfl) ?_ | refine r_put (pc := 45) X f_X5_43 dX5_copy_45 (by repeat (first | exact mu_self | assumption | refine (mu_ne (by omega)).trans ?_)) (by first | rfl | assumption | decide | simp [narrow]) (by first | rfl | assumption) (Nat.le_of_ble_eq_true rfl) ?_
  refine r_aload_n (pc := 48) X dX5_copy_48 rfl ?_
  refine r_aload_n (pc := 49) X dX5_copy_49 rfl ?_
  apply r_get (pc := 50) X f_X5_46 dX5_copy_50
  · repeat (first | exact mu_self | assumption | refine (mu_ne (by omega)).trans ?_)
  · rfl
  first | refine r_putS (pc := 53) X f_X5_46 dX5_copy_53 (by first | rfl | assumption | decide | simp [narrow]) (by first | rfl | assumption) (Nat.le_of_ble_eq_true rfl) ?_ | refine r_put (pc := 53) X f_X5_46 dX5_copy_53 (by repeat (first | exact mu_self | assumption | refine (mu_ne (by omega)).trans ?_)) (by first | rfl | assumption | decide | simp [narrow]) (by first | rfl | assumption) (Nat.le_of_ble_eq_true rfl) ?_
  refine r_aload_n (pc := 56) X dX5_copy_56 rfl ?_
  apply r_get (pc := 57) X f_X5_9 dX5_copy_57
  · repeat (first | exact mu_self | assumption | refine (mu_ne (by omega)).trans ?_)
  · rfl
  refine r_iconst (pc := 60) (v := nI 0) X dX5_copy_60 (by decide) ?_
  refine r_aload_n (pc := 61) X dX5_copy_61 rfl ?_
  apply r_get (pc := 62) X f_X5_9 dX5_copy_62
  · repeat (first | exact mu_self | assumption | refine (mu_ne (by omega)).trans ?_)
  · rfl
  refine r_iconst (pc := 65) (v := nI 0) X dX5_copy_65 (by decide) ?_
  refine r_bipush (pc := 66) (v := nI 6) X dX5_copy_66 (by decide) ?_
  apply r_copyI (pc := 68) X l_X5_49 dX5_copy_68 (by decide) (Nat.le_of_ble_eq_true rfl) (by decide)
  · repeat (first | exact mu_self | assumption | refine (mu_ne (by omega)).trans ?_)
  · repeat (first | exact mu_self | assumption | refine (mu_ne (by omega)).trans ?_)
  refine r_aload_n (pc := 71) X dX5_copy_71 rfl ?_
  apply r_get (pc := 72) X f_X5_15 dX5_copy_72
  · repeat (first | exact mu_self | assumption | refine (mu_ne (by omega)).trans ?_)
  · rfl
  refine r_iconst (pc := 75) (v := nI 0) X dX5_copy_75 (by decide) ?_
  refine r_aload_n (pc := 76) X dX5_copy_76 rfl ?_
  apply r_get (pc := 77) X f_X5_15 dX5_copy_77
  · repeat (first | exact mu_self | assumption | refine (mu_ne (by omega)).trans ?_)
  · rfl
  refine r_iconst (pc := 80) (v := nI 0) X dX5_copy_80 (by decide) ?_
  refine r_bipush (pc := 81) (v := nI 6) X dX5_copy_81 (by decide) ?_
  apply r_copyI (pc := 83) X l_X5_49 dX5_copy_83 (by decide) (Nat.le_of_ble_eq_true rfl) (by decide)
  · repeat (first | exact mu_self | assumption | refine (mu_ne (by omega)).trans ?_)
  · repeat (first | exact mu_self | assumption | refine (mu_ne (by omega)).trans ?_)
  refine r_aload_n (pc := 86) X dX5_copy_86 rfl ?_
  apply r_get (pc := 87) X f_X5_18 dX5_copy_87
  · repeat (first | exact mu_self | assumption | refine (mu_ne (by omega)).trans ?_)
  · rfl
  refine r_iconst (pc := 90) (v := nI 0) X dX5_copy_90 (by decide) ?_
  refine r_aload_n (pc := 91) X dX5_copy_91 rfl ?_
  apply r_get (pc := 92) X f_X5_18 dX5_copy_92
  · repeat (first | exact mu_self | assumption | refine (mu_ne (by omega)).trans ?_)
  · rfl
  refine r_iconst (pc := 95) (v := nI 0) X dX5_copy_95 (by decide) ?_
  refine r_bipush (pc := 96) (v := nI 6) X dX5_copy_96 (by decide) ?_
  apply r_copyI (pc := 98) X l_X5_49 dX5_copy_98 (by decide) (Nat.le_of_ble_eq_true rfl) (by decide)
  · repeat (first | exact mu_self | assumption | refine (mu_ne (by omega)).trans ?_)
  · repeat (first | exact mu_self | assumption | refine (mu_ne (by omega)).trans ?_)
  refine r_aload_n (pc := 101) X dX5_copy_101 rfl ?_
  apply r_get (pc := 102) X f_X5_21 dX5_copy_102
  · repeat (first | exact mu_self | assumption | refine (mu_ne (by omega)).trans ?_)
  · rfl
  refine r_iconst (pc := 105) (v := nI 0) X dX5_copy_105 (by decide) ?_
  refine r_aload_n (pc := 106) X dX5_copy_106 rfl ?_
  apply r_get (pc := 107) X f_X5_21 dX5_copy_107
  · repeat (first | exact mu_self | assumption | refine (mu_ne (by omega)).trans ?_)
  · rfl
  refine r_iconst (pc := 110) (v := nI 0) X dX5_copy_110 (by decide) ?_
  refine r_iconst (pc := 111) (v := nI 4) X dX5_copy_111 (by decide) ?_
  apply r_copyI (pc := 112) X l_X5_49 dX5_copy_112 (by decide) (Nat.le_of_ble_eq_true rfl) (by decide)
  · repeat (first | exact mu_self | assumption | refine (mu_ne (by omega)).trans ?_)
  · repeat (first | exact mu_self | assumption | refine (mu_ne (by omega)).trans ?_)
  exact r_vret (pc := 115) X dX5_copy_115 (⟨⟨(by repeat (first | exact mu_self | assumption | refine (mu_ne (by omega)).trans ?_)), (by repeat (first | exact mu_self | assumption | refine (mu_ne (by omega)).trans ?_)), (by repeat (first | exact mu_self | assumption | refine (mu_ne (by omega)).trans ?_)), (by repeat (first | exact mu_self | assumption | refine (mu_ne (by omega)).trans ?_)), (by repeat (first | exact mu_self | assumption | refine (mu_ne (by omega)).trans ?_))⟩, (fun q hq => by repeat (first | rfl | refine (mu_ne (by omega)).trans ?_))⟩)
theorem t5_hasRoomFor (hT : ToldAt Γ μ a T) (hI : IT T) {w : Nat} (hw : w < 11) : CT Γ l 0 sz 0 0 mX5_hasRoomFor [.ref a, .int (nI w)] μ (ri (fun r μ' => r = zb (roomT T w) ∧ μ' = μ)) := by
  obtain ⟨g0, g1, g2, g3, g4⟩ := hT
  obtain ⟨i1, i2, i3, -⟩ := hI
  refine CT.go RX5 rfl "hasRoomFor" rfl [some (.ref a), some (.int (nI w))] rfl (by decide) (Nat.le_of_ble_eq_true rfl) ?_
  intro p e R s m args below meth c X hsz
  refine r_iload_n (pc := 0) X dX5_hasRoomFor_0 rfl ?_
  by_cases h0 : w = 0
  · subst h0
    refine r_tableOut (pc := 1) X 84 dX5_hasRoomFor_1 (by decide) (by decide) ?_
    refine r_iconst (pc := 84) (v := nI 1) X dX5_hasRoomFor_84 (by decide) ?_
    exact r_zret (pc := 85) X dX5_hasRoomFor_85 (by first | rfl | decide | exact zb_nar _) (⟨rfl, rfl⟩)
  by_cases h1 : w = 1
  · subst h1
    refine r_tableIn (pc := 1) X 40 dX5_hasRoomFor_1 (by decide) (by decide) rfl (by decide) ?_
    refine r_aload_n (pc := 40) X dX5_hasRoomFor_40 rfl ?_
    apply r_get (pc := 41) X f_X5_27 dX5_hasRoomFor_41
    · repeat (first | exact mu_self | assumption | refine (mu_ne (by omega)).trans ?_)
    · rfl
    refine r_bipush (pc := 44) (v := nI 6) X dX5_hasRoomFor_44 (by decide) ?_
    first | refine r_icmp_geN (pc := 46) X 53 dX5_hasRoomFor_46 (by decide) (by omega) (by omega) (fun h => ?_) (fun h => ?_) | refine r_icmp_ge (pc := 46) X 53 dX5_hasRoomFor_46 (by decide) (fun h => ?_) (fun h => ?_)
    · refine r_iconst (pc := 53) (v := nI 0) X dX5_hasRoomFor_53 (by decide) ?_
      exact r_zret (pc := 54) X dX5_hasRoomFor_54 (by first | rfl | decide | exact zb_nar _) (⟨by show nI 0 = zb (decide (T 0 < 6)); rw [decide_eq_false (by omega)]; rfl, rfl⟩)
    · refine r_iconst (pc := 49) (v := nI 1) X dX5_hasRoomFor_49 (by decide) ?_
      refine r_goto (pc := 50) X 54 dX5_hasRoomFor_50 (by decide) ?_
      exact r_zret (pc := 54) X dX5_hasRoomFor_54 (by first | rfl | decide | exact zb_nar _) (⟨by show nI 1 = zb (decide (T 0 < 6)); rw [decide_eq_true (by omega)]; rfl, rfl⟩)
  by_cases h5 : w < 6
  · have e : roomT T w = decide (T 7 < 6) := by unfold roomT; rw [if_neg h1, if_neg h0, if_pos h5]
    rw [e]
    have ho : (#[39, 54, 54, 54, 54, 69] : Array Int)[((nI w).toInt - 1).toNat]? = some 54 := by
      have : ∀ w, w < 6 → w ≠ 0 → w ≠ 1 → (#[39, 54, 54, 54, 54, 69] : Array Int)[((nI w).toInt - 1).toNat]? = some 54 := by decide +kernel
      exact this w h5 h0 h1
    refine r_tableIn (pc := 1) X 55 dX5_hasRoomFor_1 (by rw [nI_toInt (by omega)]; omega) (by rw [nI_toInt (by omega)]; omega) ho (by decide) ?_
    refine r_aload_n (pc := 55) X dX5_hasRoomFor_55 rfl ?_
    apply r_get (pc := 56) X f_X5_31 dX5_hasRoomFor_56
    · repeat (first | exact mu_self | assumption | refine (mu_ne (by omega)).trans ?_)
    · rfl
    refine r_bipush (pc := 59) (v := nI 6) X dX5_hasRoomFor_59 (by decide) ?_
    first | refine r_icmp_geN (pc := 61) X 68 dX5_hasRoomFor_61 (by decide) (by omega) (by omega) (fun h => ?_) (fun h => ?_) | refine r_icmp_ge (pc := 61) X 68 dX5_hasRoomFor_61 (by decide) (fun h => ?_) (fun h => ?_)
    · refine r_iconst (pc := 68) (v := nI 0) X dX5_hasRoomFor_68 (by decide) ?_
      exact r_zret (pc := 69) X dX5_hasRoomFor_69 (by first | rfl | decide | exact zb_nar _) (⟨by rw [decide_eq_false (by omega)]; rfl, rfl⟩)
    · refine r_iconst (pc := 64) (v := nI 1) X dX5_hasRoomFor_64 (by decide) ?_
      refine r_goto (pc := 65) X 69 dX5_hasRoomFor_65 (by decide) ?_
      exact r_zret (pc := 69) X dX5_hasRoomFor_69 (by first | rfl | decide | exact zb_nar _) (⟨by rw [decide_eq_true (by omega)]; rfl, rfl⟩)
  by_cases h6 : w = 6
  · subst h6
    refine r_tableIn (pc := 1) X 70 dX5_hasRoomFor_1 (by decide) (by decide) rfl (by decide) ?_
    refine r_aload_n (pc := 70) X dX5_hasRoomFor_70 rfl ?_
    apply r_get (pc := 71) X f_X5_34 dX5_hasRoomFor_71
    · repeat (first | exact mu_self | assumption | refine (mu_ne (by omega)).trans ?_)
    · rfl
    refine r_iconst (pc := 74) (v := nI 4) X dX5_hasRoomFor_74 (by decide) ?_
    first | refine r_icmp_geN (pc := 75) X 82 dX5_hasRoomFor_75 (by decide) (by omega) (by omega) (fun h => ?_) (fun h => ?_) | refine r_icmp_ge (pc := 75) X 82 dX5_hasRoomFor_75 (by decide) (fun h => ?_) (fun h => ?_)
    · refine r_iconst (pc := 82) (v := nI 0) X dX5_hasRoomFor_82 (by decide) ?_
      exact r_zret (pc := 83) X dX5_hasRoomFor_83 (by first | rfl | decide | exact zb_nar _) (⟨by show nI 0 = zb (decide (T 20 < 4)); rw [decide_eq_false (by omega)]; rfl, rfl⟩)
    · refine r_iconst (pc := 78) (v := nI 1) X dX5_hasRoomFor_78 (by decide) ?_
      refine r_goto (pc := 79) X 83 dX5_hasRoomFor_79 (by decide) ?_
      exact r_zret (pc := 83) X dX5_hasRoomFor_83 (by first | rfl | decide | exact zb_nar _) (⟨by show nI 1 = zb (decide (T 20 < 4)); rw [decide_eq_true (by omega)]; rfl, rfl⟩)
  · have e : roomT T w = true := by unfold roomT; rw [if_neg h1, if_neg h0, if_neg h5, if_neg h6]
    rw [e]
    refine r_tableOut (pc := 1) X 84 dX5_hasRoomFor_1 (by rw [nI_toInt (by omega)]; omega) (by decide) ?_
    refine r_iconst (pc := 84) (v := nI 1) X dX5_hasRoomFor_84 (by decide) ?_
    exact r_zret (pc := 85) X dX5_hasRoomFor_85 (by first | rfl | decide | exact zb_nar _) (⟨rfl, rfl⟩)
theorem t5_addSheep (hT : ToldAt Γ μ a T) (h6 : T 7 < 6) {kd num : Nat} : CT Γ l 0 sz 0 0 mX5_addSheep [.ref a, .int (nI kd), .int (nI num)] μ (rv (fun μ' => ToldAt Γ μ' a (addShT T kd num) ∧ Fr a 5 μ μ')) := by
  obtain ⟨g0, g1, g2, g3, g4⟩ := hT
  refine CT.go RX5 rfl "addSheep" rfl [some (.ref a), some (.int (nI kd)), some (.int (nI num))] rfl (by decide) (Nat.le_of_ble_eq_true rfl) ?_
  intro p e R s m args below meth c X hsz
  refine r_aload_n (pc := 0) X dX5_addSheep_0 rfl ?_
  apply r_get (pc := 1) X f_X5_15 dX5_addSheep_1
  · repeat (first | exact mu_self | assumption | refine (mu_ne (by omega)).trans ?_)
  · rfl
  refine r_aload_n (pc := 4) X dX5_addSheep_4 rfl ?_
  apply r_get (pc := 5) X f_X5_31 dX5_addSheep_5
  · repeat (first | exact mu_self | assumption | refine (mu_ne (by omega)).trans ?_)
  · rfl
  refine r_iload_n (pc := 8) X dX5_addSheep_8 rfl ?_
  apply r_iast (pc := 9) X dX5_addSheep_9
  · repeat (first | exact mu_self | assumption | refine (mu_ne (by omega)).trans ?_)
  · omega
  · decide
  refine r_aload_n (pc := 10) X dX5_addSheep_10 rfl ?_
  apply r_get (pc := 11) X f_X5_18 dX5_addSheep_11
  · repeat (first | exact mu_self | assumption | refine (mu_ne (by omega)).trans ?_)
  · rfl
  refine r_aload_n (pc := 14) X dX5_addSheep_14 rfl ?_
  apply r_get (pc := 15) X f_X5_31 dX5_addSheep_15
  · repeat (first | exact mu_self | assumption | refine (mu_ne (by omega)).trans ?_)
  · rfl
  refine r_iload_n (pc := 18) X dX5_addSheep_18 rfl ?_
  apply r_iast (pc := 19) X dX5_addSheep_19
  · repeat (first | exact mu_self | assumption | refine (mu_ne (by omega)).trans ?_)
  · omega
  · decide
  refine r_aload_n (pc := 20) X dX5_addSheep_20 rfl ?_
  refine r_dup (pc := 21) X dX5_addSheep_21 rfl ?_
  apply r_get (pc := 22) X f_X5_31 dX5_addSheep_22
  · repeat (first | exact mu_self | assumption | refine (mu_ne (by omega)).trans ?_)
  · rfl
  refine r_iconst (pc := 25) (v := nI 1) X dX5_addSheep_25 (by decide) ?_
  first | refine r_iaddN (pc := 26) X dX5_addSheep_26 ?_ | refine r_iadd (pc := 26) X dX5_addSheep_26 ?_
  first | refine r_putS (pc := 27) X f_X5_31 dX5_addSheep_27 (by first | rfl | assumption | decide | simp [narrow]) (by first | rfl | assumption) (Nat.le_of_ble_eq_true rfl) ?_ | refine r_put (pc := 27) X f_X5_31 dX5_addSheep_27 (by repeat (first | exact mu_self | assumption | refine (mu_ne (by omega)).trans ?_)) (by first | rfl | assumption | decide | simp [narrow]) (by first | rfl | assumption) (Nat.le_of_ble_eq_true rfl) ?_
  refine vV.sub' (fun H hP => ToldAt.of (a := a) (T' := addShT T kd num) hP ?_ (by repeat (first | exact mu_self | assumption | refine (mu_ne (by omega)).trans ?_)) (by repeat (first | exact mu_self | assumption | refine (mu_ne (by omega)).trans ?_)) (by repeat (first | exact mu_self | assumption | refine (mu_ne (by omega)).trans ?_)) (by repeat (first | exact mu_self | assumption | refine (mu_ne (by omega)).trans ?_)) ?_ ?_ ?_ ?_) (fun μ' h => ?_)
  · rw [mu_self]
    have e0 : addShT T kd num 0 = T 0 := by unfold addShT; rw [upN_ne (by omega), upN_ne (by omega), upN_ne (by omega)]
    have e7 : addShT T kd num 7 = T 7 + 1 := by unfold addShT; rw [upN_self]
    have e20 : addShT T kd num 20 = T 20 := by unfold addShT; rw [upN_ne (by omega), upN_ne (by omega), upN_ne (by omega)]
    have e25 : ∀ k, k < 4 → addShT T kd num (25 + k) = T (25 + k) := fun k hk => by unfold addShT; rw [upN_ne (by omega), upN_ne (by omega), upN_ne (by omega)]
    unfold toldO
    rw [e0, e7, e20, e25 0 (by omega), e25 1 (by omega), e25 2 (by omega), e25 3 (by omega)]
    rfl
  · intro i hi; unfold addShT; rw [upN_ne (by omega), upN_ne (by omega), upN_ne (by omega)]
  · intro i hi; unfold addShT upd upN; by_cases h : i = T 7
    · subst h; show _ = nI (if 8 + T 7 = 7 then _ else if 8 + T 7 = 14 + T 7 then _ else if 8 + T 7 = 8 + T 7 then kd else _); rw [if_pos rfl, if_neg (by omega), if_neg (by omega), if_pos rfl]
    · simp [h]; split <;> first | omega | (split <;> first | omega | rfl)
  · intro i hi; unfold addShT upd upN; by_cases h : i = T 7
    · subst h; show _ = nI (if 14 + T 7 = 7 then _ else if 14 + T 7 = 14 + T 7 then num else _); rw [if_pos rfl, if_neg (by omega), if_pos rfl]
    · simp [h]; split <;> first | omega | (split <;> first | omega | rfl)
  · intro i hi; unfold addShT; rw [upN_ne (by omega), upN_ne (by omega), upN_ne (by omega)]
  exact r_vret (pc := 30) X dX5_addSheep_30 (⟨h.1, fun q hq => (h.2 q hq).trans (by repeat (first | rfl | refine (mu_ne (by omega)).trans ?_))⟩)
end S12
