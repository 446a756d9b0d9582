def popc (x : Nat) : Nat := x % 2 + x / 2 % 2 + x / 4 % 2 + x / 8 % 2 + x / 16 % 2 + x / 32 % 2
def brs (kd st : Nat) : Nat := if kd = 1 then st + st / 2 else if kd = 2 then 2 * st else if kd = 3 then st - 3 else st
def fms (d b : Nat) : Nat := 5 - (b + 1 - (if d < 10 then 0 else (d - 10) / 5 + 1))
def ovw (w : Nat) : Nat := [0, 0, 1, 2, 2, 1].getD w 0
def inCh : Nat → Nat → Nat → Bool
  | 0, _, _ => false
  | f + 1, w, a => if w = 0 then false else if w = a + 1 then true else inCh f (ovw w) a
theorem tb_iff {b k : Nat} : b >>> k &&& 1 = 1 ↔ b.testBit k = true := by
  rw [Nat.testBit, Nat.and_comm]
  have h : 1 &&& b >>> k = b >>> k % 2 := by rw [Nat.and_comm]; exact Nat.and_one_is_mod _
  rw [h]
  have : b >>> k % 2 < 2 := Nat.mod_lt _ (by decide)
  rcases (show b >>> k % 2 = 0 ∨ b >>> k % 2 = 1 by omega) with h1 | h1 <;> simp [h1]
section S10
variable {Γ : KK} {l : Launch} {sz : Nat} {μ : MM}
theorem t6_isOutside (x lo hi : Int32) : CT Γ l 0 sz 0 0 mX6_isOutside [.int x, .int lo, .int hi] μ (ri (fun r μ' => r = zb (decide (x.toInt < lo.toInt ∨ hi.toInt < x.toInt)) ∧ μ' = μ)) := by
  refine CT.go RX6 rfl "isOutside" rfl [some (.int x), some (.int lo), some (.int hi)] rfl (by decide) (Nat.le_of_ble_eq_true rfl) ?_
  intro p e R s m args below meth c X hsz
  refine r_iload_n (pc := 0) X dX6_isOutside_0 rfl ?_
  refine r_iload_n (pc := 1) X dX6_isOutside_1 rfl ?_
  refine r_icmp_lt (pc := 2) X 10 dX6_isOutside_2 (by decide) (fun h => ?_) (fun h => ?_)
  · refine r_iconst (pc := 10) (v := nI 1) X dX6_isOutside_10 (by decide) ?_
    refine r_goto (pc := 11) X 15 dX6_isOutside_11 (by decide) ?_
    exact r_zret (pc := 15) X dX6_isOutside_15 (by first | rfl | decide | exact zb_nar _) (⟨by rw [decide_eq_true (Or.inl (Int32.lt_iff_toInt_lt.mp h))]; rfl, rfl⟩)
  · refine r_iload_n (pc := 5) X dX6_isOutside_5 rfl ?_
    refine r_iload_n (pc := 6) X dX6_isOutside_6 rfl ?_
    refine r_icmp_le (pc := 7) X 14 dX6_isOutside_7 (by decide) (fun h2 => ?_) (fun h2 => ?_)
    · refine r_iconst (pc := 14) (v := nI 0) X dX6_isOutside_14 (by decide) ?_
      have h3 : ¬ (x.toInt < lo.toInt ∨ hi.toInt < x.toInt) := by
        rw [Int32.lt_iff_toInt_lt] at h
        rw [Int32.le_iff_toInt_le] at h2
        omega
      exact r_zret (pc := 15) X dX6_isOutside_15 (by first | rfl | decide | exact zb_nar _) (⟨by rw [decide_eq_false h3]; rfl, rfl⟩)
    · refine r_iconst (pc := 10) (v := nI 1) X dX6_isOutside_10 (by decide) ?_
      refine r_goto (pc := 11) X 15 dX6_isOutside_11 (by decide) ?_
      have h3 : (x.toInt < lo.toInt ∨ hi.toInt < x.toInt) := by
        rw [Int32.le_iff_toInt_le] at h2
        omega
      exact r_zret (pc := 15) X dX6_isOutside_15 (by first | rfl | decide | exact zb_nar _) (⟨by rw [decide_eq_true h3]; rfl, rfl⟩)
theorem t6_hasBit {b k : Nat} (hb : b < 2 ^ 31) (hk : k < 32) : CT Γ l 0 sz 0 0 mX6_hasBit [.int (nI b), .int (nI k)] μ (ri (fun r μ' => r = zb (b.testBit k) ∧ μ' = μ)) := by
  refine CT.go RX6 rfl "hasBit" rfl [some (.int (nI b)), some (.int (nI k))] rfl (by decide) (Nat.le_of_ble_eq_true rfl) ?_
  intro p e R s m args below meth c X hsz
  have hle : b >>> k &&& 1 ≤ 1 := Nat.and_le_right
  refine r_iload_n (pc := 0) X dX6_hasBit_0 rfl ?_
  refine r_iload_n (pc := 1) X dX6_hasBit_1 rfl ?_
  first | refine r_ishrN (pc := 2) X dX6_hasBit_2 (by omega) (by omega) ?_ | refine r_ishr (pc := 2) X dX6_hasBit_2 ?_
  refine r_iconst (pc := 3) (v := nI 1) X dX6_hasBit_3 (by decide) ?_
  first | refine r_iandN (pc := 4) X dX6_hasBit_4 ?_ | refine r_iand (pc := 4) X dX6_hasBit_4 ?_
  refine r_iconst (pc := 5) (v := nI 1) X dX6_hasBit_5 (by decide) ?_
  first | refine r_icmp_neN (pc := 6) X 13 dX6_hasBit_6 (by decide) (by omega) (by omega) (fun h => ?_) (fun h => ?_) | refine r_icmp_ne (pc := 6) X 13 dX6_hasBit_6 (by decide) (fun h => ?_) (fun h => ?_)
  · refine r_iconst (pc := 13) (v := nI 0) X dX6_hasBit_13 (by decide) ?_
    have h3 : b.testBit k = false := by
      cases hq : b.testBit k with
      | false => rfl
      | true => exact absurd (tb_iff.mpr hq) h
    exact r_zret (pc := 14) X dX6_hasBit_14 (by first | rfl | decide | exact zb_nar _) (⟨by rw [h3]; rfl, rfl⟩)
  · refine r_iconst (pc := 9) (v := nI 1) X dX6_hasBit_9 (by decide) ?_
    refine r_goto (pc := 10) X 14 dX6_hasBit_10 (by decide) ?_
    exact r_zret (pc := 14) X dX6_hasBit_14 (by first | rfl | decide | exact zb_nar _) (⟨by rw [tb_iff.mp h]; rfl, rfl⟩)
theorem t7_has {b k : Nat} (hb : b < 2 ^ 31) (hk : k < 32) : CT Γ l 0 sz 0 0 mX7_has [.int (nI b), .int (nI k)] μ (ri (fun r μ' => r = zb (b.testBit k) ∧ μ' = μ)) := by
  refine CT.go RX7 rfl "has" rfl [some (.int (nI b)), some (.int (nI k))] rfl (by decide) (Nat.le_of_ble_eq_true rfl) ?_
  intro p e R s m args below meth c X hsz
  have hle : b >>> k &&& 1 ≤ 1 := Nat.and_le_right
  refine r_iload_n (pc := 0) X dX7_has_0 rfl ?_
  refine r_iload_n (pc := 1) X dX7_has_1 rfl ?_
  first | refine r_ishrN (pc := 2) X dX7_has_2 (by omega) (by omega) ?_ | refine r_ishr (pc := 2) X dX7_has_2 ?_
  refine r_iconst (pc := 3) (v := nI 1) X dX7_has_3 (by decide) ?_
  first | refine r_iandN (pc := 4) X dX7_has_4 ?_ | refine r_iand (pc := 4) X dX7_has_4 ?_
  refine r_iconst (pc := 5) (v := nI 1) X dX7_has_5 (by decide) ?_
  first | refine r_icmp_neN (pc := 6) X 13 dX7_has_6 (by decide) (by omega) (by omega) (fun h => ?_) (fun h => ?_) | refine r_icmp_ne (pc := 6) X 13 dX7_has_6 (by decide) (fun h => ?_) (fun h => ?_)
  · refine r_iconst (pc := 13) (v := nI 0) X dX7_has_13 (by decide) ?_
    have h3 : b.testBit k = false := by
      cases hq : b.testBit k with
      | false => rfl
      | true => exact absurd (tb_iff.mpr hq) h
    exact r_zret (pc := 14) X dX7_has_14 (by first | rfl | decide | exact zb_nar _) (⟨by rw [h3]; rfl, rfl⟩)
  · refine r_iconst (pc := 9) (v := nI 1) X dX7_has_9 (by decide) ?_
    refine r_goto (pc := 10) X 14 dX7_has_10 (by decide) ?_
    exact r_zret (pc := 14) X dX7_has_14 (by first | rfl | decide | exact zb_nar _) (⟨by rw [tb_iff.mp h]; rfl, rfl⟩)
theorem t6_allBits {n : Nat} (hn : n < 31) : CT Γ l 0 sz 0 0 mX6_allBits [.int (nI n)] μ (ri (fun r μ' => r = nI (2 ^ n - 1) ∧ μ' = μ)) := by
  refine CT.go RX6 rfl "allBits" rfl [some (.int (nI n))] rfl (by decide) (Nat.le_of_ble_eq_true rfl) ?_
  intro p e R s m args below meth c X hsz
  have h1 : 1 <<< n = 2 ^ n := by rw [Nat.shiftLeft_eq, Nat.one_mul]
  have h2 : 1 ≤ 1 <<< n := by rw [h1]; exact Nat.one_le_two_pow
  refine r_iconst (pc := 0) (v := nI 1) X dX6_allBits_0 (by decide) ?_
  refine r_iload_n (pc := 1) X dX6_allBits_1 rfl ?_
  first | refine r_ishlN (pc := 2) X dX6_allBits_2 (by omega) ?_ | refine r_ishl (pc := 2) X dX6_allBits_2 ?_
  refine r_iconst (pc := 3) (v := nI 1) X dX6_allBits_3 (by decide) ?_
  first | refine r_isubN (pc := 4) X dX6_allBits_4 (by omega) ?_ | refine r_isub (pc := 4) X dX6_allBits_4 ?_
  exact r_iret (pc := 5) X dX6_allBits_5 (⟨by rw [h1], rfl⟩)
theorem brs_bell (st : Nat) (h : st < 2 ^ 20) : (if nI 0 < nI st - nI 3 then nI st - nI 3 else nI 0) = nI (st - 3) := by
  by_cases h3 : 3 ≤ st
  · rw [nI_sub h3]
    by_cases h4 : nI 0 < nI (st - 3)
    · rw [if_pos h4]
    · rw [if_neg h4]
      have : ¬ 0 < st - 3 := fun q => h4 ((nI_lt_iff (by omega) (by omega)).mpr q)
      rw [show st - 3 = 0 by omega]
  · have : ∀ s, s < 3 → (if nI 0 < nI s - nI 3 then nI s - nI 3 else nI 0) = nI (s - 3) := by decide +kernel
    exact this st (by omega)
theorem t6_bearing {kd st : Nat} (hk : kd ≤ 3) (hs : st < 2 ^ 20) : CT Γ l 1 sz 0 0 mX6_bearing [.int (nI kd), .int (nI st)] μ (ri (fun r μ' => r = nI (brs kd st) ∧ μ' = μ)) := by
  refine CT.go RX6 rfl "bearing" rfl [some (.int (nI kd)), some (.int (nI st))] rfl (by decide) (Nat.le_of_ble_eq_true rfl) ?_
  intro p e R s m args below meth c X hsz
  refine r_iload_n (pc := 0) X dX6_bearing_0 rfl ?_
  rcases (show kd = 0 ∨ kd = 1 ∨ kd = 2 ∨ kd = 3 by omega) with rfl | rfl | rfl | rfl
  · refine r_tableOut (pc := 1) X 46 dX6_bearing_1 (by decide) (by decide) ?_
    refine r_iload_n (pc := 46) X dX6_bearing_46 rfl ?_
    exact r_iret (pc := 47) X dX6_bearing_47 (⟨rfl, rfl⟩)
  · refine r_tableIn (pc := 1) X 28 dX6_bearing_1 (by decide) (by decide) rfl (by decide) ?_
    refine r_iload_n (pc := 28) X dX6_bearing_28 rfl ?_
    refine r_iload_n (pc := 29) X dX6_bearing_29 rfl ?_
    refine r_iconst (pc := 30) (v := nI 2) X dX6_bearing_30 (by decide) ?_
    first | refine r_idivN (pc := 31) X dX6_bearing_31 (by omega) (by omega) (by omega) ?_ | refine r_idiv (pc := 31) X dX6_bearing_31 (by decide) ?_
    first | refine r_iaddN (pc := 32) X dX6_bearing_32 ?_ | refine r_iadd (pc := 32) X dX6_bearing_32 ?_
    exact r_iret (pc := 33) X dX6_bearing_33 (⟨rfl, rfl⟩)
  · refine r_tableIn (pc := 1) X 34 dX6_bearing_1 (by decide) (by decide) rfl (by decide) ?_
    refine r_iconst (pc := 34) (v := nI 2) X dX6_bearing_34 (by decide) ?_
    refine r_iload_n (pc := 35) X dX6_bearing_35 rfl ?_
    first | refine r_imulN (pc := 36) X dX6_bearing_36 ?_ | refine r_imul (pc := 36) X dX6_bearing_36 ?_
    exact r_iret (pc := 37) X dX6_bearing_37 (⟨rfl, rfl⟩)
  · refine r_tableIn (pc := 1) X 38 dX6_bearing_1 (by decide) (by decide) rfl (by decide) ?_
    refine r_iconst (pc := 38) (v := nI 0) X dX6_bearing_38 (by decide) ?_
    refine r_iload_n (pc := 39) X dX6_bearing_39 rfl ?_
    refine r_iconst (pc := 40) (v := nI 3) X dX6_bearing_40 (by decide) ?_
    refine r_isub (pc := 41) X dX6_bearing_41 ?_
    refine r_max (pc := 42) X l_X6_265 dX6_bearing_42 (by decide) (Nat.le_of_ble_eq_true rfl) (by decide) (by decide) ?_
    exact r_iret (pc := 45) X dX6_bearing_45 (⟨brs_bell st hs, rfl⟩)
theorem cmp_lt (x y : Int64) : lg_cmp x y < nI 0 ↔ x.toInt < y.toInt := by
  rw [nI_0]
  unfold lg_cmp
  by_cases h1 : x > y
  · rw [if_pos h1]
    have : y.toInt < x.toInt := Int64.lt_iff_toInt_lt.mp h1
    exact ⟨fun q => absurd q (by decide), fun q => by omega⟩
  · rw [if_neg h1]
    have h1' : ¬ y.toInt < x.toInt := fun q => h1 (Int64.lt_iff_toInt_lt.mpr q)
    by_cases h2 : x = y
    · rw [if_pos h2]
      subst h2
      exact ⟨fun q => absurd q (by decide), fun q => by omega⟩
    · rw [if_neg h2]
      have h2' : ¬ x.toInt = y.toInt := fun q => h2 (Int64.toInt_inj.mp q)
      exact ⟨fun _ => by omega, fun _ => by decide⟩
theorem cmp_gt (x y : Int64) : nI 0 < lg_cmp x y ↔ y.toInt < x.toInt := by
  rw [nI_0]
  unfold lg_cmp
  by_cases h1 : x > y
  · rw [if_pos h1]
    have : y.toInt < x.toInt := Int64.lt_iff_toInt_lt.mp h1
    exact ⟨fun _ => this, fun _ => by decide⟩
  · rw [if_neg h1]
    have h1' : ¬ y.toInt < x.toInt := fun q => h1 (Int64.lt_iff_toInt_lt.mpr q)
    by_cases h2 : x = y
    · rw [if_pos h2]
      exact ⟨fun q => absurd q (by decide), fun q => by omega⟩
    · rw [if_neg h2]
      exact ⟨fun q => absurd q (by decide), fun q => by omega⟩
theorem t7_in (v lo hi : Int64) : CT Γ l 0 sz 0 0 mX7_in [.long v, .long lo, .long hi] μ (ri (fun r μ' => r = zb (decide (lo.toInt ≤ v.toInt ∧ v.toInt ≤ hi.toInt)) ∧ μ' = μ)) := by
  refine CT.go RX7 rfl "in" rfl [some (.long v), none, some (.long lo), none, some (.long hi), none] rfl (by decide) (Nat.le_of_ble_eq_true rfl) ?_
  intro p e R s m args below meth c X hsz
  refine r_lload_n (pc := 0) X dX7_in_0 rfl ?_
  refine r_lload_n (pc := 1) X dX7_in_1 rfl ?_
  refine r_lcmp (pc := 2) X dX7_in_2 ?_
  refine r_if_lt (pc := 3) X 17 dX7_in_3 (by decide) (fun h => ?_) (fun h => ?_)
  · refine r_iconst (pc := 17) (v := nI 0) X dX7_in_17 (by decide) ?_
    rw [cmp_lt] at h
    exact r_zret (pc := 18) X dX7_in_18 (by first | rfl | decide | exact zb_nar _) (⟨by rw [decide_eq_false (by omega)]; rfl, rfl⟩)
  · rw [cmp_lt] at h
    refine r_lload_n (pc := 6) X dX7_in_6 rfl ?_
    refine r_lload (pc := 7) X dX7_in_7 rfl ?_
    refine r_lcmp (pc := 9) X dX7_in_9 ?_
    refine r_if_gt (pc := 10) X 17 dX7_in_10 (by decide) (fun h2 => ?_) (fun h2 => ?_)
    · rw [cmp_gt] at h2
      refine r_iconst (pc := 17) (v := nI 0) X dX7_in_17 (by decide) ?_
      exact r_zret (pc := 18) X dX7_in_18 (by first | rfl | decide | exact zb_nar _) (⟨by rw [decide_eq_false (by omega)]; rfl, rfl⟩)
    · rw [cmp_gt] at h2
      refine r_iconst (pc := 13) (v := nI 1) X dX7_in_13 (by decide) ?_
      refine r_goto (pc := 14) X 18 dX7_in_14 (by decide) ?_
      exact r_zret (pc := 18) X dX7_in_18 (by first | rfl | decide | exact zb_nar _) (⟨by rw [decide_eq_true (by omega)]; rfl, rfl⟩)
theorem ones_step : ∀ x, x < 64 → x ≠ 0 → (x &&& (x - 1)) < x ∧ popc (x &&& (x - 1)) + 1 = popc x := by decide +kernel
theorem popc_le : ∀ x, x < 64 → popc x ≤ 6 := by decide +kernel
theorem t7_ones {x : Nat} (hx : x < 64) : CT Γ l 0 sz 0 0 mX7_ones [.int (nI x)] μ (ri (fun r μ' => r = nI (popc x) ∧ μ' = μ)) := by
  refine CT.go RX7 rfl "ones" rfl [some (.int (nI x)), none, none] rfl (by decide) (Nat.le_of_ble_eq_true rfl) ?_
  intro p e R s m args below meth c X hsz
  refine r_iconst (pc := 0) (v := nI 0) X dX7_ones_0 (by decide) ?_
  refine r_istore_n (pc := 1) X dX7_ones_1 (by decide) rfl ?_
  refine r_iload_n (pc := 2) X dX7_ones_2 rfl ?_
  refine r_istore_n (pc := 3) X dX7_ones_3 (by decide) rfl ?_
  have key : ∀ (N y n : Nat), y < N → y < 64 → n + popc y = popc x → vV Γ p l e R s m args below meth c (vQ Γ s args below 0 0 (ri (fun r μ' => r = nI (popc x) ∧ μ' = μ))) 3 0 0 4 [some (.int (nI x)), some (.int (nI n)), some (.int (nI y))] [] μ := by
    intro N
    induction N with
    | zero => intro y n h; exact absurd h (by omega)
    | succ N ih =>
      intro y n h1 h2 h3
      have hp := popc_le x hx
      refine r_iload_n (pc := 4) X dX7_ones_4 rfl ?_
      first | refine r_if_eqZ (pc := 5) X 20 dX7_ones_5 (by decide) (fun h => ?_) (fun h => ?_) | refine r_if_eqN (pc := 5) X 20 dX7_ones_5 (by decide) (by omega) (fun h => ?_) (fun h => ?_) | refine r_if_eq (pc := 5) X 20 dX7_ones_5 (by decide) (fun h => ?_) (fun h => ?_)
      · refine r_iload_n (pc := 20) X dX7_ones_20 rfl ?_
        subst h
        exact r_iret (pc := 21) X dX7_ones_21 (⟨by rw [← h3]; rfl, rfl⟩)
      · have h4 := ones_step y h2 h
        refine r_iincN (pc := 8) (b := 1) X dX7_ones_8 rfl (by decide) rfl ?_
        refine r_iload_n (pc := 11) X dX7_ones_11 rfl ?_
        refine r_iload_n (pc := 12) X dX7_ones_12 rfl ?_
        refine r_iconst (pc := 13) (v := nI 1) X dX7_ones_13 (by decide) ?_
        first | refine r_isubN (pc := 14) X dX7_ones_14 (by omega) ?_ | refine r_isub (pc := 14) X dX7_ones_14 ?_
        first | refine r_iandN (pc := 15) X dX7_ones_15 ?_ | refine r_iand (pc := 15) X dX7_ones_15 ?_
        refine r_istore_n (pc := 16) X dX7_ones_16 (by decide) rfl ?_
        refine r_goto (pc := 17) X 4 dX7_ones_17 (by decide) ?_
        exact ih _ _ (by omega) (by omega) (by omega)
  exact key (x + 1) x 0 (by omega) hx (by omega)
theorem bitc : ∀ x, x < 64 → popc x = popc x := fun _ _ => rfl
theorem tJ_bitCount {x : Nat} (hx : x < 64) : CT Γ l 0 sz 0 0 mJ6_bitCount_0f7a4 [.int (nI x)] μ (ri (fun r μ' => r = nI (popc x) ∧ μ' = μ)) := by
  refine CT.go RJ6 rfl "bitCount" rfl [some (.int (nI x))] rfl (by decide) (Nat.le_of_ble_eq_true rfl) ?_
  intro p e R s m args below meth c X hsz
  refine r_iload_n (pc := 0) X dJ6_bitCount_0f7a4_0 rfl ?_
  refine r_iload_n (pc := 1) X dJ6_bitCount_0f7a4_1 rfl ?_
  refine r_iconst (pc := 2) (v := nI 1) X dJ6_bitCount_0f7a4_2 (by decide) ?_
  refine r_iushr (pc := 3) X dJ6_bitCount_0f7a4_3 rfl ?_
  refine r_ldcw (pc := 4) X k_J6_265 dJ6_bitCount_0f7a4_4 ?_
  refine r_iand (pc := 7) X dJ6_bitCount_0f7a4_7 ?_
  refine r_isub (pc := 8) X dJ6_bitCount_0f7a4_8 ?_
  refine r_istore_n (pc := 9) X dJ6_bitCount_0f7a4_9 (by decide) rfl ?_
  refine r_iload_n (pc := 10) X dJ6_bitCount_0f7a4_10 rfl ?_
  refine r_ldcw (pc := 11) X k_J6_266 dJ6_bitCount_0f7a4_11 ?_
  refine r_iand (pc := 14) X dJ6_bitCount_0f7a4_14 ?_
  refine r_iload_n (pc := 15) X dJ6_bitCount_0f7a4_15 rfl ?_
  refine r_iconst (pc := 16) (v := nI 2) X dJ6_bitCount_0f7a4_16 (by decide) ?_
  refine r_iushr (pc := 17) X dJ6_bitCount_0f7a4_17 rfl ?_
  refine r_ldcw (pc := 18) X k_J6_266 dJ6_bitCount_0f7a4_18 ?_
  refine r_iand (pc := 21) X dJ6_bitCount_0f7a4_21 ?_
  refine r_iadd (pc := 22) X dJ6_bitCount_0f7a4_22 ?_
  refine r_istore_n (pc := 23) X dJ6_bitCount_0f7a4_23 (by decide) rfl ?_
  refine r_iload_n (pc := 24) X dJ6_bitCount_0f7a4_24 rfl ?_
  refine r_iload_n (pc := 25) X dJ6_bitCount_0f7a4_25 rfl ?_
  refine r_iconst (pc := 26) (v := nI 4) X dJ6_bitCount_0f7a4_26 (by decide) ?_
  refine r_iushr (pc := 27) X dJ6_bitCount_0f7a4_27 rfl ?_
  refine r_iadd (pc := 28) X dJ6_bitCount_0f7a4_28 ?_
  refine r_ldcw (pc := 29) X k_J6_267 dJ6_bitCount_0f7a4_29 ?_
  refine r_iand (pc := 32) X dJ6_bitCount_0f7a4_32 ?_
  refine r_istore_n (pc := 33) X dJ6_bitCount_0f7a4_33 (by decide) rfl ?_
  refine r_iload_n (pc := 34) X dJ6_bitCount_0f7a4_34 rfl ?_
  refine r_iload_n (pc := 35) X dJ6_bitCount_0f7a4_35 rfl ?_
  refine r_bipush (pc := 36) (v := nI 8) X dJ6_bitCount_0f7a4_36 (by decide) ?_
  refine r_iushr (pc := 38) X dJ6_bitCount_0f7a4_38 rfl ?_
  refine r_iadd (pc := 39) X dJ6_bitCount_0f7a4_39 ?_
  refine r_istore_n (pc := 40) X dJ6_bitCount_0f7a4_40 (by decide) rfl ?_
  refine r_iload_n (pc := 41) X dJ6_bitCount_0f7a4_41 rfl ?_
  refine r_iload_n (pc := 42) X dJ6_bitCount_0f7a4_42 rfl ?_
  refine r_bipush (pc := 43) (v := nI 16) X dJ6_bitCount_0f7a4_43 (by decide) ?_
  refine r_iushr (pc := 45) X dJ6_bitCount_0f7a4_45 rfl ?_
  refine r_iadd (pc := 46) X dJ6_bitCount_0f7a4_46 ?_
  refine r_istore_n (pc := 47) X dJ6_bitCount_0f7a4_47 (by decide) rfl ?_
  refine r_iload_n (pc := 48) X dJ6_bitCount_0f7a4_48 rfl ?_
  refine r_bipush (pc := 49) (v := nI 63) X dJ6_bitCount_0f7a4_49 (by decide) ?_
  refine r_iand (pc := 51) X dJ6_bitCount_0f7a4_51 ?_
  refine r_iret (pc := 52) X dJ6_bitCount_0f7a4_52 ⟨?_, rfl⟩
  revert hx
  revert x
  decide +kernel
theorem t6_falls {d b : Nat} (hd : d < 46) (hb : b < 10) : CT Γ l 1 sz 0 0 mX6_fallsThatMiss [.int (nI d), .int (nI b)] μ (ri (fun r μ' => r = nI (fms d b) ∧ μ' = μ)) := by
  refine CT.go RX6 rfl "fallsThatMiss" rfl [some (.int (nI d)), some (.int (nI b)), none, none] rfl (by decide) (Nat.le_of_ble_eq_true rfl) ?_
  intro p e R s m args below meth c X hsz
  refine r_iload_n (pc := 0) X dX6_fallsThatMiss_0 rfl ?_
  refine r_bipush (pc := 1) (v := nI 10) X dX6_fallsThatMiss_1 (by decide) ?_
  first | refine r_icmp_geN (pc := 3) X 10 dX6_fallsThatMiss_3 (by decide) (by omega) (by omega) (fun h => ?_) (fun h => ?_) | refine r_icmp_ge (pc := 3) X 10 dX6_fallsThatMiss_3 (by decide) (fun h => ?_) (fun h => ?_)
  · refine r_iload_n (pc := 10) X dX6_fallsThatMiss_10 rfl ?_
    refine r_bipush (pc := 11) (v := nI 10) X dX6_fallsThatMiss_11 (by decide) ?_
    refine r_isub (pc := 13) X dX6_fallsThatMiss_13 ?_
    refine r_iconst (pc := 14) (v := nI 5) X dX6_fallsThatMiss_14 (by decide) ?_
    refine r_idiv (pc := 15) X dX6_fallsThatMiss_15 (by decide) ?_
    refine r_iconst (pc := 16) (v := nI 1) X dX6_fallsThatMiss_16 (by decide) ?_
    refine r_iadd (pc := 17) X dX6_fallsThatMiss_17 ?_
    refine r_istore_n (pc := 18) X dX6_fallsThatMiss_18 (by decide) rfl ?_
    refine r_iconst (pc := 19) (v := nI 0) X dX6_fallsThatMiss_19 (by decide) ?_
    refine r_iload_n (pc := 20) X dX6_fallsThatMiss_20 rfl ?_
    refine r_iload_n (pc := 21) X dX6_fallsThatMiss_21 rfl ?_
    refine r_isub (pc := 22) X dX6_fallsThatMiss_22 ?_
    refine r_iconst (pc := 23) (v := nI 1) X dX6_fallsThatMiss_23 (by decide) ?_
    refine r_iadd (pc := 24) X dX6_fallsThatMiss_24 ?_
    refine r_max (pc := 25) X l_X6_265 dX6_fallsThatMiss_25 (by decide) (Nat.le_of_ble_eq_true rfl) (by decide) (by decide) ?_
    refine r_istore_n (pc := 28) X dX6_fallsThatMiss_28 (by decide) rfl ?_
    refine r_iconst (pc := 29) (v := nI 0) X dX6_fallsThatMiss_29 (by decide) ?_
    refine r_iconst (pc := 30) (v := nI 5) X dX6_fallsThatMiss_30 (by decide) ?_
    refine r_iload_n (pc := 31) X dX6_fallsThatMiss_31 rfl ?_
    refine r_isub (pc := 32) X dX6_fallsThatMiss_32 ?_
    refine r_max (pc := 33) X l_X6_265 dX6_fallsThatMiss_33 (by decide) (Nat.le_of_ble_eq_true rfl) (by decide) (by decide) ?_
    refine r_iret (pc := 36) X dX6_fallsThatMiss_36 ⟨?_, rfl⟩
    revert h
    revert hb
    revert b
    revert hd
    revert d
    decide +kernel
  · refine r_iconst (pc := 6) (v := nI 0) X dX6_fallsThatMiss_6 (by decide) ?_
    refine r_goto (pc := 7) X 18 dX6_fallsThatMiss_7 (by decide) ?_
    refine r_istore_n (pc := 18) X dX6_fallsThatMiss_18 (by decide) rfl ?_
    refine r_iconst (pc := 19) (v := nI 0) X dX6_fallsThatMiss_19 (by decide) ?_
    refine r_iload_n (pc := 20) X dX6_fallsThatMiss_20 rfl ?_
    refine r_iload_n (pc := 21) X dX6_fallsThatMiss_21 rfl ?_
    refine r_isub (pc := 22) X dX6_fallsThatMiss_22 ?_
    refine r_iconst (pc := 23) (v := nI 1) X dX6_fallsThatMiss_23 (by decide) ?_
    refine r_iadd (pc := 24) X dX6_fallsThatMiss_24 ?_
    refine r_max (pc := 25) X l_X6_265 dX6_fallsThatMiss_25 (by decide) (Nat.le_of_ble_eq_true rfl) (by decide) (by decide) ?_
    refine r_istore_n (pc := 28) X dX6_fallsThatMiss_28 (by decide) rfl ?_
    refine r_iconst (pc := 29) (v := nI 0) X dX6_fallsThatMiss_29 (by decide) ?_
    refine r_iconst (pc := 30) (v := nI 5) X dX6_fallsThatMiss_30 (by decide) ?_
    refine r_iload_n (pc := 31) X dX6_fallsThatMiss_31 rfl ?_
    refine r_isub (pc := 32) X dX6_fallsThatMiss_32 ?_
    refine r_max (pc := 33) X l_X6_265 dX6_fallsThatMiss_33 (by decide) (Nat.le_of_ble_eq_true rfl) (by decide) (by decide) ?_
    refine r_iret (pc := 36) X dX6_fallsThatMiss_36 ⟨?_, rfl⟩
    revert h
    revert hb
    revert b
    revert hd
    revert d
    decide +kernel
theorem ovw_lt : ∀ w, w < 6 → w ≠ 0 → ovw w < w ∧ (stV 0).getD (w - 1) 0 = uI (ovw w) := by decide +kernel
theorem t6_isUnderKind {t a : Nat} (ht : t ≤ 3) (ha : a < 5) : CT Γ l 0 sz 0 0 mX6_isUnderKind [.int (nI t), .int (nI a)] μ (ri (fun r μ' => r = zb (inCh 5 (t + 2) a) ∧ μ' = μ)) := by
  refine CT.go RX6 rfl "isUnderKind" rfl [some (.int (nI t)), some (.int (nI a)), none, none] rfl (by decide) (Nat.le_of_ble_eq_true rfl) ?_
  intro p e R s m args below meth c X hsz
  refine r_iload_n (pc := 0) X dX6_isUnderKind_0 rfl ?_
  refine r_iconst (pc := 1) (v := nI 1) X dX6_isUnderKind_1 (by decide) ?_
  first | refine r_iaddN (pc := 2) X dX6_isUnderKind_2 ?_ | refine r_iadd (pc := 2) X dX6_isUnderKind_2 ?_
  refine r_istore_n (pc := 3) X dX6_isUnderKind_3 (by decide) rfl ?_
  refine r_iconst (pc := 4) (v := nI 0) X dX6_isUnderKind_4 (by decide) ?_
  refine r_istore_n (pc := 5) X dX6_isUnderKind_5 (by decide) rfl ?_
  have key : ∀ (N w n : Nat), w < 6 → n + N = 5 → w ≤ N → vV Γ p l e R s m args below meth c (vQ Γ s args below 0 0 (ri (fun r μ' => r = zb (inCh N w a) ∧ μ' = μ))) 4 0 0 6 [some (.int (nI t)), some (.int (nI a)), some (.int (uI w)), some (.int (nI n))] [] μ := by
    intro N
    induction N with
    | zero =>
      intro w n h1 h2 h3
      refine r_iload_n (pc := 6) X dX6_isUnderKind_6 rfl ?_
      refine r_gets (pc := 7) X (i := 0) (by decide) s_X6_131 dX6_isUnderKind_7 ?_
      refine r_talen (pc := 10) X (i := 0) (by decide) dX6_isUnderKind_10 ?_
      refine r_icmp_geN (pc := 11) X 45 dX6_isUnderKind_11 (by decide) (by omega) (by decide) (fun h => ?_) (fun h => absurd (show 5 ≤ n by omega) h)
      refine r_iconst (pc := 45) (v := nI 0) X dX6_isUnderKind_45 (by decide) ?_
      exact r_zret (pc := 46) X dX6_isUnderKind_46 (by first | rfl | decide | exact zb_nar _) (⟨rfl, rfl⟩)
    | succ N ih =>
      intro w n h1 h2 h3
      refine r_iload_n (pc := 6) X dX6_isUnderKind_6 rfl ?_
      refine r_gets (pc := 7) X (i := 0) (by decide) s_X6_131 dX6_isUnderKind_7 ?_
      refine r_talen (pc := 10) X (i := 0) (by decide) dX6_isUnderKind_10 ?_
      refine r_icmp_geN (pc := 11) X 45 dX6_isUnderKind_11 (by decide) (by omega) (by decide) (fun h => absurd (show 5 ≤ n from h) (by omega)) (fun h => ?_)
      refine r_iload_n (pc := 14) X dX6_isUnderKind_14 rfl ?_
      refine r_if_lt (pc := 15) X 45 dX6_isUnderKind_15 (by decide) (fun h5 => ?_) (fun h5 => ?_)
      · have hw : w = 0 := (uI_lt0 (by omega)).mp h5
        subst hw
        refine r_iconst (pc := 45) (v := nI 0) X dX6_isUnderKind_45 (by decide) ?_
        exact r_zret (pc := 46) X dX6_isUnderKind_46 (by first | rfl | decide | exact zb_nar _) (⟨rfl, rfl⟩)
      · have hw : w ≠ 0 := fun q => h5 ((uI_lt0 (by omega)).mpr q)
        obtain ⟨w, rfl⟩ : ∃ v, w = v + 1 := ⟨w - 1, by omega⟩
        obtain ⟨o1, o2⟩ := ovw_lt (w + 1) h1 hw
        rw [uI_S]
        refine r_iload_n (pc := 18) X dX6_isUnderKind_18 rfl ?_
        refine r_gets (pc := 19) X (i := 0) (by decide) s_X6_131 dX6_isUnderKind_19 ?_
        refine r_talen (pc := 22) X (i := 0) (by decide) dX6_isUnderKind_22 ?_
        refine r_icmp_geN (pc := 23) X 45 dX6_isUnderKind_23 (by decide) (by omega) (by decide) (fun h => absurd (show 5 ≤ w from h) (by omega)) (fun h => ?_)
        refine r_iload_n (pc := 26) X dX6_isUnderKind_26 rfl ?_
        refine r_iload_n (pc := 27) X dX6_isUnderKind_27 rfl ?_
        first | refine r_icmp_neN (pc := 28) X 33 dX6_isUnderKind_28 (by decide) (by omega) (by omega) (fun h6 => ?_) (fun h6 => ?_) | refine r_icmp_ne (pc := 28) X 33 dX6_isUnderKind_28 (by decide) (fun h6 => ?_) (fun h6 => ?_)
        · refine r_gets (pc := 33) X (i := 0) (by decide) s_X6_131 dX6_isUnderKind_33 ?_
          refine r_iload_n (pc := 36) X dX6_isUnderKind_36 rfl ?_
          refine r_tald (pc := 37) X (i := 0) (by decide) dX6_isUnderKind_37 (show w < 5 by omega) ?_
          have o3 : (stV 0).getD w 0 = uI (ovw (w + 1)) := o2
          rw [o3]
          refine r_istore_n (pc := 38) X dX6_isUnderKind_38 (by decide) rfl ?_
          refine r_iincN (pc := 39) (b := 1) X dX6_isUnderKind_39 rfl (by decide) rfl ?_
          refine r_goto (pc := 42) X 6 dX6_isUnderKind_42 (by decide) ?_
          have h7 : inCh (N + 1) (w + 1) a = inCh N (ovw (w + 1)) a := by
            show (if w + 1 = 0 then false else if w + 1 = a + 1 then true else inCh N (ovw (w + 1)) a) = _
            rw [if_neg (by omega), if_neg (by omega)]
          rw [h7]
          exact ih _ _ (by omega) (by omega) (by omega)
        · refine r_iconst (pc := 31) (v := nI 1) X dX6_isUnderKind_31 (by decide) ?_
          have h7 : inCh (N + 1) (w + 1) a = true := by
            show (if w + 1 = 0 then false else if w + 1 = a + 1 then true else inCh N (ovw (w + 1)) a) = _
            rw [if_neg (by omega), if_pos (by omega)]
          rw [h7]
          exact r_zret (pc := 32) X dX6_isUnderKind_32 (by first | rfl | decide | exact zb_nar _) (⟨rfl, rfl⟩)
  have h9 : nI (t + 1) = uI (t + 2) := (uI_S (t + 1)).symm
  rw [h9]
  exact key 5 (t + 2) 0 (by omega) (by omega) (by omega)
end S10
