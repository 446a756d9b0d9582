def popc (x : Nat) : Nat := x % 2 + x / 2 % 2 + x / 4 % 2 + x / 8 % 2 + x / 16 % 2 + x / 32 % 2
def brs (kd st : Nat) : Nat := if kd = 1 then st + st / 2 else if kd = 2 then 2 * st else if kd = 3 then st - 3 else st
def fms (d b : Nat) : Nat := 5 - (b + 1 - (if d < 10 then 0 else (d - 10) / 5 + 1))
def ovw (w : Nat) : Nat := [0, 0, 1, 2, 2, 1].getD w 0
def inCh : Nat → Nat → Nat → Bool
  | 0, _, _ => false
  | f + 1, w, a => if w = 0 then false else if w = a + 1 then true else inCh f (ovw w) a
theorem tb_iff {b k : Nat} : b >>> k &&& 1 = 1 ↔ b.testBit k = true := by
  rw [Nat.testBit, Nat.and_comm]
  have h : 1 &&& b >>> k = b >>> k % 2 := by rw [Nat.and_comm]; exact Nat.and_one_is_mod _
  rw [h]
  have : b >>> k % 2 < 2 := Nat.mod_lt _ (by decide)
  rcases (show b >>> k % 2 = 0 ∨ b >>> k % 2 = 1 by omega) with h1 | h1 <;> simp [h1]
section S10
variable {Γ : KK} {l : Launch} {sz : Nat} {μ : MM}
theorem t6_isOutside (x lo hi : Int32) : CT Γ l 0 sz 0 0 mX6_isOutside [.int x, .int lo, .int hi] μ (ri (fun r μ' => r = zb (decide (x.toInt < lo.toInt ∨ hi.toInt < x.toInt)) ∧ μ' = μ)) := by
  refine CT.go RX6 rfl "isOutside" rfl [some (.int x), some (.int lo), some (.int hi)] rfl (by decide) (Nat.le_of_ble_eq_true rfl) ?_
  intro p e R s m args below meth c X hsz
  refine r_iload_n (pc := 0) X dX6_isOutside_0 rfl ?_
  refine r_iload_n (pc := 1) X dX6_isOutside_1 rfl ?_
  refine r_icmp_lt (pc := 2) X 10 dX6_isOutside_2 (by decide) (fun h => ?_) (fun h => ?_)
  · refine r_iconst (pc := 10) (v := nI 1) X dX6_isOutside_10 (by decide) ?_
    refine r_goto (pc := 11) X 15 dX6_isOutside_11 (by decide) ?_
    exact r_zret (pc := 15) X dX6_isOutside_15 (by first | rfl | decide | exact zb_nar _) (⟨by rw [decide_eq_true (Or.inl (Int32.lt_iff_toInt_lt.mp h))]; rfl, rfl⟩)
  · refine r_iload_n (pc := 5) X dX6_isOutside_5 rfl ?_
    refine r_iload_n (pc := 6) X dX6_isOutside_6 rfl ?_
    refine r_icmp_le (pc := 7) X 14 dX6_isOutside_7 (by decide) (fun h2 => ?_) (fun h2 => ?_)
    · refine r_iconst (pc := 14) (v := nI 0) X dX6_isOutside_14 (by decide) ?_
      have h3 : ¬ (x.toInt < lo.toInt ∨ hi.toInt < x.toInt) := by
        rw [Int32.lt_iff_toInt_lt] at h
        rw [Int32.le_iff_toInt_le] at h2
        omega
      exact r_zret (pc := 15) X dX6_isOutside_15 (by first | rfl | decide | exact zb_nar _) (⟨by rw [decide_eq_false h3]; rfl, rfl⟩)
    · refine r_iconst (pc := 10) (v := nI 1) X dX6_isOutside_10 (by decide) ?_
      refine r_goto (pc := 11) X 15 dX6_isOutside_11 (by decide) ?_
      have h3 : (x.toInt < lo.toInt ∨ hi.toInt < x.toInt) := by
        rw [Int32.le_iff_toInt_le] at h2
        omega
      exact r_zret (pc := 15) X dX6_isOutside_15 (by first | rfl | decide | exact zb_nar _) (⟨by rw [decide_eq_true h3]; rfl, rfl⟩)
theorem t6_hasBit {b k : Nat} (hb : b < 2 ^ 31) (hk : k < 32) : CT Γ l 0 sz 0 0 mX6_hasBit [.int (nI b), .int (nI k)] μ (ri (fun r μ' => r = zb (b.testBit k) ∧ μ' = μ)) := by
  refine CT.go RX6 rfl "hasBit" rfl [some (.int (nI b)), some (.int (nI k))] rfl (by decide) (Nat.le_of_ble_eq_true rfl) ?_
  intro p e R s m args below meth c X hsz
  have hle : b >>> k &&& 1 ≤ 1 := Nat.and_le_right
  refine r_iload_n (pc := 0) X dX6_hasBit_0 rfl ?_
  refine r_iload_n (pc := 1) X dX6_hasBit_1 rfl ?_
  first | refine r_ishrN (pc := 2) X dX6_hasBit_2 (by omega) (by omega) ?_ | refine r_ishr (pc := 2) X dX6_hasBit_2 ?_
  refine r_iconst (pc := 3) (v := nI 1) X dX6_hasBit_3 (by decide) ?_
  first | refine r_iandN (pc := 4) X dX6_hasBit_4 ?_ | refine r_iand (pc := 4) X dX6_hasBit_4 ?_
  refine r_iconst (pc := 5) (v := nI 1) X dX6_hasBit_5 (by decide) ?_
  first | refine r_icmp_neN (pc := 6) X 13 dX6_hasBit_6 (by decide) (by omega) (by omega) (fun h => ?_) (fun h => ?_) | refine r_icmp_ne (pc := 6) X 13 dX6_hasBit_6 (by decide) (fun h => ?_) (fun h => ?_)
  · refine r_iconst (pc := 13) (v := nI 0) X dX6_hasBit_13 (by decide) ?_
    have h3 : b.testBit k = false := by
      cases hq : b.testBit k with
      | false => rfl
      | true => exact absurd (tb_iff.mpr hq) h
    exact r_zret (pc := 14) X dX6_hasBit_14 (by first | rfl | decide | exact zb_nar _) (⟨by rw [h3]; rfl, rfl⟩)
  · refine r_iconst (pc := 9) (v := nI 1) X dX6_hasBit_9 (by decide) ?_
    refine r_goto (pc := 10) X 14 dX6_hasBit_10 (by decide) ?_
    exact r_zret (pc := 14) X dX6_hasBit_14 (by first | rfl | decide | exact zb_nar _) (⟨by rw [tb_iff.mp h]; rfl, rfl⟩)
theorem t7_has {b k : Nat} (hb : b < 2 ^ 31) (hk : k < 32) : CT Γ l 0 sz 0 0 mX7_has [.int (nI b), .int (nI k)] μ (ri (fun r μ' => r = zb (b.testBit k) ∧ μ' = μ)) := by
  refine CT.go RX7 rfl "has" rfl [some (.int (nI b)), some (.int (nI k))] rfl (by decide) (Nat.le_of_ble_eq_true rfl) ?_
  intro p e R s m args below meth c X hsz
  have hle : b >>> k &&& 1 ≤ 1 := Nat.and_le_right
  refine r_iload_n (pc := 0) X dX7_has_0 rfl ?_
  refine r_iload_n (pc := 1) X dX7_has_1 rfl ?_
  first | refine r_ishrN (pc := 2) X dX7_has_2 (by omega) (by omega) ?_ | refine r_ishr (pc := 2) X dX7_has_2 ?_
  refine r_iconst (pc := 3) (v := nI 1) X dX7_has_3 (by decide) ?_
  first | refine r_iandN (pc := 4) X dX7_has_4 ?_ | refine r_iand (pc := 4) X dX7_has_4 ?_
  refine r_iconst (pc := 5) (v := nI 1) X dX7_has_5 (by decide) ?_
  first | refine r_icmp_neN (pc := 6) X 13 dX7_has_6 (by decide) (by omega) (by omega) (fun h => ?_) (fun h => ?_) | refine r_icmp_ne (pc := 6) X 13 dX7_has_6 (by decide) (fun h => ?_) (fun h => ?_)
  · refine r_iconst (pc := 13) (v := nI 0) X dX7_has_13 (by decide) ?_
    have h3 : b.testBit k = false := by
      cases hq : b.testBit k with
      | false => rfl
      | true => exact absurd (tb_iff.mpr hq) h
    exact r_zret (pc := 14) X dX7_has_14 (by first | rfl | decide | exact zb_nar _) (⟨by rw [h3]; rfl, rfl⟩)
  · refine r_iconst (pc := 9) (v := nI 1) X dX7_has_9 (by decide) ?_
    refine r_goto (pc := 10) X 14 dX7_has_10 (by decide) ?_
    exact r_zret (pc := 14) X dX7_has_14 (by first | rfl | decide | exact zb_nar _) (⟨by rw [tb_iff.mp h]; rfl, rfl⟩)
theorem t6_allBits {n : Nat} (hn : n < 31) : CT Γ l 0 sz 0 0 mX6_allBits [.int (nI n)] μ (ri (fun r μ' => r = nI (2 ^ n - 1) ∧ μ' = μ)) := by
  refine CT.go RX6 rfl "allBits" rfl [some (.int (nI n))] rfl (by decide) (Nat.le_of_ble_eq_true rfl) ?_
  intro p e R s m args below meth c X hsz
  have h1 : 1 <<< n = 2 ^ n := by rw [Nat.shiftLeft_eq, Nat.one_mul]
  have h2 : 1 ≤ 1 <<< n := by rw [h1]; exact Nat.one_le_two_pow
  refine r_iconst (pc := 0) (v := nI 1) X dX6_allBits_0 (by decide) ?_
  refine r_iload_n (pc := 1) X dX6_allBits_1 rfl ?_
  first | refine r_ishlN (pc := 2) X dX6_allBits_2 (by omega) ?_ | refine r_ishl (pc := 2) X dX6_allBits_2 ?_
  refine r_iconst (pc := 3) (v := nI 1) X dX6_allBits_3 (by decide) ?_
  first | refine r_isubN (pc := 4) X dX6_allBits_4 (by omega) ?_ | refine r_isub (pc := 4) X dX6_allBits_4 ?_
  exact r_iret (pc := 5) X dX6_allBits_5 (⟨by rw [h1], rfl⟩)
theorem brs_bell (st : Nat) (h : st < 2 ^ 20) : (if nI 0 < nI st - nI 3 then nI st - nI 3 else nI 0) = nI (st - 3) := by
  by_cases h3 : 3 ≤ st
  · rw [nI_sub h3]
    by_cases h4 : nI 0 < nI (st - 3)
    · rw [if_pos h4]
    · rw [if_neg h4]
      have : ¬ 0 < st - 3 := fun q => h4 ((nI_lt_iff (by omega) (by omega)).mpr q)
      rw [show st - 3 = 0 by omega]
  · have : ∀ s, s < 3 → (if nI 0 < nI s - nI 3 then nI s - nI 3 else nI 0) = nI (s - 3) := by decide +kernel
    exact this st (by omega)
theorem t6_bearing {kd st : Nat} (hk : kd ≤ 3) (hs : st < 2 ^ 20) : CT Γ l 1 sz 0 0 mX6_bearing [.int (nI kd), .int (nI st)] μ (ri (fun r μ' => r = nI (brs kd st) ∧ μ' = μ)) := by
  refine CT.go RX6 rfl "bearing" rfl [some (.int (nI kd)), some (.int (nI st))] rfl (by decide) (Nat.le_of_ble_eq_true rfl) ?_
  intro p e R s m args below meth c X hsz
  refine r_iload_n (pc := 0) X dX6_bearing_0 rfl ?_
  rcases (show kd = 0 ∨ kd = 1 ∨ kd = 2 ∨ kd = 3 by omega) with rfl | rfl | rfl | rfl
  · refine r_tableOut (pc := 1) X 46 dX6_bearing_1 (by decide) (by decide) ?_
    refine r_iload_n (pc := 46) X dX6_bearing_46 rfl ?_
    exact r_iret (pc := 47) X dX6_bearing_47 (⟨rfl, rfl⟩)
  · refine r_tableIn (pc := 1) X 28 dX6_bearing_1 (by decide) (by decide) rfl (by decide) ?_
    refine r_iload_n (pc := 28) X dX6_bearing_28 rfl ?_
    refine r_iload_n (pc := 29) X dX6_bearing_29 rfl ?_
    refine r_iconst (pc := 30) (v := nI 2) X dX6_bearing_30 (by decide) ?_
    first | refine r_idivN (pc := 31) X dX6_bearing_31 (by omega) (by omega) (by omega) ?_ | refine r_idiv (pc := 31) X dX6_bearing_31 (by decide) ?_
    first | refine r_iaddN (pc := 32) X dX6_bearing_32 ?_ | refine r_iadd (pc := 32) X dX6_bearing_32 ?_
    exact r_iret (pc := 33) X dX6_bearing_33 (⟨rfl, rfl⟩)
  · refine r_tableIn (pc := 1) X 34 dX6_bearing_1 (by decide) (by decide) rfl (by decide) ?_
    refine r_iconst (pc := 34) (v := nI 2) X dX6_bearing_34 (by decide) ?_
    refine r_iload_n (pc := 35) X dX6_bearing_35 rfl ?_
    first | refine r_imulN (pc := 36) X dX6_bearing_36 ?_ | refine r_imul (pc := 36) X dX6_bearing_36 ?_
    exact r_iret (pc := 37) X dX6_bearing_37 (⟨rfl, rfl⟩)
  · refine r_tableIn (pc := 1) X 38 dX6_bearing_1 (by decide) (by decide) rfl (by decide) ?_
    refine r_iconst (pc := 38) (v := nI 0) X dX6_bearing_38 (by decide) ?_
    refine r_iload_n (pc := 39) X dX6_bearing_39 rfl ?_
    refine r_iconst (pc := 40) (v := nI 3) X dX6_bearing_40 (by decide) ?_
    refine r_isub (pc := 41) X dX6_bearing_41 ?_
    refine r_max (pc := 42) X l_X6_265 dX6_bearing_42 (by decide) (Nat.le_of_ble_eq_true rfl) (by decide) (by decide) ?_
    exact r_iret (pc := 45) X dX6_bearing_45 (⟨brs_bell st hs, rfl⟩)
theorem t7_in (v lo hi : Int64) : CT Γ l 0 sz 0 0 mX7_in [.long v, .long lo, .long hi] μ (ri (fun r μ' => r = zb (decide (lo.toInt ≤ v.toInt ∧ v.toInt ≤ hi.toInt)) ∧ μ' = μ)) := by
  refine CT.go RX7 rfl "in" rfl [some (.long v), none, some (.long lo), none, some (.long hi), none] rfl (by decide) (Nat.le_of_ble_eq_true rfl) ?_
  intro p e R s m args below meth c X hsz
  refine r_lload_n (pc := 0) X dX7_in_0 rfl ?_
  refine r_lload_n (pc := 1) X dX7_in_1 rfl ?_
  refine r_lcmp (pc := 2) X dX7_in_2 ?_
  refine r_if_lt (pc := 3) X 17 dX7_in_3 (by decide) (fun h => ?_) (fun h => ?_)
  · refine r_iconst (pc := 17) (v := nI 0) X dX7_in_17 (by decide) ?_
    sorry
  · refine r_lload_n (pc := 6) X dX7_in_6 rfl ?_
    refine r_lload (pc := 7) X dX7_in_7 rfl ?_
    refine r_lcmp (pc := 9) X dX7_in_9 ?_
    refine r_if_gt (pc := 10) X 17 dX7_in_10 (by decide) (fun h2 => ?_) (fun h2 => ?_)
    · refine r_iconst (pc := 17) (v := nI 0) X dX7_in_17 (by decide) ?_
      sorry
    · refine r_iconst (pc := 13) (v := nI 1) X dX7_in_13 (by decide) ?_
      refine r_goto (pc := 14) X 18 dX7_in_14 (by decide) ?_
      sorry
end S10
