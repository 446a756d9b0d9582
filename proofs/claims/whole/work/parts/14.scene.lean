def cIn (S : Nat → Nat) : Nat → Nat
  | 0 => 0
  | i + 1 => cIn S i + (if S (6 + i) = 0 then 1 else 0)
/-- the first n of those who are in -/
def eatP (S : Nat → Nat) (n i : Nat) : Bool := decide (S (6 + i) = 0 ∧ cIn S i < n)
def eatS (men n : Nat) (S : Nat → Nat) : Nat → Nat := fun k => if 6 ≤ k ∧ k < 6 + men ∧ eatP S n (k - 6) = true then 2 else if 12 ≤ k ∧ k < 12 + men ∧ eatP S n (k - 12) = true then 0 else S k
def beginS (T : Nat → Nat) : Nat → Nat := fun k => if k = 0 then T 25 else 0
/-- who is under sheep s, among the first k men (0: nobody, else the man and 1) -/
def wu (S : Nat → Nat) (s : Nat) : Nat → Nat
  | 0 => 0
  | k + 1 => if S (12 + k) = s + 1 then k + 1 else wu S s k
def canT (S : Nat → Nat) (m w : Nat) : Bool := (S (6 + m) == 0) && (if w = 0 then decide (S (12 + m) ≠ 0) else !(S 5).testBit (w - 1) && decide (wu S (w - 1) 6 = 0))
def mornP (T S : Nat → Nat) (m : Nat) : Bool := decide (S (12 + m) ≠ 0 ∧ T (1 + m) ≤ brT T (S (12 + m) - 1))
def gnS (T S : Nat → Nat) : Nat → Nat
  | 0 => S 5
  | m + 1 => if mornP T S m = true then gnS T S m ||| 1 <<< (S (12 + m) - 1) else gnS T S m
def morS (T S : Nat → Nat) : Nat → Nat := fun k => if k = 5 then gnS T S 6 else if 6 ≤ k ∧ k < 12 ∧ S (6 + k) ≠ 0 then (if mornP T S (k - 6) = true then 1 else 2) else if 12 ≤ k ∧ k < 18 then 0 else S k
theorem wu_le (S : Nat → Nat) (s k : Nat) : wu S s k ≤ k := by
  induction k with
  | zero => exact Nat.le_refl _
  | succ k ih =>
    show (if S (12 + k) = s + 1 then k + 1 else wu S s k) ≤ k + 1
    by_cases h : S (12 + k) = s + 1
    · rw [if_pos h]; omega
    · rw [if_neg h]; omega
theorem wu_none {S : Nat → Nat} {s k : Nat} (h : ∀ m, m < k → S (12 + m) ≠ s + 1) : wu S s k = 0 := by
  induction k with
  | zero => rfl
  | succ k ih =>
    show (if S (12 + k) = s + 1 then k + 1 else wu S s k) = 0
    rw [if_neg (h k (by omega))]
    exact ih (fun m hm => h m (by omega))
theorem wu_one {S : Nat → Nat} {s k m : Nat} (hm : m < k) (h : S (12 + m) = s + 1) (hu : ∀ n, n < k → S (12 + n) = s + 1 → n = m) : wu S s k = m + 1 := by
  induction k with
  | zero => omega
  | succ k ih =>
    show (if S (12 + k) = s + 1 then k + 1 else wu S s k) = m + 1
    by_cases hk : S (12 + k) = s + 1
    · rw [if_pos hk, hu k (by omega) hk]
    · rw [if_neg hk]
      have : m ≠ k := fun q => hk (by rw [← q]; exact h)
      exact ih (by omega) (fun n hn => hu n (by omega))
theorem msk_test (men : Nat) (S : Nat → Nat) (h k : Nat) : (msk men S h).testBit k = (decide (k < men) && (S (6 + k) == h)) := mkb_test men _ k
theorem msk_lt {men : Nat} (hm : men ≤ 6) (S : Nat → Nat) (h : Nat) : msk men S h < 64 := mkb_lt64 hm _
theorem mkb_all (n : Nat) : mkb n (fun _ => true) = 2 ^ n - 1 := by
  apply Nat.eq_of_testBit_eq
  intro i
  rw [mkb_test, Nat.testBit_two_pow_sub_one]
  simp
theorem mkb_no (n : Nat) : mkb n (fun _ => false) = 0 := by
  apply Nat.eq_of_testBit_eq
  intro i
  rw [mkb_test]
  simp
theorem msk_begin0 (men : Nat) (T : Nat → Nat) : msk men (beginS T) 0 = 2 ^ men - 1 := by
  rw [← mkb_all]
  exact mkb_congr (fun k _ => by show (beginS T (6 + k) == 0) = true; unfold beginS; rw [if_neg (by omega)]; rfl)
theorem msk_beginS (men : Nat) (T : Nat → Nat) {h : Nat} (hh : h ≠ 0) : msk men (beginS T) h = 0 := by
  rw [← mkb_no men]
  refine mkb_congr (fun k _ => ?_)
  show (beginS T (6 + k) == h) = false
  unfold beginS
  rw [if_neg (by omega)]
  simp
  omega
theorem nI_andn : ∀ a, a < 64 → ∀ b, b < 64 → nI a &&& (nI b ^^^ (-1)) = nI (a &&& (b ^^^ 63)) := by decide +kernel
theorem andn_test {a b k : Nat} (hk : k < 6) : (a &&& (b ^^^ 63)).testBit k = (a.testBit k && !b.testBit k) := by
  have h63 : (63 : Nat).testBit k = true := by
    have : ∀ k, k < 6 → (63 : Nat).testBit k = true := by decide
    exact this k hk
  rw [Nat.testBit_and, Nat.testBit_xor, h63]
  cases b.testBit k <;> rfl
theorem eq_test6 {a b : Nat} (ha : a < 64) (hb : b < 64) (h : ∀ k, k < 6 → a.testBit k = b.testBit k) : a = b := by
  apply Nat.eq_of_testBit_eq
  intro i
  by_cases hi : i < 6
  · exact h i hi
  · rw [Nat.testBit_lt_two_pow (Nat.lt_of_lt_of_le ha (Nat.pow_le_pow_right (n := 2) (by decide) (show 6 ≤ i by omega))), Nat.testBit_lt_two_pow (Nat.lt_of_lt_of_le hb (Nat.pow_le_pow_right (n := 2) (by decide) (show 6 ≤ i by omega)))]
theorem andn_lt {a b : Nat} (ha : a < 64) : a &&& (b ^^^ 63) < 64 := Nat.lt_of_le_of_lt Nat.and_le_left ha
theorem or_lt64 {a b : Nat} (ha : a < 64) (hb : b < 64) : a ||| b < 64 := Nat.or_lt_two_pow (n := 6) ha hb
theorem one_shl_lt {k : Nat} (hk : k < 6) : 1 <<< k < 64 := by
  have : ∀ k, k < 6 → 1 <<< k < 64 := by decide
  exact this k hk
theorem one_shl_test {k i : Nat} : (1 <<< k).testBit i = decide (i = k) := by
  rw [Nat.one_shiftLeft, Nat.testBit_two_pow]
  by_cases h : k = i
  · subst h; simp
  · simp [h, Ne.symm h]
section S14
variable {Γ : KK} {l : Launch} {sz : Nat} {μ : MM} {a : Nat} {T S : Nat → Nat}
theorem t2_copy {b : Nat} {v u v' u' : Nat → Int32} (ha : ScAt Γ μ a v u) (hb : ScAt Γ μ b v' u') (hd : a + 2 ≤ b ∨ b + 2 ≤ a) : CT Γ l 1 sz 0 0 mX2_copy [.ref a, .ref b] μ (rv (fun μ' => ScAt Γ μ' a v' u' ∧ Fr a 2 μ μ')) := by
  obtain ⟨g0, g1, gz⟩ := ha
  obtain ⟨k0, k1, kz⟩ := hb
  have kz1 : narrow (tyX2 4) (.int (v' 4)) = .int (v' 4) := (bool_ok kz).1
  have kz2 : fits (tyX2 4) (.int (v' 4)) = true := (bool_ok kz).2
  refine CT.go RX2 rfl "copy" rfl [some (.ref a), some (.ref b)] rfl (by decide) (Nat.le_of_ble_eq_true rfl) ?_
  intro p e R s m args below meth c X hsz
  refine r_aload_n (pc := 0) X dX2_copy_0 rfl ?_
  refine r_aload_n (pc := 1) X dX2_copy_1 rfl ?_
  apply r_get (pc := 2) X f_X2_15 dX2_copy_2
  · repeat (first | exact mu_self | assumption | refine (mu_ne (by omega)).trans ?_)
  · rfl
  first | refine r_putS (pc := 5) X f_X2_15 dX2_copy_5 (by first | rfl | assumption | decide | simp [narrow]) (by first | rfl | assumption) (Nat.le_of_ble_eq_true rfl) ?_ | refine r_put (pc := 5) X f_X2_15 dX2_copy_5 (by repeat (first | exact mu_self | assumption | refine (mu_ne (by omega)).trans ?_)) (by first | rfl | assumption | decide | simp [narrow]) (by first | rfl | assumption) (Nat.le_of_ble_eq_true rfl) ?_
  refine r_aload_n (pc := 8) X dX2_copy_8 rfl ?_
  refine r_aload_n (pc := 9) X dX2_copy_9 rfl ?_
  apply r_get (pc := 10) X f_X2_24 dX2_copy_10
  · repeat (first | exact mu_self | assumption | refine (mu_ne (by omega)).trans ?_)
  · rfl
  first | refine r_putS (pc := 13) X f_X2_24 dX2_copy_13 (by first | rfl | assumption | decide | simp [narrow]) (by first | rfl | assumption) (Nat.le_of_ble_eq_true rfl) ?_ | refine r_put (pc := 13) X f_X2_24 dX2_copy_13 (by repeat (first | exact mu_self | assumption | refine (mu_ne (by omega)).trans ?_)) (by first | rfl | assumption | decide | simp [narrow]) (by first | rfl | assumption) (Nat.le_of_ble_eq_true rfl) ?_
  refine r_aload_n (pc := 16) X dX2_copy_16 rfl ?_
  refine r_aload_n (pc := 17) X dX2_copy_17 rfl ?_
  apply r_get (pc := 18) X f_X2_27 dX2_copy_18
  · repeat (first | exact mu_self | assumption | refine (mu_ne (by omega)).trans ?_)
  · rfl
  first | refine r_putS (pc := 21) X f_X2_27 dX2_copy_21 (by first | rfl | assumption | decide | simp [narrow]) (by first | rfl | assumption) (Nat.le_of_ble_eq_true rfl) ?_ | refine r_put (pc := 21) X f_X2_27 dX2_copy_21 (by repeat (first | exact mu_self | assumption | refine (mu_ne (by omega)).trans ?_)) (by first | rfl | assumption | decide | simp [narrow]) (by first | rfl | assumption) (Nat.le_of_ble_eq_true rfl) ?_
  refine r_aload_n (pc := 24) X dX2_copy_24 rfl ?_
  refine r_aload_n (pc := 25) X dX2_copy_25 rfl ?_
  apply r_get (pc := 26) X f_X2_30 dX2_copy_26
  · repeat (first | exact mu_self | assumption | refine (mu_ne (by omega)).trans ?_)
  · rfl
  first | refine r_putS (pc := 29) X f_X2_30 dX2_copy_29 (by first | rfl | assumption | decide | simp [narrow]) (by first | rfl | assumption) (Nat.le_of_ble_eq_true rfl) ?_ | refine r_put (pc := 29) X f_X2_30 dX2_copy_29 (by repeat (first | exact mu_self | assumption | refine (mu_ne (by omega)).trans ?_)) (by first | rfl | assumption | decide | simp [narrow]) (by first | rfl | assumption) (Nat.le_of_ble_eq_true rfl) ?_
  refine r_aload_n (pc := 32) X dX2_copy_32 rfl ?_
  refine r_aload_n (pc := 33) X dX2_copy_33 rfl ?_
  apply r_get (pc := 34) X f_X2_33 dX2_copy_34
  · repeat (first | exact mu_self | assumption | refine (mu_ne (by omega)).trans ?_)
  · rfl
  first | refine r_putS (pc := 37) X f_X2_33 dX2_copy_37 (by first | rfl | assumption | decide | simp [narrow]) (by first | rfl | assumption) (Nat.le_of_ble_eq_true rfl) ?_ | refine r_put (pc := 37) X f_X2_33 dX2_copy_37 (by repeat (first | exact mu_self | assumption | refine (mu_ne (by omega)).trans ?_)) (by first | rfl | assumption | decide | simp [narrow]) (by first | rfl | assumption) (Nat.le_of_ble_eq_true rfl) ?_
  refine r_aload_n (pc := 40) X dX2_copy_40 rfl ?_
  refine r_aload_n (pc := 41) X dX2_copy_41 rfl ?_
  apply r_get (pc := 42) X f_X2_44 dX2_copy_42
  · repeat (first | exact mu_self | assumption | refine (mu_ne (by omega)).trans ?_)
  · rfl
  first | refine r_putS (pc := 45) X f_X2_44 dX2_copy_45 (by first | rfl | assumption | decide | simp [narrow]) (by first | rfl | assumption) (Nat.le_of_ble_eq_true rfl) ?_ | refine r_put (pc := 45) X f_X2_44 dX2_copy_45 (by repeat (first | exact mu_self | assumption | refine (mu_ne (by omega)).trans ?_)) (by first | rfl | assumption | decide | simp [narrow]) (by first | rfl | assumption) (Nat.le_of_ble_eq_true rfl) ?_
  refine r_aload_n (pc := 48) X dX2_copy_48 rfl ?_
  refine r_aload_n (pc := 49) X dX2_copy_49 rfl ?_
  apply r_get (pc := 50) X f_X2_47 dX2_copy_50
  · repeat (first | exact mu_self | assumption | refine (mu_ne (by omega)).trans ?_)
  · rfl
  first | refine r_putS (pc := 53) X f_X2_47 dX2_copy_53 (by first | rfl | assumption | decide | simp [narrow]) (by first | rfl | assumption) (Nat.le_of_ble_eq_true rfl) ?_ | refine r_put (pc := 53) X f_X2_47 dX2_copy_53 (by repeat (first | exact mu_self | assumption | refine (mu_ne (by omega)).trans ?_)) (by first | rfl | assumption | decide | simp [narrow]) (by first | rfl | assumption) (Nat.le_of_ble_eq_true rfl) ?_
  refine r_aload_n (pc := 56) X dX2_copy_56 rfl ?_
  refine r_aload_n (pc := 57) X dX2_copy_57 rfl ?_
  apply r_get (pc := 58) X f_X2_50 dX2_copy_58
  · repeat (first | exact mu_self | assumption | refine (mu_ne (by omega)).trans ?_)
  · rfl
  first | refine r_putS (pc := 61) X f_X2_50 dX2_copy_61 (by first | rfl | assumption | decide | simp [narrow]) (by first | rfl | assumption) (Nat.le_of_ble_eq_true rfl) ?_ | refine r_put (pc := 61) X f_X2_50 dX2_copy_61 (by repeat (first | exact mu_self | assumption | refine (mu_ne (by omega)).trans ?_)) (by first | rfl | assumption | decide | simp [narrow]) (by first | rfl | assumption) (Nat.le_of_ble_eq_true rfl) ?_
  refine r_aload_n (pc := 64) X dX2_copy_64 rfl ?_
  refine r_aload_n (pc := 65) X dX2_copy_65 rfl ?_
  apply r_get (pc := 66) X f_X2_53 dX2_copy_66
  · repeat (first | exact mu_self | assumption | refine (mu_ne (by omega)).trans ?_)
  · rfl
  first | refine r_putS (pc := 69) X f_X2_53 dX2_copy_69 (by first | rfl | assumption | decide | simp [narrow]) (by first | rfl | assumption) (Nat.le_of_ble_eq_true rfl) ?_ | refine r_put (pc := 69) X f_X2_53 dX2_copy_69 (by repeat (first | exact mu_self | assumption | refine (mu_ne (by omega)).trans ?_)) (by first | rfl | assumption | decide | simp [narrow]) (by first | rfl | assumption) (Nat.le_of_ble_eq_true rfl) ?_
  refine r_aload_n (pc := 72) X dX2_copy_72 rfl ?_
  apply r_get (pc := 73) X f_X2_9 dX2_copy_73
  · repeat (first | exact mu_self | assumption | refine (mu_ne (by omega)).trans ?_)
  · rfl
  refine r_iconst (pc := 76) (v := nI 0) X dX2_copy_76 (by decide) ?_
  refine r_aload_n (pc := 77) X dX2_copy_77 rfl ?_
  apply r_get (pc := 78) X f_X2_9 dX2_copy_78
  · repeat (first | exact mu_self | assumption | refine (mu_ne (by omega)).trans ?_)
  · rfl
  refine r_iconst (pc := 81) (v := nI 0) X dX2_copy_81 (by decide) ?_
  refine r_bipush (pc := 82) (v := nI 6) X dX2_copy_82 (by decide) ?_
  apply r_copyI (pc := 84) X l_X2_56 dX2_copy_84 (by decide) (Nat.le_of_ble_eq_true rfl) (by decide)
  · repeat (first | exact mu_self | assumption | refine (mu_ne (by omega)).trans ?_)
  · repeat (first | exact mu_self | assumption | refine (mu_ne (by omega)).trans ?_)
  exact r_vret (pc := 87) X dX2_copy_87 (⟨⟨(by repeat (first | exact mu_self | assumption | refine (mu_ne (by omega)).trans ?_)), (by repeat (first | exact mu_self | assumption | refine (mu_ne (by omega)).trans ?_)), kz⟩, (fun q hq => by repeat (first | rfl | refine (mu_ne (by omega)).trans ?_))⟩)
theorem scU_begin (T : Nat → Nat) : scU (beginS T) = fun _ => -1 := by
  funext i
  show uI (beginS T (12 + i)) = -1
  unfold beginS
  rw [if_neg (by omega)]
  exact uI_0
theorem t2_begin {b : Nat} {v u : Nat → Int32} (ha : ScAt Γ μ a v u) (hT : ToldAt Γ μ b T) (hI : T 0 ≤ 6) (hd : a + 2 ≤ b ∨ b + 5 ≤ a) : CT Γ l 1 sz 0 0 mX2_begin [.ref a, .ref b] μ (rv (fun μ' => ScAt Γ μ' a (scV (T 0) (beginS T)) (scU (beginS T)) ∧ Fr a 2 μ μ')) := by
  obtain ⟨g0, g1, gz⟩ := ha
  obtain ⟨k0, k1, k2, k3, k4⟩ := hT
  refine CT.go RX2 rfl "begin" rfl [some (.ref a), some (.ref b), none] rfl (by decide) (Nat.le_of_ble_eq_true rfl) ?_
  intro p e R s m args below meth c X hsz
  refine r_aload_n (pc := 0) X dX2_begin_0 rfl ?_
  refine r_iconst (pc := 1) (v := nI 0) X dX2_begin_1 (by decide) ?_
  first | refine r_putS (pc := 2) X f_X2_15 dX2_begin_2 (by first | rfl | assumption | decide | simp [narrow]) (by first | rfl | assumption) (Nat.le_of_ble_eq_true rfl) ?_ | refine r_put (pc := 2) X f_X2_15 dX2_begin_2 (by repeat (first | exact mu_self | assumption | refine (mu_ne (by omega)).trans ?_)) (by first | rfl | assumption | decide | simp [narrow]) (by first | rfl | assumption) (Nat.le_of_ble_eq_true rfl) ?_
  refine r_aload_n (pc := 5) X dX2_begin_5 rfl ?_
  refine r_aload_n (pc := 6) X dX2_begin_6 rfl ?_
  apply r_get (pc := 7) X f_X2_19 dX2_begin_7
  · repeat (first | exact mu_self | assumption | refine (mu_ne (by omega)).trans ?_)
  · rfl
  first | refine r_putS (pc := 10) X f_X2_24 dX2_begin_10 (by first | rfl | assumption | decide | simp [narrow]) (by first | rfl | assumption) (Nat.le_of_ble_eq_true rfl) ?_ | refine r_put (pc := 10) X f_X2_24 dX2_begin_10 (by repeat (first | exact mu_self | assumption | refine (mu_ne (by omega)).trans ?_)) (by first | rfl | assumption | decide | simp [narrow]) (by first | rfl | assumption) (Nat.le_of_ble_eq_true rfl) ?_
  refine r_aload_n (pc := 13) X dX2_begin_13 rfl ?_
  refine r_iconst (pc := 14) (v := nI 0) X dX2_begin_14 (by decide) ?_
  first | refine r_putS (pc := 15) X f_X2_27 dX2_begin_15 (by first | rfl | assumption | decide | simp [narrow]) (by first | rfl | assumption) (Nat.le_of_ble_eq_true rfl) ?_ | refine r_put (pc := 15) X f_X2_27 dX2_begin_15 (by repeat (first | exact mu_self | assumption | refine (mu_ne (by omega)).trans ?_)) (by first | rfl | assumption | decide | simp [narrow]) (by first | rfl | assumption) (Nat.le_of_ble_eq_true rfl) ?_
  refine r_aload_n (pc := 18) X dX2_begin_18 rfl ?_
  refine r_iconst (pc := 19) (v := nI 0) X dX2_begin_19 (by decide) ?_
  first | refine r_putS (pc := 20) X f_X2_30 dX2_begin_20 (by first | rfl | assumption | decide | simp [narrow]) (by first | rfl | assumption) (Nat.le_of_ble_eq_true rfl) ?_ | refine r_put (pc := 20) X f_X2_30 dX2_begin_20 (by repeat (first | exact mu_self | assumption | refine (mu_ne (by omega)).trans ?_)) (by first | rfl | assumption | decide | simp [narrow]) (by first | rfl | assumption) (Nat.le_of_ble_eq_true rfl) ?_
  refine r_aload_n (pc := 23) X dX2_begin_23 rfl ?_
  refine r_iconst (pc := 24) (v := nI 0) X dX2_begin_24 (by decide) ?_
  first | refine r_putS (pc := 25) X f_X2_33 dX2_begin_25 (by first | rfl | assumption | decide | simp [narrow]) (by first | rfl | assumption) (Nat.le_of_ble_eq_true rfl) ?_ | refine r_put (pc := 25) X f_X2_33 dX2_begin_25 (by repeat (first | exact mu_self | assumption | refine (mu_ne (by omega)).trans ?_)) (by first | rfl | assumption | decide | simp [narrow]) (by first | rfl | assumption) (Nat.le_of_ble_eq_true rfl) ?_
  refine r_aload_n (pc := 28) X dX2_begin_28 rfl ?_
  refine r_aload_n (pc := 29) X dX2_begin_29 rfl ?_
  apply r_get (pc := 30) X f_X2_37 dX2_begin_30
  · repeat (first | exact mu_self | assumption | refine (mu_ne (by omega)).trans ?_)
  · rfl
  refine c_i X (rSN (pc := 33) X l_X2_40 (t6_allBits (n := T 0) (by omega)) dX2_begin_33 rfl rfl (Nat.le_of_ble_eq_true rfl) (by decide) (Nat.le_of_ble_eq_true rfl) (Nat.le_of_ble_eq_true rfl)) ?_
  rintro _ μq ⟨rfl, hμq⟩
  rw [hμq]
  clear hμq μq
  first | refine r_putS (pc := 36) X f_X2_44 dX2_begin_36 (by first | rfl | assumption | decide | simp [narrow]) (by first | rfl | assumption) (Nat.le_of_ble_eq_true rfl) ?_ | refine r_put (pc := 36) X f_X2_44 dX2_begin_36 (by repeat (first | exact mu_self | assumption | refine (mu_ne (by omega)).trans ?_)) (by first | rfl | assumption | decide | simp [narrow]) (by first | rfl | assumption) (Nat.le_of_ble_eq_true rfl) ?_
  refine r_aload_n (pc := 39) X dX2_begin_39 rfl ?_
  refine r_iconst (pc := 40) (v := nI 0) X dX2_begin_40 (by decide) ?_
  first | refine r_putS (pc := 41) X f_X2_47 dX2_begin_41 (by first | rfl | assumption | decide | simp [narrow]) (by first | rfl | assumption) (Nat.le_of_ble_eq_true rfl) ?_ | refine r_put (pc := 41) X f_X2_47 dX2_begin_41 (by repeat (first | exact mu_self | assumption | refine (mu_ne (by omega)).trans ?_)) (by first | rfl | assumption | decide | simp [narrow]) (by first | rfl | assumption) (Nat.le_of_ble_eq_true rfl) ?_
  refine r_aload_n (pc := 44) X dX2_begin_44 rfl ?_
  refine r_iconst (pc := 45) (v := nI 0) X dX2_begin_45 (by decide) ?_
  first | refine r_putS (pc := 46) X f_X2_50 dX2_begin_46 (by first | rfl | assumption | decide | simp [narrow]) (by first | rfl | assumption) (Nat.le_of_ble_eq_true rfl) ?_ | refine r_put (pc := 46) X f_X2_50 dX2_begin_46 (by repeat (first | exact mu_self | assumption | refine (mu_ne (by omega)).trans ?_)) (by first | rfl | assumption | decide | simp [narrow]) (by first | rfl | assumption) (Nat.le_of_ble_eq_true rfl) ?_
  refine r_aload_n (pc := 49) X dX2_begin_49 rfl ?_
  refine r_iconst (pc := 50) (v := nI 0) X dX2_begin_50 (by decide) ?_
  first | refine r_putS (pc := 51) X f_X2_53 dX2_begin_51 (by first | rfl | assumption | decide | simp [narrow]) (by first | rfl | assumption) (Nat.le_of_ble_eq_true rfl) ?_ | refine r_put (pc := 51) X f_X2_53 dX2_begin_51 (by repeat (first | exact mu_self | assumption | refine (mu_ne (by omega)).trans ?_)) (by first | rfl | assumption | decide | simp [narrow]) (by first | rfl | assumption) (Nat.le_of_ble_eq_true rfl) ?_
  refine r_iconst (pc := 54) (v := nI 0) X dX2_begin_54 (by decide) ?_
  refine r_istore_n (pc := 55) X dX2_begin_55 (by decide) rfl ?_
  have e0 : (xO 2 [.int (scV (T 0) (beginS T) 0), .int (scV (T 0) (beginS T) 1), .int (scV (T 0) (beginS T) 2), .int (scV (T 0) (beginS T) 3), .int (scV (T 0) (beginS T) 4), .int (scV (T 0) (beginS T) 5), .int (scV (T 0) (beginS T) 6), .int (scV (T 0) (beginS T) 7), .int (scV (T 0) (beginS T) 8), .ref (a + 1)]) = xO 2 [.int (nI 0), .int (nI (T 25)), .int (nI 0), .int (nI 0), .int (nI 0), .int (nI (2 ^ T 0 - 1)), .int (nI 0), .int (nI 0), .int (nI 0), .ref (a + 1)] := by
    have h5 : scV (T 0) (beginS T) 5 = nI (2 ^ T 0 - 1) := by show nI (msk (T 0) (beginS T) 0) = _; rw [msk_begin0]
    have h6 : scV (T 0) (beginS T) 6 = nI 0 := by show nI (msk (T 0) (beginS T) 1) = _; rw [msk_beginS _ _ (by decide)]
    have h7 : scV (T 0) (beginS T) 7 = nI 0 := by show nI (msk (T 0) (beginS T) 2) = _; rw [msk_beginS _ _ (by decide)]
    rw [h5, h6, h7]
    rfl
  have key : ∀ (N i : Nat) (f : Nat → Int32) (μ1 : MM), i + N = 6 → (∀ j, j < i → f j = -1) → μ1 a = some (xO 2 [.int (nI 0), .int (nI (T 25)), .int (nI 0), .int (nI 0), .int (nI 0), .int (nI (2 ^ T 0 - 1)), .int (nI 0), .int (nI 0), .int (nI 0), .ref (a + 1)]) → μ1 (a + 1) = some (xI Γ 6 f) → Fr a 2 μ μ1 → vV Γ p l e R s m args below meth c (vQ Γ s args below 0 0 (rv (fun μ' => ScAt Γ μ' a (scV (T 0) (beginS T)) (scU (beginS T)) ∧ Fr a 2 μ μ'))) 3 0 0 56 [some (.ref (a)), some (.ref (b)), some (.int (nI (i)))] [] (μ1) := by
    intro N
    induction N with
    | zero =>
      intro i f μ1 hi hf q0 q1 q2
      have hi2 : i = 6 := by omega
      subst hi2
      refine r_iload_n (pc := 56) X dX2_begin_56 rfl ?_
      refine r_bipush (pc := 57) (v := nI 6) X dX2_begin_57 (by decide) ?_
      refine r_icmp_geN (pc := 59) X 75 dX2_begin_59 (by decide) (by omega) (by omega) (fun _ => ?_) (fun h => absurd (Nat.le_refl _) h)
      refine vV.sub (μ' := mu μ1 (a + 1) (xI Γ 6 (fun _ => -1))) (fun H hP => mP.congrI hf (by
        have : mu μ1 (a + 1) (xI Γ 6 f) = μ1 := by
          funext q
          by_cases hq : q = a + 1
          · subst hq; rw [mu_self, q1]
          · rw [mu_ne hq]
        rw [this]; exact hP)) ?_
      exact r_vret (pc := 75) X dX2_begin_75 (⟨⟨by rw [e0]; exact (mu_ne (by omega)).trans q0, by rw [scU_begin]; exact mu_self, Or.inl rfl⟩, fun q hq => (mu_ne (by omega)).trans (q2 q hq)⟩)
    | succ N ih =>
      intro i f μ1 hi hf q0 q1 q2
      refine r_iload_n (pc := 56) X dX2_begin_56 rfl ?_
      refine r_bipush (pc := 57) (v := nI 6) X dX2_begin_57 (by decide) ?_
      refine r_icmp_geN (pc := 59) X 75 dX2_begin_59 (by decide) (by omega) (by omega) (fun h => absurd h (by omega)) (fun h => ?_)
      refine r_aload_n (pc := 62) X dX2_begin_62 rfl ?_
      apply r_get (pc := 63) X f_X2_9 dX2_begin_63
      · repeat (first | exact mu_self | assumption | refine (mu_ne (by omega)).trans ?_)
      · rfl
      refine r_iload_n (pc := 66) X dX2_begin_66 rfl ?_
      refine r_iconst (pc := 67) (v := -1) X dX2_begin_67 (by decide) ?_
      apply r_iast (pc := 68) X dX2_begin_68
      · repeat (first | exact mu_self | assumption | refine (mu_ne (by omega)).trans ?_)
      · omega
      · decide
      refine r_iincN (pc := 69) (b := 1) X dX2_begin_69 rfl (by decide) rfl ?_
      refine r_goto (pc := 72) X 56 dX2_begin_72 (by decide) ?_
      refine ih (i + 1) (upd f i (-1)) _ (by omega) (fun j hj => ?_) (by repeat (first | exact mu_self | assumption | refine (mu_ne (by omega)).trans ?_)) (by repeat (first | exact mu_self | assumption | refine (mu_ne (by omega)).trans ?_)) (fun q hq => (mu_ne (by omega)).trans (q2 q hq))
      unfold upd
      by_cases h : j = i
      · rw [if_pos h]
      · rw [if_neg h]; exact hf j (by omega)
  exact key 6 0 u _ (by omega) (fun j hj => by omega) (by repeat (first | exact mu_self | assumption | refine (mu_ne (by omega)).trans ?_)) (by repeat (first | exact mu_self | assumption | refine (mu_ne (by omega)).trans ?_)) (fun q hq => by repeat (first | rfl | refine (mu_ne (by omega)).trans ?_))
theorem t2_stateOf {m' : Nat} (ha : ScAt Γ μ a (scV (T 0) S) (scU S)) (hI : T 0 ≤ 6) (hS : IS T S) (hm : m' < T 0) : CT Γ l 1 sz 0 0 mX2_stateOf [.ref a, .int (nI m')] μ (ri (fun r μ' => r = nI (S (6 + m')) ∧ μ' = μ)) := by
  obtain ⟨g0, g1, gz⟩ := ha
  have hb := hS.2.2.2.2.2.1 m' (by omega)
  refine CT.go RX2 rfl "stateOf" rfl [some (.ref a), some (.int (nI m'))] rfl (by decide) (Nat.le_of_ble_eq_true rfl) ?_
  intro p e R s m args below meth c X hsz
  refine r_aload_n (pc := 0) X dX2_stateOf_0 rfl ?_
  apply r_get (pc := 1) X f_X2_44 dX2_stateOf_1
  · repeat (first | exact mu_self | assumption | refine (mu_ne (by omega)).trans ?_)
  · rfl
  refine r_iload_n (pc := 4) X dX2_stateOf_4 rfl ?_
  refine c_i X (rSN (pc := 5) X l_X2_62 (t6_hasBit (b := msk (T 0) S 0) (k := m') (Nat.lt_trans (msk_lt hI S 0) (by decide)) (by omega)) dX2_stateOf_5 rfl rfl (Nat.le_of_ble_eq_true rfl) (by decide) (Nat.le_of_ble_eq_true rfl) (Nat.le_of_ble_eq_true rfl)) ?_
  rintro _ μq ⟨rfl, hμq⟩
  rw [hμq]
  clear hμq μq
  rw [msk_test, decide_eq_true hm]
  first | refine r_if_eqZ (pc := 8) X 13 dX2_stateOf_8 (by decide) (fun h => ?_) (fun h => ?_) | refine r_if_eqN (pc := 8) X 13 dX2_stateOf_8 (by decide) (by omega) (fun h => ?_) (fun h => ?_) | refine r_if_eq (pc := 8) X 13 dX2_stateOf_8 (by decide) (fun h => ?_) (fun h => ?_)
  · simp at h
    refine r_aload_n (pc := 13) X dX2_stateOf_13 rfl ?_
    apply r_get (pc := 14) X f_X2_47 dX2_stateOf_14
    · repeat (first | exact mu_self | assumption | refine (mu_ne (by omega)).trans ?_)
    · rfl
    refine r_iload_n (pc := 17) X dX2_stateOf_17 rfl ?_
    refine c_i X (rSN (pc := 18) X l_X2_62 (t6_hasBit (b := msk (T 0) S 1) (k := m') (Nat.lt_trans (msk_lt hI S 1) (by decide)) (by omega)) dX2_stateOf_18 rfl rfl (Nat.le_of_ble_eq_true rfl) (by decide) (Nat.le_of_ble_eq_true rfl) (Nat.le_of_ble_eq_true rfl)) ?_
    rintro _ μq ⟨rfl, hμq⟩
    rw [hμq]
    clear hμq μq
    rw [msk_test, decide_eq_true hm]
    first | refine r_if_eqZ (pc := 21) X 28 dX2_stateOf_21 (by decide) (fun h2 => ?_) (fun h2 => ?_) | refine r_if_eqN (pc := 21) X 28 dX2_stateOf_21 (by decide) (by omega) (fun h2 => ?_) (fun h2 => ?_) | refine r_if_eq (pc := 21) X 28 dX2_stateOf_21 (by decide) (fun h2 => ?_) (fun h2 => ?_)
    · simp at h2
      refine r_iconst (pc := 28) (v := nI 2) X dX2_stateOf_28 (by decide) ?_
      exact r_iret (pc := 29) X dX2_stateOf_29 (⟨by congr 1; omega, rfl⟩)
    · simp at h2
      refine r_iconst (pc := 24) (v := nI 1) X dX2_stateOf_24 (by decide) ?_
      refine r_goto (pc := 25) X 29 dX2_stateOf_25 (by decide) ?_
      exact r_iret (pc := 29) X dX2_stateOf_29 (⟨by congr 1; omega, rfl⟩)
  · simp at h
    refine r_iconst (pc := 11) (v := nI 0) X dX2_stateOf_11 (by decide) ?_
    exact r_iret (pc := 12) X dX2_stateOf_12 (⟨by rw [h], rfl⟩)
theorem t2_whoIsUnder {s' : Nat} (ha : ScAt Γ μ a (scV (T 0) S) (scU S)) (hT : IT T) (hS : IS T S) (hs : s' < 6) : CT Γ l 0 sz 0 0 mX2_whoIsUnder [.ref a, .int (nI s')] μ (ri (fun r μ' => r = uI (wu S s' 6) ∧ μ' = μ)) := by
  obtain ⟨g0, g1, gz⟩ := ha
  have h7 := hT.2.1
  refine CT.go RX2 rfl "whoIsUnder" rfl [some (.ref a), some (.int (nI s')), none] rfl (by decide) (Nat.le_of_ble_eq_true rfl) ?_
  intro p e R s m args below meth c X hsz
  refine r_iconst (pc := 0) (v := nI 0) X dX2_whoIsUnder_0 (by decide) ?_
  refine r_istore_n (pc := 1) X dX2_whoIsUnder_1 (by decide) rfl ?_
  have key : ∀ (N i : Nat), i + N = 6 → (∀ m, m < i → S (12 + m) ≠ s' + 1) → vV Γ p l e R s m args below meth c (vQ Γ s args below 0 0 (ri (fun r μ' => r = uI (wu S s' 6) ∧ μ' = μ))) 3 0 0 2 [some (.ref (a)), some (.int (nI (s'))), some (.int (nI (i)))] [] (μ) := by
    intro N
    induction N with
    | zero =>
      intro i hi hn
      have hi2 : i = 6 := by omega
      subst hi2
      refine r_iload_n (pc := 2) X dX2_whoIsUnder_2 rfl ?_
      refine r_bipush (pc := 3) (v := nI 6) X dX2_whoIsUnder_3 (by decide) ?_
      refine r_icmp_geN (pc := 5) X 26 dX2_whoIsUnder_5 (by decide) (by omega) (by omega) (fun _ => ?_) (fun h => absurd (Nat.le_refl _) h)
      refine r_iconst (pc := 26) (v := -1) X dX2_whoIsUnder_26 (by decide) ?_
      exact r_iret (pc := 27) X dX2_whoIsUnder_27 (⟨by rw [wu_none hn, uI_0], rfl⟩)
    | succ N ih =>
      intro i hi hn
      have hb := hS.2.2.2.2.2.2.1 i (by omega)
      refine r_iload_n (pc := 2) X dX2_whoIsUnder_2 rfl ?_
      refine r_bipush (pc := 3) (v := nI 6) X dX2_whoIsUnder_3 (by decide) ?_
      refine r_icmp_geN (pc := 5) X 26 dX2_whoIsUnder_5 (by decide) (by omega) (by omega) (fun h => absurd h (by omega)) (fun h => ?_)
      refine r_aload_n (pc := 8) X dX2_whoIsUnder_8 rfl ?_
      apply r_get (pc := 9) X f_X2_9 dX2_whoIsUnder_9
      · repeat (first | exact mu_self | assumption | refine (mu_ne (by omega)).trans ?_)
      · rfl
      refine r_iload_n (pc := 12) X dX2_whoIsUnder_12 rfl ?_
      apply r_iald (pc := 13) X dX2_whoIsUnder_13
      · repeat (first | exact mu_self | assumption | refine (mu_ne (by omega)).trans ?_)
      · omega
      · decide
      refine r_iload_n (pc := 14) X dX2_whoIsUnder_14 rfl ?_
      refine r_icmp_ne (pc := 15) X 20 dX2_whoIsUnder_15 (by decide) (fun h2 => ?_) (fun h2 => ?_)
      · refine r_iincN (pc := 20) (b := 1) X dX2_whoIsUnder_20 rfl (by decide) rfl ?_
        refine r_goto (pc := 23) X 2 dX2_whoIsUnder_23 (by decide) ?_
        refine ih (i + 1) (by omega) (fun m hm => ?_)
        by_cases hmi : m = i
        · subst hmi
          intro q
          exact h2 (by show uI (S (12 + m)) = nI s'; rw [q, uI_S])
        · exact hn m (by omega)
      · have h3 : S (12 + i) = s' + 1 := (uI_eq (by omega) (by omega)).mp (by rw [uI_S]; exact h2)
        refine r_iload_n (pc := 18) X dX2_whoIsUnder_18 rfl ?_
        exact r_iret (pc := 19) X dX2_whoIsUnder_19 (⟨by rw [wu_one (show i < 6 by omega) h3 (fun n hn' hq => hS.2.2.2.2.2.2.2.2 n i hn' (by omega) (by omega) (by rw [hq, h3])), uI_S], rfl⟩)
  exact key 6 0 (by omega) (fun m hm => by omega)
theorem t2_canHide {m' w : Nat} (ha : ScAt Γ μ a (scV (T 0) S) (scU S)) (hT : IT T) (hS : IS T S) (hm : m' < T 0) (hw : w ≤ T 7) : CT Γ l 1 sz 0 0 mX2_canHide [.ref a, .int (nI m'), .int (uI w)] μ (ri (fun r μ' => r = zb (canT S m' w) ∧ μ' = μ)) := by
  have ha0 := ha
  obtain ⟨g0, g1, gz⟩ := ha
  have h6 := hT.1
  have h7 := hT.2.1
  have hu := hS.2.2.2.2.2.2.1 m' (by omega)
  have hg : S 5 < 2 ^ 6 := Nat.lt_of_lt_of_le hS.2.2.2.2.1 (Nat.pow_le_pow_right (by decide) h7)
  refine CT.go RX2 rfl "canHide" rfl [some (.ref a), some (.int (nI m')), some (.int (uI w))] rfl (by decide) (Nat.le_of_ble_eq_true rfl) ?_
  intro p e R s m args below meth c X hsz
  refine r_aload_n (pc := 0) X dX2_canHide_0 rfl ?_
  apply r_get (pc := 1) X f_X2_44 dX2_canHide_1
  · repeat (first | exact mu_self | assumption | refine (mu_ne (by omega)).trans ?_)
  · rfl
  refine r_iload_n (pc := 4) X dX2_canHide_4 rfl ?_
  refine c_i X (rSN (pc := 5) X l_X2_62 (t6_hasBit (b := msk (T 0) S 0) (k := m') (Nat.lt_trans (msk_lt h6 S 0) (by decide)) (by omega)) dX2_canHide_5 rfl rfl (Nat.le_of_ble_eq_true rfl) (by decide) (Nat.le_of_ble_eq_true rfl) (Nat.le_of_ble_eq_true rfl)) ?_
  rintro _ μq ⟨rfl, hμq⟩
  rw [hμq]
  clear hμq μq
  rw [msk_test, decide_eq_true hm]
  first | refine r_if_neZ (pc := 8) X 13 dX2_canHide_8 (by decide) (fun h => ?_) (fun h => ?_) | refine r_if_neN (pc := 8) X 13 dX2_canHide_8 (by decide) (by omega) (fun h => ?_) (fun h => ?_) | refine r_if_ne (pc := 8) X 13 dX2_canHide_8 (by decide) (fun h => ?_) (fun h => ?_)
  · simp at h
    refine r_iload_n (pc := 13) X dX2_canHide_13 rfl ?_
    refine r_iconst (pc := 14) (v := -1) X dX2_canHide_14 (by decide) ?_
    refine r_icmp_ne (pc := 15) X 44 dX2_canHide_15 (by decide) (fun h2 => ?_) (fun h2 => ?_)
    · have hw0 : w ≠ 0 := fun q => h2 (by rw [q, uI_0])
      obtain ⟨w, rfl⟩ : ∃ k, w = k + 1 := ⟨w - 1, by omega⟩
      rw [uI_S]
      refine r_aload_n (pc := 44) X dX2_canHide_44 rfl ?_
      apply r_get (pc := 45) X f_X2_53 dX2_canHide_45
      · repeat (first | exact mu_self | assumption | refine (mu_ne (by omega)).trans ?_)
      · rfl
      refine r_iload_n (pc := 48) X dX2_canHide_48 rfl ?_
      refine c_i X (rSN (pc := 49) X l_X2_62 (t6_hasBit (b := S 5) (k := w) (by omega) (by omega)) dX2_canHide_49 rfl rfl (Nat.le_of_ble_eq_true rfl) (by decide) (Nat.le_of_ble_eq_true rfl) (Nat.le_of_ble_eq_true rfl)) ?_
      rintro _ μq ⟨rfl, hμq⟩
      rw [hμq]
      clear hμq μq
      first | refine r_if_neZ (pc := 52) X 68 dX2_canHide_52 (by decide) (fun h3 => ?_) (fun h3 => ?_) | refine r_if_neN (pc := 52) X 68 dX2_canHide_52 (by decide) (by omega) (fun h3 => ?_) (fun h3 => ?_) | refine r_if_ne (pc := 52) X 68 dX2_canHide_52 (by decide) (fun h3 => ?_) (fun h3 => ?_)
      · refine r_iconst (pc := 68) (v := nI 0) X dX2_canHide_68 (by decide) ?_
        have e : canT S m' (w + 1) = false := by unfold canT; rw [if_neg (by omega)]; simp [h3]
        exact r_zret (pc := 69) X dX2_canHide_69 (by first | rfl | decide | exact zb_nar _) (⟨by rw [e]; rfl, rfl⟩)
      · refine r_aload_n (pc := 55) X dX2_canHide_55 rfl ?_
        refine r_iload_n (pc := 56) X dX2_canHide_56 rfl ?_
        refine c_i X (rV (pc := 57) (ci := 2) X l_X2_66 (t2_whoIsUnder ha0 hT hS (s' := w) (by omega)) dX2_canHide_57 (by repeat (first | exact mu_self | assumption | refine (mu_ne (by omega)).trans ?_)) rfl rfl rfl (Nat.le_of_ble_eq_true rfl) (by decide) (Nat.le_of_ble_eq_true rfl) (Nat.le_of_ble_eq_true rfl)) ?_
        rintro _ μq ⟨rfl, hμq⟩
        rw [hμq]
        clear hμq μq
        refine r_iconst (pc := 60) (v := -1) X dX2_canHide_60 (by decide) ?_
        have hwl := wu_le S w 6
        refine r_icmp_ne (pc := 61) X 68 dX2_canHide_61 (by decide) (fun h4 => ?_) (fun h4 => ?_)
        · have h5 : wu S w 6 ≠ 0 := fun q => h4 (by rw [q, uI_0])
          refine r_iconst (pc := 68) (v := nI 0) X dX2_canHide_68 (by decide) ?_
          have e : canT S m' (w + 1) = false := by unfold canT; rw [if_neg (by omega)]; simp [h5]
          exact r_zret (pc := 69) X dX2_canHide_69 (by first | rfl | decide | exact zb_nar _) (⟨by rw [e]; rfl, rfl⟩)
        · have h5 : wu S w 6 = 0 := (uI_eq (by omega) (by omega)).mp (by rw [h4, uI_0])
          refine r_iconst (pc := 64) (v := nI 1) X dX2_canHide_64 (by decide) ?_
          refine r_goto (pc := 65) X 69 dX2_canHide_65 (by decide) ?_
          have e : canT S m' (w + 1) = true := by unfold canT; rw [if_neg (by omega)]; simp [h3, h5, h]
          exact r_zret (pc := 69) X dX2_canHide_69 (by first | rfl | decide | exact zb_nar _) (⟨by rw [e]; rfl, rfl⟩)
    · have hw0 : w = 0 := (uI_eq (by omega) (by omega)).mp (by rw [h2, uI_0])
      subst hw0
      refine r_iload_n (pc := 18) X dX2_canHide_18 rfl ?_
      refine r_if_ltN (pc := 19) X 42 dX2_canHide_19 (by decide) (by omega) (fun h => absurd h (by omega)) (fun _ => ?_)
      refine r_iload_n (pc := 22) X dX2_canHide_22 rfl ?_
      refine r_bipush (pc := 23) (v := nI 6) X dX2_canHide_23 (by decide) ?_
      refine r_icmp_geN (pc := 25) X 42 dX2_canHide_25 (by decide) (by omega) (by omega) (fun h => absurd h (by omega)) (fun _ => ?_)
      refine r_aload_n (pc := 28) X dX2_canHide_28 rfl ?_
      apply r_get (pc := 29) X f_X2_9 dX2_canHide_29
      · repeat (first | exact mu_self | assumption | refine (mu_ne (by omega)).trans ?_)
      · rfl
      refine r_iload_n (pc := 32) X dX2_canHide_32 rfl ?_
      apply r_iald (pc := 33) X dX2_canHide_33
      · repeat (first | exact mu_self | assumption | refine (mu_ne (by omega)).trans ?_)
      · omega
      · decide
      refine r_iconst (pc := 34) (v := -1) X dX2_canHide_34 (by decide) ?_
      refine r_icmp_eq (pc := 35) X 42 dX2_canHide_35 (by decide) (fun h4 => ?_) (fun h4 => ?_)
      · have h5 : S (12 + m') = 0 := (uI_eq (by omega) (by omega)).mp (by rw [uI_0]; exact h4)
        refine r_iconst (pc := 42) (v := nI 0) X dX2_canHide_42 (by decide) ?_
        have e : canT S m' 0 = false := by unfold canT; rw [if_pos rfl]; simp [h5]
        exact r_zret (pc := 43) X dX2_canHide_43 (by first | rfl | decide | exact zb_nar _) (⟨by rw [e]; rfl, rfl⟩)
      · have h5 : S (12 + m') ≠ 0 := fun q => h4 (by show uI (S (12 + m')) = -1; rw [q, uI_0])
        refine r_iconst (pc := 38) (v := nI 1) X dX2_canHide_38 (by decide) ?_
        refine r_goto (pc := 39) X 43 dX2_canHide_39 (by decide) ?_
        have e : canT S m' 0 = true := by unfold canT; rw [if_pos rfl]; simp [h5, h]
        exact r_zret (pc := 43) X dX2_canHide_43 (by first | rfl | decide | exact zb_nar _) (⟨by rw [e]; rfl, rfl⟩)
  · simp at h
    refine r_iconst (pc := 11) (v := nI 0) X dX2_canHide_11 (by decide) ?_
    have e : canT S m' w = false := by unfold canT; simp [h]
    exact r_zret (pc := 12) X dX2_canHide_12 (by first | rfl | decide | exact zb_nar _) (⟨by rw [e]; rfl, rfl⟩)
end S14
