section S43
variable {Γ : KK} {l : Launch} {sz : Nat} {μ : MM} {y : Nat} {T S : Nat → Nat} {un : Nat} {A : Nat → Nat → Nat} {kf : Nat → Bool} {K : Nat → Nat → Nat} {n : Nat} {xs : Nat → Nat} {sn : Nat} {V : Nat → Nat}
theorem lt_of_dec {x : Int32} {lo hi : Int64} {a b : Int} (h1 : lo.toInt = a) (h2 : hi.toInt = b) : zb (decide (lo.toInt ≤ x.toInt64.toInt ∧ x.toInt64.toInt ≤ hi.toInt)) = zb (decide (a ≤ x.toInt ∧ x.toInt ≤ b)) := by rw [i64, h1, h2]
theorem t7_write (h : WM Γ μ y T S un A kf K n xs sn V) (hI : INV T S un A kf K n xs sn V) (v1 : Int32) : CT Γ l 1 sz 0 0 mX7_write [.ref y, .int v1] μ (ri (fun r μ' => r = (opWrite n xs v1).1 ∧ WM Γ μ' y T S un A kf K (opWrite n xs v1).2.1 (opWrite n xs v1).2.2 sn V ∧ Fr y 10 μ μ')) := by
  obtain ⟨pl, tk, vl, bg, cl, rd, ah, kp, mo, a0, a1, a2, a3, a4, a5, a6, a7, a8, a9, a10, a11⟩ := id h
  obtain ⟨i1, i2, i3, i4, i5, i6, i7, i8, i9⟩ := id hI
  obtain ⟨t1, t2, t3, t4, t5, t6, t7, t8, t9, t10, t11⟩ := id i1
  obtain ⟨z1, z2, z3, z4, z5, z6, z7, z8, z9⟩ := id i2
  refine CT.go RX7 rfl "write" rfl [some (.ref y), some (.int v1)] rfl (by decide) (Nat.le_of_ble_eq_true rfl) ?_
  intro p e R s m args below meth c X hsz
  refine r_iload_n (pc := 0) X dX7_write_0 rfl ?_
  refine r_i2l (pc := 1) X dX7_write_1 rfl ?_
  refine r_lconst (pc := 2) (v := 0) X dX7_write_2 (by decide) ?_
  refine r_ldc2 (pc := 3) X k_X7_49 dX7_write_3 ?_
  refine c_i X (rS (pc := 6) X l_X7_45 (t7_in v1.toInt64 0 255) dX7_write_6 rfl rfl (Nat.le_of_ble_eq_true rfl) (by decide) (Nat.le_of_ble_eq_true rfl) (Nat.le_of_ble_eq_true rfl)) ?_
  rintro _ μq ⟨rfl, hμq⟩
  rw [hμq]
  clear hμq μq
  rw [lt_of_dec (a := 0) (b := 255) (by decide) (by decide)]
  first | refine r_if_neZ (pc := 9) X 15 dX7_write_9 (by decide) (fun h1 => ?_) (fun h1 => ?_) | refine r_if_neN (pc := 9) X 15 dX7_write_9 (by decide) (by omega) (fun h1 => ?_) (fun h1 => ?_) | refine r_if_ne (pc := 9) X 15 dX7_write_9 (by decide) (fun h1 => ?_) (fun h1 => ?_)
  · have h1' : 0 ≤ v1.toInt ∧ v1.toInt ≤ 255 := by simpa using h1
    have hv := nt_nI h1'.1
    have hl : nt v1 < 256 := by unfold nt; omega
    refine r_aload_n (pc := 15) X dX7_write_15 rfl ?_
    apply r_get (pc := 16) X f_X7_51 dX7_write_16
    · repeat (first | exact mu_self | assumption | refine (mu_ne (by omega)).trans ?_)
    · rfl
    refine r_sipush (pc := 19) (v := nI 160) X dX7_write_19 (by decide) ?_
    first | refine r_icmp_neN (pc := 22) X 28 dX7_write_22 (by decide) (by omega) (by omega) (fun h2 => ?_) (fun h2 => ?_) | refine r_icmp_ne (pc := 22) X 28 dX7_write_22 (by decide) (fun h2 => ?_) (fun h2 => ?_)
    · have eo : opWrite n xs v1 = (nI (n + 1), n + 1, upN xs n (nt v1)) := by unfold opWrite; rw [if_neg (fun q => q h1'), if_neg h2]
      rw [eo]
      clear eo
      obtain ⟨k', hk⟩ : ∃ k', k' = nt v1 := ⟨_, rfl⟩
      rw [← hk] at hv hl ⊢
      subst hv
      refine r_aload_n (pc := 28) X dX7_write_28 rfl ?_
      apply r_get (pc := 29) X f_X7_16 dX7_write_29
      · repeat (first | exact mu_self | assumption | refine (mu_ne (by omega)).trans ?_)
      · rfl
      refine r_aload_n (pc := 32) X dX7_write_32 rfl ?_
      apply r_get (pc := 33) X f_X7_51 dX7_write_33
      · repeat (first | exact mu_self | assumption | refine (mu_ne (by omega)).trans ?_)
      · rfl
      refine r_iload_n (pc := 36) X dX7_write_36 rfl ?_
      apply r_iast (pc := 37) X dX7_write_37
      · repeat (first | exact mu_self | assumption | refine (mu_ne (by omega)).trans ?_)
      · omega
      · decide
      refine r_aload_n (pc := 38) X dX7_write_38 rfl ?_
      refine r_dup (pc := 39) X dX7_write_39 rfl ?_
      apply r_get (pc := 40) X f_X7_51 dX7_write_40
      · repeat (first | exact mu_self | assumption | refine (mu_ne (by omega)).trans ?_)
      · rfl
      refine r_iconst (pc := 43) (v := nI 1) X dX7_write_43 (by decide) ?_
      first | refine r_iaddN (pc := 44) X dX7_write_44 ?_ | refine r_iadd (pc := 44) X dX7_write_44 ?_
      first | refine r_putS (pc := 45) X f_X7_51 dX7_write_45 (by first | rfl | assumption | decide | simp [narrow]) (by first | rfl | assumption) (Nat.le_of_ble_eq_true rfl) ?_ | refine r_put (pc := 45) X f_X7_51 dX7_write_45 (by repeat (first | exact mu_self | assumption | refine (mu_ne (by omega)).trans ?_)) (by first | rfl | assumption | decide | simp [narrow]) (by first | rfl | assumption) (Nat.le_of_ble_eq_true rfl) ?_
      refine r_aload_n (pc := 48) X dX7_write_48 rfl ?_
      apply r_get (pc := 49) X f_X7_51 dX7_write_49
      · repeat (first | exact mu_self | assumption | refine (mu_ne (by omega)).trans ?_)
      · rfl
      have e1 : upd (fun i => nI (xs i)) n (nI k') = fun i => nI (upN xs n k' i) := by
        funext i
        unfold upd upN
        by_cases hi : i = n
        · rw [if_pos hi, if_pos hi]
        · rw [if_neg hi, if_neg hi]
      rw [e1]
      exact r_iret (pc := 52) X dX7_write_52 (⟨rfl, ⟨pl, tk, vl, bg, cl, rd, ah, kp, mo, mu_self, (by repeat (first | exact mu_self | assumption | refine (mu_ne (by omega)).trans ?_)), (by repeat (first | exact mu_self | assumption | refine (mu_ne (by omega)).trans ?_)), (by repeat (first | exact mu_self | assumption | refine (mu_ne (by omega)).trans ?_)), (by repeat (first | exact mu_self | assumption | refine (mu_ne (by omega)).trans ?_)), (by repeat (first | exact mu_self | assumption | refine (mu_ne (by omega)).trans ?_)), a6, (by repeat (first | exact mu_self | assumption | refine (mu_ne (by omega)).trans ?_)), (by repeat (first | exact mu_self | assumption | refine (mu_ne (by omega)).trans ?_)), a9, (by repeat (first | exact mu_self | assumption | refine (mu_ne (by omega)).trans ?_)), (by repeat (first | exact mu_self | assumption | refine (mu_ne (by omega)).trans ?_))⟩, (fun q hq => by repeat (first | rfl | refine (mu_ne (by omega)).trans ?_))⟩)
    · have eo : opWrite n xs v1 = (-5, n, xs) := by unfold opWrite; rw [if_neg (fun q => q h1'), if_pos h2]
      rw [eo]
      refine r_bipush (pc := 25) (v := -5) X dX7_write_25 (by decide) ?_
      exact r_iret (pc := 27) X dX7_write_27 (⟨rfl, h, Fr.rf⟩)
  · have h1' : ¬ (0 ≤ v1.toInt ∧ v1.toInt ≤ 255) := by simpa using h1
    have eo : opWrite n xs v1 = (-3, n, xs) := by unfold opWrite; rw [if_pos h1']
    rw [eo]
    refine r_bipush (pc := 12) (v := -3) X dX7_write_12 (by decide) ?_
    exact r_iret (pc := 14) X dX7_write_14 (⟨rfl, h, Fr.rf⟩)
theorem t7_erase (h : WM Γ μ y T S un A kf K n xs sn V) (hI : INV T S un A kf K n xs sn V) : CT Γ l 0 sz 0 0 mX7_erase [.ref y] μ (ri (fun r μ' => r = nI n ∧ WM Γ μ' y T S un A kf K 0 xs sn V ∧ Fr y 10 μ μ')) := by
  obtain ⟨pl, tk, vl, bg, cl, rd, ah, kp, mo, a0, a1, a2, a3, a4, a5, a6, a7, a8, a9, a10, a11⟩ := id h
  obtain ⟨i1, i2, i3, i4, i5, i6, i7, i8, i9⟩ := id hI
  obtain ⟨t1, t2, t3, t4, t5, t6, t7, t8, t9, t10, t11⟩ := id i1
  obtain ⟨z1, z2, z3, z4, z5, z6, z7, z8, z9⟩ := id i2
  refine CT.go RX7 rfl "erase" rfl [some (.ref y), none] rfl (by decide) (Nat.le_of_ble_eq_true rfl) ?_
  intro p e R s m args below meth c X hsz
  refine r_aload_n (pc := 0) X dX7_erase_0 rfl ?_
  apply r_get (pc := 1) X f_X7_51 dX7_erase_1
  · repeat (first | exact mu_self | assumption | refine (mu_ne (by omega)).trans ?_)
  · rfl
  refine r_istore_n (pc := 4) X dX7_erase_4 (by decide) rfl ?_
  refine r_aload_n (pc := 5) X dX7_erase_5 rfl ?_
  refine r_iconst (pc := 6) (v := nI 0) X dX7_erase_6 (by decide) ?_
  first | refine r_putS (pc := 7) X f_X7_51 dX7_erase_7 (by first | rfl | assumption | decide | simp [narrow]) (by first | rfl | assumption) (Nat.le_of_ble_eq_true rfl) ?_ | refine r_put (pc := 7) X f_X7_51 dX7_erase_7 (by repeat (first | exact mu_self | assumption | refine (mu_ne (by omega)).trans ?_)) (by first | rfl | assumption | decide | simp [narrow]) (by first | rfl | assumption) (Nat.le_of_ble_eq_true rfl) ?_
  refine r_iload_n (pc := 10) X dX7_erase_10 rfl ?_
  exact r_iret (pc := 11) X dX7_erase_11 (⟨rfl, ⟨pl, tk, vl, bg, cl, rd, ah, kp, mo, mu_self, (by repeat (first | exact mu_self | assumption | refine (mu_ne (by omega)).trans ?_)), (by repeat (first | exact mu_self | assumption | refine (mu_ne (by omega)).trans ?_)), (by repeat (first | exact mu_self | assumption | refine (mu_ne (by omega)).trans ?_)), (by repeat (first | exact mu_self | assumption | refine (mu_ne (by omega)).trans ?_)), (by repeat (first | exact mu_self | assumption | refine (mu_ne (by omega)).trans ?_)), a6, (by repeat (first | exact mu_self | assumption | refine (mu_ne (by omega)).trans ?_)), (by repeat (first | exact mu_self | assumption | refine (mu_ne (by omega)).trans ?_)), a9, (by repeat (first | exact mu_self | assumption | refine (mu_ne (by omega)).trans ?_)), (by repeat (first | exact mu_self | assumption | refine (mu_ne (by omega)).trans ?_))⟩, (fun q hq => by repeat (first | rfl | refine (mu_ne (by omega)).trans ?_))⟩)
theorem t7_man (h : WM Γ μ y T S un A kf K n xs sn V) (hI : INV T S un A kf K n xs sn V) (v1 v2 : Int32) : CT Γ l 2 sz 0 0 mX7_man [.ref y, .int v1, .int v2] μ (ri (fun r μ' => r = opMan T S v1 v2 ∧ μ' = μ)) := by
  obtain ⟨pl, tk, vl, bg, cl, rd, ah, kp, mo, a0, a1, a2, a3, a4, a5, a6, a7, a8, a9, a10, a11⟩ := id h
  obtain ⟨i1, i2, i3, i4, i5, i6, i7, i8, i9⟩ := id hI
  obtain ⟨t1, t2, t3, t4, t5, t6, t7, t8, t9, t10, t11⟩ := id i1
  obtain ⟨z1, z2, z3, z4, z5, z6, z7, z8, z9⟩ := id i2
  refine CT.go RX7 rfl "man" rfl [some (.ref y), some (.int v1), some (.int v2)] rfl (by decide) (Nat.le_of_ble_eq_true rfl) ?_
  intro p e R s m args below meth c X hsz
  refine r_aload_n (pc := 0) X dX7_man_0 rfl ?_
  refine r_iload_n (pc := 1) X dX7_man_1 rfl ?_
  refine c_i X (rV (pc := 2) (ci := 7) X l_X7_123 (t7_isMan a0 a1 t1 v1) dX7_man_2 (by repeat (first | exact mu_self | assumption | refine (mu_ne (by omega)).trans ?_)) rfl rfl rfl (Nat.le_of_ble_eq_true rfl) (by decide) (Nat.le_of_ble_eq_true rfl) (Nat.le_of_ble_eq_true rfl)) ?_
  rintro _ μq ⟨rfl, hμq⟩
  rw [hμq]
  clear hμq μq
  unfold opMan
  first | refine r_if_neZ (pc := 5) X 11 dX7_man_5 (by decide) (fun h1 => ?_) (fun h1 => ?_) | refine r_if_neN (pc := 5) X 11 dX7_man_5 (by decide) (by omega) (fun h1 => ?_) (fun h1 => ?_) | refine r_if_ne (pc := 5) X 11 dX7_man_5 (by decide) (fun h1 => ?_) (fun h1 => ?_)
  · have h1' : 0 ≤ v1.toInt ∧ v1.toInt < T 0 := by simpa using h1
    have hv := nt_nI h1'.1
    have hl : nt v1 < T 0 := nt_lt h1'.1 h1'.2
    rw [if_neg (fun q => q h1')]
    obtain ⟨k', hk⟩ : ∃ k', k' = nt v1 := ⟨_, rfl⟩
    rw [← hk] at hv hl ⊢
    subst hv
    refine r_iload_n (pc := 11) X dX7_man_11 rfl ?_
    refine r_i2l (pc := 12) X dX7_man_12 rfl ?_
    refine r_lconst (pc := 13) (v := 0) X dX7_man_13 (by decide) ?_
    refine r_ldc2 (pc := 14) X k_X7_127 dX7_man_14 ?_
    refine c_i X (rS (pc := 17) X l_X7_45 (t7_in v2.toInt64 0 2) dX7_man_17 rfl rfl (Nat.le_of_ble_eq_true rfl) (by decide) (Nat.le_of_ble_eq_true rfl) (Nat.le_of_ble_eq_true rfl)) ?_
    rintro _ μq ⟨rfl, hμq⟩
    rw [hμq]
    clear hμq μq
    rw [lt_of_dec (a := 0) (b := 2) (by decide) (by decide)]
    first | refine r_if_neZ (pc := 20) X 26 dX7_man_20 (by decide) (fun h2 => ?_) (fun h2 => ?_) | refine r_if_neN (pc := 20) X 26 dX7_man_20 (by decide) (by omega) (fun h2 => ?_) (fun h2 => ?_) | refine r_if_ne (pc := 20) X 26 dX7_man_20 (by decide) (fun h2 => ?_) (fun h2 => ?_)
    · have h2' : 0 ≤ v2.toInt ∧ v2.toInt ≤ 2 := by simpa using h2
      refine r_iload_n (pc := 26) X dX7_man_26 rfl ?_
      refine r_if_ne (pc := 27) X 41 dX7_man_27 (by decide) (fun h3 => ?_) (fun h3 => ?_)
      · have h3' : v2.toInt ≠ 0 := fun q => h3 (Int32.toInt_inj.mp (by rw [q]; decide))
        rw [if_neg h3']
        refine r_iload_n (pc := 41) X dX7_man_41 rfl ?_
        refine r_iconst (pc := 42) (v := nI 1) X dX7_man_42 (by decide) ?_
        refine r_icmp_ne (pc := 43) X 58 dX7_man_43 (by decide) (fun h4 => ?_) (fun h4 => ?_)
        · have h4' : v2.toInt ≠ 1 := fun q => h4 (Int32.toInt_inj.mp (by rw [q]; decide))
          rw [if_neg h4', if_pos (by omega)]
          refine r_aload_n (pc := 58) X dX7_man_58 rfl ?_
          apply r_get (pc := 59) X f_X7_13 dX7_man_59
          · repeat (first | exact mu_self | assumption | refine (mu_ne (by omega)).trans ?_)
          · rfl
          refine r_bipush (pc := 62) (v := nI 12) X dX7_man_62 (by decide) ?_
          refine r_iload_n (pc := 64) X dX7_man_64 rfl ?_
          first | refine r_iaddN (pc := 65) X dX7_man_65 ?_ | refine r_iadd (pc := 65) X dX7_man_65 ?_
          apply r_iald (pc := 66) X dX7_man_66
          · repeat (first | exact mu_self | assumption | refine (mu_ne (by omega)).trans ?_)
          · omega
          · decide
          rw [stI_hi (by omega)]
          exact r_iret (pc := 67) X dX7_man_67 (⟨rfl, rfl⟩)
        · have h4' : v2.toInt = 1 := by rw [h4]; decide
          rw [if_pos h4']
          refine r_aload_n (pc := 46) X dX7_man_46 rfl ?_
          apply r_get (pc := 47) X f_X7_13 dX7_man_47
          · repeat (first | exact mu_self | assumption | refine (mu_ne (by omega)).trans ?_)
          · rfl
          refine r_bipush (pc := 50) (v := nI 6) X dX7_man_50 (by decide) ?_
          refine r_iload_n (pc := 52) X dX7_man_52 rfl ?_
          first | refine r_iaddN (pc := 53) X dX7_man_53 ?_ | refine r_iadd (pc := 53) X dX7_man_53 ?_
          apply r_iald (pc := 54) X dX7_man_54
          · repeat (first | exact mu_self | assumption | refine (mu_ne (by omega)).trans ?_)
          · omega
          · decide
          rw [stI_lo (by omega)]
          refine r_goto (pc := 55) X 67 dX7_man_55 (by decide) ?_
          exact r_iret (pc := 67) X dX7_man_67 (⟨rfl, rfl⟩)
      · have h3' : v2.toInt = 0 := by rw [h3]; decide
        rw [if_pos h3']
        refine r_aload_n (pc := 30) X dX7_man_30 rfl ?_
        apply r_get (pc := 31) X f_X7_7 dX7_man_31
        · repeat (first | exact mu_self | assumption | refine (mu_ne (by omega)).trans ?_)
        · rfl
        refine r_iconst (pc := 34) (v := nI 1) X dX7_man_34 (by decide) ?_
        refine r_iload_n (pc := 35) X dX7_man_35 rfl ?_
        first | refine r_iaddN (pc := 36) X dX7_man_36 ?_ | refine r_iadd (pc := 36) X dX7_man_36 ?_
        apply r_iald (pc := 37) X dX7_man_37
        · repeat (first | exact mu_self | assumption | refine (mu_ne (by omega)).trans ?_)
        · omega
        · decide
        refine r_goto (pc := 38) X 67 dX7_man_38 (by decide) ?_
        exact r_iret (pc := 67) X dX7_man_67 (⟨rfl, rfl⟩)
    · have h2' : ¬ (0 ≤ v2.toInt ∧ v2.toInt ≤ 2) := by simpa using h2
      rw [if_neg (by omega), if_neg (by omega), if_neg (by omega)]
      refine r_bipush (pc := 23) (v := -3) X dX7_man_23 (by decide) ?_
      exact r_iret (pc := 25) X dX7_man_25 (⟨rfl, rfl⟩)
  · have h1' : ¬ (0 ≤ v1.toInt ∧ v1.toInt < T 0) := by simpa using h1
    rw [if_pos h1']
    refine r_bipush (pc := 8) (v := -2) X dX7_man_8 (by decide) ?_
    exact r_iret (pc := 10) X dX7_man_10 (⟨rfl, rfl⟩)
theorem zb_tb {b k : Nat} : nI (b >>> k &&& 1) = zb (b.testBit k) := by
  cases hq : b.testBit k with
  | true => rw [tb_iff.mpr hq]; rfl
  | false =>
    have h1 : b >>> k &&& 1 ≤ 1 := Nat.and_le_right
    have h2 : b >>> k &&& 1 ≠ 1 := fun q => by rw [tb_iff.mp q] at hq; cases hq
    rw [show b >>> k &&& 1 = 0 by omega]; rfl
theorem t7_sheep (h : WM Γ μ y T S un A kf K n xs sn V) (hI : INV T S un A kf K n xs sn V) (v1 v2 : Int32) : CT Γ l 2 sz 0 0 mX7_sheep [.ref y, .int v1, .int v2] μ (ri (fun r μ' => r = opSheep T S v1 v2 ∧ μ' = μ)) := by
  obtain ⟨pl, tk, vl, bg, cl, rd, ah, kp, mo, a0, a1, a2, a3, a4, a5, a6, a7, a8, a9, a10, a11⟩ := id h
  obtain ⟨i1, i2, i3, i4, i5, i6, i7, i8, i9⟩ := id hI
  obtain ⟨t1, t2, t3, t4, t5, t6, t7, t8, t9, t10, t11⟩ := id i1
  obtain ⟨z1, z2, z3, z4, z5, z6, z7, z8, z9⟩ := id i2
  have hg : S 5 < 2 ^ 6 := Nat.lt_of_lt_of_le z5 (Nat.pow_le_pow_right (by decide) t2)
  refine CT.go RX7 rfl "sheep" rfl [some (.ref y), some (.int v1), some (.int v2)] rfl (by decide) (Nat.le_of_ble_eq_true rfl) ?_
  intro p e R s m args below meth c X hsz
  refine r_aload_n (pc := 0) X dX7_sheep_0 rfl ?_
  refine r_iload_n (pc := 1) X dX7_sheep_1 rfl ?_
  refine c_i X (rV (pc := 2) (ci := 7) X l_X7_129 (t7_isSheep a0 a1 t2 v1) dX7_sheep_2 (by repeat (first | exact mu_self | assumption | refine (mu_ne (by omega)).trans ?_)) rfl rfl rfl (Nat.le_of_ble_eq_true rfl) (by decide) (Nat.le_of_ble_eq_true rfl) (Nat.le_of_ble_eq_true rfl)) ?_
  rintro _ μq ⟨rfl, hμq⟩
  rw [hμq]
  clear hμq μq
  unfold opSheep
  first | refine r_if_neZ (pc := 5) X 11 dX7_sheep_5 (by decide) (fun h1 => ?_) (fun h1 => ?_) | refine r_if_neN (pc := 5) X 11 dX7_sheep_5 (by decide) (by omega) (fun h1 => ?_) (fun h1 => ?_) | refine r_if_ne (pc := 5) X 11 dX7_sheep_5 (by decide) (fun h1 => ?_) (fun h1 => ?_)
  · have h1' : 0 ≤ v1.toInt ∧ v1.toInt < T 7 := by simpa using h1
    have hv := nt_nI h1'.1
    have hl : nt v1 < T 7 := nt_lt h1'.1 h1'.2
    rw [if_neg (fun q => q h1')]
    obtain ⟨k', hk⟩ : ∃ k', k' = nt v1 := ⟨_, rfl⟩
    rw [← hk] at hv hl ⊢
    subst hv
    refine r_iload_n (pc := 11) X dX7_sheep_11 rfl ?_
    refine r_i2l (pc := 12) X dX7_sheep_12 rfl ?_
    refine r_lconst (pc := 13) (v := 0) X dX7_sheep_13 (by decide) ?_
    refine r_ldc2 (pc := 14) X k_X7_132 dX7_sheep_14 ?_
    refine c_i X (rS (pc := 17) X l_X7_45 (t7_in v2.toInt64 0 3) dX7_sheep_17 rfl rfl (Nat.le_of_ble_eq_true rfl) (by decide) (Nat.le_of_ble_eq_true rfl) (Nat.le_of_ble_eq_true rfl)) ?_
    rintro _ μq ⟨rfl, hμq⟩
    rw [hμq]
    clear hμq μq
    rw [lt_of_dec (a := 0) (b := 3) (by decide) (by decide)]
    first | refine r_if_neZ (pc := 20) X 26 dX7_sheep_20 (by decide) (fun h2 => ?_) (fun h2 => ?_) | refine r_if_neN (pc := 20) X 26 dX7_sheep_20 (by decide) (by omega) (fun h2 => ?_) (fun h2 => ?_) | refine r_if_ne (pc := 20) X 26 dX7_sheep_20 (by decide) (fun h2 => ?_) (fun h2 => ?_)
    · have h2' : 0 ≤ v2.toInt ∧ v2.toInt ≤ 3 := by simpa using h2
      refine r_iload_n (pc := 26) X dX7_sheep_26 rfl ?_
      refine r_if_ne (pc := 27) X 42 dX7_sheep_27 (by decide) (fun h3 => ?_) (fun h3 => ?_)
      · have h3' : v2.toInt ≠ 0 := fun q => h3 (Int32.toInt_inj.mp (by rw [q]; decide))
        rw [if_neg h3']
        refine r_iload_n (pc := 42) X dX7_sheep_42 rfl ?_
        refine r_iconst (pc := 43) (v := nI 1) X dX7_sheep_43 (by decide) ?_
        refine r_icmp_ne (pc := 44) X 59 dX7_sheep_44 (by decide) (fun h4 => ?_) (fun h4 => ?_)
        · have h4' : v2.toInt ≠ 1 := fun q => h4 (Int32.toInt_inj.mp (by rw [q]; decide))
          rw [if_neg h4']
          refine r_iload_n (pc := 59) X dX7_sheep_59 rfl ?_
          refine r_iconst (pc := 60) (v := nI 2) X dX7_sheep_60 (by decide) ?_
          refine r_icmp_ne (pc := 61) X 77 dX7_sheep_61 (by decide) (fun h5 => ?_) (fun h5 => ?_)
          · have h5' : v2.toInt ≠ 2 := fun q => h5 (Int32.toInt_inj.mp (by rw [q]; decide))
            rw [if_neg h5', if_pos (by omega)]
            refine r_aload_n (pc := 77) X dX7_sheep_77 rfl ?_
            refine r_iload_n (pc := 78) X dX7_sheep_78 rfl ?_
            refine c_i X (rV (pc := 79) (ci := 7) X l_X7_134 (t7_under a0 a1 a2 t1 t2 i2 (s' := k') (by omega)) dX7_sheep_79 (by repeat (first | exact mu_self | assumption | refine (mu_ne (by omega)).trans ?_)) rfl rfl rfl (Nat.le_of_ble_eq_true rfl) (by decide) (Nat.le_of_ble_eq_true rfl) (Nat.le_of_ble_eq_true rfl)) ?_
            rintro _ μq ⟨rfl, hμq⟩
            rw [hμq]
            clear hμq μq
            exact r_iret (pc := 82) X dX7_sheep_82 (⟨rfl, rfl⟩)
          · have h5' : v2.toInt = 2 := by rw [h5]; decide
            rw [if_pos h5']
            refine r_aload_n (pc := 64) X dX7_sheep_64 rfl ?_
            apply r_get (pc := 65) X f_X7_13 dX7_sheep_65
            · repeat (first | exact mu_self | assumption | refine (mu_ne (by omega)).trans ?_)
            · rfl
            refine r_iconst (pc := 68) (v := nI 5) X dX7_sheep_68 (by decide) ?_
            apply r_iald (pc := 69) X dX7_sheep_69
            · repeat (first | exact mu_self | assumption | refine (mu_ne (by omega)).trans ?_)
            · omega
            · decide
            rw [stI_lo (by omega)]
            refine r_iload_n (pc := 70) X dX7_sheep_70 rfl ?_
            first | refine r_ishrN (pc := 71) X dX7_sheep_71 (by omega) (by omega) ?_ | refine r_ishr (pc := 71) X dX7_sheep_71 ?_
            refine r_iconst (pc := 72) (v := nI 1) X dX7_sheep_72 (by decide) ?_
            first | refine r_iandN (pc := 73) X dX7_sheep_73 ?_ | refine r_iand (pc := 73) X dX7_sheep_73 ?_
            refine r_goto (pc := 74) X 82 dX7_sheep_74 (by decide) ?_
            rw [zb_tb]
            exact r_iret (pc := 82) X dX7_sheep_82 (⟨rfl, rfl⟩)
        · have h4' : v2.toInt = 1 := by rw [h4]; decide
          rw [if_pos h4']
          refine r_aload_n (pc := 47) X dX7_sheep_47 rfl ?_
          apply r_get (pc := 48) X f_X7_7 dX7_sheep_48
          · repeat (first | exact mu_self | assumption | refine (mu_ne (by omega)).trans ?_)
          · rfl
          refine r_bipush (pc := 51) (v := nI 14) X dX7_sheep_51 (by decide) ?_
          refine r_iload_n (pc := 53) X dX7_sheep_53 rfl ?_
          first | refine r_iaddN (pc := 54) X dX7_sheep_54 ?_ | refine r_iadd (pc := 54) X dX7_sheep_54 ?_
          apply r_iald (pc := 55) X dX7_sheep_55
          · repeat (first | exact mu_self | assumption | refine (mu_ne (by omega)).trans ?_)
          · omega
          · decide
          refine r_goto (pc := 56) X 82 dX7_sheep_56 (by decide) ?_
          exact r_iret (pc := 82) X dX7_sheep_82 (⟨rfl, rfl⟩)
      · have h3' : v2.toInt = 0 := by rw [h3]; decide
        rw [if_pos h3']
        refine r_aload_n (pc := 30) X dX7_sheep_30 rfl ?_
        apply r_get (pc := 31) X f_X7_7 dX7_sheep_31
        · repeat (first | exact mu_self | assumption | refine (mu_ne (by omega)).trans ?_)
        · rfl
        refine r_bipush (pc := 34) (v := nI 8) X dX7_sheep_34 (by decide) ?_
        refine r_iload_n (pc := 36) X dX7_sheep_36 rfl ?_
        first | refine r_iaddN (pc := 37) X dX7_sheep_37 ?_ | refine r_iadd (pc := 37) X dX7_sheep_37 ?_
        apply r_iald (pc := 38) X dX7_sheep_38
        · repeat (first | exact mu_self | assumption | refine (mu_ne (by omega)).trans ?_)
        · omega
        · decide
        refine r_goto (pc := 39) X 82 dX7_sheep_39 (by decide) ?_
        exact r_iret (pc := 82) X dX7_sheep_82 (⟨rfl, rfl⟩)
    · have h2' : ¬ (0 ≤ v2.toInt ∧ v2.toInt ≤ 3) := by simpa using h2
      rw [if_neg (by omega), if_neg (by omega), if_neg (by omega), if_neg (by omega)]
      refine r_bipush (pc := 23) (v := -3) X dX7_sheep_23 (by decide) ?_
      exact r_iret (pc := 25) X dX7_sheep_25 (⟨rfl, rfl⟩)
  · have h1' : ¬ (0 ≤ v1.toInt ∧ v1.toInt < T 7) := by simpa using h1
    rw [if_pos h1']
    refine r_bipush (pc := 8) (v := -2) X dX7_sheep_8 (by decide) ?_
    exact r_iret (pc := 10) X dX7_sheep_10 (⟨rfl, rfl⟩)
theorem t7_near (h : WM Γ μ y T S un A kf K n xs sn V) (hI : INV T S un A kf K n xs sn V) (v1 : Int32) : CT Γ l 1 sz 0 0 mX7_near [.ref y, .int v1] μ (ri (fun r μ' => r = opNear T v1 ∧ μ' = μ)) := by
  obtain ⟨pl, tk, vl, bg, cl, rd, ah, kp, mo, a0, a1, a2, a3, a4, a5, a6, a7, a8, a9, a10, a11⟩ := id h
  obtain ⟨i1, i2, i3, i4, i5, i6, i7, i8, i9⟩ := id hI
  obtain ⟨t1, t2, t3, t4, t5, t6, t7, t8, t9, t10, t11⟩ := id i1
  obtain ⟨z1, z2, z3, z4, z5, z6, z7, z8, z9⟩ := id i2
  refine CT.go RX7 rfl "near" rfl [some (.ref y), some (.int v1)] rfl (by decide) (Nat.le_of_ble_eq_true rfl) ?_
  intro p e R s m args below meth c X hsz
  refine r_iload_n (pc := 0) X dX7_near_0 rfl ?_
  refine r_i2l (pc := 1) X dX7_near_1 rfl ?_
  refine r_lconst (pc := 2) (v := 0) X dX7_near_2 (by decide) ?_
  refine r_aload_n (pc := 3) X dX7_near_3 rfl ?_
  apply r_get (pc := 4) X f_X7_7 dX7_near_4
  · repeat (first | exact mu_self | assumption | refine (mu_ne (by omega)).trans ?_)
  · rfl
  refine r_bipush (pc := 7) (v := nI 20) X dX7_near_7 (by decide) ?_
  apply r_iald (pc := 9) X dX7_near_9
  · repeat (first | exact mu_self | assumption | refine (mu_ne (by omega)).trans ?_)
  · omega
  · decide
  refine r_iconst (pc := 10) (v := nI 1) X dX7_near_10 (by decide) ?_
  refine r_isub (pc := 11) X dX7_near_11 ?_
  refine r_i2l (pc := 12) X dX7_near_12 rfl ?_
  refine c_i X (rS (pc := 13) X l_X7_45 (t7_in v1.toInt64 0 (nI (T 20) - nI 1).toInt64) dX7_near_13 rfl rfl (Nat.le_of_ble_eq_true rfl) (by decide) (Nat.le_of_ble_eq_true rfl) (Nat.le_of_ble_eq_true rfl)) ?_
  rintro _ μq ⟨rfl, hμq⟩
  rw [hμq]
  clear hμq μq
  rw [lt_of_dec (a := 0) (b := (T 20 : Int) - 1) (by decide) (by rw [i64]; exact uI_toInt (by omega))]
  unfold opNear
  first | refine r_if_eqZ (pc := 16) X 31 dX7_near_16 (by decide) (fun h1 => ?_) (fun h1 => ?_) | refine r_if_eqN (pc := 16) X 31 dX7_near_16 (by decide) (by omega) (fun h1 => ?_) (fun h1 => ?_) | refine r_if_eq (pc := 16) X 31 dX7_near_16 (by decide) (fun h1 => ?_) (fun h1 => ?_)
  · have h1' : ¬ (0 ≤ v1.toInt ∧ v1.toInt ≤ (T 20 : Int) - 1) := by simpa using h1
    rw [if_neg (by omega)]
    refine r_bipush (pc := 31) (v := -2) X dX7_near_31 (by decide) ?_
    exact r_iret (pc := 33) X dX7_near_33 (⟨rfl, rfl⟩)
  · have h1' : 0 ≤ v1.toInt ∧ v1.toInt ≤ (T 20 : Int) - 1 := by simpa using h1
    have hv := nt_nI h1'.1
    have hl : nt v1 < T 20 := nt_lt h1'.1 (by omega)
    rw [if_pos (by omega)]
    obtain ⟨k', hk⟩ : ∃ k', k' = nt v1 := ⟨_, rfl⟩
    rw [← hk] at hv hl ⊢
    subst hv
    refine r_aload_n (pc := 19) X dX7_near_19 rfl ?_
    apply r_get (pc := 20) X f_X7_7 dX7_near_20
    · repeat (first | exact mu_self | assumption | refine (mu_ne (by omega)).trans ?_)
    · rfl
    refine r_bipush (pc := 23) (v := nI 21) X dX7_near_23 (by decide) ?_
    refine r_iload_n (pc := 25) X dX7_near_25 rfl ?_
    first | refine r_iaddN (pc := 26) X dX7_near_26 ?_ | refine r_iadd (pc := 26) X dX7_near_26 ?_
    apply r_iald (pc := 27) X dX7_near_27
    · repeat (first | exact mu_self | assumption | refine (mu_ne (by omega)).trans ?_)
    · omega
    · decide
    refine r_goto (pc := 28) X 33 dX7_near_28 (by decide) ?_
    exact r_iret (pc := 33) X dX7_near_33 (⟨rfl, rfl⟩)
theorem inCh_ref : ∀ t, t ≤ 3 → ∀ a, a < 5 → inCh 5 (t + 2) a = decide (a = 0 ∨ (a = 1 ∧ t < 3) ∨ (1 < a ∧ t = a - 1)) := by decide +kernel
theorem t7_as (h : WM Γ μ y T S un A kf K n xs sn V) (hI : INV T S un A kf K n xs sn V) (v1 v2 : Int32) : CT Γ l 2 sz 0 0 mX7_as [.ref y, .int v1, .int v2] μ (ri (fun r μ' => r = opAs T v1 v2 ∧ μ' = μ)) := by
  obtain ⟨pl, tk, vl, bg, cl, rd, ah, kp, mo, a0, a1, a2, a3, a4, a5, a6, a7, a8, a9, a10, a11⟩ := id h
  obtain ⟨i1, i2, i3, i4, i5, i6, i7, i8, i9⟩ := id hI
  obtain ⟨t1, t2, t3, t4, t5, t6, t7, t8, t9, t10, t11⟩ := id i1
  obtain ⟨z1, z2, z3, z4, z5, z6, z7, z8, z9⟩ := id i2
  refine CT.go RX7 rfl "as" rfl [some (.ref y), some (.int v1), some (.int v2), none, none] rfl (by decide) (Nat.le_of_ble_eq_true rfl) ?_
  intro p e R s m args below meth c X hsz
  refine r_aload_n (pc := 0) X dX7_as_0 rfl ?_
  refine r_iload_n (pc := 1) X dX7_as_1 rfl ?_
  refine c_i X (rV (pc := 2) (ci := 7) X l_X7_129 (t7_isSheep a0 a1 t2 v1) dX7_as_2 (by repeat (first | exact mu_self | assumption | refine (mu_ne (by omega)).trans ?_)) rfl rfl rfl (Nat.le_of_ble_eq_true rfl) (by decide) (Nat.le_of_ble_eq_true rfl) (Nat.le_of_ble_eq_true rfl)) ?_
  rintro _ μq ⟨rfl, hμq⟩
  rw [hμq]
  clear hμq μq
  unfold opAs
  first | refine r_if_neZ (pc := 5) X 11 dX7_as_5 (by decide) (fun h1 => ?_) (fun h1 => ?_) | refine r_if_neN (pc := 5) X 11 dX7_as_5 (by decide) (by omega) (fun h1 => ?_) (fun h1 => ?_) | refine r_if_ne (pc := 5) X 11 dX7_as_5 (by decide) (fun h1 => ?_) (fun h1 => ?_)
  · have h1' : 0 ≤ v1.toInt ∧ v1.toInt < T 7 := by simpa using h1
    have hv := nt_nI h1'.1
    have hl : nt v1 < T 7 := nt_lt h1'.1 h1'.2
    rw [if_neg (fun q => q h1')]
    obtain ⟨k', hk⟩ : ∃ k', k' = nt v1 := ⟨_, rfl⟩
    rw [← hk] at hv hl ⊢
    subst hv
    refine r_iload_n (pc := 11) X dX7_as_11 rfl ?_
    refine r_i2l (pc := 12) X dX7_as_12 rfl ?_
    refine r_lconst (pc := 13) (v := 0) X dX7_as_13 (by decide) ?_
    refine r_ldc2 (pc := 14) X k_X7_137 dX7_as_14 ?_
    refine c_i X (rS (pc := 17) X l_X7_45 (t7_in v2.toInt64 0 4) dX7_as_17 rfl rfl (Nat.le_of_ble_eq_true rfl) (by decide) (Nat.le_of_ble_eq_true rfl) (Nat.le_of_ble_eq_true rfl)) ?_
    rintro _ μq ⟨rfl, hμq⟩
    rw [hμq]
    clear hμq μq
    rw [lt_of_dec (a := 0) (b := 4) (by decide) (by decide)]
    first | refine r_if_neZ (pc := 20) X 26 dX7_as_20 (by decide) (fun h2 => ?_) (fun h2 => ?_) | refine r_if_neN (pc := 20) X 26 dX7_as_20 (by decide) (by omega) (fun h2 => ?_) (fun h2 => ?_) | refine r_if_ne (pc := 20) X 26 dX7_as_20 (by decide) (fun h2 => ?_) (fun h2 => ?_)
    · have h2' : 0 ≤ v2.toInt ∧ v2.toInt ≤ 4 := by simpa using h2
      have hv2 := nt_nI h2'.1
      have hl2 : nt v2 < 5 := by unfold nt; omega
      rw [if_neg (fun q => q h2')]
      obtain ⟨j', hj⟩ : ∃ j', j' = nt v2 := ⟨_, rfl⟩
      rw [← hj] at hv2 hl2 ⊢
      subst hv2
      have hkd := t5 k' (by omega)
      rw [inCh_ref _ hkd _ hl2]
      have yes : (j' = 0 ∨ (j' = 1 ∧ T (8 + k') < 3) ∨ (1 < j' ∧ T (8 + k') = j' - 1)) → vV Γ p l e R s m args below meth c (vQ Γ s args below 0 0 (ri (fun r μ' => r = (if decide (j' = 0 ∨ (j' = 1 ∧ T (8 + k') < 3) ∨ (1 < j' ∧ T (8 + k') = j' - 1)) = true then nI (brT T k') else -4) ∧ μ' = μ))) 5 0 0 62 [some (.ref y), some (.int (nI k')), some (.int (nI j')), some (.int (nI (T (8 + k')))), none] [] μ := by
        intro hq
        rw [if_pos (decide_eq_true hq)]
        refine r_iconst (pc := 62) (v := nI 1) X dX7_as_62 (by decide) ?_
        refine r_goto (pc := 63) X 67 dX7_as_63 (by decide) ?_
        refine r_istore (pc := 67) X dX7_as_67 (by decide) rfl ?_
        refine r_iload (pc := 69) X dX7_as_69 rfl ?_
        refine r_if_eqN (pc := 71) X 82 dX7_as_71 (by decide) (by decide) (fun q => absurd q (by decide)) (fun _ => ?_)
        refine r_aload_n (pc := 74) X dX7_as_74 rfl ?_
        refine r_iload_n (pc := 75) X dX7_as_75 rfl ?_
        refine c_i X (rV (pc := 76) (ci := 7) X l_X7_139 (t7_bears a0 a1 i1 hl) dX7_as_76 (by repeat (first | exact mu_self | assumption | refine (mu_ne (by omega)).trans ?_)) rfl rfl rfl (Nat.le_of_ble_eq_true rfl) (by decide) (Nat.le_of_ble_eq_true rfl) (Nat.le_of_ble_eq_true rfl)) ?_
        rintro _ μq ⟨rfl, hμq⟩
        rw [hμq]
        clear hμq μq
        refine r_goto (pc := 79) X 84 dX7_as_79 (by decide) ?_
        exact r_iret (pc := 84) X dX7_as_84 (⟨rfl, rfl⟩)
      have no : ¬ (j' = 0 ∨ (j' = 1 ∧ T (8 + k') < 3) ∨ (1 < j' ∧ T (8 + k') = j' - 1)) → vV Γ p l e R s m args below meth c (vQ Γ s args below 0 0 (ri (fun r μ' => r = (if decide (j' = 0 ∨ (j' = 1 ∧ T (8 + k') < 3) ∨ (1 < j' ∧ T (8 + k') = j' - 1)) = true then nI (brT T k') else -4) ∧ μ' = μ))) 5 0 0 66 [some (.ref y), some (.int (nI k')), some (.int (nI j')), some (.int (nI (T (8 + k')))), none] [] μ := by
        intro hq
        rw [if_neg (by simpa using hq)]
        refine r_iconst (pc := 66) (v := nI 0) X dX7_as_66 (by decide) ?_
        refine r_istore (pc := 67) X dX7_as_67 (by decide) rfl ?_
        refine r_iload (pc := 69) X dX7_as_69 rfl ?_
        refine r_if_eqN (pc := 71) X 82 dX7_as_71 (by decide) (by decide) (fun _ => ?_) (fun q => absurd rfl q)
        refine r_bipush (pc := 82) (v := -4) X dX7_as_82 (by decide) ?_
        exact r_iret (pc := 84) X dX7_as_84 (⟨rfl, rfl⟩)
      refine r_aload_n (pc := 26) X dX7_as_26 rfl ?_
      apply r_get (pc := 27) X f_X7_7 dX7_as_27
      · repeat (first | exact mu_self | assumption | refine (mu_ne (by omega)).trans ?_)
      · rfl
      refine r_bipush (pc := 30) (v := nI 8) X dX7_as_30 (by decide) ?_
      refine r_iload_n (pc := 32) X dX7_as_32 rfl ?_
      first | refine r_iaddN (pc := 33) X dX7_as_33 ?_ | refine r_iadd (pc := 33) X dX7_as_33 ?_
      apply r_iald (pc := 34) X dX7_as_34
      · repeat (first | exact mu_self | assumption | refine (mu_ne (by omega)).trans ?_)
      · omega
      · decide
      refine r_istore_n (pc := 35) X dX7_as_35 (by decide) rfl ?_
      refine r_iload_n (pc := 36) X dX7_as_36 rfl ?_
      first | refine r_if_eqZ (pc := 37) X 62 dX7_as_37 (by decide) (fun h3 => ?_) (fun h3 => ?_) | refine r_if_eqN (pc := 37) X 62 dX7_as_37 (by decide) (by omega) (fun h3 => ?_) (fun h3 => ?_) | refine r_if_eq (pc := 37) X 62 dX7_as_37 (by decide) (fun h3 => ?_) (fun h3 => ?_)
      · exact yes (Or.inl h3)
      · have part : ¬ (j' = 1 ∧ T (8 + k') < 3) → vV Γ p l e R s m args below meth c (vQ Γ s args below 0 0 (ri (fun r μ' => r = (if decide (j' = 0 ∨ (j' = 1 ∧ T (8 + k') < 3) ∨ (1 < j' ∧ T (8 + k') = j' - 1)) = true then nI (brT T k') else -4) ∧ μ' = μ))) 5 0 0 50 [some (.ref y), some (.int (nI k')), some (.int (nI j')), some (.int (nI (T (8 + k')))), none] [] μ := by
          intro hq
          refine r_iload_n (pc := 50) X dX7_as_50 rfl ?_
          refine r_iconst (pc := 51) (v := nI 1) X dX7_as_51 (by decide) ?_
          first | refine r_icmp_leN (pc := 52) X 66 dX7_as_52 (by decide) (by omega) (by omega) (fun h5 => ?_) (fun h5 => ?_) | refine r_icmp_le (pc := 52) X 66 dX7_as_52 (by decide) (fun h5 => ?_) (fun h5 => ?_)
          · exact no (by omega)
          · refine r_iload_n (pc := 55) X dX7_as_55 rfl ?_
            refine r_iload_n (pc := 56) X dX7_as_56 rfl ?_
            refine r_iconst (pc := 57) (v := nI 1) X dX7_as_57 (by decide) ?_
            first | refine r_isubN (pc := 58) X dX7_as_58 (by omega) ?_ | refine r_isub (pc := 58) X dX7_as_58 ?_
            first | refine r_icmp_neN (pc := 59) X 66 dX7_as_59 (by decide) (by omega) (by omega) (fun h6 => ?_) (fun h6 => ?_) | refine r_icmp_ne (pc := 59) X 66 dX7_as_59 (by decide) (fun h6 => ?_) (fun h6 => ?_)
            · exact no (by omega)
            · exact yes (by omega)
        refine r_iload_n (pc := 40) X dX7_as_40 rfl ?_
        refine r_iconst (pc := 41) (v := nI 1) X dX7_as_41 (by decide) ?_
        first | refine r_icmp_neN (pc := 42) X 50 dX7_as_42 (by decide) (by omega) (by omega) (fun h4 => ?_) (fun h4 => ?_) | refine r_icmp_ne (pc := 42) X 50 dX7_as_42 (by decide) (fun h4 => ?_) (fun h4 => ?_)
        · exact part (by omega)
        · refine r_iload_n (pc := 45) X dX7_as_45 rfl ?_
          refine r_iconst (pc := 46) (v := nI 3) X dX7_as_46 (by decide) ?_
          first | refine r_icmp_ltN (pc := 47) X 62 dX7_as_47 (by decide) (by omega) (by omega) (fun h5 => ?_) (fun h5 => ?_) | refine r_icmp_lt (pc := 47) X 62 dX7_as_47 (by decide) (fun h5 => ?_) (fun h5 => ?_)
          · exact yes (by omega)
          · exact part (by omega)
    · have h2' : ¬ (0 ≤ v2.toInt ∧ v2.toInt ≤ 4) := by simpa using h2
      rw [if_pos h2']
      refine r_bipush (pc := 23) (v := -3) X dX7_as_23 (by decide) ?_
      exact r_iret (pc := 25) X dX7_as_25 (⟨rfl, rfl⟩)
  · have h1' : ¬ (0 ≤ v1.toInt ∧ v1.toInt < T 7) := by simpa using h1
    rw [if_pos h1']
    refine r_bipush (pc := 8) (v := -2) X dX7_as_8 (by decide) ?_
    exact r_iret (pc := 10) X dX7_as_10 (⟨rfl, rfl⟩)
end S43
