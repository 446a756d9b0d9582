section S48
variable {Γ : KK} {l : Launch} {sz : Nat} {μ : MM} {y : Nat} {T S : Nat → Nat} {un : Nat} {A : Nat → Nat → Nat} {kf : Nat → Bool} {K : Nat → Nat → Nat} {n : Nat} {xs : Nat → Nat} {sn : Nat} {V : Nat → Nat}
theorem nI_up {f : Nat → Nat} {k v : Nat} : upd (fun i => nI (f i)) k (nI v) = fun i => nI (upN f k v i) := by
  funext i
  unfold upd upN
  by_cases hi : i = k
  · rw [if_pos hi, if_pos hi]
  · rw [if_neg hi, if_neg hi]
theorem t7_seen (h : WM Γ μ y T S un A kf K n xs sn V) (hI : INV T S un A kf K n xs sn V) (v1 v2 v3 : Int32) : CT Γ l 2 sz 0 0 mX7_seen [.ref y, .int v1, .int v2, .int v3] μ (ri (fun r μ' => r = (opSeen T sn V v1 v2 v3).1 ∧ WM Γ μ' y T S un A kf K n xs (opSeen T sn V v1 v2 v3).2.1 (opSeen T sn V v1 v2 v3).2.2 ∧ Fr y 10 μ μ')) := by
  obtain ⟨pl, tk, vl, bg, cl, rd, ah, kp, mo, a0, a1, a2, a3, a4, a5, a6, a7, a8, a9, a10, a11⟩ := id h
  obtain ⟨i1, i2, i3, i4, i5, i6, i7, i8, i9⟩ := id hI
  obtain ⟨t1, t2, t3, t4, t5, t6, t7, t8, t9, t10, t11⟩ := id i1
  obtain ⟨z1, z2, z3, z4, z5, z6, z7, z8, z9⟩ := id i2
  refine CT.go RX7 rfl "seen" rfl [some (.ref y), some (.int v1), some (.int v2), some (.int v3)] rfl (by decide) (Nat.le_of_ble_eq_true rfl) ?_
  intro p e R s m args below meth c X hsz
  have bad : ¬ (0 ≤ v1.toInt ∧ v1.toInt < T 0) ∨ ¬ (0 ≤ v2.toInt ∧ v2.toInt < T 7) → vV Γ p l e R s m args below meth c (vQ Γ s args below 0 0 (ri (fun r μ' => r = (opSeen T sn V v1 v2 v3).1 ∧ WM Γ μ' y T S un A kf K n xs (opSeen T sn V v1 v2 v3).2.1 (opSeen T sn V v1 v2 v3).2.2 ∧ Fr y 10 μ μ'))) 4 0 0 16 [some (.ref (y)), some (.int (v1)), some (.int (v2)), some (.int (v3))] [] (μ) := by
    intro hq
    have eo : opSeen T sn V v1 v2 v3 = (-2, sn, V) := by unfold opSeen; rw [if_pos hq]
    rw [eo]
    refine r_bipush (pc := 16) (v := -2) X dX7_seen_16 (by decide) ?_
    exact r_iret (pc := 18) X dX7_seen_18 (⟨rfl, h, Fr.rf⟩)
  have good : ∀ m' w' o' : Nat, sn ≠ 6 → opSeen T sn V v1 v2 v3 = (nI (sn + 1), sn + 1, upN (upN (upN V (3 * sn) m') (3 * sn + 1) w') (3 * sn + 2) o') → vV Γ p l e R s m args below meth c (vQ Γ s args below 0 0 (ri (fun r μ' => r = (opSeen T sn V v1 v2 v3).1 ∧ WM Γ μ' y T S un A kf K n xs (opSeen T sn V v1 v2 v3).2.1 (opSeen T sn V v1 v2 v3).2.2 ∧ Fr y 10 μ μ'))) 4 0 0 41 [some (.ref (y)), some (.int (nI (m'))), some (.int (nI (w'))), some (.int (nI (o')))] [] (μ) := by
    intro m' w' o' h6 eo
    rw [eo]
    refine r_aload_n (pc := 41) X dX7_seen_41 rfl ?_
    apply r_get (pc := 42) X f_X7_35 dX7_seen_42
    · repeat (first | exact mu_self | assumption | refine (mu_ne (by omega)).trans ?_)
    · rfl
    refine r_iconst (pc := 45) (v := nI 3) X dX7_seen_45 (by decide) ?_
    refine r_aload_n (pc := 46) X dX7_seen_46 rfl ?_
    apply r_get (pc := 47) X f_X7_114 dX7_seen_47
    · repeat (first | exact mu_self | assumption | refine (mu_ne (by omega)).trans ?_)
    · rfl
    first | refine r_imulN (pc := 50) X dX7_seen_50 ?_ | refine r_imul (pc := 50) X dX7_seen_50 ?_
    refine r_iload_n (pc := 51) X dX7_seen_51 rfl ?_
    apply r_iast (pc := 52) X dX7_seen_52
    · repeat (first | exact mu_self | assumption | refine (mu_ne (by omega)).trans ?_)
    · omega
    · decide
    rw [nI_up]
    refine r_aload_n (pc := 53) X dX7_seen_53 rfl ?_
    apply r_get (pc := 54) X f_X7_35 dX7_seen_54
    · repeat (first | exact mu_self | assumption | refine (mu_ne (by omega)).trans ?_)
    · rfl
    refine r_iconst (pc := 57) (v := nI 3) X dX7_seen_57 (by decide) ?_
    refine r_aload_n (pc := 58) X dX7_seen_58 rfl ?_
    apply r_get (pc := 59) X f_X7_114 dX7_seen_59
    · repeat (first | exact mu_self | assumption | refine (mu_ne (by omega)).trans ?_)
    · rfl
    first | refine r_imulN (pc := 62) X dX7_seen_62 ?_ | refine r_imul (pc := 62) X dX7_seen_62 ?_
    refine r_iconst (pc := 63) (v := nI 1) X dX7_seen_63 (by decide) ?_
    first | refine r_iaddN (pc := 64) X dX7_seen_64 ?_ | refine r_iadd (pc := 64) X dX7_seen_64 ?_
    refine r_iload_n (pc := 65) X dX7_seen_65 rfl ?_
    apply r_iast (pc := 66) X dX7_seen_66
    · repeat (first | exact mu_self | assumption | refine (mu_ne (by omega)).trans ?_)
    · omega
    · decide
    rw [mu_mu, nI_up]
    refine r_aload_n (pc := 67) X dX7_seen_67 rfl ?_
    apply r_get (pc := 68) X f_X7_35 dX7_seen_68
    · repeat (first | exact mu_self | assumption | refine (mu_ne (by omega)).trans ?_)
    · rfl
    refine r_iconst (pc := 71) (v := nI 3) X dX7_seen_71 (by decide) ?_
    refine r_aload_n (pc := 72) X dX7_seen_72 rfl ?_
    apply r_get (pc := 73) X f_X7_114 dX7_seen_73
    · repeat (first | exact mu_self | assumption | refine (mu_ne (by omega)).trans ?_)
    · rfl
    first | refine r_imulN (pc := 76) X dX7_seen_76 ?_ | refine r_imul (pc := 76) X dX7_seen_76 ?_
    refine r_iconst (pc := 77) (v := nI 2) X dX7_seen_77 (by decide) ?_
    first | refine r_iaddN (pc := 78) X dX7_seen_78 ?_ | refine r_iadd (pc := 78) X dX7_seen_78 ?_
    refine r_iload_n (pc := 79) X dX7_seen_79 rfl ?_
    apply r_iast (pc := 80) X dX7_seen_80
    · repeat (first | exact mu_self | assumption | refine (mu_ne (by omega)).trans ?_)
    · omega
    · decide
    rw [mu_mu, nI_up]
    refine r_aload_n (pc := 81) X dX7_seen_81 rfl ?_
    refine r_dup (pc := 82) X dX7_seen_82 rfl ?_
    apply r_get (pc := 83) X f_X7_114 dX7_seen_83
    · repeat (first | exact mu_self | assumption | refine (mu_ne (by omega)).trans ?_)
    · rfl
    refine r_iconst (pc := 86) (v := nI 1) X dX7_seen_86 (by decide) ?_
    first | refine r_iaddN (pc := 87) X dX7_seen_87 ?_ | refine r_iadd (pc := 87) X dX7_seen_87 ?_
    first | refine r_putS (pc := 88) X f_X7_114 dX7_seen_88 (by first | rfl | assumption | decide | simp [narrow]) (by first | rfl | assumption) (Nat.le_of_ble_eq_true rfl) ?_ | refine r_put (pc := 88) X f_X7_114 dX7_seen_88 (by repeat (first | exact mu_self | assumption | refine (mu_ne (by omega)).trans ?_)) (by first | rfl | assumption | decide | simp [narrow]) (by first | rfl | assumption) (Nat.le_of_ble_eq_true rfl) ?_
    refine r_aload_n (pc := 91) X dX7_seen_91 rfl ?_
    apply r_get (pc := 92) X f_X7_114 dX7_seen_92
    · repeat (first | exact mu_self | assumption | refine (mu_ne (by omega)).trans ?_)
    · rfl
    exact r_iret (pc := 95) X dX7_seen_95 (⟨rfl, ⟨pl, tk, vl, bg, cl, rd, ah, kp, mo, mu_self, (by repeat (first | exact mu_self | assumption | refine (mu_ne (by omega)).trans ?_)), (by repeat (first | exact mu_self | assumption | refine (mu_ne (by omega)).trans ?_)), (by repeat (first | exact mu_self | assumption | refine (mu_ne (by omega)).trans ?_)), (by repeat (first | exact mu_self | assumption | refine (mu_ne (by omega)).trans ?_)), (by repeat (first | exact mu_self | assumption | refine (mu_ne (by omega)).trans ?_)), a6, (by repeat (first | exact mu_self | assumption | refine (mu_ne (by omega)).trans ?_)), (by repeat (first | exact mu_self | assumption | refine (mu_ne (by omega)).trans ?_)), a9, (by repeat (first | exact mu_self | assumption | refine (mu_ne (by omega)).trans ?_)), (by repeat (first | exact mu_self | assumption | refine (mu_ne (by omega)).trans ?_))⟩, (fun q hq => by repeat (first | rfl | refine (mu_ne (by omega)).trans ?_))⟩)
  refine r_aload_n (pc := 0) X dX7_seen_0 rfl ?_
  refine r_iload_n (pc := 1) X dX7_seen_1 rfl ?_
  refine c_i X (rV (pc := 2) (ci := 7) X l_X7_123 (t7_isMan a0 a1 t1 v1) dX7_seen_2 (by repeat (first | exact mu_self | assumption | refine (mu_ne (by omega)).trans ?_)) rfl rfl rfl (Nat.le_of_ble_eq_true rfl) (by decide) (Nat.le_of_ble_eq_true rfl) (Nat.le_of_ble_eq_true rfl)) ?_
  rintro _ μq ⟨rfl, hμq⟩
  rw [hμq]
  clear hμq μq
  first | refine r_if_eqZ (pc := 5) X 16 dX7_seen_5 (by decide) (fun h1 => ?_) (fun h1 => ?_) | refine r_if_eqN (pc := 5) X 16 dX7_seen_5 (by decide) (by omega) (fun h1 => ?_) (fun h1 => ?_) | refine r_if_eq (pc := 5) X 16 dX7_seen_5 (by decide) (fun h1 => ?_) (fun h1 => ?_)
  · exact bad (Or.inl (by simpa using h1))
  · have h1' : 0 ≤ v1.toInt ∧ v1.toInt < T 0 := by simpa using h1
    refine r_aload_n (pc := 8) X dX7_seen_8 rfl ?_
    refine r_iload_n (pc := 9) X dX7_seen_9 rfl ?_
    refine c_i X (rV (pc := 10) (ci := 7) X l_X7_129 (t7_isSheep a0 a1 t2 v2) dX7_seen_10 (by repeat (first | exact mu_self | assumption | refine (mu_ne (by omega)).trans ?_)) rfl rfl rfl (Nat.le_of_ble_eq_true rfl) (by decide) (Nat.le_of_ble_eq_true rfl) (Nat.le_of_ble_eq_true rfl)) ?_
    rintro _ μq ⟨rfl, hμq⟩
    rw [hμq]
    clear hμq μq
    first | refine r_if_neZ (pc := 13) X 19 dX7_seen_13 (by decide) (fun h2 => ?_) (fun h2 => ?_) | refine r_if_neN (pc := 13) X 19 dX7_seen_13 (by decide) (by omega) (fun h2 => ?_) (fun h2 => ?_) | refine r_if_ne (pc := 13) X 19 dX7_seen_13 (by decide) (fun h2 => ?_) (fun h2 => ?_)
    · have h2' : 0 ≤ v2.toInt ∧ v2.toInt < T 7 := by simpa using h2
      refine r_iload_n (pc := 19) X dX7_seen_19 rfl ?_
      refine c_i X (rS (pc := 20) X l_X7_169 (t7_isWhat v3) dX7_seen_20 rfl rfl (Nat.le_of_ble_eq_true rfl) (by decide) (Nat.le_of_ble_eq_true rfl) (Nat.le_of_ble_eq_true rfl)) ?_
      rintro _ μq ⟨rfl, hμq⟩
      rw [hμq]
      clear hμq μq
      first | refine r_if_neZ (pc := 23) X 29 dX7_seen_23 (by decide) (fun h3 => ?_) (fun h3 => ?_) | refine r_if_neN (pc := 23) X 29 dX7_seen_23 (by decide) (by omega) (fun h3 => ?_) (fun h3 => ?_) | refine r_if_ne (pc := 23) X 29 dX7_seen_23 (by decide) (fun h3 => ?_) (fun h3 => ?_)
      · have h3' : 0 ≤ v3.toInt ∧ v3.toInt ≤ 1 := by simpa using h3
        refine r_aload_n (pc := 29) X dX7_seen_29 rfl ?_
        apply r_get (pc := 30) X f_X7_114 dX7_seen_30
        · repeat (first | exact mu_self | assumption | refine (mu_ne (by omega)).trans ?_)
        · rfl
        refine r_bipush (pc := 33) (v := nI 6) X dX7_seen_33 (by decide) ?_
        first | refine r_icmp_neN (pc := 35) X 41 dX7_seen_35 (by decide) (by omega) (by omega) (fun h4 => ?_) (fun h4 => ?_) | refine r_icmp_ne (pc := 35) X 41 dX7_seen_35 (by decide) (fun h4 => ?_) (fun h4 => ?_)
        · have hv := nt_nI h1'.1
          have hv2 := nt_nI h2'.1
          have hv3 := nt_nI h3'.1
          have := good (nt v1) (nt v2) (nt v3) h4 (by unfold opSeen; rw [if_neg (by omega), if_neg (fun q => q h3'), if_neg h4])
          rw [← hv, ← hv2, ← hv3] at this
          exact this
        · have eo : opSeen T sn V v1 v2 v3 = (-5, sn, V) := by unfold opSeen; rw [if_neg (by omega), if_neg (fun q => q h3'), if_pos h4]
          rw [eo]
          refine r_bipush (pc := 38) (v := -5) X dX7_seen_38 (by decide) ?_
          exact r_iret (pc := 40) X dX7_seen_40 (⟨rfl, h, Fr.rf⟩)
      · have h3' : ¬ (0 ≤ v3.toInt ∧ v3.toInt ≤ 1) := by simpa using h3
        have eo : opSeen T sn V v1 v2 v3 = (-3, sn, V) := by unfold opSeen; rw [if_neg (by omega), if_pos h3']
        rw [eo]
        refine r_bipush (pc := 26) (v := -3) X dX7_seen_26 (by decide) ?_
        exact r_iret (pc := 28) X dX7_seen_28 (⟨rfl, h, Fr.rf⟩)
    · exact bad (Or.inr (by simpa using h2))
end S48
