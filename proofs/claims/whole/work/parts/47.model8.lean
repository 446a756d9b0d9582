section S47
variable {Γ : KK} {l : Launch} {sz : Nat} {μ : MM} {y : Nat} {T S : Nat → Nat} {un : Nat} {A : Nat → Nat → Nat} {kf : Nat → Bool} {K : Nat → Nat → Nat} {n : Nat} {xs : Nat → Nat} {sn : Nat} {V : Nat → Nat}
theorem t7_forget (h : WM Γ μ y T S un A kf K n xs sn V) (hI : INV T S un A kf K n xs sn V) : CT Γ l 0 sz 0 0 mX7_forget [.ref y] μ (ri (fun r μ' => r = nI sn ∧ WM Γ μ' y T S un A kf K n xs 0 V ∧ Fr y 10 μ μ')) := by
  obtain ⟨pl, tk, vl, bg, cl, rd, ah, kp, mo, a0, a1, a2, a3, a4, a5, a6, a7, a8, a9, a10, a11⟩ := id h
  obtain ⟨i1, i2, i3, i4, i5, i6, i7, i8, i9⟩ := id hI
  obtain ⟨t1, t2, t3, t4, t5, t6, t7, t8, t9, t10, t11⟩ := id i1
  obtain ⟨z1, z2, z3, z4, z5, z6, z7, z8, z9⟩ := id i2
  refine CT.go RX7 rfl "forget" rfl [some (.ref y), none] rfl (by decide) (Nat.le_of_ble_eq_true rfl) ?_
  intro p e R s m args below meth c X hsz
  refine r_aload_n (pc := 0) X dX7_forget_0 rfl ?_
  apply r_get (pc := 1) X f_X7_114 dX7_forget_1
  · repeat (first | exact mu_self | assumption | refine (mu_ne (by omega)).trans ?_)
  · rfl
  refine r_istore_n (pc := 4) X dX7_forget_4 (by decide) rfl ?_
  refine r_aload_n (pc := 5) X dX7_forget_5 rfl ?_
  refine r_iconst (pc := 6) (v := nI 0) X dX7_forget_6 (by decide) ?_
  first | refine r_putS (pc := 7) X f_X7_114 dX7_forget_7 (by first | rfl | assumption | decide | simp [narrow]) (by first | rfl | assumption) (Nat.le_of_ble_eq_true rfl) ?_ | refine r_put (pc := 7) X f_X7_114 dX7_forget_7 (by repeat (first | exact mu_self | assumption | refine (mu_ne (by omega)).trans ?_)) (by first | rfl | assumption | decide | simp [narrow]) (by first | rfl | assumption) (Nat.le_of_ble_eq_true rfl) ?_
  refine r_iload_n (pc := 10) X dX7_forget_10 rfl ?_
  exact r_iret (pc := 11) X dX7_forget_11 (⟨rfl, ⟨pl, tk, vl, bg, cl, rd, ah, kp, mo, mu_self, (by repeat (first | exact mu_self | assumption | refine (mu_ne (by omega)).trans ?_)), (by repeat (first | exact mu_self | assumption | refine (mu_ne (by omega)).trans ?_)), (by repeat (first | exact mu_self | assumption | refine (mu_ne (by omega)).trans ?_)), (by repeat (first | exact mu_self | assumption | refine (mu_ne (by omega)).trans ?_)), (by repeat (first | exact mu_self | assumption | refine (mu_ne (by omega)).trans ?_)), a6, (by repeat (first | exact mu_self | assumption | refine (mu_ne (by omega)).trans ?_)), (by repeat (first | exact mu_self | assumption | refine (mu_ne (by omega)).trans ?_)), a9, (by repeat (first | exact mu_self | assumption | refine (mu_ne (by omega)).trans ?_)), (by repeat (first | exact mu_self | assumption | refine (mu_ne (by omega)).trans ?_))⟩, fun q hq => mu_ne (by omega)⟩)
theorem sub9 : ∀ a, a < 10 → ∀ b, b < 10 → ((nI a - nI b > nI 0) ↔ b < a) := by decide +kernel
theorem t7_soonest (h : WM Γ μ y T S un A kf K n xs sn V) (hI : INV T S un A kf K n xs sn V) : CT Γ l 0 sz 0 0 mX7_soonest [.ref y] μ (ri (fun r μ' => r = uI (soonN T S) ∧ μ' = μ)) := by
  obtain ⟨pl, tk, vl, bg, cl, rd, ah, kp, mo, a0, a1, a2, a3, a4, a5, a6, a7, a8, a9, a10, a11⟩ := id h
  obtain ⟨i1, i2, i3, i4, i5, i6, i7, i8, i9⟩ := id hI
  obtain ⟨t1, t2, t3, t4, t5, t6, t7, t8, t9, t10, t11⟩ := id i1
  obtain ⟨z1, z2, z3, z4, z5, z6, z7, z8, z9⟩ := id i2
  refine CT.go RX7 rfl "soonest" rfl [some (.ref y), none] rfl (by decide) (Nat.le_of_ble_eq_true rfl) ?_
  intro p e R s m args below meth c X hsz
  refine r_aload_n (pc := 0) X dX7_soonest_0 rfl ?_
  apply r_get (pc := 1) X f_X7_7 dX7_soonest_1
  · repeat (first | exact mu_self | assumption | refine (mu_ne (by omega)).trans ?_)
  · rfl
  refine r_bipush (pc := 4) (v := nI 27) X dX7_soonest_4 (by decide) ?_
  apply r_iald (pc := 6) X dX7_soonest_6
  · repeat (first | exact mu_self | assumption | refine (mu_ne (by omega)).trans ?_)
  · omega
  · decide
  refine r_aload_n (pc := 7) X dX7_soonest_7 rfl ?_
  apply r_get (pc := 8) X f_X7_13 dX7_soonest_8
  · repeat (first | exact mu_self | assumption | refine (mu_ne (by omega)).trans ?_)
  · rfl
  refine r_iconst (pc := 11) (v := nI 2) X dX7_soonest_11 (by decide) ?_
  apply r_iald (pc := 12) X dX7_soonest_12
  · repeat (first | exact mu_self | assumption | refine (mu_ne (by omega)).trans ?_)
  · omega
  · decide
  rw [stI_lo (by omega)]
  refine r_isub (pc := 13) X dX7_soonest_13 ?_
  have hd := sub9 (T 27) (by omega) (S 2) (by omega)
  refine r_istore_n (pc := 14) X dX7_soonest_14 (by decide) rfl ?_
  refine r_aload_n (pc := 15) X dX7_soonest_15 rfl ?_
  apply r_get (pc := 16) X f_X7_13 dX7_soonest_16
  · repeat (first | exact mu_self | assumption | refine (mu_ne (by omega)).trans ?_)
  · rfl
  refine r_iconst (pc := 19) (v := nI 3) X dX7_soonest_19 (by decide) ?_
  apply r_iald (pc := 20) X dX7_soonest_20
  · repeat (first | exact mu_self | assumption | refine (mu_ne (by omega)).trans ?_)
  · omega
  · decide
  rw [stI_lo (by omega)]
  refine r_iconst (pc := 21) (v := nI 1) X dX7_soonest_21 (by decide) ?_
  first | refine r_icmp_neN (pc := 22) X 27 dX7_soonest_22 (by decide) (by omega) (by omega) (fun h1 => ?_) (fun h1 => ?_) | refine r_icmp_ne (pc := 22) X 27 dX7_soonest_22 (by decide) (fun h1 => ?_) (fun h1 => ?_)
  · have late : (T 27 ≤ S 2 → S 1 + S 0 < T 26) → vV Γ p l e R s m args below meth c (vQ Γ s args below 0 0 (ri (fun r μ' => r = uI (soonN T S) ∧ μ' = μ))) 2 0 0 56 [some (.ref (y)), some (.int (nI (T 27) - nI (S 2)))] [] (μ) := by
      intro hq
      refine r_aload_n (pc := 56) X dX7_soonest_56 rfl ?_
      apply r_get (pc := 57) X f_X7_13 dX7_soonest_57
      · repeat (first | exact mu_self | assumption | refine (mu_ne (by omega)).trans ?_)
      · rfl
      refine r_iconst (pc := 60) (v := nI 0) X dX7_soonest_60 (by decide) ?_
      apply r_iald (pc := 61) X dX7_soonest_61
      · repeat (first | exact mu_self | assumption | refine (mu_ne (by omega)).trans ?_)
      · omega
      · decide
      rw [stI_lo (by omega)]
      refine r_aload_n (pc := 62) X dX7_soonest_62 rfl ?_
      apply r_get (pc := 63) X f_X7_7 dX7_soonest_63
      · repeat (first | exact mu_self | assumption | refine (mu_ne (by omega)).trans ?_)
      · rfl
      refine r_bipush (pc := 66) (v := nI 26) X dX7_soonest_66 (by decide) ?_
      apply r_iald (pc := 68) X dX7_soonest_68
      · repeat (first | exact mu_self | assumption | refine (mu_ne (by omega)).trans ?_)
      · omega
      · decide
      first | refine r_icmp_geN (pc := 69) X 76 dX7_soonest_69 (by decide) (by omega) (by omega) (fun h3 => ?_) (fun h3 => ?_) | refine r_icmp_ge (pc := 69) X 76 dX7_soonest_69 (by decide) (fun h3 => ?_) (fun h3 => ?_)
      · have hlt : S 2 < T 27 := by
          refine Nat.lt_of_not_le (fun q => ?_)
          have := hq q
          omega
        have es : soonN T S = T 27 - S 2 + 1 := by unfold soonN; rw [if_neg h1, if_neg (by rw [if_neg (by omega)]; omega)]
        rw [es, uI_S, nI_sub (by omega)]
        refine r_iload_n (pc := 76) X dX7_soonest_76 rfl ?_
        refine r_iconst (pc := 77) (v := nI 1) X dX7_soonest_77 (by decide) ?_
        first | refine r_icmp_geN (pc := 78) X 85 dX7_soonest_78 (by decide) (by omega) (by omega) (fun h4 => ?_) (fun h4 => ?_) | refine r_icmp_ge (pc := 78) X 85 dX7_soonest_78 (by decide) (fun h4 => ?_) (fun h4 => ?_)
        · refine r_iload_n (pc := 85) X dX7_soonest_85 rfl ?_
          exact r_iret (pc := 86) X dX7_soonest_86 (⟨rfl, rfl⟩)
        · omega
      · have es : soonN T S = 0 := by
          unfold soonN
          rw [if_neg h1, if_pos]
          split <;> omega
        rw [es, uI_0]
        refine r_iconst (pc := 72) (v := -1) X dX7_soonest_72 (by decide) ?_
        refine r_goto (pc := 73) X 86 dX7_soonest_73 (by decide) ?_
        exact r_iret (pc := 86) X dX7_soonest_86 (⟨rfl, rfl⟩)
    refine r_iload_n (pc := 27) X dX7_soonest_27 rfl ?_
    refine r_if_gt (pc := 28) X 56 dX7_soonest_28 (by decide) (fun h2 => ?_) (fun h2 => ?_)
    · exact late (fun q => by have := hd.mp h2; omega)
    · have hle : T 27 ≤ S 2 := Nat.le_of_not_lt (fun q => h2 (hd.mpr q))
      refine r_aload_n (pc := 31) X dX7_soonest_31 rfl ?_
      apply r_get (pc := 32) X f_X7_13 dX7_soonest_32
      · repeat (first | exact mu_self | assumption | refine (mu_ne (by omega)).trans ?_)
      · rfl
      refine r_iconst (pc := 35) (v := nI 1) X dX7_soonest_35 (by decide) ?_
      apply r_iald (pc := 36) X dX7_soonest_36
      · repeat (first | exact mu_self | assumption | refine (mu_ne (by omega)).trans ?_)
      · omega
      · decide
      rw [stI_lo (by omega)]
      refine r_aload_n (pc := 37) X dX7_soonest_37 rfl ?_
      apply r_get (pc := 38) X f_X7_13 dX7_soonest_38
      · repeat (first | exact mu_self | assumption | refine (mu_ne (by omega)).trans ?_)
      · rfl
      refine r_iconst (pc := 41) (v := nI 0) X dX7_soonest_41 (by decide) ?_
      apply r_iald (pc := 42) X dX7_soonest_42
      · repeat (first | exact mu_self | assumption | refine (mu_ne (by omega)).trans ?_)
      · omega
      · decide
      rw [stI_lo (by omega)]
      first | refine r_iaddN (pc := 43) X dX7_soonest_43 ?_ | refine r_iadd (pc := 43) X dX7_soonest_43 ?_
      refine r_aload_n (pc := 44) X dX7_soonest_44 rfl ?_
      apply r_get (pc := 45) X f_X7_7 dX7_soonest_45
      · repeat (first | exact mu_self | assumption | refine (mu_ne (by omega)).trans ?_)
      · rfl
      refine r_bipush (pc := 48) (v := nI 26) X dX7_soonest_48 (by decide) ?_
      apply r_iald (pc := 50) X dX7_soonest_50
      · repeat (first | exact mu_self | assumption | refine (mu_ne (by omega)).trans ?_)
      · omega
      · decide
      first | refine r_icmp_ltN (pc := 51) X 56 dX7_soonest_51 (by decide) (by omega) (by omega) (fun h3 => ?_) (fun h3 => ?_) | refine r_icmp_lt (pc := 51) X 56 dX7_soonest_51 (by decide) (fun h3 => ?_) (fun h3 => ?_)
      · exact late (fun _ => h3)
      · have es : soonN T S = 0 + 1 := by unfold soonN; rw [if_neg h1, if_neg (by rw [if_pos hle]; omega)]; omega
        rw [es, uI_S]
        refine r_iconst (pc := 54) (v := nI 0) X dX7_soonest_54 (by decide) ?_
        exact r_iret (pc := 55) X dX7_soonest_55 (⟨rfl, rfl⟩)
  · have es : soonN T S = 0 := by unfold soonN; rw [if_pos h1]
    rw [es, uI_0]
    refine r_iconst (pc := 25) (v := -1) X dX7_soonest_25 (by decide) ?_
    exact r_iret (pc := 26) X dX7_soonest_26 (⟨rfl, rfl⟩)
theorem t7_soon (h : WM Γ μ y T S un A kf K n xs sn V) (hI : INV T S un A kf K n xs sn V) (v1 : Int32) : CT Γ l 2 sz 0 0 mX7_soon [.ref y, .int v1] μ (ri (fun r μ' => r = opSoon T S v1 ∧ μ' = μ)) := by
  obtain ⟨pl, tk, vl, bg, cl, rd, ah, kp, mo, a0, a1, a2, a3, a4, a5, a6, a7, a8, a9, a10, a11⟩ := id h
  obtain ⟨i1, i2, i3, i4, i5, i6, i7, i8, i9⟩ := id hI
  obtain ⟨t1, t2, t3, t4, t5, t6, t7, t8, t9, t10, t11⟩ := id i1
  obtain ⟨z1, z2, z3, z4, z5, z6, z7, z8, z9⟩ := id i2
  refine CT.go RX7 rfl "soon" rfl [some (.ref y), some (.int v1), none, none, none] rfl (by decide) (Nat.le_of_ble_eq_true rfl) ?_
  intro p e R s m args below meth c X hsz
  refine r_iload_n (pc := 0) X dX7_soon_0 rfl ?_
  refine c_i X (rS (pc := 1) X l_X7_169 (t7_isWhat v1) dX7_soon_1 rfl rfl (Nat.le_of_ble_eq_true rfl) (by decide) (Nat.le_of_ble_eq_true rfl) (Nat.le_of_ble_eq_true rfl)) ?_
  rintro _ μq ⟨rfl, hμq⟩
  rw [hμq]
  clear hμq μq
  first | refine r_if_neZ (pc := 4) X 10 dX7_soon_4 (by decide) (fun h1 => ?_) (fun h1 => ?_) | refine r_if_neN (pc := 4) X 10 dX7_soon_4 (by decide) (by omega) (fun h1 => ?_) (fun h1 => ?_) | refine r_if_ne (pc := 4) X 10 dX7_soon_4 (by decide) (fun h1 => ?_) (fun h1 => ?_)
  · have h1' : 0 ≤ v1.toInt ∧ v1.toInt ≤ 1 := by simpa using h1
    have hm := msk_lt (men := T 0) t1 S 0
    have hp := popc_le _ hm
    have hsn : soonN T S ≤ 10 := by unfold soonN; repeat (first | omega | split)
    refine r_aload_n (pc := 10) X dX7_soon_10 rfl ?_
    refine c_i X (rV (pc := 11) (ci := 7) X l_X7_172 (t7_soonest h hI) dX7_soon_11 (by repeat (first | exact mu_self | assumption | refine (mu_ne (by omega)).trans ?_)) rfl rfl rfl (Nat.le_of_ble_eq_true rfl) (by decide) (Nat.le_of_ble_eq_true rfl) (Nat.le_of_ble_eq_true rfl)) ?_
    rintro _ μq ⟨rfl, hμq⟩
    rw [hμq]
    clear hμq μq
    have fin : ∀ d : Int32, (∀ w, soonN T S = w + 1 → d = nI (w * T 28)) → vV Γ p l e R s m args below meth c (vQ Γ s args below 0 0 (ri (fun r μ' => r = opSoon T S v1 ∧ μ' = μ))) 5 0 0 24 [some (.ref (y)), some (.int (v1)), some (.int (uI (soonN T S))), none, none] [.int (d)] (μ) := by
      intro d hd
      refine r_istore_n (pc := 24) X dX7_soon_24 (by decide) rfl ?_
      refine r_aload_n (pc := 25) X dX7_soon_25 rfl ?_
      refine r_iconst (pc := 26) (v := nI 0) X dX7_soon_26 (by decide) ?_
      refine c_i X (rV (pc := 27) (ci := 7) X l_X7_175 (t7_menOf a0 a1 a2 t1 i2 (hh := 0) (by omega)) dX7_soon_27 (by repeat (first | exact mu_self | assumption | refine (mu_ne (by omega)).trans ?_)) rfl rfl rfl (Nat.le_of_ble_eq_true rfl) (by decide) (Nat.le_of_ble_eq_true rfl) (Nat.le_of_ble_eq_true rfl)) ?_
      rintro _ μq ⟨rfl, hμq⟩
      rw [hμq]
      clear hμq μq
      refine c_i X (rS (pc := 30) X l_X7_150 (t7_ones (x := msk (T 0) S 0) (by omega)) dX7_soon_30 rfl rfl (Nat.le_of_ble_eq_true rfl) (by decide) (Nat.le_of_ble_eq_true rfl) (Nat.le_of_ble_eq_true rfl)) ?_
      rintro _ μq ⟨rfl, hμq⟩
      rw [hμq]
      clear hμq μq
      have ret2 : v1.toInt = 0 ∨ soonN T S = 0 → vV Γ p l e R s m args below meth c (vQ Γ s args below 0 0 (ri (fun r μ' => r = opSoon T S v1 ∧ μ' = μ))) 5 0 0 43 [some (.ref (y)), some (.int (v1)), some (.int (uI (soonN T S))), some (.int (d)), some (.int (nI (popc (msk (T 0) S 0))))] [] (μ) := by
        intro hq
        have eo : opSoon T S v1 = uI (soonN T S) := by unfold opSoon; rw [if_neg (fun q => q h1'), if_pos hq]
        rw [eo]
        refine r_iload_n (pc := 43) X dX7_soon_43 rfl ?_
        refine r_goto (pc := 44) X 59 dX7_soon_44 (by decide) ?_
        exact r_iret (pc := 59) X dX7_soon_59 (⟨rfl, rfl⟩)
      refine r_istore (pc := 33) X dX7_soon_33 (by decide) rfl ?_
      refine r_iload_n (pc := 35) X dX7_soon_35 rfl ?_
      rcases Nat.eq_zero_or_pos (soonN T S) with g | g
      · have r2 := ret2 (Or.inr g)
        rw [g, uI_0] at r2 ⊢
        refine r_if_lt (pc := 36) X 43 dX7_soon_36 (by decide) (fun h3 => ?_) (fun h3 => ?_)
        · exact r2
        · exact absurd (by decide) h3
      · obtain ⟨w, hw⟩ : ∃ w, soonN T S = w + 1 := ⟨soonN T S - 1, by omega⟩
        have hd' := hd w hw
        subst hd'
        rw [hw, uI_S] at ret2 ⊢
        first | refine r_if_ltN (pc := 36) X 43 dX7_soon_36 (by decide) (by omega) (fun h3 => ?_) (fun h3 => ?_) | refine r_if_lt (pc := 36) X 43 dX7_soon_36 (by decide) (fun h3 => ?_) (fun h3 => ?_)
        · exact absurd h3 (Nat.not_lt_zero _)
        · refine r_iload_n (pc := 39) X dX7_soon_39 rfl ?_
          refine r_if_ne (pc := 40) X 47 dX7_soon_40 (by decide) (fun h4 => ?_) (fun h4 => ?_)
          · have eo : opSoon T S v1 = nI (min (popc (msk (T 0) S 0)) (w * T 28)) := by
              unfold opSoon
              rw [if_neg (fun q => q h1'), if_neg (by
                rintro (q | q)
                · exact h4 (Int32.toInt_inj.mp (by rw [q]; decide))
                · omega), hw]
              rfl
            rw [eo]
            have hmul : w * T 28 ≤ 30 := Nat.le_trans (Nat.mul_le_mul (show w ≤ 10 by omega) t11) (by decide)
            refine r_iload_n (pc := 47) X dX7_soon_47 rfl ?_
            refine r_iload (pc := 48) X dX7_soon_48 rfl ?_
            first | refine r_icmp_geN (pc := 50) X 57 dX7_soon_50 (by decide) (by omega) (by omega) (fun h5 => ?_) (fun h5 => ?_) | refine r_icmp_ge (pc := 50) X 57 dX7_soon_50 (by decide) (fun h5 => ?_) (fun h5 => ?_)
            · refine r_iload (pc := 57) X dX7_soon_57 rfl ?_
              rw [Nat.min_eq_left h5]
              exact r_iret (pc := 59) X dX7_soon_59 (⟨rfl, rfl⟩)
            · refine r_iload_n (pc := 53) X dX7_soon_53 rfl ?_
              refine r_goto (pc := 54) X 59 dX7_soon_54 (by decide) ?_
              rw [Nat.min_eq_right (by omega)]
              exact r_iret (pc := 59) X dX7_soon_59 (⟨rfl, rfl⟩)
          · exact ret2 (Or.inl (by rw [h4]; decide))
    refine r_istore_n (pc := 14) X dX7_soon_14 (by decide) rfl ?_
    refine r_iload_n (pc := 15) X dX7_soon_15 rfl ?_
    refine r_aload_n (pc := 16) X dX7_soon_16 rfl ?_
    apply r_get (pc := 17) X f_X7_7 dX7_soon_17
    · repeat (first | exact mu_self | assumption | refine (mu_ne (by omega)).trans ?_)
    · rfl
    refine r_bipush (pc := 20) (v := nI 28) X dX7_soon_20 (by decide) ?_
    apply r_iald (pc := 22) X dX7_soon_22
    · repeat (first | exact mu_self | assumption | refine (mu_ne (by omega)).trans ?_)
    · omega
    · decide
    refine r_imul (pc := 23) X dX7_soon_23 ?_
    exact fin _ (fun w hw => by rw [hw, uI_S, nI_mul])
  · have h1' : ¬ (0 ≤ v1.toInt ∧ v1.toInt ≤ 1) := by simpa using h1
    have eo : opSoon T S v1 = -3 := by unfold opSoon; rw [if_pos h1']
    rw [eo]
    refine r_bipush (pc := 7) (v := -3) X dX7_soon_7 (by decide) ?_
    exact r_iret (pc := 9) X dX7_soon_9 (⟨rfl, rfl⟩)
end S47
