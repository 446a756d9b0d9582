section S60
variable {Γ : KK} {l : Launch} {sz : Nat} {μ : MM} {y : Nat} {T S : Nat → Nat} {un : Nat} {A : Nat → Nat → Nat} {kf : Nat → Bool} {K : Nat → Nat → Nat} {n : Nat} {xs : Nat → Nat} {sn : Nat} {V : Nat → Nat}
theorem t7_fault (h : WM Γ μ y T S un A kf K n xs sn V) (hI : INV T S un A kf K n xs sn V) : CT Γ l 6 sz 0 0 mX7_fault [.ref y] μ (ri (fun r μ' => r = uI (rdT xs n 14 0 T 0 0).1 ∧ WM Γ μ' y T S un A kf K n xs sn V ∧ Fr y 10 μ μ')) := by
  obtain ⟨pl, tk, vl, bg, cl, rd, ah, kp, mo, a0, a1, a2, a3, a4, a5, a6, a7, a8, a9, a10, a11⟩ := id h
  obtain ⟨i1, i2, i3, i4, i5, i6, i7, i8, i9⟩ := id hI
  obtain ⟨t1, t2, t3, t4, t5, t6, t7, t8, t9, t10, t11⟩ := id i1
  obtain ⟨z1, z2, z3, z4, z5, z6, z7, z8, z9⟩ := id i2
  refine CT.go RX7 rfl "fault" rfl [some (.ref y)] rfl (by decide) (Nat.le_of_ble_eq_true rfl) ?_
  intro p e R s m args below meth c X hsz
  refine r_aload_n (pc := 0) X dX7_fault_0 rfl ?_
  refine c_i X (rV (pc := 1) (ci := 7) X l_X7_111 (t7_readText a0 a1 a3 a4 i1 i6 i7) dX7_fault_1 (by repeat (first | exact mu_self | assumption | refine (mu_ne (by omega)).trans ?_)) rfl rfl rfl (Nat.le_of_ble_eq_true rfl) (by decide) (Nat.le_of_ble_eq_true rfl) (Nat.le_of_ble_eq_true rfl)) ?_
  rintro r1 μ1 ⟨hr1, pl1, tk1, vl1, bg1, cl1, rd1, b0, b4, bF, b5, b6⟩
  subst hr1
  have hW : WM Γ μ1 y T S un A kf K n xs sn V := ⟨pl1, tk1, vl1, bg1, cl1, rd1, ah, kp, mo, b0, (bF _ (by omega) (by omega)).trans a1, (bF _ (by omega) (by omega)).trans a2, (bF _ (by omega) (by omega)).trans a3, b4, (bF _ (by omega) (by omega)).trans a5, a6, (bF _ (by omega) (by omega)).trans a7, (bF _ (by omega) (by omega)).trans a8, a9, (bF _ (by omega) (by omega)).trans a10, (bF _ (by omega) (by omega)).trans a11⟩
  have hF : Fr y 10 μ μ1 := fun q hq => bF q (by omega) (by omega)
  first | refine r_if_eqZ (pc := 4) X 11 dX7_fault_4 (by decide) (fun h1 => ?_) (fun h1 => ?_) | refine r_if_eqN (pc := 4) X 11 dX7_fault_4 (by decide) (by omega) (fun h1 => ?_) (fun h1 => ?_) | refine r_if_eq (pc := 4) X 11 dX7_fault_4 (by decide) (fun h1 => ?_) (fun h1 => ?_)
  · have h1' : (rdT xs n 14 0 T 0 0).1 ≠ 0 := by simpa using h1
    refine r_aload_n (pc := 11) X dX7_fault_11 rfl ?_
    apply r_get (pc := 12) X f_X7_62 dX7_fault_12
    · repeat (first | exact mu_self | assumption | refine (mu_ne (by omega)).trans ?_)
    · rfl
    exact r_iret (pc := 15) X dX7_fault_15 (⟨b6 h1', hW, hF⟩)
  · have h1' : (rdT xs n 14 0 T 0 0).1 = 0 := by simpa using h1
    rw [h1', uI_0]
    refine r_iconst (pc := 7) (v := -1) X dX7_fault_7 (by decide) ?_
    refine r_goto (pc := 8) X 15 dX7_fault_8 (by decide) ?_
    exact r_iret (pc := 15) X dX7_fault_15 (⟨rfl, hW, hF⟩)
theorem t7_cave0 (h : WM Γ μ y T S un A kf K n xs sn V) (hI : INV T S un A kf K n xs sn V) (hf : (rdT xs n 14 0 T 0 0).1 ≠ 0) : CT Γ l 6 sz 0 0 mX7_cave [.ref y] μ (ri (fun r μ' => r = -4 ∧ WM Γ μ' y T S un A kf K n xs sn V ∧ Fr y 10 μ μ')) := by
  obtain ⟨pl, tk, vl, bg, cl, rd, ah, kp, mo, a0, a1, a2, a3, a4, a5, a6, a7, a8, a9, a10, a11⟩ := id h
  obtain ⟨i1, i2, i3, i4, i5, i6, i7, i8, i9⟩ := id hI
  obtain ⟨t1, t2, t3, t4, t5, t6, t7, t8, t9, t10, t11⟩ := id i1
  obtain ⟨z1, z2, z3, z4, z5, z6, z7, z8, z9⟩ := id i2
  refine CT.go RX7 rfl "cave" rfl [some (.ref y), none] rfl (by decide) (Nat.le_of_ble_eq_true rfl) ?_
  intro p e R s m args below meth c X hsz
  refine r_aload_n (pc := 0) X dX7_cave_0 rfl ?_
  refine c_i X (rV (pc := 1) (ci := 7) X l_X7_111 (t7_readText a0 a1 a3 a4 i1 i6 i7) dX7_cave_1 (by repeat (first | exact mu_self | assumption | refine (mu_ne (by omega)).trans ?_)) rfl rfl rfl (Nat.le_of_ble_eq_true rfl) (by decide) (Nat.le_of_ble_eq_true rfl) (Nat.le_of_ble_eq_true rfl)) ?_
  rintro r1 μ1 ⟨hr1, pl1, tk1, vl1, bg1, cl1, rd1, b0, b4, bF, b5, b6⟩
  subst hr1
  have hW : WM Γ μ1 y T S un A kf K n xs sn V := ⟨pl1, tk1, vl1, bg1, cl1, rd1, ah, kp, mo, b0, (bF _ (by omega) (by omega)).trans a1, (bF _ (by omega) (by omega)).trans a2, (bF _ (by omega) (by omega)).trans a3, b4, (bF _ (by omega) (by omega)).trans a5, a6, (bF _ (by omega) (by omega)).trans a7, (bF _ (by omega) (by omega)).trans a8, a9, (bF _ (by omega) (by omega)).trans a10, (bF _ (by omega) (by omega)).trans a11⟩
  have hF : Fr y 10 μ μ1 := fun q hq => bF q (by omega) (by omega)
  first | refine r_if_neZ (pc := 4) X 10 dX7_cave_4 (by decide) (fun h1 => ?_) (fun h1 => ?_) | refine r_if_neN (pc := 4) X 10 dX7_cave_4 (by decide) (by omega) (fun h1 => ?_) (fun h1 => ?_) | refine r_if_ne (pc := 4) X 10 dX7_cave_4 (by decide) (fun h1 => ?_) (fun h1 => ?_)
  · exact absurd (by simpa using h1) hf
  · refine r_bipush (pc := 7) (v := -4) X dX7_cave_7 (by decide) ?_
    exact r_iret (pc := 9) X dX7_cave_9 (⟨rfl, hW, hF⟩)
theorem t7_cave1 (h : WM Γ μ y T S un A kf K n xs sn V) (hI : INV T S un A kf K n xs sn V) (hf : (rdT xs n 14 0 T 0 0).1 = 0) : CT Γ l 6 sz 0 0 mX7_cave [.ref y] μ (ri (fun r μ' => r = nI (rdT xs n 14 0 T 0 0).2.2 ∧ WM Γ μ' y (cvT xs n T) (beginS (cvT xs n T)) 0 A (fun _ => false) K 0 xs 0 V ∧ Fr y 10 μ μ')) := by
  obtain ⟨pl, tk, vl, bg, cl, rd, ah, kp, mo, a0, a1, a2, a3, a4, a5, a6, a7, a8, a9, a10, a11⟩ := id h
  obtain ⟨i1, i2, i3, i4, i5, i6, i7, i8, i9⟩ := id hI
  obtain ⟨t1, t2, t3, t4, t5, t6, t7, t8, t9, t10, t11⟩ := id i1
  obtain ⟨z1, z2, z3, z4, z5, z6, z7, z8, z9⟩ := id i2
  refine CT.go RX7 rfl "cave" rfl [some (.ref y), none] rfl (by decide) (Nat.le_of_ble_eq_true rfl) ?_
  intro p e R s m args below meth c X hsz
  refine r_aload_n (pc := 0) X dX7_cave_0 rfl ?_
  refine c_i X (rV (pc := 1) (ci := 7) X l_X7_111 (t7_readText a0 a1 a3 a4 i1 i6 i7) dX7_cave_1 (by repeat (first | exact mu_self | assumption | refine (mu_ne (by omega)).trans ?_)) rfl rfl rfl (Nat.le_of_ble_eq_true rfl) (by decide) (Nat.le_of_ble_eq_true rfl) (Nat.le_of_ble_eq_true rfl)) ?_
  rintro r1 μ1 ⟨hr1, pl1, tk1, vl1, bg1, cl1, rd1, b0, b4, bF, b5, b6⟩
  subst hr1
  obtain ⟨hcl, hrd⟩ := b5 hf
  subst hcl
  rw [hrd] at b4
  have b1 := (bF (y + 1) (by omega) (by omega)).trans a1
  have b2 := (bF (y + 2) (by omega) (by omega)).trans a2
  have b3 := (bF (y + 3) (by omega) (by omega)).trans a3
  have b5' := (bF (y + 5) (by omega) (by omega)).trans a5
  have b6' := (bF (y + 6) (by omega) (by omega)).trans a7
  have b7 := (bF (y + 7) (by omega) (by omega)).trans a8
  have b8 := (bF (y + 8) (by omega) (by omega)).trans a10
  have b9 := (bF (y + 9) (by omega) (by omega)).trans a11
  have key : ∀ (N i : Nat) (g : Nat → Int32), i + N = 29 → (∀ k, k < i → g k = nI (cvT xs n T k)) → vV Γ p l e R s m args below meth c (vQ Γ s args below 0 0 (ri (fun r μ' => r = nI (rdT xs n 14 0 T 0 0).2.2 ∧ WM Γ μ' y (cvT xs n T) (beginS (cvT xs n T)) 0 A (fun _ => false) K 0 xs 0 V ∧ Fr y 10 μ μ'))) 2 0 0 17 [some (.ref (y)), some (.int (nI (i)))] [] (mu (mu μ1 y (mdO y 0 pl1 tk1 vl1 bg1 (nI (rdT xs n 14 0 T 0 0).2.2) un sn)) (y + 1) (xI Γ 29 g)) := by
    intro N
    induction N with
    | zero =>
      intro i g hi hg
      have hi2 : i = 29 := by omega
      subst hi2
      refine r_iload_n (pc := 17) X dX7_cave_17 rfl ?_
      refine r_bipush (pc := 18) (v := nI 29) X dX7_cave_18 (by decide) ?_
      refine r_icmp_geN (pc := 20) X 41 dX7_cave_20 (by decide) (by omega) (by omega) (fun _ => ?_) (fun h => absurd (Nat.le_refl _) h)
      refine vV.sub (μ' := mu (mu μ1 y (mdO y 0 pl1 tk1 vl1 bg1 (nI (rdT xs n 14 0 T 0 0).2.2) un sn)) (y + 1) (xI Γ 29 (fun i => nI (cvT xs n T i)))) (fun H hP => mP.congrI (fun j hj => hg j hj) hP) ?_
      refine r_aload_n (pc := 41) X dX7_cave_41 rfl ?_
      refine c_v X (rV (pc := 42) (ci := 7) X l_X7_42 (t7_anew (T := cvT xs n T) (n := 0) (pl := pl1) (tk := tk1) (vl := vl1) (bg := bg1) (cl := nI (rdT xs n 14 0 T 0 0).2.2) (un := un) (sn := sn) ((mu_ne (by omega)).trans mu_self) mu_self ((mu_ne (by omega)).trans ((mu_ne (by omega)).trans b2))) dX7_cave_42 (by repeat (first | exact mu_self | assumption | refine (mu_ne (by omega)).trans ?_)) rfl rfl rfl (Nat.le_of_ble_eq_true rfl) (by decide) (Nat.le_of_ble_eq_true rfl) (Nat.le_of_ble_eq_true rfl)) ?_
      rintro _ rfl
      have c0 : mu (mu (mu μ1 y (mdO y 0 pl1 tk1 vl1 bg1 (nI (rdT xs n 14 0 T 0 0).2.2) un sn)) (y + 1) (xI Γ 29 (fun i => nI (cvT xs n T i)))) (y + 2) (xI Γ 18 (stI (beginS (cvT xs n T)))) y = some (mdO y 0 pl1 tk1 vl1 bg1 (nI (rdT xs n 14 0 T 0 0).2.2) un sn) := (mu_ne (by omega)).trans ((mu_ne (by omega)).trans mu_self)
      refine r_aload_n (pc := 45) X dX7_cave_45 rfl ?_
      refine r_iconst (pc := 46) (v := nI 0) X dX7_cave_46 (by decide) ?_
      first | refine r_putS (pc := 47) X f_X7_114 dX7_cave_47 (by first | rfl | assumption | decide | simp [narrow]) (by first | rfl | assumption) (Nat.le_of_ble_eq_true rfl) ?_ | refine r_put (pc := 47) X f_X7_114 dX7_cave_47 (by repeat (first | exact mu_self | assumption | refine (mu_ne (by omega)).trans ?_)) (by first | rfl | assumption | decide | simp [narrow]) (by first | rfl | assumption) (Nat.le_of_ble_eq_true rfl) ?_
      refine r_aload_n (pc := 50) X dX7_cave_50 rfl ?_
      refine r_iconst (pc := 51) (v := nI 0) X dX7_cave_51 (by decide) ?_
      first | refine r_putS (pc := 52) X f_X7_117 dX7_cave_52 (by first | rfl | assumption | decide | simp [narrow]) (by first | rfl | assumption) (Nat.le_of_ble_eq_true rfl) ?_ | refine r_put (pc := 52) X f_X7_117 dX7_cave_52 (by repeat (first | exact mu_self | assumption | refine (mu_ne (by omega)).trans ?_)) (by first | rfl | assumption | decide | simp [narrow]) (by first | rfl | assumption) (Nat.le_of_ble_eq_true rfl) ?_
      refine r_aload_n (pc := 55) X dX7_cave_55 rfl ?_
      apply r_get (pc := 56) X f_X7_25 dX7_cave_56
      · repeat (first | exact mu_self | assumption | refine (mu_ne (by omega)).trans ?_)
      · rfl
      refine r_iconst (pc := 59) (v := nI 0) X dX7_cave_59 (by decide) ?_
      refine r_iconst (pc := 60) (v := nI 0) X dX7_cave_60 (by decide) ?_
      apply r_zast (pc := 61) X dX7_cave_61
      · first | rfl | decide
      · repeat (first | exact mu_self | assumption | refine (mu_ne (by omega)).trans ?_)
      · omega
      · decide
      refine r_aload_n (pc := 62) X dX7_cave_62 rfl ?_
      apply r_get (pc := 63) X f_X7_25 dX7_cave_63
      · repeat (first | exact mu_self | assumption | refine (mu_ne (by omega)).trans ?_)
      · rfl
      refine r_iconst (pc := 66) (v := nI 1) X dX7_cave_66 (by decide) ?_
      refine r_iconst (pc := 67) (v := nI 0) X dX7_cave_67 (by decide) ?_
      apply r_zast (pc := 68) X dX7_cave_68
      · first | rfl | decide
      · repeat (first | exact mu_self | assumption | refine (mu_ne (by omega)).trans ?_)
      · omega
      · decide
      refine vV.sub' (P := fun μ' => μ' (y + 6) = some (xZ Γ 2 (fun i => zb false)) ∧ μ' y = some (mdO y 0 pl1 tk1 vl1 bg1 (nI (rdT xs n 14 0 T 0 0).2.2) 0 0) ∧ μ' (y + 1) = some (xI Γ 29 (fun i => nI (cvT xs n T i))) ∧ μ' (y + 2) = some (xI Γ 18 (stI (beginS (cvT xs n T)))) ∧ ∀ q, q ≠ y → q ≠ y + 1 → q ≠ y + 2 → q ≠ y + 6 → μ' q = μ1 q) (fun H hP => ⟨_, mP.reZ (b := y + 6) hP mu_self (fun i hi => ?_), mu_self, (mu_ne (by omega)).trans ?_, (mu_ne (by omega)).trans ?_, (mu_ne (by omega)).trans ?_, fun q h0 h1 h2 h6 => (mu_ne h6).trans ?_⟩) ?_
      · unfold upd
        rcases (show i = 0 ∨ i = 1 by omega) with rfl | rfl <;> rfl
      · exact (by repeat (first | exact mu_self | assumption | refine (mu_ne (by omega)).trans ?_))
      · exact (by repeat (first | exact mu_self | assumption | refine (mu_ne (by omega)).trans ?_))
      · exact (by repeat (first | exact mu_self | assumption | refine (mu_ne (by omega)).trans ?_))
      · exact (mu_ne h6).trans ((mu_ne h6).trans ((mu_ne h0).trans ((mu_ne h2).trans ((mu_ne h1).trans (mu_ne h0)))))
      · rintro μ3 ⟨d6, d0, d1, d2, dF⟩
        refine r_aload_n (pc := 69) X dX7_cave_69 rfl ?_
        apply r_get (pc := 70) X f_X7_104 dX7_cave_70
        · repeat (first | exact mu_self | assumption | refine (mu_ne (by omega)).trans ?_)
        · rfl
        exact r_iret (pc := 73) X dX7_cave_73 (⟨rfl, ⟨pl1, tk1, vl1, bg1, nI (rdT xs n 14 0 T 0 0).2.2, _, ah, kp, mo, d0, d1, d2, (dF _ (by omega) (by omega) (by omega) (by omega)).trans b3, (dF _ (by omega) (by omega) (by omega) (by omega)).trans b4, (dF _ (by omega) (by omega) (by omega) (by omega)).trans b5', fun i k hi => absurd hi (Nat.not_lt_zero _), d6, (dF _ (by omega) (by omega) (by omega) (by omega)).trans b7, fun i k _ hk => absurd hk (by simp), (dF _ (by omega) (by omega) (by omega) (by omega)).trans b8, (dF _ (by omega) (by omega) (by omega) (by omega)).trans b9⟩, fun q hq => (dF q (by omega) (by omega) (by omega) (by omega)).trans (bF q (by omega) (by omega))⟩)
    | succ N ih =>
      intro i g hi hg
      refine r_iload_n (pc := 17) X dX7_cave_17 rfl ?_
      refine r_bipush (pc := 18) (v := nI 29) X dX7_cave_18 (by decide) ?_
      refine r_icmp_geN (pc := 20) X 41 dX7_cave_20 (by decide) (by omega) (by omega) (fun h => absurd h (by omega)) (fun _ => ?_)
      refine r_aload_n (pc := 23) X dX7_cave_23 rfl ?_
      apply r_get (pc := 24) X f_X7_7 dX7_cave_24
      · repeat (first | exact mu_self | assumption | refine (mu_ne (by omega)).trans ?_)
      · rfl
      refine r_iload_n (pc := 27) X dX7_cave_27 rfl ?_
      refine r_aload_n (pc := 28) X dX7_cave_28 rfl ?_
      apply r_get (pc := 29) X f_X7_19 dX7_cave_29
      · repeat (first | exact mu_self | assumption | refine (mu_ne (by omega)).trans ?_)
      · rfl
      refine r_iload_n (pc := 32) X dX7_cave_32 rfl ?_
      apply r_iald (pc := 33) X dX7_cave_33
      · repeat (first | exact mu_self | assumption | refine (mu_ne (by omega)).trans ?_)
      · omega
      · decide
      apply r_iast (pc := 34) X dX7_cave_34
      · repeat (first | exact mu_self | assumption | refine (mu_ne (by omega)).trans ?_)
      · omega
      · decide
      rw [mu_mu]
      have := ih (i + 1) (upd g i (nI (cvT xs n T i))) (by omega) (fun k hk => by
        unfold upd
        by_cases q : k = i
        · rw [if_pos q, q]
        · rw [if_neg q]; exact hg k (by omega))
      refine r_iincN (pc := 35) (b := 1) X dX7_cave_35 rfl (by decide) rfl ?_
      refine r_goto (pc := 38) X 17 dX7_cave_38 (by decide) ?_
      exact this
  rw [decide_eq_true hf]
  refine r_if_neZ (pc := 4) X 10 dX7_cave_4 (by decide) (fun _ => ?_) (fun q => absurd q (by decide))
  refine r_aload_n (pc := 10) X dX7_cave_10 rfl ?_
  refine r_iconst (pc := 11) (v := nI 0) X dX7_cave_11 (by decide) ?_
  first | refine r_putS (pc := 12) X f_X7_51 dX7_cave_12 (by first | rfl | assumption | decide | simp [narrow]) (by first | rfl | assumption) (Nat.le_of_ble_eq_true rfl) ?_ | refine r_put (pc := 12) X f_X7_51 dX7_cave_12 (by repeat (first | exact mu_self | assumption | refine (mu_ne (by omega)).trans ?_)) (by first | rfl | assumption | decide | simp [narrow]) (by first | rfl | assumption) (Nat.le_of_ble_eq_true rfl) ?_
  refine r_iconst (pc := 15) (v := nI 0) X dX7_cave_15 (by decide) ?_
  refine r_istore_n (pc := 16) X dX7_cave_16 (by decide) rfl ?_
  refine vV.sub (μ' := mu (mu μ1 y (mdO y 0 pl1 tk1 vl1 bg1 (nI (rdT xs n 14 0 T 0 0).2.2) un sn)) (y + 1) (xI Γ 29 (fun i => nI (T i)))) (fun H hP => mP.reI hP ((mu_ne (by omega)).trans b1) (fun j hj => rfl)) ?_
  exact key 29 0 _ (by omega) (fun k hk => by omega)
end S60
