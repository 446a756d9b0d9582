section S25
variable {Γ : KK} {l : Launch} {sz : Nat} {μ : MM} {x : Nat} {T S : Nat → Nat} {un : Nat} {A : Nat → Nat → Nat} {kf : Nat → Bool} {K : Nat → Nat → Nat} {n : Nat} {xs : Nat → Nat} {sn : Nat} {V : Nat → Nat}
theorem t6_write (h : WC Γ μ x T S un A kf K n xs sn V) (hI : INV T S un A kf K n xs sn V) (v1 : Int32) : CT Γ l 1 sz 0 0 mX6_write [.ref x, .int v1] μ (ri (fun r μ' => r = (opWrite n xs v1).1 ∧ WC Γ μ' x T S un A kf K (opWrite n xs v1).2.1 (opWrite n xs v1).2.2 sn V ∧ Fr x 46 μ μ')) := by
  obtain ⟨a0, ⟨cl, tb, te, a1⟩, a2, ⟨T', a3⟩, a4, ⟨nx, V', U', a5, a6, a7⟩, ⟨V2, U2, a8, a9⟩, a10, ⟨pf, pg, a11, a12⟩, a13⟩ := id h
  have c10 := a1.1
  have c11 := a1.2
  have c20 := a2.1
  have c21 := a2.2.1
  have c22 := a2.2.2.1
  have c23 := a2.2.2.2.1
  have c24 := a2.2.2.2.2
  have c30 := a3.1
  have c40 := a4.1
  have c41 := a4.2.1
  have c60 := a6.1
  have c80 := a8.1
  have c110 := a11.1
  have c130 := a13.1
  obtain ⟨i1, i2, i3, i4, i5, i6, i7, i8, i9⟩ := id hI
  obtain ⟨t1, t2, t3, t4, t5, t6, t7, t8, t9, t10, t11⟩ := id i1
  obtain ⟨z1, z2, z3, z4, z5, z6, z7, z8, z9⟩ := id i2
  refine CT.go RX6 rfl "write" rfl [some (.ref x), some (.int v1)] rfl (by decide) (Nat.le_of_ble_eq_true rfl) ?_
  intro p e R s m args below meth c X hsz
  refine r_iload_n (pc := 0) X dX6_write_0 rfl ?_
  refine r_iconst (pc := 1) (v := nI 0) X dX6_write_1 (by decide) ?_
  refine r_sipush (pc := 2) (v := nI 255) X dX6_write_2 (by decide) ?_
  refine c_i X (rS (pc := 5) X l_X6_66 (t6_isOutside v1 (nI 0) (nI 255)) dX6_write_5 rfl rfl (Nat.le_of_ble_eq_true rfl) (by decide) (Nat.le_of_ble_eq_true rfl) (Nat.le_of_ble_eq_true rfl)) ?_
  rintro _ μq ⟨rfl, hμq⟩
  rw [hμq]
  clear hμq μq
  rw [nI_toInt (by omega), nI_toInt (by omega)]
  first | refine r_if_eqZ (pc := 8) X 14 dX6_write_8 (by decide) (fun h1 => ?_) (fun h1 => ?_) | refine r_if_eqN (pc := 8) X 14 dX6_write_8 (by decide) (by omega) (fun h1 => ?_) (fun h1 => ?_) | refine r_if_eq (pc := 8) X 14 dX6_write_8 (by decide) (fun h1 => ?_) (fun h1 => ?_)
  · have h1' : 0 ≤ v1.toInt ∧ v1.toInt ≤ 255 := by simp at h1; omega
    have hv := nt_nI h1'.1
    have hl : nt v1 < 256 := by unfold nt; omega
    refine r_aload_n (pc := 14) X dX6_write_14 rfl ?_
    apply r_get (pc := 15) X f_X6_10 dX6_write_15
    · repeat (first | exact mu_self | assumption | refine (mu_ne (by omega)).trans ?_)
    · rfl
    refine r_iload_n (pc := 18) X dX6_write_18 rfl ?_
    have hc : (v1.toUInt32 % 65536).toInt32 = nI (nt v1) := by
      rw [hv]
      have : ∀ k, k < 256 → ((nI k).toUInt32 % 65536).toInt32 = nI k := by decide +kernel
      rw [this _ hl]
      congr 1
      unfold nt
      rw [nI_toInt (by omega)]
      rfl
    refine r_i2c (pc := 19) X dX6_write_19 hc ?_
    by_cases hn : n = 160
    · subst hn
      have e : opWrite 160 xs v1 = (-5, 160, xs) := by unfold opWrite; rw [if_neg (fun q => q h1'), if_pos rfl]
      rw [e]
      refine c_i X (rV (pc := 20) (ci := 4) X l_X6_70 (t4_addFull a1) dX6_write_20 (by repeat (first | exact mu_self | assumption | refine (mu_ne (by omega)).trans ?_)) rfl rfl rfl (Nat.le_of_ble_eq_true rfl) (by decide) (Nat.le_of_ble_eq_true rfl) (Nat.le_of_ble_eq_true rfl)) ?_
      rintro _ μq ⟨rfl, hμq⟩
      rw [hμq]
      clear hμq μq
      refine r_if_eqN (pc := 23) X 36 dX6_write_23 (by decide) (by decide) (fun _ => ?_) (fun q => absurd rfl q)
      refine r_bipush (pc := 36) (v := -5) X dX6_write_36 (by decide) ?_
      exact r_iret (pc := 38) X dX6_write_38 (⟨rfl, h, Fr.rf⟩)
    · have e : opWrite n xs v1 = (nI (n + 1), n + 1, upN xs n (nt v1)) := by unfold opWrite; rw [if_neg (fun q => q h1'), if_neg hn]
      rw [e]
      refine c_i X (rV (pc := 20) (ci := 4) X l_X6_70 (t4_add a1 (x := nt v1) (by omega) hl) dX6_write_20 (by repeat (first | exact mu_self | assumption | refine (mu_ne (by omega)).trans ?_)) rfl rfl rfl (Nat.le_of_ble_eq_true rfl) (by decide) (Nat.le_of_ble_eq_true rfl) (Nat.le_of_ble_eq_true rfl)) ?_
      rintro _ μ1 ⟨rfl, k1, k2⟩
      refine r_if_eqN (pc := 23) X 36 dX6_write_23 (by decide) (by decide) (fun q => absurd q (by decide)) (fun _ => ?_)
      have d0 : μ1 x = _ := (k2 x (by omega)).trans a0
      have d1 := k1.1
      refine r_aload_n (pc := 26) X dX6_write_26 rfl ?_
      apply r_get (pc := 27) X f_X6_10 dX6_write_27
      · repeat (first | exact mu_self | assumption | refine (mu_ne (by omega)).trans ?_)
      · rfl
      apply r_get (pc := 30) X f_X6_74 dX6_write_30
      · repeat (first | exact mu_self | assumption | refine (mu_ne (by omega)).trans ?_)
      · rfl
      refine r_goto (pc := 33) X 38 dX6_write_33 (by decide) ?_
      exact r_iret (pc := 38) X dX6_write_38 (⟨rfl, h.tx (fun q hq => k2 q (by omega)) ⟨_, _, _, k1⟩, fun q hq => k2 q (by omega)⟩)
  · have h1' : ¬ (0 ≤ v1.toInt ∧ v1.toInt ≤ 255) := by simp at h1; omega
    have e : opWrite n xs v1 = (-3, n, xs) := by unfold opWrite; rw [if_pos h1']
    rw [e]
    refine r_bipush (pc := 11) (v := -3) X dX6_write_11 (by decide) ?_
    exact r_iret (pc := 13) X dX6_write_13 (⟨rfl, h, Fr.rf⟩)
theorem t6_erase (h : WC Γ μ x T S un A kf K n xs sn V) (hI : INV T S un A kf K n xs sn V) : CT Γ l 0 sz 0 0 mX6_erase [.ref x] μ (ri (fun r μ' => r = nI n ∧ WC Γ μ' x T S un A kf K 0 xs sn V ∧ Fr x 46 μ μ')) := by
  obtain ⟨a0, ⟨cl, tb, te, a1⟩, a2, ⟨T', a3⟩, a4, ⟨nx, V', U', a5, a6, a7⟩, ⟨V2, U2, a8, a9⟩, a10, ⟨pf, pg, a11, a12⟩, a13⟩ := id h
  have c10 := a1.1
  have c11 := a1.2
  have c20 := a2.1
  have c21 := a2.2.1
  have c22 := a2.2.2.1
  have c23 := a2.2.2.2.1
  have c24 := a2.2.2.2.2
  have c30 := a3.1
  have c40 := a4.1
  have c41 := a4.2.1
  have c60 := a6.1
  have c80 := a8.1
  have c110 := a11.1
  have c130 := a13.1
  obtain ⟨i1, i2, i3, i4, i5, i6, i7, i8, i9⟩ := id hI
  obtain ⟨t1, t2, t3, t4, t5, t6, t7, t8, t9, t10, t11⟩ := id i1
  obtain ⟨z1, z2, z3, z4, z5, z6, z7, z8, z9⟩ := id i2
  refine CT.go RX6 rfl "erase" rfl [some (.ref x), none] rfl (by decide) (Nat.le_of_ble_eq_true rfl) ?_
  intro p e R s m args below meth c X hsz
  refine r_aload_n (pc := 0) X dX6_erase_0 rfl ?_
  apply r_get (pc := 1) X f_X6_10 dX6_erase_1
  · repeat (first | exact mu_self | assumption | refine (mu_ne (by omega)).trans ?_)
  · rfl
  apply r_get (pc := 4) X f_X6_74 dX6_erase_4
  · repeat (first | exact mu_self | assumption | refine (mu_ne (by omega)).trans ?_)
  · rfl
  refine r_istore_n (pc := 7) X dX6_erase_7 (by decide) rfl ?_
  refine r_aload_n (pc := 8) X dX6_erase_8 rfl ?_
  apply r_get (pc := 9) X f_X6_10 dX6_erase_9
  · repeat (first | exact mu_self | assumption | refine (mu_ne (by omega)).trans ?_)
  · rfl
  refine r_iconst (pc := 12) (v := nI 0) X dX6_erase_12 (by decide) ?_
  first | refine r_putS (pc := 13) X f_X6_74 dX6_erase_13 (by first | rfl | assumption | decide | simp [narrow]) (by first | rfl | assumption) (Nat.le_of_ble_eq_true rfl) ?_ | refine r_put (pc := 13) X f_X6_74 dX6_erase_13 (by repeat (first | exact mu_self | assumption | refine (mu_ne (by omega)).trans ?_)) (by first | rfl | assumption | decide | simp [narrow]) (by first | rfl | assumption) (Nat.le_of_ble_eq_true rfl) ?_
  refine r_iload_n (pc := 16) X dX6_erase_16 rfl ?_
  exact r_iret (pc := 17) X dX6_erase_17 (⟨rfl, h.tx (fun q hq => mu_ne (by omega)) ⟨_, _, _, mu_self, (mu_ne (by omega)).trans a1.2⟩, fun q hq => mu_ne (by omega)⟩)
theorem t6_fault (h : WC Γ μ x T S un A kf K n xs sn V) (hI : INV T S un A kf K n xs sn V) : CT Γ l 8 sz 0 0 mX6_fault [.ref x] μ (ri (fun r μ' => r = uI (rdT xs n 14 0 T 0 0).1 ∧ WC Γ μ' x T S un A kf K n xs sn V ∧ Fr x 46 μ μ')) := by
  obtain ⟨a0, ⟨cl, tb, te, a1⟩, a2, ⟨T', a3⟩, a4, ⟨nx, V', U', a5, a6, a7⟩, ⟨V2, U2, a8, a9⟩, a10, ⟨pf, pg, a11, a12⟩, a13⟩ := id h
  have c10 := a1.1
  have c11 := a1.2
  have c20 := a2.1
  have c21 := a2.2.1
  have c22 := a2.2.2.1
  have c23 := a2.2.2.2.1
  have c24 := a2.2.2.2.2
  have c30 := a3.1
  have c40 := a4.1
  have c41 := a4.2.1
  have c60 := a6.1
  have c80 := a8.1
  have c110 := a11.1
  have c130 := a13.1
  obtain ⟨i1, i2, i3, i4, i5, i6, i7, i8, i9⟩ := id hI
  obtain ⟨t1, t2, t3, t4, t5, t6, t7, t8, t9, t10, t11⟩ := id i1
  obtain ⟨z1, z2, z3, z4, z5, z6, z7, z8, z9⟩ := id i2
  refine CT.go RX6 rfl "fault" rfl [some (.ref x)] rfl (by decide) (Nat.le_of_ble_eq_true rfl) ?_
  intro p e R s m args below meth c X hsz
  refine r_aload_n (pc := 0) X dX6_fault_0 rfl ?_
  apply r_get (pc := 1) X f_X6_23 dX6_fault_1
  · repeat (first | exact mu_self | assumption | refine (mu_ne (by omega)).trans ?_)
  · rfl
  refine r_aload_n (pc := 4) X dX6_fault_4 rfl ?_
  apply r_get (pc := 5) X f_X6_19 dX6_fault_5
  · repeat (first | exact mu_self | assumption | refine (mu_ne (by omega)).trans ?_)
  · rfl
  refine c_v X (rV (pc := 8) (ci := 5) X l_X6_78 (t5_copy a3 a2 (by omega)) dX6_fault_8 (by repeat (first | exact mu_self | assumption | refine (mu_ne (by omega)).trans ?_)) rfl rfl rfl (Nat.le_of_ble_eq_true rfl) (by decide) (Nat.le_of_ble_eq_true rfl) (Nat.le_of_ble_eq_true rfl)) ?_
  rintro μ1 ⟨k1, k2⟩
  have d0 : μ1 x = _ := (k2 x (by omega)).trans a0
  have d1 : TextAt Γ μ1 (x + 1) n xs cl tb te := a1.kept (fun q h1 h2 => k2 q (by omega))
  have d10 := d1.1
  refine r_aload_n (pc := 11) X dX6_fault_11 rfl ?_
  apply r_get (pc := 12) X f_X6_10 dX6_fault_12
  · repeat (first | exact mu_self | assumption | refine (mu_ne (by omega)).trans ?_)
  · rfl
  refine r_aload_n (pc := 15) X dX6_fault_15 rfl ?_
  apply r_get (pc := 16) X f_X6_23 dX6_fault_16
  · repeat (first | exact mu_self | assumption | refine (mu_ne (by omega)).trans ?_)
  · rfl
  refine c_i X (rV (pc := 19) (ci := 4) X l_X6_81 (t4_read d1 k1 i1 i6 i7 (by omega)) dX6_fault_19 (by repeat (first | exact mu_self | assumption | refine (mu_ne (by omega)).trans ?_)) rfl rfl rfl (Nat.le_of_ble_eq_true rfl) (by decide) (Nat.le_of_ble_eq_true rfl) (Nat.le_of_ble_eq_true rfl)) ?_
  rintro _ μ2 ⟨rfl, ⟨cl2, b2, e2, m1, -⟩, m3, m4⟩
  have hW1 : WC Γ μ1 x T S un A kf K n xs sn V := h.dr (fun q hq => k2 q (by omega)) k1
  exact r_iret (pc := 22) X dX6_fault_22 (⟨rfl, (hW1.tx (μ' := fun q => if x + 8 ≤ q ∧ q < x + 13 then μ1 q else μ2 q) (fun q hq => by split; rfl; exact m4 q (by omega) (by omega)) ⟨cl2, b2, e2, m1.kept (fun q h1 h2 => if_neg (by omega))⟩).dr (fun q hq => by rw [if_neg (by omega)]) m3, fun q hq => (m4 q (by omega) (by omega)).trans (k2 q (by omega))⟩)
/-- the cells, whatever the scenes hold -/
def WR (Γ : KK) (μ : MM) (x : Nat) (T : Nat → Nat) (n : Nat) (X : Nat → Nat) (cl : Int32) (V : Nat → Nat) : Prop :=
  μ x = some (xO 6 [.ref (x + 1), .ref (x + 3), .ref (x + 8), .ref (x + 13), .ref (x + 15), .ref (x + 33), .ref (x + 38), .ref (x + 39), .ref (x + 42)]) ∧
  (∃ b e, TextAt Γ μ (x + 1) n X cl b e) ∧ ToldAt Γ μ (x + 3) T ∧ (∃ T', ToldAt Γ μ (x + 8) T') ∧ (∃ v u, ScAt Γ μ (x + 13) v u) ∧
  (∃ un nx V' U', nx < 8 ∧ PastAt Γ μ (x + 15) un nx V' U') ∧ (∃ V' U', KeptAt Γ μ (x + 33) V' U') ∧ (∃ kf : Nat → Bool, μ (x + 38) = some (xZ Γ 2 (fun i => zb (kf i)))) ∧
  (∃ f g, PlanAt Γ μ (x + 39) f g ∧ ∀ j, j < 64 → g (384 + j) = nI 0) ∧ ∃ sn, SigAt Γ μ (x + 42) sn V
theorem t6_beginAnew {cl : Int32} (h : WR Γ μ x T n xs cl V) (h6 : T 0 ≤ 6) : CT Γ l 2 sz 0 0 mX6_beginAnew [.ref x] μ (rv (fun μ' => WC Γ μ' x T (beginS T) 0 A (fun _ => false) K n xs 0 V ∧ (∃ b e, TextAt Γ μ' (x + 1) n xs cl b e) ∧ Fr x 46 μ μ')) := by
  obtain ⟨a0, ⟨tb, te, a1⟩, a2, ⟨T', a3⟩, ⟨v0, u0, a4⟩, ⟨un, nx, V', U', a5, a6⟩, ⟨V2, U2, a8⟩, ⟨kf, a10⟩, ⟨pf, pg, a11, a12⟩, sn, a13⟩ := id h
  have c40 := a4.1
  refine CT.go RX6 rfl "beginAnew" rfl [some (.ref x), none] rfl (by decide) (Nat.le_of_ble_eq_true rfl) ?_
  intro p e R s m args below meth c X hsz
  refine r_aload_n (pc := 0) X dX6_beginAnew_0 rfl ?_
  apply r_get (pc := 1) X f_X6_29 dX6_beginAnew_1
  · repeat (first | exact mu_self | assumption | refine (mu_ne (by omega)).trans ?_)
  · rfl
  refine r_aload_n (pc := 4) X dX6_beginAnew_4 rfl ?_
  apply r_get (pc := 5) X f_X6_19 dX6_beginAnew_5
  · repeat (first | exact mu_self | assumption | refine (mu_ne (by omega)).trans ?_)
  · rfl
  refine c_v X (rV (pc := 8) (ci := 2) X l_X6_62 (t2_begin a4 a2 h6 (by omega)) dX6_beginAnew_8 (by repeat (first | exact mu_self | assumption | refine (mu_ne (by omega)).trans ?_)) rfl rfl rfl (Nat.le_of_ble_eq_true rfl) (by decide) (Nat.le_of_ble_eq_true rfl) (Nat.le_of_ble_eq_true rfl)) ?_
  rintro μ1 ⟨k1, k2⟩
  have d0 : μ1 x = _ := (k2 x (by omega)).trans a0
  have d6 : PastAt Γ μ1 (x + 15) un nx V' U' := a6.kept (fun q h1 h2 => k2 q (by omega))
  have d60 := d6.1
  refine r_aload_n (pc := 11) X dX6_beginAnew_11 rfl ?_
  apply r_get (pc := 12) X f_X6_36 dX6_beginAnew_12
  · repeat (first | exact mu_self | assumption | refine (mu_ne (by omega)).trans ?_)
  · rfl
  refine c_v X (rV (pc := 15) (ci := 0) X l_X6_201 (t0_clear d6) dX6_beginAnew_15 (by repeat (first | exact mu_self | assumption | refine (mu_ne (by omega)).trans ?_)) rfl rfl rfl (Nat.le_of_ble_eq_true rfl) (by decide) (Nat.le_of_ble_eq_true rfl) (Nat.le_of_ble_eq_true rfl)) ?_
  rintro μ2 ⟨m1, m2⟩
  have f0 : μ2 x = _ := (m2 x (by omega)).trans d0
  have hF2 : ∀ q : Nat, (q < x + 13 ∨ x + 33 ≤ q) → μ2 q = μ q := fun q hq => (m2 q (by omega)).trans (k2 q (by omega))
  have f13 : SigAt Γ μ2 (x + 42) sn V := a13.kept (fun q h1 h2 => hF2 q (by omega))
  have f130 := f13.1
  have f10 : μ2 (x + 38) = _ := (hF2 (x + 38) (by omega)).trans a10
  refine r_aload_n (pc := 18) X dX6_beginAnew_18 rfl ?_
  apply r_get (pc := 19) X f_X6_58 dX6_beginAnew_19
  · repeat (first | exact mu_self | assumption | refine (mu_ne (by omega)).trans ?_)
  · rfl
  refine r_iconst (pc := 22) (v := nI 0) X dX6_beginAnew_22 (by decide) ?_
  first | refine r_putS (pc := 23) X f_X6_242 dX6_beginAnew_23 (by first | rfl | assumption | decide | simp [narrow]) (by first | rfl | assumption) (Nat.le_of_ble_eq_true rfl) ?_ | refine r_put (pc := 23) X f_X6_242 dX6_beginAnew_23 (by repeat (first | exact mu_self | assumption | refine (mu_ne (by omega)).trans ?_)) (by first | rfl | assumption | decide | simp [narrow]) (by first | rfl | assumption) (Nat.le_of_ble_eq_true rfl) ?_
  refine r_iconst (pc := 26) (v := nI 0) X dX6_beginAnew_26 (by decide) ?_
  refine r_istore_n (pc := 27) X dX6_beginAnew_27 (by decide) rfl ?_
  refine r_iload_n (pc := 28) X dX6_beginAnew_28 rfl ?_
  refine r_iconst (pc := 29) (v := nI 2) X dX6_beginAnew_29 (by decide) ?_
  refine r_icmp_geN (pc := 30) X 46 dX6_beginAnew_30 (by decide) (by decide) (by decide) (fun q => absurd q (by decide)) (fun _ => ?_)
  refine r_aload_n (pc := 33) X dX6_beginAnew_33 rfl ?_
  apply r_get (pc := 34) X f_X6_44 dX6_beginAnew_34
  · repeat (first | exact mu_self | assumption | refine (mu_ne (by omega)).trans ?_)
  · rfl
  refine r_iload_n (pc := 37) X dX6_beginAnew_37 rfl ?_
  refine r_iconst (pc := 38) (v := nI 0) X dX6_beginAnew_38 (by decide) ?_
  apply r_zast (pc := 39) X dX6_beginAnew_39 (by decide)
  · exact (mu_ne (by omega)).trans f10
  · omega
  · decide
  refine r_iincN (pc := 40) (b := 1) X dX6_beginAnew_40 rfl (by decide) rfl ?_
  refine r_goto (pc := 43) X 28 dX6_beginAnew_43 (by decide) ?_
  refine r_iload_n (pc := 28) X dX6_beginAnew_28 rfl ?_
  refine r_iconst (pc := 29) (v := nI 2) X dX6_beginAnew_29 (by decide) ?_
  refine r_icmp_geN (pc := 30) X 46 dX6_beginAnew_30 (by decide) (by decide) (by decide) (fun q => absurd q (by decide)) (fun _ => ?_)
  refine r_aload_n (pc := 33) X dX6_beginAnew_33 rfl ?_
  apply r_get (pc := 34) X f_X6_44 dX6_beginAnew_34
  · repeat (first | exact mu_self | assumption | refine (mu_ne (by omega)).trans ?_)
  · rfl
  refine r_iload_n (pc := 37) X dX6_beginAnew_37 rfl ?_
  refine r_iconst (pc := 38) (v := nI 0) X dX6_beginAnew_38 (by decide) ?_
  apply r_zast (pc := 39) X dX6_beginAnew_39 (by decide)
  · exact mu_self
  · omega
  · decide
  rw [mu_mu]
  refine r_iincN (pc := 40) (b := 1) X dX6_beginAnew_40 rfl (by decide) rfl ?_
  refine r_goto (pc := 43) X 28 dX6_beginAnew_43 (by decide) ?_
  refine r_iload_n (pc := 28) X dX6_beginAnew_28 rfl ?_
  refine r_iconst (pc := 29) (v := nI 2) X dX6_beginAnew_29 (by decide) ?_
  refine r_icmp_geN (pc := 30) X 46 dX6_beginAnew_30 (by decide) (by decide) (by decide) (fun _ => ?_) (fun q => absurd (by decide) q)
  refine vV.sub (μ' := mu (mu μ2 (x + 42) (xO 3 [.int (nI 0), .ref (x + 42 + 1), .ref (x + 42 + 2), .ref (x + 42 + 3)])) (x + 38) (xZ Γ 2 (fun i => zb false))) (fun H hP => ?_) ?_
  · refine hP.to (fun a e ha => ?_)
    by_cases hq : a = x + 38
    · subst hq
      rw [mu_self] at ha
      cases ha
      refine ⟨_, mu_self, fun H2 hH => ?_⟩
      have e1 : H2[x + 38]? = some (vp_cell (kcZ Γ) (2, .inl (upd (upd (fun i => zb (kf i)) 0 (nI 0)) (0 + 1) (nI 0)))) := hH
      show H2[x + 38]? = some (vp_cell (kcZ Γ) (2, .inl (fun i => zb false)))
      rw [e1, vp_cell_i, vp_cell_i, arrV_congr (fun j hj => ?_)]
      rcases (show j = 0 ∨ j = 1 by omega) with rfl | rfl <;> rfl
    · rw [mu_ne hq] at ha
      exact ⟨e, by rw [mu_ne hq]; exact ha, fun _ hH => hH⟩
  obtain ⟨μ4, hμ4⟩ : ∃ μ4, μ4 = mu (mu μ2 (x + 42) (xO 3 [.int (nI 0), .ref (x + 42 + 1), .ref (x + 42 + 2), .ref (x + 42 + 3)])) (x + 38) (xZ Γ 2 (fun i => zb false)) := ⟨_, rfl⟩
  have hF4 : ∀ q : Nat, q ≠ x + 42 → q ≠ x + 38 → μ4 q = μ2 q := fun q h1 h2 => by rw [hμ4]; exact (mu_ne h2).trans (mu_ne h1)
  have hz4 : μ4 (x + 38) = some (xZ Γ 2 (fun i => zb false)) := by rw [hμ4]; exact mu_self
  have hs4 : μ4 (x + 42) = some (xO 3 [.int (nI 0), .ref (x + 42 + 1), .ref (x + 42 + 2), .ref (x + 42 + 3)]) := by rw [hμ4]; exact (mu_ne (by omega)).trans mu_self
  rw [← hμ4]
  have hG : ∀ q : Nat, (q < x + 13 ∨ x + 33 ≤ q) → q ≠ x + 42 → q ≠ x + 38 → μ4 q = μ q := fun q h0 h1 h2 => (hF4 q h1 h2).trans (hF2 q h0)
  have t1 : TextAt Γ μ4 (x + 1) n xs cl tb te := a1.kept (fun q h1 h2 => hG q (by omega) (by omega) (by omega))
  exact r_vret (pc := 46) X dX6_beginAnew_46 (⟨⟨(hG x (by omega) (by omega) (by omega)).trans a0, ⟨_, _, _, t1⟩, a2.kept (fun q h1 h2 => hG q (by omega) (by omega) (by omega)), ⟨T', a3.kept (fun q h1 h2 => hG q (by omega) (by omega) (by omega))⟩, k1.kept (fun q h1 h2 => (hF4 q (by omega) (by omega)).trans (m2 q (by omega))), ⟨nx, V', U', a5, m1.kept (fun q h1 h2 => hF4 q (by omega) (by omega)), fun i hi => absurd hi (by omega)⟩, ⟨V2, U2, a8.kept (fun q h1 h2 => hG q (by omega) (by omega) (by omega)), fun i _ hz => by cases hz⟩, hz4, ⟨pf, pg, a11.kept (fun q h1 h2 => hG q (by omega) (by omega) (by omega)), a12⟩, ⟨hs4, (hG _ (by omega) (by omega) (by omega)).trans a13.2.1, (hG _ (by omega) (by omega) (by omega)).trans a13.2.2.1, (hG _ (by omega) (by omega) (by omega)).trans a13.2.2.2⟩⟩, ⟨_, _, t1⟩, fun q hq => hG q (by omega) (by omega) (by omega)⟩)
end S25
