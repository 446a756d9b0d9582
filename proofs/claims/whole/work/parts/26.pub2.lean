section S26
variable {Γ : KK} {l : Launch} {sz : Nat} {μ : MM} {x : Nat} {T S : Nat → Nat} {un : Nat} {A : Nat → Nat → Nat} {kf : Nat → Bool} {K : Nat → Nat → Nat} {n : Nat} {xs : Nat → Nat} {sn : Nat} {V : Nat → Nat}
theorem rdT_IT {xs : Nat → Nat} {n : Nat} : ∀ f k (T : Nat → Nat) e b, IT T → e ≤ n → IT (rdT xs n f k T e b).2.1 := by
  intro f
  induction f with
  | zero => intro k T e b h _; exact h
  | succ f ih =>
    intro k T e b h he
    obtain ⟨r1, r2, r3⟩ := rcl_ok (xs := xs) h he
    have hb2 := tkB_le (xs := xs) r2
    have he2 := tkE_le (X := xs) hb2
    have e0 : rdT xs n (f + 1) k T e b = if (rcl xs n T e).1 = false then ((rcl xs n T e).2.2.1 + 1, (rcl xs n T e).2.1, 0) else if n ≤ tkB xs n (rcl xs n T e).2.2.2 then (0, (rcl xs n T e).2.1, k + 1) else if xs (tkB xs n (rcl xs n T e).2.2.2) ≠ 59 then (tkB xs n (rcl xs n T e).2.2.2 + 1, (rcl xs n T e).2.1, 0) else rdT xs n f (k + 1) (rcl xs n T e).2.1 (tkE xs n (tkB xs n (rcl xs n T e).2.2.2)) (tkB xs n (rcl xs n T e).2.2.2) := rfl
    rw [e0]
    split
    · exact r3
    · split
      · exact r3
      · split
        · exact r3
        · exact ih _ _ _ _ r3 he2
theorem rdT_le {xs : Nat → Nat} {n : Nat} : ∀ f k (T : Nat → Nat) e b, IT T → e ≤ n → b ≤ n → (rdT xs n f k T e b).1 ≤ n + 1 ∧ (rdT xs n f k T e b).2.2 ≤ k + f := by
  intro f
  induction f with
  | zero => intro k T e b h _ hb; exact ⟨Nat.succ_le_succ hb, Nat.zero_le _⟩
  | succ f ih =>
    intro k T e b h he hb
    obtain ⟨r1, r2, r3⟩ := rcl_ok (xs := xs) h he
    have hb2 := tkB_le (xs := xs) r2
    have he2 := tkE_le (X := xs) hb2
    have e0 : rdT xs n (f + 1) k T e b = if (rcl xs n T e).1 = false then ((rcl xs n T e).2.2.1 + 1, (rcl xs n T e).2.1, 0) else if n ≤ tkB xs n (rcl xs n T e).2.2.2 then (0, (rcl xs n T e).2.1, k + 1) else if xs (tkB xs n (rcl xs n T e).2.2.2) ≠ 59 then (tkB xs n (rcl xs n T e).2.2.2 + 1, (rcl xs n T e).2.1, 0) else rdT xs n f (k + 1) (rcl xs n T e).2.1 (tkE xs n (tkB xs n (rcl xs n T e).2.2.2)) (tkB xs n (rcl xs n T e).2.2.2) := rfl
    rw [e0]
    split
    · exact ⟨Nat.succ_le_succ r1, Nat.zero_le _⟩
    · split
      · exact ⟨Nat.zero_le _, by show k + 1 ≤ k + (f + 1); omega⟩
      · split
        · exact ⟨Nat.succ_le_succ hb2, Nat.zero_le _⟩
        · have := ih (k + 1) _ _ _ r3 he2 hb2
          exact ⟨this.1, by have := this.2; omega⟩
abbrev cvT (xs : Nat → Nat) (n : Nat) (T : Nat → Nat) : Nat → Nat := (rdT xs n 14 0 T 0 0).2.1
theorem t6_cave0 (h : WC Γ μ x T S un A kf K n xs sn V) (hI : INV T S un A kf K n xs sn V) (hf : (rdT xs n 14 0 T 0 0).1 ≠ 0) : CT Γ l 8 sz 0 0 mX6_cave [.ref x] μ (ri (fun r μ' => r = -4 ∧ WC Γ μ' x T S un A kf K n xs sn V ∧ Fr x 46 μ μ')) := by
  obtain ⟨a0, ⟨cl, tb, te, a1⟩, a2, ⟨T', a3⟩, a4, ⟨nx, V', U', a5, a6, a7⟩, ⟨V2, U2, a8, a9⟩, a10, ⟨pf, pg, a11, a12⟩, a13⟩ := id h
  have c10 := a1.1
  have c11 := a1.2
  have c20 := a2.1
  have c21 := a2.2.1
  have c22 := a2.2.2.1
  have c23 := a2.2.2.2.1
  have c24 := a2.2.2.2.2
  have c30 := a3.1
  have c40 := a4.1
  have c41 := a4.2.1
  have c60 := a6.1
  have c80 := a8.1
  have c110 := a11.1
  have c130 := a13.1
  obtain ⟨i1, i2, i3, i4, i5, i6, i7, i8, i9⟩ := id hI
  obtain ⟨t1, t2, t3, t4, t5, t6, t7, t8, t9, t10, t11⟩ := id i1
  obtain ⟨z1, z2, z3, z4, z5, z6, z7, z8, z9⟩ := id i2
  have hle := (rdT_le (xs := xs) (n := n) 14 0 T 0 0 i1 (by omega) (by omega)).1
  refine CT.go RX6 rfl "cave" rfl [some (.ref x)] rfl (by decide) (Nat.le_of_ble_eq_true rfl) ?_
  intro p e R s m args below meth c X hsz
  refine r_aload_n (pc := 0) X dX6_cave_0 rfl ?_
  apply r_get (pc := 1) X f_X6_23 dX6_cave_1
  · repeat (first | exact mu_self | assumption | refine (mu_ne (by omega)).trans ?_)
  · rfl
  refine r_aload_n (pc := 4) X dX6_cave_4 rfl ?_
  apply r_get (pc := 5) X f_X6_19 dX6_cave_5
  · repeat (first | exact mu_self | assumption | refine (mu_ne (by omega)).trans ?_)
  · rfl
  refine c_v X (rV (pc := 8) (ci := 5) X l_X6_78 (t5_copy a3 a2 (by omega)) dX6_cave_8 (by repeat (first | exact mu_self | assumption | refine (mu_ne (by omega)).trans ?_)) rfl rfl rfl (Nat.le_of_ble_eq_true rfl) (by decide) (Nat.le_of_ble_eq_true rfl) (Nat.le_of_ble_eq_true rfl)) ?_
  rintro μ1 ⟨k1, k2⟩
  have d0 : μ1 x = _ := (k2 x (by omega)).trans a0
  have d1 : TextAt Γ μ1 (x + 1) n xs cl tb te := a1.kept (fun q h1 h2 => k2 q (by omega))
  have d10 := d1.1
  refine r_aload_n (pc := 11) X dX6_cave_11 rfl ?_
  apply r_get (pc := 12) X f_X6_10 dX6_cave_12
  · repeat (first | exact mu_self | assumption | refine (mu_ne (by omega)).trans ?_)
  · rfl
  refine r_aload_n (pc := 15) X dX6_cave_15 rfl ?_
  apply r_get (pc := 16) X f_X6_23 dX6_cave_16
  · repeat (first | exact mu_self | assumption | refine (mu_ne (by omega)).trans ?_)
  · rfl
  refine c_i X (rV (pc := 19) (ci := 4) X l_X6_81 (t4_read d1 k1 i1 i6 i7 (by omega)) dX6_cave_19 (by repeat (first | exact mu_self | assumption | refine (mu_ne (by omega)).trans ?_)) rfl rfl rfl (Nat.le_of_ble_eq_true rfl) (by decide) (Nat.le_of_ble_eq_true rfl) (Nat.le_of_ble_eq_true rfl)) ?_
  rintro _ μ2 ⟨rfl, ⟨cl2, b2, e2, m1, -⟩, m3, m4⟩
  have hW1 : WC Γ μ1 x T S un A kf K n xs sn V := h.dr (fun q hq => k2 q (by omega)) k1
  have hW2 : WC Γ μ2 x T S un A kf K n xs sn V := (hW1.tx (μ' := fun q => if x + 8 ≤ q ∧ q < x + 13 then μ1 q else μ2 q) (fun q hq => by split; rfl; exact m4 q (by omega) (by omega)) ⟨cl2, b2, e2, m1.kept (fun q h1 h2 => if_neg (by omega))⟩).dr (fun q hq => by rw [if_neg (by omega)]) m3
  refine r_iconst (pc := 22) (v := -1) X dX6_cave_22 (by decide) ?_
  refine r_icmp_eq (pc := 23) X 29 dX6_cave_23 (by decide) (fun q => absurd ((uI_eq (by omega) (by omega)).mp (by rw [q, uI_0])) hf) (fun _ => ?_)
  refine r_bipush (pc := 26) (v := -4) X dX6_cave_26 (by decide) ?_
  exact r_iret (pc := 28) X dX6_cave_28 (⟨rfl, hW2, fun q hq => (m4 q (by omega) (by omega)).trans (k2 q (by omega))⟩)
theorem t6_cave1 (h : WC Γ μ x T S un A kf K n xs sn V) (hI : INV T S un A kf K n xs sn V) (hf : (rdT xs n 14 0 T 0 0).1 = 0) : CT Γ l 8 sz 0 0 mX6_cave [.ref x] μ (ri (fun r μ' => r = nI (rdT xs n 14 0 T 0 0).2.2 ∧ WC Γ μ' x (cvT xs n T) (beginS (cvT xs n T)) 0 A (fun _ => false) K 0 xs 0 V ∧ Fr x 46 μ μ')) := by
  obtain ⟨a0, ⟨cl, tb, te, a1⟩, a2, ⟨T', a3⟩, a4, ⟨nx, V', U', a5, a6, a7⟩, ⟨V2, U2, a8, a9⟩, a10, ⟨pf, pg, a11, a12⟩, a13⟩ := id h
  have c10 := a1.1
  have c11 := a1.2
  have c20 := a2.1
  have c21 := a2.2.1
  have c22 := a2.2.2.1
  have c23 := a2.2.2.2.1
  have c24 := a2.2.2.2.2
  have c30 := a3.1
  have c40 := a4.1
  have c41 := a4.2.1
  have c60 := a6.1
  have c80 := a8.1
  have c110 := a11.1
  have c130 := a13.1
  obtain ⟨i1, i2, i3, i4, i5, i6, i7, i8, i9⟩ := id hI
  obtain ⟨t1, t2, t3, t4, t5, t6, t7, t8, t9, t10, t11⟩ := id i1
  obtain ⟨z1, z2, z3, z4, z5, z6, z7, z8, z9⟩ := id i2
  have hIT := rdT_IT (xs := xs) (n := n) 14 0 T 0 0 i1 (by omega)
  refine CT.go RX6 rfl "cave" rfl [some (.ref x)] rfl (by decide) (Nat.le_of_ble_eq_true rfl) ?_
  intro p e R s m args below meth c X hsz
  refine r_aload_n (pc := 0) X dX6_cave_0 rfl ?_
  apply r_get (pc := 1) X f_X6_23 dX6_cave_1
  · repeat (first | exact mu_self | assumption | refine (mu_ne (by omega)).trans ?_)
  · rfl
  refine r_aload_n (pc := 4) X dX6_cave_4 rfl ?_
  apply r_get (pc := 5) X f_X6_19 dX6_cave_5
  · repeat (first | exact mu_self | assumption | refine (mu_ne (by omega)).trans ?_)
  · rfl
  refine c_v X (rV (pc := 8) (ci := 5) X l_X6_78 (t5_copy a3 a2 (by omega)) dX6_cave_8 (by repeat (first | exact mu_self | assumption | refine (mu_ne (by omega)).trans ?_)) rfl rfl rfl (Nat.le_of_ble_eq_true rfl) (by decide) (Nat.le_of_ble_eq_true rfl) (Nat.le_of_ble_eq_true rfl)) ?_
  rintro μ1 ⟨k1, k2⟩
  have d0 : μ1 x = _ := (k2 x (by omega)).trans a0
  have d1 : TextAt Γ μ1 (x + 1) n xs cl tb te := a1.kept (fun q h1 h2 => k2 q (by omega))
  have d2 : ToldAt Γ μ1 (x + 3) T := a2.kept (fun q h1 h2 => k2 q (by omega))
  have d10 := d1.1
  refine r_aload_n (pc := 11) X dX6_cave_11 rfl ?_
  apply r_get (pc := 12) X f_X6_10 dX6_cave_12
  · repeat (first | exact mu_self | assumption | refine (mu_ne (by omega)).trans ?_)
  · rfl
  refine r_aload_n (pc := 15) X dX6_cave_15 rfl ?_
  apply r_get (pc := 16) X f_X6_23 dX6_cave_16
  · repeat (first | exact mu_self | assumption | refine (mu_ne (by omega)).trans ?_)
  · rfl
  refine c_i X (rV (pc := 19) (ci := 4) X l_X6_81 (t4_read d1 k1 i1 i6 i7 (by omega)) dX6_cave_19 (by repeat (first | exact mu_self | assumption | refine (mu_ne (by omega)).trans ?_)) rfl rfl rfl (Nat.le_of_ble_eq_true rfl) (by decide) (Nat.le_of_ble_eq_true rfl) (Nat.le_of_ble_eq_true rfl)) ?_
  rintro _ μ2 ⟨rfl, ⟨cl2, b2, e2, m1, m2⟩, m3, m4⟩
  have hcl := m2 hf
  subst hcl
  have f0 : μ2 x = _ := (m4 x (by omega) (by omega)).trans d0
  have f2 : ToldAt Γ μ2 (x + 3) T := d2.kept (fun q h1 h2 => m4 q (by omega) (by omega))
  have f20 := f2.1
  refine r_iconst (pc := 22) (v := -1) X dX6_cave_22 (by decide) ?_
  refine r_icmp_eq (pc := 23) X 29 dX6_cave_23 (by decide) (fun _ => ?_) (fun q => absurd (by rw [hf, uI_0]) q)
  refine r_aload_n (pc := 29) X dX6_cave_29 rfl ?_
  apply r_get (pc := 30) X f_X6_19 dX6_cave_30
  · repeat (first | exact mu_self | assumption | refine (mu_ne (by omega)).trans ?_)
  · rfl
  refine r_aload_n (pc := 33) X dX6_cave_33 rfl ?_
  apply r_get (pc := 34) X f_X6_23 dX6_cave_34
  · repeat (first | exact mu_self | assumption | refine (mu_ne (by omega)).trans ?_)
  · rfl
  refine c_v X (rV (pc := 37) (ci := 5) X l_X6_78 (t5_copy f2 m3 (by omega)) dX6_cave_37 (by repeat (first | exact mu_self | assumption | refine (mu_ne (by omega)).trans ?_)) rfl rfl rfl (Nat.le_of_ble_eq_true rfl) (by decide) (Nat.le_of_ble_eq_true rfl) (Nat.le_of_ble_eq_true rfl)) ?_
  rintro μ3 ⟨n1, n2⟩
  have g0 : μ3 x = _ := (n2 x (by omega)).trans f0
  have g1 : TextAt Γ μ3 (x + 1) n xs _ b2 e2 := m1.kept (fun q h1 h2 => n2 q (by omega))
  have g10 := g1.1
  refine r_aload_n (pc := 40) X dX6_cave_40 rfl ?_
  apply r_get (pc := 41) X f_X6_10 dX6_cave_41
  · repeat (first | exact mu_self | assumption | refine (mu_ne (by omega)).trans ?_)
  · rfl
  refine r_iconst (pc := 44) (v := nI 0) X dX6_cave_44 (by decide) ?_
  first | refine r_putS (pc := 45) X f_X6_74 dX6_cave_45 (by first | rfl | assumption | decide | simp [narrow]) (by first | rfl | assumption) (Nat.le_of_ble_eq_true rfl) ?_ | refine r_put (pc := 45) X f_X6_74 dX6_cave_45 (by repeat (first | exact mu_self | assumption | refine (mu_ne (by omega)).trans ?_)) (by first | rfl | assumption | decide | simp [narrow]) (by first | rfl | assumption) (Nat.le_of_ble_eq_true rfl) ?_
  refine r_aload_n (pc := 48) X dX6_cave_48 rfl ?_
  have hfr : ∀ q : Nat, (q < x + 1 ∨ x + 3 ≤ q) → (q < x + 3 ∨ x + 13 ≤ q) → μ3 q = μ q := fun q h1 h2 => (n2 q (by omega)).trans ((m4 q (by omega) (by omega)).trans (k2 q (by omega)))
  have hWR : WR Γ (mu μ3 (x + 1) (xO 4 [.ref (x + 1 + 1), .int (nI 0), .int (nI (rdT xs n 14 0 T 0 0).2.2), .int b2, .int e2])) x (cvT xs n T) 0 xs (nI (rdT xs n 14 0 T 0 0).2.2) V := by
    refine ⟨(mu_ne (by omega)).trans g0, ⟨b2, e2, mu_self, (mu_ne (by omega)).trans g1.2⟩, n1.kept (fun q h1 h2 => mu_ne (by omega)), ⟨_, m3.kept (fun q h1 h2 => (mu_ne (by omega)).trans (n2 q (by omega)))⟩, ⟨_, _, a4.kept (fun q h1 h2 => (mu_ne (by omega)).trans (hfr q (by omega) (by omega)))⟩, ⟨un, nx, V', U', a5, a6.kept (fun q h1 h2 => (mu_ne (by omega)).trans (hfr q (by omega) (by omega)))⟩, ⟨V2, U2, a8.kept (fun q h1 h2 => (mu_ne (by omega)).trans (hfr q (by omega) (by omega)))⟩, ⟨kf, (mu_ne (by omega)).trans ((hfr _ (by omega) (by omega)).trans a10)⟩, ⟨pf, pg, a11.kept (fun q h1 h2 => (mu_ne (by omega)).trans (hfr q (by omega) (by omega))), a12⟩, sn, a13.kept (fun q h1 h2 => (mu_ne (by omega)).trans (hfr q (by omega) (by omega)))⟩
  have hW0 := hWR.1
  refine c_v X (rV (pc := 49) (ci := 6) X l_X6_85 (t6_beginAnew (A := A) (K := K) hWR hIT.1) dX6_cave_49 (by repeat (first | exact mu_self | assumption | refine (mu_ne (by omega)).trans ?_)) rfl rfl rfl (Nat.le_of_ble_eq_true rfl) (by decide) (Nat.le_of_ble_eq_true rfl) (Nat.le_of_ble_eq_true rfl)) ?_
  rintro μ4 ⟨p1, ⟨b4, e4, p2⟩, p3⟩
  have p0 := p1.1
  have p20 := p2.1
  refine r_aload_n (pc := 52) X dX6_cave_52 rfl ?_
  apply r_get (pc := 53) X f_X6_10 dX6_cave_53
  · repeat (first | exact mu_self | assumption | refine (mu_ne (by omega)).trans ?_)
  · rfl
  apply r_get (pc := 56) X f_X6_88 dX6_cave_56
  · repeat (first | exact mu_self | assumption | refine (mu_ne (by omega)).trans ?_)
  · rfl
  exact r_iret (pc := 59) X dX6_cave_59 (⟨rfl, p1, fun q hq => (p3 q hq).trans ((mu_ne (by omega)).trans (hfr q (by omega) (by omega)))⟩)
theorem t6_man (h : WC Γ μ x T S un A kf K n xs sn V) (hI : INV T S un A kf K n xs sn V) (v1 v2 : Int32) : CT Γ l 2 sz 0 0 mX6_man [.ref x, .int v1, .int v2] μ (ri (fun r μ' => r = opMan T S v1 v2 ∧ μ' = μ)) := by
  obtain ⟨a0, ⟨cl, tb, te, a1⟩, a2, ⟨T', a3⟩, a4, ⟨nx, V', U', a5, a6, a7⟩, ⟨V2, U2, a8, a9⟩, a10, ⟨pf, pg, a11, a12⟩, a13⟩ := id h
  have c10 := a1.1
  have c11 := a1.2
  have c20 := a2.1
  have c21 := a2.2.1
  have c22 := a2.2.2.1
  have c23 := a2.2.2.2.1
  have c24 := a2.2.2.2.2
  have c30 := a3.1
  have c40 := a4.1
  have c41 := a4.2.1
  have c60 := a6.1
  have c80 := a8.1
  have c110 := a11.1
  have c130 := a13.1
  obtain ⟨i1, i2, i3, i4, i5, i6, i7, i8, i9⟩ := id hI
  obtain ⟨t1, t2, t3, t4, t5, t6, t7, t8, t9, t10, t11⟩ := id i1
  obtain ⟨z1, z2, z3, z4, z5, z6, z7, z8, z9⟩ := id i2
  refine CT.go RX6 rfl "man" rfl [some (.ref x), some (.int v1), some (.int v2)] rfl (by decide) (Nat.le_of_ble_eq_true rfl) ?_
  intro p e R s m args below meth c X hsz
  refine r_aload_n (pc := 0) X dX6_man_0 rfl ?_
  apply r_get (pc := 1) X f_X6_19 dX6_man_1
  · repeat (first | exact mu_self | assumption | refine (mu_ne (by omega)).trans ?_)
  · rfl
  refine r_iload_n (pc := 4) X dX6_man_4 rfl ?_
  refine c_i X (rV (pc := 5) (ci := 5) X l_X6_91 (t5_hasMan a2 t1 v1) dX6_man_5 (by repeat (first | exact mu_self | assumption | refine (mu_ne (by omega)).trans ?_)) rfl rfl rfl (Nat.le_of_ble_eq_true rfl) (by decide) (Nat.le_of_ble_eq_true rfl) (Nat.le_of_ble_eq_true rfl)) ?_
  rintro _ μq ⟨rfl, hμq⟩
  rw [hμq]
  clear hμq μq
  first | refine r_if_neZ (pc := 8) X 14 dX6_man_8 (by decide) (fun h1 => ?_) (fun h1 => ?_) | refine r_if_neN (pc := 8) X 14 dX6_man_8 (by decide) (by omega) (fun h1 => ?_) (fun h1 => ?_) | refine r_if_ne (pc := 8) X 14 dX6_man_8 (by decide) (fun h1 => ?_) (fun h1 => ?_)
  · have h1' : 0 ≤ v1.toInt ∧ v1.toInt < T 0 := by simpa using h1
    have hv := nt_nI h1'.1
    have hl : nt v1 < T 0 := nt_lt h1'.1 h1'.2
    obtain ⟨k', hk⟩ : ∃ k', k' = nt v1 := ⟨_, rfl⟩
    unfold opMan
    rw [if_neg (fun q => q h1')]
    rw [← hk] at hv hl ⊢
    subst hv
    refine r_iload_n (pc := 14) X dX6_man_14 rfl ?_
    by_cases w0 : v2.toInt = 0
    · rw [if_pos w0]
      refine r_tableIn (pc := 15) X 40 dX6_man_15 (by omega) (by omega) (by rw [w0]; rfl) (by decide) ?_
      refine r_aload_n (pc := 40) X dX6_man_40 rfl ?_
      apply r_get (pc := 41) X f_X6_19 dX6_man_41
      · repeat (first | exact mu_self | assumption | refine (mu_ne (by omega)).trans ?_)
      · rfl
      apply r_get (pc := 44) X f_X6_95 dX6_man_44
      · repeat (first | exact mu_self | assumption | refine (mu_ne (by omega)).trans ?_)
      · rfl
      refine r_iload_n (pc := 47) X dX6_man_47 rfl ?_
      apply r_iald (pc := 48) X dX6_man_48
      · repeat (first | exact mu_self | assumption | refine (mu_ne (by omega)).trans ?_)
      · omega
      · decide
      exact r_iret (pc := 49) X dX6_man_49 (⟨rfl, rfl⟩)
    rw [if_neg w0]
    by_cases w1 : v2.toInt = 1
    · rw [if_pos w1]
      refine r_tableIn (pc := 15) X 50 dX6_man_15 (by omega) (by omega) (by rw [w1]; rfl) (by decide) ?_
      refine r_aload_n (pc := 50) X dX6_man_50 rfl ?_
      apply r_get (pc := 51) X f_X6_29 dX6_man_51
      · repeat (first | exact mu_self | assumption | refine (mu_ne (by omega)).trans ?_)
      · rfl
      refine r_iload_n (pc := 54) X dX6_man_54 rfl ?_
      refine c_i X (rV (pc := 55) (ci := 2) X l_X6_99 (t2_stateOf a4 t1 i2 (m' := k') hl) dX6_man_55 (by repeat (first | exact mu_self | assumption | refine (mu_ne (by omega)).trans ?_)) rfl rfl rfl (Nat.le_of_ble_eq_true rfl) (by decide) (Nat.le_of_ble_eq_true rfl) (Nat.le_of_ble_eq_true rfl)) ?_
      rintro _ μq ⟨rfl, hμq⟩
      rw [hμq]
      clear hμq μq
      exact r_iret (pc := 58) X dX6_man_58 (⟨rfl, rfl⟩)
    rw [if_neg w1]
    by_cases w2 : v2.toInt = 2
    · rw [if_pos w2]
      refine r_tableIn (pc := 15) X 59 dX6_man_15 (by omega) (by omega) (by rw [w2]; rfl) (by decide) ?_
      refine r_aload_n (pc := 59) X dX6_man_59 rfl ?_
      apply r_get (pc := 60) X f_X6_29 dX6_man_60
      · repeat (first | exact mu_self | assumption | refine (mu_ne (by omega)).trans ?_)
      · rfl
      apply r_get (pc := 63) X f_X6_103 dX6_man_63
      · repeat (first | exact mu_self | assumption | refine (mu_ne (by omega)).trans ?_)
      · rfl
      refine r_iload_n (pc := 66) X dX6_man_66 rfl ?_
      apply r_iald (pc := 67) X dX6_man_67
      · repeat (first | exact mu_self | assumption | refine (mu_ne (by omega)).trans ?_)
      · omega
      · decide
      exact r_iret (pc := 68) X dX6_man_68 (⟨rfl, rfl⟩)
    rw [if_neg w2]
    refine r_tableOut (pc := 15) X 69 dX6_man_15 (by omega) (by decide) ?_
    refine r_bipush (pc := 69) (v := -3) X dX6_man_69 (by decide) ?_
    exact r_iret (pc := 71) X dX6_man_71 (⟨rfl, rfl⟩)
  · have h1' : ¬ (0 ≤ v1.toInt ∧ v1.toInt < T 0) := by simpa using h1
    unfold opMan
    rw [if_pos h1']
    refine r_bipush (pc := 11) (v := -2) X dX6_man_11 (by decide) ?_
    exact r_iret (pc := 13) X dX6_man_13 (⟨rfl, rfl⟩)
theorem t6_sheep (h : WC Γ μ x T S un A kf K n xs sn V) (hI : INV T S un A kf K n xs sn V) (v1 v2 : Int32) : CT Γ l 1 sz 0 0 mX6_sheep [.ref x, .int v1, .int v2] μ (ri (fun r μ' => r = opSheep T S v1 v2 ∧ μ' = μ)) := by
  obtain ⟨a0, ⟨cl, tb, te, a1⟩, a2, ⟨T', a3⟩, a4, ⟨nx, V', U', a5, a6, a7⟩, ⟨V2, U2, a8, a9⟩, a10, ⟨pf, pg, a11, a12⟩, a13⟩ := id h
  have c10 := a1.1
  have c11 := a1.2
  have c20 := a2.1
  have c21 := a2.2.1
  have c22 := a2.2.2.1
  have c23 := a2.2.2.2.1
  have c24 := a2.2.2.2.2
  have c30 := a3.1
  have c40 := a4.1
  have c41 := a4.2.1
  have c60 := a6.1
  have c80 := a8.1
  have c110 := a11.1
  have c130 := a13.1
  obtain ⟨i1, i2, i3, i4, i5, i6, i7, i8, i9⟩ := id hI
  obtain ⟨t1, t2, t3, t4, t5, t6, t7, t8, t9, t10, t11⟩ := id i1
  obtain ⟨z1, z2, z3, z4, z5, z6, z7, z8, z9⟩ := id i2
  have hg : S 5 < 2 ^ 6 := Nat.lt_of_lt_of_le z5 (Nat.pow_le_pow_right (by decide) t2)
  refine CT.go RX6 rfl "sheep" rfl [some (.ref x), some (.int v1), some (.int v2)] rfl (by decide) (Nat.le_of_ble_eq_true rfl) ?_
  intro p e R s m args below meth c X hsz
  refine r_aload_n (pc := 0) X dX6_sheep_0 rfl ?_
  apply r_get (pc := 1) X f_X6_19 dX6_sheep_1
  · repeat (first | exact mu_self | assumption | refine (mu_ne (by omega)).trans ?_)
  · rfl
  refine r_iload_n (pc := 4) X dX6_sheep_4 rfl ?_
  refine c_i X (rV (pc := 5) (ci := 5) X l_X6_106 (t5_hasSheep a2 t2 v1) dX6_sheep_5 (by repeat (first | exact mu_self | assumption | refine (mu_ne (by omega)).trans ?_)) rfl rfl rfl (Nat.le_of_ble_eq_true rfl) (by decide) (Nat.le_of_ble_eq_true rfl) (Nat.le_of_ble_eq_true rfl)) ?_
  rintro _ μq ⟨rfl, hμq⟩
  rw [hμq]
  clear hμq μq
  first | refine r_if_neZ (pc := 8) X 14 dX6_sheep_8 (by decide) (fun h1 => ?_) (fun h1 => ?_) | refine r_if_neN (pc := 8) X 14 dX6_sheep_8 (by decide) (by omega) (fun h1 => ?_) (fun h1 => ?_) | refine r_if_ne (pc := 8) X 14 dX6_sheep_8 (by decide) (fun h1 => ?_) (fun h1 => ?_)
  · have h1' : 0 ≤ v1.toInt ∧ v1.toInt < T 7 := by simpa using h1
    have hv := nt_nI h1'.1
    have hl : nt v1 < T 7 := nt_lt h1'.1 h1'.2
    obtain ⟨k', hk⟩ : ∃ k', k' = nt v1 := ⟨_, rfl⟩
    unfold opSheep
    rw [if_neg (fun q => q h1')]
    rw [← hk] at hv hl ⊢
    subst hv
    refine r_iload_n (pc := 14) X dX6_sheep_14 rfl ?_
    by_cases w0 : v2.toInt = 0
    · rw [if_pos w0]
      refine r_tableIn (pc := 15) X 44 dX6_sheep_15 (by omega) (by omega) (by rw [w0]; rfl) (by decide) ?_
      refine r_aload_n (pc := 44) X dX6_sheep_44 rfl ?_
      apply r_get (pc := 45) X f_X6_19 dX6_sheep_45
      · repeat (first | exact mu_self | assumption | refine (mu_ne (by omega)).trans ?_)
      · rfl
      apply r_get (pc := 48) X f_X6_109 dX6_sheep_48
      · repeat (first | exact mu_self | assumption | refine (mu_ne (by omega)).trans ?_)
      · rfl
      refine r_iload_n (pc := 51) X dX6_sheep_51 rfl ?_
      apply r_iald (pc := 52) X dX6_sheep_52
      · repeat (first | exact mu_self | assumption | refine (mu_ne (by omega)).trans ?_)
      · omega
      · decide
      exact r_iret (pc := 53) X dX6_sheep_53 (⟨rfl, rfl⟩)
    rw [if_neg w0]
    by_cases w1 : v2.toInt = 1
    · rw [if_pos w1]
      refine r_tableIn (pc := 15) X 54 dX6_sheep_15 (by omega) (by omega) (by rw [w1]; rfl) (by decide) ?_
      refine r_aload_n (pc := 54) X dX6_sheep_54 rfl ?_
      apply r_get (pc := 55) X f_X6_19 dX6_sheep_55
      · repeat (first | exact mu_self | assumption | refine (mu_ne (by omega)).trans ?_)
      · rfl
      apply r_get (pc := 58) X f_X6_112 dX6_sheep_58
      · repeat (first | exact mu_self | assumption | refine (mu_ne (by omega)).trans ?_)
      · rfl
      refine r_iload_n (pc := 61) X dX6_sheep_61 rfl ?_
      apply r_iald (pc := 62) X dX6_sheep_62
      · repeat (first | exact mu_self | assumption | refine (mu_ne (by omega)).trans ?_)
      · omega
      · decide
      exact r_iret (pc := 63) X dX6_sheep_63 (⟨rfl, rfl⟩)
    rw [if_neg w1]
    by_cases w2 : v2.toInt = 2
    · rw [if_pos w2]
      refine r_tableIn (pc := 15) X 64 dX6_sheep_15 (by omega) (by omega) (by rw [w2]; rfl) (by decide) ?_
      refine r_aload_n (pc := 64) X dX6_sheep_64 rfl ?_
      apply r_get (pc := 65) X f_X6_29 dX6_sheep_65
      · repeat (first | exact mu_self | assumption | refine (mu_ne (by omega)).trans ?_)
      · rfl
      apply r_get (pc := 68) X f_X6_115 dX6_sheep_68
      · repeat (first | exact mu_self | assumption | refine (mu_ne (by omega)).trans ?_)
      · rfl
      refine r_iload_n (pc := 71) X dX6_sheep_71 rfl ?_
      refine c_i X (rS (pc := 72) X l_X6_118 (t6_hasBit (b := S 5) (k := k') (by omega) (by omega)) dX6_sheep_72 rfl rfl (Nat.le_of_ble_eq_true rfl) (by decide) (Nat.le_of_ble_eq_true rfl) (Nat.le_of_ble_eq_true rfl)) ?_
      rintro _ μq ⟨rfl, hμq⟩
      rw [hμq]
      clear hμq μq
      first | refine r_if_eqZ (pc := 75) X 82 dX6_sheep_75 (by decide) (fun h3 => ?_) (fun h3 => ?_) | refine r_if_eqN (pc := 75) X 82 dX6_sheep_75 (by decide) (by omega) (fun h3 => ?_) (fun h3 => ?_) | refine r_if_eq (pc := 75) X 82 dX6_sheep_75 (by decide) (fun h3 => ?_) (fun h3 => ?_)
      · refine r_iconst (pc := 82) (v := nI 0) X dX6_sheep_82 (by decide) ?_
        exact r_iret (pc := 83) X dX6_sheep_83 (⟨by rw [h3]; rfl, rfl⟩)
      · refine r_iconst (pc := 78) (v := nI 1) X dX6_sheep_78 (by decide) ?_
        refine r_goto (pc := 79) X 83 dX6_sheep_79 (by decide) ?_
        exact r_iret (pc := 83) X dX6_sheep_83 (⟨by rw [h3]; rfl, rfl⟩)
    rw [if_neg w2]
    by_cases w3 : v2.toInt = 3
    · rw [if_pos w3]
      refine r_tableIn (pc := 15) X 84 dX6_sheep_15 (by omega) (by omega) (by rw [w3]; rfl) (by decide) ?_
      refine r_aload_n (pc := 84) X dX6_sheep_84 rfl ?_
      apply r_get (pc := 85) X f_X6_29 dX6_sheep_85
      · repeat (first | exact mu_self | assumption | refine (mu_ne (by omega)).trans ?_)
      · rfl
      refine r_iload_n (pc := 88) X dX6_sheep_88 rfl ?_
      refine c_i X (rV (pc := 89) (ci := 2) X l_X6_122 (t2_whoIsUnder a4 i1 i2 (s' := k') (by omega)) dX6_sheep_89 (by repeat (first | exact mu_self | assumption | refine (mu_ne (by omega)).trans ?_)) rfl rfl rfl (Nat.le_of_ble_eq_true rfl) (by decide) (Nat.le_of_ble_eq_true rfl) (Nat.le_of_ble_eq_true rfl)) ?_
      rintro _ μq ⟨rfl, hμq⟩
      rw [hμq]
      clear hμq μq
      exact r_iret (pc := 92) X dX6_sheep_92 (⟨rfl, rfl⟩)
    rw [if_neg w3]
    refine r_tableOut (pc := 15) X 93 dX6_sheep_15 (by omega) (by decide) ?_
    refine r_bipush (pc := 93) (v := -3) X dX6_sheep_93 (by decide) ?_
    exact r_iret (pc := 95) X dX6_sheep_95 (⟨rfl, rfl⟩)
  · have h1' : ¬ (0 ≤ v1.toInt ∧ v1.toInt < T 7) := by simpa using h1
    unfold opSheep
    rw [if_pos h1']
    refine r_bipush (pc := 11) (v := -2) X dX6_sheep_11 (by decide) ?_
    exact r_iret (pc := 13) X dX6_sheep_13 (⟨rfl, rfl⟩)
theorem t6_near (h : WC Γ μ x T S un A kf K n xs sn V) (hI : INV T S un A kf K n xs sn V) (v1 : Int32) : CT Γ l 1 sz 0 0 mX6_near [.ref x, .int v1] μ (ri (fun r μ' => r = opNear T v1 ∧ μ' = μ)) := by
  obtain ⟨a0, ⟨cl, tb, te, a1⟩, a2, ⟨T', a3⟩, a4, ⟨nx, V', U', a5, a6, a7⟩, ⟨V2, U2, a8, a9⟩, a10, ⟨pf, pg, a11, a12⟩, a13⟩ := id h
  have c10 := a1.1
  have c11 := a1.2
  have c20 := a2.1
  have c21 := a2.2.1
  have c22 := a2.2.2.1
  have c23 := a2.2.2.2.1
  have c24 := a2.2.2.2.2
  have c30 := a3.1
  have c40 := a4.1
  have c41 := a4.2.1
  have c60 := a6.1
  have c80 := a8.1
  have c110 := a11.1
  have c130 := a13.1
  obtain ⟨i1, i2, i3, i4, i5, i6, i7, i8, i9⟩ := id hI
  obtain ⟨t1, t2, t3, t4, t5, t6, t7, t8, t9, t10, t11⟩ := id i1
  obtain ⟨z1, z2, z3, z4, z5, z6, z7, z8, z9⟩ := id i2
  refine CT.go RX6 rfl "near" rfl [some (.ref x), some (.int v1)] rfl (by decide) (Nat.le_of_ble_eq_true rfl) ?_
  intro p e R s m args below meth c X hsz
  refine r_aload_n (pc := 0) X dX6_near_0 rfl ?_
  apply r_get (pc := 1) X f_X6_19 dX6_near_1
  · repeat (first | exact mu_self | assumption | refine (mu_ne (by omega)).trans ?_)
  · rfl
  refine r_iload_n (pc := 4) X dX6_near_4 rfl ?_
  refine c_i X (rV (pc := 5) (ci := 5) X l_X6_125 (t5_hasNeighbour a2 t3 v1) dX6_near_5 (by repeat (first | exact mu_self | assumption | refine (mu_ne (by omega)).trans ?_)) rfl rfl rfl (Nat.le_of_ble_eq_true rfl) (by decide) (Nat.le_of_ble_eq_true rfl) (Nat.le_of_ble_eq_true rfl)) ?_
  rintro _ μq ⟨rfl, hμq⟩
  rw [hμq]
  clear hμq μq
  first | refine r_if_eqZ (pc := 8) X 23 dX6_near_8 (by decide) (fun h1 => ?_) (fun h1 => ?_) | refine r_if_eqN (pc := 8) X 23 dX6_near_8 (by decide) (by omega) (fun h1 => ?_) (fun h1 => ?_) | refine r_if_eq (pc := 8) X 23 dX6_near_8 (by decide) (fun h1 => ?_) (fun h1 => ?_)
  · have h1' : ¬ (0 ≤ v1.toInt ∧ v1.toInt < T 20) := by simpa using h1
    unfold opNear
    rw [if_neg h1']
    refine r_bipush (pc := 23) (v := -2) X dX6_near_23 (by decide) ?_
    exact r_iret (pc := 25) X dX6_near_25 (⟨rfl, rfl⟩)
  · have h1' : 0 ≤ v1.toInt ∧ v1.toInt < T 20 := by simpa using h1
    have hv := nt_nI h1'.1
    have hl : nt v1 < T 20 := nt_lt h1'.1 h1'.2
    obtain ⟨k', hk⟩ : ∃ k', k' = nt v1 := ⟨_, rfl⟩
    unfold opNear
    rw [if_pos h1']
    rw [← hk] at hv hl ⊢
    subst hv
    refine r_aload_n (pc := 11) X dX6_near_11 rfl ?_
    apply r_get (pc := 12) X f_X6_19 dX6_near_12
    · repeat (first | exact mu_self | assumption | refine (mu_ne (by omega)).trans ?_)
    · rfl
    apply r_get (pc := 15) X f_X6_128 dX6_near_15
    · repeat (first | exact mu_self | assumption | refine (mu_ne (by omega)).trans ?_)
    · rfl
    refine r_iload_n (pc := 18) X dX6_near_18 rfl ?_
    apply r_iald (pc := 19) X dX6_near_19
    · repeat (first | exact mu_self | assumption | refine (mu_ne (by omega)).trans ?_)
    · omega
    · decide
    refine r_goto (pc := 20) X 25 dX6_near_20 (by decide) ?_
    exact r_iret (pc := 25) X dX6_near_25 (⟨rfl, rfl⟩)
theorem t6_as (h : WC Γ μ x T S un A kf K n xs sn V) (hI : INV T S un A kf K n xs sn V) (v1 v2 : Int32) : CT Γ l 3 sz 0 0 mX6_as [.ref x, .int v1, .int v2] μ (ri (fun r μ' => r = opAs T v1 v2 ∧ μ' = μ)) := by
  obtain ⟨a0, ⟨cl, tb, te, a1⟩, a2, ⟨T', a3⟩, a4, ⟨nx, V', U', a5, a6, a7⟩, ⟨V2, U2, a8, a9⟩, a10, ⟨pf, pg, a11, a12⟩, a13⟩ := id h
  have c10 := a1.1
  have c11 := a1.2
  have c20 := a2.1
  have c21 := a2.2.1
  have c22 := a2.2.2.1
  have c23 := a2.2.2.2.1
  have c24 := a2.2.2.2.2
  have c30 := a3.1
  have c40 := a4.1
  have c41 := a4.2.1
  have c60 := a6.1
  have c80 := a8.1
  have c110 := a11.1
  have c130 := a13.1
  obtain ⟨i1, i2, i3, i4, i5, i6, i7, i8, i9⟩ := id hI
  obtain ⟨t1, t2, t3, t4, t5, t6, t7, t8, t9, t10, t11⟩ := id i1
  obtain ⟨z1, z2, z3, z4, z5, z6, z7, z8, z9⟩ := id i2
  refine CT.go RX6 rfl "as" rfl [some (.ref x), some (.int v1), some (.int v2)] rfl (by decide) (Nat.le_of_ble_eq_true rfl) ?_
  intro p e R s m args below meth c X hsz
  refine r_aload_n (pc := 0) X dX6_as_0 rfl ?_
  apply r_get (pc := 1) X f_X6_19 dX6_as_1
  · repeat (first | exact mu_self | assumption | refine (mu_ne (by omega)).trans ?_)
  · rfl
  refine r_iload_n (pc := 4) X dX6_as_4 rfl ?_
  refine c_i X (rV (pc := 5) (ci := 5) X l_X6_106 (t5_hasSheep a2 t2 v1) dX6_as_5 (by repeat (first | exact mu_self | assumption | refine (mu_ne (by omega)).trans ?_)) rfl rfl rfl (Nat.le_of_ble_eq_true rfl) (by decide) (Nat.le_of_ble_eq_true rfl) (Nat.le_of_ble_eq_true rfl)) ?_
  rintro _ μq ⟨rfl, hμq⟩
  rw [hμq]
  clear hμq μq
  first | refine r_if_neZ (pc := 8) X 14 dX6_as_8 (by decide) (fun h1 => ?_) (fun h1 => ?_) | refine r_if_neN (pc := 8) X 14 dX6_as_8 (by decide) (by omega) (fun h1 => ?_) (fun h1 => ?_) | refine r_if_ne (pc := 8) X 14 dX6_as_8 (by decide) (fun h1 => ?_) (fun h1 => ?_)
  · have h1' : 0 ≤ v1.toInt ∧ v1.toInt < T 7 := by simpa using h1
    have hv := nt_nI h1'.1
    have hl : nt v1 < T 7 := nt_lt h1'.1 h1'.2
    obtain ⟨k', hk⟩ : ∃ k', k' = nt v1 := ⟨_, rfl⟩
    unfold opAs
    rw [if_neg (fun q => q h1')]
    rw [← hk] at hv hl ⊢
    subst hv
    refine r_iload_n (pc := 14) X dX6_as_14 rfl ?_
    refine r_iconst (pc := 15) (v := nI 0) X dX6_as_15 (by decide) ?_
    refine r_gets (pc := 16) X (i := 0) (by decide) s_X6_131 dX6_as_16 ?_
    refine r_talen (pc := 19) X (i := 0) (by decide) dX6_as_19 ?_
    refine r_iconst (pc := 20) (v := nI 1) X dX6_as_20 (by decide) ?_
    refine r_isubN (pc := 21) X dX6_as_21 (by decide) ?_
    refine c_i X (rS (pc := 22) X l_X6_66 (t6_isOutside v2 (nI 0) (nI (stL 0 - 1))) dX6_as_22 rfl rfl (Nat.le_of_ble_eq_true rfl) (by decide) (Nat.le_of_ble_eq_true rfl) (Nat.le_of_ble_eq_true rfl)) ?_
    rintro _ μq ⟨rfl, hμq⟩
    rw [hμq]
    clear hμq μq
    rw [nI_toInt (by decide), nI_toInt (by decide)]
    first | refine r_if_eqZ (pc := 25) X 31 dX6_as_25 (by decide) (fun h2 => ?_) (fun h2 => ?_) | refine r_if_eqN (pc := 25) X 31 dX6_as_25 (by decide) (by omega) (fun h2 => ?_) (fun h2 => ?_) | refine r_if_eq (pc := 25) X 31 dX6_as_25 (by decide) (fun h2 => ?_) (fun h2 => ?_)
    · have h2' : 0 ≤ v2.toInt ∧ v2.toInt ≤ 4 := by simp [stL] at h2; omega
      have hv2 := nt_nI h2'.1
      have hl2 : nt v2 < 5 := by unfold nt; omega
      rw [if_neg (fun q => q h2')]
      obtain ⟨j', hj⟩ : ∃ j', j' = nt v2 := ⟨_, rfl⟩
      rw [← hj] at hv2 hl2 ⊢
      subst hv2
      have hkd := t5 k' (by omega)
      refine r_aload_n (pc := 31) X dX6_as_31 rfl ?_
      apply r_get (pc := 32) X f_X6_19 dX6_as_32
      · repeat (first | exact mu_self | assumption | refine (mu_ne (by omega)).trans ?_)
      · rfl
      apply r_get (pc := 35) X f_X6_109 dX6_as_35
      · repeat (first | exact mu_self | assumption | refine (mu_ne (by omega)).trans ?_)
      · rfl
      refine r_iload_n (pc := 38) X dX6_as_38 rfl ?_
      apply r_iald (pc := 39) X dX6_as_39
      · repeat (first | exact mu_self | assumption | refine (mu_ne (by omega)).trans ?_)
      · omega
      · decide
      refine r_iload_n (pc := 40) X dX6_as_40 rfl ?_
      refine c_i X (rS (pc := 41) X l_X6_134 (t6_isUnderKind (t := T (8 + k')) (a := j') hkd hl2) dX6_as_41 rfl rfl (Nat.le_of_ble_eq_true rfl) (by decide) (Nat.le_of_ble_eq_true rfl) (Nat.le_of_ble_eq_true rfl)) ?_
      rintro _ μq ⟨rfl, hμq⟩
      rw [hμq]
      clear hμq μq
      first | refine r_if_eqZ (pc := 44) X 58 dX6_as_44 (by decide) (fun h3 => ?_) (fun h3 => ?_) | refine r_if_eqN (pc := 44) X 58 dX6_as_44 (by decide) (by omega) (fun h3 => ?_) (fun h3 => ?_) | refine r_if_eq (pc := 44) X 58 dX6_as_44 (by decide) (fun h3 => ?_) (fun h3 => ?_)
      · rw [h3, if_neg (by decide)]
        refine r_bipush (pc := 58) (v := -4) X dX6_as_58 (by decide) ?_
        exact r_iret (pc := 60) X dX6_as_60 (⟨rfl, rfl⟩)
      · rw [h3, if_pos rfl]
        refine r_aload_n (pc := 47) X dX6_as_47 rfl ?_
        apply r_get (pc := 48) X f_X6_19 dX6_as_48
        · repeat (first | exact mu_self | assumption | refine (mu_ne (by omega)).trans ?_)
        · rfl
        refine r_iload_n (pc := 51) X dX6_as_51 rfl ?_
        refine c_i X (rV (pc := 52) (ci := 5) X l_X6_137 (t5_bears a2 i1 (w := k') (by omega)) dX6_as_52 (by repeat (first | exact mu_self | assumption | refine (mu_ne (by omega)).trans ?_)) rfl rfl rfl (Nat.le_of_ble_eq_true rfl) (by decide) (Nat.le_of_ble_eq_true rfl) (Nat.le_of_ble_eq_true rfl)) ?_
        rintro _ μq ⟨rfl, hμq⟩
        rw [hμq]
        clear hμq μq
        refine r_goto (pc := 55) X 60 dX6_as_55 (by decide) ?_
        exact r_iret (pc := 60) X dX6_as_60 (⟨rfl, rfl⟩)
    · have h2' : ¬ (0 ≤ v2.toInt ∧ v2.toInt ≤ 4) := by simp [stL] at h2; omega
      rw [if_pos h2']
      refine r_bipush (pc := 28) (v := -3) X dX6_as_28 (by decide) ?_
      exact r_iret (pc := 30) X dX6_as_30 (⟨rfl, rfl⟩)
  · have h1' : ¬ (0 ≤ v1.toInt ∧ v1.toInt < T 7) := by simpa using h1
    unfold opAs
    rw [if_pos h1']
    refine r_bipush (pc := 11) (v := -2) X dX6_as_11 (by decide) ?_
    exact r_iret (pc := 13) X dX6_as_13 (⟨rfl, rfl⟩)
end S26
