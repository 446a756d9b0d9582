section S29a
variable {Γ : KK} {p : Program} {l : Launch} {e : Env} {R : Room} {s : State} {m : MethodId} {args : Array Value} {below : List Frame} {meth : Method} {c : Code} {Q : State → Prop} {cc : ByteArray} {ret : Option FieldType} {nm own : String} {k mc ms nL cells slots pc : Nat} {lv : List (Option Value)} {st : List Value} {μ : MM}
theorem r_lookup (X : cX Γ p R s m args meth c cc ret nm own k mc ms nL) {dflt : Int} {ps : Array (Int × Int)} {len : Nat} {x : Int32} {off : Int} (tgt : Nat) (hd : decode cc pc = .ok (.lookupswitch dflt ps, len)) (hp : (ps.toList.zip (ps.toList.drop 1)).all (fun (a, next) => a.1 < next.1) = true) (ho : Op.lookupswitch.offset ps.toList dflt x.toInt = off) (ht : (pc : Int) + off = (tgt : Int)) (kk : vV Γ p l e R s m args below meth c Q nL cells slots tgt lv st μ) : vV Γ p l e R s m args below meth c Q nL cells slots pc lv (.int x :: st) μ := fun H locs ls h1 h2 h3 h4 => lv_lookup X.1 X.2.1 hd hp ho ht (kk H locs ls h1 h2 h3 h4)
end S29a
theorem bsA_le (d r b : Nat) : ∀ i, bsA d r b i ≤ 5 ^ i := by
  intro i
  induction i with
  | zero => exact Nat.le_refl _
  | succ i ih =>
    show bsA d r b i * fms (d + i * r) b ≤ 5 ^ (i + 1)
    rw [Nat.pow_succ]
    exact Nat.mul_le_mul ih (by unfold fms; omega)
theorem pow5 {i : Nat} (h : i ≤ 6) : 5 ^ i ≤ 15625 := by
  have := Nat.pow_le_pow_right (n := 5) (by decide) h
  simpa using this
theorem lk2 {d a b : Int} {x : Int} : Op.lookupswitch.offset [((0 : Int), a), ((1 : Int), b)] d x = if x = 0 then a else if x = 1 then b else d := by
  rw [Op.lookupswitch.offset_cons, Op.lookupswitch.offset_cons]
  by_cases h0 : x = 0
  · subst h0; rfl
  · by_cases h1 : x = 1
    · subst h1; rfl
    · rw [if_neg h0, if_neg h1, if_neg (fun q => h0 q.symm), if_neg (fun q => h1 q.symm)]
      rfl
section S29
variable {Γ : KK} {l : Launch} {sz : Nat} {μ : MM} {x : Nat} {T S : Nat → Nat} {un : Nat} {A : Nat → Nat → Nat} {kf : Nat → Bool} {K : Nat → Nat → Nat} {n : Nat} {xs : Nat → Nat} {sn : Nat} {V : Nat → Nat}
theorem max0_sub : ∀ a, a ≤ 9 → ∀ b, b ≤ 9 → (if nI 0 < nI a - nI b then nI a - nI b else nI 0) = nI (a - b) := by decide +kernel
theorem t6_days (h : WC Γ μ x T S un A kf K n xs sn V) (hI : INV T S un A kf K n xs sn V) : CT Γ l 1 sz 0 0 mX6_daysTillBlinded [.ref x] μ (ri (fun r μ' => r = uI (soonN T S) ∧ μ' = μ)) := by
  obtain ⟨a0, ⟨cl, tb, te, a1⟩, a2, ⟨T', a3⟩, a4, ⟨nx, V', U', a5, a6, a7⟩, ⟨V2, U2, a8, a9⟩, a10, ⟨pf, pg, a11, a12⟩, a13⟩ := id h
  have c10 := a1.1
  have c11 := a1.2
  have c20 := a2.1
  have c21 := a2.2.1
  have c22 := a2.2.2.1
  have c23 := a2.2.2.2.1
  have c24 := a2.2.2.2.2
  have c30 := a3.1
  have c40 := a4.1
  have c41 := a4.2.1
  have c60 := a6.1
  have c80 := a8.1
  have c110 := a11.1
  have c130 := a13.1
  obtain ⟨i1, i2, i3, i4, i5, i6, i7, i8, i9⟩ := id hI
  obtain ⟨t1, t2, t3, t4, t5, t6, t7, t8, t9, t10, t11⟩ := id i1
  obtain ⟨z1, z2, z3, z4, z5, z6, z7, z8, z9⟩ := id i2
  refine CT.go RX6 rfl "daysTillBlinded" rfl [some (.ref x), none, none] rfl (by decide) (Nat.le_of_ble_eq_true rfl) ?_
  intro p e R s m args below meth c X hsz
  refine r_aload_n (pc := 0) X dX6_daysTillBlinded_0 rfl ?_
  apply r_get (pc := 1) X f_X6_29 dX6_daysTillBlinded_1
  · repeat (first | exact mu_self | assumption | refine (mu_ne (by omega)).trans ?_)
  · rfl
  apply r_get (pc := 4) X f_X6_140 dX6_daysTillBlinded_4
  · repeat (first | exact mu_self | assumption | refine (mu_ne (by omega)).trans ?_)
  · rfl
  first | refine r_if_eqZ (pc := 7) X 12 dX6_daysTillBlinded_7 (by decide) (fun h1 => ?_) (fun h1 => ?_) | refine r_if_eqN (pc := 7) X 12 dX6_daysTillBlinded_7 (by decide) (by omega) (fun h1 => ?_) (fun h1 => ?_) | refine r_if_eq (pc := 7) X 12 dX6_daysTillBlinded_7 (by decide) (fun h1 => ?_) (fun h1 => ?_)
  · have h1' : S 3 = 0 := h1
    refine r_iconst (pc := 12) (v := nI 0) X dX6_daysTillBlinded_12 (by decide) ?_
    refine r_aload_n (pc := 13) X dX6_daysTillBlinded_13 rfl ?_
    apply r_get (pc := 14) X f_X6_19 dX6_daysTillBlinded_14
    · repeat (first | exact mu_self | assumption | refine (mu_ne (by omega)).trans ?_)
    · rfl
    apply r_get (pc := 17) X f_X6_175 dX6_daysTillBlinded_17
    · repeat (first | exact mu_self | assumption | refine (mu_ne (by omega)).trans ?_)
    · rfl
    refine r_aload_n (pc := 20) X dX6_daysTillBlinded_20 rfl ?_
    apply r_get (pc := 21) X f_X6_29 dX6_daysTillBlinded_21
    · repeat (first | exact mu_self | assumption | refine (mu_ne (by omega)).trans ?_)
    · rfl
    apply r_get (pc := 24) X f_X6_163 dX6_daysTillBlinded_24
    · repeat (first | exact mu_self | assumption | refine (mu_ne (by omega)).trans ?_)
    · rfl
    refine r_isub (pc := 27) X dX6_daysTillBlinded_27 ?_
    refine r_max (pc := 28) X l_X6_265 dX6_daysTillBlinded_28 (by decide) (Nat.le_of_ble_eq_true rfl) (by decide) (by decide) ?_
    have em : (if nI 0 < nI (T 27) - scV (T 0) S 3 then nI (T 27) - scV (T 0) S 3 else nI 0) = nI (T 27 - S 2) := max0_sub (T 27) (by omega) (S 2) (by omega)
    rw [em]
    have fin : ∀ dr, dr ≤ 100 → dr = (if T 27 ≤ S 2 then S 1 + S 0 else S 0) → vV Γ p l e R s m args below meth c (vQ Γ s args below 0 0 (ri (fun r μ' => r = uI (soonN T S) ∧ μ' = μ))) 3 0 0 61 [some (.ref (x)), some (.int (nI (T 27 - S 2))), none] [.int (nI (dr))] (μ) := by
      intro dr hdr hd
      refine r_istore_n (pc := 61) X dX6_daysTillBlinded_61 (by decide) rfl ?_
      refine r_iload_n (pc := 62) X dX6_daysTillBlinded_62 rfl ?_
      refine r_aload_n (pc := 63) X dX6_daysTillBlinded_63 rfl ?_
      apply r_get (pc := 64) X f_X6_19 dX6_daysTillBlinded_64
      · repeat (first | exact mu_self | assumption | refine (mu_ne (by omega)).trans ?_)
      · rfl
      apply r_get (pc := 67) X f_X6_172 dX6_daysTillBlinded_67
      · repeat (first | exact mu_self | assumption | refine (mu_ne (by omega)).trans ?_)
      · rfl
      first | refine r_icmp_ltN (pc := 70) X 77 dX6_daysTillBlinded_70 (by decide) (by omega) (by omega) (fun h3 => ?_) (fun h3 => ?_) | refine r_icmp_lt (pc := 70) X 77 dX6_daysTillBlinded_70 (by decide) (fun h3 => ?_) (fun h3 => ?_)
      · refine r_iconst (pc := 77) (v := -1) X dX6_daysTillBlinded_77 (by decide) ?_
        exact r_iret (pc := 78) X dX6_daysTillBlinded_78 (⟨by unfold soonN; rw [if_neg (by omega), if_pos (by omega), uI_0], rfl⟩)
      · refine r_iload_n (pc := 73) X dX6_daysTillBlinded_73 rfl ?_
        refine r_goto (pc := 74) X 78 dX6_daysTillBlinded_74 (by decide) ?_
        exact r_iret (pc := 78) X dX6_daysTillBlinded_78 (⟨by unfold soonN; rw [if_neg (by omega), if_neg (by omega), uI_S], rfl⟩)
    refine r_istore_n (pc := 31) X dX6_daysTillBlinded_31 (by decide) rfl ?_
    refine r_iload_n (pc := 32) X dX6_daysTillBlinded_32 rfl ?_
    first | refine r_if_neZ (pc := 33) X 54 dX6_daysTillBlinded_33 (by decide) (fun h2 => ?_) (fun h2 => ?_) | refine r_if_neN (pc := 33) X 54 dX6_daysTillBlinded_33 (by decide) (by omega) (fun h2 => ?_) (fun h2 => ?_) | refine r_if_ne (pc := 33) X 54 dX6_daysTillBlinded_33 (by decide) (fun h2 => ?_) (fun h2 => ?_)
    · refine r_aload_n (pc := 54) X dX6_daysTillBlinded_54 rfl ?_
      apply r_get (pc := 55) X f_X6_29 dX6_daysTillBlinded_55
      · repeat (first | exact mu_self | assumption | refine (mu_ne (by omega)).trans ?_)
      · rfl
      apply r_get (pc := 58) X f_X6_144 dX6_daysTillBlinded_58
      · repeat (first | exact mu_self | assumption | refine (mu_ne (by omega)).trans ?_)
      · rfl
      exact fin (S 0) (by omega) (by rw [if_neg (by omega)])
    · refine r_aload_n (pc := 36) X dX6_daysTillBlinded_36 rfl ?_
      apply r_get (pc := 37) X f_X6_29 dX6_daysTillBlinded_37
      · repeat (first | exact mu_self | assumption | refine (mu_ne (by omega)).trans ?_)
      · rfl
      apply r_get (pc := 40) X f_X6_151 dX6_daysTillBlinded_40
      · repeat (first | exact mu_self | assumption | refine (mu_ne (by omega)).trans ?_)
      · rfl
      refine r_aload_n (pc := 43) X dX6_daysTillBlinded_43 rfl ?_
      apply r_get (pc := 44) X f_X6_29 dX6_daysTillBlinded_44
      · repeat (first | exact mu_self | assumption | refine (mu_ne (by omega)).trans ?_)
      · rfl
      apply r_get (pc := 47) X f_X6_144 dX6_daysTillBlinded_47
      · repeat (first | exact mu_self | assumption | refine (mu_ne (by omega)).trans ?_)
      · rfl
      first | refine r_iaddN (pc := 50) X dX6_daysTillBlinded_50 ?_ | refine r_iadd (pc := 50) X dX6_daysTillBlinded_50 ?_
      refine r_goto (pc := 51) X 61 dX6_daysTillBlinded_51 (by decide) ?_
      exact fin (S 1 + S 0) (by omega) (by rw [if_pos (by omega)])
  · have h1' : S 3 = 1 := by
      have : ¬ S 3 = 0 := h1
      omega
    refine r_iconst (pc := 10) (v := -1) X dX6_daysTillBlinded_10 (by decide) ?_
    exact r_iret (pc := 11) X dX6_daysTillBlinded_11 (⟨by unfold soonN; rw [if_pos h1', uI_0], rfl⟩)
theorem soonN_le (T S : Nat → Nat) : soonN T S ≤ T 27 + 1 := by
  unfold soonN
  split
  · omega
  · generalize (if T 27 ≤ S 2 then S 1 + S 0 else S 0) = q
    split <;> omega
theorem t6_soon (h : WC Γ μ x T S un A kf K n xs sn V) (hI : INV T S un A kf K n xs sn V) (v1 : Int32) : CT Γ l 2 sz 0 0 mX6_soon [.ref x, .int v1] μ (ri (fun r μ' => r = opSoon T S v1 ∧ μ' = μ)) := by
  obtain ⟨a0, ⟨cl, tb, te, a1⟩, a2, ⟨T', a3⟩, a4, ⟨nx, V', U', a5, a6, a7⟩, ⟨V2, U2, a8, a9⟩, a10, ⟨pf, pg, a11, a12⟩, a13⟩ := id h
  have c10 := a1.1
  have c11 := a1.2
  have c20 := a2.1
  have c21 := a2.2.1
  have c22 := a2.2.2.1
  have c23 := a2.2.2.2.1
  have c24 := a2.2.2.2.2
  have c30 := a3.1
  have c40 := a4.1
  have c41 := a4.2.1
  have c60 := a6.1
  have c80 := a8.1
  have c110 := a11.1
  have c130 := a13.1
  obtain ⟨i1, i2, i3, i4, i5, i6, i7, i8, i9⟩ := id hI
  obtain ⟨t1, t2, t3, t4, t5, t6, t7, t8, t9, t10, t11⟩ := id i1
  obtain ⟨z1, z2, z3, z4, z5, z6, z7, z8, z9⟩ := id i2
  have hsl := soonN_le T S
  refine CT.go RX6 rfl "soon" rfl [some (.ref x), some (.int v1), none] rfl (by decide) (Nat.le_of_ble_eq_true rfl) ?_
  intro p e R s m args below meth c X hsz
  refine r_iload_n (pc := 0) X dX6_soon_0 rfl ?_
  refine r_iconst (pc := 1) (v := nI 0) X dX6_soon_1 (by decide) ?_
  refine r_iconst (pc := 2) (v := nI 1) X dX6_soon_2 (by decide) ?_
  refine c_i X (rS (pc := 3) X l_X6_66 (t6_isOutside v1 (nI 0) (nI 1)) dX6_soon_3 rfl rfl (Nat.le_of_ble_eq_true rfl) (by decide) (Nat.le_of_ble_eq_true rfl) (Nat.le_of_ble_eq_true rfl)) ?_
  rintro _ μq ⟨rfl, hμq⟩
  rw [hμq]
  clear hμq μq
  rw [nI_toInt (by omega), nI_toInt (by omega)]
  first | refine r_if_eqZ (pc := 6) X 12 dX6_soon_6 (by decide) (fun h1 => ?_) (fun h1 => ?_) | refine r_if_eqN (pc := 6) X 12 dX6_soon_6 (by decide) (by omega) (fun h1 => ?_) (fun h1 => ?_) | refine r_if_eq (pc := 6) X 12 dX6_soon_6 (by decide) (fun h1 => ?_) (fun h1 => ?_)
  · have h1' : 0 ≤ v1.toInt ∧ v1.toInt ≤ 1 := by simp at h1; omega
    unfold opSoon
    rw [if_neg (fun q => q h1')]
    refine r_aload_n (pc := 12) X dX6_soon_12 rfl ?_
    refine c_i X (rV (pc := 13) (ci := 6) X l_X6_204 (t6_days h hI) dX6_soon_13 (by repeat (first | exact mu_self | assumption | refine (mu_ne (by omega)).trans ?_)) rfl rfl rfl (Nat.le_of_ble_eq_true rfl) (by decide) (Nat.le_of_ble_eq_true rfl) (Nat.le_of_ble_eq_true rfl)) ?_
    rintro _ μq ⟨rfl, hμq⟩
    rw [hμq]
    clear hμq μq
    refine r_istore_n (pc := 16) X dX6_soon_16 (by decide) rfl ?_
    refine r_iload_n (pc := 17) X dX6_soon_17 rfl ?_
    refine r_if_eq (pc := 18) X 26 dX6_soon_18 (by decide) (fun h2 => ?_) (fun h2 => ?_)
    · have h2' : v1.toInt = 0 := by rw [h2]; decide
      rw [if_pos (Or.inl h2')]
      refine r_iload_n (pc := 26) X dX6_soon_26 rfl ?_
      exact r_iret (pc := 27) X dX6_soon_27 (⟨rfl, rfl⟩)
    · have h2' : v1.toInt ≠ 0 := fun q => h2 (Int32.toInt_inj.mp (by rw [q]; decide))
      refine r_iload_n (pc := 21) X dX6_soon_21 rfl ?_
      refine r_iconst (pc := 22) (v := -1) X dX6_soon_22 (by decide) ?_
      refine r_icmp_ne (pc := 23) X 28 dX6_soon_23 (by decide) (fun h3 => ?_) (fun h3 => ?_)
      · have h3' : soonN T S ≠ 0 := fun q => h3 (by rw [q, uI_0])
        obtain ⟨d, hd⟩ : ∃ d, soonN T S = d + 1 := ⟨soonN T S - 1, by omega⟩
        have hm64 := msk_lt t1 S 0
        have hpc := popc_le _ hm64
        rw [if_neg (by omega), hd, uI_S]
        have hmul : d * T 28 ≤ 9 * 3 := Nat.mul_le_mul (by omega) (by omega)
        refine r_aload_n (pc := 28) X dX6_soon_28 rfl ?_
        apply r_get (pc := 29) X f_X6_29 dX6_soon_29
        · repeat (first | exact mu_self | assumption | refine (mu_ne (by omega)).trans ?_)
        · rfl
        apply r_get (pc := 32) X f_X6_208 dX6_soon_32
        · repeat (first | exact mu_self | assumption | refine (mu_ne (by omega)).trans ?_)
        · rfl
        refine c_i X (rS (pc := 35) X l_X6_181 (tJ_bitCount hm64) dX6_soon_35 rfl rfl (Nat.le_of_ble_eq_true rfl) (by decide) (Nat.le_of_ble_eq_true rfl) (Nat.le_of_ble_eq_true rfl)) ?_
        rintro _ μq ⟨rfl, hμq⟩
        rw [hμq]
        clear hμq μq
        refine r_iload_n (pc := 38) X dX6_soon_38 rfl ?_
        refine r_aload_n (pc := 39) X dX6_soon_39 rfl ?_
        apply r_get (pc := 40) X f_X6_19 dX6_soon_40
        · repeat (first | exact mu_self | assumption | refine (mu_ne (by omega)).trans ?_)
        · rfl
        apply r_get (pc := 43) X f_X6_157 dX6_soon_43
        · repeat (first | exact mu_self | assumption | refine (mu_ne (by omega)).trans ?_)
        · rfl
        first | refine r_imulN (pc := 46) X dX6_soon_46 ?_ | refine r_imul (pc := 46) X dX6_soon_46 ?_
        refine r_min (pc := 47) X l_X6_166 dX6_soon_47 (by decide) (Nat.le_of_ble_eq_true rfl) (by decide) (by decide) ?_
        rw [min_nI (by omega) (by omega)]
        exact r_iret (pc := 50) X dX6_soon_50 (⟨rfl, rfl⟩)
      · have h3' : soonN T S = 0 := (uI_eq (by omega) (by omega)).mp (by rw [h3, uI_0])
        rw [if_pos (Or.inr h3')]
        refine r_iload_n (pc := 26) X dX6_soon_26 rfl ?_
        exact r_iret (pc := 27) X dX6_soon_27 (⟨rfl, rfl⟩)
  · have h1' : ¬ (0 ≤ v1.toInt ∧ v1.toInt ≤ 1) := by simp at h1; omega
    unfold opSoon
    rw [if_pos h1']
    refine r_bipush (pc := 9) (v := -3) X dX6_soon_9 (by decide) ?_
    exact r_iret (pc := 11) X dX6_soon_11 (⟨rfl, rfl⟩)
theorem t6_plan (h : WC Γ μ x T S un A kf K n xs sn V) (hI : INV T S un A kf K n xs sn V) (v1 : Int32) : CT Γ l 6 sz 0 0 mX6_plan [.ref x, .int v1] μ (ri (fun r μ' => r = opPlan T S v1 ∧ WC Γ μ' x T S un A kf K n xs sn V ∧ Fr x 46 μ μ')) := by
  obtain ⟨a0, ⟨cl, tb, te, a1⟩, a2, ⟨T', a3⟩, a4, ⟨nx, V', U', a5, a6, a7⟩, ⟨V2, U2, a8, a9⟩, a10, ⟨pf, pg, a11, a12⟩, a13⟩ := id h
  have c10 := a1.1
  have c11 := a1.2
  have c20 := a2.1
  have c21 := a2.2.1
  have c22 := a2.2.2.1
  have c23 := a2.2.2.2.1
  have c24 := a2.2.2.2.2
  have c30 := a3.1
  have c40 := a4.1
  have c41 := a4.2.1
  have c60 := a6.1
  have c80 := a8.1
  have c110 := a11.1
  have c130 := a13.1
  obtain ⟨i1, i2, i3, i4, i5, i6, i7, i8, i9⟩ := id hI
  obtain ⟨t1, t2, t3, t4, t5, t6, t7, t8, t9, t10, t11⟩ := id i1
  obtain ⟨z1, z2, z3, z4, z5, z6, z7, z8, z9⟩ := id i2
  refine CT.go RX6 rfl "plan" rfl [some (.ref x), some (.int v1)] rfl (by decide) (Nat.le_of_ble_eq_true rfl) ?_
  intro p e R s m args below meth c X hsz
  have go : (v1.toInt = -1 ∨ (0 ≤ v1.toInt ∧ v1.toInt < T 0)) → vV Γ p l e R s m args below meth c (vQ Γ s args below 0 0 (ri (fun r μ' => r = opPlan T S v1 ∧ WC Γ μ' x T S un A kf K n xs sn V ∧ Fr x 46 μ μ'))) 2 0 0 19 [some (.ref (x)), some (.int (v1))] [] (μ) := by
    intro hq
    refine r_aload_n (pc := 19) X dX6_plan_19 rfl ?_
    apply r_get (pc := 20) X f_X6_51 dX6_plan_20
    · repeat (first | exact mu_self | assumption | refine (mu_ne (by omega)).trans ?_)
    · rfl
    refine r_aload_n (pc := 23) X dX6_plan_23 rfl ?_
    apply r_get (pc := 24) X f_X6_19 dX6_plan_24
    · repeat (first | exact mu_self | assumption | refine (mu_ne (by omega)).trans ?_)
    · rfl
    refine r_aload_n (pc := 27) X dX6_plan_27 rfl ?_
    apply r_get (pc := 28) X f_X6_29 dX6_plan_28
    · repeat (first | exact mu_self | assumption | refine (mu_ne (by omega)).trans ?_)
    · rfl
    refine c_v X (rV (pc := 31) (ci := 1) X l_X6_211 (t1_reckon a11 a12 a2 a4 i1 i2 (by omega) (by omega)) dX6_plan_31 (by repeat (first | exact mu_self | assumption | refine (mu_ne (by omega)).trans ?_)) rfl rfl rfl (Nat.le_of_ble_eq_true rfl) (by decide) (Nat.le_of_ble_eq_true rfl) (Nat.le_of_ble_eq_true rfl)) ?_
    rintro μ1 ⟨f', g', k1, k2, k3, k4, k5⟩
    have hW1 : WC Γ μ1 x T S un A kf K n xs sn V := h.pl (fun q hq => k5 q (by omega)) ⟨f', g', k1, k4⟩
    have d0 := hW1.1
    have k10 := k1.1
    refine r_iload_n (pc := 34) X dX6_plan_34 rfl ?_
    refine r_iconst (pc := 35) (v := -1) X dX6_plan_35 (by decide) ?_
    refine r_icmp_ne (pc := 36) X 50 dX6_plan_36 (by decide) (fun h2 => ?_) (fun h2 => ?_)
    · have h2' : v1.toInt ≠ -1 := fun q => h2 (Int32.toInt_inj.mp (by rw [q]; decide))
      have h1' : 0 ≤ v1.toInt ∧ v1.toInt < T 0 := by omega
      have hv := nt_nI h1'.1
      have hl : nt v1 < T 0 := nt_lt h1'.1 h1'.2
      unfold opPlan
      rw [if_neg h2', if_neg (fun q => q h1')]
      obtain ⟨k', hk⟩ : ∃ k', k' = nt v1 := ⟨_, rfl⟩
      rw [← hk] at hv hl ⊢
      subst hv
      refine r_aload_n (pc := 50) X dX6_plan_50 rfl ?_
      apply r_get (pc := 51) X f_X6_51 dX6_plan_51
      · repeat (first | exact mu_self | assumption | refine (mu_ne (by omega)).trans ?_)
      · rfl
      refine r_iload_n (pc := 54) X dX6_plan_54 rfl ?_
      refine c_i X (rV (pc := 55) (ci := 1) X l_X6_218 (t1_sheepOf k1 t2 (mm := k') (by omega) k2 k3) dX6_plan_55 (by repeat (first | exact mu_self | assumption | refine (mu_ne (by omega)).trans ?_)) rfl rfl rfl (Nat.le_of_ble_eq_true rfl) (by decide) (Nat.le_of_ble_eq_true rfl) (Nat.le_of_ble_eq_true rfl)) ?_
      rintro _ μq ⟨rfl, hμq⟩
      rw [hμq]
      clear hμq μq
      exact r_iret (pc := 58) X dX6_plan_58 (⟨rfl, hW1, fun q hq => k5 q (by omega)⟩)
    · have h2' : v1.toInt = -1 := by rw [h2]; decide
      unfold opPlan
      rw [if_pos h2']
      refine r_aload_n (pc := 39) X dX6_plan_39 rfl ?_
      apply r_get (pc := 40) X f_X6_51 dX6_plan_40
      · repeat (first | exact mu_self | assumption | refine (mu_ne (by omega)).trans ?_)
      · rfl
      refine r_iconst (pc := 43) (v := nI 0) X dX6_plan_43 (by decide) ?_
      refine c_i X (rV (pc := 44) (ci := 1) X l_X6_215 (t1_mostOut k1 (x := 0) (by omega)) dX6_plan_44 (by repeat (first | exact mu_self | assumption | refine (mu_ne (by omega)).trans ?_)) rfl rfl rfl (Nat.le_of_ble_eq_true rfl) (by decide) (Nat.le_of_ble_eq_true rfl) (Nat.le_of_ble_eq_true rfl)) ?_
      rintro _ μq ⟨rfl, hμq⟩
      rw [hμq]
      clear hμq μq
      have eg : g' 0 = nI (plv T S (S 5) 6 0) := k3 0 0 (by omega) (by omega) (Nat.two_pow_pos _)
      rw [eg]
      refine r_goto (pc := 47) X 58 dX6_plan_47 (by decide) ?_
      exact r_iret (pc := 58) X dX6_plan_58 (⟨rfl, hW1, fun q hq => k5 q (by omega)⟩)
  refine r_iload_n (pc := 0) X dX6_plan_0 rfl ?_
  refine r_iconst (pc := 1) (v := -1) X dX6_plan_1 (by decide) ?_
  refine r_icmp_eq (pc := 2) X 19 dX6_plan_2 (by decide) (fun h1 => ?_) (fun h1 => ?_)
  · exact go (Or.inl (by rw [h1]; decide))
  · refine r_aload_n (pc := 5) X dX6_plan_5 rfl ?_
    apply r_get (pc := 6) X f_X6_19 dX6_plan_6
    · repeat (first | exact mu_self | assumption | refine (mu_ne (by omega)).trans ?_)
    · rfl
    refine r_iload_n (pc := 9) X dX6_plan_9 rfl ?_
    refine c_i X (rV (pc := 10) (ci := 5) X l_X6_91 (t5_hasMan a2 t1 v1) dX6_plan_10 (by repeat (first | exact mu_self | assumption | refine (mu_ne (by omega)).trans ?_)) rfl rfl rfl (Nat.le_of_ble_eq_true rfl) (by decide) (Nat.le_of_ble_eq_true rfl) (Nat.le_of_ble_eq_true rfl)) ?_
    rintro _ μq ⟨rfl, hμq⟩
    rw [hμq]
    clear hμq μq
    first | refine r_if_neZ (pc := 13) X 19 dX6_plan_13 (by decide) (fun h3 => ?_) (fun h3 => ?_) | refine r_if_neN (pc := 13) X 19 dX6_plan_13 (by decide) (by omega) (fun h3 => ?_) (fun h3 => ?_) | refine r_if_ne (pc := 13) X 19 dX6_plan_13 (by decide) (fun h3 => ?_) (fun h3 => ?_)
    · exact go (Or.inr (by simpa using h3))
    · have h3' : ¬ (0 ≤ v1.toInt ∧ v1.toInt < T 0) := by simpa using h3
      have h2' : v1.toInt ≠ -1 := fun q => h1 (Int32.toInt_inj.mp (by rw [q]; decide))
      unfold opPlan
      rw [if_neg h2', if_pos h3']
      refine r_bipush (pc := 16) (v := -2) X dX6_plan_16 (by decide) ?_
      exact r_iret (pc := 18) X dX6_plan_18 (⟨rfl, h, Fr.rf⟩)
theorem flS_sub {th size : Nat} {v : Nat → Nat} (hth : th < 64) : ∀ i, i ≤ 64 → (flS (flOk th size) v i).1 ≤ th := by
  intro i
  induction i with
  | zero => intro _; exact Nat.zero_le _
  | succ i ih =>
    intro hi
    show (if (flOk th size i && decide (v i < (flS (flOk th size) v i).2)) = true then (i, v i) else flS (flOk th size) v i).1 ≤ th
    by_cases h : (flOk th size i && decide (v i < (flS (flOk th size) v i).2)) = true
    · rw [if_pos h]
      unfold flOk at h
      simp at h
      exact sub_le i (by omega) th hth h.1.1
    · rw [if_neg h]; exact ih (by omega)
theorem thr_lt {T S : Nat → Nat} : thr T S < 2 ^ T 7 := Nat.lt_of_le_of_lt Nat.and_le_left (by have := Nat.two_pow_pos (T 7); omega)
theorem t6_feel (h : WC Γ μ x T S un A kf K n xs sn V) (hI : INV T S un A kf K n xs sn V) (v1 v2 : Int32) : CT Γ l 6 sz 0 0 mX6_feel [.ref x, .int v1, .int v2] μ (ri (fun r μ' => r = opFeel T S v1 v2 ∧ WC Γ μ' x T S un A kf K n xs sn V ∧ Fr x 46 μ μ')) := by
  obtain ⟨a0, ⟨cl, tb, te, a1⟩, a2, ⟨T', a3⟩, a4, ⟨nx, V', U', a5, a6, a7⟩, ⟨V2, U2, a8, a9⟩, a10, ⟨pf, pg, a11, a12⟩, a13⟩ := id h
  have c10 := a1.1
  have c11 := a1.2
  have c20 := a2.1
  have c21 := a2.2.1
  have c22 := a2.2.2.1
  have c23 := a2.2.2.2.1
  have c24 := a2.2.2.2.2
  have c30 := a3.1
  have c40 := a4.1
  have c41 := a4.2.1
  have c60 := a6.1
  have c80 := a8.1
  have c110 := a11.1
  have c130 := a13.1
  obtain ⟨i1, i2, i3, i4, i5, i6, i7, i8, i9⟩ := id hI
  obtain ⟨t1, t2, t3, t4, t5, t6, t7, t8, t9, t10, t11⟩ := id i1
  obtain ⟨z1, z2, z3, z4, z5, z6, z7, z8, z9⟩ := id i2
  have hg6 : S 5 < 64 := Nat.lt_of_lt_of_le z5 (pow6 t2)
  have hp6 := pow6 t2
  have hth := thr_lt (T := T) (S := S)
  refine CT.go RX6 rfl "feel" rfl [some (.ref x), some (.int v1), some (.int v2), none] rfl (by decide) (Nat.le_of_ble_eq_true rfl) ?_
  intro p e R s m args below meth c X hsz
  have bad : ¬ (0 ≤ v1.toInt ∧ v1.toInt ≤ 6) ∨ ¬ (0 ≤ v2.toInt ∧ v2.toInt ≤ 1) → vV Γ p l e R s m args below meth c (vQ Γ s args below 0 0 (ri (fun r μ' => r = opFeel T S v1 v2 ∧ WC Γ μ' x T S un A kf K n xs sn V ∧ Fr x 46 μ μ'))) 4 0 0 19 [some (.ref (x)), some (.int (v1)), some (.int (v2)), none] [] (μ) := by
    intro hq
    unfold opFeel
    rw [if_pos hq]
    refine r_bipush (pc := 19) (v := -3) X dX6_feel_19 (by decide) ?_
    exact r_iret (pc := 21) X dX6_feel_21 (⟨rfl, h, Fr.rf⟩)
  refine r_iload_n (pc := 0) X dX6_feel_0 rfl ?_
  refine r_iconst (pc := 1) (v := nI 0) X dX6_feel_1 (by decide) ?_
  refine r_bipush (pc := 2) (v := nI 6) X dX6_feel_2 (by decide) ?_
  refine c_i X (rS (pc := 4) X l_X6_66 (t6_isOutside v1 (nI 0) (nI 6)) dX6_feel_4 rfl rfl (Nat.le_of_ble_eq_true rfl) (by decide) (Nat.le_of_ble_eq_true rfl) (Nat.le_of_ble_eq_true rfl)) ?_
  rintro _ μq ⟨rfl, hμq⟩
  rw [hμq]
  clear hμq μq
  rw [nI_toInt (by omega), nI_toInt (by omega)]
  first | refine r_if_neZ (pc := 7) X 19 dX6_feel_7 (by decide) (fun h1 => ?_) (fun h1 => ?_) | refine r_if_neN (pc := 7) X 19 dX6_feel_7 (by decide) (by omega) (fun h1 => ?_) (fun h1 => ?_) | refine r_if_ne (pc := 7) X 19 dX6_feel_7 (by decide) (fun h1 => ?_) (fun h1 => ?_)
  · exact bad (Or.inl (by simp at h1; omega))
  · have h1' : 0 ≤ v1.toInt ∧ v1.toInt ≤ 6 := by simp at h1; omega
    refine r_iload_n (pc := 10) X dX6_feel_10 rfl ?_
    refine r_iconst (pc := 11) (v := nI 0) X dX6_feel_11 (by decide) ?_
    refine r_iconst (pc := 12) (v := nI 1) X dX6_feel_12 (by decide) ?_
    refine c_i X (rS (pc := 13) X l_X6_66 (t6_isOutside v2 (nI 0) (nI 1)) dX6_feel_13 rfl rfl (Nat.le_of_ble_eq_true rfl) (by decide) (Nat.le_of_ble_eq_true rfl) (Nat.le_of_ble_eq_true rfl)) ?_
    rintro _ μq ⟨rfl, hμq⟩
    rw [hμq]
    clear hμq μq
    rw [nI_toInt (by omega), nI_toInt (by omega)]
    first | refine r_if_eqZ (pc := 16) X 22 dX6_feel_16 (by decide) (fun h2 => ?_) (fun h2 => ?_) | refine r_if_eqN (pc := 16) X 22 dX6_feel_16 (by decide) (by omega) (fun h2 => ?_) (fun h2 => ?_) | refine r_if_eq (pc := 16) X 22 dX6_feel_16 (by decide) (fun h2 => ?_) (fun h2 => ?_)
    · have h2' : 0 ≤ v2.toInt ∧ v2.toInt ≤ 1 := by simp at h2; omega
      have hv := nt_nI h1'.1
      have hl : nt v1 ≤ 6 := by unfold nt; omega
      unfold opFeel
      rw [if_neg (by omega)]
      obtain ⟨k', hk⟩ : ∃ k', k' = nt v1 := ⟨_, rfl⟩
      rw [← hk] at hv hl ⊢
      clear bad
      subst hv
      refine r_aload_n (pc := 22) X dX6_feel_22 rfl ?_
      apply r_get (pc := 23) X f_X6_51 dX6_feel_23
      · repeat (first | exact mu_self | assumption | refine (mu_ne (by omega)).trans ?_)
      · rfl
      refine r_aload_n (pc := 26) X dX6_feel_26 rfl ?_
      apply r_get (pc := 27) X f_X6_19 dX6_feel_27
      · repeat (first | exact mu_self | assumption | refine (mu_ne (by omega)).trans ?_)
      · rfl
      refine r_aload_n (pc := 30) X dX6_feel_30 rfl ?_
      apply r_get (pc := 31) X f_X6_29 dX6_feel_31
      · repeat (first | exact mu_self | assumption | refine (mu_ne (by omega)).trans ?_)
      · rfl
      refine c_v X (rV (pc := 34) (ci := 1) X l_X6_211 (t1_reckon a11 a12 a2 a4 i1 i2 (by omega) (by omega)) dX6_feel_34 (by repeat (first | exact mu_self | assumption | refine (mu_ne (by omega)).trans ?_)) rfl rfl rfl (Nat.le_of_ble_eq_true rfl) (by decide) (Nat.le_of_ble_eq_true rfl) (Nat.le_of_ble_eq_true rfl)) ?_
      rintro μ1 ⟨f', g', k1, k2, k3, k4, k5⟩
      have hW1 : WC Γ μ1 x T S un A kf K n xs sn V := h.pl (fun q hq => k5 q (by omega)) ⟨f', g', k1, k4⟩
      obtain ⟨d0, -, d2, -, d4, -⟩ := id hW1
      have d20 := d2.1
      have d40 := d4.1
      have k10 := k1.1
      refine r_aload_n (pc := 37) X dX6_feel_37 rfl ?_
      apply r_get (pc := 38) X f_X6_51 dX6_feel_38
      · repeat (first | exact mu_self | assumption | refine (mu_ne (by omega)).trans ?_)
      · rfl
      refine r_aload_n (pc := 41) X dX6_feel_41 rfl ?_
      apply r_get (pc := 42) X f_X6_19 dX6_feel_42
      · repeat (first | exact mu_self | assumption | refine (mu_ne (by omega)).trans ?_)
      · rfl
      refine c_i X (rV (pc := 45) (ci := 5) X l_X6_221 (t5_allSheep d2 t2) dX6_feel_45 (by repeat (first | exact mu_self | assumption | refine (mu_ne (by omega)).trans ?_)) rfl rfl rfl (Nat.le_of_ble_eq_true rfl) (by decide) (Nat.le_of_ble_eq_true rfl) (Nat.le_of_ble_eq_true rfl)) ?_
      rintro _ μq ⟨rfl, hμq⟩
      rw [hμq]
      clear hμq μq
      refine r_aload_n (pc := 48) X dX6_feel_48 rfl ?_
      apply r_get (pc := 49) X f_X6_29 dX6_feel_49
      · repeat (first | exact mu_self | assumption | refine (mu_ne (by omega)).trans ?_)
      · rfl
      apply r_get (pc := 52) X f_X6_115 dX6_feel_52
      · repeat (first | exact mu_self | assumption | refine (mu_ne (by omega)).trans ?_)
      · rfl
      refine r_iconst (pc := 55) (v := -1) X dX6_feel_55 (by decide) ?_
      refine r_ixor (pc := 56) X dX6_feel_56 ?_
      refine r_iand (pc := 57) X dX6_feel_57 ?_
      have et : nI (2 ^ T 7 - 1) &&& (scV (T 0) S 8 ^^^ -1) = nI (thr T S) := by
        show nI (2 ^ T 7 - 1) &&& (nI (S 5) ^^^ -1) = _
        rw [nI_andn _ (by omega) _ hg6]
        rfl
      rw [et]
      refine r_iload_n (pc := 58) X dX6_feel_58 rfl ?_
      refine c_i X (rV (pc := 59) (ci := 1) X l_X6_224 (t1_bestFelt (T := T) (S := S) (G := S 5) k1 t2 (th := thr T S) (kk := k') hth hl k3) dX6_feel_59 (by repeat (first | exact mu_self | assumption | refine (mu_ne (by omega)).trans ?_)) rfl rfl rfl (Nat.le_of_ble_eq_true rfl) (by decide) (Nat.le_of_ble_eq_true rfl) (Nat.le_of_ble_eq_true rfl)) ?_
      rintro _ μq ⟨rfl, hμq⟩
      rw [hμq]
      clear hμq μq
      have hfb := (flS_b (ok := flOk (thr T S) (min k' (popc (thr T S)))) (v := plv T S (S 5) 6) 64 (by omega)).1
      have ef : (flS (flOk (thr T S) (min k' (popc (thr T S)))) (plv T S (S 5) 6) 64).1 = felt T S k' := rfl
      rw [ef] at hfb ⊢
      refine r_istore_n (pc := 62) X dX6_feel_62 (by decide) rfl ?_
      refine r_iload_n (pc := 63) X dX6_feel_63 rfl ?_
      refine r_if_ne (pc := 64) X 71 dX6_feel_64 (by decide) (fun h3 => ?_) (fun h3 => ?_)
      · have h3' : v2.toInt ≠ 0 := fun q => h3 (Int32.toInt_inj.mp (by rw [q]; decide))
        rw [if_neg h3']
        refine r_aload_n (pc := 71) X dX6_feel_71 rfl ?_
        apply r_get (pc := 72) X f_X6_51 dX6_feel_72
        · repeat (first | exact mu_self | assumption | refine (mu_ne (by omega)).trans ?_)
        · rfl
        refine r_iload_n (pc := 75) X dX6_feel_75 rfl ?_
        refine c_i X (rV (pc := 76) (ci := 1) X l_X6_215 (t1_mostOut k1 (x := felt T S k') hfb) dX6_feel_76 (by repeat (first | exact mu_self | assumption | refine (mu_ne (by omega)).trans ?_)) rfl rfl rfl (Nat.le_of_ble_eq_true rfl) (by decide) (Nat.le_of_ble_eq_true rfl) (Nat.le_of_ble_eq_true rfl)) ?_
        rintro _ μq ⟨rfl, hμq⟩
        rw [hμq]
        clear hμq μq
        have eg : g' (felt T S k') = nI (plv T S (S 5) 6 (felt T S k')) := by
          have h9 : felt T S k' ≤ thr T S := flS_sub (by omega) 64 (by omega)
          have := k3 0 (felt T S k') (by omega) (by omega) (by omega)
          rw [show 64 * 0 + felt T S k' = felt T S k' by omega] at this
          exact this
        rw [eg]
        exact r_iret (pc := 79) X dX6_feel_79 (⟨rfl, hW1, fun q hq => k5 q (by omega)⟩)
      · have h3' : v2.toInt = 0 := by rw [h3]; decide
        rw [if_pos h3']
        refine r_iload_n (pc := 67) X dX6_feel_67 rfl ?_
        refine r_goto (pc := 68) X 79 dX6_feel_68 (by decide) ?_
        exact r_iret (pc := 79) X dX6_feel_79 (⟨rfl, hW1, fun q hq => k5 q (by omega)⟩)
    · exact bad (Or.inr (by simp at h2; omega))
end S29
