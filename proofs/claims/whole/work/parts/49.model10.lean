section S49
variable {Γ : KK} {l : Launch} {sz : Nat} {μ : MM} {y : Nat} {T S : Nat → Nat} {un : Nat} {A : Nat → Nat → Nat} {kf : Nat → Bool} {K : Nat → Nat → Nat} {n : Nat} {xs : Nat → Nat} {sn : Nat} {V : Nat → Nat}
theorem t7_came (h : WM Γ μ y T S un A kf K n xs sn V) (hI : INV T S un A kf K n xs sn V) (v1 : Int32) : CT Γ l 2 sz 0 0 mX7_came [.ref y, .int v1] μ (ri (fun r μ' => r = opCame T v1 ∧ μ' = μ)) := by
  obtain ⟨pl, tk, vl, bg, cl, rd, ah, kp, mo, a0, a1, a2, a3, a4, a5, a6, a7, a8, a9, a10, a11⟩ := id h
  obtain ⟨i1, i2, i3, i4, i5, i6, i7, i8, i9⟩ := id hI
  obtain ⟨t1, t2, t3, t4, t5, t6, t7, t8, t9, t10, t11⟩ := id i1
  obtain ⟨z1, z2, z3, z4, z5, z6, z7, z8, z9⟩ := id i2
  refine CT.go RX7 rfl "came" rfl [some (.ref y), some (.int v1), none, none] rfl (by decide) (Nat.le_of_ble_eq_true rfl) ?_
  intro p e R s m args below meth c X hsz
  have hp : 2 ^ T 20 ≤ 16 := by have := Nat.pow_le_pow_right (n := 2) (by decide) t3; simpa using this
  have hp1 : 1 ≤ 2 ^ T 20 := Nat.one_le_two_pow
  obtain ⟨P, hP⟩ : ∃ P : Nat, P = 2 ^ T 20 := ⟨_, rfl⟩
  have hPI : (2 : Int) ^ T 20 = (P : Int) := by rw [hP]; exact (Int.natCast_pow 2 (T 20)).symm
  have hs : 1 <<< T 20 = 2 ^ T 20 := by rw [Nat.shiftLeft_eq, Nat.one_mul]
  have good : ∀ k' : Nat, k' < 16 → opCame T v1 = nI (namT T k') → vV Γ p l e R s m args below meth c (vQ Γ s args below 0 0 (ri (fun r μ' => r = opCame T v1 ∧ μ' = μ))) 4 0 0 24 [some (.ref (y)), some (.int (nI (k'))), none, none] [] (μ) := by
    intro k' hk eo
    rw [eo]
    refine r_iconst (pc := 24) (v := nI 0) X dX7_came_24 (by decide) ?_
    refine r_istore_n (pc := 25) X dX7_came_25 (by decide) rfl ?_
    refine r_iconst (pc := 26) (v := nI 0) X dX7_came_26 (by decide) ?_
    refine r_istore_n (pc := 27) X dX7_came_27 (by decide) rfl ?_
    have key : ∀ (N i : Nat), i + N = 8 → vV Γ p l e R s m args below meth c (vQ Γ s args below 0 0 (ri (fun r μ' => r = nI (namT T k') ∧ μ' = μ))) 4 0 0 28 [some (.ref y), some (.int (nI k')), some (.int (nI (mkb i (fun nm => comT T nm == k')))), some (.int (nI i))] [] μ := by
      intro N
      induction N with
      | zero =>
        intro i hi
        have hi2 : i = 8 := by omega
        subst hi2
        refine r_iload_n (pc := 28) X dX7_came_28 rfl ?_
        refine r_bipush (pc := 29) (v := nI 8) X dX7_came_29 (by decide) ?_
        refine r_icmp_geN (pc := 31) X 59 dX7_came_31 (by decide) (by omega) (by omega) (fun _ => ?_) (fun h => absurd (Nat.le_refl _) h)
        refine r_iload_n (pc := 59) X dX7_came_59 rfl ?_
        exact r_iret (pc := 60) X dX7_came_60 (⟨rfl, rfl⟩)
      | succ N ih =>
        intro i hi
        have := ih (i + 1) (by omega)
        rw [mkb_succ] at this
        have hc := comT_lt (T := T) t3 i
        refine r_iload_n (pc := 28) X dX7_came_28 rfl ?_
        refine r_bipush (pc := 29) (v := nI 8) X dX7_came_29 (by decide) ?_
        refine r_icmp_geN (pc := 31) X 59 dX7_came_31 (by decide) (by omega) (by omega) (fun h => absurd h (by omega)) (fun _ => ?_)
        refine r_iload_n (pc := 34) X dX7_came_34 rfl ?_
        refine r_aload_n (pc := 35) X dX7_came_35 rfl ?_
        refine r_iload_n (pc := 36) X dX7_came_36 rfl ?_
        refine c_i X (rV (pc := 37) (ci := 7) X l_X7_166 (t7_comeBy a0 a1 i1 (nm := i) (by omega)) dX7_came_37 (by repeat (first | exact mu_self | assumption | refine (mu_ne (by omega)).trans ?_)) rfl rfl rfl (Nat.le_of_ble_eq_true rfl) (by decide) (Nat.le_of_ble_eq_true rfl) (Nat.le_of_ble_eq_true rfl)) ?_
        rintro _ μq ⟨rfl, hμq⟩
        rw [hμq]
        clear hμq μq
        refine r_iload_n (pc := 40) X dX7_came_40 rfl ?_
        first | refine r_icmp_neN (pc := 41) X 50 dX7_came_41 (by decide) (by omega) (by omega) (fun h2 => ?_) (fun h2 => ?_) | refine r_icmp_ne (pc := 41) X 50 dX7_came_41 (by decide) (fun h2 => ?_) (fun h2 => ?_)
        · have hb : (comT T i == k') = false := by simpa using h2
          rw [hb] at this
          refine r_iconst (pc := 50) (v := nI 0) X dX7_came_50 (by decide) ?_
          first | refine r_iorN (pc := 51) X dX7_came_51 ?_ | refine r_ior (pc := 51) X dX7_came_51 ?_
          refine r_istore_n (pc := 52) X dX7_came_52 (by decide) rfl ?_
          refine r_iincN (pc := 53) (b := 1) X dX7_came_53 rfl (by decide) rfl ?_
          refine r_goto (pc := 56) X 28 dX7_came_56 (by decide) ?_
          exact this
        · have hb : (comT T i == k') = true := by simpa using h2
          rw [hb] at this
          refine r_iconst (pc := 44) (v := nI 1) X dX7_came_44 (by decide) ?_
          refine r_iload_n (pc := 45) X dX7_came_45 rfl ?_
          first | refine r_ishlN (pc := 46) X dX7_came_46 (by omega) ?_ | refine r_ishl (pc := 46) X dX7_came_46 ?_
          refine r_goto (pc := 47) X 51 dX7_came_47 (by decide) ?_
          first | refine r_iorN (pc := 51) X dX7_came_51 ?_ | refine r_ior (pc := 51) X dX7_came_51 ?_
          refine r_istore_n (pc := 52) X dX7_came_52 (by decide) rfl ?_
          refine r_iincN (pc := 53) (b := 1) X dX7_came_53 rfl (by decide) rfl ?_
          refine r_goto (pc := 56) X 28 dX7_came_56 (by decide) ?_
          exact this
    exact key 8 0 (by omega)
  refine r_iload_n (pc := 0) X dX7_came_0 rfl ?_
  refine r_i2l (pc := 1) X dX7_came_1 rfl ?_
  refine r_lconst (pc := 2) (v := 0) X dX7_came_2 (by decide) ?_
  refine r_iconst (pc := 3) (v := nI 1) X dX7_came_3 (by decide) ?_
  refine r_aload_n (pc := 4) X dX7_came_4 rfl ?_
  apply r_get (pc := 5) X f_X7_7 dX7_came_5
  · repeat (first | exact mu_self | assumption | refine (mu_ne (by omega)).trans ?_)
  · rfl
  refine r_bipush (pc := 8) (v := nI 20) X dX7_came_8 (by decide) ?_
  apply r_iald (pc := 10) X dX7_came_10
  · repeat (first | exact mu_self | assumption | refine (mu_ne (by omega)).trans ?_)
  · omega
  · decide
  first | refine r_ishlN (pc := 11) X dX7_came_11 (by omega) ?_ | refine r_ishl (pc := 11) X dX7_came_11 ?_
  refine r_iconst (pc := 12) (v := nI 1) X dX7_came_12 (by decide) ?_
  first | refine r_isubN (pc := 13) X dX7_came_13 (by omega) ?_ | refine r_isub (pc := 13) X dX7_came_13 ?_
  refine r_i2l (pc := 14) X dX7_came_14 rfl ?_
  refine c_i X (rS (pc := 15) X l_X7_45 (t7_in v1.toInt64 0 (nI (1 <<< T 20 - 1)).toInt64) dX7_came_15 rfl rfl (Nat.le_of_ble_eq_true rfl) (by decide) (Nat.le_of_ble_eq_true rfl) (Nat.le_of_ble_eq_true rfl)) ?_
  rintro _ μq ⟨rfl, hμq⟩
  rw [hμq]
  clear hμq μq
  rw [lt_of_dec (a := 0) (b := ((2 ^ T 20 - 1 : Nat) : Int)) (by decide) (by rw [i64, hs, nI_toInt (by omega)])]
  first | refine r_if_neZ (pc := 18) X 24 dX7_came_18 (by decide) (fun h1 => ?_) (fun h1 => ?_) | refine r_if_neN (pc := 18) X 24 dX7_came_18 (by decide) (by omega) (fun h1 => ?_) (fun h1 => ?_) | refine r_if_ne (pc := 18) X 24 dX7_came_18 (by decide) (fun h1 => ?_) (fun h1 => ?_)
  · have h1' : 0 ≤ v1.toInt ∧ v1.toInt ≤ ((2 ^ T 20 - 1 : Nat) : Int) := by simpa using h1
    have hv := nt_nI h1'.1
    have := good (nt v1) (by unfold nt; omega) (by unfold opCame; rw [if_neg (fun q => q ⟨h1'.1, by have := h1'.2; rw [← hP] at this hp1; rw [hPI]; omega⟩)])
    rw [← hv] at this
    exact this
  · have h1' : ¬ (0 ≤ v1.toInt ∧ v1.toInt ≤ ((2 ^ T 20 - 1 : Nat) : Int)) := by simpa using h1
    have eo : opCame T v1 = -2 := by unfold opCame; rw [if_pos (fun q => h1' ⟨q.1, by have := q.2; rw [hPI] at this; rw [← hP] at hp1 ⊢; omega⟩)]
    rw [eo]
    refine r_bipush (pc := 21) (v := -2) X dX7_came_21 (by decide) ?_
    exact r_iret (pc := 23) X dX7_came_23 (⟨rfl, rfl⟩)
theorem t7_names (h : WM Γ μ y T S un A kf K n xs sn V) (hI : INV T S un A kf K n xs sn V) (v1 : Int32) : CT Γ l 2 sz 0 0 mX7_names [.ref y, .int v1] μ (ri (fun r μ' => r = opNames T v1 ∧ μ' = μ)) := by
  obtain ⟨pl, tk, vl, bg, cl, rd, ah, kp, mo, a0, a1, a2, a3, a4, a5, a6, a7, a8, a9, a10, a11⟩ := id h
  obtain ⟨i1, i2, i3, i4, i5, i6, i7, i8, i9⟩ := id hI
  obtain ⟨t1, t2, t3, t4, t5, t6, t7, t8, t9, t10, t11⟩ := id i1
  obtain ⟨z1, z2, z3, z4, z5, z6, z7, z8, z9⟩ := id i2
  refine CT.go RX7 rfl "names" rfl [some (.ref y), some (.int v1), none, none, none] rfl (by decide) (Nat.le_of_ble_eq_true rfl) ?_
  intro p e R s m args below meth c X hsz
  have hqn : ∀ i, i ≤ 8 → qn T i < 8 := by
    intro i
    induction i with
    | zero => intro _; show (0 : Nat) < 8; omega
    | succ i ih =>
      intro hi
      show (if popc (comT T i) < popc (comT T (qn T i)) then i else qn T i) < 8
      split
      · omega
      · exact ih (by omega)
  refine r_iload_n (pc := 0) X dX7_names_0 rfl ?_
  refine c_i X (rS (pc := 1) X l_X7_169 (t7_isWhat v1) dX7_names_1 rfl rfl (Nat.le_of_ble_eq_true rfl) (by decide) (Nat.le_of_ble_eq_true rfl) (Nat.le_of_ble_eq_true rfl)) ?_
  rintro _ μq ⟨rfl, hμq⟩
  rw [hμq]
  clear hμq μq
  first | refine r_if_neZ (pc := 4) X 10 dX7_names_4 (by decide) (fun h1 => ?_) (fun h1 => ?_) | refine r_if_neN (pc := 4) X 10 dX7_names_4 (by decide) (by omega) (fun h1 => ?_) (fun h1 => ?_) | refine r_if_ne (pc := 4) X 10 dX7_names_4 (by decide) (fun h1 => ?_) (fun h1 => ?_)
  · have h1' : 0 ≤ v1.toInt ∧ v1.toInt ≤ 1 := by simpa using h1
    have key : ∀ (N i : Nat), i + N = 8 → vV Γ p l e R s m args below meth c (vQ Γ s args below 0 0 (ri (fun r μ' => r = opNames T v1 ∧ μ' = μ))) 5 0 0 17 [some (.ref (y)), some (.int (v1)), some (.int (nI (mkb i (fun nm => comT T nm == 0)))), some (.int (nI (qn T i))), some (.int (nI (i)))] [] (μ) := by
      intro N
      induction N with
      | zero =>
        intro i hi
        have hi2 : i = 8 := by omega
        subst hi2
        refine r_iload (pc := 17) X dX7_names_17 rfl ?_
        refine r_bipush (pc := 19) (v := nI 8) X dX7_names_19 (by decide) ?_
        refine r_icmp_geN (pc := 21) X 77 dX7_names_21 (by decide) (by omega) (by omega) (fun _ => ?_) (fun h => absurd (Nat.le_refl _) h)
        refine r_iload_n (pc := 77) X dX7_names_77 rfl ?_
        refine r_if_ne (pc := 78) X 85 dX7_names_78 (by decide) (fun h2 => ?_) (fun h2 => ?_)
        · have h3 : v1.toInt ≠ 0 := fun q => h2 (Int32.toInt_inj.mp (by rw [q]; decide))
          have eo : opNames T v1 = nI (qn T 8) := by unfold opNames; rw [if_neg h3, if_pos (by omega)]
          rw [eo]
          refine r_iload_n (pc := 85) X dX7_names_85 rfl ?_
          exact r_iret (pc := 86) X dX7_names_86 (⟨rfl, rfl⟩)
        · have eo : opNames T v1 = nI (namT T 0) := by unfold opNames; rw [if_pos (by rw [h2]; decide)]
          rw [eo]
          refine r_iload_n (pc := 81) X dX7_names_81 rfl ?_
          refine r_goto (pc := 82) X 86 dX7_names_82 (by decide) ?_
          exact r_iret (pc := 86) X dX7_names_86 (⟨rfl, rfl⟩)
      | succ N ih =>
        intro i hi
        have := ih (i + 1) (by omega)
        rw [mkb_succ] at this
        have hc := comT_lt (T := T) t3 i
        have hq8 := hqn i (by omega)
        have hc2 := comT_lt (T := T) t3 (qn T i)
        have hp1 := popc16 _ hc
        have hp2 := popc16 _ hc2
        have e1 : qn T (i + 1) = if popc (comT T i) < popc (comT T (qn T i)) then i else qn T i := rfl
        have mid : ∀ z : Nat, z = (mkb i (fun nm => comT T nm == 0) ||| (if comT T i == 0 then 1 <<< i else 0)) → vV Γ p l e R s m args below meth c (vQ Γ s args below 0 0 (ri (fun r μ' => r = opNames T v1 ∧ μ' = μ))) 5 0 0 43 [some (.ref (y)), some (.int (v1)), some (.int (nI (mkb i (fun nm => comT T nm == 0)))), some (.int (nI (qn T i))), some (.int (nI (i)))] [.int (nI (z))] (μ) := by
          intro z hz
          rw [← hz] at this
          refine r_istore_n (pc := 43) X dX7_names_43 (by decide) rfl ?_
          refine r_aload_n (pc := 44) X dX7_names_44 rfl ?_
          refine r_iload (pc := 45) X dX7_names_45 rfl ?_
          refine c_i X (rV (pc := 47) (ci := 7) X l_X7_166 (t7_comeBy a0 a1 i1 (nm := i) (by omega)) dX7_names_47 (by repeat (first | exact mu_self | assumption | refine (mu_ne (by omega)).trans ?_)) rfl rfl rfl (Nat.le_of_ble_eq_true rfl) (by decide) (Nat.le_of_ble_eq_true rfl) (Nat.le_of_ble_eq_true rfl)) ?_
          rintro _ μq ⟨rfl, hμq⟩
          rw [hμq]
          clear hμq μq
          refine c_i X (rS (pc := 50) X l_X7_150 (t7_ones (x := comT T i) (by omega)) dX7_names_50 rfl rfl (Nat.le_of_ble_eq_true rfl) (by decide) (Nat.le_of_ble_eq_true rfl) (Nat.le_of_ble_eq_true rfl)) ?_
          rintro _ μq ⟨rfl, hμq⟩
          rw [hμq]
          clear hμq μq
          refine r_aload_n (pc := 53) X dX7_names_53 rfl ?_
          refine r_iload_n (pc := 54) X dX7_names_54 rfl ?_
          refine c_i X (rV (pc := 55) (ci := 7) X l_X7_166 (t7_comeBy a0 a1 i1 (nm := qn T i) (by omega)) dX7_names_55 (by repeat (first | exact mu_self | assumption | refine (mu_ne (by omega)).trans ?_)) rfl rfl rfl (Nat.le_of_ble_eq_true rfl) (by decide) (Nat.le_of_ble_eq_true rfl) (Nat.le_of_ble_eq_true rfl)) ?_
          rintro _ μq ⟨rfl, hμq⟩
          rw [hμq]
          clear hμq μq
          refine c_i X (rS (pc := 58) X l_X7_150 (t7_ones (x := comT T (qn T i)) (by omega)) dX7_names_58 rfl rfl (Nat.le_of_ble_eq_true rfl) (by decide) (Nat.le_of_ble_eq_true rfl) (Nat.le_of_ble_eq_true rfl)) ?_
          rintro _ μq ⟨rfl, hμq⟩
          rw [hμq]
          clear hμq μq
          first | refine r_icmp_geN (pc := 61) X 69 dX7_names_61 (by decide) (by omega) (by omega) (fun h3 => ?_) (fun h3 => ?_) | refine r_icmp_ge (pc := 61) X 69 dX7_names_61 (by decide) (fun h3 => ?_) (fun h3 => ?_)
          · rw [e1, if_neg (by omega)] at this
            refine r_iload_n (pc := 69) X dX7_names_69 rfl ?_
            refine r_istore_n (pc := 70) X dX7_names_70 (by decide) rfl ?_
            refine r_iincN (pc := 71) (b := 1) X dX7_names_71 rfl (by decide) rfl ?_
            refine r_goto (pc := 74) X 17 dX7_names_74 (by decide) ?_
            exact this
          · rw [e1, if_pos (by omega)] at this
            refine r_iload (pc := 64) X dX7_names_64 rfl ?_
            refine r_goto (pc := 66) X 70 dX7_names_66 (by decide) ?_
            refine r_istore_n (pc := 70) X dX7_names_70 (by decide) rfl ?_
            refine r_iincN (pc := 71) (b := 1) X dX7_names_71 rfl (by decide) rfl ?_
            refine r_goto (pc := 74) X 17 dX7_names_74 (by decide) ?_
            exact this
        refine r_iload (pc := 17) X dX7_names_17 rfl ?_
        refine r_bipush (pc := 19) (v := nI 8) X dX7_names_19 (by decide) ?_
        refine r_icmp_geN (pc := 21) X 77 dX7_names_21 (by decide) (by omega) (by omega) (fun h => absurd h (by omega)) (fun _ => ?_)
        refine r_iload_n (pc := 24) X dX7_names_24 rfl ?_
        refine r_aload_n (pc := 25) X dX7_names_25 rfl ?_
        refine r_iload (pc := 26) X dX7_names_26 rfl ?_
        refine c_i X (rV (pc := 28) (ci := 7) X l_X7_166 (t7_comeBy a0 a1 i1 (nm := i) (by omega)) dX7_names_28 (by repeat (first | exact mu_self | assumption | refine (mu_ne (by omega)).trans ?_)) rfl rfl rfl (Nat.le_of_ble_eq_true rfl) (by decide) (Nat.le_of_ble_eq_true rfl) (Nat.le_of_ble_eq_true rfl)) ?_
        rintro _ μq ⟨rfl, hμq⟩
        rw [hμq]
        clear hμq μq
        first | refine r_if_neZ (pc := 31) X 41 dX7_names_31 (by decide) (fun h2 => ?_) (fun h2 => ?_) | refine r_if_neN (pc := 31) X 41 dX7_names_31 (by decide) (by omega) (fun h2 => ?_) (fun h2 => ?_) | refine r_if_ne (pc := 31) X 41 dX7_names_31 (by decide) (fun h2 => ?_) (fun h2 => ?_)
        · refine r_iconst (pc := 41) (v := nI 0) X dX7_names_41 (by decide) ?_
          first | refine r_iorN (pc := 42) X dX7_names_42 ?_ | refine r_ior (pc := 42) X dX7_names_42 ?_
          exact mid _ (by rw [if_neg (by simpa using h2)])
        · refine r_iconst (pc := 34) (v := nI 1) X dX7_names_34 (by decide) ?_
          refine r_iload (pc := 35) X dX7_names_35 rfl ?_
          first | refine r_ishlN (pc := 37) X dX7_names_37 (by omega) ?_ | refine r_ishl (pc := 37) X dX7_names_37 ?_
          refine r_goto (pc := 38) X 42 dX7_names_38 (by decide) ?_
          first | refine r_iorN (pc := 42) X dX7_names_42 ?_ | refine r_ior (pc := 42) X dX7_names_42 ?_
          exact mid _ (by rw [if_pos (by simpa using h2)])
    refine r_iconst (pc := 10) (v := nI 0) X dX7_names_10 (by decide) ?_
    refine r_istore_n (pc := 11) X dX7_names_11 (by decide) rfl ?_
    refine r_iconst (pc := 12) (v := nI 0) X dX7_names_12 (by decide) ?_
    refine r_istore_n (pc := 13) X dX7_names_13 (by decide) rfl ?_
    refine r_iconst (pc := 14) (v := nI 0) X dX7_names_14 (by decide) ?_
    refine r_istore (pc := 15) X dX7_names_15 (by decide) rfl ?_
    exact key 8 0 (by omega)
  · have h1' : ¬ (0 ≤ v1.toInt ∧ v1.toInt ≤ 1) := by simpa using h1
    have eo : opNames T v1 = -3 := by unfold opNames; rw [if_neg (by omega), if_neg (by omega)]
    rw [eo]
    refine r_bipush (pc := 7) (v := -3) X dX7_names_7 (by decide) ?_
    exact r_iret (pc := 9) X dX7_names_9 (⟨rfl, rfl⟩)
end S49
