section S54
variable {Γ : KK} {l : Launch} {sz : Nat} {μ : MM} {y : Nat} {T S : Nat → Nat} {un : Nat} {A : Nat → Nat → Nat} {kf : Nat → Bool} {K : Nat → Nat → Nat} {n : Nat} {xs : Nat → Nat} {sn : Nat} {V : Nat → Nat}
theorem t7_feel (h : WM Γ μ y T S un A kf K n xs sn V) (hI : INV T S un A kf K n xs sn V) (v1 v2 : Int32) : CT Γ l 3 sz 0 0 mX7_feel [.ref y, .int v1, .int v2] μ (ri (fun r μ' => r = opFeel T S v1 v2 ∧ WM Γ μ' y T S un A kf K n xs sn V ∧ Fr y 10 μ μ')) := by
  obtain ⟨pl, tk, vl, bg, cl, rd, ah, kp, mo, a0, a1, a2, a3, a4, a5, a6, a7, a8, a9, a10, a11⟩ := id h
  obtain ⟨i1, i2, i3, i4, i5, i6, i7, i8, i9⟩ := id hI
  obtain ⟨t1, t2, t3, t4, t5, t6, t7, t8, t9, t10, t11⟩ := id i1
  obtain ⟨z1, z2, z3, z4, z5, z6, z7, z8, z9⟩ := id i2
  have hg6 : S 5 < 64 := Nat.lt_of_lt_of_le z5 (pow6 t2)
  have hp1 : 1 ≤ 2 ^ T 7 := Nat.one_le_two_pow
  have hp6 := pow6 t2
  have hs7 : 1 <<< T 7 = 2 ^ T 7 := by rw [Nat.shiftLeft_eq, Nat.one_mul]
  refine CT.go RX7 rfl "feel" rfl [some (.ref y), some (.int v1), some (.int v2), none, none, none, none, none] rfl (by decide) (Nat.le_of_ble_eq_true rfl) ?_
  intro p e R s m args below meth c X hsz
  have bad : ¬ (0 ≤ v1.toInt ∧ v1.toInt ≤ 6) ∨ ¬ (0 ≤ v2.toInt ∧ v2.toInt ≤ 1) → vV Γ p l e R s m args below meth c (vQ Γ s args below 0 0 (ri (fun r μ' => r = opFeel T S v1 v2 ∧ WM Γ μ' y T S un A kf K n xs sn V ∧ Fr y 10 μ μ'))) 8 0 0 19 [some (.ref (y)), some (.int (v1)), some (.int (v2)), none, none, none, none, none] [] (μ) := by
    intro hq
    have eo : opFeel T S v1 v2 = -3 := by unfold opFeel; rw [if_pos hq]
    rw [eo]
    refine r_bipush (pc := 19) (v := -3) X dX7_feel_19 (by decide) ?_
    exact r_iret (pc := 21) X dX7_feel_21 (⟨rfl, h, Fr.rf⟩)
  have good : ∀ kk : Nat, kk ≤ 6 → opFeel T S v1 v2 = (if v2.toInt = 0 then nI (felt T S kk) else nI (plv T S (S 5) 6 (felt T S kk))) → vV Γ p l e R s m args below meth c (vQ Γ s args below 0 0 (ri (fun r μ' => r = opFeel T S v1 v2 ∧ WM Γ μ' y T S un A kf K n xs sn V ∧ Fr y 10 μ μ'))) 8 0 0 22 [some (.ref (y)), some (.int (nI (kk))), some (.int (v2)), none, none, none, none, none] [] (μ) := by
    intro kk hk eo
    obtain ⟨th, hth⟩ : ∃ th, th = thr T S := ⟨_, rfl⟩
    have ht64 : th < 64 := by rw [hth]; unfold thr; exact Nat.lt_of_le_of_lt Nat.and_le_left (by omega)
    have hpc := popc_le th ht64
    have efe : felt T S kk = (flS (flOk th (min kk (popc th))) (plv T S (S 5) 6) 64).1 := by rw [hth]; rfl
    have hfv := felt_v (T := T) (S := S) (G := S 5) (k := kk) ht64 (by omega)
    rw [efe, ← hfv] at eo
    obtain ⟨sz', hsz'⟩ : ∃ sz', sz' = min kk (popc th) := ⟨_, rfl⟩
    rw [← hsz'] at eo
    have key : ∀ (N i : Nat) (mo : Nat → Int32), i + N = 64 → vV Γ p l e R s m args below meth c (vQ Γ s args below 0 0 (ri (fun r μ' => r = opFeel T S v1 v2 ∧ WM Γ μ' y T S un A kf K n xs sn V ∧ Fr y 10 μ μ'))) 8 0 0 71 [some (.ref (y)), some (.int (nI (kk))), some (.int (v2)), some (.int (nI (th))), some (.int (nI (sz'))), some (.int (nI ((flS (flOk th sz') (plv T S (S 5) 6) i).1))), some (.int (nI ((flS (flOk th sz') (plv T S (S 5) 6) i).2))), some (.int (nI (i)))] [] (mu μ (y + 8) (xI Γ 448 mo)) := by
      intro N
      induction N with
      | zero =>
        intro i mo hi
        have hi2 : i = 64 := by omega
        subst hi2
        refine r_iload (pc := 71) X dX7_feel_71 rfl ?_
        refine r_bipush (pc := 73) (v := nI 64) X dX7_feel_73 (by decide) ?_
        refine r_icmp_geN (pc := 75) X 160 dX7_feel_75 (by decide) (by omega) (by omega) (fun _ => ?_) (fun h => absurd (Nat.le_refl _) h)
        refine r_iload_n (pc := 160) X dX7_feel_160 rfl ?_
        refine r_if_ne (pc := 161) X 169 dX7_feel_161 (by decide) (fun h6 => ?_) (fun h6 => ?_)
        · have h6' : v2.toInt ≠ 0 := fun q => h6 (Int32.toInt_inj.mp (by rw [q]; decide))
          rw [if_neg h6'] at eo
          refine r_iload (pc := 169) X dX7_feel_169 rfl ?_
          exact r_iret (pc := 171) X dX7_feel_171 (⟨eo.symm, h.mo (fun q hq => mu_ne hq) mu_self, fun q hq => mu_ne (by omega)⟩)
        · have h6' : v2.toInt = 0 := by rw [h6]; decide
          rw [if_pos h6'] at eo
          refine r_iload (pc := 164) X dX7_feel_164 rfl ?_
          refine r_goto (pc := 166) X 171 dX7_feel_166 (by decide) ?_
          exact r_iret (pc := 171) X dX7_feel_171 (⟨eo.symm, h.mo (fun q hq => mu_ne hq) mu_self, fun q hq => mu_ne (by omega)⟩)
      | succ N ih =>
        intro i mo hi
        obtain ⟨hb1, hb2⟩ := flS_b (ok := flOk th sz') (v := plv T S (S 5) 6) i (by omega)
        have hpi := popc_le i (by omega)
        have ef : flS (flOk th sz') (plv T S (S 5) 6) (i + 1) = if (flOk th sz' i && decide (plv T S (S 5) 6 i < (flS (flOk th sz') (plv T S (S 5) 6) i).2)) = true then (i, plv T S (S 5) 6 i) else flS (flOk th sz') (plv T S (S 5) 6) i := rfl
        have no : flOk th sz' i = false → vV Γ p l e R s m args below meth c (vQ Γ s args below 0 0 (ri (fun r μ' => r = opFeel T S v1 v2 ∧ WM Γ μ' y T S un A kf K n xs sn V ∧ Fr y 10 μ μ'))) 8 0 0 154 [some (.ref (y)), some (.int (nI (kk))), some (.int (v2)), some (.int (nI (th))), some (.int (nI (sz'))), some (.int (nI ((flS (flOk th sz') (plv T S (S 5) 6) i).1))), some (.int (nI ((flS (flOk th sz') (plv T S (S 5) 6) i).2))), some (.int (nI (i)))] [] (mu μ (y + 8) (xI Γ 448 mo)) := by
          intro hq
          rw [hq, if_neg (by simp)] at ef
          have := ih (i + 1) mo (by omega)
          rw [ef] at this
          refine r_iincN (pc := 154) (b := 1) X dX7_feel_154 rfl (by decide) rfl ?_
          refine r_goto (pc := 157) X 71 dX7_feel_157 (by decide) ?_
          exact this
        have hia : i &&& (th ^^^ 63) ≤ i := Nat.and_le_left
        refine r_iload (pc := 71) X dX7_feel_71 rfl ?_
        refine r_bipush (pc := 73) (v := nI 64) X dX7_feel_73 (by decide) ?_
        refine r_icmp_geN (pc := 75) X 160 dX7_feel_75 (by decide) (by omega) (by omega) (fun h => absurd h (by omega)) (fun _ => ?_)
        refine r_iload (pc := 78) X dX7_feel_78 rfl ?_
        refine r_iload_n (pc := 80) X dX7_feel_80 rfl ?_
        refine r_iconst (pc := 81) (v := -1) X dX7_feel_81 (by decide) ?_
        refine r_ixor (pc := 82) X dX7_feel_82 ?_
        refine r_iand (pc := 83) X dX7_feel_83 ?_
        rw [nI_andn _ (by omega) _ ht64]
        first | refine r_if_neZ (pc := 84) X 154 dX7_feel_84 (by decide) (fun h1 => ?_) (fun h1 => ?_) | refine r_if_neN (pc := 84) X 154 dX7_feel_84 (by decide) (by omega) (fun h1 => ?_) (fun h1 => ?_) | refine r_if_ne (pc := 84) X 154 dX7_feel_84 (by decide) (fun h1 => ?_) (fun h1 => ?_)
        · exact no (by unfold flOk; simp [h1])
        · refine r_iload (pc := 87) X dX7_feel_87 rfl ?_
          refine c_i X (rS (pc := 89) X l_X7_150 (t7_ones (x := i) (by omega)) dX7_feel_89 rfl rfl (Nat.le_of_ble_eq_true rfl) (by decide) (Nat.le_of_ble_eq_true rfl) (Nat.le_of_ble_eq_true rfl)) ?_
          rintro _ μq ⟨rfl, hμq⟩
          rw [hμq]
          clear hμq μq
          refine r_iload (pc := 92) X dX7_feel_92 rfl ?_
          first | refine r_icmp_neN (pc := 94) X 154 dX7_feel_94 (by decide) (by omega) (by omega) (fun h2 => ?_) (fun h2 => ?_) | refine r_icmp_ne (pc := 94) X 154 dX7_feel_94 (by decide) (fun h2 => ?_) (fun h2 => ?_)
          · exact no (by unfold flOk; simp [h2])
          · have hok : flOk th sz' i = true := by unfold flOk; simp [h1, h2]
            have hgi : S 5 ||| i < 64 := or_lt64 hg6 (by omega)
            have b0 : mu μ (y + 8) (xI Γ 448 mo) y = some (mdO y n pl tk vl bg cl un sn) := (mu_ne (by omega)).trans a0
            have b1 : mu μ (y + 8) (xI Γ 448 mo) (y + 1) = some (xI Γ 29 (fun i => nI (T i))) := (mu_ne (by omega)).trans a1
            have b2 : mu μ (y + 8) (xI Γ 448 mo) (y + 2) = some (xI Γ 18 (stI S)) := (mu_ne (by omega)).trans a2
            refine r_aload_n (pc := 97) X dX7_feel_97 rfl ?_
            refine r_aload_n (pc := 98) X dX7_feel_98 rfl ?_
            apply r_get (pc := 99) X f_X7_13 dX7_feel_99
            · repeat (first | exact mu_self | assumption | refine (mu_ne (by omega)).trans ?_)
            · rfl
            refine r_iconst (pc := 102) (v := nI 5) X dX7_feel_102 (by decide) ?_
            apply r_iald (pc := 103) X dX7_feel_103
            · repeat (first | exact mu_self | assumption | refine (mu_ne (by omega)).trans ?_)
            · omega
            · decide
            rw [stI_lo (by omega)]
            refine r_iload (pc := 104) X dX7_feel_104 rfl ?_
            first | refine r_iorN (pc := 106) X dX7_feel_106 ?_ | refine r_ior (pc := 106) X dX7_feel_106 ?_
            refine c_v X (rV (pc := 107) (ci := 7) X l_X7_178 (t7_findPlan b0 b1 b2 mu_self i1 i2 hgi) dX7_feel_107 (by repeat (first | exact mu_self | assumption | refine (mu_ne (by omega)).trans ?_)) rfl rfl rfl (Nat.le_of_ble_eq_true rfl) (by decide) (Nat.le_of_ble_eq_true rfl) (Nat.le_of_ble_eq_true rfl)) ?_
            rintro μ1 ⟨mo', hμ1, htab⟩
            rw [mu_mu] at hμ1
            subst hμ1
            have e0 : mo' 0 = nI (plv T S (S 5) 6 i) := by
              have := htab 0 0 (by omega) (by omega) (by omega)
              rw [plv_or, Nat.zero_or] at this
              exact this
            have hpv := plv_le T S (S 5) 6 i
            have := ih (i + 1) mo' (by omega)
            refine r_aload_n (pc := 110) X dX7_feel_110 rfl ?_
            apply r_get (pc := 111) X f_X7_32 dX7_feel_111
            · repeat (first | exact mu_self | assumption | refine (mu_ne (by omega)).trans ?_)
            · rfl
            refine r_iconst (pc := 114) (v := nI 0) X dX7_feel_114 (by decide) ?_
            apply r_iald (pc := 115) X dX7_feel_115
            · repeat (first | exact mu_self | assumption | refine (mu_ne (by omega)).trans ?_)
            · omega
            · decide
            rw [e0]
            refine r_iload (pc := 116) X dX7_feel_116 rfl ?_
            first | refine r_icmp_geN (pc := 118) X 126 dX7_feel_118 (by decide) (by omega) (by omega) (fun h3 => ?_) (fun h3 => ?_) | refine r_icmp_ge (pc := 118) X 126 dX7_feel_118 (by decide) (fun h3 => ?_) (fun h3 => ?_)
            · rw [hok, decide_eq_false (by omega), if_neg (by simp)] at ef
              rw [ef] at this
              refine r_iload (pc := 126) X dX7_feel_126 rfl ?_
              refine r_istore (pc := 128) X dX7_feel_128 (by decide) rfl ?_
              refine r_aload_n (pc := 130) X dX7_feel_130 rfl ?_
              apply r_get (pc := 131) X f_X7_32 dX7_feel_131
              · repeat (first | exact mu_self | assumption | refine (mu_ne (by omega)).trans ?_)
              · rfl
              refine r_iconst (pc := 134) (v := nI 0) X dX7_feel_134 (by decide) ?_
              apply r_iald (pc := 135) X dX7_feel_135
              · repeat (first | exact mu_self | assumption | refine (mu_ne (by omega)).trans ?_)
              · omega
              · decide
              rw [e0]
              refine r_iload (pc := 136) X dX7_feel_136 rfl ?_
              refine r_icmp_geN (pc := 138) X 150 dX7_feel_138 (by decide) (by omega) (by omega) (fun _ => ?_) (fun q => absurd h3 q)
              refine r_iload (pc := 150) X dX7_feel_150 rfl ?_
              refine r_istore (pc := 152) X dX7_feel_152 (by decide) rfl ?_
              refine r_iincN (pc := 154) (b := 1) X dX7_feel_154 rfl (by decide) rfl ?_
              refine r_goto (pc := 157) X 71 dX7_feel_157 (by decide) ?_
              exact this
            · rw [hok, decide_eq_true (by omega), if_pos (by simp)] at ef
              rw [ef] at this
              refine r_iload (pc := 121) X dX7_feel_121 rfl ?_
              refine r_goto (pc := 123) X 128 dX7_feel_123 (by decide) ?_
              refine r_istore (pc := 128) X dX7_feel_128 (by decide) rfl ?_
              refine r_aload_n (pc := 130) X dX7_feel_130 rfl ?_
              apply r_get (pc := 131) X f_X7_32 dX7_feel_131
              · repeat (first | exact mu_self | assumption | refine (mu_ne (by omega)).trans ?_)
              · rfl
              refine r_iconst (pc := 134) (v := nI 0) X dX7_feel_134 (by decide) ?_
              apply r_iald (pc := 135) X dX7_feel_135
              · repeat (first | exact mu_self | assumption | refine (mu_ne (by omega)).trans ?_)
              · omega
              · decide
              rw [e0]
              refine r_iload (pc := 136) X dX7_feel_136 rfl ?_
              refine r_icmp_geN (pc := 138) X 150 dX7_feel_138 (by decide) (by omega) (by omega) (fun q => absurd q h3) (fun _ => ?_)
              refine r_aload_n (pc := 141) X dX7_feel_141 rfl ?_
              apply r_get (pc := 142) X f_X7_32 dX7_feel_142
              · repeat (first | exact mu_self | assumption | refine (mu_ne (by omega)).trans ?_)
              · rfl
              refine r_iconst (pc := 145) (v := nI 0) X dX7_feel_145 (by decide) ?_
              apply r_iald (pc := 146) X dX7_feel_146
              · repeat (first | exact mu_self | assumption | refine (mu_ne (by omega)).trans ?_)
              · omega
              · decide
              rw [e0]
              refine r_goto (pc := 147) X 152 dX7_feel_147 (by decide) ?_
              refine r_istore (pc := 152) X dX7_feel_152 (by decide) rfl ?_
              refine r_iincN (pc := 154) (b := 1) X dX7_feel_154 rfl (by decide) rfl ?_
              refine r_goto (pc := 157) X 71 dX7_feel_157 (by decide) ?_
              exact this
    have fin : vV Γ p l e R s m args below meth c (vQ Γ s args below 0 0 (ri (fun r μ' => r = opFeel T S v1 v2 ∧ WM Γ μ' y T S un A kf K n xs sn V ∧ Fr y 10 μ μ'))) 8 0 0 59 [some (.ref (y)), some (.int (nI (kk))), some (.int (v2)), some (.int (nI (th))), none, none, none, none] [.int (nI (sz'))] (μ) := by
      refine r_istore (pc := 59) X dX7_feel_59 (by decide) rfl ?_
      refine r_iconst (pc := 61) (v := nI 0) X dX7_feel_61 (by decide) ?_
      refine r_istore (pc := 62) X dX7_feel_62 (by decide) rfl ?_
      refine r_bipush (pc := 64) (v := nI 7) X dX7_feel_64 (by decide) ?_
      refine r_istore (pc := 66) X dX7_feel_66 (by decide) rfl ?_
      refine r_iconst (pc := 68) (v := nI 0) X dX7_feel_68 (by decide) ?_
      refine r_istore (pc := 69) X dX7_feel_69 (by decide) rfl ?_
      refine vV.sub (μ' := mu μ (y + 8) (xI Γ 448 mo)) (fun H hP => hP.reI a10 (fun j hj => rfl)) ?_
      exact key 64 0 mo (by omega)
    refine r_iconst (pc := 22) (v := nI 1) X dX7_feel_22 (by decide) ?_
    refine r_aload_n (pc := 23) X dX7_feel_23 rfl ?_
    apply r_get (pc := 24) X f_X7_7 dX7_feel_24
    · repeat (first | exact mu_self | assumption | refine (mu_ne (by omega)).trans ?_)
    · rfl
    refine r_bipush (pc := 27) (v := nI 7) X dX7_feel_27 (by decide) ?_
    apply r_iald (pc := 29) X dX7_feel_29
    · repeat (first | exact mu_self | assumption | refine (mu_ne (by omega)).trans ?_)
    · omega
    · decide
    first | refine r_ishlN (pc := 30) X dX7_feel_30 (by omega) ?_ | refine r_ishl (pc := 30) X dX7_feel_30 ?_
    refine r_iconst (pc := 31) (v := nI 1) X dX7_feel_31 (by decide) ?_
    first | refine r_isubN (pc := 32) X dX7_feel_32 (by omega) ?_ | refine r_isub (pc := 32) X dX7_feel_32 ?_
    refine r_aload_n (pc := 33) X dX7_feel_33 rfl ?_
    apply r_get (pc := 34) X f_X7_13 dX7_feel_34
    · repeat (first | exact mu_self | assumption | refine (mu_ne (by omega)).trans ?_)
    · rfl
    refine r_iconst (pc := 37) (v := nI 5) X dX7_feel_37 (by decide) ?_
    apply r_iald (pc := 38) X dX7_feel_38
    · repeat (first | exact mu_self | assumption | refine (mu_ne (by omega)).trans ?_)
    · omega
    · decide
    rw [stI_lo (by omega)]
    refine r_iconst (pc := 39) (v := -1) X dX7_feel_39 (by decide) ?_
    refine r_ixor (pc := 40) X dX7_feel_40 ?_
    refine r_iand (pc := 41) X dX7_feel_41 ?_
    rw [hs7, nI_andn _ (by omega) _ hg6, show (2 ^ T 7 - 1) &&& (S 5 ^^^ 63) = th from hth.symm]
    refine r_istore_n (pc := 42) X dX7_feel_42 (by decide) rfl ?_
    refine r_iload_n (pc := 43) X dX7_feel_43 rfl ?_
    refine c_i X (rS (pc := 44) X l_X7_150 (t7_ones (x := th) ht64) dX7_feel_44 rfl rfl (Nat.le_of_ble_eq_true rfl) (by decide) (Nat.le_of_ble_eq_true rfl) (Nat.le_of_ble_eq_true rfl)) ?_
    rintro _ μq ⟨rfl, hμq⟩
    rw [hμq]
    clear hμq μq
    refine r_iload_n (pc := 47) X dX7_feel_47 rfl ?_
    first | refine r_icmp_geN (pc := 48) X 58 dX7_feel_48 (by decide) (by omega) (by omega) (fun h2 => ?_) (fun h2 => ?_) | refine r_icmp_ge (pc := 48) X 58 dX7_feel_48 (by decide) (fun h2 => ?_) (fun h2 => ?_)
    · rw [show sz' = kk by omega] at fin
      refine r_iload_n (pc := 58) X dX7_feel_58 rfl ?_
      exact fin
    · rw [show sz' = popc th by omega] at fin
      refine r_iload_n (pc := 51) X dX7_feel_51 rfl ?_
      refine c_i X (rS (pc := 52) X l_X7_150 (t7_ones (x := th) ht64) dX7_feel_52 rfl rfl (Nat.le_of_ble_eq_true rfl) (by decide) (Nat.le_of_ble_eq_true rfl) (Nat.le_of_ble_eq_true rfl)) ?_
      rintro _ μq ⟨rfl, hμq⟩
      rw [hμq]
      clear hμq μq
      refine r_goto (pc := 55) X 59 dX7_feel_55 (by decide) ?_
      exact fin
  refine r_iload_n (pc := 0) X dX7_feel_0 rfl ?_
  refine r_i2l (pc := 1) X dX7_feel_1 rfl ?_
  refine r_lconst (pc := 2) (v := 0) X dX7_feel_2 (by decide) ?_
  refine r_ldc2 (pc := 3) X k_X7_181 dX7_feel_3 ?_
  refine c_i X (rS (pc := 6) X l_X7_45 (t7_in v1.toInt64 0 6) dX7_feel_6 rfl rfl (Nat.le_of_ble_eq_true rfl) (by decide) (Nat.le_of_ble_eq_true rfl) (Nat.le_of_ble_eq_true rfl)) ?_
  rintro _ μq ⟨rfl, hμq⟩
  rw [hμq]
  clear hμq μq
  rw [lt_of_dec (a := 0) (b := 6) (by decide) (by decide)]
  first | refine r_if_eqZ (pc := 9) X 19 dX7_feel_9 (by decide) (fun h1 => ?_) (fun h1 => ?_) | refine r_if_eqN (pc := 9) X 19 dX7_feel_9 (by decide) (by omega) (fun h1 => ?_) (fun h1 => ?_) | refine r_if_eq (pc := 9) X 19 dX7_feel_9 (by decide) (fun h1 => ?_) (fun h1 => ?_)
  · exact bad (Or.inl (by simpa using h1))
  · have h1' : 0 ≤ v1.toInt ∧ v1.toInt ≤ 6 := by simpa using h1
    refine r_iload_n (pc := 12) X dX7_feel_12 rfl ?_
    refine c_i X (rS (pc := 13) X l_X7_169 (t7_isWhat v2) dX7_feel_13 rfl rfl (Nat.le_of_ble_eq_true rfl) (by decide) (Nat.le_of_ble_eq_true rfl) (Nat.le_of_ble_eq_true rfl)) ?_
    rintro _ μq ⟨rfl, hμq⟩
    rw [hμq]
    clear hμq μq
    first | refine r_if_neZ (pc := 16) X 22 dX7_feel_16 (by decide) (fun h2 => ?_) (fun h2 => ?_) | refine r_if_neN (pc := 16) X 22 dX7_feel_16 (by decide) (by omega) (fun h2 => ?_) (fun h2 => ?_) | refine r_if_ne (pc := 16) X 22 dX7_feel_16 (by decide) (fun h2 => ?_) (fun h2 => ?_)
    · have h2' : 0 ≤ v2.toInt ∧ v2.toInt ≤ 1 := by simpa using h2
      have hv := nt_nI h1'.1
      have hq := good (nt v1) (by unfold nt; omega) (by unfold opFeel; rw [if_neg (by omega)])
      rw [← hv] at hq
      exact hq
    · exact bad (Or.inr (by simpa using h2))
end S54
