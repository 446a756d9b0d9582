theorem plv_or {T S : Nat → Nat} {G F : Nat} : ∀ k X, plv T S (G ||| F) k X = plv T S G k (X ||| F) := by
  intro k
  induction k with
  | zero => intro X; rfl
  | succ k ih =>
    intro X
    show bst (fitG T S (G ||| F) (5 - k)) (plv T S (G ||| F) k) X 6 = bst (fitG T S G (5 - k)) (plv T S G k) (X ||| F) 6
    have key : ∀ n, bst (fitG T S (G ||| F) (5 - k)) (plv T S (G ||| F) k) X n = bst (fitG T S G (5 - k)) (plv T S G k) (X ||| F) n := by
      intro n
      induction n with
      | zero => exact ih X
      | succ n im =>
        show (if (fitG T S (G ||| F) (5 - k) n && !X.testBit n) = true then max (bst (fitG T S (G ||| F) (5 - k)) (plv T S (G ||| F) k) X n) (1 + plv T S (G ||| F) k (X ||| 1 <<< n)) else bst (fitG T S (G ||| F) (5 - k)) (plv T S (G ||| F) k) X n) = (if (fitG T S G (5 - k) n && !(X ||| F).testBit n) = true then max (bst (fitG T S G (5 - k)) (plv T S G k) (X ||| F) n) (1 + plv T S G k (X ||| F ||| 1 <<< n)) else bst (fitG T S G (5 - k)) (plv T S G k) (X ||| F) n)
        rw [im, ih (X ||| 1 <<< n), show X ||| 1 <<< n ||| F = X ||| F ||| 1 <<< n by rw [Nat.or_assoc, Nat.or_comm (1 <<< n) F, ← Nat.or_assoc]]
        have e : (fitG T S (G ||| F) (5 - k) n && !X.testBit n) = (fitG T S G (5 - k) n && !(X ||| F).testBit n) := by
          unfold fitG
          rw [Nat.testBit_or, Nat.testBit_or]
          cases (S (6 + (5 - k)) == 0) <;> cases G.testBit n <;> cases F.testBit n <;> cases X.testBit n <;> cases brM T n (5 - k) <;> rfl
        rw [e]
    exact key 6
theorem flS_v {ok : Nat → Bool} {v : Nat → Nat} : ∀ i, (flS ok v i).2 = 7 ∨ (flS ok v i).2 = v (flS ok v i).1 := by
  intro i
  induction i with
  | zero => exact Or.inl rfl
  | succ i ih =>
    have e : flS ok v (i + 1) = if (ok i && decide (v i < (flS ok v i).2)) = true then (i, v i) else flS ok v i := rfl
    rw [e]
    split
    · exact Or.inr rfl
    · exact ih
theorem flS_hit {ok : Nat → Bool} {v : Nat → Nat} {j : Nat} (hj : ok j = true) : ∀ i, j < i → (flS ok v i).2 ≤ v j := by
  intro i
  induction i with
  | zero => intro h; omega
  | succ i ih =>
    intro h
    have e : flS ok v (i + 1) = if (ok i && decide (v i < (flS ok v i).2)) = true then (i, v i) else flS ok v i := rfl
    rw [e]
    by_cases hq : j = i
    · subst hq
      by_cases hl : v j < (flS ok v j).2
      · rw [if_pos (by rw [hj, decide_eq_true hl]; rfl)]
        exact Nat.le_refl _
      · rw [if_neg (by rw [decide_eq_false hl]; simp)]
        omega
    · have := ih (by omega)
      split
      · rename_i h2
        simp at h2
        show v i ≤ v j
        omega
      · exact this
theorem fl_ex : ∀ th, th < 64 → ∀ k, k < 7 → (List.range 64).any (fun i => flOk th (min k (popc th)) i) = true := by decide +kernel
theorem felt_v {T S : Nat → Nat} {G th k : Nat} (ht : th < 64) (hk : k < 7) : (flS (flOk th (min k (popc th))) (plv T S G 6) 64).2 = plv T S G 6 (flS (flOk th (min k (popc th))) (plv T S G 6) 64).1 := by
  obtain ⟨j, hj, hq⟩ := List.any_eq_true.mp (fl_ex th ht k hk)
  have h1 := flS_hit (v := plv T S G 6) hq 64 (List.mem_range.mp hj)
  have h2 := plv_le T S G 6 j
  rcases flS_v (ok := flOk th (min k (popc th))) (v := plv T S G 6) 64 with h | h
  · omega
  · exact h
section S53
variable {Γ : KK} {l : Launch} {sz : Nat} {μ : MM} {y : Nat} {T S : Nat → Nat} {un : Nat} {A : Nat → Nat → Nat} {kf : Nat → Bool} {K : Nat → Nat → Nat} {n : Nat} {xs : Nat → Nat} {sn : Nat} {V : Nat → Nat}
theorem t7_plan (h : WM Γ μ y T S un A kf K n xs sn V) (hI : INV T S un A kf K n xs sn V) (v1 : Int32) : CT Γ l 3 sz 0 0 mX7_plan [.ref y, .int v1] μ (ri (fun r μ' => r = opPlan T S v1 ∧ WM Γ μ' y T S un A kf K n xs sn V ∧ Fr y 10 μ μ')) := by
  obtain ⟨pl, tk, vl, bg, cl, rd, ah, kp, mo, a0, a1, a2, a3, a4, a5, a6, a7, a8, a9, a10, a11⟩ := id h
  obtain ⟨i1, i2, i3, i4, i5, i6, i7, i8, i9⟩ := id hI
  obtain ⟨t1, t2, t3, t4, t5, t6, t7, t8, t9, t10, t11⟩ := id i1
  obtain ⟨z1, z2, z3, z4, z5, z6, z7, z8, z9⟩ := id i2
  have hg6 : S 5 < 64 := Nat.lt_of_lt_of_le z5 (pow6 t2)
  refine CT.go RX7 rfl "plan" rfl [some (.ref y), some (.int v1), none, none, none, none, none] rfl (by decide) (Nat.le_of_ble_eq_true rfl) ?_
  intro p e R s m args below meth c X hsz
  have one : v1.toInt = -1 → vV Γ p l e R s m args below meth c (vQ Γ s args below 0 0 (ri (fun r μ' => r = opPlan T S v1 ∧ WM Γ μ' y T S un A kf K n xs sn V ∧ Fr y 10 μ μ'))) 7 0 0 16 [some (.ref (y)), some (.int (v1)), none, none, none, none, none] [] (μ) := by
    intro hq
    have hv : v1 = -1 := Int32.toInt_inj.mp (by rw [hq]; decide)
    have eo : opPlan T S v1 = nI (plv T S (S 5) 6 0) := by unfold opPlan; rw [if_pos hq]
    refine r_aload_n (pc := 16) X dX7_plan_16 rfl ?_
    refine r_aload_n (pc := 17) X dX7_plan_17 rfl ?_
    apply r_get (pc := 18) X f_X7_13 dX7_plan_18
    · repeat (first | exact mu_self | assumption | refine (mu_ne (by omega)).trans ?_)
    · rfl
    refine r_iconst (pc := 21) (v := nI 5) X dX7_plan_21 (by decide) ?_
    apply r_iald (pc := 22) X dX7_plan_22
    · repeat (first | exact mu_self | assumption | refine (mu_ne (by omega)).trans ?_)
    · omega
    · decide
    rw [stI_lo (by omega)]
    refine c_v X (rV (pc := 23) (ci := 7) X l_X7_178 (t7_findPlan a0 a1 a2 a10 i1 i2 hg6) dX7_plan_23 (by repeat (first | exact mu_self | assumption | refine (mu_ne (by omega)).trans ?_)) rfl rfl rfl (Nat.le_of_ble_eq_true rfl) (by decide) (Nat.le_of_ble_eq_true rfl) (Nat.le_of_ble_eq_true rfl)) ?_
    rintro μ1 ⟨mo', hμ1, htab⟩
    subst hμ1
    rw [eo]
    have e0 := htab 0 0 (by omega) (by omega) (by omega)
    rw [hv]
    refine r_iload_n (pc := 26) X dX7_plan_26 rfl ?_
    refine r_if_ge (pc := 27) X 37 dX7_plan_27 (by decide) (fun h2 => ?_) (fun h2 => ?_)
    · exact absurd h2 (by decide)
    · refine r_aload_n (pc := 30) X dX7_plan_30 rfl ?_
      apply r_get (pc := 31) X f_X7_32 dX7_plan_31
      · repeat (first | exact mu_self | assumption | refine (mu_ne (by omega)).trans ?_)
      · rfl
      refine r_iconst (pc := 34) (v := nI 0) X dX7_plan_34 (by decide) ?_
      apply r_iald (pc := 35) X dX7_plan_35
      · repeat (first | exact mu_self | assumption | refine (mu_ne (by omega)).trans ?_)
      · omega
      · decide
      rw [show mo' 0 = nI (plv T S (S 5) 6 0) from e0]
      exact r_iret (pc := 36) X dX7_plan_36 (⟨rfl, h.mo (fun q hq => mu_ne hq) mu_self, fun q hq => mu_ne (by omega)⟩)
  have good : ∀ mm : Nat, mm < T 0 → opPlan T S v1 = uI (fstF (fbP T S (S 5) mm (tkN T S (S 5) mm)) 6 0) → vV Γ p l e R s m args below meth c (vQ Γ s args below 0 0 (ri (fun r μ' => r = opPlan T S v1 ∧ WM Γ μ' y T S un A kf K n xs sn V ∧ Fr y 10 μ μ'))) 7 0 0 16 [some (.ref (y)), some (.int (nI (mm))), none, none, none, none, none] [] (μ) := by
    intro mm hm eo
    refine r_aload_n (pc := 16) X dX7_plan_16 rfl ?_
    refine r_aload_n (pc := 17) X dX7_plan_17 rfl ?_
    apply r_get (pc := 18) X f_X7_13 dX7_plan_18
    · repeat (first | exact mu_self | assumption | refine (mu_ne (by omega)).trans ?_)
    · rfl
    refine r_iconst (pc := 21) (v := nI 5) X dX7_plan_21 (by decide) ?_
    apply r_iald (pc := 22) X dX7_plan_22
    · repeat (first | exact mu_self | assumption | refine (mu_ne (by omega)).trans ?_)
    · omega
    · decide
    rw [stI_lo (by omega)]
    refine c_v X (rV (pc := 23) (ci := 7) X l_X7_178 (t7_findPlan a0 a1 a2 a10 i1 i2 hg6) dX7_plan_23 (by repeat (first | exact mu_self | assumption | refine (mu_ne (by omega)).trans ?_)) rfl rfl rfl (Nat.le_of_ble_eq_true rfl) (by decide) (Nat.le_of_ble_eq_true rfl) (Nat.le_of_ble_eq_true rfl)) ?_
    rintro μ1 ⟨mo', hμ1, htab⟩
    have hW1 : WM Γ μ1 y T S un A kf K n xs sn V := by rw [hμ1]; exact h.mo (fun q hq => mu_ne hq) mu_self
    have hF1 : Fr y 10 μ μ1 := fun q hq => by rw [hμ1]; exact mu_ne (by omega)
    have d0 : μ1 y = some (mdO y n pl tk vl bg cl un sn) := by rw [hμ1]; exact (mu_ne (by omega)).trans a0
    have d1 : μ1 (y + 1) = some (xI Γ 29 (fun i => nI (T i))) := by rw [hμ1]; exact (mu_ne (by omega)).trans a1
    have d2 : μ1 (y + 2) = some (xI Γ 18 (stI S)) := by rw [hμ1]; exact (mu_ne (by omega)).trans a2
    have d8 : μ1 (y + 8) = some (xI Γ 448 mo') := by rw [hμ1]; exact mu_self
    clear hμ1
    obtain ⟨G, hGe⟩ : ∃ G, G = S 5 := ⟨_, rfl⟩
    rw [← hGe] at htab eo
    have key : ∀ (N i : Nat) (v3 : Int32), i + N = mm + 1 → (i = mm + 1 → v3 = uI (fstF (fbP T S G mm (tkN T S G mm)) 6 0)) → vV Γ p l e R s m args below meth c (vQ Γ s args below 0 0 (ri (fun r μ' => r = opPlan T S v1 ∧ WM Γ μ' y T S un A kf K n xs sn V ∧ Fr y 10 μ μ'))) 7 0 0 44 [some (.ref (y)), some (.int (nI (mm))), some (.int (nI (tkN T S G i))), some (.int (v3)), some (.int (nI (i))), none, none] [] (μ1) := by
      intro N
      induction N with
      | zero =>
        intro i v3 hi hv
        have hi2 : i = mm + 1 := by omega
        rw [hv hi2, hi2]
        refine r_iload (pc := 44) X dX7_plan_44 rfl ?_
        refine r_iload_n (pc := 46) X dX7_plan_46 rfl ?_
        refine r_icmp_gtN (pc := 47) X 192 dX7_plan_47 (by decide) (by omega) (by omega) (fun _ => ?_) (fun h => absurd (show mm < mm + 1 by omega) h)
        refine r_iload_n (pc := 192) X dX7_plan_192 rfl ?_
        exact r_iret (pc := 193) X dX7_plan_193 (⟨eo.symm, hW1, hF1⟩)
      | succ N ih =>
        intro i v3 hi hv
        have hi6 : i < 6 := by omega
        have htl : tkN T S G i < 64 := Nat.lt_of_lt_of_le (tkN_lt T S G i) (pow6 t2)
        obtain ⟨x, hx⟩ : ∃ x, x = tkN T S G i := ⟨_, rfl⟩
        have hfl := fstF_le (fbP T S G i x) 6 0
        have nxt := ih (i + 1) (uI (fstF (fbP T S G i x) 6 0)) (by omega) (fun q => by rw [hx, show i = mm by omega])
        have etk : tkN T S G (i + 1) = if fstF (fbP T S G i x) 6 0 = 0 then x else x ||| 1 <<< (fstF (fbP T S G i x) 6 0 - 1) := by rw [hx]; rfl
        rw [← hx] at htl ⊢
        have fin : vV Γ p l e R s m args below meth c (vQ Γ s args below 0 0 (ri (fun r μ' => r = opPlan T S v1 ∧ WM Γ μ' y T S un A kf K n xs sn V ∧ Fr y 10 μ μ'))) 7 0 0 172 [some (.ref (y)), some (.int (nI (mm))), some (.int (nI (x))), some (.int (uI (fstF (fbP T S G i x) 6 0))), some (.int (nI (i))), none, none] [] (μ1) := by
          refine r_iload_n (pc := 172) X dX7_plan_172 rfl ?_
          refine r_iload_n (pc := 173) X dX7_plan_173 rfl ?_
          rcases Nat.eq_zero_or_pos (fstF (fbP T S G i x) 6 0) with g | g
          · rw [if_pos g] at etk
            rw [etk, g, uI_0] at nxt
            rw [g, uI_0]
            refine r_if_ge (pc := 174) X 181 dX7_plan_174 (by decide) (fun h3 => ?_) (fun h3 => ?_)
            · exact absurd h3 (by decide)
            · refine r_iconst (pc := 177) (v := nI 0) X dX7_plan_177 (by decide) ?_
              refine r_goto (pc := 178) X 184 dX7_plan_178 (by decide) ?_
              first | refine r_iorN (pc := 184) X dX7_plan_184 ?_ | refine r_ior (pc := 184) X dX7_plan_184 ?_
              rw [Nat.or_zero]
              refine r_istore_n (pc := 185) X dX7_plan_185 (by decide) rfl ?_
              refine r_iincN (pc := 186) (b := 1) X dX7_plan_186 rfl (by decide) rfl ?_
              refine r_goto (pc := 189) X 44 dX7_plan_189 (by decide) ?_
              exact vV.loc (fun j v hj => by rcases j with _ | _ | _ | _ | _ | _ | _ | j <;> first | exact hj | (simp at hj)) nxt
          · obtain ⟨w, hw⟩ : ∃ w, fstF (fbP T S G i x) 6 0 = w + 1 := ⟨fstF (fbP T S G i x) 6 0 - 1, by omega⟩
            rw [if_neg (by omega), hw, show w + 1 - 1 = w by omega] at etk
            rw [etk, hw, uI_S] at nxt
            rw [hw, uI_S]
            first | refine r_if_geN (pc := 174) X 181 dX7_plan_174 (by decide) (by omega) (fun h3 => ?_) (fun h3 => ?_) | refine r_if_ge (pc := 174) X 181 dX7_plan_174 (by decide) (fun h3 => ?_) (fun h3 => ?_)
            · refine r_iconst (pc := 181) (v := nI 1) X dX7_plan_181 (by decide) ?_
              refine r_iload_n (pc := 182) X dX7_plan_182 rfl ?_
              first | refine r_ishlN (pc := 183) X dX7_plan_183 (by omega) ?_ | refine r_ishl (pc := 183) X dX7_plan_183 ?_
              first | refine r_iorN (pc := 184) X dX7_plan_184 ?_ | refine r_ior (pc := 184) X dX7_plan_184 ?_
              refine r_istore_n (pc := 185) X dX7_plan_185 (by decide) rfl ?_
              refine r_iincN (pc := 186) (b := 1) X dX7_plan_186 rfl (by decide) rfl ?_
              refine r_goto (pc := 189) X 44 dX7_plan_189 (by decide) ?_
              exact vV.loc (fun j v hj => by rcases j with _ | _ | _ | _ | _ | _ | _ | j <;> first | exact hj | (simp at hj)) nxt
            · exact absurd (Nat.zero_le _) h3
        have hg : ∀ z, z < 64 → mo' (64 * (i + 1) + z) = nI (plv T S G (5 - i) z) := fun z hz => by
          have := htab (i + 1) z (by omega) (by omega) hz
          rw [show 6 - (i + 1) = 5 - i by omega] at this
          exact this
        have hg0 : mo' (64 * i + x) = nI (plv T S G (6 - i) x) := htab i x (by omega) (by omega) htl
        have sl : ∀ k : Nat, k ≤ T 7 → vV Γ p l e R s m args below meth c (vQ Γ s args below 0 0 (ri (fun r μ' => r = opPlan T S v1 ∧ WM Γ μ' y T S un A kf K n xs sn V ∧ Fr y 10 μ μ'))) 7 0 0 63 [some (.ref (y)), some (.int (nI (mm))), some (.int (nI (x))), some (.int (uI (fstF (fbP T S G i x) (6 - k) k))), some (.int (nI (i))), some (.int (uI k)), none] [] (μ1) := by
          intro k
          induction k with
          | zero =>
            intro hk
            rw [uI_0]
            refine r_iload (pc := 63) X dX7_plan_63 rfl ?_
            refine r_if_lt (pc := 65) X 172 dX7_plan_65 (by decide) (fun h3 => ?_) (fun h3 => ?_)
            · exact vV.loc (fun j v hj => by rcases j with _ | _ | _ | _ | _ | _ | _ | j <;> first | exact hj | (simp at hj)) fin
            · exact absurd (by decide) h3
          | succ k is =>
            intro hk
            have hk6 : k < 6 := by omega
            rw [uI_S]
            have nk := is (by omega)
            have ef : fstF (fbP T S G i x) (6 - k) k = if fbP T S G i x k = true then k + 1 else fstF (fbP T S G i x) (6 - (k + 1)) (k + 1) := by
              rw [show 6 - k = (6 - (k + 1)) + 1 by omega]; rfl
            refine r_iload (pc := 63) X dX7_plan_63 rfl ?_
            first | refine r_if_ltN (pc := 65) X 172 dX7_plan_65 (by decide) (by omega) (fun h3 => ?_) (fun h3 => ?_) | refine r_if_lt (pc := 65) X 172 dX7_plan_65 (by decide) (fun h3 => ?_) (fun h3 => ?_)
            · exact absurd h3 (Nat.not_lt_zero _)
            · refine r_aload_n (pc := 68) X dX7_plan_68 rfl ?_
              refine r_iload (pc := 69) X dX7_plan_69 rfl ?_
              refine c_i X (rV (pc := 71) (ci := 7) X l_X7_147 (t7_isIn (m' := i) d0 d2 hi6 (z6 i hi6)) dX7_plan_71 (by repeat (first | exact mu_self | assumption | refine (mu_ne (by omega)).trans ?_)) rfl rfl rfl (Nat.le_of_ble_eq_true rfl) (by decide) (Nat.le_of_ble_eq_true rfl) (Nat.le_of_ble_eq_true rfl)) ?_
              rintro _ μq ⟨rfl, hμq⟩
              rw [hμq]
              clear hμq μq
              first | refine r_if_eqZ (pc := 74) X 172 dX7_plan_74 (by decide) (fun h4 => ?_) (fun h4 => ?_) | refine r_if_eqN (pc := 74) X 172 dX7_plan_74 (by decide) (by omega) (fun h4 => ?_) (fun h4 => ?_) | refine r_if_eq (pc := 74) X 172 dX7_plan_74 (by decide) (fun h4 => ?_) (fun h4 => ?_)
              · have h4' : ¬ S (6 + i) = 0 := by simpa using h4
                have hno : ∀ t, fbP T S G i x t = false := fun t => by unfold fbP fitG; simp [h4']
                rw [fstF_no hno] at fin ⊢
                exact vV.loc (fun j v hj => by rcases j with _ | _ | _ | _ | _ | _ | _ | j <;> first | exact hj | (simp at hj)) fin
              · have h4' : S (6 + i) = 0 := by simpa using h4
                have hor : x ||| 1 <<< k < 64 := Nat.or_lt_two_pow (n := 6) htl (shl_pow hk6)
                have hpx := plv_le T S G (5 - i) (x ||| 1 <<< k)
                have hpx2 := plv_le T S G (6 - i) x
                have no : fbP T S G i x k = false → ∀ z : Int32, vV Γ p l e R s m args below meth c (vQ Γ s args below 0 0 (ri (fun r μ' => r = opPlan T S v1 ∧ WM Γ μ' y T S un A kf K n xs sn V ∧ Fr y 10 μ μ'))) 7 0 0 164 [some (.ref (y)), some (.int (nI (mm))), some (.int (nI (x))), some (.int (uI (fstF (fbP T S G i x) (6 - (k + 1)) (k + 1)))), some (.int (nI (i))), some (.int (nI (k))), some (.int (z))] [] (μ1) := by
                  intro hq z
                  rw [hq, if_neg (by simp)] at ef
                  rw [ef] at nk
                  refine r_iload_n (pc := 164) X dX7_plan_164 rfl ?_
                  refine r_istore_n (pc := 165) X dX7_plan_165 (by decide) rfl ?_
                  refine r_iinc (pc := 166) X dX7_plan_166 rfl rfl (by decide) rfl ?_
                  rw [iinc_u]
                  refine r_goto (pc := 169) X 63 dX7_plan_169 (by decide) ?_
                  exact vV.loc (fun j v hj => by rcases j with _ | _ | _ | _ | _ | _ | _ | j <;> first | exact hj | (simp at hj)) nk
                have c116 : ∀ z : Bool, (fitG T S G i k && !x.testBit k) = z → vV Γ p l e R s m args below meth c (vQ Γ s args below 0 0 (ri (fun r μ' => r = opPlan T S v1 ∧ WM Γ μ' y T S un A kf K n xs sn V ∧ Fr y 10 μ μ'))) 7 0 0 116 [some (.ref (y)), some (.int (nI (mm))), some (.int (nI (x))), some (.int (uI (fstF (fbP T S G i x) (6 - (k + 1)) (k + 1)))), some (.int (nI (i))), some (.int (nI (k))), none] [.int (zb z)] (μ1) := by
                  intro z hz
                  refine r_istore (pc := 116) X dX7_plan_116 (by decide) rfl ?_
                  refine r_iload (pc := 118) X dX7_plan_118 rfl ?_
                  cases z with
                  | false =>
                    refine r_if_eqZ (pc := 120) X 164 dX7_plan_120 (by decide) (fun _ => ?_) (fun q => absurd q (by decide))
                    exact no (by unfold fbP; rw [hz]; rfl) _
                  | true =>
                    refine r_if_eqZ (pc := 120) X 164 dX7_plan_120 (by decide) (fun q => absurd q (by decide)) (fun _ => ?_)
                    refine r_aload_n (pc := 123) X dX7_plan_123 rfl ?_
                    apply r_get (pc := 124) X f_X7_32 dX7_plan_124
                    · repeat (first | exact mu_self | assumption | refine (mu_ne (by omega)).trans ?_)
                    · rfl
                    refine r_bipush (pc := 127) (v := nI 64) X dX7_plan_127 (by decide) ?_
                    refine r_iload (pc := 129) X dX7_plan_129 rfl ?_
                    refine r_iconst (pc := 131) (v := nI 1) X dX7_plan_131 (by decide) ?_
                    first | refine r_iaddN (pc := 132) X dX7_plan_132 ?_ | refine r_iadd (pc := 132) X dX7_plan_132 ?_
                    first | refine r_imulN (pc := 133) X dX7_plan_133 ?_ | refine r_imul (pc := 133) X dX7_plan_133 ?_
                    refine r_iload_n (pc := 134) X dX7_plan_134 rfl ?_
                    refine r_iconst (pc := 135) (v := nI 1) X dX7_plan_135 (by decide) ?_
                    refine r_iload (pc := 136) X dX7_plan_136 rfl ?_
                    first | refine r_ishlN (pc := 138) X dX7_plan_138 (by omega) ?_ | refine r_ishl (pc := 138) X dX7_plan_138 ?_
                    first | refine r_iorN (pc := 139) X dX7_plan_139 ?_ | refine r_ior (pc := 139) X dX7_plan_139 ?_
                    first | refine r_iaddN (pc := 140) X dX7_plan_140 ?_ | refine r_iadd (pc := 140) X dX7_plan_140 ?_
                    apply r_iald (pc := 141) X dX7_plan_141
                    · repeat (first | exact mu_self | assumption | refine (mu_ne (by omega)).trans ?_)
                    · omega
                    · decide
                    rw [hg _ hor]
                    refine r_iconst (pc := 142) (v := nI 1) X dX7_plan_142 (by decide) ?_
                    first | refine r_iaddN (pc := 143) X dX7_plan_143 ?_ | refine r_iadd (pc := 143) X dX7_plan_143 ?_
                    refine r_aload_n (pc := 144) X dX7_plan_144 rfl ?_
                    apply r_get (pc := 145) X f_X7_32 dX7_plan_145
                    · repeat (first | exact mu_self | assumption | refine (mu_ne (by omega)).trans ?_)
                    · rfl
                    refine r_bipush (pc := 148) (v := nI 64) X dX7_plan_148 (by decide) ?_
                    refine r_iload (pc := 150) X dX7_plan_150 rfl ?_
                    first | refine r_imulN (pc := 152) X dX7_plan_152 ?_ | refine r_imul (pc := 152) X dX7_plan_152 ?_
                    refine r_iload_n (pc := 153) X dX7_plan_153 rfl ?_
                    first | refine r_iaddN (pc := 154) X dX7_plan_154 ?_ | refine r_iadd (pc := 154) X dX7_plan_154 ?_
                    apply r_iald (pc := 155) X dX7_plan_155
                    · repeat (first | exact mu_self | assumption | refine (mu_ne (by omega)).trans ?_)
                    · omega
                    · decide
                    rw [hg0]
                    first | refine r_icmp_neN (pc := 156) X 164 dX7_plan_156 (by decide) (by omega) (by omega) (fun h7 => ?_) (fun h7 => ?_) | refine r_icmp_ne (pc := 156) X 164 dX7_plan_156 (by decide) (fun h7 => ?_) (fun h7 => ?_)
                    · exact no (by unfold fbP; rw [hz, decide_eq_false (by omega)]; rfl) _
                    · rw [show fbP T S G i x k = true by unfold fbP; rw [hz, decide_eq_true (by omega)]; rfl, if_pos rfl] at ef
                      rw [ef, uI_S] at nk
                      refine r_iload (pc := 159) X dX7_plan_159 rfl ?_
                      refine r_goto (pc := 161) X 165 dX7_plan_161 (by decide) ?_
                      refine r_istore_n (pc := 165) X dX7_plan_165 (by decide) rfl ?_
                      refine r_iinc (pc := 166) X dX7_plan_166 rfl rfl (by decide) rfl ?_
                      rw [iinc_u]
                      refine r_goto (pc := 169) X 63 dX7_plan_169 (by decide) ?_
                      exact vV.loc (fun j v hj => by rcases j with _ | _ | _ | _ | _ | _ | _ | j <;> first | exact hj | (simp at hj)) nk
                have hxg : x ||| G < 64 := or_lt64 htl (by omega)
                have hbt := brT_le i1 hk6
                have hwt := t4 i hi6
                refine r_iload_n (pc := 77) X dX7_plan_77 rfl ?_
                refine r_aload_n (pc := 78) X dX7_plan_78 rfl ?_
                apply r_get (pc := 79) X f_X7_13 dX7_plan_79
                · repeat (first | exact mu_self | assumption | refine (mu_ne (by omega)).trans ?_)
                · rfl
                refine r_iconst (pc := 82) (v := nI 5) X dX7_plan_82 (by decide) ?_
                apply r_iald (pc := 83) X dX7_plan_83
                · repeat (first | exact mu_self | assumption | refine (mu_ne (by omega)).trans ?_)
                · omega
                · decide
                rw [stI_lo (by omega), ← hGe]
                first | refine r_iorN (pc := 84) X dX7_plan_84 ?_ | refine r_ior (pc := 84) X dX7_plan_84 ?_
                refine r_iload (pc := 85) X dX7_plan_85 rfl ?_
                refine c_i X (rS (pc := 87) X l_X7_160 (t7_has (b := x ||| G) (k := k) (by omega) (by omega)) dX7_plan_87 rfl rfl (Nat.le_of_ble_eq_true rfl) (by decide) (Nat.le_of_ble_eq_true rfl) (Nat.le_of_ble_eq_true rfl)) ?_
                rintro _ μq ⟨rfl, hμq⟩
                rw [hμq]
                clear hμq μq
                first | refine r_if_neZ (pc := 90) X 115 dX7_plan_90 (by decide) (fun h5 => ?_) (fun h5 => ?_) | refine r_if_neN (pc := 90) X 115 dX7_plan_90 (by decide) (by omega) (fun h5 => ?_) (fun h5 => ?_) | refine r_if_ne (pc := 90) X 115 dX7_plan_90 (by decide) (fun h5 => ?_) (fun h5 => ?_)
                · have hf : (fitG T S G i k && !x.testBit k) = false := by
                    unfold fitG
                    rw [Nat.testBit_or] at h5
                    simp only [Bool.or_eq_true] at h5
                    rcases h5 with q | q <;> simp [q]
                  have := c116 false hf
                  rw [zb_f] at this
                  refine r_iconst (pc := 115) (v := nI 0) X dX7_plan_115 (by decide) ?_
                  exact this
                · have h5' : x.testBit k = false ∧ G.testBit k = false := by
                    rw [Nat.testBit_or] at h5
                    simpa using h5
                  refine r_aload_n (pc := 93) X dX7_plan_93 rfl ?_
                  refine r_iload (pc := 94) X dX7_plan_94 rfl ?_
                  refine c_i X (rV (pc := 96) (ci := 7) X l_X7_139 (t7_bears (w := k) d0 d1 i1 (by omega)) dX7_plan_96 (by repeat (first | exact mu_self | assumption | refine (mu_ne (by omega)).trans ?_)) rfl rfl rfl (Nat.le_of_ble_eq_true rfl) (by decide) (Nat.le_of_ble_eq_true rfl) (Nat.le_of_ble_eq_true rfl)) ?_
                  rintro _ μq ⟨rfl, hμq⟩
                  rw [hμq]
                  clear hμq μq
                  refine r_aload_n (pc := 99) X dX7_plan_99 rfl ?_
                  apply r_get (pc := 100) X f_X7_7 dX7_plan_100
                  · repeat (first | exact mu_self | assumption | refine (mu_ne (by omega)).trans ?_)
                  · rfl
                  refine r_iconst (pc := 103) (v := nI 1) X dX7_plan_103 (by decide) ?_
                  refine r_iload (pc := 104) X dX7_plan_104 rfl ?_
                  first | refine r_iaddN (pc := 106) X dX7_plan_106 ?_ | refine r_iadd (pc := 106) X dX7_plan_106 ?_
                  apply r_iald (pc := 107) X dX7_plan_107
                  · repeat (first | exact mu_self | assumption | refine (mu_ne (by omega)).trans ?_)
                  · omega
                  · decide
                  first | refine r_icmp_ltN (pc := 108) X 115 dX7_plan_108 (by decide) (by omega) (by omega) (fun h6 => ?_) (fun h6 => ?_) | refine r_icmp_lt (pc := 108) X 115 dX7_plan_108 (by decide) (fun h6 => ?_) (fun h6 => ?_)
                  · have hf : (fitG T S G i k && !x.testBit k) = false := by
                      unfold fitG brM
                      rw [decide_eq_false (show ¬ (k < T 7 ∧ i < T 0 ∧ T (1 + i) ≤ brT T k) by omega)]
                      simp
                    have := c116 false hf
                    rw [zb_f] at this
                    refine r_iconst (pc := 115) (v := nI 0) X dX7_plan_115 (by decide) ?_
                    exact this
                  · have hf : (fitG T S G i k && !x.testBit k) = true := by
                      unfold fitG brM
                      rw [decide_eq_true (show (k < T 7 ∧ i < T 0 ∧ T (1 + i) ≤ brT T k) by omega)]
                      simp [h4', h5']
                    have := c116 true hf
                    rw [zb_t] at this
                    refine r_iconst (pc := 111) (v := nI 1) X dX7_plan_111 (by decide) ?_
                    refine r_goto (pc := 112) X 116 dX7_plan_112 (by decide) ?_
                    exact this
        have hs := sl (T 7) (Nat.le_refl _)
        rw [fstF_hi (P := fbP T S G i x) (a := T 7) (fun j hj => by
          cases hq : fitG T S G i j with
          | false => unfold fbP; rw [hq]; rfl
          | true => have := fit_s7 hq; omega) _ _ (Nat.le_refl _), uI_0] at hs
        refine r_iload (pc := 44) X dX7_plan_44 rfl ?_
        refine r_iload_n (pc := 46) X dX7_plan_46 rfl ?_
        refine r_icmp_gtN (pc := 47) X 192 dX7_plan_47 (by decide) (by omega) (by omega) (fun h => absurd h (by omega)) (fun _ => ?_)
        refine r_iconst (pc := 50) (v := -1) X dX7_plan_50 (by decide) ?_
        refine r_istore_n (pc := 51) X dX7_plan_51 (by decide) rfl ?_
        refine r_aload_n (pc := 52) X dX7_plan_52 rfl ?_
        apply r_get (pc := 53) X f_X7_7 dX7_plan_53
        · repeat (first | exact mu_self | assumption | refine (mu_ne (by omega)).trans ?_)
        · rfl
        refine r_bipush (pc := 56) (v := nI 7) X dX7_plan_56 (by decide) ?_
        apply r_iald (pc := 58) X dX7_plan_58
        · repeat (first | exact mu_self | assumption | refine (mu_ne (by omega)).trans ?_)
        · omega
        · decide
        refine r_iconst (pc := 59) (v := nI 1) X dX7_plan_59 (by decide) ?_
        refine r_isub (pc := 60) X dX7_plan_60 ?_
        refine r_istore (pc := 61) X dX7_plan_61 (by decide) rfl ?_
        exact vV.loc (fun j v hj => by rcases j with _ | _ | _ | _ | _ | _ | _ | j <;> first | exact hj | (simp at hj)) hs
    refine r_iload_n (pc := 26) X dX7_plan_26 rfl ?_
    first | refine r_if_geN (pc := 27) X 37 dX7_plan_27 (by decide) (by omega) (fun h2 => ?_) (fun h2 => ?_) | refine r_if_ge (pc := 27) X 37 dX7_plan_27 (by decide) (fun h2 => ?_) (fun h2 => ?_)
    · refine r_iconst (pc := 37) (v := nI 0) X dX7_plan_37 (by decide) ?_
      refine r_istore_n (pc := 38) X dX7_plan_38 (by decide) rfl ?_
      refine r_iconst (pc := 39) (v := -1) X dX7_plan_39 (by decide) ?_
      refine r_istore_n (pc := 40) X dX7_plan_40 (by decide) rfl ?_
      refine r_iconst (pc := 41) (v := nI 0) X dX7_plan_41 (by decide) ?_
      refine r_istore (pc := 42) X dX7_plan_42 (by decide) rfl ?_
      exact key (mm + 1) 0 _ (by omega) (fun q => by omega)
    · exact absurd (Nat.zero_le _) h2
  refine r_iload_n (pc := 0) X dX7_plan_0 rfl ?_
  refine r_iconst (pc := 1) (v := -1) X dX7_plan_1 (by decide) ?_
  refine r_icmp_eq (pc := 2) X 16 dX7_plan_2 (by decide) (fun h1 => ?_) (fun h1 => ?_)
  · exact one (by rw [h1]; decide)
  · have hne : v1.toInt ≠ -1 := fun q => h1 (Int32.toInt_inj.mp (by rw [q]; decide))
    refine r_aload_n (pc := 5) X dX7_plan_5 rfl ?_
    refine r_iload_n (pc := 6) X dX7_plan_6 rfl ?_
    refine c_i X (rV (pc := 7) (ci := 7) X l_X7_123 (t7_isMan a0 a1 t1 v1) dX7_plan_7 (by repeat (first | exact mu_self | assumption | refine (mu_ne (by omega)).trans ?_)) rfl rfl rfl (Nat.le_of_ble_eq_true rfl) (by decide) (Nat.le_of_ble_eq_true rfl) (Nat.le_of_ble_eq_true rfl)) ?_
    rintro _ μq ⟨rfl, hμq⟩
    rw [hμq]
    clear hμq μq
    first | refine r_if_neZ (pc := 10) X 16 dX7_plan_10 (by decide) (fun h2 => ?_) (fun h2 => ?_) | refine r_if_neN (pc := 10) X 16 dX7_plan_10 (by decide) (by omega) (fun h2 => ?_) (fun h2 => ?_) | refine r_if_ne (pc := 10) X 16 dX7_plan_10 (by decide) (fun h2 => ?_) (fun h2 => ?_)
    · have h2' : 0 ≤ v1.toInt ∧ v1.toInt < T 0 := by simpa using h2
      have hv := nt_nI h2'.1
      have hq := good (nt v1) (nt_lt h2'.1 h2'.2) (by unfold opPlan; rw [if_neg hne, if_neg (fun q => q h2')])
      rw [← hv] at hq
      exact hq
    · have h2' : ¬ (0 ≤ v1.toInt ∧ v1.toInt < T 0) := by simpa using h2
      have eo : opPlan T S v1 = -2 := by unfold opPlan; rw [if_neg hne, if_pos h2']
      rw [eo]
      refine r_bipush (pc := 13) (v := -2) X dX7_plan_13 (by decide) ?_
      exact r_iret (pc := 15) X dX7_plan_15 (⟨rfl, h, Fr.rf⟩)
end S53
