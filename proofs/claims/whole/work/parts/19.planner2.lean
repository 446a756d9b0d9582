def flS (ok : Nat → Bool) (v : Nat → Nat) : Nat → Nat × Nat
  | 0 => (0, 7)
  | i + 1 => if (ok i && decide (v i < (flS ok v i).2)) = true then (i, v i) else flS ok v i
def flOk (th size i : Nat) : Bool := (i &&& (th ^^^ 63) == 0) && (popc i == size)
theorem sub_le : ∀ i, i < 64 → ∀ th, th < 64 → i &&& (th ^^^ 63) = 0 → i ≤ th := by decide +kernel
theorem flS_b {ok : Nat → Bool} {v : Nat → Nat} : ∀ i, i ≤ 64 → (flS ok v i).1 < 64 ∧ (flS ok v i).2 ≤ 7 := by
  intro i
  induction i with
  | zero => intro _; exact ⟨show 0 < 64 by decide, Nat.le_refl 7⟩
  | succ i ih =>
    intro hi
    have := ih (by omega)
    show (if (ok i && decide (v i < (flS ok v i).2)) = true then (i, v i) else flS ok v i).1 < 64 ∧ (if (ok i && decide (v i < (flS ok v i).2)) = true then (i, v i) else flS ok v i).2 ≤ 7
    by_cases h : (ok i && decide (v i < (flS ok v i).2)) = true
    · rw [if_pos h]
      simp at h
      exact ⟨by show i < 64; omega, by show v i ≤ 7; omega⟩
    · rw [if_neg h]; exact this
section S19
variable {Γ : KK} {l : Launch} {sz : Nat} {μ : MM} {a b c' : Nat} {T S : Nat → Nat}
theorem t1_reckon {f g : Nat → Int32} (h : PlanAt Γ μ a f g) (hz : ∀ j, j < 64 → g (384 + j) = nI 0) (hT : ToldAt Γ μ b T) (hs : ScAt Γ μ c' (scV (T 0) S) (scU S)) (hI : IT T) (hS : IS T S) (hd1 : a + 3 ≤ b ∨ b + 5 ≤ a) (hd2 : a + 3 ≤ c' ∨ c' + 2 ≤ a) : CT Γ l 5 sz 0 0 mX1_reckon [.ref a, .ref b, .ref c'] μ (rv (fun μ' => ∃ f' g', PlanAt Γ μ' a f' g' ∧ (∀ m, m < 6 → f' m = nI (fitM T S (S 5) m)) ∧ tab T S (S 5) g' 0 ∧ (∀ j, j < 64 → g' (384 + j) = nI 0) ∧ Fr a 3 μ μ')) := by
  have h7 := hI.2.1
  have hp7 := pow6 h7
  have k0 := hT.1
  have hsh : 1 <<< T 7 = 2 ^ T 7 := Nat.one_shiftLeft _
  refine CT.go RX1 rfl "reckon" rfl [some (.ref a), some (.ref b), some (.ref c'), none, none, none] rfl (by decide) (Nat.le_of_ble_eq_true rfl) ?_
  intro p e R s m args below meth c X hsz
  refine r_iconst (pc := 0) (v := nI 1) X dX1_reckon_0 (by decide) ?_
  refine r_aload_n (pc := 1) X dX1_reckon_1 rfl ?_
  apply r_get (pc := 2) X f_X1_18 dX1_reckon_2
  · repeat (first | exact mu_self | assumption | refine (mu_ne (by omega)).trans ?_)
  · rfl
  first | refine r_ishlN (pc := 5) X dX1_reckon_5 (by omega) ?_ | refine r_ishl (pc := 5) X dX1_reckon_5 ?_
  refine r_istore_n (pc := 6) X dX1_reckon_6 (by decide) rfl ?_
  refine r_iconst (pc := 7) (v := nI 5) X dX1_reckon_7 (by decide) ?_
  refine r_istore (pc := 8) X dX1_reckon_8 (by decide) rfl ?_
  rw [hsh]
  have key : ∀ (i : Nat) (f g : Nat → Int32) (q5 : Option Value) (μ1 : MM), i ≤ 6 → PlanAt Γ μ1 a f g → (∀ m, i ≤ m → m < 6 → f m = nI (fitM T S (S 5) m)) → tab T S (S 5) g i → (∀ j, j < 64 → g (384 + j) = nI 0) → Fr a 3 μ μ1 →
      vV Γ p l e R s m args below meth c (vQ Γ s args below 0 0 (rv (fun μ' => ∃ f' g', PlanAt Γ μ' a f' g' ∧ (∀ m, m < 6 → f' m = nI (fitM T S (S 5) m)) ∧ tab T S (S 5) g' 0 ∧ (∀ j, j < 64 → g' (384 + j) = nI 0) ∧ Fr a 3 μ μ'))) 6 0 0 10 [some (.ref a), some (.ref b), some (.ref c'), some (.int (nI (2 ^ T 7))), some (.int (uI i)), q5] [] μ1 := by
    intro i
    induction i with
    | zero =>
      intro f g q5 μ1 hi hp hf ht hz hF
      refine r_iload (pc := 10) X dX1_reckon_10 rfl ?_
      refine r_if_lt (pc := 12) X 78 dX1_reckon_12 (by decide) (fun _ => ?_) (fun h => absurd ((uI_lt0 (by omega)).mpr rfl) h)
      exact r_vret (pc := 78) X dX1_reckon_78 (⟨f, g, hp, fun m hm => hf m (by omega) hm, ht, hz, hF⟩)
    | succ i ih =>
      intro f g q5 μ1 hi hp hf ht hz hF
      have hT1 : ToldAt Γ μ1 b T := hT.kept (fun q h1 h2 => hF q (by omega))
      have hs1 : ScAt Γ μ1 c' (scV (T 0) S) (scU S) := hs.kept (fun q h1 h2 => hF q (by omega))
      obtain ⟨p0, p1, p2⟩ := hp
      refine r_iload (pc := 10) X dX1_reckon_10 rfl ?_
      refine r_if_lt (pc := 12) X 78 dX1_reckon_12 (by decide) (fun h => absurd ((uI_lt0 (by omega)).mp h) (by omega)) (fun _ => ?_)
      rw [uI_S]
      refine r_aload_n (pc := 15) X dX1_reckon_15 rfl ?_
      apply r_get (pc := 16) X f_X1_9 dX1_reckon_16
      · repeat (first | exact mu_self | assumption | refine (mu_ne (by omega)).trans ?_)
      · rfl
      refine r_iload (pc := 19) X dX1_reckon_19 rfl ?_
      refine r_aload_n (pc := 21) X dX1_reckon_21 rfl ?_
      refine r_aload_n (pc := 22) X dX1_reckon_22 rfl ?_
      refine r_iload (pc := 23) X dX1_reckon_23 rfl ?_
      refine c_i X (rS (pc := 25) X l_X1_24 (t1_fitting hT1 hs1 hI hS (m' := i) (by omega)) dX1_reckon_25 rfl rfl (Nat.le_of_ble_eq_true rfl) (by decide) (Nat.le_of_ble_eq_true rfl) (Nat.le_of_ble_eq_true rfl)) ?_
      rintro _ μ2 ⟨rfl, hμ2⟩
      subst hμ2
      apply r_iast (pc := 28) X dX1_reckon_28
      · repeat (first | exact mu_self | assumption | refine (mu_ne (by omega)).trans ?_)
      · omega
      · decide
      refine r_iconst (pc := 29) (v := nI 0) X dX1_reckon_29 (by decide) ?_
      refine r_istore (pc := 30) X dX1_reckon_30 (by decide) rfl ?_
      have inner : ∀ (N y : Nat) (g : Nat → Int32) (μ3 : MM), y + N = 2 ^ T 7 → PlanAt Γ μ3 a (upd f i (nI (fitM T S (S 5) i))) g → tab T S (S 5) g (i + 1) → (∀ y', y' < y → g (64 * i + y') = nI (plv T S (S 5) (6 - i) y')) → (∀ j, j < 64 → g (384 + j) = nI 0) → Fr a 3 μ μ3 →
          vV Γ p l e R s m args below meth c (vQ Γ s args below 0 0 (rv (fun μ' => ∃ f' g', PlanAt Γ μ' a f' g' ∧ (∀ m, m < 6 → f' m = nI (fitM T S (S 5) m)) ∧ tab T S (S 5) g' 0 ∧ (∀ j, j < 64 → g' (384 + j) = nI 0) ∧ Fr a 3 μ μ'))) 6 0 0 32 [some (.ref a), some (.ref b), some (.ref c'), some (.int (nI (2 ^ T 7))), some (.int (nI i)), some (.int (nI y))] [] μ3 := by
        intro N
        induction N with
        | zero =>
          intro y g μ3 hy hp3 ht3 hg3 hz3 hF3
          have hy2 : y = 2 ^ T 7 := by omega
          refine r_iload (pc := 32) X dX1_reckon_32 rfl ?_
          refine r_iload_n (pc := 34) X dX1_reckon_34 rfl ?_
          refine r_icmp_geN (pc := 35) X 72 dX1_reckon_35 (by decide) (by omega) (by omega) (fun _ => ?_) (fun h => absurd (show 2 ^ T 7 ≤ y by omega) h)
          refine r_iinc (pc := 72) (v := uI i) X dX1_reckon_72 rfl (iinc_u i) (by decide) rfl ?_
          refine r_goto (pc := 75) X 10 dX1_reckon_75 (by decide) ?_
          refine ih _ g _ _ (by omega) hp3 (fun m h1 h2 => ?_) (fun m y' h1 h2 h3 => ?_) hz3 hF3
          · unfold upd
            by_cases hm : m = i
            · rw [if_pos hm, hm]
            · rw [if_neg hm]; exact hf m (by omega) h2
          · by_cases hm : m = i
            · rw [hm]; exact hg3 y' (by omega)
            · exact ht3 m y' (by omega) h2 h3
        | succ N ihN =>
          intro y g μ3 hy hp3 ht3 hg3 hz3 hF3
          have hp3' := hp3
          obtain ⟨r0, r1, r2⟩ := hp3
          refine r_iload (pc := 32) X dX1_reckon_32 rfl ?_
          refine r_iload_n (pc := 34) X dX1_reckon_34 rfl ?_
          refine r_icmp_geN (pc := 35) X 72 dX1_reckon_35 (by decide) (by omega) (by omega) (fun h => absurd h (by omega)) (fun _ => ?_)
          refine r_iload (pc := 38) X dX1_reckon_38 rfl ?_
          refine r_bipush (pc := 40) (v := nI 64) X dX1_reckon_40 (by decide) ?_
          refine r_icmp_geN (pc := 42) X 72 dX1_reckon_42 (by decide) (by omega) (by omega) (fun h => absurd h (by omega)) (fun _ => ?_)
          refine r_aload_n (pc := 45) X dX1_reckon_45 rfl ?_
          apply r_get (pc := 46) X f_X1_15 dX1_reckon_46
          · repeat (first | exact mu_self | assumption | refine (mu_ne (by omega)).trans ?_)
          · rfl
          refine r_iload (pc := 49) X dX1_reckon_49 rfl ?_
          refine r_bipush (pc := 51) (v := nI 64) X dX1_reckon_51 (by decide) ?_
          first | refine r_imulN (pc := 53) X dX1_reckon_53 ?_ | refine r_imul (pc := 53) X dX1_reckon_53 ?_
          refine r_iload (pc := 54) X dX1_reckon_54 rfl ?_
          first | refine r_iaddN (pc := 56) X dX1_reckon_56 ?_ | refine r_iadd (pc := 56) X dX1_reckon_56 ?_
          refine r_aload_n (pc := 57) X dX1_reckon_57 rfl ?_
          refine r_iload (pc := 58) X dX1_reckon_58 rfl ?_
          refine r_iload (pc := 60) X dX1_reckon_60 rfl ?_
          refine c_i X (rV (pc := 62) (ci := 1) X l_X1_28 (t1_bestFrom (T := T) (S := S) (G := S 5) hp3' h7 (m' := i) (x := y) (by omega) (by omega) (by unfold upd; rw [if_pos rfl]) ht3) dX1_reckon_62 (by repeat (first | exact mu_self | assumption | refine (mu_ne (by omega)).trans ?_)) rfl rfl rfl (Nat.le_of_ble_eq_true rfl) (by decide) (Nat.le_of_ble_eq_true rfl) (Nat.le_of_ble_eq_true rfl)) ?_
          rintro _ μ4 ⟨rfl, hμ4⟩
          subst hμ4
          apply r_iast (pc := 65) X dX1_reckon_65
          · repeat (first | exact mu_self | assumption | refine (mu_ne (by omega)).trans ?_)
          · omega
          · decide
          refine r_iincN (pc := 66) (b := 1) X dX1_reckon_66 rfl (by decide) rfl ?_
          refine r_goto (pc := 69) X 32 dX1_reckon_69 (by decide) ?_
          refine ihN (y + 1) (upd g (i * 64 + y) (nI (plv T S (S 5) (6 - i) y))) _ (by omega) ⟨(by repeat (first | exact mu_self | assumption | refine (mu_ne (by omega)).trans ?_)), (by repeat (first | exact mu_self | assumption | refine (mu_ne (by omega)).trans ?_)), mu_self⟩ (fun m y' h1 h2 h3 => ?_) (fun y' h1 => ?_) (fun j hj => ?_) (fun q hq => (mu_ne (by omega)).trans (hF3 q hq))
          · unfold upd
            rw [if_neg (by omega)]
            exact ht3 m y' h1 h2 h3
          · unfold upd
            by_cases hyy : y' = y
            · subst hyy; rw [if_pos (by omega)]
            · rw [if_neg (by omega)]; exact hg3 y' (by omega)
          · unfold upd
            rw [if_neg (by omega)]
            exact hz3 j hj
      exact inner (2 ^ T 7) 0 g _ (by omega) ⟨(by repeat (first | exact mu_self | assumption | refine (mu_ne (by omega)).trans ?_)), mu_self, (by repeat (first | exact mu_self | assumption | refine (mu_ne (by omega)).trans ?_))⟩ ht (fun y' h => by omega) hz (fun q hq => (mu_ne (by omega)).trans (hF q hq))
  exact key 6 f g none μ (by omega) h (fun m h1 h2 => by omega) (fun m y h1 h2 h3 => by
    have hm : m = 6 := by omega
    subst hm
    exact hz y (by omega)) hz Fr.rf
theorem t1_firstBest {m' x : Nat} {G : Nat} {f g : Nat → Int32} (h : PlanAt Γ μ a f g) (h7 : T 7 ≤ 6) (hm : m' < 6) (hx : x < 2 ^ T 7) (hf : f m' = nI (fitM T S G m')) (ht : tab T S G g 0) : CT Γ l 1 sz 0 0 mX1_firstBest [.ref a, .int (nI m'), .int (nI x)] μ (ri (fun r μ' => r = uI (fstF (fbP T S G m' x) 6 0) ∧ μ' = μ)) := by
  obtain ⟨g0, g1, g2⟩ := h
  have hx6 : x < 64 := Nat.lt_of_lt_of_le hx (pow6 h7)
  have hg : ∀ y, y < 2 ^ T 7 → g ((m' + 1) * 64 + y) = nI (plv T S G (5 - m') y) := fun y hy => by
    have := ht (m' + 1) y (by omega) (by omega) hy
    rw [show 6 - (m' + 1) = 5 - m' by omega] at this
    rw [show (m' + 1) * 64 + y = 64 * (m' + 1) + y by omega]
    exact this
  have hg0 : g (m' * 64 + x) = nI (plv T S G (6 - m') x) := by
    rw [show m' * 64 + x = 64 * m' + x by omega]
    exact ht m' x (by omega) (by omega) hx
  have hfl : fitM T S G m' < 64 := mkb_lt64 (Nat.le_refl 6) _
  have hp0 := plv_le T S G (6 - m') x
  refine CT.go RX1 rfl "firstBest" rfl [some (.ref a), some (.int (nI m')), some (.int (nI x)), none, none] rfl (by decide) (Nat.le_of_ble_eq_true rfl) ?_
  intro p e R s m args below meth c X hsz
  refine r_aload_n (pc := 0) X dX1_firstBest_0 rfl ?_
  apply r_get (pc := 1) X f_X1_9 dX1_firstBest_1
  · repeat (first | exact mu_self | assumption | refine (mu_ne (by omega)).trans ?_)
  · rfl
  refine r_iload_n (pc := 4) X dX1_firstBest_4 rfl ?_
  apply r_iald (pc := 5) X dX1_firstBest_5
  · repeat (first | exact mu_self | assumption | refine (mu_ne (by omega)).trans ?_)
  · omega
  · decide
  refine r_iload_n (pc := 6) X dX1_firstBest_6 rfl ?_
  refine r_iconst (pc := 7) (v := -1) X dX1_firstBest_7 (by decide) ?_
  refine r_ixor (pc := 8) X dX1_firstBest_8 ?_
  refine r_iand (pc := 9) X dX1_firstBest_9 ?_
  rw [hf, nI_andn _ hfl _ hx6]
  obtain ⟨op, hop⟩ : ∃ op, op = fitM T S G m' &&& (x ^^^ 63) := ⟨_, rfl⟩
  have hopl : op < 64 := by rw [hop]; exact andn_lt hfl
  have hopt : ∀ s, s < 6 → op.testBit s = (fitG T S G m' s && !x.testBit s) := fun s hs => by rw [hop]; exact open_test hs
  rw [← hop]
  refine r_istore_n (pc := 10) X dX1_firstBest_10 (by decide) rfl ?_
  refine r_iconst (pc := 11) (v := nI 0) X dX1_firstBest_11 (by decide) ?_
  refine r_istore (pc := 12) X dX1_firstBest_12 (by decide) rfl ?_
  have key : ∀ (N i : Nat), i + N = 6 → vV Γ p l e R s m args below meth c (vQ Γ s args below 0 0 (ri (fun r μ' => r = uI (fstF (fbP T S G m' x) N i) ∧ μ' = μ))) 5 0 0 14 [some (.ref a), some (.int (nI m')), some (.int (nI x)), some (.int (nI op)), some (.int (nI i))] [] μ := by
    intro N
    induction N with
    | zero =>
      intro i hi
      have hi2 : i = 6 := by omega
      subst hi2
      refine r_iload (pc := 14) X dX1_firstBest_14 rfl ?_
      refine r_bipush (pc := 16) (v := nI 6) X dX1_firstBest_16 (by decide) ?_
      refine r_icmp_geN (pc := 18) X 73 dX1_firstBest_18 (by decide) (by omega) (by omega) (fun _ => ?_) (fun h => absurd (Nat.le_refl _) h)
      refine r_iconst (pc := 73) (v := -1) X dX1_firstBest_73 (by decide) ?_
      exact r_iret (pc := 74) X dX1_firstBest_74 (⟨uI_0.symm, rfl⟩)
    | succ N ih =>
      intro i hi
      have no : fbP T S G m' x i = false → vV Γ p l e R s m args below meth c (vQ Γ s args below 0 0 (ri (fun r μ' => r = uI (fstF (fbP T S G m' x) (N + 1) i) ∧ μ' = μ))) 5 0 0 67 [some (.ref a), some (.int (nI m')), some (.int (nI x)), some (.int (nI op)), some (.int (nI i))] [] μ := by
        intro hq
        have e : fstF (fbP T S G m' x) (N + 1) i = fstF (fbP T S G m' x) N (i + 1) := by
          show (if fbP T S G m' x i = true then i + 1 else fstF (fbP T S G m' x) N (i + 1)) = _
          rw [hq]; rfl
        rw [e]
        refine r_iincN (pc := 67) (b := 1) X dX1_firstBest_67 rfl (by decide) rfl ?_
        refine r_goto (pc := 70) X 14 dX1_firstBest_70 (by decide) ?_
        exact ih (i + 1) (by omega)
      refine r_iload (pc := 14) X dX1_firstBest_14 rfl ?_
      refine r_bipush (pc := 16) (v := nI 6) X dX1_firstBest_16 (by decide) ?_
      refine r_icmp_geN (pc := 18) X 73 dX1_firstBest_18 (by decide) (by omega) (by omega) (fun h => absurd h (by omega)) (fun _ => ?_)
      refine r_iload_n (pc := 21) X dX1_firstBest_21 rfl ?_
      refine r_iload (pc := 22) X dX1_firstBest_22 rfl ?_
      refine c_i X (rSN (pc := 24) X l_X1_37 (t6_hasBit (b := op) (k := i) (by omega) (by omega)) dX1_firstBest_24 rfl rfl (Nat.le_of_ble_eq_true rfl) (by decide) (Nat.le_of_ble_eq_true rfl) (Nat.le_of_ble_eq_true rfl)) ?_
      rintro _ μq ⟨rfl, hμq⟩
      rw [hμq]
      clear hμq μq
      rw [hopt i (by omega)]
      first | refine r_if_eqZ (pc := 27) X 67 dX1_firstBest_27 (by decide) (fun h2 => ?_) (fun h2 => ?_) | refine r_if_eqN (pc := 27) X 67 dX1_firstBest_27 (by decide) (by omega) (fun h2 => ?_) (fun h2 => ?_) | refine r_if_eq (pc := 27) X 67 dX1_firstBest_27 (by decide) (fun h2 => ?_) (fun h2 => ?_)
      · exact no (by unfold fbP; rw [h2]; rfl)
      · have hi7 : i < T 7 := by
          simp only [Bool.and_eq_true] at h2
          exact fit_s7 h2.1
        have hxo := or_shl_lt hx hi7
        have hxo6 : x ||| 1 <<< i < 64 := Nat.lt_of_lt_of_le hxo (pow6 h7)
        have hp := plv_le T S G (5 - m') (x ||| 1 <<< i)
        refine r_iconst (pc := 30) (v := nI 1) X dX1_firstBest_30 (by decide) ?_
        refine r_aload_n (pc := 31) X dX1_firstBest_31 rfl ?_
        apply r_get (pc := 32) X f_X1_15 dX1_firstBest_32
        · repeat (first | exact mu_self | assumption | refine (mu_ne (by omega)).trans ?_)
        · rfl
        refine r_iload_n (pc := 35) X dX1_firstBest_35 rfl ?_
        refine r_iconst (pc := 36) (v := nI 1) X dX1_firstBest_36 (by decide) ?_
        first | refine r_iaddN (pc := 37) X dX1_firstBest_37 ?_ | refine r_iadd (pc := 37) X dX1_firstBest_37 ?_
        refine r_bipush (pc := 38) (v := nI 64) X dX1_firstBest_38 (by decide) ?_
        first | refine r_imulN (pc := 40) X dX1_firstBest_40 ?_ | refine r_imul (pc := 40) X dX1_firstBest_40 ?_
        refine r_iload_n (pc := 41) X dX1_firstBest_41 rfl ?_
        refine r_iconst (pc := 42) (v := nI 1) X dX1_firstBest_42 (by decide) ?_
        refine r_iload (pc := 43) X dX1_firstBest_43 rfl ?_
        first | refine r_ishlN (pc := 45) X dX1_firstBest_45 (by omega) ?_ | refine r_ishl (pc := 45) X dX1_firstBest_45 ?_
        first | refine r_iorN (pc := 46) X dX1_firstBest_46 ?_ | refine r_ior (pc := 46) X dX1_firstBest_46 ?_
        first | refine r_iaddN (pc := 47) X dX1_firstBest_47 ?_ | refine r_iadd (pc := 47) X dX1_firstBest_47 ?_
        apply r_iald (pc := 48) X dX1_firstBest_48
        · repeat (first | exact mu_self | assumption | refine (mu_ne (by omega)).trans ?_)
        · omega
        · decide
        rw [hg _ hxo]
        first | refine r_iaddN (pc := 49) X dX1_firstBest_49 ?_ | refine r_iadd (pc := 49) X dX1_firstBest_49 ?_
        refine r_aload_n (pc := 50) X dX1_firstBest_50 rfl ?_
        apply r_get (pc := 51) X f_X1_15 dX1_firstBest_51
        · repeat (first | exact mu_self | assumption | refine (mu_ne (by omega)).trans ?_)
        · rfl
        refine r_iload_n (pc := 54) X dX1_firstBest_54 rfl ?_
        refine r_bipush (pc := 55) (v := nI 64) X dX1_firstBest_55 (by decide) ?_
        first | refine r_imulN (pc := 57) X dX1_firstBest_57 ?_ | refine r_imul (pc := 57) X dX1_firstBest_57 ?_
        refine r_iload_n (pc := 58) X dX1_firstBest_58 rfl ?_
        first | refine r_iaddN (pc := 59) X dX1_firstBest_59 ?_ | refine r_iadd (pc := 59) X dX1_firstBest_59 ?_
        apply r_iald (pc := 60) X dX1_firstBest_60
        · repeat (first | exact mu_self | assumption | refine (mu_ne (by omega)).trans ?_)
        · omega
        · decide
        rw [hg0]
        first | refine r_icmp_neN (pc := 61) X 67 dX1_firstBest_61 (by decide) (by omega) (by omega) (fun h3 => ?_) (fun h3 => ?_) | refine r_icmp_ne (pc := 61) X 67 dX1_firstBest_61 (by decide) (fun h3 => ?_) (fun h3 => ?_)
        · exact no (by unfold fbP; rw [h2, decide_eq_false h3]; rfl)
        · refine r_iload (pc := 64) X dX1_firstBest_64 rfl ?_
          have e : fstF (fbP T S G m' x) (N + 1) i = i + 1 := by
            show (if fbP T S G m' x i = true then i + 1 else fstF (fbP T S G m' x) N (i + 1)) = _
            rw [if_pos (by unfold fbP; rw [h2, decide_eq_true h3]; rfl)]
          exact r_iret (pc := 66) X dX1_firstBest_66 (⟨by rw [e, uI_S], rfl⟩)
  exact key 6 0 (by omega)
theorem t1_sheepOf {mm : Nat} {G : Nat} {f g : Nat → Int32} (h : PlanAt Γ μ a f g) (h7 : T 7 ≤ 6) (hm : mm < 6) (hf : ∀ m, m < 6 → f m = nI (fitM T S G m)) (ht : tab T S G g 0) : CT Γ l 2 sz 0 0 mX1_sheepOf [.ref a, .int (nI mm)] μ (ri (fun r μ' => r = uI (fstF (fbP T S G mm (tkN T S G mm)) 6 0) ∧ μ' = μ)) := by
  have hh := h
  have g0 := h.1
  refine CT.go RX1 rfl "sheepOf" rfl [some (.ref a), some (.int (nI mm)), none, none, none] rfl (by decide) (Nat.le_of_ble_eq_true rfl) ?_
  intro p e R s m args below meth c X hsz
  refine r_iconst (pc := 0) (v := nI 0) X dX1_sheepOf_0 (by decide) ?_
  refine r_istore_n (pc := 1) X dX1_sheepOf_1 (by decide) rfl ?_
  refine r_iconst (pc := 2) (v := -1) X dX1_sheepOf_2 (by decide) ?_
  refine r_istore_n (pc := 3) X dX1_sheepOf_3 (by decide) rfl ?_
  refine r_iconst (pc := 4) (v := nI 0) X dX1_sheepOf_4 (by decide) ?_
  refine r_istore (pc := 5) X dX1_sheepOf_5 (by decide) rfl ?_
  have key : ∀ (N i : Nat) (v3 : Int32), i + N = mm + 1 → (i = mm + 1 → v3 = uI (fstF (fbP T S G mm (tkN T S G mm)) 6 0)) → vV Γ p l e R s m args below meth c (vQ Γ s args below 0 0 (ri (fun r μ' => r = uI (fstF (fbP T S G mm (tkN T S G mm)) 6 0) ∧ μ' = μ))) 5 0 0 7 [some (.ref (a)), some (.int (nI (mm))), some (.int (nI (tkN T S G i))), some (.int (v3)), some (.int (nI (i)))] [] (μ) := by
    intro N
    induction N with
    | zero =>
      intro i v3 hi hv
      have hi2 : i = mm + 1 := by omega
      rw [hv hi2, hi2]
      refine r_iload (pc := 7) X dX1_sheepOf_7 rfl ?_
      refine r_iload_n (pc := 9) X dX1_sheepOf_9 rfl ?_
      refine r_icmp_gtN (pc := 10) X 45 dX1_sheepOf_10 (by decide) (by omega) (by omega) (fun _ => ?_) (fun h => absurd (show mm < mm + 1 by omega) h)
      refine r_iload_n (pc := 45) X dX1_sheepOf_45 rfl ?_
      exact r_iret (pc := 46) X dX1_sheepOf_46 (⟨rfl, rfl⟩)
    | succ N ih =>
      intro i v3 hi hv
      have htl := tkN_lt T S G i
      have hfl := fstF_le (fbP T S G i (tkN T S G i)) 6 0
      refine r_iload (pc := 7) X dX1_sheepOf_7 rfl ?_
      refine r_iload_n (pc := 9) X dX1_sheepOf_9 rfl ?_
      refine r_icmp_gtN (pc := 10) X 45 dX1_sheepOf_10 (by decide) (by omega) (by omega) (fun h => absurd h (by omega)) (fun _ => ?_)
      refine r_iload (pc := 13) X dX1_sheepOf_13 rfl ?_
      refine r_bipush (pc := 15) (v := nI 6) X dX1_sheepOf_15 (by decide) ?_
      refine r_icmp_geN (pc := 17) X 45 dX1_sheepOf_17 (by decide) (by omega) (by omega) (fun h => absurd h (by omega)) (fun _ => ?_)
      refine r_aload_n (pc := 20) X dX1_sheepOf_20 rfl ?_
      refine r_iload (pc := 21) X dX1_sheepOf_21 rfl ?_
      refine r_iload_n (pc := 23) X dX1_sheepOf_23 rfl ?_
      refine c_i X (rV (pc := 24) (ci := 1) X l_X1_52 (t1_firstBest hh h7 (m' := i) (x := tkN T S G i) (by omega) htl (hf i (by omega)) ht) dX1_sheepOf_24 (by repeat (first | exact mu_self | assumption | refine (mu_ne (by omega)).trans ?_)) rfl rfl rfl (Nat.le_of_ble_eq_true rfl) (by decide) (Nat.le_of_ble_eq_true rfl) (Nat.le_of_ble_eq_true rfl)) ?_
      rintro _ μq ⟨rfl, hμq⟩
      rw [hμq]
      clear hμq μq
      refine r_istore_n (pc := 27) X dX1_sheepOf_27 (by decide) rfl ?_
      refine r_iload_n (pc := 28) X dX1_sheepOf_28 rfl ?_
      refine r_iconst (pc := 29) (v := -1) X dX1_sheepOf_29 (by decide) ?_
      refine r_icmp_eq (pc := 30) X 39 dX1_sheepOf_30 (by decide) (fun h2 => ?_) (fun h2 => ?_)
      · have h3 : fstF (fbP T S G i (tkN T S G i)) 6 0 = 0 := (uI_eq (by omega) (by omega)).mp (by rw [h2, uI_0])
        have e : tkN T S G (i + 1) = tkN T S G i := by
          show (if fstF (fbP T S G i (tkN T S G i)) 6 0 = 0 then _ else _) = _
          rw [if_pos h3]
        refine r_iincN (pc := 39) (b := 1) X dX1_sheepOf_39 rfl (by decide) rfl ?_
        refine r_goto (pc := 42) X 7 dX1_sheepOf_42 (by decide) ?_
        have hq := ih (i + 1) (uI (fstF (fbP T S G i (tkN T S G i)) 6 0)) (by omega) (fun q => by rw [show i = mm by omega])
        rw [e] at hq
        exact hq
      · have h3 : fstF (fbP T S G i (tkN T S G i)) 6 0 ≠ 0 := fun q => h2 (by rw [q, uI_0])
        obtain ⟨w, hw⟩ : ∃ w, fstF (fbP T S G i (tkN T S G i)) 6 0 = w + 1 := ⟨_, (Nat.succ_pred h3).symm⟩
        have e : tkN T S G (i + 1) = tkN T S G i ||| 1 <<< w := by
          show (if fstF (fbP T S G i (tkN T S G i)) 6 0 = 0 then _ else tkN T S G i ||| 1 <<< (fstF (fbP T S G i (tkN T S G i)) 6 0 - 1)) = _
          rw [if_neg h3, hw]
          rfl
        rw [hw, uI_S]
        refine r_iload_n (pc := 33) X dX1_sheepOf_33 rfl ?_
        refine r_iconst (pc := 34) (v := nI 1) X dX1_sheepOf_34 (by decide) ?_
        refine r_iload_n (pc := 35) X dX1_sheepOf_35 rfl ?_
        first | refine r_ishlN (pc := 36) X dX1_sheepOf_36 (by omega) ?_ | refine r_ishl (pc := 36) X dX1_sheepOf_36 ?_
        first | refine r_iorN (pc := 37) X dX1_sheepOf_37 ?_ | refine r_ior (pc := 37) X dX1_sheepOf_37 ?_
        refine r_istore_n (pc := 38) X dX1_sheepOf_38 (by decide) rfl ?_
        refine r_iincN (pc := 39) (b := 1) X dX1_sheepOf_39 rfl (by decide) rfl ?_
        refine r_goto (pc := 42) X 7 dX1_sheepOf_42 (by decide) ?_
        rw [← e]
        refine ih (i + 1) _ (by omega) (fun q => ?_)
        have : i = mm := by omega
        rw [← this, hw, uI_S]
  exact key (mm + 1) 0 (-1) (by omega) (fun q => by omega)
theorem t1_bestFelt {th kk : Nat} {G : Nat} {f g : Nat → Int32} (h : PlanAt Γ μ a f g) (h7 : T 7 ≤ 6) (hth : th < 2 ^ T 7) (hk : kk ≤ 6) (ht : tab T S G g 0) : CT Γ l 1 sz 0 0 mX1_bestFelt [.ref a, .int (nI th), .int (nI kk)] μ (ri (fun r μ' => r = nI (flS (flOk th (min kk (popc th))) (plv T S G 6) 64).1 ∧ μ' = μ)) := by
  obtain ⟨g0, g1, g2⟩ := h
  have ht6 : th < 64 := Nat.lt_of_lt_of_le hth (pow6 h7)
  have hpc := popc_le th ht6
  refine CT.go RX1 rfl "bestFelt" rfl [some (.ref a), some (.int (nI th)), some (.int (nI kk)), none, none, none, none] rfl (by decide) (Nat.le_of_ble_eq_true rfl) ?_
  intro p e R s m args below meth c X hsz
  refine r_iload_n (pc := 0) X dX1_bestFelt_0 rfl ?_
  refine r_iload_n (pc := 1) X dX1_bestFelt_1 rfl ?_
  refine c_i X (rS (pc := 2) X l_X1_55 (tJ_bitCount ht6) dX1_bestFelt_2 rfl rfl (Nat.le_of_ble_eq_true rfl) (by decide) (Nat.le_of_ble_eq_true rfl) (Nat.le_of_ble_eq_true rfl)) ?_
  rintro _ μq ⟨rfl, hμq⟩
  rw [hμq]
  clear hμq μq
  refine r_min (pc := 5) X l_X1_61 dX1_bestFelt_5 (by decide) (Nat.le_of_ble_eq_true rfl) (by decide) (by decide) ?_
  rw [min_nI (by omega) (by omega)]
  refine r_istore_n (pc := 8) X dX1_bestFelt_8 (by decide) rfl ?_
  refine r_iconst (pc := 9) (v := nI 0) X dX1_bestFelt_9 (by decide) ?_
  refine r_istore (pc := 10) X dX1_bestFelt_10 (by decide) rfl ?_
  refine r_bipush (pc := 12) (v := nI 7) X dX1_bestFelt_12 (by decide) ?_
  refine r_istore (pc := 14) X dX1_bestFelt_14 (by decide) rfl ?_
  refine r_iconst (pc := 16) (v := nI 0) X dX1_bestFelt_16 (by decide) ?_
  refine r_istore (pc := 17) X dX1_bestFelt_17 (by decide) rfl ?_
  have key : ∀ (N i : Nat), i + N = 64 → vV Γ p l e R s m args below meth c (vQ Γ s args below 0 0 (ri (fun r μ' => r = nI (flS (flOk th (min kk (popc th))) (plv T S G 6) 64).1 ∧ μ' = μ))) 7 0 0 19 [some (.ref (a)), some (.int (nI (th))), some (.int (nI (kk))), some (.int (nI (min kk (popc th)))), some (.int (nI ((flS (flOk th (min kk (popc th))) (plv T S G 6) i).1))), some (.int (nI ((flS (flOk th (min kk (popc th))) (plv T S G 6) i).2))), some (.int (nI (i)))] [] (μ) := by
    intro N
    induction N with
    | zero =>
      intro i hi
      have hi2 : i = 64 := by omega
      subst hi2
      refine r_iload (pc := 19) X dX1_bestFelt_19 rfl ?_
      refine r_bipush (pc := 21) (v := nI 64) X dX1_bestFelt_21 (by decide) ?_
      refine r_icmp_geN (pc := 23) X 75 dX1_bestFelt_23 (by decide) (by omega) (by omega) (fun _ => ?_) (fun h => absurd (Nat.le_refl _) h)
      refine r_iload (pc := 75) X dX1_bestFelt_75 rfl ?_
      exact r_iret (pc := 77) X dX1_bestFelt_77 (⟨rfl, rfl⟩)
    | succ N ih =>
      intro i hi
      obtain ⟨hb1, hb2⟩ := flS_b (ok := flOk th (min kk (popc th))) (v := plv T S G 6) i (by omega)
      have hpi := popc_le i (by omega)
      have no : (flOk th (min kk (popc th)) i && decide (plv T S G 6 i < (flS (flOk th (min kk (popc th))) (plv T S G 6) i).2)) = false → vV Γ p l e R s m args below meth c (vQ Γ s args below 0 0 (ri (fun r μ' => r = nI (flS (flOk th (min kk (popc th))) (plv T S G 6) 64).1 ∧ μ' = μ))) 7 0 0 69 [some (.ref (a)), some (.int (nI (th))), some (.int (nI (kk))), some (.int (nI (min kk (popc th)))), some (.int (nI ((flS (flOk th (min kk (popc th))) (plv T S G 6) i).1))), some (.int (nI ((flS (flOk th (min kk (popc th))) (plv T S G 6) i).2))), some (.int (nI (i)))] [] (μ) := by
        intro hq
        have e : flS (flOk th (min kk (popc th))) (plv T S G 6) (i + 1) = flS (flOk th (min kk (popc th))) (plv T S G 6) i := by
          show (if (flOk th (min kk (popc th)) i && decide (plv T S G 6 i < (flS (flOk th (min kk (popc th))) (plv T S G 6) i).2)) = true then _ else _) = _
          rw [hq]; rfl
        have := ih (i + 1) (by omega)
        rw [e] at this
        refine r_iincN (pc := 69) (b := 1) X dX1_bestFelt_69 rfl (by decide) rfl ?_
        refine r_goto (pc := 72) X 19 dX1_bestFelt_72 (by decide) ?_
        exact this
      have hia : i &&& (th ^^^ 63) ≤ i := Nat.and_le_left
      refine r_iload (pc := 19) X dX1_bestFelt_19 rfl ?_
      refine r_bipush (pc := 21) (v := nI 64) X dX1_bestFelt_21 (by decide) ?_
      refine r_icmp_geN (pc := 23) X 75 dX1_bestFelt_23 (by decide) (by omega) (by omega) (fun h => absurd h (by omega)) (fun _ => ?_)
      refine r_iload (pc := 26) X dX1_bestFelt_26 rfl ?_
      refine r_iload_n (pc := 28) X dX1_bestFelt_28 rfl ?_
      refine r_iconst (pc := 29) (v := -1) X dX1_bestFelt_29 (by decide) ?_
      refine r_ixor (pc := 30) X dX1_bestFelt_30 ?_
      refine r_iand (pc := 31) X dX1_bestFelt_31 ?_
      rw [nI_andn _ (by omega) _ ht6]
      first | refine r_if_neZ (pc := 32) X 69 dX1_bestFelt_32 (by decide) (fun h1 => ?_) (fun h1 => ?_) | refine r_if_neN (pc := 32) X 69 dX1_bestFelt_32 (by decide) (by omega) (fun h1 => ?_) (fun h1 => ?_) | refine r_if_ne (pc := 32) X 69 dX1_bestFelt_32 (by decide) (fun h1 => ?_) (fun h1 => ?_)
      · exact no (by unfold flOk; simp [h1])
      · have hit : i ≤ th := sub_le i (by omega) th ht6 h1
        have hgi : g i = nI (plv T S G 6 i) := by
          have := ht 0 i (by omega) (by omega) (by omega)
          rw [show 64 * 0 + i = i by omega] at this
          exact this
        have hpv := plv_le T S G 6 i
        refine r_iload (pc := 35) X dX1_bestFelt_35 rfl ?_
        refine c_i X (rS (pc := 37) X l_X1_55 (tJ_bitCount (x := i) (by omega)) dX1_bestFelt_37 rfl rfl (Nat.le_of_ble_eq_true rfl) (by decide) (Nat.le_of_ble_eq_true rfl) (Nat.le_of_ble_eq_true rfl)) ?_
        rintro _ μq ⟨rfl, hμq⟩
        rw [hμq]
        clear hμq μq
        refine r_iload_n (pc := 40) X dX1_bestFelt_40 rfl ?_
        first | refine r_icmp_neN (pc := 41) X 69 dX1_bestFelt_41 (by decide) (by omega) (by omega) (fun h2 => ?_) (fun h2 => ?_) | refine r_icmp_ne (pc := 41) X 69 dX1_bestFelt_41 (by decide) (fun h2 => ?_) (fun h2 => ?_)
        · exact no (by unfold flOk; simp [h2])
        · refine r_aload_n (pc := 44) X dX1_bestFelt_44 rfl ?_
          apply r_get (pc := 45) X f_X1_15 dX1_bestFelt_45
          · repeat (first | exact mu_self | assumption | refine (mu_ne (by omega)).trans ?_)
          · rfl
          refine r_iload (pc := 48) X dX1_bestFelt_48 rfl ?_
          apply r_iald (pc := 50) X dX1_bestFelt_50
          · repeat (first | exact mu_self | assumption | refine (mu_ne (by omega)).trans ?_)
          · omega
          · decide
          rw [hgi]
          refine r_iload (pc := 51) X dX1_bestFelt_51 rfl ?_
          first | refine r_icmp_geN (pc := 53) X 69 dX1_bestFelt_53 (by decide) (by omega) (by omega) (fun h3 => ?_) (fun h3 => ?_) | refine r_icmp_ge (pc := 53) X 69 dX1_bestFelt_53 (by decide) (fun h3 => ?_) (fun h3 => ?_)
          · exact no (by rw [decide_eq_false (by omega)]; simp)
          · refine r_aload_n (pc := 56) X dX1_bestFelt_56 rfl ?_
            apply r_get (pc := 57) X f_X1_15 dX1_bestFelt_57
            · repeat (first | exact mu_self | assumption | refine (mu_ne (by omega)).trans ?_)
            · rfl
            refine r_iload (pc := 60) X dX1_bestFelt_60 rfl ?_
            apply r_iald (pc := 62) X dX1_bestFelt_62
            · repeat (first | exact mu_self | assumption | refine (mu_ne (by omega)).trans ?_)
            · omega
            · decide
            rw [hgi]
            have e : flS (flOk th (min kk (popc th))) (plv T S G 6) (i + 1) = (i, plv T S G 6 i) := by
              show (if (flOk th (min kk (popc th)) i && decide (plv T S G 6 i < (flS (flOk th (min kk (popc th))) (plv T S G 6) i).2)) = true then _ else _) = _
              rw [if_pos (by rw [decide_eq_true (by omega)]; unfold flOk; simp [h1, h2])]
            have := ih (i + 1) (by omega)
            rw [e] at this
            refine r_istore (pc := 63) X dX1_bestFelt_63 (by decide) rfl ?_
            refine r_iload (pc := 65) X dX1_bestFelt_65 rfl ?_
            refine r_istore (pc := 67) X dX1_bestFelt_67 (by decide) rfl ?_
            refine r_iincN (pc := 69) (b := 1) X dX1_bestFelt_69 rfl (by decide) rfl ?_
            refine r_goto (pc := 72) X 19 dX1_bestFelt_72 (by decide) ?_
            exact this
  exact key 64 0 (by omega)
end S19
