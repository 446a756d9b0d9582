/-! ===== what the Statement gives of the start, as the worlds want it ===== -/
abbrev F0_1 : List Cond := flatC (Jvm.Cond.and given_1 narrow_1)
theorem e_OVER : ∀ j : Nat, j < 5 → Cond.eq (.elem (.static "NobodyCave" "OVER" "[I") (.int (Int32.ofNat j))) (.int ((stV 0).getD j 0)) ∈ F0_1 := by decide +kernel
theorem e_LEAST : ∀ j : Nat, j < 11 → Cond.eq (.elem (.static "NobodyCave" "LEAST" "[I") (.int (Int32.ofNat j))) (.int ((stV 1).getD j 0)) ∈ F0_1 := by decide +kernel
theorem e_MOST : ∀ j : Nat, j < 11 → Cond.eq (.elem (.static "NobodyCave" "MOST" "[I") (.int (Int32.ofNat j))) (.int ((stV 2).getD j 0)) ∈ F0_1 := by decide +kernel
theorem e_st : (Cond.arrayOf (.static "NobodyCave" "OVER" "[I") .int ∈ F0_1 ∧ Cond.arrayOf (.static "NobodyCave" "LEAST" "[I") .int ∈ F0_1 ∧ Cond.arrayOf (.static "NobodyCave" "MOST" "[I") .int ∈ F0_1) ∧ Cond.eq (.length (.static "NobodyCave" "OVER" "[I")) (.int (Int32.ofNat 5)) ∈ F0_1 ∧ Cond.eq (.length (.static "NobodyCave" "LEAST" "[I")) (.int (Int32.ofNat 11)) ∈ F0_1 ∧ Cond.eq (.length (.static "NobodyCave" "MOST" "[I")) (.int (Int32.ofNat 11)) ∈ F0_1 := by decide +kernel
abbrev tmS (i : Nat) : Term := .string "NobodyCave$Text" (strI i)
theorem e_exa : ∀ i : Nat, i < 11 → Cond.exactly (tmS i) "java/lang/String" ∈ F0_1 := by decide +kernel
theorem e_cod : ∀ i : Nat, i < 11 → Cond.eq (.field (tmS i) "java/lang/String" "coder" "B") (.int 0) ∈ F0_1 := by decide +kernel
theorem e_arr : ∀ i : Nat, i < 11 → Cond.arrayOf (.field (tmS i) "java/lang/String" "value" "[B") .byte ∈ F0_1 := by decide +kernel
theorem e_len : ∀ i : Nat, i < 11 → Cond.eq (.length (.field (tmS i) "java/lang/String" "value" "[B")) (.int (Int32.ofNat (strL.getD i 0))) ∈ F0_1 := by decide +kernel
theorem e_byt : ∀ i : Nat, i < 11 → ∀ j : Nat, j < strL.getD i 0 → Cond.eq (.elem (.field (tmS i) "java/lang/String" "value" "[B") (.int (Int32.ofNat j))) (.int ((strB.getD i []).getD j 0)) ∈ F0_1 := by decide +kernel
theorem e_neq : ∀ i : Nat, i < 11 → ∀ j : Nat, j < 11 → i ≠ j → Cond.not (Cond.eq (tmS i) (tmS j)) ∈ F0_1 ∨ Cond.not (Cond.eq (tmS j) (tmS i)) ∈ F0_1 := by decide +kernel
theorem e_jdk : Cond.eq (.static "java/lang/String" "COMPACT_STRINGS" "Z") (.int 1) ∈ F0_1 ∧ Cond.isRef (.static "jdk/internal/util/Preconditions" "SIOOBE_FORMATTER" "Ljava/util/function/BiFunction;") ∈ F0_1 := by decide +kernel
theorem tb_at (i : Nat) {w : Cond} (h : lw_tbl[i]? = some w) : w ∈ lw_tbl := List.mem_of_getElem? h
theorem tb_str : ∀ i : Nat, i < 11 → lw_tbl[331 + i]? = some (Cond.stringRef "NobodyCave$Text" (strI i) (strT i)) := by decide +kernel
theorem tb_NW : ∀ w ∈ NW, w ∈ lw_tbl := by
  unfold NW
  simp only [List.forall_mem_cons]
  exact ⟨tb_at 59 (by decide +kernel), tb_at 144 (by decide +kernel), tb_at 199 (by decide +kernel), tb_at 213 (by decide +kernel), tb_at 227 (by decide +kernel), tb_at 249 (by decide +kernel), tb_at 402 (by decide +kernel), tb_at 404 (by decide +kernel), tb_at 406 (by decide +kernel), tb_at 441 (by decide +kernel), tb_at 479 (by decide +kernel), tb_at 518 (by decide +kernel), tb_at 584 (by decide +kernel), tb_at 611 (by decide +kernel), tb_at 661 (by decide +kernel), fun _ h => absurd h List.not_mem_nil⟩
theorem nw_on {w : Cond} (h : w ∈ NW) : w.onTables = true := by
  rcases NW_kind w h with ⟨a, i, y, hh, rfl⟩ | ⟨a, i, b, n, d, hh, rfl⟩ <;> rfl
theorem gg_start {p : Program} {s : State} {m : MethodId} {meth : Method} {c : Code} {b L : Nat} {xs : Nat → Int32} (C0 : lw_At p s m meth c b L xs) : ∃ Γ : KK, kB Γ = s.heap.size ∧ GG Γ s := by
  obtain ⟨hx, hb, hr, hml, hown, hts, hX, hbl, hlocks, hgv⟩ := C0
  have hs := flat_of_before _ hgv
  have hG : ∀ w ∈ GT, w.before #[Value.ref b] s = true := fun w h => hts w (List.mem_filter.mp h).1
  have hA : ∀ a : Nat, a < s.heap.size → ¬ (fun q : Nat => s.heap.size ≤ q) a := fun a h => Nat.not_le.mpr h
  obtain ⟨c0, iS0, K0⟩ := u_known (C := RX0) (T := TX0) (N := 3) (n := 3) hG lc_X0.1 (hG _ n_X6_33.2.2.1)
  obtain ⟨c1, iS1, K1⟩ := u_known (C := RX1) (T := TX1) (N := 2) (n := 2) hG lc_X1.1 (hG _ n_X6_48.2.2.1)
  obtain ⟨c2, iS2, K2⟩ := u_known (C := RX2) (T := TX2) (N := 10) (n := 10) hG lc_X2.1 (hG _ n_X6_26.2.2.1)
  obtain ⟨c3, iS3, K3⟩ := u_known (C := RX3) (T := TX3) (N := 4) (n := 4) hG lc_X3.1 (hG _ n_X6_55.2.2.1)
  obtain ⟨c4, iS4, K4⟩ := u_known (C := RX4) (T := TX4) (N := 5) (n := 5) hG lc_X4.1 (hG _ n_X6_7.2.2.1)
  obtain ⟨c5, iS5, K5⟩ := u_known (C := RX5) (T := TX5) (N := 11) (n := 11) hG lc_X5.1 (hG _ n_X6_16.2.2.1)
  obtain ⟨c6, iS6, K6⟩ := u_known (C := RX6) (T := TX6) (N := 9) (n := 9) hG lc_X6.1 (hG _ n_L_7.2.2.1)
  obtain ⟨c7, iS7, K7⟩ := u_known (C := RX7) (T := TX7) (N := 17) (n := 17) hG lc_X7.1 (hG _ n_L_10.2.2.1)
  obtain ⟨dC, dI, hKc⟩ : ∃ (dC : Nat → ClassId) (dI : Nat → Nat → Nat), ∀ (k : Nat) (q : vw_C), vwCl[k]? = some q → u_Kn s q.1 q.2.1 q.2.2 (dC k) (dI k) := by
    refine ⟨fun k => match k with | 0 => c0 | 1 => c1 | 2 => c2 | 3 => c3 | 4 => c4 | 5 => c5 | 6 => c6 | _ => c7, fun k => match k with | 0 => iS0 | 1 => iS1 | 2 => iS2 | 3 => iS3 | 4 => iS4 | 5 => iS5 | 6 => iS6 | _ => iS7, ?_⟩
    intro k q hq
    match k, hq with
    | 0, hq => cases hq; exact K0
    | 1, hq => cases hq; exact K1
    | 2, hq => cases hq; exact K2
    | 3, hq => cases hq; exact K3
    | 4, hq => cases hq; exact K4
    | 5, hq => cases hq; exact K5
    | 6, hq => cases hq; exact K6
    | 7, hq => cases hq; exact K7
    | k + 8, hq => simp [vwCl] at hq
  obtain ⟨cI, kI, mI, fI1, fI2, fI3⟩ := Cond.arrayClass_spec (hG _ ac_I)
  obtain ⟨cC, kC, mC, fC1, fC2, fC3⟩ := Cond.arrayClass_spec (hG _ ac_C)
  obtain ⟨cZ, kZ, mZ, fZ1, fZ2, fZ3⟩ := Cond.arrayClass_spec (hG _ ac_Z)
  have hAO := hts (Cond.arrayOver (.object "NobodyCave$Scene")) (tb_at 198 (by decide +kernel))
  obtain ⟨mS, cS, kS', fS1, fS2, fS3, fS4, fS5⟩ := Cond.arrayOver_spec hAO
  obtain ⟨tO, eO, vO⟩ := va_Tof (ty := .int) (N := 5) (f := fun j => .int ((stV 0).getD j 0)) (A := fun q : Nat => s.heap.size ≤ q) (by decide) (hs _ e_st.1.1) (va_eqt (hs _ e_st.2.1)) (fun j hj => va_eqt (hs _ (e_OVER j hj))) hA
  obtain ⟨tL, eL, vL⟩ := va_Tof (ty := .int) (N := 11) (f := fun j => .int ((stV 1).getD j 0)) (A := fun q : Nat => s.heap.size ≤ q) (by decide) (hs _ e_st.1.2.1) (va_eqt (hs _ e_st.2.2.1)) (fun j hj => va_eqt (hs _ (e_LEAST j hj))) hA
  obtain ⟨tM, eM, vM⟩ := va_Tof (ty := .int) (N := 11) (f := fun j => .int ((stV 2).getD j 0)) (A := fun q : Nat => s.heap.size ≤ q) (by decide) (hs _ e_st.1.2.2) (va_eqt (hs _ e_st.2.2.2)) (fun j hj => va_eqt (hs _ (e_MOST j hj))) hA
  have hini := hts (Cond.initialized "NobodyCave") (tb_at 34 (by decide +kernel))
  have zO := va_Zref (A := fun q : Nat => s.heap.size ≤ q) (hts (Cond.laysStatic "NobodyCave" "OVER" "[I") (tb_at 470 (by decide +kernel))) hini eO hA
  have zL := va_Zref (A := fun q : Nat => s.heap.size ≤ q) (hts (Cond.laysStatic "NobodyCave" "LEAST" "[I") (tb_at 403 (by decide +kernel))) hini eL hA
  have zM := va_Zref (A := fun q : Nat => s.heap.size ≤ q) (hts (Cond.laysStatic "NobodyCave" "MOST" "[I") (tb_at 405 (by decide +kernel))) hini eM hA
  obtain ⟨aK, aV, hvS, hev⟩ := vk_Sof (N := 11) (tm := tmS) (len := strL) (byt := strB) (A := fun q : Nat => s.heap.size ≤ q) (fun i hi => Nat.lt_of_le_of_lt (strL_le i hi) (by decide)) (fun i hi => hs _ (e_exa i hi)) (fun i hi => hs _ (e_cod i hi)) (fun i hi => hs _ (e_arr i hi)) (fun i hi => hs _ (e_len i hi)) (fun i hi j hj => hs _ (e_byt i hi j hj)) (fun i j hi hj hij => (e_neq i hi j hj hij).imp (hs _) (hs _)) hA
  have zC := va_Zof (A := fun q : Nat => s.heap.size ≤ q) (hts (Cond.laysStatic "java/lang/String" "COMPACT_STRINGS" "Z") (tb_at 355 (by decide +kernel))) (hts (Cond.initialized "java/lang/String") (tb_at 43 (by decide +kernel))) (va_eqt (hs _ e_jdk.1)) hA
  have zQ := va_Zqof (A := fun q : Nat => s.heap.size ≤ q) (hts (Cond.laysStatic "jdk/internal/util/Preconditions" "SIOOBE_FORMATTER" "Ljava/util/function/BiFunction;") (tb_at 371 (by decide +kernel))) (hts (Cond.initialized "jdk/internal/util/Preconditions") (tb_at 45 (by decide +kernel))) (hs _ e_jdk.2) hA
  refine ⟨((dC, dI), (cI, cC, cZ, cS), (fun i => match i with | 0 => tO | 1 => tL | _ => tM), aK, aV, s.heap.size), rfl, ⟨hKc, fun k q hq => ?_⟩, fun w hw => va_Nw.of (nw_on hw) (hts w (tb_NW w hw)), va_AO.of hAO, fun i hi => ?_, hvS, fun i hi => vk_R.of (hts _ (tb_at _ (tb_str i hi))) (hev i hi), zC, zQ⟩
  · match k, hq with
    | 0, hq => cases hq; exact ⟨fun n z => ⟨fun k h => (by cases h), kI, fI2, mI, fI3⟩, fI1⟩
    | 1, hq => cases hq; exact ⟨fun n z => ⟨fun k h => (by cases h), kC, fC2, mC, fC3⟩, fC1⟩
    | 2, hq => cases hq; exact ⟨fun n z => ⟨fun k h => (by cases h), kZ, fZ2, mZ, fZ3⟩, fZ1⟩
    | 3, hq => cases hq; exact ⟨fun n z => ⟨fun k h => (by cases h), kS', fS3, mS, fS4⟩, kS', mS, fS3, fS4, fS1, fS5⟩
    | k + 4, hq => simp [kT] at hq
  · rcases (show i = 0 ∨ i = 1 ∨ i = 2 by omega) with rfl | rfl | rfl
    · exact ⟨zO, vO⟩
    · exact ⟨zL, vL⟩
    · exact ⟨zM, vM⟩
