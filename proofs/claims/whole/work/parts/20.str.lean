section S20
variable {Γ : KK} {p : Program} {l : Launch} {e : Env} {R : Room} {s : State} {m : MethodId} {args : Array Value} {below : List Frame} {meth : Method} {c : Code} {Q : State → Prop} {cc : ByteArray} {ret : Option FieldType} {nm own : String} {k mc ms nL cells slots pc : Nat} {lv : List (Option Value)} {st : List Value} {μ : MM} {sz : Nat}
theorem r_gsf (X : cX Γ p R s m args meth c cc ret nm own k mc ms nL) {idx : Nat} (L : Cond.fieldLink own idx "jdk/internal/util/Preconditions" "SIOOBE_FORMATTER" "Ljava/util/function/BiFunction;" ∈ GT) (hd : decode cc pc = .ok (.getstatic idx, 3)) (kk : ∀ v : Value, v = .null ∨ (∃ t, v = .ref t) → vV Γ p l e R s m args below meth c Q nL cells slots (pc + 3) lv (v :: st) μ) : vV Γ p l e R s m args below meth c Q nL cells slots pc lv st μ := fun H locs ls h1 h2 h3 h4 => by
  rcases X.2.2.2.2.2.2.1.2.2.2.2.2.2.2 with hz | ⟨t, hz⟩
  · exact va_gets X.1 X.2.1 hz h3 X.2.2.2.2.1 (X.2.2.2.2.2.1 _ L) (fun _ h => h) hd (kk .null (Or.inl rfl) H locs ls h1 h2 h3 h4)
  · exact va_gets X.1 X.2.1 hz h3 X.2.2.2.2.1 (X.2.2.2.2.2.1 _ L) (fun _ h => h) hd (kk (.ref t) (Or.inr ⟨t, rfl⟩) H locs ls h1 h2 h3 h4)
theorem r_sgv (X : cX Γ p R s m args meth c cc ret nm own k mc ms nL) {idx i : Nat} (hi : i < 11) (L : Cond.fieldLink own idx "java/lang/String" "value" "[B" ∈ GT) (hd : decode cc pc = .ok (.getfield idx, 3)) (kk : vV Γ p l e R s m args below meth c Q nL cells slots (pc + 3) lv (.ref (kV Γ i) :: st) μ) : vV Γ p l e R s m args below meth c Q nL cells slots pc lv (.ref (kQ Γ i) :: st) μ := fun H locs ls h1 h2 h3 h4 =>
  vk_getf X.1 X.2.1 (X.2.2.2.2.2.2.1.2.2.2.2.1.1 i hi).2.2.1 h3 X.2.2.2.2.1 (X.2.2.2.2.2.1 _ L) (fun _ h => h) hd (kk H locs ls h1 h2 h3 h4)
theorem r_sgc (X : cX Γ p R s m args meth c cc ret nm own k mc ms nL) {idx i : Nat} (hi : i < 11) (L : Cond.fieldLink own idx "java/lang/String" "coder" "B" ∈ GT) (hd : decode cc pc = .ok (.getfield idx, 3)) (kk : vV Γ p l e R s m args below meth c Q nL cells slots (pc + 3) lv (.int (nI 0) :: st) μ) : vV Γ p l e R s m args below meth c Q nL cells slots pc lv (.ref (kQ Γ i) :: st) μ := fun H locs ls h1 h2 h3 h4 =>
  vk_getf X.1 X.2.1 (X.2.2.2.2.2.2.1.2.2.2.2.1.1 i hi).2.1 h3 X.2.2.2.2.1 (X.2.2.2.2.2.1 _ L) (fun _ h => h) hd (kk H locs ls h1 h2 h3 h4)
theorem r_slen (X : cX Γ p R s m args meth c cc ret nm own k mc ms nL) {i : Nat} (hi : i < 11) (hd : decode cc pc = .ok (.arraylength, 1)) (kk : vV Γ p l e R s m args below meth c Q nL cells slots (pc + 1) lv (.int (nI (strL.getD i 0)) :: st) μ) : vV Γ p l e R s m args below meth c Q nL cells slots pc lv (.ref (kV Γ i) :: st) μ := fun H locs ls h1 h2 h3 h4 =>
  va_tlen X.1 X.2.1 (X.2.2.2.2.2.2.1.2.2.2.2.1.1 i hi).2.2.2 h3 rfl hd (kk H locs ls h1 h2 h3 h4)
theorem strL_le : ∀ i, i < 11 → strL.getD i 0 ≤ 6 := by decide
theorem r_sbald (X : cX Γ p R s m args meth c cc ret nm own k mc ms nL) {i j : Nat} (hi : i < 11) (hj : j < strL.getD i 0) (hd : decode cc pc = .ok (.baload, 1)) (kk : vV Γ p l e R s m args below meth c Q nL cells slots (pc + 1) lv (.int ((strB.getD i []).getD j 0) :: st) μ) : vV Γ p l e R s m args below meth c Q nL cells slots pc lv (.int (nI j) :: .ref (kV Γ i) :: st) μ := fun H locs ls h1 h2 h3 h4 => by
  have := strL_le i hi
  exact va_tb X.1 X.2.1 (X.2.2.2.2.2.2.1.2.2.2.2.1.1 i hi).2.2.2 h3 (nI_vp hj (by omega)) (by rw [nI_clamp (by omega)]) hd (kk H locs ls h1 h2 h3 h4)
/-- a call on a text constant -/
theorem rVs (X : cX Γ p R s m args meth c cc ret nm own k mc ms nL) {mc' ms' j idx n i : Nat} {md : MD} {As rest : List Value} {post : Option Value → MM → Prop} (hi : i < 11) (L : LV own idx md n) (hct : CT Γ l j (s.heap.size + cells) mc' ms' md (.ref (kQ Γ i) :: As) μ post) (hd : decode cc pc = .ok (.invokevirtual idx, 3)) (hc : md.1.cls = "java/lang/String") (hn : As.length = n) (hst : st = As.reverse ++ .ref (kQ Γ i) :: rest) (hcat : (rest.map fun v => v.category).sum ≤ 8) (hj : j + 1 ≤ k) (hcl : cells + mc' ≤ mc) (hsl : slots + ms' ≤ ms) : vRun Γ p l e R s m args below meth c nL cells slots mc' ms' pc lv st μ rest post := by
  intro H locs ls h1 h2 h3 h4
  have hts := X.2.2.2.2.2.1
  have hin : cells + mc' ≤ R.cells ∧ slots + ms' ≤ R.slots := ⟨Nat.le_trans hcl X.2.2.2.2.2.2.2.2.2.2.2.2.1, Nat.le_trans hsl X.2.2.2.2.2.2.2.2.2.2.2.2.2⟩
  have S : CallFix p m c cc nL s args GT own := ⟨X.1, X.2.1, X.2.2.2.1, X.2.2.2.2.1, hts⟩
  subst hst
  obtain ⟨hm, l1, l2, l3⟩ := L
  have hG : GoodIn GT (wsV own idx md.1.cls md.1 (mW md)) := fun w hw => by
    simp only [wsV, List.mem_append, List.mem_cons, List.not_mem_nil, or_false] at hw
    rcases hw with (rfl | rfl | rfl | rfl) | hw
    · exact ⟨l1, GT_good _ l1⟩
    · exact ⟨l2, GT_good _ l2⟩
    · exact ⟨l3, GT_good _ l3⟩
    · exact ⟨hm.2.1, GT_good _ hm.2.1⟩
    · exact hm.good w (by rcases hw with rfl | hw; exact List.mem_cons_self; exact List.mem_cons_of_mem _ hw)
  have hrec : ∃ cell : Cell, H[kQ Γ i]? = some cell ∧ cell.vm.isStatics = false ∧ s.vm.findClass md.1.cls = some cell.cls := by
    obtain ⟨cell, q1, q2, q3, q4⟩ := (X.2.2.2.2.2.2.1.2.2.2.2.1.1 i hi).1
    exact ⟨cell, by rw [h3.2.1 _ (Array.getElem?_eq_some_iff.mp q1).1 q4]; exact q1, q2, by rw [hc]; exact q3⟩
  exact va_runV (As := As) (rest := rest) S hct (cwV n hts hG rfl rfl rfl ⟨rfl, hm.2.2.1, hm.2.2.2.1, hm.2.2.2.2.1⟩ (room_ok X hm hj)) ⟨CP_blind, hrec, pre_ok X h1 h2 h3⟩ rfl hn h4.1 rfl (lv_room hcat) hd hin
theorem tJ_coder {i : Nat} (hi : i < 11) : CT Γ l 0 sz 0 0 mJ0_coder_7d493 [.ref (kQ Γ i)] μ (ri (fun r μ' => r = nI 0 ∧ μ' = μ)) := by
  refine CT.go RJ0 rfl "coder" rfl [some (.ref (kQ Γ i))] rfl (by decide) (Nat.le_of_ble_eq_true rfl) ?_
  intro p e R s m args below meth c X hsz
  refine r_gcs (pc := 0) X s_J0_38 dJ0_coder_7d493_0 ?_
  refine r_if_eq (pc := 3) X 13 dJ0_coder_7d493_3 (by decide) (fun h => absurd h (by decide)) (fun _ => ?_)
  refine r_aload_n (pc := 6) X dJ0_coder_7d493_6 rfl ?_
  refine r_sgc (pc := 7) X hi s_J0_15 dJ0_coder_7d493_7 ?_
  refine r_goto (pc := 10) X 14 dJ0_coder_7d493_10 (by decide) ?_
  exact r_zret (pc := 14) X dJ0_coder_7d493_14 (by first | rfl | decide | exact zb_nar _) (⟨rfl, rfl⟩)
theorem tJ_isLatin1 {i : Nat} (hi : i < 11) : CT Γ l 0 sz 0 0 mJ0_isLatin1_aae02 [.ref (kQ Γ i)] μ (ri (fun r μ' => r = nI 1 ∧ μ' = μ)) := by
  refine CT.go RJ0 rfl "isLatin1" rfl [some (.ref (kQ Γ i))] rfl (by decide) (Nat.le_of_ble_eq_true rfl) ?_
  intro p e R s m args below meth c X hsz
  refine r_gcs (pc := 0) X s_J0_38 dJ0_isLatin1_aae02_0 ?_
  refine r_if_eq (pc := 3) X 17 dJ0_isLatin1_aae02_3 (by decide) (fun h => absurd h (by decide)) (fun _ => ?_)
  refine r_aload_n (pc := 6) X dJ0_isLatin1_aae02_6 rfl ?_
  refine r_sgc (pc := 7) X hi s_J0_15 dJ0_isLatin1_aae02_7 ?_
  refine r_if_neN (pc := 10) X 17 dJ0_isLatin1_aae02_10 (by decide) (by decide) (fun h => absurd rfl h) (fun _ => ?_)
  refine r_iconst (pc := 13) (v := nI 1) X dJ0_isLatin1_aae02_13 (by decide) ?_
  refine r_goto (pc := 14) X 18 dJ0_isLatin1_aae02_14 (by decide) ?_
  exact r_zret (pc := 18) X dJ0_isLatin1_aae02_18 (by first | rfl | decide | exact zb_nar _) (⟨rfl, rfl⟩)
theorem tJ_length {i : Nat} (hi : i < 11) : CT Γ l 1 sz 0 0 mJ0_length_8abf5 [.ref (kQ Γ i)] μ (ri (fun r μ' => r = nI (strL.getD i 0) ∧ μ' = μ)) := by
  have hl := strL_le i hi
  refine CT.go RJ0 rfl "length" rfl [some (.ref (kQ Γ i))] rfl (by decide) (Nat.le_of_ble_eq_true rfl) ?_
  intro p e R s m args below meth c X hsz
  refine r_aload_n (pc := 0) X dJ0_length_8abf5_0 rfl ?_
  refine r_sgv (pc := 1) X hi s_J0_9 dJ0_length_8abf5_1 ?_
  refine r_slen (pc := 4) X hi dJ0_length_8abf5_4 ?_
  refine r_aload_n (pc := 5) X dJ0_length_8abf5_5 rfl ?_
  refine c_i X (rVs (pc := 6) X hi l_J0_335 (tJ_coder hi) dJ0_length_8abf5_6 rfl rfl rfl (Nat.le_of_ble_eq_true rfl) (by decide) (Nat.le_of_ble_eq_true rfl) (Nat.le_of_ble_eq_true rfl)) ?_
  rintro _ μq ⟨rfl, hμq⟩
  rw [hμq]
  first | refine r_ishrN (pc := 9) X dJ0_length_8abf5_9 (by omega) (by omega) ?_ | refine r_ishr (pc := 9) X dJ0_length_8abf5_9 ?_
  exact r_iret (pc := 10) X dJ0_length_8abf5_10 (⟨by rw [Nat.shiftRight_zero], rfl⟩)
theorem tJ_pre {i n : Nat} {v : Value} (hi : i < n) (hn : n < 100) (hv : v = .null ∨ ∃ t, v = .ref t) : CT Γ l 0 sz 0 0 mJ3_checkIndex_8e157 [.int (nI i), .int (nI n), v] μ (ri (fun r μ' => r = nI i ∧ μ' = μ)) := by
  rcases hv with rfl | ⟨t, rfl⟩
  · refine CT.go RJ3 rfl "checkIndex" rfl [some (.int (nI i)), some (.int (nI n)), some (.null)] rfl (by decide) (Nat.le_of_ble_eq_true rfl) ?_
    intro p e R s m args below meth c X hsz
    refine r_iload_n (pc := 0) X dJ3_checkIndex_8e157_0 rfl ?_
    refine r_if_ltN (pc := 1) X 9 dJ3_checkIndex_8e157_1 (by decide) (by omega) (fun h => absurd h (by omega)) (fun _ => ?_)
    refine r_iload_n (pc := 4) X dJ3_checkIndex_8e157_4 rfl ?_
    refine r_iload_n (pc := 5) X dJ3_checkIndex_8e157_5 rfl ?_
    refine r_icmp_ltN (pc := 6) X 16 dJ3_checkIndex_8e157_6 (by decide) (by omega) (by omega) (fun _ => ?_) (fun h => absurd hi h)
    refine r_iload_n (pc := 16) X dJ3_checkIndex_8e157_16 rfl ?_
    exact r_iret (pc := 17) X dJ3_checkIndex_8e157_17 (⟨rfl, rfl⟩)
  · refine CT.go RJ3 rfl "checkIndex" rfl [some (.int (nI i)), some (.int (nI n)), some (.ref t)] rfl (by decide) (Nat.le_of_ble_eq_true rfl) ?_
    intro p e R s m args below meth c X hsz
    refine r_iload_n (pc := 0) X dJ3_checkIndex_8e157_0 rfl ?_
    refine r_if_ltN (pc := 1) X 9 dJ3_checkIndex_8e157_1 (by decide) (by omega) (fun h => absurd h (by omega)) (fun _ => ?_)
    refine r_iload_n (pc := 4) X dJ3_checkIndex_8e157_4 rfl ?_
    refine r_iload_n (pc := 5) X dJ3_checkIndex_8e157_5 rfl ?_
    refine r_icmp_ltN (pc := 6) X 16 dJ3_checkIndex_8e157_6 (by decide) (by omega) (by omega) (fun _ => ?_) (fun h => absurd hi h)
    refine r_iload_n (pc := 16) X dJ3_checkIndex_8e157_16 rfl ?_
    exact r_iret (pc := 17) X dJ3_checkIndex_8e157_17 (⟨rfl, rfl⟩)
theorem tJ_check {i n : Nat} (hi : i < n) (hn : n < 100) : CT Γ l 1 sz 0 0 mJ0_checkIndex_df160 [.int (nI i), .int (nI n)] μ (rv (fun μ' => μ' = μ)) := by
  refine CT.go RJ0 rfl "checkIndex" rfl [some (.int (nI i)), some (.int (nI n))] rfl (by decide) (Nat.le_of_ble_eq_true rfl) ?_
  intro p e R s m args below meth c X hsz
  refine r_iload_n (pc := 0) X dJ0_checkIndex_df160_0 rfl ?_
  refine r_iload_n (pc := 1) X dJ0_checkIndex_df160_1 rfl ?_
  refine r_gsf (pc := 2) X s_J0_1053 dJ0_checkIndex_df160_2 (fun v hv => ?_)
  refine c_i X (rS (pc := 5) X l_J0_1059 (tJ_pre hi hn hv) dJ0_checkIndex_df160_5 rfl rfl (Nat.le_of_ble_eq_true rfl) (by decide) (Nat.le_of_ble_eq_true rfl) (Nat.le_of_ble_eq_true rfl)) ?_
  rintro _ μq ⟨rfl, hμq⟩
  rw [hμq]
  clear hμq μq
  refine r_pop (pc := 8) X dJ0_checkIndex_df160_8 rfl ?_
  exact r_vret (pc := 9) X dJ0_checkIndex_df160_9 (rfl)
theorem strB_ok : ∀ i, i < 11 → ∀ j, j < strL.getD i 0 → 97 ≤ ((strB.getD i []).getD j 0).toInt ∧ ((strB.getD i []).getD j 0).toInt ≤ 122 := by decide +kernel
def spl (i j : Nat) : Nat := ((strB.getD i []).getD j 0).toInt.toNat
theorem strB_nI : ∀ i, i < 11 → ∀ j, j < strL.getD i 0 → ((strB.getD i []).getD j 0 &&& nI 255).toUInt32 % 65536 = ((strB.getD i []).getD j 0).toUInt32 ∧ ((strB.getD i []).getD j 0).toUInt32.toInt32 = nI (spl i j) := by decide +kernel
theorem tJ_lcharAt {i j : Nat} (hi : i < 11) (hj : j < strL.getD i 0) : CT Γ l 2 sz 0 0 mJ1_charAt_3b067 [.ref (kV Γ i), .int (nI j)] μ (ri (fun r μ' => r = nI (spl i j) ∧ μ' = μ)) := by
  have hl := strL_le i hi
  refine CT.go RJ1 rfl "charAt" rfl [some (.ref (kV Γ i)), some (.int (nI j))] rfl (by decide) (Nat.le_of_ble_eq_true rfl) ?_
  intro p e R s m args below meth c X hsz
  refine r_iload_n (pc := 0) X dJ1_charAt_3b067_0 rfl ?_
  refine r_aload_n (pc := 1) X dJ1_charAt_3b067_1 rfl ?_
  refine r_slen (pc := 2) X hi dJ1_charAt_3b067_2 ?_
  refine c_v X (rS (pc := 3) X l_J1_9 (tJ_check hj (by omega)) dJ1_charAt_3b067_3 rfl rfl (Nat.le_of_ble_eq_true rfl) (by decide) (Nat.le_of_ble_eq_true rfl) (Nat.le_of_ble_eq_true rfl)) ?_
  rintro μq hμq
  rw [hμq]
  refine r_aload_n (pc := 6) X dJ1_charAt_3b067_6 rfl ?_
  refine r_iload_n (pc := 7) X dJ1_charAt_3b067_7 rfl ?_
  refine r_sbald (pc := 8) X hi hj dJ1_charAt_3b067_8 ?_
  refine r_sipush (pc := 9) (v := nI 255) X dJ1_charAt_3b067_9 (by decide) ?_
  refine r_iand (pc := 12) X dJ1_charAt_3b067_12 ?_
  refine r_i2c (pc := 13) X dJ1_charAt_3b067_13 rfl ?_
  obtain ⟨e1, e2⟩ := strB_nI i hi j hj
  have hp : ∀ i, i < 11 → ∀ j, j < strL.getD i 0 → narrow .char (.int (nI (spl i j))) = .int (nI (spl i j)) := by decide +kernel
  rw [e1, e2]
  exact r_zret (pc := 14) X dJ1_charAt_3b067_14 (hp i hi j hj) ⟨rfl, rfl⟩
theorem tJ_charAt {i j : Nat} (hi : i < 11) (hj : j < strL.getD i 0) : CT Γ l 3 sz 0 0 mJ0_charAt_5068e [.ref (kQ Γ i), .int (nI j)] μ (ri (fun r μ' => r = nI (spl i j) ∧ μ' = μ)) := by
  refine CT.go RJ0 rfl "charAt" rfl [some (.ref (kQ Γ i)), some (.int (nI j))] rfl (by decide) (Nat.le_of_ble_eq_true rfl) ?_
  intro p e R s m args below meth c X hsz
  refine r_aload_n (pc := 0) X dJ0_charAt_5068e_0 rfl ?_
  refine c_i X (rVs (pc := 1) X hi l_J0_492 (tJ_isLatin1 hi) dJ0_charAt_5068e_1 rfl rfl rfl (Nat.le_of_ble_eq_true rfl) (by decide) (Nat.le_of_ble_eq_true rfl) (Nat.le_of_ble_eq_true rfl)) ?_
  rintro _ μq ⟨rfl, hμq⟩
  rw [hμq]
  refine r_if_eqN (pc := 4) X 16 dJ0_charAt_5068e_4 (by decide) (by decide) (fun h => absurd h (by decide)) (fun _ => ?_)
  refine r_aload_n (pc := 7) X dJ0_charAt_5068e_7 rfl ?_
  refine r_sgv (pc := 8) X hi s_J0_9 dJ0_charAt_5068e_8 ?_
  refine r_iload_n (pc := 11) X dJ0_charAt_5068e_11 rfl ?_
  refine c_i X (rS (pc := 12) X l_J0_495 (tJ_lcharAt hi hj) dJ0_charAt_5068e_12 rfl rfl (Nat.le_of_ble_eq_true rfl) (by decide) (Nat.le_of_ble_eq_true rfl) (Nat.le_of_ble_eq_true rfl)) ?_
  rintro _ μq ⟨rfl, hμq⟩
  rw [hμq]
  clear hμq μq
  have hp : ∀ i, i < 11 → ∀ j, j < strL.getD i 0 → narrow .char (.int (nI (spl i j))) = .int (nI (spl i j)) := by decide +kernel
  exact r_zret (pc := 15) X dJ0_charAt_5068e_15 (hp i hi j hj) ⟨rfl, rfl⟩
end S20
