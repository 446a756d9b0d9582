theorem and31 (z : Int32) : ∃ w, w < 32 ∧ z &&& nI 31 = nI w := by
  refine ⟨(z.toBitVec &&& 31#32).toNat, ?_, ?_⟩
  · rw [BitVec.toNat_and]
    exact Nat.lt_of_le_of_lt Nat.and_le_right (by decide)
  · apply Int32.toBitVec_inj.mp
    rw [Int32.toBitVec_and, nI_bv, nI_bv, BitVec.ofNat_toNat, BitVec.setWidth_eq]
theorem sub6 : ∀ L, L < 385 → (nI L - nI 6).toInt = (L : Int) - 6 := by decide +kernel
section S65
variable {Γ : KK} {p : Program} {l : Launch} {e : Env} {s : State} {m : MethodId} {below : List Frame} {meth : Method} {c : Code} {b L : Nat} {scr : Nat → Int32} {nm : String}
theorem law_end (X : lC Γ p s m meth c b nm) (hk : kB Γ = s.heap.size) {lv : List (Option Value)} {μ : MM} : lJ Γ p l e s m below meth c b 807 lv [.int (nI 1)] μ := by
  intro H locs ls h1 h2 h3 h4
  refine va_forget (fun q hq => ?_) (W.widen (k := 600000) (n := 7302250) (by omega) (by omega) ?_)
  · have : kB Γ ≤ q.base := h3.2.2 q hq
    omega
  · exact lw_ret X.1 X.2.1 X.2.2.1 X.2.2.2.2.2.2.2.2.1 dL_law_807
theorem law_loop (X : lC Γ p s m meth c b nm) (hk : kB Γ = s.heap.size) (hXs : va_X b L scr s s.heap) (hbl : b < s.heap.size) (hL : L ≤ 384) {x : Nat} : ∀ (N i : Nat), L < i + 6 * N + 6 → i ≤ 390 → ∀ (μ : MM) (T S : Nat → Nat) (un : Nat) (A : Nat → Nat → Nat) (kf : Nat → Bool) (K : Nat → Nat → Nat) (n : Nat) (xs : Nat → Nat) (sn : Nat) (V : Nat → Nat), WC Γ μ x T S un A kf K n xs sn V → WM Γ μ (x + 46) T S un A kf K n xs sn V → INV T S un A kf K n xs sn V → lJ Γ p l e s m below meth c b 18 [some (.ref b), some (.ref x), some (.ref (x + 46)), some (.int (nI i))] [] μ := by
  have hbk : b < kB Γ := by omega
  intro N
  induction N with
  | zero =>
    intro i hi hi2 μ T S un A kf K n xs sn V h hm hI
    refine r_iload_n (pc := 18) X dL_law_18 rfl ?_
    refine r_aload_n (pc := 19) X dL_law_19 rfl ?_
    refine r_slen0 (pc := 20) X hXs hbl hbk dL_law_20 ?_
    refine r_bipush (pc := 21) (v := nI 6) X dL_law_21 (by decide) ?_
    refine r_isub (pc := 23) X dL_law_23 ?_
    refine r_icmp_gt (pc := 24) X 806 dL_law_24 (by decide) (fun g => ?_) (fun g => ?_)
    · refine r_iconst (pc := 806) (v := nI 1) X dL_law_806 (by decide) ?_
      exact law_end X hk
    · exfalso
      apply g
      rw [Int32.lt_iff_toInt_lt, sub6 L (by omega), nI_toInt (by omega)]
      omega
  | succ N ih =>
    intro i hi hi2 μ T S un A kf K n xs sn V h hm hI
    refine r_iload_n (pc := 18) X dL_law_18 rfl ?_
    refine r_aload_n (pc := 19) X dL_law_19 rfl ?_
    refine r_slen0 (pc := 20) X hXs hbl hbk dL_law_20 ?_
    refine r_bipush (pc := 21) (v := nI 6) X dL_law_21 (by decide) ?_
    refine r_isub (pc := 23) X dL_law_23 ?_
    refine r_icmp_gt (pc := 24) X 806 dL_law_24 (by decide) (fun g => ?_) (fun g => ?_)
    · refine r_iconst (pc := 806) (v := nI 1) X dL_law_806 (by decide) ?_
      exact law_end X hk
    · have hiL : i + 6 ≤ L := by
        rw [Int32.lt_iff_toInt_lt, sub6 L (by omega), nI_toInt (by omega)] at g
        omega
      have go : lG Γ p l e s m below meth c b x i := by
        intro μ' T S un A kf K n xs sn V h hm hI
        refine r_iincN (pc := 800) (b := 6) X dL_law_800 rfl (by decide) rfl ?_
        refine r_goto (pc := 803) X 18 dL_law_803 (by decide) ?_
        exact ih (i + 6) (by omega) (by omega) μ' T S un A kf K n xs sn V h hm hI
      refine r_aload_n (pc := 27) X dL_law_27 rfl ?_
      refine r_iload_n (pc := 28) X dL_law_28 rfl ?_
      refine r_sld (pc := 29) X hXs hbl hbk (by omega) (by omega) dL_law_29 ?_
      refine r_bipush (pc := 30) (v := nI 31) X dL_law_30 (by decide) ?_
      refine r_iand (pc := 32) X dL_law_32 ?_
      obtain ⟨w, hw, ew⟩ := and31 (scr i)
      rw [ew]
      by_cases hw25 : w ≤ 25
      · rcases (show w = 0 ∨ w = 1 ∨ w = 2 ∨ w = 3 ∨ w = 4 ∨ w = 5 ∨ w = 6 ∨ w = 7 ∨ w = 8 ∨ w = 9 ∨ w = 10 ∨ w = 11 ∨ w = 12 ∨ w = 13 ∨ w = 14 ∨ w = 15 ∨ w = 16 ∨ w = 17 ∨ w = 18 ∨ w = 19 ∨ w = 20 ∨ w = 21 ∨ w = 22 ∨ w = 23 ∨ w = 24 ∨ w = 25 by omega) with rfl | rfl | rfl | rfl | rfl | rfl | rfl | rfl | rfl | rfl | rfl | rfl | rfl | rfl | rfl | rfl | rfl | rfl | rfl | rfl | rfl | rfl | rfl | rfl | rfl | rfl
        · refine r_tableIn (pc := 33) X 152 dL_law_33 (by decide) (by decide) rfl (by decide) ?_
          exact law_write X hXs hbl hbk hL hiL h hm hI go
        · refine r_tableIn (pc := 33) X 175 dL_law_33 (by decide) (by decide) rfl (by decide) ?_
          exact law_erase X hXs hbl hbk hL hiL h hm hI go
        · refine r_tableIn (pc := 33) X 188 dL_law_33 (by decide) (by decide) rfl (by decide) ?_
          exact law_fault X hXs hbl hbk hL hiL h hm hI go
        · refine r_tableIn (pc := 33) X 201 dL_law_33 (by decide) (by decide) rfl (by decide) ?_
          exact law_cave X hXs hbl hbk hL hiL h hm hI go
        · refine r_tableIn (pc := 33) X 214 dL_law_33 (by decide) (by decide) rfl (by decide) ?_
          exact law_man X hXs hbl hbk hL hiL h hm hI go
        · refine r_tableIn (pc := 33) X 247 dL_law_33 (by decide) (by decide) rfl (by decide) ?_
          exact law_sheep X hXs hbl hbk hL hiL h hm hI go
        · refine r_tableIn (pc := 33) X 280 dL_law_33 (by decide) (by decide) rfl (by decide) ?_
          exact law_near X hXs hbl hbk hL hiL h hm hI go
        · refine r_tableIn (pc := 33) X 303 dL_law_33 (by decide) (by decide) rfl (by decide) ?_
          exact law_as X hXs hbl hbk hL hiL h hm hI go
        · refine r_tableIn (pc := 33) X 336 dL_law_33 (by decide) (by decide) rfl (by decide) ?_
          exact law_give X hXs hbl hbk hL hiL h hm hI go
        · refine r_tableIn (pc := 33) X 359 dL_law_33 (by decide) (by decide) rfl (by decide) ?_
          exact law_day X hXs hbl hbk hL hiL h hm hI go
        · refine r_tableIn (pc := 33) X 372 dL_law_33 (by decide) (by decide) rfl (by decide) ?_
          exact law_blind X hXs hbl hbk hL hiL h hm hI go
        · refine r_tableIn (pc := 33) X 395 dL_law_33 (by decide) (by decide) rfl (by decide) ?_
          exact law_hide X hXs hbl hbk hL hiL h hm hI go
        · refine r_tableIn (pc := 33) X 428 dL_law_33 (by decide) (by decide) rfl (by decide) ?_
          exact law_morning X hXs hbl hbk hL hiL h hm hI go
        · refine r_tableIn (pc := 33) X 441 dL_law_33 (by decide) (by decide) rfl (by decide) ?_
          exact law_undo X hXs hbl hbk hL hiL h hm hI go
        · refine r_tableIn (pc := 33) X 454 dL_law_33 (by decide) (by decide) rfl (by decide) ?_
          exact law_keep X hXs hbl hbk hL hiL h hm hI go
        · refine r_tableIn (pc := 33) X 477 dL_law_33 (by decide) (by decide) rfl (by decide) ?_
          exact law_back X hXs hbl hbk hL hiL h hm hI go
        · refine r_tableIn (pc := 33) X 500 dL_law_33 (by decide) (by decide) rfl (by decide) ?_
          exact law_soon X hXs hbl hbk hL hiL h hm hI go
        · refine r_tableIn (pc := 33) X 523 dL_law_33 (by decide) (by decide) rfl (by decide) ?_
          exact law_plan X hXs hbl hbk hL hiL h hm hI go
        · refine r_tableIn (pc := 33) X 546 dL_law_33 (by decide) (by decide) rfl (by decide) ?_
          exact law_feel X hXs hbl hbk hL hiL h hm hI go
        · refine r_tableIn (pc := 33) X 579 dL_law_33 (by decide) (by decide) rfl (by decide) ?_
          exact law_names X hXs hbl hbk hL hiL h hm hI go
        · refine r_tableIn (pc := 33) X 602 dL_law_33 (by decide) (by decide) rfl (by decide) ?_
          exact law_came X hXs hbl hbk hL hiL h hm hI go
        · refine r_tableIn (pc := 33) X 625 dL_law_33 (by decide) (by decide) rfl (by decide) ?_
          exact law_seen X hXs hbl hbk hL hiL h hm hI go
        · refine r_tableIn (pc := 33) X 668 dL_law_33 (by decide) (by decide) rfl (by decide) ?_
          exact law_forget X hXs hbl hbk hL hiL h hm hI go
        · refine r_tableIn (pc := 33) X 681 dL_law_33 (by decide) (by decide) rfl (by decide) ?_
          exact law_strong X hXs hbl hbk hL hiL h hm hI go
        · refine r_tableIn (pc := 33) X 714 dL_law_33 (by decide) (by decide) rfl (by decide) ?_
          exact law_boasts X hXs hbl hbk hL hiL h hm hI go
        · refine r_tableIn (pc := 33) X 777 dL_law_33 (by decide) (by decide) rfl (by decide) ?_
          exact law_count X hXs hbl hbk hL hiL h hm hI go
      · refine r_tableOut (pc := 33) X 800 dL_law_33 (Or.inr (by rw [nI_toInt (by omega)]; omega)) (by decide) ?_
        exact go μ T S un A kf K n xs sn V h hm hI
theorem law_go (X : lC Γ p s m meth c b nm) (hk : kB Γ = s.heap.size) (hXs : va_X b L scr s s.heap) (hbl : b < s.heap.size) (hL : L ≤ 384) : vV Γ p l e room_1 s m #[Value.ref b] below meth c (lw_Z below #[Value.ref b] s) 4 0 0 0 [some (.ref b), none, none, none] [] (fun _ => none) := by
  obtain ⟨x, hx⟩ : ∃ x, x = s.heap.size := ⟨_, rfl⟩
  refine r_new' (pc := 0) X n_L_7 dL_law_0 (by omega) (by omega) (x) (by omega) ?_
  refine r_dup (pc := 3) X dL_law_3 rfl ?_
  refine c_v X (rI (pc := 4) X l_L_9 (tI_Cave (x := x) mu_self (by omega)) dL_law_4 rfl rfl (Nat.le_of_ble_eq_true rfl) (by decide) (Nat.le_of_ble_eq_true rfl) (Nat.le_of_ble_eq_true rfl)) ?_
  rintro μ1 ⟨hW1, hF1⟩
  refine r_astore_n (pc := 7) X dL_law_7 (by decide) rfl ?_
  refine r_new' (pc := 8) X n_L_10 dL_law_8 (by omega) (by omega) (x + 46) (by omega) ?_
  refine r_dup (pc := 11) X dL_law_11 rfl ?_
  refine c_v X (rI (pc := 12) X l_L_12 (tI_Model (y := x + 46) mu_self (by omega)) dL_law_12 rfl rfl (Nat.le_of_ble_eq_true rfl) (by decide) (Nat.le_of_ble_eq_true rfl) (Nat.le_of_ble_eq_true rfl)) ?_
  rintro μ2 ⟨hM2, hF2⟩
  have hW2 := hW1.kept (μ' := μ2) (fun q q1 q2 => (hF2 q (by omega)).trans (mu_ne (by omega)))
  refine r_astore_n (pc := 15) X dL_law_15 (by decide) rfl ?_
  refine r_iconst (pc := 16) (v := nI 0) X dL_law_16 (by decide) ?_
  refine r_istore_n (pc := 17) X dL_law_17 (by decide) rfl ?_
  exact law_loop X hk hXs hbl hL 64 0 (by omega) (by omega) μ2 _ _ _ _ _ _ _ _ _ _ hW2 hM2 inv_00
end S65
/-- from the entry, for every script of at most 384 ints, the law comes to its end with true -/
theorem whole_start {p : Program} {e : Env} {s : State} {m : MethodId} {below : List Frame} {meth : Method} {c : Code} (l : Launch) {b L : Nat} {xs : Nat → Int32} (hL : L ≤ 384) (C0 : lw_At p s m meth c b L xs) : W p l e room_1 s m #[Value.ref b] below meth c s.heap [] 0 0 (lw_Z below #[Value.ref b] s) (entryFrame m ([Value.ref b] : List Value).toArray 4) := by
  obtain ⟨Γ, hk, hGG⟩ := gg_start C0
  obtain ⟨hx, hb, hr, hml, hown, hts, hX, hbl, hlocks, hgv⟩ := C0
  have hG : ∀ w ∈ GT, w.before #[Value.ref b] s = true := fun w h => hts w (List.mem_filter.mp h).1
  have X : lC Γ p s m meth c b meth.name := ⟨hx, hb, hr, hml, hown, hG, hGG, Nat.le_of_eq hk, hlocks, rfl, by decide, by decide, by decide, by decide⟩
  rw [lg_entry_eq]
  exact law_go X hk hX hbl hL s.heap [] _ (fun a e h => by cases h) rfl va_S.rf (lh.entry (vs := [Value.ref b]) (n := 4) (Nat.le_of_ble_eq_true rfl))
