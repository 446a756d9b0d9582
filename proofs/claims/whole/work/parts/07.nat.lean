theorem nI_bv (a : Nat) : (nI a).toBitVec = BitVec.ofNat 32 a := rfl
theorem nJ_add (a b : Nat) : nI a + nI b = nI (a + b) := (Int32.ofNat_add a b).symm
theorem nI_mul (a b : Nat) : nI a * nI b = nI (a * b) := (Int32.ofNat_mul a b).symm
theorem nI_sub {a b : Nat} (h : b ≤ a) : nI a - nI b = nI (a - b) := by
  have h1 : nI (a - b) + nI b = nI a := by rw [nJ_add, Nat.sub_add_cancel h]
  rw [← h1]
  simp [Int32.add_sub_cancel]
theorem nI_and (a b : Nat) : nI a &&& nI b = nI (a &&& b) := by
  apply Int32.toBitVec_inj.mp
  rw [Int32.toBitVec_and, nI_bv, nI_bv, nI_bv]
  apply BitVec.eq_of_toNat_eq
  simp [Nat.and_mod_two_pow]
theorem nI_or (a b : Nat) : nI a ||| nI b = nI (a ||| b) := by
  apply Int32.toBitVec_inj.mp
  rw [Int32.toBitVec_or, nI_bv, nI_bv, nI_bv]
  apply BitVec.eq_of_toNat_eq
  simp [Nat.or_mod_two_pow]
theorem nI_eq_iff {a b : Nat} (ha : a < 2 ^ 31) (hb : b < 2 ^ 31) : nI a = nI b ↔ a = b := by
  constructor
  · intro h
    have h1 := nI_clamp ha
    rw [h, nI_clamp hb] at h1
    exact h1.symm
  · rintro rfl; rfl
theorem nI_lt_iff {a b : Nat} (ha : a < 2 ^ 31) (hb : b < 2 ^ 31) : nI a < nI b ↔ a < b := by
  rw [Int32.lt_iff_toInt_lt, nI_toInt ha, nI_toInt hb]; omega
theorem nI_le_iff {a b : Nat} (ha : a < 2 ^ 31) (hb : b < 2 ^ 31) : nI a ≤ nI b ↔ a ≤ b := by
  rw [Int32.le_iff_toInt_le, nI_toInt ha, nI_toInt hb]; omega
theorem nI_shl5 : ∀ k, k < 32 → (nI k &&& 31) = nI k := by decide +kernel
theorem nI_shl {a k : Nat} (hk : k < 32) : nI a <<< (nI k &&& 31) = nI (a <<< k) := by
  rw [nI_shl5 k hk]
  apply Int32.toBitVec_inj.mp
  rw [Int32.toBitVec_shiftLeft, nI_bv, nI_bv, nI_bv]
  apply BitVec.eq_of_toNat_eq
  have e : (BitVec.smod (BitVec.ofNat 32 k) (32 : BitVec 32)).toNat = k := by
    have : ∀ k, k < 32 → (BitVec.smod (BitVec.ofNat 32 k) (32 : BitVec 32)).toNat = k := by decide +kernel
    exact this k hk
  simp only [BitVec.shiftLeft_eq', BitVec.toNat_shiftLeft, BitVec.toNat_ofNat]
  rw [e]
  simp [Nat.shiftLeft_eq, Nat.mod_mul_mod]
theorem nI_shr {a k : Nat} (ha : a < 2 ^ 31) (hk : k < 32) : nI a >>> (nI k &&& 31) = nI (a >>> k) := by
  rw [nI_shl5 k hk]
  apply Int32.toInt_inj.mp
  have hle : a >>> k ≤ a := by rw [Nat.shiftRight_eq_div_pow]; exact Nat.div_le_self _ _
  rw [nI_toInt (Nat.lt_of_le_of_lt hle ha)]
  have e : (BitVec.smod (BitVec.ofNat 32 k) (32 : BitVec 32)).toNat = k := by
    have : ∀ k, k < 32 → (BitVec.smod (BitVec.ofNat 32 k) (32 : BitVec 32)).toNat = k := by decide +kernel
    exact this k hk
  show (nI a >>> nI k).toBitVec.toInt = _
  rw [Int32.toBitVec_shiftRight, nI_bv k]
  rw [BitVec.sshiftRight_eq', e, BitVec.toInt_sshiftRight]
  have h2 : (nI a).toBitVec.toInt = (a : Int) := nI_toInt ha
  rw [h2]
  simp [Int.shiftRight_eq_div_pow, Nat.shiftRight_eq_div_pow]
theorem nI_div {a b : Nat} (ha : a < 2 ^ 31) (hb : b < 2 ^ 31) : nI a / nI b = nI (a / b) := by
  apply Int32.toInt_inj.mp
  have h1 : a / b ≤ a := Nat.div_le_self _ _
  rw [nI_toInt (Nat.lt_of_le_of_lt h1 ha), Int32.toInt_div, nI_toInt ha, nI_toInt hb]
  rw [Int.tdiv_eq_ediv_of_nonneg (by omega)]
  rw [Int.bmod_eq_of_le]
  · simp
  · have : (0 : Int) ≤ (a : Int) / (b : Int) := Int.ediv_nonneg (by omega) (by omega)
    simp; omega
  · have h3 : ((a / b : Nat) : Int) = (a : Int) / (b : Int) := by simp
    rw [← h3]; simp; omega
theorem nI_rem {a b : Nat} (ha : a < 2 ^ 31) (hb : b < 2 ^ 31) : nI a - nI a / nI b * nI b = nI (a % b) := by
  rw [nI_div ha hb, nI_mul, nI_sub (Nat.div_mul_le_self a b)]
  congr 1
  have := Nat.mod_add_div a b
  rw [Nat.mul_comm] at this
  omega
def zb (b : Bool) : Int32 := if b then nI 1 else nI 0
theorem zb_t : zb true = nI 1 := rfl
theorem zb_f : zb false = nI 0 := rfl
theorem zb_nar (b : Bool) : narrow .boolean (.int (zb b)) = .int (zb b) := by cases b <;> rfl
/-- a code of 'none or a number': 0 is none -/
def uI (w : Nat) : Int32 := nI w - nI 1
theorem uI_0 : uI 0 = -1 := by decide +kernel
theorem uI_S (a : Nat) : uI (a + 1) = nI a := nI_sub (by omega)
theorem uI_toInt {w : Nat} (h : w < 2 ^ 31) : (uI w).toInt = (w : Int) - 1 := by
  cases w with
  | zero => rw [uI_0]; decide
  | succ a => rw [uI_S, nI_toInt (by omega)]; omega
theorem uI_eq {a b : Nat} (ha : a < 2 ^ 31) (hb : b < 2 ^ 31) : uI a = uI b ↔ a = b := by
  constructor
  · intro h
    have h1 := uI_toInt ha
    rw [h, uI_toInt hb] at h1
    omega
  · rintro rfl; rfl
theorem uI_lt0 {a : Nat} (ha : a < 2 ^ 31) : uI a < nI 0 ↔ a = 0 := by
  rw [Int32.lt_iff_toInt_lt, uI_toInt ha, nI_toInt (by omega)]; omega
/-- every int is a number from 0 on, or below 0 -/
theorem i_cases (x : Int32) : (∃ n, n < 2 ^ 31 ∧ x = nI n) ∨ (x < nI 0 ∧ x.toInt < 0) := by
  by_cases h : x.toInt < 0
  · right
    refine ⟨?_, h⟩
    rw [Int32.lt_iff_toInt_lt, nI_toInt (by omega)]
    exact h
  · left
    have h2 := Int32.toInt_lt x
    refine ⟨x.toInt.toNat, by omega, ?_⟩
    apply Int32.toInt_inj.mp
    rw [nI_toInt (by omega)]
    omega
section LN
variable {Γ : KK} {p : Program} {l : Launch} {e : Env} {R : Room} {s : State} {m : MethodId} {args : Array Value} {below : List Frame} {meth : Method} {c : Code} {Q : State → Prop} {cc : ByteArray} {ret : Option FieldType} {nm own : String} {k mc ms nL cells slots pc : Nat} {lv : List (Option Value)} {st : List Value} {μ : MM}
theorem r_iaddN (X : cX Γ p R s m args meth c cc ret nm own k mc ms nL) {a b : Nat} (hd : decode cc pc = .ok (.iadd, 1)) (kk : vV Γ p l e R s m args below meth c Q nL (cells) (slots) (pc + 1) (lv) (.int (nI (a + b)) :: st) (μ)) : vV Γ p l e R s m args below meth c Q nL (cells) (slots) (pc) (lv) (.int (nI b) :: .int (nI a) :: st) (μ) := r_iadd X hd (by rw [nJ_add]; exact kk)
theorem r_imulN (X : cX Γ p R s m args meth c cc ret nm own k mc ms nL) {a b : Nat} (hd : decode cc pc = .ok (.imul, 1)) (kk : vV Γ p l e R s m args below meth c Q nL (cells) (slots) (pc + 1) (lv) (.int (nI (a * b)) :: st) (μ)) : vV Γ p l e R s m args below meth c Q nL (cells) (slots) (pc) (lv) (.int (nI b) :: .int (nI a) :: st) (μ) := r_imul X hd (by rw [nI_mul]; exact kk)
theorem r_isubN (X : cX Γ p R s m args meth c cc ret nm own k mc ms nL) {a b : Nat} (hd : decode cc pc = .ok (.isub, 1)) (h : b ≤ a) (kk : vV Γ p l e R s m args below meth c Q nL (cells) (slots) (pc + 1) (lv) (.int (nI (a - b)) :: st) (μ)) : vV Γ p l e R s m args below meth c Q nL (cells) (slots) (pc) (lv) (.int (nI b) :: .int (nI a) :: st) (μ) := r_isub X hd (by rw [nI_sub h]; exact kk)
theorem r_iandN (X : cX Γ p R s m args meth c cc ret nm own k mc ms nL) {a b : Nat} (hd : decode cc pc = .ok (.iand, 1)) (kk : vV Γ p l e R s m args below meth c Q nL (cells) (slots) (pc + 1) (lv) (.int (nI (a &&& b)) :: st) (μ)) : vV Γ p l e R s m args below meth c Q nL (cells) (slots) (pc) (lv) (.int (nI b) :: .int (nI a) :: st) (μ) := r_iand X hd (by rw [nI_and]; exact kk)
theorem r_iorN (X : cX Γ p R s m args meth c cc ret nm own k mc ms nL) {a b : Nat} (hd : decode cc pc = .ok (.ior, 1)) (kk : vV Γ p l e R s m args below meth c Q nL (cells) (slots) (pc + 1) (lv) (.int (nI (a ||| b)) :: st) (μ)) : vV Γ p l e R s m args below meth c Q nL (cells) (slots) (pc) (lv) (.int (nI b) :: .int (nI a) :: st) (μ) := r_ior X hd (by rw [nI_or]; exact kk)
theorem r_ishlN (X : cX Γ p R s m args meth c cc ret nm own k mc ms nL) {a b : Nat} (hd : decode cc pc = .ok (.ishl, 1)) (h : b < 32) (kk : vV Γ p l e R s m args below meth c Q nL (cells) (slots) (pc + 1) (lv) (.int (nI (a <<< b)) :: st) (μ)) : vV Γ p l e R s m args below meth c Q nL (cells) (slots) (pc) (lv) (.int (nI b) :: .int (nI a) :: st) (μ) := r_ishl X hd (by rw [nI_shl h]; exact kk)
theorem r_ishrN (X : cX Γ p R s m args meth c cc ret nm own k mc ms nL) {a b : Nat} (hd : decode cc pc = .ok (.ishr, 1)) (h2 : a < 2 ^ 31) (h : b < 32) (kk : vV Γ p l e R s m args below meth c Q nL (cells) (slots) (pc + 1) (lv) (.int (nI (a >>> b)) :: st) (μ)) : vV Γ p l e R s m args below meth c Q nL (cells) (slots) (pc) (lv) (.int (nI b) :: .int (nI a) :: st) (μ) := r_ishr X hd (by rw [nI_shr h2 h]; exact kk)
theorem r_idivN (X : cX Γ p R s m args meth c cc ret nm own k mc ms nL) {a b : Nat} (hd : decode cc pc = .ok (.idiv, 1)) (h2 : a < 2 ^ 31) (h : b < 2 ^ 31) (h0 : 0 < b) (kk : vV Γ p l e R s m args below meth c Q nL (cells) (slots) (pc + 1) (lv) (.int (nI (a / b)) :: st) (μ)) : vV Γ p l e R s m args below meth c Q nL (cells) (slots) (pc) (lv) (.int (nI b) :: .int (nI a) :: st) (μ) := r_idiv X hd (nI_ne0 h0 h) (by rw [nI_div h2 h]; exact kk)
theorem r_iremN (X : cX Γ p R s m args meth c cc ret nm own k mc ms nL) {a b : Nat} (hd : decode cc pc = .ok (.irem, 1)) (h2 : a < 2 ^ 31) (h : b < 2 ^ 31) (h0 : 0 < b) (kk : vV Γ p l e R s m args below meth c Q nL (cells) (slots) (pc + 1) (lv) (.int (nI (a % b)) :: st) (μ)) : vV Γ p l e R s m args below meth c Q nL (cells) (slots) (pc) (lv) (.int (nI b) :: .int (nI a) :: st) (μ) := r_irem X hd (nI_ne0 h0 h) (by rw [nI_rem h2 h]; exact kk)
theorem r_iincN (X : cX Γ p R s m args meth c cc ret nm own k mc ms nL) {j a b : Nat} (hd : decode cc pc = .ok (.iinc j (b : Int), 3)) (hl : lv[j]? = some (some (.int (nI a)))) (hn : j < nL) (ho : lok lv j = true) (kk : vV Γ p l e R s m args below meth c Q nL (cells) (slots) (pc + 3) (lv.set j (some (.int (nI (a + b))))) (st) (μ)) : vV Γ p l e R s m args below meth c Q nL (cells) (slots) (pc) (lv) (st) (μ) := r_iinc X hd hl (v := nI (a + b)) (by rw [← nJ_add]; rfl) hn ho kk
theorem r_iincD (X : cX Γ p R s m args meth c cc ret nm own k mc ms nL) {j a : Nat} (hd : decode cc pc = .ok (.iinc j (-1), 3)) (hl : lv[j]? = some (some (.int (nI (a + 1))))) (hn : j < nL) (ho : lok lv j = true) (kk : vV Γ p l e R s m args below meth c Q nL (cells) (slots) (pc + 3) (lv.set j (some (.int (nI a)))) (st) (μ)) : vV Γ p l e R s m args below meth c Q nL (cells) (slots) (pc) (lv) (st) (μ) := r_iinc X hd hl (v := nI a) (by rw [show Int32.ofInt (-1) = -1 from by decide, ← Int32.sub_eq_add_neg]; exact nI_pred a) hn ho kk
theorem r_icmp_eqN (X : cX Γ p R s m args meth c cc ret nm own k mc ms nL) {a b : Nat} {off : Int} (tgt : Nat) (hd : decode cc pc = .ok (.if_icmp .eq off, 3)) (ht : (pc : Int) + off = (tgt : Int)) (ha : a < 2 ^ 31) (hb : b < 2 ^ 31) (kt : a = b → vV Γ p l e R s m args below meth c Q nL (cells) (slots) (tgt) (lv) (st) (μ)) (kf : ¬ (a = b) → vV Γ p l e R s m args below meth c Q nL (cells) (slots) (pc + 3) (lv) (st) (μ)) : vV Γ p l e R s m args below meth c Q nL (cells) (slots) (pc) (lv) (.int (nI b) :: .int (nI a) :: st) (μ) := r_icmp_eq X tgt hd ht (fun q => kt ((nI_eq_iff ha hb).mp q)) (fun q => kf (fun z => q ((nI_eq_iff ha hb).mpr z)))
theorem r_if_eqN (X : cX Γ p R s m args meth c cc ret nm own k mc ms nL) {a : Nat} {off : Int} (tgt : Nat) (hd : decode cc pc = .ok (.ifCond .eq off, 3)) (ht : (pc : Int) + off = (tgt : Int)) (ha : a < 2 ^ 31) (kt : a = 0 → vV Γ p l e R s m args below meth c Q nL (cells) (slots) (tgt) (lv) (st) (μ)) (kf : ¬ (a = 0) → vV Γ p l e R s m args below meth c Q nL (cells) (slots) (pc + 3) (lv) (st) (μ)) : vV Γ p l e R s m args below meth c Q nL (cells) (slots) (pc) (lv) (.int (nI a) :: st) (μ) := r_if_eq X tgt hd ht (fun q => kt ((nI_eq_iff ha (by omega)).mp q)) (fun q => kf (fun z => q ((nI_eq_iff ha (by omega)).mpr z)))
theorem r_icmp_neN (X : cX Γ p R s m args meth c cc ret nm own k mc ms nL) {a b : Nat} {off : Int} (tgt : Nat) (hd : decode cc pc = .ok (.if_icmp .ne off, 3)) (ht : (pc : Int) + off = (tgt : Int)) (ha : a < 2 ^ 31) (hb : b < 2 ^ 31) (kt : ¬ a = b → vV Γ p l e R s m args below meth c Q nL (cells) (slots) (tgt) (lv) (st) (μ)) (kf : a = b → vV Γ p l e R s m args below meth c Q nL (cells) (slots) (pc + 3) (lv) (st) (μ)) : vV Γ p l e R s m args below meth c Q nL (cells) (slots) (pc) (lv) (.int (nI b) :: .int (nI a) :: st) (μ) := r_icmp_ne X tgt hd ht (fun q => kt (fun z => q (by rw [z]))) (fun q => kf ((nI_eq_iff ha hb).mp q))
theorem r_if_neN (X : cX Γ p R s m args meth c cc ret nm own k mc ms nL) {a : Nat} {off : Int} (tgt : Nat) (hd : decode cc pc = .ok (.ifCond .ne off, 3)) (ht : (pc : Int) + off = (tgt : Int)) (ha : a < 2 ^ 31) (kt : ¬ a = 0 → vV Γ p l e R s m args below meth c Q nL (cells) (slots) (tgt) (lv) (st) (μ)) (kf : a = 0 → vV Γ p l e R s m args below meth c Q nL (cells) (slots) (pc + 3) (lv) (st) (μ)) : vV Γ p l e R s m args below meth c Q nL (cells) (slots) (pc) (lv) (.int (nI a) :: st) (μ) := r_if_ne X tgt hd ht (fun q => kt (fun z => q (by rw [z]))) (fun q => kf ((nI_eq_iff ha (by omega)).mp q))
theorem r_icmp_ltN (X : cX Γ p R s m args meth c cc ret nm own k mc ms nL) {a b : Nat} {off : Int} (tgt : Nat) (hd : decode cc pc = .ok (.if_icmp .lt off, 3)) (ht : (pc : Int) + off = (tgt : Int)) (ha : a < 2 ^ 31) (hb : b < 2 ^ 31) (kt : a < b → vV Γ p l e R s m args below meth c Q nL (cells) (slots) (tgt) (lv) (st) (μ)) (kf : ¬ (a < b) → vV Γ p l e R s m args below meth c Q nL (cells) (slots) (pc + 3) (lv) (st) (μ)) : vV Γ p l e R s m args below meth c Q nL (cells) (slots) (pc) (lv) (.int (nI b) :: .int (nI a) :: st) (μ) := r_icmp_lt X tgt hd ht (fun q => kt ((nI_lt_iff ha hb).mp q)) (fun q => kf (fun z => q ((nI_lt_iff ha hb).mpr z)))
theorem r_if_ltN (X : cX Γ p R s m args meth c cc ret nm own k mc ms nL) {a : Nat} {off : Int} (tgt : Nat) (hd : decode cc pc = .ok (.ifCond .lt off, 3)) (ht : (pc : Int) + off = (tgt : Int)) (ha : a < 2 ^ 31) (kt : a < 0 → vV Γ p l e R s m args below meth c Q nL (cells) (slots) (tgt) (lv) (st) (μ)) (kf : ¬ (a < 0) → vV Γ p l e R s m args below meth c Q nL (cells) (slots) (pc + 3) (lv) (st) (μ)) : vV Γ p l e R s m args below meth c Q nL (cells) (slots) (pc) (lv) (.int (nI a) :: st) (μ) := r_if_lt X tgt hd ht (fun q => kt ((nI_lt_iff ha (by omega)).mp q)) (fun q => kf (fun z => q ((nI_lt_iff ha (by omega)).mpr z)))
theorem r_icmp_geN (X : cX Γ p R s m args meth c cc ret nm own k mc ms nL) {a b : Nat} {off : Int} (tgt : Nat) (hd : decode cc pc = .ok (.if_icmp .ge off, 3)) (ht : (pc : Int) + off = (tgt : Int)) (ha : a < 2 ^ 31) (hb : b < 2 ^ 31) (kt : b ≤ a → vV Γ p l e R s m args below meth c Q nL (cells) (slots) (tgt) (lv) (st) (μ)) (kf : ¬ (b ≤ a) → vV Γ p l e R s m args below meth c Q nL (cells) (slots) (pc + 3) (lv) (st) (μ)) : vV Γ p l e R s m args below meth c Q nL (cells) (slots) (pc) (lv) (.int (nI b) :: .int (nI a) :: st) (μ) := r_icmp_ge X tgt hd ht (fun q => kt ((nI_le_iff hb ha).mp q)) (fun q => kf (fun z => q ((nI_le_iff hb ha).mpr z)))
theorem r_if_geN (X : cX Γ p R s m args meth c cc ret nm own k mc ms nL) {a : Nat} {off : Int} (tgt : Nat) (hd : decode cc pc = .ok (.ifCond .ge off, 3)) (ht : (pc : Int) + off = (tgt : Int)) (ha : a < 2 ^ 31) (kt : 0 ≤ a → vV Γ p l e R s m args below meth c Q nL (cells) (slots) (tgt) (lv) (st) (μ)) (kf : ¬ (0 ≤ a) → vV Γ p l e R s m args below meth c Q nL (cells) (slots) (pc + 3) (lv) (st) (μ)) : vV Γ p l e R s m args below meth c Q nL (cells) (slots) (pc) (lv) (.int (nI a) :: st) (μ) := r_if_ge X tgt hd ht (fun q => kt ((nI_le_iff (by omega) ha).mp q)) (fun q => kf (fun z => q ((nI_le_iff (by omega) ha).mpr z)))
theorem r_icmp_gtN (X : cX Γ p R s m args meth c cc ret nm own k mc ms nL) {a b : Nat} {off : Int} (tgt : Nat) (hd : decode cc pc = .ok (.if_icmp .gt off, 3)) (ht : (pc : Int) + off = (tgt : Int)) (ha : a < 2 ^ 31) (hb : b < 2 ^ 31) (kt : b < a → vV Γ p l e R s m args below meth c Q nL (cells) (slots) (tgt) (lv) (st) (μ)) (kf : ¬ (b < a) → vV Γ p l e R s m args below meth c Q nL (cells) (slots) (pc + 3) (lv) (st) (μ)) : vV Γ p l e R s m args below meth c Q nL (cells) (slots) (pc) (lv) (.int (nI b) :: .int (nI a) :: st) (μ) := r_icmp_gt X tgt hd ht (fun q => kt ((nI_lt_iff hb ha).mp q)) (fun q => kf (fun z => q ((nI_lt_iff hb ha).mpr z)))
theorem r_if_gtN (X : cX Γ p R s m args meth c cc ret nm own k mc ms nL) {a : Nat} {off : Int} (tgt : Nat) (hd : decode cc pc = .ok (.ifCond .gt off, 3)) (ht : (pc : Int) + off = (tgt : Int)) (ha : a < 2 ^ 31) (kt : 0 < a → vV Γ p l e R s m args below meth c Q nL (cells) (slots) (tgt) (lv) (st) (μ)) (kf : ¬ (0 < a) → vV Γ p l e R s m args below meth c Q nL (cells) (slots) (pc + 3) (lv) (st) (μ)) : vV Γ p l e R s m args below meth c Q nL (cells) (slots) (pc) (lv) (.int (nI a) :: st) (μ) := r_if_gt X tgt hd ht (fun q => kt ((nI_lt_iff (by omega) ha).mp q)) (fun q => kf (fun z => q ((nI_lt_iff (by omega) ha).mpr z)))
theorem r_icmp_leN (X : cX Γ p R s m args meth c cc ret nm own k mc ms nL) {a b : Nat} {off : Int} (tgt : Nat) (hd : decode cc pc = .ok (.if_icmp .le off, 3)) (ht : (pc : Int) + off = (tgt : Int)) (ha : a < 2 ^ 31) (hb : b < 2 ^ 31) (kt : a ≤ b → vV Γ p l e R s m args below meth c Q nL (cells) (slots) (tgt) (lv) (st) (μ)) (kf : ¬ (a ≤ b) → vV Γ p l e R s m args below meth c Q nL (cells) (slots) (pc + 3) (lv) (st) (μ)) : vV Γ p l e R s m args below meth c Q nL (cells) (slots) (pc) (lv) (.int (nI b) :: .int (nI a) :: st) (μ) := r_icmp_le X tgt hd ht (fun q => kt ((nI_le_iff ha hb).mp q)) (fun q => kf (fun z => q ((nI_le_iff ha hb).mpr z)))
theorem r_if_leN (X : cX Γ p R s m args meth c cc ret nm own k mc ms nL) {a : Nat} {off : Int} (tgt : Nat) (hd : decode cc pc = .ok (.ifCond .le off, 3)) (ht : (pc : Int) + off = (tgt : Int)) (ha : a < 2 ^ 31) (kt : a ≤ 0 → vV Γ p l e R s m args below meth c Q nL (cells) (slots) (tgt) (lv) (st) (μ)) (kf : ¬ (a ≤ 0) → vV Γ p l e R s m args below meth c Q nL (cells) (slots) (pc + 3) (lv) (st) (μ)) : vV Γ p l e R s m args below meth c Q nL (cells) (slots) (pc) (lv) (.int (nI a) :: st) (μ) := r_if_le X tgt hd ht (fun q => kt ((nI_le_iff ha (by omega)).mp q)) (fun q => kf (fun z => q ((nI_le_iff ha (by omega)).mpr z)))
theorem zb_0 {b : Bool} : zb b = nI 0 ↔ b = false := by cases b <;> decide
theorem r_if_eqZ (X : cX Γ p R s m args meth c cc ret nm own k mc ms nL) {b : Bool} {off : Int} (tgt : Nat) (hd : decode cc pc = .ok (.ifCond .eq off, 3)) (ht : (pc : Int) + off = (tgt : Int)) (kt : b = false → vV Γ p l e R s m args below meth c Q nL (cells) (slots) (tgt) (lv) (st) (μ)) (kf : b = true → vV Γ p l e R s m args below meth c Q nL (cells) (slots) (pc + 3) (lv) (st) (μ)) : vV Γ p l e R s m args below meth c Q nL (cells) (slots) (pc) (lv) (.int (zb b) :: st) (μ) := r_if_eq X tgt hd ht (fun q => kt (zb_0.mp q)) (fun q => kf (by cases b; exact absurd rfl q; rfl))
theorem r_if_neZ (X : cX Γ p R s m args meth c cc ret nm own k mc ms nL) {b : Bool} {off : Int} (tgt : Nat) (hd : decode cc pc = .ok (.ifCond .ne off, 3)) (ht : (pc : Int) + off = (tgt : Int)) (kt : b = true → vV Γ p l e R s m args below meth c Q nL (cells) (slots) (tgt) (lv) (st) (μ)) (kf : b = false → vV Γ p l e R s m args below meth c Q nL (cells) (slots) (pc + 3) (lv) (st) (μ)) : vV Γ p l e R s m args below meth c Q nL (cells) (slots) (pc) (lv) (.int (zb b) :: st) (μ) := r_if_ne X tgt hd ht (fun q => kt (by cases b; exact absurd rfl q; rfl)) (fun q => kf (zb_0.mp q))
/-- a method's start, with its locals written out -/
theorem CT.go {k sz mc ms : Nat} {y : MethodName} {cc : ByteArray} {nL : Nat} {ret : Option FieldType} {av : List Value} {post : Option Value → MM → Prop} (own : String) (ho : y.cls = own) (nm : String) (hnm : y.name = nm) (lv0 : List (Option Value)) (hlv : lve av ++ List.replicate (nL - (lve av).length) none = lv0) (hy : plainName y.cls = true) (ha : (lg_sl av).length ≤ nL)
    (body : ∀ (p : Program) (e : Env) (R : Room) (s : State) (m : MethodId) (args : Array Value) (below : List Frame) (meth : Method) (c : Code), cX Γ p R s m args meth c cc ret nm own k mc ms nL → s.heap.size = sz →
      vV Γ p l e R s m args below meth c (vQ Γ s args below mc ms post) nL 0 0 0 lv0 [] μ) : CT Γ l k sz mc ms (y, cc, nL, ret) av μ post := by
  subst ho; subst hnm; subst hlv
  exact CT.start hy ha (fun p e R s m below meth c X hz => body p e R s m _ below meth c X hz)
end LN
