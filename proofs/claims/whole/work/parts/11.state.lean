/-! ===== what the cells are ===== -/
def upN (f : Nat → Nat) (k v : Nat) : Nat → Nat := fun i => if i = k then v else f i
theorem upN_self (f : Nat → Nat) (k v : Nat) : upN f k v k = v := if_pos rfl
theorem upN_ne {f : Nat → Nat} {k v i : Nat} (h : i ≠ k) : upN f k v i = f i := if_neg h
def mkb : Nat → (Nat → Bool) → Nat
  | 0, _ => 0
  | n + 1, p => mkb n p ||| (if p n then 1 <<< n else 0)
theorem mkb_test (n : Nat) (p : Nat → Bool) (k : Nat) : (mkb n p).testBit k = (decide (k < n) && p k) := by
  induction n with
  | zero => simp [mkb]
  | succ n ih =>
    simp only [mkb, Nat.testBit_or, ih]
    by_cases hp : p n = true
    · rw [if_pos hp, Nat.testBit_shiftLeft]
      by_cases h1 : k = n
      · subst h1; simp [hp]
      · by_cases h2 : k < n
        · have : ¬ k ≥ n := by omega
          simp [h2, this, show k < n + 1 by omega]
        · have h3 : k ≥ n := by omega
          have h4 : ¬ k < n + 1 := by omega
          have h5 : k - n ≠ 0 := by omega
          have h6 : Nat.testBit 1 (k - n) = false := by
            exact Bool.eq_false_iff.mpr (fun q => h5 (Nat.testBit_one_eq_true_iff_self_eq_zero.mp q))
          simp [h2, h4, h6]
    · rw [if_neg hp]
      by_cases h1 : k = n
      · subst h1
        have : p k = false := by simpa using hp
        simp [this]
      · have : (k < n + 1) = (k < n) := by simp; omega
        simp [this]
theorem mkb_lt (n : Nat) (p : Nat → Bool) : mkb n p < 2 ^ n := by
  apply Nat.lt_pow_two_of_testBit
  intro i hi
  rw [mkb_test]
  have : ¬ i < n := by omega
  simp [this]
theorem mkb_congr {n : Nat} {p q : Nat → Bool} (h : ∀ k, k < n → p k = q k) : mkb n p = mkb n q := by
  apply Nat.eq_of_testBit_eq
  intro i
  rw [mkb_test, mkb_test]
  by_cases hi : i < n
  · simp [hi, h i hi]
  · simp [hi]
theorem mkb_lt64 {n : Nat} (hn : n ≤ 6) (p : Nat → Bool) : mkb n p < 64 := Nat.lt_of_lt_of_le (mkb_lt n p) (by have := Nat.pow_le_pow_right (n := 2) (by decide) hn; simpa using this)
theorem pow6 {n : Nat} (hn : n ≤ 6) : 2 ^ n ≤ 64 := by have := Nat.pow_le_pow_right (n := 2) (by decide) hn; simpa using this
/-- what texts told, as 29 numbers -/
def IT (T : Nat → Nat) : Prop := T 0 ≤ 6 ∧ T 7 ≤ 6 ∧ T 20 ≤ 4 ∧ (∀ i, i < 6 → T (1 + i) ≤ 20) ∧ (∀ i, i < 6 → T (8 + i) ≤ 3) ∧ (∀ i, i < 6 → T (14 + i) ≤ 20) ∧ (∀ i, i < 4 → T (21 + i) ≤ 255) ∧ T 25 ≤ 50 ∧ T 26 ≤ 9 ∧ T 27 ≤ 9 ∧ T 28 ≤ 3
abbrev toldO (a : Nat) (T : Nat → Nat) : va_E := xO 5 [.int (nI (T 0)), .int (nI (T 7)), .int (nI (T 20)), .int (nI (T 25)), .int (nI (T 26)), .int (nI (T 27)), .int (nI (T 28)), .ref (a + 1), .ref (a + 2), .ref (a + 3), .ref (a + 4)]
def ToldAt (Γ : KK) (μ : MM) (a : Nat) (T : Nat → Nat) : Prop := μ a = some (toldO a T) ∧ μ (a + 1) = some (xI Γ 6 (fun i => nI (T (1 + i)))) ∧ μ (a + 2) = some (xI Γ 6 (fun i => nI (T (8 + i)))) ∧ μ (a + 3) = some (xI Γ 6 (fun i => nI (T (14 + i)))) ∧ μ (a + 4) = some (xI Γ 4 (fun i => nI (T (21 + i))))
/-- outside of n cells from a on nothing changed -/
def Fr (a n : Nat) (μ μ' : MM) : Prop := ∀ q : Nat, (q < a ∨ a + n ≤ q) → μ' q = μ q
theorem Fr.tr {a n : Nat} {μ μ1 μ2 : MM} (h1 : Fr a n μ μ1) (h2 : Fr a n μ1 μ2) : Fr a n μ μ2 := fun q hq => (h2 q hq).trans (h1 q hq)
theorem Fr.rf {a n : Nat} {μ : MM} : Fr a n μ μ := fun _ _ => rfl
theorem Fr.up {a n b k : Nat} {μ μ' : MM} (h : Fr b k μ μ') (h1 : a ≤ b) (h2 : b + k ≤ a + n) : Fr a n μ μ' := fun q hq => h q (by omega)
theorem ToldAt.kept {Γ : KK} {μ μ' : MM} {a : Nat} {T : Nat → Nat} (h : ToldAt Γ μ a T) (hq : ∀ q : Nat, a ≤ q → q < a + 5 → μ' q = μ q) : ToldAt Γ μ' a T :=
  ⟨(hq _ (by omega) (by omega)).trans h.1, (hq _ (by omega) (by omega)).trans h.2.1, (hq _ (by omega) (by omega)).trans h.2.2.1, (hq _ (by omega) (by omega)).trans h.2.2.2.1, (hq _ (by omega) (by omega)).trans h.2.2.2.2⟩
/-- a scene: nine numbers and the row of who is under what -/
def ScAt (Γ : KK) (μ : MM) (a : Nat) (v u : Nat → Int32) : Prop := μ a = some (xO 2 [.int (v 0), .int (v 1), .int (v 2), .int (v 3), .int (v 4), .int (v 5), .int (v 6), .int (v 7), .int (v 8), .ref (a + 1)]) ∧ μ (a + 1) = some (xI Γ 6 u) ∧ (v 4 = nI 0 ∨ v 4 = nI 1)
theorem ScAt.kept {Γ : KK} {μ μ' : MM} {a : Nat} {v u : Nat → Int32} (h : ScAt Γ μ a v u) (hq : ∀ q : Nat, a ≤ q → q < a + 2 → μ' q = μ q) : ScAt Γ μ' a v u := ⟨(hq _ (by omega) (by omega)).trans h.1, (hq _ (by omega) (by omega)).trans h.2.1, h.2.2⟩
/-- of the men: who is so (0 in, 1 out, 2 eaten), as bits -/
def msk (men : Nat) (S : Nat → Nat) (h : Nat) : Nat := mkb men (fun m => S (6 + m) == h)
def scV (men : Nat) (S : Nat → Nat) : Nat → Int32 := fun k => match k with
  | 0 => nI (S 4)
  | 1 => nI (S 0)
  | 2 => nI (S 1)
  | 3 => nI (S 2)
  | 4 => nI (S 3)
  | 5 => nI (msk men S 0)
  | 6 => nI (msk men S 1)
  | 7 => nI (msk men S 2)
  | _ => nI (S 5)
theorem scV_4 {men : Nat} {S : Nat → Nat} (h : S 3 ≤ 1) : scV men S 4 = nI 0 ∨ scV men S 4 = nI 1 := by
  show nI (S 3) = nI 0 ∨ nI (S 3) = nI 1
  rcases (show S 3 = 0 ∨ S 3 = 1 by omega) with h | h <;> rw [h] <;> simp
theorem bool_ok {v : Int32} (h : v = nI 0 ∨ v = nI 1) : narrow .boolean (.int v) = .int v ∧ fits .boolean (.int v) = true := by
  rcases h with h | h <;> rw [h] <;> exact ⟨rfl, rfl⟩
def scU (S : Nat → Nat) : Nat → Int32 := fun m => uI (S (12 + m))
/-- what deeds change, as 18 numbers: cups, drunk, stake, blind, day, gone; how each man is; under what (0 none, else the sheep and 1) -/
def IS (T S : Nat → Nat) : Prop := S 0 + S 1 ≤ 50 ∧ S 2 ≤ 9 ∧ S 3 ≤ 1 ∧ S 4 ≤ 99 ∧ S 5 < 2 ^ T 7 ∧ (∀ m, m < 6 → S (6 + m) ≤ 2) ∧ (∀ m, m < 6 → S (12 + m) ≤ T 7) ∧ (∀ m, m < 6 → S (12 + m) ≠ 0 → m < T 0 ∧ S (6 + m) = 0) ∧ (∀ m n, m < 6 → n < 6 → S (12 + m) ≠ 0 → S (12 + m) = S (12 + n) → m = n)
def PastAt (Γ : KK) (μ : MM) (a held next : Nat) (V U : Nat → Nat → Int32) : Prop := μ a = some (xO 0 [.int (nI held), .int (nI next), .ref (a + 1)]) ∧ μ (a + 1) = some (xS Γ 8 (fun i => some (a + 2 + 2 * i))) ∧ ∀ i, i < 8 → ScAt Γ μ (a + 2 + 2 * i) (V i) (U i)
def TextAt (Γ : KK) (μ : MM) (a n : Nat) (X : Nat → Nat) (cl b e : Int32) : Prop := μ a = some (xO 4 [.ref (a + 1), .int (nI n), .int cl, .int b, .int e]) ∧ μ (a + 1) = some (xC Γ 160 (fun i => nI (X i)))
def KeptAt (Γ : KK) (μ : MM) (a : Nat) (V U : Nat → Nat → Int32) : Prop := μ a = some (xS Γ 2 (fun i => some (a + 1 + 2 * i))) ∧ ∀ i, i < 2 → ScAt Γ μ (a + 1 + 2 * i) (V i) (U i)
def PlanAt (Γ : KK) (μ : MM) (a : Nat) (f g : Nat → Int32) : Prop := μ a = some (xO 1 [.ref (a + 1), .ref (a + 2)]) ∧ μ (a + 1) = some (xI Γ 6 f) ∧ μ (a + 2) = some (xI Γ 448 g)
def SigAt (Γ : KK) (μ : MM) (a n : Nat) (V : Nat → Nat) : Prop := μ a = some (xO 3 [.int (nI n), .ref (a + 1), .ref (a + 2), .ref (a + 3)]) ∧ μ (a + 1) = some (xI Γ 6 (fun i => nI (V (3 * i)))) ∧ μ (a + 2) = some (xI Γ 6 (fun i => nI (V (3 * i + 1)))) ∧ μ (a + 3) = some (xZ Γ 6 (fun i => nI (V (3 * i + 2))))
theorem PastAt.kept {Γ : KK} {μ μ' : MM} {a h n : Nat} {V U : Nat → Nat → Int32} (H : PastAt Γ μ a h n V U) (hq : ∀ q : Nat, a ≤ q → q < a + 18 → μ' q = μ q) : PastAt Γ μ' a h n V U :=
  ⟨(hq _ (by omega) (by omega)).trans H.1, (hq _ (by omega) (by omega)).trans H.2.1, fun i hi => (H.2.2 i hi).kept (fun q h1 h2 => hq q (by omega) (by omega))⟩
theorem TextAt.kept {Γ : KK} {μ μ' : MM} {a n : Nat} {X : Nat → Nat} {cl b e : Int32} (h : TextAt Γ μ a n X cl b e) (hq : ∀ q : Nat, a ≤ q → q < a + 2 → μ' q = μ q) : TextAt Γ μ' a n X cl b e := ⟨(hq _ (by omega) (by omega)).trans h.1, (hq _ (by omega) (by omega)).trans h.2⟩
theorem KeptAt.kept {Γ : KK} {μ μ' : MM} {a : Nat} {V U : Nat → Nat → Int32} (H : KeptAt Γ μ a V U) (hq : ∀ q : Nat, a ≤ q → q < a + 5 → μ' q = μ q) : KeptAt Γ μ' a V U := ⟨(hq _ (by omega) (by omega)).trans H.1, fun i hi => (H.2 i hi).kept (fun q h1 h2 => hq q (by omega) (by omega))⟩
theorem PlanAt.kept {Γ : KK} {μ μ' : MM} {a : Nat} {f g : Nat → Int32} (h : PlanAt Γ μ a f g) (hq : ∀ q : Nat, a ≤ q → q < a + 3 → μ' q = μ q) : PlanAt Γ μ' a f g := ⟨(hq _ (by omega) (by omega)).trans h.1, (hq _ (by omega) (by omega)).trans h.2.1, (hq _ (by omega) (by omega)).trans h.2.2⟩
theorem SigAt.kept {Γ : KK} {μ μ' : MM} {a n : Nat} {V : Nat → Nat} (h : SigAt Γ μ a n V) (hq : ∀ q : Nat, a ≤ q → q < a + 4 → μ' q = μ q) : SigAt Γ μ' a n V := ⟨(hq _ (by omega) (by omega)).trans h.1, (hq _ (by omega) (by omega)).trans h.2.1, (hq _ (by omega) (by omega)).trans h.2.2.1, (hq _ (by omega) (by omega)).trans h.2.2.2⟩
/-- the class's cells -/
def WC (Γ : KK) (μ : MM) (x : Nat) (T S : Nat → Nat) (un : Nat) (A : Nat → Nat → Nat) (kf : Nat → Bool) (K : Nat → Nat → Nat) (n : Nat) (X : Nat → Nat) (sn : Nat) (V : Nat → Nat) : Prop :=
  μ x = some (xO 6 [.ref (x + 1), .ref (x + 3), .ref (x + 8), .ref (x + 13), .ref (x + 15), .ref (x + 33), .ref (x + 38), .ref (x + 39), .ref (x + 42)]) ∧
  (∃ cl b e, TextAt Γ μ (x + 1) n X cl b e) ∧ ToldAt Γ μ (x + 3) T ∧ (∃ T', ToldAt Γ μ (x + 8) T') ∧ ScAt Γ μ (x + 13) (scV (T 0) S) (scU S) ∧
  (∃ nx V' U', nx < 8 ∧ PastAt Γ μ (x + 15) un nx V' U' ∧ ∀ i, i < un → V' ((nx + 8 - un + i) % 8) = scV (T 0) (A i) ∧ U' ((nx + 8 - un + i) % 8) = scU (A i)) ∧
  (∃ V' U', KeptAt Γ μ (x + 33) V' U' ∧ ∀ i, i < 2 → kf i = true → V' i = scV (T 0) (K i) ∧ U' i = scU (K i)) ∧ μ (x + 38) = some (xZ Γ 2 (fun i => zb (kf i))) ∧
  (∃ f g, PlanAt Γ μ (x + 39) f g ∧ ∀ j, j < 64 → g (384 + j) = nI 0) ∧ SigAt Γ μ (x + 42) sn V
def stI (S : Nat → Nat) : Nat → Int32 := fun k => if k < 12 then nI (S k) else uI (S k)
/-- the reference's cells -/
def WM (Γ : KK) (μ : MM) (y : Nat) (T S : Nat → Nat) (un : Nat) (A : Nat → Nat → Nat) (kf : Nat → Bool) (K : Nat → Nat → Nat) (n : Nat) (X : Nat → Nat) (sn : Nat) (V : Nat → Nat) : Prop :=
  ∃ (pl tk vl bg cl : Int32) (rd ah kp mo : Nat → Int32),
  μ y = some (xO 7 [.ref (y + 1), .ref (y + 2), .ref (y + 3), .int (nI n), .int pl, .int tk, .int vl, .int bg, .ref (y + 4), .int cl, .ref (y + 5), .int (nI un), .ref (y + 6), .ref (y + 7), .ref (y + 8), .ref (y + 9), .int (nI sn)]) ∧
  μ (y + 1) = some (xI Γ 29 (fun i => nI (T i))) ∧ μ (y + 2) = some (xI Γ 18 (stI S)) ∧ μ (y + 3) = some (xI Γ 160 (fun i => nI (X i))) ∧ μ (y + 4) = some (xI Γ 29 rd) ∧
  μ (y + 5) = some (xI Γ 144 ah) ∧ (∀ i k, i < un → k < 18 → ah (18 * i + k) = stI (A i) k) ∧ μ (y + 6) = some (xZ Γ 2 (fun i => zb (kf i))) ∧ μ (y + 7) = some (xI Γ 36 kp) ∧ (∀ i k, i < 2 → kf i = true → k < 18 → kp (18 * i + k) = stI (K i) k) ∧
  μ (y + 8) = some (xI Γ 448 mo) ∧ μ (y + 9) = some (xI Γ 18 (fun i => nI (V i)))
def INV (T S : Nat → Nat) (un : Nat) (A : Nat → Nat → Nat) (kf : Nat → Bool) (K : Nat → Nat → Nat) (n : Nat) (X : Nat → Nat) (sn : Nat) (V : Nat → Nat) : Prop :=
  IT T ∧ IS T S ∧ un ≤ 8 ∧ (∀ i, i < un → IS T (A i)) ∧ (∀ i, i < 2 → kf i = true → IS T (K i)) ∧ n ≤ 160 ∧ (∀ i, X i < 256) ∧ sn ≤ 6 ∧ ∀ k, k < sn → V (3 * k) < T 0 ∧ V (3 * k + 1) < T 7 ∧ V (3 * k + 2) ≤ 1
