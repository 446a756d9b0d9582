/-! ===== what each call answers, and what is then ===== -/
def inr (x : Int32) (lo hi : Int) : Prop := lo ≤ x.toInt ∧ x.toInt ≤ hi
def nt (x : Int32) : Nat := x.toInt.toNat
theorem nt_nI {x : Int32} (h : 0 ≤ x.toInt) : x = nI (nt x) := by
  have h2 := Int32.toInt_lt x
  apply Int32.toInt_inj.mp
  unfold nt
  rw [nI_toInt (by omega)]
  omega
theorem nt_lt {x : Int32} {k : Nat} (h : 0 ≤ x.toInt) (h2 : x.toInt < k) : nt x < k := by unfold nt; omega
def pushA (un : Nat) (A : Nat → Nat → Nat) (S : Nat → Nat) : Nat → Nat → Nat := if un = 8 then fun i => if i = 7 then S else A (i + 1) else fun i => if i = un then S else A i
def opWrite (n : Nat) (X : Nat → Nat) (x : Int32) : Int32 × Nat × (Nat → Nat) := if ¬ (0 ≤ x.toInt ∧ x.toInt ≤ 255) then (-3, n, X) else if n = 160 then (-5, n, X) else (nI (n + 1), n + 1, upN X n (nt x))
def opMan (T S : Nat → Nat) (m w : Int32) : Int32 := if ¬ (0 ≤ m.toInt ∧ m.toInt < T 0) then -2 else if w.toInt = 0 then nI (T (1 + nt m)) else if w.toInt = 1 then nI (S (6 + nt m)) else if w.toInt = 2 then uI (S (12 + nt m)) else -3
def opSheep (T S : Nat → Nat) (s w : Int32) : Int32 := if ¬ (0 ≤ s.toInt ∧ s.toInt < T 7) then -2 else if w.toInt = 0 then nI (T (8 + nt s)) else if w.toInt = 1 then nI (T (14 + nt s)) else if w.toInt = 2 then zb ((S 5).testBit (nt s)) else if w.toInt = 3 then uI (wu S (nt s) 6) else -3
def opNear (T : Nat → Nat) (k : Int32) : Int32 := if 0 ≤ k.toInt ∧ k.toInt < T 20 then nI (T (21 + nt k)) else -2
def opAs (T : Nat → Nat) (s k : Int32) : Int32 := if ¬ (0 ≤ s.toInt ∧ s.toInt < T 7) then -2 else if ¬ (0 ≤ k.toInt ∧ k.toInt ≤ 4) then -3 else if inCh 5 (T (8 + nt s) + 2) (nt k) = true then nI (brT T (nt s)) else -4
abbrev DO : Type := Int32 × (Nat → Nat) × Nat × (Nat → Nat → Nat)
def opGive (S : Nat → Nat) (un : Nat) (A : Nat → Nat → Nat) (x : Int32) : DO := if ¬ (1 ≤ x.toInt ∧ x.toInt ≤ 50) then (-3, S, un, A) else if S 3 = 1 ∨ S 0 < nt x then (-4, S, un, A) else (nI (S 1 + nt x), upN (upN S 0 (S 0 - nt x)) 1 (S 1 + nt x), min 8 (un + 1), pushA un A S)
def dayN (T S : Nat → Nat) : Nat := if S 3 = 1 then 0 else T 28
def dayS (T S : Nat → Nat) : Nat → Nat := upN (upN (upN (eatS (T 0) (dayN T S) S) 2 (min 9 (S 2 + 1))) 1 0) 4 (S 4 + 1)
def opDay (T S : Nat → Nat) (un : Nat) (A : Nat → Nat → Nat) : DO := if S 4 = 99 then (-5, S, un, A) else (nI (mkb (T 0) (eatP S (dayN T S))), dayS T S, min 8 (un + 1), pushA un A S)
def opBlind (T S : Nat → Nat) (un : Nat) (A : Nat → Nat → Nat) (x : Int32) : DO := if ¬ (0 ≤ x.toInt ∧ x.toInt ≤ 7) then (-3, S, un, A) else if S 3 = 1 ∨ S 1 < T 26 ∨ S 2 < T 27 then (-4, S, un, A) else (nI (comT T (nt x)), eatS (T 0) (popc (comT T (nt x))) (upN S 3 1), min 8 (un + 1), pushA un A S)
/-- a sheep's number, or -1, as a code -/
def cd (x : Int32) : Nat := (x.toInt + 1).toNat
def opHide (T S : Nat → Nat) (un : Nat) (A : Nat → Nat → Nat) (m s : Int32) : DO := if ¬ (0 ≤ m.toInt ∧ m.toInt < T 0) ∨ ¬ (-1 ≤ s.toInt ∧ s.toInt < T 7) then (-2, S, un, A) else if canT S (nt m) (cd s) = false then (-4, S, un, A) else (uI (S (12 + nt m)), upN S (12 + nt m) (cd s), min 8 (un + 1), pushA un A S)
def opMorning (T S : Nat → Nat) (un : Nat) (A : Nat → Nat → Nat) : DO := if S 3 = 0 then (-4, S, un, A) else (nI (mkb 6 (mornP T S)), morS T S, min 8 (un + 1), pushA un A S)
def opUndo (S : Nat → Nat) (un : Nat) (A : Nat → Nat → Nat) : DO := if un = 0 then (-4, S, un, A) else (nI (un - 1), A (un - 1), un - 1, A)
def opKeep (S : Nat → Nat) (kf : Nat → Bool) (K : Nat → Nat → Nat) (x : Int32) : Int32 × (Nat → Bool) × (Nat → Nat → Nat) := if ¬ (0 ≤ x.toInt ∧ x.toInt ≤ 1) then (-2, kf, K) else (nI (S 4), (fun i => if i = nt x then true else kf i), (fun i => if i = nt x then S else K i))
def opBack (S : Nat → Nat) (un : Nat) (kf : Nat → Bool) (K : Nat → Nat → Nat) (x : Int32) : Int32 × (Nat → Nat) × Nat := if ¬ (0 ≤ x.toInt ∧ x.toInt ≤ 1) then (-2, S, un) else if kf (nt x) = false then (-4, S, un) else (nI (K (nt x) 4), K (nt x), 0)
/-- SOON (0: none, else it and 1) -/
def soonN (T S : Nat → Nat) : Nat := if S 3 = 1 then 0 else if (if T 27 ≤ S 2 then S 1 + S 0 else S 0) < T 26 then 0 else T 27 - S 2 + 1
def opSoon (T S : Nat → Nat) (x : Int32) : Int32 := if ¬ (0 ≤ x.toInt ∧ x.toInt ≤ 1) then -3 else if x.toInt = 0 ∨ soonN T S = 0 then uI (soonN T S) else nI (min (popc (msk (T 0) S 0)) ((soonN T S - 1) * T 28))
def opPlan (T S : Nat → Nat) (x : Int32) : Int32 := if x.toInt = -1 then nI (plv T S (S 5) 6 0) else if ¬ (0 ≤ x.toInt ∧ x.toInt < T 0) then -2 else uI (fstF (fbP T S (S 5) (nt x) (tkN T S (S 5) (nt x))) 6 0)
def thr (T S : Nat → Nat) : Nat := (2 ^ T 7 - 1) &&& (S 5 ^^^ 63)
def felt (T S : Nat → Nat) (k : Nat) : Nat := (flS (flOk (thr T S) (min k (popc (thr T S)))) (plv T S (S 5) 6) 64).1
def opFeel (T S : Nat → Nat) (k w : Int32) : Int32 := if ¬ (0 ≤ k.toInt ∧ k.toInt ≤ 6) ∨ ¬ (0 ≤ w.toInt ∧ w.toInt ≤ 1) then -3 else if w.toInt = 0 then nI (felt T S (nt k)) else nI (plv T S (S 5) 6 (felt T S (nt k)))
def opNames (T : Nat → Nat) (w : Int32) : Int32 := if w.toInt = 0 then nI (namT T 0) else if w.toInt = 1 then nI (qn T 8) else -3
def opCame (T : Nat → Nat) (x : Int32) : Int32 := if ¬ (0 ≤ x.toInt ∧ x.toInt < 2 ^ T 20) then -2 else nI (namT T (nt x))
def opSeen (T : Nat → Nat) (sn : Nat) (V : Nat → Nat) (m s o : Int32) : Int32 × Nat × (Nat → Nat) := if ¬ (0 ≤ m.toInt ∧ m.toInt < T 0) ∨ ¬ (0 ≤ s.toInt ∧ s.toInt < T 7) then (-2, sn, V) else if ¬ (0 ≤ o.toInt ∧ o.toInt ≤ 1) then (-3, sn, V) else if sn = 6 then (-5, sn, V) else (nI (sn + 1), sn + 1, upN (upN (upN V (3 * sn) (nt m)) (3 * sn + 1) (nt s)) (3 * sn + 2) (nt o))
def opStrong (T : Nat → Nat) (sn : Nat) (V : Nat → Nat) (s w : Int32) : Int32 := if ¬ (0 ≤ s.toInt ∧ s.toInt < T 7) then -2 else if w.toInt = 0 then uI (lfS (wso T V sn (nt s)) 20) else if w.toInt = 1 then uI (gsS (wso T V sn (nt s)) 20) else -3
def bsA (d r b : Nat) : Nat → Nat
  | 0 => 1
  | i + 1 => bsA d r b i * fms (d + i * r) b
/-- fives taken out, n times at most -/
def bsR : Nat → Nat → Nat → Nat × Nat
  | 0, x, y => (x, y)
  | k + 1, x, y => if x % 5 = 0 ∧ y % 5 = 0 then bsR k (x / 5) (y / 5) else bsR k x y
def opBoasts (n d r b q : Int32) : Int32 := if ¬ (0 ≤ n.toInt ∧ n.toInt ≤ 6) ∨ ¬ (0 ≤ d.toInt ∧ d.toInt ≤ 20) ∨ ¬ (0 ≤ r.toInt ∧ r.toInt ≤ 5) ∨ ¬ (0 ≤ b.toInt ∧ b.toInt ≤ 9) ∨ ¬ (0 ≤ q.toInt ∧ q.toInt ≤ 1) then -3 else if q.toInt = 0 then nI (bsR (nt n) (bsA (nt d) (nt r) (nt b) (nt n)) (5 ^ nt n)).1 else nI (bsR (nt n) (bsA (nt d) (nt r) (nt b) (nt n)) (5 ^ nt n)).2
def opCount (T S : Nat → Nat) (un n sn : Nat) (x : Int32) : Int32 := if ¬ (0 ≤ x.toInt ∧ x.toInt ≤ 14) then -3 else nI ([T 0, T 7, T 20, S 4, S 0, S 1, S 2, S 3, msk (T 0) S 0, msk (T 0) S 1, msk (T 0) S 2, S 5, sn, un, n].getD (nt x) 0)
section S24
variable {Γ : KK} {μ μ' : MM} {x : Nat} {T S : Nat → Nat} {un : Nat} {A : Nat → Nat → Nat} {kf : Nat → Bool} {K : Nat → Nat → Nat} {n : Nat} {X : Nat → Nat} {sn : Nat} {V : Nat → Nat}
theorem WC.sc {S' : Nat → Nat} (h : WC Γ μ x T S un A kf K n X sn V) (hq : ∀ q : Nat, (q < x + 13 ∨ x + 15 ≤ q) → μ' q = μ q) (hs : ScAt Γ μ' (x + 13) (scV (T 0) S') (scU S')) : WC Γ μ' x T S' un A kf K n X sn V := by
  obtain ⟨a0, ⟨cl, b, e, a1⟩, a2, ⟨T', a3⟩, a4, ⟨nx, V', U', a5, a6, a7⟩, ⟨V2, U2, a8, a9⟩, a10, ⟨f, g, a11, a12⟩, a13⟩ := h
  exact ⟨(hq _ (by omega)).trans a0, ⟨cl, b, e, a1.kept (fun q h1 h2 => hq q (by omega))⟩, a2.kept (fun q h1 h2 => hq q (by omega)), ⟨T', a3.kept (fun q h1 h2 => hq q (by omega))⟩, hs, ⟨nx, V', U', a5, a6.kept (fun q h1 h2 => hq q (by omega)), a7⟩, ⟨V2, U2, a8.kept (fun q h1 h2 => hq q (by omega)), a9⟩, (hq _ (by omega)).trans a10, ⟨f, g, a11.kept (fun q h1 h2 => hq q (by omega)), a12⟩, a13.kept (fun q h1 h2 => hq q (by omega))⟩
theorem WC.pa {un' : Nat} {A' : Nat → Nat → Nat} (h : WC Γ μ x T S un A kf K n X sn V) (hq : ∀ q : Nat, (q < x + 15 ∨ x + 33 ≤ q) → μ' q = μ q) (hs : ∃ nx V' U', nx < 8 ∧ PastAt Γ μ' (x + 15) un' nx V' U' ∧ ∀ i, i < un' → V' ((nx + 8 - un' + i) % 8) = scV (T 0) (A' i) ∧ U' ((nx + 8 - un' + i) % 8) = scU (A' i)) : WC Γ μ' x T S un' A' kf K n X sn V := by
  obtain ⟨a0, ⟨cl, b, e, a1⟩, a2, ⟨T', a3⟩, a4, a5, ⟨V2, U2, a8, a9⟩, a10, ⟨f, g, a11, a12⟩, a13⟩ := h
  exact ⟨(hq _ (by omega)).trans a0, ⟨cl, b, e, a1.kept (fun q h1 h2 => hq q (by omega))⟩, a2.kept (fun q h1 h2 => hq q (by omega)), ⟨T', a3.kept (fun q h1 h2 => hq q (by omega))⟩, a4.kept (fun q h1 h2 => hq q (by omega)), hs, ⟨V2, U2, a8.kept (fun q h1 h2 => hq q (by omega)), a9⟩, (hq _ (by omega)).trans a10, ⟨f, g, a11.kept (fun q h1 h2 => hq q (by omega)), a12⟩, a13.kept (fun q h1 h2 => hq q (by omega))⟩
theorem WC.kp {kf' : Nat → Bool} {K' : Nat → Nat → Nat} (h : WC Γ μ x T S un A kf K n X sn V) (hq : ∀ q : Nat, (q < x + 33 ∨ x + 39 ≤ q) → μ' q = μ q) (hs : ∃ V' U', KeptAt Γ μ' (x + 33) V' U' ∧ ∀ i, i < 2 → kf' i = true → V' i = scV (T 0) (K' i) ∧ U' i = scU (K' i)) (hz : μ' (x + 38) = some (xZ Γ 2 (fun i => zb (kf' i)))) : WC Γ μ' x T S un A kf' K' n X sn V := by
  obtain ⟨a0, ⟨cl, b, e, a1⟩, a2, ⟨T', a3⟩, a4, ⟨nx, V', U', a5, a6, a7⟩, a8, a10, ⟨f, g, a11, a12⟩, a13⟩ := h
  exact ⟨(hq _ (by omega)).trans a0, ⟨cl, b, e, a1.kept (fun q h1 h2 => hq q (by omega))⟩, a2.kept (fun q h1 h2 => hq q (by omega)), ⟨T', a3.kept (fun q h1 h2 => hq q (by omega))⟩, a4.kept (fun q h1 h2 => hq q (by omega)), ⟨nx, V', U', a5, a6.kept (fun q h1 h2 => hq q (by omega)), a7⟩, hs, hz, ⟨f, g, a11.kept (fun q h1 h2 => hq q (by omega)), a12⟩, a13.kept (fun q h1 h2 => hq q (by omega))⟩
theorem WC.tx {n' : Nat} {X' : Nat → Nat} (h : WC Γ μ x T S un A kf K n X sn V) (hq : ∀ q : Nat, (q < x + 1 ∨ x + 3 ≤ q) → μ' q = μ q) (hs : ∃ cl b e, TextAt Γ μ' (x + 1) n' X' cl b e) : WC Γ μ' x T S un A kf K n' X' sn V := by
  obtain ⟨a0, a1, a2, ⟨T', a3⟩, a4, ⟨nx, V', U', a5, a6, a7⟩, ⟨V2, U2, a8, a9⟩, a10, ⟨f, g, a11, a12⟩, a13⟩ := h
  exact ⟨(hq _ (by omega)).trans a0, hs, a2.kept (fun q h1 h2 => hq q (by omega)), ⟨T', a3.kept (fun q h1 h2 => hq q (by omega))⟩, a4.kept (fun q h1 h2 => hq q (by omega)), ⟨nx, V', U', a5, a6.kept (fun q h1 h2 => hq q (by omega)), a7⟩, ⟨V2, U2, a8.kept (fun q h1 h2 => hq q (by omega)), a9⟩, (hq _ (by omega)).trans a10, ⟨f, g, a11.kept (fun q h1 h2 => hq q (by omega)), a12⟩, a13.kept (fun q h1 h2 => hq q (by omega))⟩
theorem WC.dr {T' : Nat → Nat} (h : WC Γ μ x T S un A kf K n X sn V) (hq : ∀ q : Nat, (q < x + 8 ∨ x + 13 ≤ q) → μ' q = μ q) (hs : ToldAt Γ μ' (x + 8) T') : WC Γ μ' x T S un A kf K n X sn V := by
  obtain ⟨a0, ⟨cl, b, e, a1⟩, a2, a3, a4, ⟨nx, V', U', a5, a6, a7⟩, ⟨V2, U2, a8, a9⟩, a10, ⟨f, g, a11, a12⟩, a13⟩ := h
  exact ⟨(hq _ (by omega)).trans a0, ⟨cl, b, e, a1.kept (fun q h1 h2 => hq q (by omega))⟩, a2.kept (fun q h1 h2 => hq q (by omega)), ⟨T', hs⟩, a4.kept (fun q h1 h2 => hq q (by omega)), ⟨nx, V', U', a5, a6.kept (fun q h1 h2 => hq q (by omega)), a7⟩, ⟨V2, U2, a8.kept (fun q h1 h2 => hq q (by omega)), a9⟩, (hq _ (by omega)).trans a10, ⟨f, g, a11.kept (fun q h1 h2 => hq q (by omega)), a12⟩, a13.kept (fun q h1 h2 => hq q (by omega))⟩
theorem WC.pl (h : WC Γ μ x T S un A kf K n X sn V) (hq : ∀ q : Nat, (q < x + 39 ∨ x + 42 ≤ q) → μ' q = μ q) (hs : ∃ f g, PlanAt Γ μ' (x + 39) f g ∧ ∀ j, j < 64 → g (384 + j) = nI 0) : WC Γ μ' x T S un A kf K n X sn V := by
  obtain ⟨a0, ⟨cl, b, e, a1⟩, a2, ⟨T', a3⟩, a4, ⟨nx, V', U', a5, a6, a7⟩, ⟨V2, U2, a8, a9⟩, a10, a11, a13⟩ := h
  exact ⟨(hq _ (by omega)).trans a0, ⟨cl, b, e, a1.kept (fun q h1 h2 => hq q (by omega))⟩, a2.kept (fun q h1 h2 => hq q (by omega)), ⟨T', a3.kept (fun q h1 h2 => hq q (by omega))⟩, a4.kept (fun q h1 h2 => hq q (by omega)), ⟨nx, V', U', a5, a6.kept (fun q h1 h2 => hq q (by omega)), a7⟩, ⟨V2, U2, a8.kept (fun q h1 h2 => hq q (by omega)), a9⟩, (hq _ (by omega)).trans a10, hs, a13.kept (fun q h1 h2 => hq q (by omega))⟩
theorem WC.si {sn' : Nat} {V' : Nat → Nat} (h : WC Γ μ x T S un A kf K n X sn V) (hq : ∀ q : Nat, (q < x + 42 ∨ x + 46 ≤ q) → μ' q = μ q) (hs : SigAt Γ μ' (x + 42) sn' V') : WC Γ μ' x T S un A kf K n X sn' V' := by
  obtain ⟨a0, ⟨cl, b, e, a1⟩, a2, ⟨T', a3⟩, a4, ⟨nx, V', U', a5, a6, a7⟩, ⟨V2, U2, a8, a9⟩, a10, ⟨f, g, a11, a12⟩, a13⟩ := h
  exact ⟨(hq _ (by omega)).trans a0, ⟨cl, b, e, a1.kept (fun q h1 h2 => hq q (by omega))⟩, a2.kept (fun q h1 h2 => hq q (by omega)), ⟨T', a3.kept (fun q h1 h2 => hq q (by omega))⟩, a4.kept (fun q h1 h2 => hq q (by omega)), ⟨nx, V', U', a5, a6.kept (fun q h1 h2 => hq q (by omega)), a7⟩, ⟨V2, U2, a8.kept (fun q h1 h2 => hq q (by omega)), a9⟩, (hq _ (by omega)).trans a10, ⟨f, g, a11.kept (fun q h1 h2 => hq q (by omega)), a12⟩, hs⟩
theorem WC.kept (h : WC Γ μ x T S un A kf K n X sn V) (hq : ∀ q : Nat, x ≤ q → q < x + 46 → μ' q = μ q) : WC Γ μ' x T S un A kf K n X sn V := by
  obtain ⟨a0, ⟨cl, b, e, a1⟩, a2, ⟨T', a3⟩, a4, ⟨nx, V', U', a5, a6, a7⟩, ⟨V2, U2, a8, a9⟩, a10, ⟨f, g, a11, a12⟩, a13⟩ := h
  exact ⟨(hq _ (by omega) (by omega)).trans a0, ⟨cl, b, e, a1.kept (fun q h1 h2 => hq q (by omega) (by omega))⟩, a2.kept (fun q h1 h2 => hq q (by omega) (by omega)), ⟨T', a3.kept (fun q h1 h2 => hq q (by omega) (by omega))⟩, a4.kept (fun q h1 h2 => hq q (by omega) (by omega)), ⟨nx, V', U', a5, a6.kept (fun q h1 h2 => hq q (by omega) (by omega)), a7⟩, ⟨V2, U2, a8.kept (fun q h1 h2 => hq q (by omega) (by omega)), a9⟩, (hq _ (by omega) (by omega)).trans a10, ⟨f, g, a11.kept (fun q h1 h2 => hq q (by omega) (by omega)), a12⟩, a13.kept (fun q h1 h2 => hq q (by omega) (by omega))⟩
/-- one more scene on the ring -/
theorem push_ok {nx un : Nat} {A : Nat → Nat → Nat} {V' U' : Nat → Nat → Int32} {men : Nat} (hnx : nx < 8) (hun : un ≤ 8) (h : ∀ i, i < un → V' ((nx + 8 - un + i) % 8) = scV men (A i) ∧ U' ((nx + 8 - un + i) % 8) = scU (A i)) : ∀ i, i < min 8 (un + 1) → updV2 V' nx (scV men S) (((nx + 1) % 8 + 8 - min 8 (un + 1) + i) % 8) = scV men (pushA un A S i) ∧ updV2 U' nx (scU S) (((nx + 1) % 8 + 8 - min 8 (un + 1) + i) % 8) = scU (pushA un A S i) := by
  intro i hi
  obtain ⟨ix, hix⟩ : ∃ ix, ix = ((nx + 1) % 8 + 8 - min 8 (un + 1) + i) % 8 := ⟨_, rfl⟩
  rw [← hix]
  by_cases h8 : un = 8
  · by_cases h7 : i = 7
    · have e1 : pushA un A S i = S := by unfold pushA; rw [if_pos h8]; exact if_pos h7
      have e2 : ix = nx := by omega
      unfold updV2
      rw [if_pos e2, if_pos e2, e1]
      exact ⟨rfl, rfl⟩
    · have e1 : pushA un A S i = A (i + 1) := by unfold pushA; rw [if_pos h8]; exact if_neg h7
      have e2 : ix ≠ nx := by omega
      have e3 : ix = (nx + 8 - un + (i + 1)) % 8 := by omega
      unfold updV2
      rw [if_neg e2, if_neg e2, e1, e3]
      exact h (i + 1) (by omega)
  · by_cases h7 : i = un
    · have e1 : pushA un A S i = S := by unfold pushA; rw [if_neg h8]; exact if_pos h7
      have e2 : ix = nx := by omega
      unfold updV2
      rw [if_pos e2, if_pos e2, e1]
      exact ⟨rfl, rfl⟩
    · have e1 : pushA un A S i = A i := by unfold pushA; rw [if_neg h8]; exact if_neg h7
      have e2 : ix ≠ nx := by omega
      have e3 : ix = (nx + 8 - un + i) % 8 := by omega
      unfold updV2
      rw [if_neg e2, if_neg e2, e1, e3]
      exact h i (by omega)
end S24
