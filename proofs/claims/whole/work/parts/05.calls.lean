section LZ
variable {Γ : KK} {p : Program} {l : Launch} {e : Env} {R : Room} {s : State} {m : MethodId} {args : Array Value} {below : List Frame} {meth : Method} {c : Code} {Q : State → Prop} {cc : ByteArray} {ret : Option FieldType} {nm own : String} {k mc ms nL cells slots pc : Nat} {lv : List (Option Value)} {st : List Value} {μ : MM}
theorem vV.sub {μ' : MM} (h : ∀ H, mP Γ μ H → mP Γ μ' H) (kk : vV Γ p l e R s m args below meth c Q nL cells slots pc lv st μ') : vV Γ p l e R s m args below meth c Q nL cells slots pc lv st μ := fun H locs ls h1 h2 h3 h4 => kk H locs ls (h H h1) h2 h3 h4
/-- another memory of the same heap, found there -/
theorem vV.sub' {P : MM → Prop} (h : ∀ H, mP Γ μ H → ∃ μ', mP Γ μ' H ∧ P μ') (kk : ∀ μ', P μ' → vV Γ p l e R s m args below meth c Q nL cells slots pc lv st μ') : vV Γ p l e R s m args below meth c Q nL cells slots pc lv st μ := fun H locs ls h1 h2 h3 h4 => by
  obtain ⟨μ', g1, g2⟩ := h H h1
  exact kk μ' g2 H locs ls g1 h2 h3 h4
/-- fewer known locals -/
theorem vV.loc {lv' : List (Option Value)} (h : ∀ (i : Nat) (v : Value), lv'[i]? = some (some v) → lv[i]? = some (some v)) (kk : vV Γ p l e R s m args below meth c Q nL cells slots pc lv' st μ) : vV Γ p l e R s m args below meth c Q nL cells slots pc lv st μ := fun H locs ls h1 h2 h3 h4 => kk H locs ls h1 h2 h3 ⟨h4.1, h4.2.1, fun i v hi => h4.2.2 i v (h i v hi)⟩
theorem CP_blind {sz : Nat} {av : List Value} : FrameBlind (CP Γ sz av μ) := fun a U g mk h => ⟨h.1, h.2.1.same rfl rfl, h.2.2⟩
def vRun (Γ : KK) (p : Program) (l : Launch) (e : Env) (R : Room) (s : State) (m : MethodId) (args : Array Value) (below : List Frame) (meth : Method) (c : Code) (nL cells slots mc' ms' pc : Nat) (lv : List (Option Value)) (st : List Value) (μ : MM) (rest : List Value) (post : Option Value → MM → Prop) : Prop :=
  ∀ (H : Heap) (locs : List Loc) (ls : Array Slot), mP Γ μ H → H.size = s.heap.size + cells → va_S (kA Γ) s.heap H locs → lh ls nL lv → va_Run p l e R s m args below meth c H locs cells slots mc' ms' (F0 m pc ls st) rest (CQ Γ mc' post #[]) (kA Γ)
theorem vRun.go (X : cX Γ p R s m args meth c cc ret nm own k mc ms nL) {mc' ms' : Nat} {rest : List Value} {post : Option Value → MM → Prop} (hr : vRun Γ p l e R s m args below meth c nL cells slots mc' ms' pc lv st μ rest post)
    (kk : ∀ r μ', post r μ' → vV Γ p l e R s m args below meth c Q nL (cells + mc') (slots + ms') (pc + 3) lv (r.toList ++ rest) μ') : vV Γ p l e R s m args below meth c Q nL cells slots pc lv st μ := by
  intro H locs ls h1 h2 h3 h4 T hT XT
  obtain ⟨v, st₀, t, T', L, h0, X', hL, e1, e2, ⟨r, μ', hr', hp, hP, hz, hk⟩, stp⟩ := hr H locs ls h1 h2 h3 h4 T hT XT
  cases hr'
  rw [h0] at hz hk
  obtain ⟨t2, a1, b1⟩ := kk v μ' hp T'.heap (locs ++ L) ls (by rw [e1]; exact hP) (by rw [e1, hz, h2, Nat.add_assoc]) ⟨by rw [e1, hz]; exact Nat.le_trans h3.1 (Nat.le_add_right _ _), fun q g1 g2 => by rw [e1, hk q (Nat.lt_of_not_le g2)]; exact h3.2.1 q g1 g2, fun q hq => by
    rcases List.mem_append.mp hq with h | h
    · exact h3.2.2 q h
    · exact hL q h⟩ h4 T' rfl X'
  exact ⟨t2, stp t2 a1, b1⟩
theorem c_i (X : cX Γ p R s m args meth c cc ret nm own k mc ms nL) {mc' ms' : Nat} {rest : List Value} {post : Int32 → MM → Prop} (hr : vRun Γ p l e R s m args below meth c nL cells slots mc' ms' pc lv st μ rest (ri post))
    (kk : ∀ i μ', post i μ' → vV Γ p l e R s m args below meth c Q nL (cells + mc') (slots + ms') (pc + 3) lv (.int i :: rest) μ') : vV Γ p l e R s m args below meth c Q nL cells slots pc lv st μ := hr.go X (fun r μ' h => by
  obtain ⟨i, rfl, h⟩ := h
  exact kk i μ' h)
theorem c_l (X : cX Γ p R s m args meth c cc ret nm own k mc ms nL) {mc' ms' : Nat} {rest : List Value} {post : Int64 → MM → Prop} (hr : vRun Γ p l e R s m args below meth c nL cells slots mc' ms' pc lv st μ rest (rl post))
    (kk : ∀ i μ', post i μ' → vV Γ p l e R s m args below meth c Q nL (cells + mc') (slots + ms') (pc + 3) lv (.long i :: rest) μ') : vV Γ p l e R s m args below meth c Q nL cells slots pc lv st μ := hr.go X (fun r μ' h => by
  obtain ⟨i, rfl, h⟩ := h
  exact kk i μ' h)
theorem c_r (X : cX Γ p R s m args meth c cc ret nm own k mc ms nL) {mc' ms' : Nat} {rest : List Value} {post : Nat → MM → Prop} (hr : vRun Γ p l e R s m args below meth c nL cells slots mc' ms' pc lv st μ rest (rr post))
    (kk : ∀ i μ', post i μ' → vV Γ p l e R s m args below meth c Q nL (cells + mc') (slots + ms') (pc + 3) lv (.ref i :: rest) μ') : vV Γ p l e R s m args below meth c Q nL cells slots pc lv st μ := hr.go X (fun r μ' h => by
  obtain ⟨i, rfl, h⟩ := h
  exact kk i μ' h)
theorem c_v (X : cX Γ p R s m args meth c cc ret nm own k mc ms nL) {mc' ms' : Nat} {rest : List Value} {post : MM → Prop} (hr : vRun Γ p l e R s m args below meth c nL cells slots mc' ms' pc lv st μ rest (rv post))
    (kk : ∀ μ', post μ' → vV Γ p l e R s m args below meth c Q nL (cells + mc') (slots + ms') (pc + 3) lv rest μ') : vV Γ p l e R s m args below meth c Q nL cells slots pc lv st μ := hr.go X (fun r μ' h => by
  obtain ⟨rfl, h⟩ := h
  exact kk μ' h)
abbrev mW (md : MD) : List Cond := .code md.1 md.2.1 md.2.2.1 md.2.2.2 :: GT
def mOk (md : MD) (n : Nat) : Prop := Cond.code md.1 md.2.1 md.2.2.1 md.2.2.2 ∈ GT ∧ Cond.initialized md.1.cls ∈ GT ∧ md.1.cls ≠ "java/lang/invoke/MethodHandle" ∧ md.1.cls ≠ "java/lang/invoke/VarHandle" ∧ (parseMethodDescriptor md.1.desc).map (fun d => d.parameters.length) = some n ∧ md.2.2.1 ≤ 21
theorem mOk.good {md : MD} {n : Nat} (h : mOk md n) : GoodIn GT (mW md) := fun w hw => by
  rcases List.mem_cons.mp hw with rfl | h1
  · exact ⟨h.1, GT_good _ h.1⟩
  · exact ⟨h1, GT_good _ h1⟩
/-- links of calls -/
def LV (own : String) (idx : Nat) (md : MD) (n : Nat) : Prop := mOk md n ∧ Cond.methodLink own idx md.1 ∈ GT ∧ Cond.instanceMethod md.1 ∈ GT ∧ Cond.selects md.1.cls md.1 md.1 ∈ GT
def LkS (own : String) (idx : Nat) (md : MD) (n : Nat) : Prop := mOk md n ∧ Cond.methodLink own idx md.1 ∈ GT ∧ Cond.static md.1 ∈ GT
def LSN (own : String) (idx : Nat) (md : MD) (n : Nat) : Prop := mOk md n ∧ Cond.methodLinkNest own idx md.1 "NobodyCave" ∈ NW ∧ Cond.static md.1 ∈ GT
def LI (own : String) (idx : Nat) (md : MD) (n : Nat) : Prop := mOk md n ∧ Cond.methodLink own idx md.1 ∈ GT ∧ Cond.instanceMethod md.1 ∈ GT ∧ md.1.name = "<init>" ∧ md.2.2.2 = none
def LIN (own : String) (idx : Nat) (md : MD) (n : Nat) : Prop := mOk md n ∧ Cond.methodLinkNest own idx md.1 "NobodyCave" ∈ NW ∧ Cond.instanceMethod md.1 ∈ GT ∧ md.1.name = "<init>" ∧ md.2.2.2 = none
theorem room_ok {j mc' ms' : Nat} {md : MD} {n : Nat} (X : cX Γ p R s m args meth c cc ret nm own k mc ms nL) (hm : mOk md n) (hj : j + 1 ≤ k) : (RM j mc' ms').frames + 1 ≤ R.frames ∧ 8 + (md.2.2.1 + 11) + (RM j mc' ms').locals ≤ R.locals := by
  have h1 := X.2.2.2.2.2.2.2.2.2.2.1
  have h2 := X.2.2.2.2.2.2.2.2.2.2.2.1
  have h3 := hm.2.2.2.2.2
  show j + 1 ≤ R.frames ∧ 8 + (md.2.2.1 + 11) + 40 * j ≤ R.locals
  omega
theorem pre_ok {av : List Value} (X : cX Γ p R s m args meth c cc ret nm own k mc ms nL) {H : Heap} {locs : List Loc} (h1 : mP Γ μ H) (h2 : H.size = s.heap.size + cells) (h3 : va_S (kA Γ) s.heap H locs) : ∀ U : State, U.heap = H → s.WarmedH U.vm → CP Γ (s.heap.size + cells) av μ av.toArray U := fun U hU hW =>
  ⟨rfl, X.2.2.2.2.2.2.1.move hW (fun q hq hA => by rw [hU]; exact h3.2.1 q hq hA), by rw [hU]; exact h1, by rw [hU]; exact Nat.le_trans X.2.2.2.2.2.2.2.1 h3.1, by rw [hU]; exact h2⟩

theorem rV (X : cX Γ p R s m args meth c cc ret nm own k mc ms nL) {mc' ms' j idx ci n b : Nat} {md : MD} {fs As rest : List Value} {post : Option Value → MM → Prop} (L : LV own idx md n) (hct : CT Γ l j (s.heap.size + cells) mc' ms' md (.ref b :: As) μ post) (hd : decode cc pc = .ok (.invokevirtual idx, 3)) (hb : μ b = some (xO ci fs)) (hc : (vwCl[ci]?).map (fun q => q.1) = some md.1.cls) (hn : As.length = n) (hst : st = As.reverse ++ .ref b :: rest) (hcat : (rest.map fun v => v.category).sum ≤ 8) (hj : j + 1 ≤ k) (hcl : cells + mc' ≤ mc) (hsl : slots + ms' ≤ ms) : vRun Γ p l e R s m args below meth c nL cells slots mc' ms' pc lv st μ rest post := by
  intro H locs ls h1 h2 h3 h4
  have hts := X.2.2.2.2.2.1
  have hin : cells + mc' ≤ R.cells ∧ slots + ms' ≤ R.slots := ⟨Nat.le_trans hcl X.2.2.2.2.2.2.2.2.2.2.2.2.1, Nat.le_trans hsl X.2.2.2.2.2.2.2.2.2.2.2.2.2⟩
  have S : CallFix p m c cc nL s args GT own := ⟨X.1, X.2.1, X.2.2.2.1, X.2.2.2.2.1, hts⟩
  subst hst
  obtain ⟨hm, l1, l2, l3⟩ := L
  have hG : GoodIn GT (wsV own idx md.1.cls md.1 (mW md)) := fun w hw => by
    simp only [wsV, List.mem_append, List.mem_cons, List.not_mem_nil, or_false] at hw
    rcases hw with (rfl | rfl | rfl | rfl) | hw
    · exact ⟨l1, GT_good _ l1⟩
    · exact ⟨l2, GT_good _ l2⟩
    · exact ⟨l3, GT_good _ l3⟩
    · exact ⟨hm.2.1, GT_good _ hm.2.1⟩
    · exact hm.good w (by rcases hw with rfl | hw; exact List.mem_cons_self; exact List.mem_cons_of_mem _ hw)
  have hrec : ∃ cell : Cell, H[b]? = some cell ∧ cell.vm.isStatics = false ∧ s.vm.findClass md.1.cls = some cell.cls := by
    cases hq : vwCl[ci]? with
    | none => rw [hq] at hc; cases hc
    | some q =>
      rw [hq] at hc
      have hc2 : q.1 = md.1.cls := Option.some.inj hc
      have := va_recv (ws := [(b, xO ci fs)]) X.2.2.2.2.2.2.1.1 (H := H) (fun j q hj => by
        match j, hj with
        | 0, hj => cases hj; exact (h1 b _ hb).1) hq (q0 := 0) rfl
      rw [hc2] at this
      exact this
  exact va_runV (As := As) (rest := rest) S hct (cwV n hts hG rfl rfl rfl ⟨rfl, hm.2.2.1, hm.2.2.2.1, hm.2.2.2.2.1⟩ (room_ok X hm hj)) ⟨CP_blind, hrec, pre_ok X h1 h2 h3⟩ rfl hn h4.1 rfl (lv_room hcat) hd hin
theorem rS (X : cX Γ p R s m args meth c cc ret nm own k mc ms nL) {mc' ms' j idx n : Nat} {md : MD} {As rest : List Value} {post : Option Value → MM → Prop} (L : LkS own idx md n) (hct : CT Γ l j (s.heap.size + cells) mc' ms' md As μ post) (hd : decode cc pc = .ok (.invokestatic idx, 3)) (hn : As.length = n) (hst : st = As.reverse ++ rest) (hcat : (rest.map fun v => v.category).sum ≤ 8) (hj : j + 1 ≤ k) (hcl : cells + mc' ≤ mc) (hsl : slots + ms' ≤ ms) : vRun Γ p l e R s m args below meth c nL cells slots mc' ms' pc lv st μ rest post := by
  intro H locs ls h1 h2 h3 h4
  have hts := X.2.2.2.2.2.1
  have hin : cells + mc' ≤ R.cells ∧ slots + ms' ≤ R.slots := ⟨Nat.le_trans hcl X.2.2.2.2.2.2.2.2.2.2.2.2.1, Nat.le_trans hsl X.2.2.2.2.2.2.2.2.2.2.2.2.2⟩
  have S : CallFix p m c cc nL s args GT own := ⟨X.1, X.2.1, X.2.2.2.1, X.2.2.2.2.1, hts⟩
  subst hst
  obtain ⟨hm, l1, l2⟩ := L
  have hG : GoodIn GT (va_wsS own idx md.1 (mW md)) := fun w hw => by
    simp only [va_wsS, List.mem_append, List.mem_cons, List.not_mem_nil, or_false] at hw
    rcases hw with (rfl | rfl | rfl) | hw
    · exact ⟨l1, GT_good _ l1⟩
    · exact ⟨l2, GT_good _ l2⟩
    · exact ⟨hm.2.1, GT_good _ hm.2.1⟩
    · exact hm.good w (by rcases hw with rfl | hw; exact List.mem_cons_self; exact List.mem_cons_of_mem _ hw)
  exact va_runS (As := As) (rest := rest) S hct (va_cwS n hts hG rfl rfl rfl ⟨hm.2.2.1, hm.2.2.2.1, hm.2.2.2.2.1⟩ (room_ok X hm hj)) ⟨CP_blind, pre_ok X h1 h2 h3⟩ rfl hn h4.1 rfl (lv_room hcat) hd hin
theorem rSN (X : cX Γ p R s m args meth c cc ret nm own k mc ms nL) {mc' ms' j idx n : Nat} {md : MD} {As rest : List Value} {post : Option Value → MM → Prop} (L : LSN own idx md n) (hct : CT Γ l j (s.heap.size + cells) mc' ms' md As μ post) (hd : decode cc pc = .ok (.invokestatic idx, 3)) (hn : As.length = n) (hst : st = As.reverse ++ rest) (hcat : (rest.map fun v => v.category).sum ≤ 8) (hj : j + 1 ≤ k) (hcl : cells + mc' ≤ mc) (hsl : slots + ms' ≤ ms) : vRun Γ p l e R s m args below meth c nL cells slots mc' ms' pc lv st μ rest post := by
  intro H locs ls h1 h2 h3 h4
  have hts := X.2.2.2.2.2.1
  have hin : cells + mc' ≤ R.cells ∧ slots + ms' ≤ R.slots := ⟨Nat.le_trans hcl X.2.2.2.2.2.2.2.2.2.2.2.2.1, Nat.le_trans hsl X.2.2.2.2.2.2.2.2.2.2.2.2.2⟩
  have S : CallFix p m c cc nL s args GT own := ⟨X.1, X.2.1, X.2.2.2.1, X.2.2.2.2.1, hts⟩
  subst hst
  obtain ⟨hm, l1, l2⟩ := L
  exact va_runSN (As := As) (rest := rest) S hct ⟨va_cnB n hts hm.good rfl rfl rfl (X.2.2.2.2.2.2.1.2.1 _ l1) (hts _ hm.2.1) ⟨hm.2.2.1, hm.2.2.2.1, hm.2.2.2.2.1⟩ (room_ok X hm hj), hts _ l2, trivial⟩ ⟨CP_blind, pre_ok X h1 h2 h3⟩ rfl hn h4.1 rfl (lv_room hcat) hd hin
theorem rI (X : cX Γ p R s m args meth c cc ret nm own k mc ms nL) {mc' ms' j idx n b nL' : Nat} {y : MethodName} {by' : ByteArray} {As rest : List Value} {post : Option Value → MM → Prop} (L : LI own idx (y, by', nL', none) n) (hct : CT Γ l j (s.heap.size + cells) mc' ms' (y, by', nL', none) (.ref b :: As) μ post) (hd : decode cc pc = .ok (.invokespecial idx, 3)) (hn : As.length = n) (hst : st = As.reverse ++ .ref b :: rest) (hcat : (rest.map fun v => v.category).sum ≤ 8) (hj : j + 1 ≤ k) (hcl : cells + mc' ≤ mc) (hsl : slots + ms' ≤ ms) : vRun Γ p l e R s m args below meth c nL cells slots mc' ms' pc lv st μ rest post := by
  intro H locs ls h1 h2 h3 h4
  have hts := X.2.2.2.2.2.1
  have hin : cells + mc' ≤ R.cells ∧ slots + ms' ≤ R.slots := ⟨Nat.le_trans hcl X.2.2.2.2.2.2.2.2.2.2.2.2.1, Nat.le_trans hsl X.2.2.2.2.2.2.2.2.2.2.2.2.2⟩
  have S : CallFix p m c cc nL s args GT own := ⟨X.1, X.2.1, X.2.2.2.1, X.2.2.2.2.1, hts⟩
  subst hst
  obtain ⟨hm, l1, l2, l3, l4⟩ := L
  exact va_runI (As := As) (rest := rest) S hct (cwI n hts hm.good rfl rfl rfl (hts _ hm.2.1) (hts _ l1) (hts _ l2) l3 ⟨hm.2.2.1, hm.2.2.2.1, hm.2.2.2.2.1⟩ (room_ok X hm hj)) ⟨CP_blind, pre_ok X h1 h2 h3⟩ rfl hn h4.1 rfl (lv_room hcat) hd hin
theorem rIN (X : cX Γ p R s m args meth c cc ret nm own k mc ms nL) {mc' ms' j idx n b nL' : Nat} {y : MethodName} {by' : ByteArray} {As rest : List Value} {post : Option Value → MM → Prop} (L : LIN own idx (y, by', nL', none) n) (hct : CT Γ l j (s.heap.size + cells) mc' ms' (y, by', nL', none) (.ref b :: As) μ post) (hd : decode cc pc = .ok (.invokespecial idx, 3)) (hn : As.length = n) (hst : st = As.reverse ++ .ref b :: rest) (hcat : (rest.map fun v => v.category).sum ≤ 8) (hj : j + 1 ≤ k) (hcl : cells + mc' ≤ mc) (hsl : slots + ms' ≤ ms) : vRun Γ p l e R s m args below meth c nL cells slots mc' ms' pc lv st μ rest post := by
  intro H locs ls h1 h2 h3 h4
  have hts := X.2.2.2.2.2.1
  have hin : cells + mc' ≤ R.cells ∧ slots + ms' ≤ R.slots := ⟨Nat.le_trans hcl X.2.2.2.2.2.2.2.2.2.2.2.2.1, Nat.le_trans hsl X.2.2.2.2.2.2.2.2.2.2.2.2.2⟩
  have S : CallFix p m c cc nL s args GT own := ⟨X.1, X.2.1, X.2.2.2.1, X.2.2.2.2.1, hts⟩
  subst hst
  obtain ⟨hm, l1, l2, l3, l4⟩ := L
  exact va_runIN (As := As) (rest := rest) S hct ⟨va_cnB n hts hm.good rfl rfl rfl (X.2.2.2.2.2.2.1.2.1 _ l1) (hts _ hm.2.1) ⟨hm.2.2.1, hm.2.2.2.1, hm.2.2.2.2.1⟩ (room_ok X hm hj), l3, hts _ l2⟩ ⟨CP_blind, pre_ok X h1 h2 h3⟩ rfl hn h4.1 rfl (lv_room hcat) hd hin
theorem r_objInit (X : cX Γ p R s m args meth c cc ret nm own k mc ms nL) {idx a : Nat} (L : Cond.methodLink own idx objectInit ∈ GT ∧ Cond.instanceMethod objectInit ∈ GT ∧ Cond.code objectInit ⟨#[0xb1]⟩ 1 none ∈ GT) (hd : decode cc pc = .ok (.invokespecial idx, 3)) (hk : 1 ≤ k) (hcat : (st.map fun v => v.category).sum ≤ 8) (kk : vV Γ p l e R s m args below meth c Q nL (cells) (slots) (pc + 3) (lv) (st) (μ)) : vV Γ p l e R s m args below meth c Q nL (cells) (slots) (pc) (lv) (.ref a :: st) (μ) := by
  intro H locs ls h1 h2 h3 h4
  have hts := X.2.2.2.2.2.1
  have q1 := X.2.2.2.2.2.2.2.2.2.2.1
  have q2 := X.2.2.2.2.2.2.2.2.2.2.2.1
  refine W.objInit X.1 X.2.1 X.2.2.2.2.1 (hts _ L.1) (hts _ L.2.1) (hts _ L.2.2) rfl (by rw [X.2.2.2.1]; exact h4.1) rfl hd (by omega) (by show 2 * 0 + _ + 12 ≤ _; omega) (kk H locs ls h1 h2 h3 h4)
theorem r_iret (X : cX Γ p R s m args meth c cc (some .int) nm own k mc ms nL) (hd : decode cc pc = .ok (.ireturn, 1)) {v : Int32} {post : Int32 → MM → Prop} (hp : post v μ) : vV Γ p l e R s m args below meth c (vQ Γ s args below mc ms (ri post)) nL mc ms pc lv ([.int v]) μ := fun H locs ls h1 h2 h3 h4 => W.iret X.1 X.2.1 X.2.2.1 (fun t ht hW => ⟨some (.int v), μ, rfl, ⟨v, rfl, hp⟩, by rw [ht]; exact h1, by rw [ht]; exact h2, fun q hq => by rw [ht]; exact h3.2.1 q (Nat.lt_of_lt_of_le hq X.2.2.2.2.2.2.2.1) (Nat.not_le.mpr hq)⟩) h3.2.2 hd X.2.2.2.2.2.2.2.2.1
theorem r_zret {ty : FieldType} (X : cX Γ p R s m args meth c cc (some ty) nm own k mc ms nL) (hd : decode cc pc = .ok (.ireturn, 1)) {v : Int32} {post : Int32 → MM → Prop} (hn : narrow ty (.int v) = .int v) (hp : post v μ) : vV Γ p l e R s m args below meth c (vQ Γ s args below mc ms (ri post)) nL mc ms pc lv ([.int v]) μ := fun H locs ls h1 h2 h3 h4 => W.zret X.1 X.2.1 X.2.2.1 hn (fun t ht hW => ⟨some (.int v), μ, rfl, ⟨v, rfl, hp⟩, by rw [ht]; exact h1, by rw [ht]; exact h2, fun q hq => by rw [ht]; exact h3.2.1 q (Nat.lt_of_lt_of_le hq X.2.2.2.2.2.2.2.1) (Nat.not_le.mpr hq)⟩) h3.2.2 hd X.2.2.2.2.2.2.2.2.1
theorem r_lret (X : cX Γ p R s m args meth c cc (some .long) nm own k mc ms nL) (hd : decode cc pc = .ok (.lreturn, 1)) {v : Int64} {post : Int64 → MM → Prop} (hp : post v μ) : vV Γ p l e R s m args below meth c (vQ Γ s args below mc ms (rl post)) nL mc ms pc lv ([.long v]) μ := fun H locs ls h1 h2 h3 h4 => W.lret X.1 X.2.1 X.2.2.1 (fun t ht hW => ⟨some (.long v), μ, rfl, ⟨v, rfl, hp⟩, by rw [ht]; exact h1, by rw [ht]; exact h2, fun q hq => by rw [ht]; exact h3.2.1 q (Nat.lt_of_lt_of_le hq X.2.2.2.2.2.2.2.1) (Nat.not_le.mpr hq)⟩) h3.2.2 hd X.2.2.2.2.2.2.2.2.1
theorem r_aret {C : String} (X : cX Γ p R s m args meth c cc (some (.object C)) nm own k mc ms nL) (hd : decode cc pc = .ok (.areturn, 1)) {v : Nat} {post : Nat → MM → Prop} (hp : post v μ) : vV Γ p l e R s m args below meth c (vQ Γ s args below mc ms (rr post)) nL mc ms pc lv ([.ref v]) μ := fun H locs ls h1 h2 h3 h4 => W.aret X.1 X.2.1 X.2.2.1 (Or.inl ⟨_, rfl⟩) (Or.inr ⟨_, rfl⟩) (fun t ht hW => ⟨some (.ref v), μ, rfl, ⟨v, rfl, hp⟩, by rw [ht]; exact h1, by rw [ht]; exact h2, fun q hq => by rw [ht]; exact h3.2.1 q (Nat.lt_of_lt_of_le hq X.2.2.2.2.2.2.2.1) (Nat.not_le.mpr hq)⟩) h3.2.2 hd X.2.2.2.2.2.2.2.2.1
theorem r_vret (X : cX Γ p R s m args meth c cc none nm own k mc ms nL) (hd : decode cc pc = .ok (.return_, 1)) {post : MM → Prop} (hp : post μ) : vV Γ p l e R s m args below meth c (vQ Γ s args below mc ms (rv post)) nL mc ms pc lv ([]) μ := fun H locs ls h1 h2 h3 h4 => W.vret X.1 X.2.1 X.2.2.1 (fun t ht hW => ⟨none, μ, rfl, ⟨rfl, hp⟩, by rw [ht]; exact h1, by rw [ht]; exact h2, fun q hq => by rw [ht]; exact h3.2.1 q (Nat.lt_of_lt_of_le hq X.2.2.2.2.2.2.2.1) (Nat.not_le.mpr hq)⟩) h3.2.2 hd X.2.2.2.2.2.2.2.2.1
def LN (own : String) (idx ci : Nat) (C : String) (T : u_T) (N : Nat) (fs : List Value) : Prop := vwCl[ci]? = some (C, T, N) ∧ Cond.classLink own idx C ∈ GT ∧ Cond.instantiable C N ∈ GT ∧ Cond.initialized C ∈ GT ∧ (∀ w ∈ u_ws C T N, w ∈ GT) ∧ ∃ ty : Nat → FieldType, (∀ k, k < N → parseFieldDescriptor (T k).2.2.1 = some (ty k)) ∧ ∀ j, j < N → defaultValue (ty j) = vp_V fs j
theorem r_new (X : cX Γ p R s m args meth c cc ret nm own k mc ms nL) {idx ci N : Nat} {C : String} {T : u_T} {fs : List Value} (L : LN own idx ci C T N fs) (hd : decode cc pc = .ok (.new idx, 3)) (hcl : cells + 1 ≤ mc) (hsl : slots + N ≤ ms) (kk : vV Γ p l e R s m args below meth c Q nL (cells + 1) (slots + N) (pc + 3) (lv) (.ref (s.heap.size + cells) :: st) (mu μ (s.heap.size + cells) (xO ci fs))) : vV Γ p l e R s m args below meth c Q nL (cells) (slots) (pc) (lv) (st) (μ) := by
  intro H locs ls h1 h2 h3 h4
  obtain ⟨hc, l1, l2, l3, hin, ty, hty, hfs⟩ := L
  have hts := X.2.2.2.2.2.1
  have hKn := X.2.2.2.2.2.2.1.1.1 ci _ hc
  refine W.newcK X.1 X.2.1 X.2.2.2.2.1 (hts _ l1) (hts _ l2) (hts _ l3) rfl hd (Nat.le_trans hcl X.2.2.2.2.2.2.2.2.2.2.2.2.1) (Nat.le_trans hsl X.2.2.2.2.2.2.2.2.2.2.2.2.2) hKn.2.1 h2 fun H1 kC hkC e1 z1 o1 => ?_
  refine kk H1 locs ls (h1.push (Nat.le_trans X.2.2.2.2.2.2.2.1 (Nat.le_add_right _ _)) h2 ⟨_, hc, (u_born ty hts hin hKn hkC e1 hty).to hfs⟩ o1) (by rw [z1, Nat.add_assoc]) ⟨Nat.le_trans h3.1 (by omega), fun q g1 g2 => (o1 q (Nat.lt_of_lt_of_le g1 (Nat.le_add_right _ _))).trans (h3.2.1 q g1 g2), h3.2.2⟩ h4
theorem r_newaI (X : cX Γ p R s m args meth c cc ret nm own k mc ms nL) {N : Nat} (L : Cond.arrayClass .int ∈ GT) (hd : decode cc pc = .ok (.newarray .int, 2)) (hN : N < 1000) (hcl : cells + 1 ≤ mc) (hsl : slots + N ≤ ms) (kk : vV Γ p l e R s m args below meth c Q nL (cells + 1) (slots + N) (pc + 2) (lv) (.ref (s.heap.size + cells) :: st) (mu μ (s.heap.size + cells) (xI Γ N (fun _ => nI 0)))) : vV Γ p l e R s m args below meth c Q nL (cells) (slots) (pc) (lv) (.int (nI N) :: st) (μ) := by
  intro H locs ls h1 h2 h3 h4
  have hts := X.2.2.2.2.2.1
  have hcb : componentBytes (newarray.typeOf .int) ≤ 8 := by decide
  refine va_newaK X.1 X.2.1 (atype := .int) (hts _ L) rfl hd rfl (nI_pos (by omega)) (nI_clamp (by omega)) (Nat.le_trans (Nat.mul_le_mul (Nat.le_of_lt hN) hcb) (by decide)) (Nat.le_trans hcl X.2.2.2.2.2.2.2.2.2.2.2.2.1) (Nat.le_trans hsl X.2.2.2.2.2.2.2.2.2.2.2.2.2) h2 fun H1 cA e1 z1 o1 hAr hNm => ?_
  have hcA : cA = kcI Γ := Option.some.inj (hNm.symm.trans (X.2.2.2.2.2.2.1.1.2 0 _ rfl).2)
  subst hcA
  refine kk H1 locs ls (h1.push (Nat.le_trans X.2.2.2.2.2.2.2.1 (Nat.le_add_right _ _)) h2 ?_ o1) (by rw [z1, Nat.add_assoc]) ⟨Nat.le_trans h3.1 (by omega), fun q g1 g2 => (o1 q (Nat.lt_of_lt_of_le g1 (Nat.le_add_right _ _))).trans (h3.2.1 q g1 g2), h3.2.2⟩ h4
  show H1[_]? = some (vp_cell _ _)
  rw [vp_cell_i, e1]
  rfl
theorem r_newaC (X : cX Γ p R s m args meth c cc ret nm own k mc ms nL) {N : Nat} (L : Cond.arrayClass .char ∈ GT) (hd : decode cc pc = .ok (.newarray .char, 2)) (hN : N < 1000) (hcl : cells + 1 ≤ mc) (hsl : slots + N ≤ ms) (kk : vV Γ p l e R s m args below meth c Q nL (cells + 1) (slots + N) (pc + 2) (lv) (.ref (s.heap.size + cells) :: st) (mu μ (s.heap.size + cells) (xC Γ N (fun _ => nI 0)))) : vV Γ p l e R s m args below meth c Q nL (cells) (slots) (pc) (lv) (.int (nI N) :: st) (μ) := by
  intro H locs ls h1 h2 h3 h4
  have hts := X.2.2.2.2.2.1
  have hcb : componentBytes (newarray.typeOf .char) ≤ 8 := by decide
  refine va_newaK X.1 X.2.1 (atype := .char) (hts _ L) rfl hd rfl (nI_pos (by omega)) (nI_clamp (by omega)) (Nat.le_trans (Nat.mul_le_mul (Nat.le_of_lt hN) hcb) (by decide)) (Nat.le_trans hcl X.2.2.2.2.2.2.2.2.2.2.2.2.1) (Nat.le_trans hsl X.2.2.2.2.2.2.2.2.2.2.2.2.2) h2 fun H1 cA e1 z1 o1 hAr hNm => ?_
  have hcA : cA = kcC Γ := Option.some.inj (hNm.symm.trans (X.2.2.2.2.2.2.1.1.2 1 _ rfl).2)
  subst hcA
  refine kk H1 locs ls (h1.push (Nat.le_trans X.2.2.2.2.2.2.2.1 (Nat.le_add_right _ _)) h2 ?_ o1) (by rw [z1, Nat.add_assoc]) ⟨Nat.le_trans h3.1 (by omega), fun q g1 g2 => (o1 q (Nat.lt_of_lt_of_le g1 (Nat.le_add_right _ _))).trans (h3.2.1 q g1 g2), h3.2.2⟩ h4
  show H1[_]? = some (vp_cell _ _)
  rw [vp_cell_i, e1]
  rfl
theorem r_newaZ (X : cX Γ p R s m args meth c cc ret nm own k mc ms nL) {N : Nat} (L : Cond.arrayClass .boolean ∈ GT) (hd : decode cc pc = .ok (.newarray .boolean, 2)) (hN : N < 1000) (hcl : cells + 1 ≤ mc) (hsl : slots + N ≤ ms) (kk : vV Γ p l e R s m args below meth c Q nL (cells + 1) (slots + N) (pc + 2) (lv) (.ref (s.heap.size + cells) :: st) (mu μ (s.heap.size + cells) (xZ Γ N (fun _ => nI 0)))) : vV Γ p l e R s m args below meth c Q nL (cells) (slots) (pc) (lv) (.int (nI N) :: st) (μ) := by
  intro H locs ls h1 h2 h3 h4
  have hts := X.2.2.2.2.2.1
  have hcb : componentBytes (newarray.typeOf .boolean) ≤ 8 := by decide
  refine va_newaK X.1 X.2.1 (atype := .boolean) (hts _ L) rfl hd rfl (nI_pos (by omega)) (nI_clamp (by omega)) (Nat.le_trans (Nat.mul_le_mul (Nat.le_of_lt hN) hcb) (by decide)) (Nat.le_trans hcl X.2.2.2.2.2.2.2.2.2.2.2.2.1) (Nat.le_trans hsl X.2.2.2.2.2.2.2.2.2.2.2.2.2) h2 fun H1 cA e1 z1 o1 hAr hNm => ?_
  have hcA : cA = kcZ Γ := Option.some.inj (hNm.symm.trans (X.2.2.2.2.2.2.1.1.2 2 _ rfl).2)
  subst hcA
  refine kk H1 locs ls (h1.push (Nat.le_trans X.2.2.2.2.2.2.2.1 (Nat.le_add_right _ _)) h2 ?_ o1) (by rw [z1, Nat.add_assoc]) ⟨Nat.le_trans h3.1 (by omega), fun q g1 g2 => (o1 q (Nat.lt_of_lt_of_le g1 (Nat.le_add_right _ _))).trans (h3.2.1 q g1 g2), h3.2.2⟩ h4
  show H1[_]? = some (vp_cell _ _)
  rw [vp_cell_i, e1]
  rfl
theorem r_newaS (X : cX Γ p R s m args meth c cc ret nm own k mc ms nL) {N idx : Nat} (L : Cond.classLink own idx "NobodyCave$Scene" ∈ GT) (hd : decode cc pc = .ok (.anewarray idx, 3)) (hN : N < 1000) (hcl : cells + 1 ≤ mc) (hsl : slots + N ≤ ms) (kk : vV Γ p l e R s m args below meth c Q nL (cells + 1) (slots + N) (pc + 3) (lv) (.ref (s.heap.size + cells) :: st) (mu μ (s.heap.size + cells) (xS Γ N (fun _ => none)))) : vV Γ p l e R s m args below meth c Q nL (cells) (slots) (pc) (lv) (.int (nI N) :: st) (μ) := by
  intro H locs ls h1 h2 h3 h4
  have hts := X.2.2.2.2.2.1
  have ec := nI_clamp (n := N) (by omega)
  have hR1 := X.2.2.2.2.2.2.2.2.2.2.2.2.1
  have hR2 := X.2.2.2.2.2.2.2.2.2.2.2.2.2
  refine W.anew X.1 X.2.1 X.2.2.2.2.1 (hts _ L) (va_AO.use X.2.2.2.2.2.2.1.2.2.1) rfl hd rfl (nI_pos (by omega)) (by rw [ec]; omega) (by omega) (by rw [ec]; omega) fun cA kA' comp f1 f2 f3 f4 => ?_
  have hcA : cA = kcS Γ := by
    obtain ⟨_, _, _, _, _, hq⟩ := (X.2.2.2.2.2.2.1.1.2 3 _ rfl).2
    exact Option.some.inj (f1.symm.trans hq)
  subst hcA
  rw [ec, h2]
  generalize hH1 : H.push ({ cls := kcS Γ, slots := Array.replicate N .null, vm := .none } : Cell) = H1
  have z1 : H1.size = H.size + 1 := by rw [← hH1, Array.size_push]
  have e1 : H1[H.size]? = some (arrV (kcS Γ) N (fun _ => .null)) := by rw [← hH1, Array.getElem?_push_size, ← arrV_new]
  have o1 : ∀ q : Nat, q < H.size → H1[q]? = H[q]? := fun q hq => by rw [← hH1, Array.getElem?_push, if_neg (Nat.ne_of_lt hq)]
  rw [h2] at e1 o1 z1
  refine kk H1 locs ls (h1.push (Nat.le_trans X.2.2.2.2.2.2.2.1 (Nat.le_add_right _ _)) h2 ?_ o1) (by rw [z1, Nat.add_assoc]) ⟨Nat.le_trans h3.1 (by omega), fun q g1 g2 => (o1 q (Nat.lt_of_lt_of_le g1 (Nat.le_add_right _ _))).trans (h3.2.1 q g1 g2), h3.2.2⟩ h4
  show H1[_]? = some (vp_cell _ _)
  rw [vp_cell_q, e1]
  rfl
theorem r_max (X : cX Γ p R s m args meth c cc ret nm own k mc ms nL) {idx : Nat} {x y : Int32} (L : Cond.methodLink own idx Lib.Math.max.name ∈ GT ∧ Cond.static Lib.Math.max.name ∈ GT ∧ Cond.initialized "java/lang/Math" ∈ GT ∧ Cond.code Lib.Math.max.name Lib.Math.max.code 2 (some .int) ∈ GT) (hd : decode cc pc = .ok (.invokestatic idx, 3)) (hk : 1 ≤ k) (hcat : (st.map fun v => v.category).sum ≤ 8) (hcl : cells ≤ mc) (hsl : slots ≤ ms) (kk : vV Γ p l e R s m args below meth c Q nL (cells) (slots) (pc + 3) (lv) (.int (if x < y then y else x) :: st) (μ)) : vV Γ p l e R s m args below meth c Q nL (cells) (slots) (pc) (lv) (.int y :: .int x :: st) (μ) := by
  intro H locs ls h1 h2 h3 h4
  have hts := X.2.2.2.2.2.1
  have q1 := X.2.2.2.2.2.2.2.2.2.2.1
  have q2 := X.2.2.2.2.2.2.2.2.2.2.2.1
  have q3 := X.2.2.2.2.2.2.2.2.2.2.2.2.1
  have q4 := X.2.2.2.2.2.2.2.2.2.2.2.2.2
  exact va_mmax X.1 X.2.1 (X.2.2.2.1.trans h4.1.symm) X.2.2.2.2.1 (hts _ L.1) (hts _ L.2.1) (hts _ L.2.2.1) (hts _ L.2.2.2) (by omega) (by omega) (by omega) (by omega) hd (kk H locs ls h1 h2 h3 h4)
theorem r_min (X : cX Γ p R s m args meth c cc ret nm own k mc ms nL) {idx : Nat} {x y : Int32} (L : Cond.methodLink own idx Lib.Math.min.name ∈ GT ∧ Cond.static Lib.Math.min.name ∈ GT ∧ Cond.initialized "java/lang/Math" ∈ GT ∧ Cond.code Lib.Math.min.name Lib.Math.min.code 2 (some .int) ∈ GT) (hd : decode cc pc = .ok (.invokestatic idx, 3)) (hk : 1 ≤ k) (hcat : (st.map fun v => v.category).sum ≤ 8) (hcl : cells ≤ mc) (hsl : slots ≤ ms) (kk : vV Γ p l e R s m args below meth c Q nL (cells) (slots) (pc + 3) (lv) (.int (if y < x then y else x) :: st) (μ)) : vV Γ p l e R s m args below meth c Q nL (cells) (slots) (pc) (lv) (.int y :: .int x :: st) (μ) := by
  intro H locs ls h1 h2 h3 h4
  have hts := X.2.2.2.2.2.1
  have q1 := X.2.2.2.2.2.2.2.2.2.2.1
  have q2 := X.2.2.2.2.2.2.2.2.2.2.2.1
  have q3 := X.2.2.2.2.2.2.2.2.2.2.2.2.1
  have q4 := X.2.2.2.2.2.2.2.2.2.2.2.2.2
  exact va_mmin X.1 X.2.1 (X.2.2.2.1.trans h4.1.symm) X.2.2.2.2.1 (hts _ L.1) (hts _ L.2.1) (hts _ L.2.2.1) (hts _ L.2.2.2) (by omega) (by omega) (by omega) (by omega) hd (kk H locs ls h1 h2 h3 h4)
theorem r_gets (X : cX Γ p R s m args meth c cc ret nm own k mc ms nL) {idx i : Nat} (hi : i < 3) (L : Cond.fieldLink own idx "NobodyCave" (stN i) "[I" ∈ GT) (hd : decode cc pc = .ok (.getstatic idx, 3)) (kk : vV Γ p l e R s m args below meth c Q nL (cells) (slots) (pc + 3) (lv) (.ref (kS Γ i) :: st) (μ)) : vV Γ p l e R s m args below meth c Q nL (cells) (slots) (pc) (lv) (st) (μ) := fun H locs ls h1 h2 h3 h4 => va_gets X.1 X.2.1 (X.2.2.2.2.2.2.1.2.2.2.1 i hi).1 h3 X.2.2.2.2.1 (X.2.2.2.2.2.1 _ L) (fun _ h => h) hd (kk H locs ls h1 h2 h3 h4)
theorem r_getsN (X : cX Γ p R s m args meth c cc ret nm own k mc ms nL) {idx i : Nat} (hi : i < 3) (L : Cond.fieldLinkNest own idx "NobodyCave" (stN i) "[I" "NobodyCave" ∈ NW) (hd : decode cc pc = .ok (.getstatic idx, 3)) (kk : vV Γ p l e R s m args below meth c Q nL (cells) (slots) (pc + 3) (lv) (.ref (kS Γ i) :: st) (μ)) : vV Γ p l e R s m args below meth c Q nL (cells) (slots) (pc) (lv) (st) (μ) := fun H locs ls h1 h2 h3 h4 => va_getsN X.1 X.2.1 (X.2.2.2.2.2.2.1.2.2.2.1 i hi).1 h3 X.2.2.2.2.1 (va_Nw.use rfl (X.2.2.2.2.2.2.1.2.1 _ L)) (fun _ h => h) hd (kk H locs ls h1 h2 h3 h4)
theorem r_tald (X : cX Γ p R s m args meth c cc ret nm own k mc ms nL) {i j : Nat} (hi : i < 3) (hd : decode cc pc = .ok (.iaload, 1)) (hj : j < stL i) (kk : vV Γ p l e R s m args below meth c Q nL (cells) (slots) (pc + 1) (lv) (.int ((stV i).getD j 0) :: st) (μ)) : vV Γ p l e R s m args below meth c Q nL (cells) (slots) (pc) (lv) (.int (nI j) :: .ref (kS Γ i) :: st) (μ) := by
  intro H locs ls h1 h2 h3 h4
  have hs : stL i ≤ 11 := by unfold stL; split <;> decide
  exact va_ti X.1 X.2.1 (X.2.2.2.2.2.2.1.2.2.2.1 i hi).2 h3 (nI_vp hj (by omega)) (by rw [nI_clamp (by omega)]) hd (kk H locs ls h1 h2 h3 h4)
theorem r_talen (X : cX Γ p R s m args meth c cc ret nm own k mc ms nL) {i : Nat} (hi : i < 3) (hd : decode cc pc = .ok (.arraylength, 1)) (kk : vV Γ p l e R s m args below meth c Q nL (cells) (slots) (pc + 1) (lv) (.int (nI (stL i)) :: st) (μ)) : vV Γ p l e R s m args below meth c Q nL (cells) (slots) (pc) (lv) (.ref (kS Γ i) :: st) (μ) := fun H locs ls h1 h2 h3 h4 => va_tlen X.1 X.2.1 (X.2.2.2.2.2.2.1.2.2.2.1 i hi).2 h3 rfl hd (kk H locs ls h1 h2 h3 h4)
theorem r_gcs (X : cX Γ p R s m args meth c cc ret nm own k mc ms nL) {idx : Nat} (L : Cond.fieldLink own idx "java/lang/String" "COMPACT_STRINGS" "Z" ∈ GT) (hd : decode cc pc = .ok (.getstatic idx, 3)) (kk : vV Γ p l e R s m args below meth c Q nL (cells) (slots) (pc + 3) (lv) (.int 1 :: st) (μ)) : vV Γ p l e R s m args below meth c Q nL (cells) (slots) (pc) (lv) (st) (μ) := fun H locs ls h1 h2 h3 h4 => va_gets X.1 X.2.1 X.2.2.2.2.2.2.1.2.2.2.2.2.2.1 h3 X.2.2.2.2.1 (X.2.2.2.2.2.1 _ L) (fun _ h => h) hd (kk H locs ls h1 h2 h3 h4)
theorem r_ldcS (X : cX Γ p R s m args meth c cc ret nm own k mc ms nL) {i idx : Nat} (hi : i < 11) (hx : strI i = idx) (ho : own = "NobodyCave$Text") (hd : decode cc pc = .ok (.ldc idx, 2)) (kk : vV Γ p l e R s m args below meth c Q nL (cells) (slots) (pc + 2) (lv) (.ref (kQ Γ i) :: st) (μ)) : vV Γ p l e R s m args below meth c Q nL (cells) (slots) (pc) (lv) (st) (μ) := by
  subst ho
  subst hx
  exact fun H locs ls h1 h2 h3 h4 => va_ldcS X.1 X.2.1 X.2.2.2.2.1 (X.2.2.2.2.2.2.1.2.2.2.2.2.1 i hi) hd (kk H locs ls h1 h2 h3 h4)
theorem r_copyI (X : cX Γ p R s m args meth c cc ret nm own k mc ms nL) {idx a a0 N : Nat} {f g : Nat → Int32} (L : Cond.methodLink own idx arraycopyName ∈ GT ∧ Cond.native arraycopyName ∈ GT ∧ Cond.static arraycopyName ∈ GT ∧ Cond.initialized "java/lang/System" ∈ GT) (hd : decode cc pc = .ok (.invokestatic idx, 3)) (hk : 1 ≤ k) (hcat : (st.map fun v => v.category).sum ≤ 8) (hN : N < 1000) (ha0 : μ a0 = some (xI Γ N f)) (ha1 : μ a = some (xI Γ N g)) (kk : vV Γ p l e R s m args below meth c Q nL (cells) (slots) (pc + 3) (lv) (st) (mu μ a (xI Γ N f))) : vV Γ p l e R s m args below meth c Q nL (cells) (slots) (pc) (lv) (.int (nI N) :: .int (nI 0) :: .ref a :: .int (nI 0) :: .ref a0 :: st) (μ) := by
  intro H locs ls h1 h2 h3 h4
  have hts := X.2.2.2.2.2.1
  have q1 := X.2.2.2.2.2.2.2.2.2.2.1
  have q2 := X.2.2.2.2.2.2.2.2.2.2.2.1
  have hKt : ArrOfT s (kcI Γ) .int := (X.2.2.2.2.2.2.1.1.2 0 _ rfl).1
  have eN := nI_clamp (n := N) (by omega)
  have e0 := nI_clamp (n := 0) (by omega)
  have iN := nI_toInt (n := N) (by omega)
  have i0 := nI_toInt (n := 0) (by omega)
  have hc0 : H[a0]? = some (vp_cell (kcI Γ) (N, .inl f)) := (h1 a0 _ ha0).1
  have hc1 : H[a]? = some (vp_cell (kcI Γ) (N, .inl g)) := (h1 a _ ha1).1
  obtain ⟨-, k0, hk0, cm0, hkk0⟩ := hKt N (fun j => .int (f j))
  obtain ⟨-, k1, hk1, cm1, hkk1⟩ := hKt N (fun j => .int (g j))
  intro T hT XT
  have hnw : nativeFrameWords "java/lang/System" "arraycopy" 5 + 11 ≤ 32 := by decide +kernel
  have hroom : 2 * 0 + (st.map fun v => v.category).sum + (nativeFrameWords "java/lang/System" "arraycopy" 5 + 11) ≤ R.locals := by omega
  obtain ⟨vm', X', step⟩ := XT.arraycopy X.1 X.2.2.2.2.1 (hts _ L.1) (hts _ L.2.1) (hts _ L.2.2.1) (hts _ L.2.2.2) (src := a0) (dst := a) (cs := vp_cell (kcI Γ) (N, .inl f)) (cd := vp_cell (kcI Γ) (N, .inl g)) (srcPos := nI 0) (destPos := nI 0) (n := nI N) (by rw [hT]; exact hc0) (by rw [hT]; exact hc1)
    (fun _ h => by cases h) (fun _ h => by cases h) (fun h => by cases h) (fun h => by cases h) hk0 hk1 hkk0 hkk1 (by decide) (nI_pos (by omega)) (nI_pos (by omega)) (nI_pos (by omega))
    (by rw [i0, iN]; show ¬ _ > ((arrV (kcI Γ) N (fun j => .int (f j))).slots.size : Int); rw [arrV_size]; omega)
    (by rw [i0, iN]; show ¬ _ > ((arrV (kcI Γ) N (fun j => .int (g j))).slots.size : Int); rw [arrV_size]; omega)
    (fun vm₁ _ i hi => by
      rw [eN] at hi
      have e : (vp_cell (kcI Γ) (N, .inl f)).slots.getD ((nI 0).toNatClampNeg + i) .null = .int (f i) := by
        show (arrV (kcI Γ) N (fun j => .int (f j))).slots.getD _ _ = _
        rw [Array.getD_eq_getD_getElem?, e0, Nat.zero_add, arrV_read _ _ hi]
        rfl
      refine ⟨?_, ?_⟩
      · rw [e]
        rfl
      · rw [e]
        exact trivial)
    (g := F0 m pc ls (.int (nI N) :: .int (nI 0) :: .ref a :: .int (nI 0) :: .ref a0 :: st)) rfl (by rw [X.2.2.2.1]; exact h4.1) (rest := st) rfl (by rw [X.2.1]; exact hd) (by omega) hroom
  have e1 : copied (vp_cell (kcI Γ) (N, .inl f)) (vp_cell (kcI Γ) (N, .inl g)) (nI 0) (nI 0) (nI N) = vp_cell (kcI Γ) (N, .inl f) := by
    have := va_copied (fun z : Int32 => Value.int z) (kcI Γ) (kcI Γ) (n0 := N) (n1 := N) (sp := 0) (dp := 0) (n := N) f g (by omega)
    show (vp_cell (kcI Γ) (N, .inl g)).storeRun (nI 0).toNatClampNeg ((vp_cell (kcI Γ) (N, .inl f)).stretch (nI 0).toNatClampNeg (nI N).toNatClampNeg) = _
    rw [e0, eN, vp_cell_i, vp_cell_i, this]
    exact arrV_congr (fun j hj => by simp [va_cpy, hj])
  rw [e1] at X' step
  have hl : a < H.size := (Array.getElem?_eq_some_iff.mp hc1).1
  have hheap : ((T.setVm vm').setCell a (vp_cell (kcI Γ) (N, .inl f))).heap = H.setIfInBounds a (vp_cell (kcI Γ) (N, .inl f)) := by rw [← hT]; rfl
  have oq : ∀ q : Nat, q ≠ a → (H.setIfInBounds a (vp_cell (kcI Γ) (N, .inl f)))[q]? = H[q]? := fun q hq => by simp [Array.getElem?_setIfInBounds, Ne.symm hq]
  have hkA := (h1 a _ ha1).2
  obtain ⟨t, a1, b1⟩ := kk _ _ ls (h1.set hkA (show (H.setIfInBounds a _)[a]? = some _ by simp [Array.getElem?_setIfInBounds, hl]) oq) (by rw [Array.size_setIfInBounds]; exact h2) ⟨by rw [Array.size_setIfInBounds]; exact h3.1, fun q g1 g2 => by
      rw [oq q (fun e => g2 (by rw [e]; exact hkA))]
      exact h3.2.1 q g1 g2, fun q hq => by
      rcases List.mem_append.mp hq with h | h
      · exact h3.2.2 q h
      · obtain ⟨z, -, hz⟩ := List.mem_map.mp h
        rw [← hz]
        exact hkA⟩ h4 _ hheap X'
  exact ⟨t, step t a1, b1⟩
end LZ
