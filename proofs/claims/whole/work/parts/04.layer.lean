/-! ===== the layer: one memory for all cells that the law has made; rows by instruction ===== -/
abbrev MM : Type := Nat → Option va_E
def mu (μ : MM) (a : Nat) (e : va_E) : MM := fun q => if q = a then some e else μ q
theorem mu_self {μ : MM} {a : Nat} {e : va_E} : mu μ a e a = some e := if_pos rfl
theorem mu_ne {μ : MM} {a b : Nat} {e : va_E} (h : b ≠ a) : mu μ a e b = μ b := if_neg h
theorem mu_mu {μ : MM} {a : Nat} {e e' : va_E} : mu (mu μ a e) a e' = mu μ a e' := by
  funext q
  by_cases h : q = a <;> simp [mu, h]
theorem mu_comm {μ : MM} {a b : Nat} {e e' : va_E} (h : a ≠ b) : mu (mu μ a e) b e' = mu (mu μ b e') a e := by
  funext q
  by_cases h1 : q = a
  · subst h1; simp [mu, h]
  · by_cases h2 : q = b
    · subst h2; simp [mu, h1]
    · simp [mu, h1, h2]
abbrev KK : Type := va_G × (ClassId × ClassId × ClassId × ClassId) × (Nat → Nat) × (Nat → Nat) × (Nat → Nat) × Nat
def kD (Γ : KK) : va_G := Γ.1
def kcI (Γ : KK) : ClassId := Γ.2.1.1
def kcC (Γ : KK) : ClassId := Γ.2.1.2.1
def kcZ (Γ : KK) : ClassId := Γ.2.1.2.2.1
def kcS (Γ : KK) : ClassId := Γ.2.1.2.2.2
def kS (Γ : KK) : Nat → Nat := Γ.2.2.1
def kQ (Γ : KK) : Nat → Nat := Γ.2.2.2.1
def kV (Γ : KK) : Nat → Nat := Γ.2.2.2.2.1
def kB (Γ : KK) : Nat := Γ.2.2.2.2.2
def kA (Γ : KK) : Nat → Prop := fun q => kB Γ ≤ q
def kT (Γ : KK) : List (ClassId × FieldType) := [(kcI Γ, .int), (kcC Γ, .char), (kcZ Γ, .boolean), (kcS Γ, .object "NobodyCave$Scene")]
def xI (Γ : KK) (n : Nat) (f : Nat → Int32) : va_E := .inl (kcI Γ, n, .inl f)
def xC (Γ : KK) (n : Nat) (f : Nat → Int32) : va_E := .inl (kcC Γ, n, .inl f)
def xZ (Γ : KK) (n : Nat) (f : Nat → Int32) : va_E := .inl (kcZ Γ, n, .inl f)
def xS (Γ : KK) (n : Nat) (f : Nat → Option Nat) : va_E := .inl (kcS Γ, n, .inr (.inr (.inr (.inr f))))
def xO (ci : Nat) (fs : List Value) : va_E := .inr (ci, fs)
def mP (Γ : KK) (μ : MM) (H : Heap) : Prop := ∀ (a : Nat) (e : va_E), μ a = some e → va_at (kD Γ) vwCl (a, e) H ∧ kA Γ a
theorem mP.set {Γ : KK} {μ : MM} {H H1 : Heap} {a : Nat} {e : va_E} (h : mP Γ μ H) (ha : kA Γ a) (he : va_at (kD Γ) vwCl (a, e) H1) (oq : ∀ q : Nat, q ≠ a → H1[q]? = H[q]?) : mP Γ (mu μ a e) H1 := by
  intro b f hb
  by_cases hba : b = a
  · subst hba
    rw [mu_self] at hb
    cases hb
    exact ⟨he, ha⟩
  · rw [mu_ne hba] at hb
    exact ⟨(h b f hb).1.kept (oq b hba), (h b f hb).2⟩
theorem mP.push {Γ : KK} {μ : MM} {H H1 : Heap} {a : Nat} {e : va_E} (h : mP Γ μ H) (ha : kA Γ a) (hz : H.size = a) (he : va_at (kD Γ) vwCl (a, e) H1) (oq : ∀ q : Nat, q < a → H1[q]? = H[q]?) : mP Γ (mu μ a e) H1 := by
  intro b f hb
  by_cases hba : b = a
  · subst hba
    rw [mu_self] at hb
    cases hb
    exact ⟨he, ha⟩
  · rw [mu_ne hba] at hb
    exact ⟨(h b f hb).1.kept (oq b (by have := (h b f hb).1.lt; rw [hz] at this; exact this)), (h b f hb).2⟩
theorem arrV_congr {cA : ClassId} {n : Nat} {f g : Nat → Value} (h : ∀ j, j < n → f j = g j) : arrV cA n f = arrV cA n g := by
  have : (fun j : Fin n => f j.val) = (fun j : Fin n => g j.val) := funext fun j => h j.val j.isLt
  simp only [arrV, this]
theorem mP.congrI {Γ : KK} {μ : MM} {H : Heap} {a n : Nat} {f g : Nat → Int32} (hfg : ∀ j, j < n → f j = g j) (h : mP Γ (mu μ a (xI Γ n f)) H) : mP Γ (mu μ a (xI Γ n g)) H := by
  intro b e hb
  by_cases hba : b = a
  · subst hba
    rw [mu_self] at hb
    cases hb
    have h1 := h b _ mu_self
    refine ⟨?_, h1.2⟩
    have h2 : H[b]? = some (vp_cell (kcI Γ) (n, .inl f)) := h1.1
    show H[b]? = some (vp_cell (kcI Γ) (n, .inl g))
    rw [h2, vp_cell_i, vp_cell_i, arrV_congr (fun j hj => by rw [hfg j hj])]
  · rw [mu_ne hba] at hb
    exact h b e (by rw [mu_ne hba]; exact hb)
theorem mP.to {Γ : KK} {μ μ' : MM} {H : Heap} (h : mP Γ μ H) (he : ∀ a e, μ' a = some e → ∃ e0, μ a = some e0 ∧ ∀ H, va_at (kD Γ) vwCl (a, e0) H → va_at (kD Γ) vwCl (a, e) H) : mP Γ μ' H := by
  intro a e ha
  obtain ⟨e0, h0, h1⟩ := he a e ha
  exact ⟨h1 H (h a e0 h0).1, (h a e0 h0).2⟩
/-- locals, by their places; a long's second place is none -/
def lh (ls : Array Slot) (nL : Nat) (lv : List (Option Value)) : Prop := ls.size = nL ∧ lv_wf ls ∧ ∀ (i : Nat) (v : Value), lv[i]? = some (some v) → ls[i]? = some (.val v)
def lvp (lv : List (Option Value)) : List (Nat × Value) := (List.range lv.length).filterMap (fun i => match lv[i]? with
  | some (some v) => some (i, v)
  | _ => none)
theorem lvp_mem {lv : List (Option Value)} {i : Nat} {v : Value} : (i, v) ∈ lvp lv ↔ lv[i]? = some (some v) := by
  unfold lvp
  rw [List.mem_filterMap]
  constructor
  · rintro ⟨j, hj, h⟩
    split at h
    · rename_i w hw
      cases h
      exact hw
    · cases h
  · intro h
    refine ⟨i, List.mem_range.mpr (List.getElem?_eq_some_iff.mp h).1, ?_⟩
    rw [h]
theorem lh.has {ls : Array Slot} {nL : Nat} {lv : List (Option Value)} (h : lh ls nL lv) : lv_has ls nL (lvp lv) := ⟨h.1, h.2.1, fun q hq => h.2.2 q.1 q.2 (lvp_mem.mp hq)⟩
def lok (lv : List (Option Value)) (i : Nat) : Bool := match i with
  | 0 => true
  | j + 1 => match lv[j]? with
    | some (some v) => !(v.category == 2)
    | _ => true
theorem lh.st1 {ls : Array Slot} {nL i : Nat} {lv : List (Option Value)} {v : Value} (h : lv_has ls nL ((i, v) :: (lvp lv).filter (fun q => !(q.1 == i) && !(q.1 + 1 == i && q.2.category == 2)))) (ho : lok lv i = true) : lh ls nL (lv.set i (some v)) := by
  refine ⟨h.1, h.2.1, fun j w hj => ?_⟩
  by_cases hji : j = i
  · subst hji
    rw [List.getElem?_set] at hj
    simp only [if_true] at hj
    split at hj
    · cases hj
      exact h.2.2 (j, v) List.mem_cons_self
    · cases hj
  · rw [List.getElem?_set_ne (Ne.symm hji)] at hj
    refine h.2.2 (j, w) (List.mem_cons_of_mem _ (List.mem_filter.mpr ⟨lvp_mem.mpr hj, ?_⟩))
    have h1 : (j == i) = false := by simp [hji]
    by_cases h2 : j + 1 = i
    · subst h2
      simp only [lok, hj] at ho
      simp only [h1, Bool.not_false, Bool.true_and, beq_self_eq_true, Bool.true_and]
      exact ho
    · have h3 : (j + 1 == i) = false := by simp [h2]
      simp [h1, h3]
theorem lh.st2 {ls : Array Slot} {nL i : Nat} {lv : List (Option Value)} {v : Value} (h : lv_has ls nL ((i, v) :: (lvp lv).filter (fun q => !(q.1 == i) && (!(q.1 == i + 1) && !(q.1 + 1 == i && q.2.category == 2))))) (ho : lok lv i = true) : lh ls nL ((lv.set i (some v)).set (i + 1) none) := by
  refine ⟨h.1, h.2.1, fun j w hj => ?_⟩
  by_cases hj1 : j = i + 1
  · subst hj1
    rw [List.getElem?_set] at hj
    simp only [if_true] at hj
    split at hj <;> cases hj
  · rw [List.getElem?_set_ne (Ne.symm hj1)] at hj
    by_cases hji : j = i
    · subst hji
      rw [List.getElem?_set] at hj
      simp only [if_true] at hj
      split at hj
      · cases hj
        exact h.2.2 (j, v) List.mem_cons_self
      · cases hj
    · rw [List.getElem?_set_ne (Ne.symm hji)] at hj
      refine h.2.2 (j, w) (List.mem_cons_of_mem _ (List.mem_filter.mpr ⟨lvp_mem.mpr hj, ?_⟩))
      have h1 : (j == i) = false := by simp [hji]
      have h4 : (j == i + 1) = false := by simp [hj1]
      by_cases h2 : j + 1 = i
      · subst h2
        simp only [lok, hj] at ho
        simp only [h1, h4, Bool.not_false, Bool.true_and, beq_self_eq_true, Bool.true_and]
        exact ho
      · have h3 : (j + 1 == i) = false := by simp [h2]
        simp [h1, h3, h4]
def lve : List Value → List (Option Value)
  | [] => []
  | v :: vs => if v.category = 2 then some v :: none :: lve vs else some v :: lve vs
theorem lve_args : ∀ (vs : List Value) (k i : Nat) (v : Value), (lve vs)[i]? = some (some v) → (k + i, v) ∈ lv_args k vs
  | [], _, i, v, h => by simp [lve] at h
  | x :: xs, k, i, v, h => by
    unfold lve at h
    unfold lv_args
    by_cases hc : x.category = 2
    · rw [if_pos hc] at h
      rw [if_pos hc]
      match i, h with
      | 0, h => simp at h; subst h; exact List.mem_cons_self
      | 1, h => simp at h
      | i + 2, h =>
        have h1 := lve_args xs (k + 2) i v (by simpa using h)
        rw [show k + (i + 2) = k + 2 + i by omega]
        exact List.mem_cons_of_mem _ h1
    · rw [if_neg hc] at h
      rw [if_neg hc]
      match i, h with
      | 0, h => simp at h; subst h; exact List.mem_cons_self
      | i + 1, h =>
        have h1 := lve_args xs (k + 1) i v (by simpa using h)
        rw [show k + (i + 1) = k + 1 + i by omega]
        exact List.mem_cons_of_mem _ h1
theorem lh.entry {vs : List Value} {n : Nat} (h : (lg_sl vs).length ≤ n) : lh ((lg_sl vs ++ List.replicate (n - (lg_sl vs).length) Slot.unset).toArray) n (lve vs ++ List.replicate (n - (lve vs).length) none) := by
  have h0 := lv_entry vs h
  refine ⟨h0.1, h0.2.1, fun i v hi => ?_⟩
  have h1 : (lve vs)[i]? = some (some v) := by
    by_cases hl : i < (lve vs).length
    · rw [List.getElem?_append_left hl] at hi
      exact hi
    · rw [List.getElem?_append_right (by omega), List.getElem?_replicate] at hi
      split at hi <;> cases hi
  have h2 := lve_args vs 0 i v h1
  rw [Nat.zero_add] at h2
  exact h0.2.2 (i, v) h2

/-- links among nest mates -/
def NW : List Cond := [(Cond.methodLinkNest "NobodyCave" 9 ⟨"NobodyCave$Text", "<init>", "()V"⟩ "NobodyCave"),
  (Cond.methodLinkNest "NobodyCave" 28 ⟨"NobodyCave$Scene", "<init>", "()V"⟩ "NobodyCave"),
  (Cond.methodLinkNest "NobodyCave$Past" 17 ⟨"NobodyCave$Scene", "<init>", "()V"⟩ "NobodyCave"),
  (Cond.methodLinkNest "NobodyCave" 50 ⟨"NobodyCave$Planner", "<init>", "()V"⟩ "NobodyCave"),
  (Cond.methodLinkNest "NobodyCave" 57 ⟨"NobodyCave$Sights", "<init>", "()V"⟩ "NobodyCave"),
  (Cond.methodLinkNest "NobodyCave$Scene" 40 ⟨"NobodyCave", "allBits", "(I)I"⟩ "NobodyCave"),
  (Cond.fieldLinkNest "NobodyCave$Text" 48 "NobodyCave" "LEAST" "[I" "NobodyCave"),
  (Cond.fieldLinkNest "NobodyCave$Text" 52 "NobodyCave" "MOST" "[I" "NobodyCave"),
  (Cond.methodLinkNest "NobodyCave$Text" 55 ⟨"NobodyCave", "isOutside", "(III)Z"⟩ "NobodyCave"),
  (Cond.methodLinkNest "NobodyCave$Scene" 62 ⟨"NobodyCave", "hasBit", "(II)Z"⟩ "NobodyCave"),
  (Cond.methodLinkNest "NobodyCave$Told" 70 ⟨"NobodyCave", "bearing", "(II)I"⟩ "NobodyCave"),
  (Cond.methodLinkNest "NobodyCave$Told" 80 ⟨"NobodyCave", "hasBit", "(II)Z"⟩ "NobodyCave"),
  (Cond.methodLinkNest "NobodyCave$Planner" 37 ⟨"NobodyCave", "hasBit", "(II)Z"⟩ "NobodyCave"),
  (Cond.methodLinkNest "NobodyCave$Told" 63 ⟨"NobodyCave", "allBits", "(I)I"⟩ "NobodyCave"),
  (Cond.methodLinkNest "NobodyCave$Sights" 35 ⟨"NobodyCave", "bearing", "(II)I"⟩ "NobodyCave")]
theorem NW_kind : ∀ w ∈ NW, (∃ (a : String) (i : Nat) (y : MethodName) (h : String), w = .methodLinkNest a i y h) ∨ (∃ (a : String) (i : Nat) (b n d h : String), w = .fieldLinkNest a i b n d h) := by
  unfold NW
  simp only [List.forall_mem_cons]
  repeat' apply And.intro
  all_goals first | exact Or.inl ⟨_, _, _, _, rfl⟩ | exact Or.inr ⟨_, _, _, _, _, _, rfl⟩ | (intro _ h; cases h)
def stN (i : Nat) : String := match i with
  | 0 => "OVER"
  | 1 => "LEAST"
  | _ => "MOST"
def stL (i : Nat) : Nat := match i with
  | 0 => 5
  | _ => 11
def stV (i : Nat) : List Int32 := match i with
  | 0 => [-1, 0, 1, 1, 0]
  | 1 => [0, 1, 1, 1, 1, 1, 0, 0, 1, 1, 0]
  | _ => [0, 20, 20, 20, 20, 20, 255, 50, 9, 9, 3]

def strI (i : Nat) : Nat := [86, 88, 90, 92, 94, 96, 98, 100, 102, 104, 106].getD i 0
def strT (i : Nat) : String := ["cave", "man", "woolly", "ram", "tied", "bell", "near", "wine", "sleep", "hard", "eats"].getD i ""
def strL : List Nat := [4, 3, 6, 3, 4, 4, 4, 4, 5, 4, 4]
def strB : List (List Int32) := [[99, 97, 118, 101], [109, 97, 110], [119, 111, 111, 108, 108, 121], [114, 97, 109], [116, 105, 101, 100], [98, 101, 108, 108], [110, 101, 97, 114], [119, 105, 110, 101], [115, 108, 101, 101, 112], [104, 97, 114, 100], [101, 97, 116, 115]]
/-- what holds of the machine's tables and of the old cells at every method's start -/
def GG (Γ : KK) (U : State) : Prop :=
  va_K (kD Γ) vwCl (kT Γ) U ∧ (∀ w ∈ NW, va_Nw w U) ∧ va_AO "NobodyCave$Scene" U ∧
  (∀ i, i < 3 → va_Z "NobodyCave" (stN i) "[I" (.ref (kS Γ i)) (kA Γ) U U.heap ∧ va_T .int (kS Γ i) (stL i) (fun j => .int ((stV i).getD j 0)) (kA Γ) U U.heap) ∧
  vk_S 11 strL strB (kQ Γ) (kV Γ) (kA Γ) U U.heap ∧ (∀ i, i < 11 → vk_R "NobodyCave$Text" (strI i) (strT i) (kQ Γ i) U) ∧
  va_Z "java/lang/String" "COMPACT_STRINGS" "Z" (.int 1) (kA Γ) U U.heap ∧ va_Zq "jdk/internal/util/Preconditions" "SIOOBE_FORMATTER" "Ljava/util/function/BiFunction;" (kA Γ) U U.heap
theorem GG.move {Γ : KK} {s U : State} (h : GG Γ s) (hW : s.WarmedH U.vm) (hk : ∀ q : Nat, q < s.heap.size → ¬ kA Γ q → U.heap[q]? = s.heap[q]?) : GG Γ U := by
  obtain ⟨h1, h2, h3, h4, h5, h6, h7, h8⟩ := h
  refine ⟨h1.moved hW.alike, fun w hw => ?_, h3.moved hW.alike, fun i hi => ⟨((h4 i hi).1.moved hW.alike).kept hk, ((h4 i hi).2.moved hW.alike).kept hk⟩, (h5.moved hW.alike).kept hk, fun i hi => (h6 i hi).warm hW, (h7.moved hW.alike).kept hk, (h8.moved hW.alike).kept hk⟩
  rcases NW_kind w hw with ⟨a, i, y, hh, rfl⟩ | ⟨a, i, b, n, d, hh, rfl⟩
  · exact (h2 _ hw).warmM hW
  · exact (h2 _ hw).warmF hW
theorem GG.same {Γ : KK} {u U : State} (h : GG Γ u) (hv : U.vm = u.vm) (hh : U.heap = u.heap) : GG Γ U := by
  obtain ⟨h1, h2, h3, h4, h5, h6, h7, h8⟩ := h
  have ha : u.vm.Alike U.vm := by rw [hv]; exact Vm.Alike.refl _
  refine ⟨h1.moved ha, fun w hw => ?_, h3.moved ha, fun i hi => ?_, ?_, fun i hi => (h6 i hi).same hv, ?_, ?_⟩
  · rcases NW_kind w hw with ⟨a, i, y, hq, rfl⟩ | ⟨a, i, b, n, d, hq, rfl⟩
    · exact (h2 _ hw).same rfl hv.symm
    · exact (h2 _ hw).same rfl hv.symm
  · rw [hh]; exact ⟨(h4 i hi).1.moved ha, (h4 i hi).2.moved ha⟩
  · rw [hh]; exact h5.moved ha
  · rw [hh]; exact h7.moved ha
  · rw [hh]; exact h8.moved ha
/-- a method: its name, code, locals, answer -/
abbrev MD : Type := MethodName × ByteArray × Nat × Option FieldType
def RM (k mc ms : Nat) : Room := { frames := k, cells := mc, slots := ms, locals := 40 * k }
def CP (Γ : KK) (sz : Nat) (av : List Value) (μ : MM) : Array Value → State → Prop := fun a U => a = av.toArray ∧ GG Γ U ∧ mP Γ μ U.heap ∧ kB Γ ≤ U.heap.size ∧ U.heap.size = sz
def CQ (Γ : KK) (mc : Nat) (post : Option Value → MM → Prop) : Array Value → State → Outcome → State → Prop := fun _ st o t => ∃ (r : Option Value) (μ : MM), o = .returned r ∧ post r μ ∧ mP Γ μ t.heap ∧ t.heap.size = st.heap.size + mc ∧ ∀ q : Nat, q < kB Γ → t.heap[q]? = st.heap[q]?
/-- a method's contract: from the memory μ it answers and leaves a memory by 'post' -/
def CT (Γ : KK) (l : Launch) (k sz mc ms : Nat) (md : MD) (av : List Value) (μ : MM) (post : Option Value → MM → Prop) : Prop :=
  Met l md.1 (.code md.1 md.2.1 md.2.2.1 md.2.2.2 :: GT) (RM k mc ms) (CP Γ sz av μ) (CQ Γ mc post) mc ms (kA Γ)
def ri (post : Int32 → MM → Prop) : Option Value → MM → Prop := fun r μ => ∃ i, r = some (.int i) ∧ post i μ
def rl (post : Int64 → MM → Prop) : Option Value → MM → Prop := fun r μ => ∃ i, r = some (.long i) ∧ post i μ
def rr (post : Nat → MM → Prop) : Option Value → MM → Prop := fun r μ => ∃ i, r = some (.ref i) ∧ post i μ
def rv (post : MM → Prop) : Option Value → MM → Prop := fun r μ => r = none ∧ post μ
def cX (Γ : KK) (p : Program) (R : Room) (s : State) (m : MethodId) (args : Array Value) (meth : Method) (c : Code) (cc : ByteArray) (ret : Option FieldType) (nm own : String) (k mc ms nL : Nat) : Prop :=
  p.tables.exec = Jvm.exec ∧ c.code = cc ∧ meth.sig.returnType = ret ∧ c.maxLocals = nL ∧ s.vm.findClass own = some m.cls ∧ (∀ w ∈ GT, w.before args s = true) ∧ GG Γ s ∧ kB Γ ≤ s.heap.size ∧ meth.locks = false ∧ meth.name = nm ∧ k ≤ R.frames ∧ 40 * k ≤ R.locals ∧ mc ≤ R.cells ∧ ms ≤ R.slots
def vV (Γ : KK) (p : Program) (l : Launch) (e : Env) (R : Room) (s : State) (m : MethodId) (args : Array Value) (below : List Frame) (meth : Method) (c : Code) (Q : State → Prop) (nL cells slots pc : Nat) (lv : List (Option Value)) (st : List Value) (μ : MM) : Prop :=
  ∀ (H : Heap) (locs : List Loc) (ls : Array Slot), mP Γ μ H → H.size = s.heap.size + cells → va_S (kA Γ) s.heap H locs → lh ls nL lv → W p l e R s m args below meth c H locs cells slots Q (F0 m pc ls st)
abbrev vQ (Γ : KK) (s : State) (args : Array Value) (below : List Frame) (mc ms : Nat) (post : Option Value → MM → Prop) : State → Prop := MQ below (CQ Γ mc post) args s mc ms (kA Γ)
theorem CT.start {Γ : KK} {l : Launch} {k sz mc ms : Nat} {y : MethodName} {cc : ByteArray} {nL : Nat} {ret : Option FieldType} {av : List Value} {μ : MM} {post : Option Value → MM → Prop} (hy : plainName y.cls = true) (ha : (lg_sl av).length ≤ nL)
    (body : ∀ (p : Program) (e : Env) (R : Room) (s : State) (m : MethodId) (below : List Frame) (meth : Method) (c : Code), cX Γ p R s m av.toArray meth c cc ret y.name y.cls k mc ms nL → s.heap.size = sz →
      vV Γ p l e R s m av.toArray below meth c (vQ Γ s av.toArray below mc ms post) nL 0 0 0 (lve av ++ List.replicate (nL - (lve av).length) none) [] μ) : CT Γ l k sz mc ms (y, cc, nL, ret) av μ post := by
  refine Met.ofW (cc := cc) (maxL := nL) (ret := ret) hy rfl ?_
  intro p e s m args below meth c s₁ B hml hv
  obtain ⟨rfl, hG, hP, hB, hz⟩ := hv
  have hts := atoms_spec (ws := (.code y cc nL ret :: GT)) B.pre
  have hown : s.vm.findClass y.cls = some m.cls := findClass_of_methodNamed B.named
  rw [lg_entry_eq]
  exact body p e _ s m below meth c ⟨B.exec, B.bytes, B.returns, hml, hown, fun w hw => hts w (List.mem_cons_of_mem _ hw), hG, hB, B.notSynchronized, (name_of_methodNamed B.named B.method).1, Nat.le_refl _, Nat.le_refl _, Nat.le_refl _, Nat.le_refl _⟩ hz s.heap [] _ hP rfl va_S.rf (lh.entry ha)

section LY
variable {Γ : KK} {p : Program} {l : Launch} {e : Env} {R : Room} {s : State} {m : MethodId} {args : Array Value} {below : List Frame} {meth : Method} {c : Code} {Q : State → Prop} {cc : ByteArray} {ret : Option FieldType} {nm own : String} {k mc ms nL cells slots pc : Nat} {lv : List (Option Value)} {st : List Value} {μ : MM}
theorem r_iconst (X : cX Γ p R s m args meth c cc ret nm own k mc ms nL) {n : Int} {v : Int32} (hd : decode cc pc = .ok (.iconst n, 1)) (hv : Int32.ofInt n = v) (kk : vV Γ p l e R s m args below meth c Q nL cells slots (pc + 1) (lv) (.int v :: st) (μ)) : vV Γ p l e R s m args below meth c Q nL cells slots (pc) (lv) (st) (μ) := fun H locs ls h1 h2 h3 h4 => lv_iconst X.1 X.2.1 hd hv (kk H locs ls h1 h2 h3 h4)
theorem r_bipush (X : cX Γ p R s m args meth c cc ret nm own k mc ms nL) {n : Int} {v : Int32} (hd : decode cc pc = .ok (.bipush n, 2)) (hv : (Int8.ofInt n).toInt32 = v) (kk : vV Γ p l e R s m args below meth c Q nL cells slots (pc + 2) (lv) (.int v :: st) (μ)) : vV Γ p l e R s m args below meth c Q nL cells slots (pc) (lv) (st) (μ) := fun H locs ls h1 h2 h3 h4 => lv_bipush X.1 X.2.1 hd hv (kk H locs ls h1 h2 h3 h4)
theorem r_sipush (X : cX Γ p R s m args meth c cc ret nm own k mc ms nL) {n : Int} {v : Int32} (hd : decode cc pc = .ok (.sipush n, 3)) (hv : (Int16.ofInt n).toInt32 = v) (kk : vV Γ p l e R s m args below meth c Q nL cells slots (pc + 3) (lv) (.int v :: st) (μ)) : vV Γ p l e R s m args below meth c Q nL cells slots (pc) (lv) (st) (μ) := fun H locs ls h1 h2 h3 h4 => lv_sipush X.1 X.2.1 hd hv (kk H locs ls h1 h2 h3 h4)
theorem r_lconst (X : cX Γ p R s m args meth c cc ret nm own k mc ms nL) {n : Fin 2} {v : Int64} (hd : decode cc pc = .ok (.lconst n, 1)) (hv : Int64.ofNat n.val = v) (kk : vV Γ p l e R s m args below meth c Q nL cells slots (pc + 1) (lv) (.long v :: st) (μ)) : vV Γ p l e R s m args below meth c Q nL cells slots (pc) (lv) (st) (μ) := fun H locs ls h1 h2 h3 h4 => lv_lconst X.1 X.2.1 hd hv (kk H locs ls h1 h2 h3 h4)
theorem r_iload_n (X : cX Γ p R s m args meth c cc ret nm own k mc ms nL) {j : Fin 4} {x : Int32} (hd : decode cc pc = .ok (.iload_n j, 1)) (hl : lv[(j : Nat)]? = some (some (.int x))) (kk : vV Γ p l e R s m args below meth c Q nL cells slots (pc + 1) (lv) (.int x :: st) (μ)) : vV Γ p l e R s m args below meth c Q nL cells slots (pc) (lv) (st) (μ) := fun H locs ls h1 h2 h3 h4 => lv_iload_n X.1 X.2.1 hd rfl (h4.2.2 _ _ hl) (kk H locs ls h1 h2 h3 h4)
theorem r_iload (X : cX Γ p R s m args meth c cc ret nm own k mc ms nL) {j : Nat} {x : Int32} (hd : decode cc pc = .ok (.iload j, 2)) (hl : lv[j]? = some (some (.int x))) (kk : vV Γ p l e R s m args below meth c Q nL cells slots (pc + 2) (lv) (.int x :: st) (μ)) : vV Γ p l e R s m args below meth c Q nL cells slots (pc) (lv) (st) (μ) := fun H locs ls h1 h2 h3 h4 => lv_iload X.1 X.2.1 hd (h4.2.2 _ _ hl) (kk H locs ls h1 h2 h3 h4)
theorem r_aload_n (X : cX Γ p R s m args meth c cc ret nm own k mc ms nL) {j : Fin 4} {x : Nat} (hd : decode cc pc = .ok (.aload_n j, 1)) (hl : lv[(j : Nat)]? = some (some (.ref x))) (kk : vV Γ p l e R s m args below meth c Q nL cells slots (pc + 1) (lv) (.ref x :: st) (μ)) : vV Γ p l e R s m args below meth c Q nL cells slots (pc) (lv) (st) (μ) := fun H locs ls h1 h2 h3 h4 => lv_aload_n X.1 X.2.1 hd rfl (h4.2.2 _ _ hl) (kk H locs ls h1 h2 h3 h4)
theorem r_aload (X : cX Γ p R s m args meth c cc ret nm own k mc ms nL) {j : Nat} {x : Nat} (hd : decode cc pc = .ok (.aload j, 2)) (hl : lv[j]? = some (some (.ref x))) (kk : vV Γ p l e R s m args below meth c Q nL cells slots (pc + 2) (lv) (.ref x :: st) (μ)) : vV Γ p l e R s m args below meth c Q nL cells slots (pc) (lv) (st) (μ) := fun H locs ls h1 h2 h3 h4 => lv_aload X.1 X.2.1 hd (h4.2.2 _ _ hl) (kk H locs ls h1 h2 h3 h4)
theorem r_lload_n (X : cX Γ p R s m args meth c cc ret nm own k mc ms nL) {j : Fin 4} {x : Int64} (hd : decode cc pc = .ok (.lload_n j, 1)) (hl : lv[(j : Nat)]? = some (some (.long x))) (kk : vV Γ p l e R s m args below meth c Q nL cells slots (pc + 1) (lv) (.long x :: st) (μ)) : vV Γ p l e R s m args below meth c Q nL cells slots (pc) (lv) (st) (μ) := fun H locs ls h1 h2 h3 h4 => lv_lload_n X.1 X.2.1 hd rfl (h4.2.2 _ _ hl) (kk H locs ls h1 h2 h3 h4)
theorem r_lload (X : cX Γ p R s m args meth c cc ret nm own k mc ms nL) {j : Nat} {x : Int64} (hd : decode cc pc = .ok (.lload j, 2)) (hl : lv[j]? = some (some (.long x))) (kk : vV Γ p l e R s m args below meth c Q nL cells slots (pc + 2) (lv) (.long x :: st) (μ)) : vV Γ p l e R s m args below meth c Q nL cells slots (pc) (lv) (st) (μ) := fun H locs ls h1 h2 h3 h4 => lv_lload X.1 X.2.1 hd (h4.2.2 _ _ hl) (kk H locs ls h1 h2 h3 h4)
theorem r_istore_n (X : cX Γ p R s m args meth c cc ret nm own k mc ms nL) {j : Fin 4} {x : Int32} (hd : decode cc pc = .ok (.istore_n j, 1)) (hn : (j : Nat) < nL) (ho : lok lv (j : Nat) = true) (kk : vV Γ p l e R s m args below meth c Q nL cells slots (pc + 1) (lv.set (j : Nat) (some (.int x))) (st) (μ)) : vV Γ p l e R s m args below meth c Q nL cells slots (pc) (lv) (.int x :: st) (μ) := fun H locs ls h1 h2 h3 h4 => lv_istore_n X.1 X.2.1 hd rfl h4.has hn rfl (fun ls h => kk H locs ls h1 h2 h3 (lh.st1 h ho))
theorem r_istore (X : cX Γ p R s m args meth c cc ret nm own k mc ms nL) {j : Nat} {x : Int32} (hd : decode cc pc = .ok (.istore j, 2)) (hn : j < nL) (ho : lok lv j = true) (kk : vV Γ p l e R s m args below meth c Q nL cells slots (pc + 2) (lv.set j (some (.int x))) (st) (μ)) : vV Γ p l e R s m args below meth c Q nL cells slots (pc) (lv) (.int x :: st) (μ) := fun H locs ls h1 h2 h3 h4 => lv_istore X.1 X.2.1 hd h4.has hn rfl (fun ls h => kk H locs ls h1 h2 h3 (lh.st1 h ho))
theorem r_astore_n (X : cX Γ p R s m args meth c cc ret nm own k mc ms nL) {j : Fin 4} {x : Nat} (hd : decode cc pc = .ok (.astore_n j, 1)) (hn : (j : Nat) < nL) (ho : lok lv (j : Nat) = true) (kk : vV Γ p l e R s m args below meth c Q nL cells slots (pc + 1) (lv.set (j : Nat) (some (.ref x))) (st) (μ)) : vV Γ p l e R s m args below meth c Q nL cells slots (pc) (lv) (.ref x :: st) (μ) := fun H locs ls h1 h2 h3 h4 => lv_astore_n X.1 X.2.1 hd rfl h4.has hn rfl (fun ls h => kk H locs ls h1 h2 h3 (lh.st1 h ho))
theorem r_astore (X : cX Γ p R s m args meth c cc ret nm own k mc ms nL) {j : Nat} {x : Nat} (hd : decode cc pc = .ok (.astore j, 2)) (hn : j < nL) (ho : lok lv j = true) (kk : vV Γ p l e R s m args below meth c Q nL cells slots (pc + 2) (lv.set j (some (.ref x))) (st) (μ)) : vV Γ p l e R s m args below meth c Q nL cells slots (pc) (lv) (.ref x :: st) (μ) := fun H locs ls h1 h2 h3 h4 => lv_astore X.1 X.2.1 hd h4.has hn rfl (fun ls h => kk H locs ls h1 h2 h3 (lh.st1 h ho))
theorem r_lstore_n (X : cX Γ p R s m args meth c cc ret nm own k mc ms nL) {j : Fin 4} {x : Int64} (hd : decode cc pc = .ok (.lstore_n j, 1)) (hn : (j : Nat) + 1 < nL) (ho : lok lv (j : Nat) = true) (kk : vV Γ p l e R s m args below meth c Q nL cells slots (pc + 1) ((lv.set (j : Nat) (some (.long x))).set ((j : Nat) + 1) none) (st) (μ)) : vV Γ p l e R s m args below meth c Q nL cells slots (pc) (lv) (.long x :: st) (μ) := fun H locs ls h1 h2 h3 h4 => lv_lstore_n X.1 X.2.1 hd rfl h4.has hn rfl (fun ls h => kk H locs ls h1 h2 h3 (lh.st2 h ho))
theorem r_lstore (X : cX Γ p R s m args meth c cc ret nm own k mc ms nL) {j : Nat} {x : Int64} (hd : decode cc pc = .ok (.lstore j, 2)) (hn : j + 1 < nL) (ho : lok lv j = true) (kk : vV Γ p l e R s m args below meth c Q nL cells slots (pc + 2) ((lv.set j (some (.long x))).set (j + 1) none) (st) (μ)) : vV Γ p l e R s m args below meth c Q nL cells slots (pc) (lv) (.long x :: st) (μ) := fun H locs ls h1 h2 h3 h4 => lv_lstore X.1 X.2.1 hd h4.has hn rfl (fun ls h => kk H locs ls h1 h2 h3 (lh.st2 h ho))
theorem r_iinc (X : cX Γ p R s m args meth c cc ret nm own k mc ms nL) {j : Nat} {n : Int} {x v : Int32} (hd : decode cc pc = .ok (.iinc j n, 3)) (hl : lv[j]? = some (some (.int x))) (hv : x + Int32.ofInt n = v) (hn : j < nL) (ho : lok lv j = true) (kk : vV Γ p l e R s m args below meth c Q nL cells slots (pc + 3) (lv.set j (some (.int v))) (st) (μ)) : vV Γ p l e R s m args below meth c Q nL cells slots (pc) (lv) (st) (μ) := by
  intro H locs ls h1 h2 h3 h4
  obtain ⟨q, hq⟩ := List.getElem?_of_mem (lvp_mem.mpr hl)
  exact lv_iinc X.1 X.2.1 hd h4.has hq hv hn rfl (fun ls h => kk H locs ls h1 h2 h3 (lh.st1 h ho))
theorem r_iadd (X : cX Γ p R s m args meth c cc ret nm own k mc ms nL) {x y : Int32} (hd : decode cc pc = .ok (.iadd, 1)) (kk : vV Γ p l e R s m args below meth c Q nL cells slots (pc + 1) (lv) (.int (x + y) :: st) (μ)) : vV Γ p l e R s m args below meth c Q nL cells slots (pc) (lv) (.int y :: .int x :: st) (μ) := fun H locs ls h1 h2 h3 h4 => lv_iadd X.1 X.2.1 hd (kk H locs ls h1 h2 h3 h4)
theorem r_isub (X : cX Γ p R s m args meth c cc ret nm own k mc ms nL) {x y : Int32} (hd : decode cc pc = .ok (.isub, 1)) (kk : vV Γ p l e R s m args below meth c Q nL cells slots (pc + 1) (lv) (.int (x - y) :: st) (μ)) : vV Γ p l e R s m args below meth c Q nL cells slots (pc) (lv) (.int y :: .int x :: st) (μ) := fun H locs ls h1 h2 h3 h4 => lv_isub X.1 X.2.1 hd (kk H locs ls h1 h2 h3 h4)
theorem r_imul (X : cX Γ p R s m args meth c cc ret nm own k mc ms nL) {x y : Int32} (hd : decode cc pc = .ok (.imul, 1)) (kk : vV Γ p l e R s m args below meth c Q nL cells slots (pc + 1) (lv) (.int (x * y) :: st) (μ)) : vV Γ p l e R s m args below meth c Q nL cells slots (pc) (lv) (.int y :: .int x :: st) (μ) := fun H locs ls h1 h2 h3 h4 => lv_imul X.1 X.2.1 hd (kk H locs ls h1 h2 h3 h4)
theorem r_iand (X : cX Γ p R s m args meth c cc ret nm own k mc ms nL) {x y : Int32} (hd : decode cc pc = .ok (.iand, 1)) (kk : vV Γ p l e R s m args below meth c Q nL cells slots (pc + 1) (lv) (.int (x &&& y) :: st) (μ)) : vV Γ p l e R s m args below meth c Q nL cells slots (pc) (lv) (.int y :: .int x :: st) (μ) := fun H locs ls h1 h2 h3 h4 => lv_iand X.1 X.2.1 hd (kk H locs ls h1 h2 h3 h4)
theorem r_ior (X : cX Γ p R s m args meth c cc ret nm own k mc ms nL) {x y : Int32} (hd : decode cc pc = .ok (.ior, 1)) (kk : vV Γ p l e R s m args below meth c Q nL cells slots (pc + 1) (lv) (.int (x ||| y) :: st) (μ)) : vV Γ p l e R s m args below meth c Q nL cells slots (pc) (lv) (.int y :: .int x :: st) (μ) := fun H locs ls h1 h2 h3 h4 => lv_ior X.1 X.2.1 hd (kk H locs ls h1 h2 h3 h4)
theorem r_ixor (X : cX Γ p R s m args meth c cc ret nm own k mc ms nL) {x y : Int32} (hd : decode cc pc = .ok (.ixor, 1)) (kk : vV Γ p l e R s m args below meth c Q nL cells slots (pc + 1) (lv) (.int (x ^^^ y) :: st) (μ)) : vV Γ p l e R s m args below meth c Q nL cells slots (pc) (lv) (.int y :: .int x :: st) (μ) := fun H locs ls h1 h2 h3 h4 => lv_ixor X.1 X.2.1 hd (kk H locs ls h1 h2 h3 h4)
theorem r_ishl (X : cX Γ p R s m args meth c cc ret nm own k mc ms nL) {x y : Int32} (hd : decode cc pc = .ok (.ishl, 1)) (kk : vV Γ p l e R s m args below meth c Q nL cells slots (pc + 1) (lv) (.int (x <<< (y &&& 31)) :: st) (μ)) : vV Γ p l e R s m args below meth c Q nL cells slots (pc) (lv) (.int y :: .int x :: st) (μ) := fun H locs ls h1 h2 h3 h4 => lv_ishl X.1 X.2.1 hd (kk H locs ls h1 h2 h3 h4)
theorem r_ishr (X : cX Γ p R s m args meth c cc ret nm own k mc ms nL) {x y : Int32} (hd : decode cc pc = .ok (.ishr, 1)) (kk : vV Γ p l e R s m args below meth c Q nL cells slots (pc + 1) (lv) (.int (x >>> (y &&& 31)) :: st) (μ)) : vV Γ p l e R s m args below meth c Q nL cells slots (pc) (lv) (.int y :: .int x :: st) (μ) := fun H locs ls h1 h2 h3 h4 => lv_ishr X.1 X.2.1 hd (kk H locs ls h1 h2 h3 h4)
theorem r_idiv (X : cX Γ p R s m args meth c cc ret nm own k mc ms nL) {x y : Int32} (hd : decode cc pc = .ok (.idiv, 1)) (hne : ¬ y = 0) (kk : vV Γ p l e R s m args below meth c Q nL cells slots (pc + 1) (lv) (.int (x / y) :: st) (μ)) : vV Γ p l e R s m args below meth c Q nL cells slots (pc) (lv) (.int y :: .int x :: st) (μ) := fun H locs ls h1 h2 h3 h4 => lv_idiv X.1 X.2.1 hd hne (kk H locs ls h1 h2 h3 h4)
theorem r_irem (X : cX Γ p R s m args meth c cc ret nm own k mc ms nL) {x y : Int32} (hd : decode cc pc = .ok (.irem, 1)) (hne : ¬ y = 0) (kk : vV Γ p l e R s m args below meth c Q nL cells slots (pc + 1) (lv) (.int (x - x / y * y) :: st) (μ)) : vV Γ p l e R s m args below meth c Q nL cells slots (pc) (lv) (.int y :: .int x :: st) (μ) := fun H locs ls h1 h2 h3 h4 => lv_irem X.1 X.2.1 hd hne (kk H locs ls h1 h2 h3 h4)
theorem r_iushr (X : cX Γ p R s m args meth c cc ret nm own k mc ms nL) {x y v : Int32} (hd : decode cc pc = .ok (.iushr, 1)) (hv : (x.toUInt32 >>> (y.toUInt32 &&& Int32.toUInt32 31)).toInt32 = v) (kk : vV Γ p l e R s m args below meth c Q nL cells slots (pc + 1) (lv) (.int v :: st) (μ)) : vV Γ p l e R s m args below meth c Q nL cells slots (pc) (lv) (.int y :: .int x :: st) (μ) := fun H locs ls h1 h2 h3 h4 => lv_iushr X.1 X.2.1 hd hv (kk H locs ls h1 h2 h3 h4)
theorem r_i2c (X : cX Γ p R s m args meth c cc ret nm own k mc ms nL) {x v : Int32} (hd : decode cc pc = .ok (.i2c, 1)) (hv : (x.toUInt32 % 65536).toInt32 = v) (kk : vV Γ p l e R s m args below meth c Q nL cells slots (pc + 1) (lv) (.int v :: st) (μ)) : vV Γ p l e R s m args below meth c Q nL cells slots (pc) (lv) (.int x :: st) (μ) := fun H locs ls h1 h2 h3 h4 => lv_i2c X.1 X.2.1 hd hv (kk H locs ls h1 h2 h3 h4)
theorem r_i2l (X : cX Γ p R s m args meth c cc ret nm own k mc ms nL) {x : Int32} {v : Int64} (hd : decode cc pc = .ok (.i2l, 1)) (hv : x.toInt64 = v) (kk : vV Γ p l e R s m args below meth c Q nL cells slots (pc + 1) (lv) (.long v :: st) (μ)) : vV Γ p l e R s m args below meth c Q nL cells slots (pc) (lv) (.int x :: st) (μ) := fun H locs ls h1 h2 h3 h4 => lv_i2l X.1 X.2.1 hd hv (kk H locs ls h1 h2 h3 h4)
theorem r_ladd (X : cX Γ p R s m args meth c cc ret nm own k mc ms nL) {x y : Int64} (hd : decode cc pc = .ok (.ladd, 1)) (kk : vV Γ p l e R s m args below meth c Q nL cells slots (pc + 1) (lv) (.long (x + y) :: st) (μ)) : vV Γ p l e R s m args below meth c Q nL cells slots (pc) (lv) (.long y :: .long x :: st) (μ) := fun H locs ls h1 h2 h3 h4 => lv_ladd X.1 X.2.1 hd (kk H locs ls h1 h2 h3 h4)
theorem r_lsub (X : cX Γ p R s m args meth c cc ret nm own k mc ms nL) {x y : Int64} (hd : decode cc pc = .ok (.lsub, 1)) (kk : vV Γ p l e R s m args below meth c Q nL cells slots (pc + 1) (lv) (.long (x - y) :: st) (μ)) : vV Γ p l e R s m args below meth c Q nL cells slots (pc) (lv) (.long y :: .long x :: st) (μ) := fun H locs ls h1 h2 h3 h4 => lv_lsub X.1 X.2.1 hd (kk H locs ls h1 h2 h3 h4)
theorem r_lmul (X : cX Γ p R s m args meth c cc ret nm own k mc ms nL) {x y : Int64} (hd : decode cc pc = .ok (.lmul, 1)) (kk : vV Γ p l e R s m args below meth c Q nL cells slots (pc + 1) (lv) (.long (x * y) :: st) (μ)) : vV Γ p l e R s m args below meth c Q nL cells slots (pc) (lv) (.long y :: .long x :: st) (μ) := fun H locs ls h1 h2 h3 h4 => lv_lmul X.1 X.2.1 hd (kk H locs ls h1 h2 h3 h4)
theorem r_lcmp (X : cX Γ p R s m args meth c cc ret nm own k mc ms nL) {x y : Int64} (hd : decode cc pc = .ok (.lcmp, 1)) (kk : vV Γ p l e R s m args below meth c Q nL cells slots (pc + 1) (lv) (.int (lg_cmp x y) :: st) (μ)) : vV Γ p l e R s m args below meth c Q nL cells slots (pc) (lv) (.long y :: .long x :: st) (μ) := fun H locs ls h1 h2 h3 h4 => W.lcmp X.1 X.2.1 hd (kk H locs ls h1 h2 h3 h4)
theorem r_dup (X : cX Γ p R s m args meth c cc ret nm own k mc ms nL) {v : Value} (hd : decode cc pc = .ok (.dup, 1)) (hc : v.category = 1) (kk : vV Γ p l e R s m args below meth c Q nL cells slots (pc + 1) (lv) (v :: v :: st) (μ)) : vV Γ p l e R s m args below meth c Q nL cells slots (pc) (lv) (v :: st) (μ) := fun H locs ls h1 h2 h3 h4 => lv_dup X.1 X.2.1 hd hc (kk H locs ls h1 h2 h3 h4)
theorem r_pop (X : cX Γ p R s m args meth c cc ret nm own k mc ms nL) {v : Value} (hd : decode cc pc = .ok (.pop, 1)) (hc : v.category = 1) (kk : vV Γ p l e R s m args below meth c Q nL cells slots (pc + 1) (lv) (st) (μ)) : vV Γ p l e R s m args below meth c Q nL cells slots (pc) (lv) (v :: st) (μ) := fun H locs ls h1 h2 h3 h4 => lv_pop X.1 X.2.1 hd hc (kk H locs ls h1 h2 h3 h4)
theorem r_dup_x1 (X : cX Γ p R s m args meth c cc ret nm own k mc ms nL) {v w : Value} (hd : decode cc pc = .ok (.dup_x1, 1)) (hc : v.category = 1) (hc2 : w.category = 1) (kk : vV Γ p l e R s m args below meth c Q nL cells slots (pc + 1) (lv) (v :: w :: v :: st) (μ)) : vV Γ p l e R s m args below meth c Q nL cells slots (pc) (lv) (v :: w :: st) (μ) := fun H locs ls h1 h2 h3 h4 => lv_dup_x1 X.1 X.2.1 hd hc hc2 (kk H locs ls h1 h2 h3 h4)
theorem r_dup_x2 (X : cX Γ p R s m args meth c cc ret nm own k mc ms nL) {v w u : Value} (hd : decode cc pc = .ok (.dup_x2, 1)) (hc : v.category = 1) (hc2 : w.category = 1) (hc3 : u.category = 1) (kk : vV Γ p l e R s m args below meth c Q nL cells slots (pc + 1) (lv) (v :: w :: u :: v :: st) (μ)) : vV Γ p l e R s m args below meth c Q nL cells slots (pc) (lv) (v :: w :: u :: st) (μ) := fun H locs ls h1 h2 h3 h4 => lv_dup_x2 X.1 X.2.1 hd hc hc2 hc3 (kk H locs ls h1 h2 h3 h4)
theorem r_dup2 (X : cX Γ p R s m args meth c cc ret nm own k mc ms nL) {v w : Value} (hd : decode cc pc = .ok (.dup2, 1)) (hc : v.category = 1) (hc2 : w.category = 1) (kk : vV Γ p l e R s m args below meth c Q nL cells slots (pc + 1) (lv) (v :: w :: v :: w :: st) (μ)) : vV Γ p l e R s m args below meth c Q nL cells slots (pc) (lv) (v :: w :: st) (μ) := fun H locs ls h1 h2 h3 h4 => lv_dup2_11 X.1 X.2.1 hd hc hc2 (kk H locs ls h1 h2 h3 h4)
theorem r_if_eq (X : cX Γ p R s m args meth c cc ret nm own k mc ms nL) {x : Int32} {off : Int} (tgt : Nat) (hd : decode cc pc = .ok (.ifCond .eq off, 3)) (ht : (pc : Int) + off = (tgt : Int)) (kt : x = nI 0 → vV Γ p l e R s m args below meth c Q nL cells slots (tgt) (lv) (st) (μ)) (kf : ¬ (x = nI 0) → vV Γ p l e R s m args below meth c Q nL cells slots (pc + 3) (lv) (st) (μ)) : vV Γ p l e R s m args below meth c Q nL cells slots (pc) (lv) (.int x :: st) (μ) := by
  rw [nI_0] at kt kf
  exact fun H locs ls h1 h2 h3 h4 => lv_if_eq X.1 X.2.1 hd ht (fun q => kt q H locs ls h1 h2 h3 h4) (fun q => kf q H locs ls h1 h2 h3 h4)
theorem r_icmp_eq (X : cX Γ p R s m args meth c cc ret nm own k mc ms nL) {x y : Int32} {off : Int} (tgt : Nat) (hd : decode cc pc = .ok (.if_icmp .eq off, 3)) (ht : (pc : Int) + off = (tgt : Int)) (kt : x = y → vV Γ p l e R s m args below meth c Q nL cells slots (tgt) (lv) (st) (μ)) (kf : ¬ (x = y) → vV Γ p l e R s m args below meth c Q nL cells slots (pc + 3) (lv) (st) (μ)) : vV Γ p l e R s m args below meth c Q nL cells slots (pc) (lv) (.int y :: .int x :: st) (μ) := by
  exact fun H locs ls h1 h2 h3 h4 => lv_icmp_eq X.1 X.2.1 hd ht (fun q => kt q H locs ls h1 h2 h3 h4) (fun q => kf q H locs ls h1 h2 h3 h4)
theorem r_if_ne (X : cX Γ p R s m args meth c cc ret nm own k mc ms nL) {x : Int32} {off : Int} (tgt : Nat) (hd : decode cc pc = .ok (.ifCond .ne off, 3)) (ht : (pc : Int) + off = (tgt : Int)) (kt : ¬ x = nI 0 → vV Γ p l e R s m args below meth c Q nL cells slots (tgt) (lv) (st) (μ)) (kf : x = nI 0 → vV Γ p l e R s m args below meth c Q nL cells slots (pc + 3) (lv) (st) (μ)) : vV Γ p l e R s m args below meth c Q nL cells slots (pc) (lv) (.int x :: st) (μ) := by
  intro H locs ls h1 h2 h3 h4
  rw [nI_0] at kt kf; exact lv_if_ne X.1 X.2.1 hd ht (fun q => kt q H locs ls h1 h2 h3 h4) (fun q => kf q H locs ls h1 h2 h3 h4)
theorem r_icmp_ne (X : cX Γ p R s m args meth c cc ret nm own k mc ms nL) {x y : Int32} {off : Int} (tgt : Nat) (hd : decode cc pc = .ok (.if_icmp .ne off, 3)) (ht : (pc : Int) + off = (tgt : Int)) (kt : ¬ x = y → vV Γ p l e R s m args below meth c Q nL cells slots (tgt) (lv) (st) (μ)) (kf : x = y → vV Γ p l e R s m args below meth c Q nL cells slots (pc + 3) (lv) (st) (μ)) : vV Γ p l e R s m args below meth c Q nL cells slots (pc) (lv) (.int y :: .int x :: st) (μ) := by
  intro H locs ls h1 h2 h3 h4
  exact lv_icmp_ne X.1 X.2.1 hd ht (fun q => kt q H locs ls h1 h2 h3 h4) (fun q => kf q H locs ls h1 h2 h3 h4)
theorem r_if_lt (X : cX Γ p R s m args meth c cc ret nm own k mc ms nL) {x : Int32} {off : Int} (tgt : Nat) (hd : decode cc pc = .ok (.ifCond .lt off, 3)) (ht : (pc : Int) + off = (tgt : Int)) (kt : x < nI 0 → vV Γ p l e R s m args below meth c Q nL cells slots (tgt) (lv) (st) (μ)) (kf : ¬ (x < nI 0) → vV Γ p l e R s m args below meth c Q nL cells slots (pc + 3) (lv) (st) (μ)) : vV Γ p l e R s m args below meth c Q nL cells slots (pc) (lv) (.int x :: st) (μ) := by
  rw [nI_0] at kt kf
  exact fun H locs ls h1 h2 h3 h4 => lv_if_lt X.1 X.2.1 hd ht (fun q => kt q H locs ls h1 h2 h3 h4) (fun q => kf q H locs ls h1 h2 h3 h4)
theorem r_icmp_lt (X : cX Γ p R s m args meth c cc ret nm own k mc ms nL) {x y : Int32} {off : Int} (tgt : Nat) (hd : decode cc pc = .ok (.if_icmp .lt off, 3)) (ht : (pc : Int) + off = (tgt : Int)) (kt : x < y → vV Γ p l e R s m args below meth c Q nL cells slots (tgt) (lv) (st) (μ)) (kf : ¬ (x < y) → vV Γ p l e R s m args below meth c Q nL cells slots (pc + 3) (lv) (st) (μ)) : vV Γ p l e R s m args below meth c Q nL cells slots (pc) (lv) (.int y :: .int x :: st) (μ) := by
  exact fun H locs ls h1 h2 h3 h4 => lv_icmp_lt X.1 X.2.1 hd ht (fun q => kt q H locs ls h1 h2 h3 h4) (fun q => kf q H locs ls h1 h2 h3 h4)
theorem r_if_ge (X : cX Γ p R s m args meth c cc ret nm own k mc ms nL) {x : Int32} {off : Int} (tgt : Nat) (hd : decode cc pc = .ok (.ifCond .ge off, 3)) (ht : (pc : Int) + off = (tgt : Int)) (kt : nI 0 ≤ x → vV Γ p l e R s m args below meth c Q nL cells slots (tgt) (lv) (st) (μ)) (kf : ¬ (nI 0 ≤ x) → vV Γ p l e R s m args below meth c Q nL cells slots (pc + 3) (lv) (st) (μ)) : vV Γ p l e R s m args below meth c Q nL cells slots (pc) (lv) (.int x :: st) (μ) := by
  rw [nI_0] at kt kf
  exact fun H locs ls h1 h2 h3 h4 => lv_if_ge X.1 X.2.1 hd ht (fun q => kt q H locs ls h1 h2 h3 h4) (fun q => kf q H locs ls h1 h2 h3 h4)
theorem r_icmp_ge (X : cX Γ p R s m args meth c cc ret nm own k mc ms nL) {x y : Int32} {off : Int} (tgt : Nat) (hd : decode cc pc = .ok (.if_icmp .ge off, 3)) (ht : (pc : Int) + off = (tgt : Int)) (kt : y ≤ x → vV Γ p l e R s m args below meth c Q nL cells slots (tgt) (lv) (st) (μ)) (kf : ¬ (y ≤ x) → vV Γ p l e R s m args below meth c Q nL cells slots (pc + 3) (lv) (st) (μ)) : vV Γ p l e R s m args below meth c Q nL cells slots (pc) (lv) (.int y :: .int x :: st) (μ) := by
  exact fun H locs ls h1 h2 h3 h4 => lv_icmp_ge X.1 X.2.1 hd ht (fun q => kt q H locs ls h1 h2 h3 h4) (fun q => kf q H locs ls h1 h2 h3 h4)
theorem r_if_gt (X : cX Γ p R s m args meth c cc ret nm own k mc ms nL) {x : Int32} {off : Int} (tgt : Nat) (hd : decode cc pc = .ok (.ifCond .gt off, 3)) (ht : (pc : Int) + off = (tgt : Int)) (kt : nI 0 < x → vV Γ p l e R s m args below meth c Q nL cells slots (tgt) (lv) (st) (μ)) (kf : ¬ (nI 0 < x) → vV Γ p l e R s m args below meth c Q nL cells slots (pc + 3) (lv) (st) (μ)) : vV Γ p l e R s m args below meth c Q nL cells slots (pc) (lv) (.int x :: st) (μ) := by
  rw [nI_0] at kt kf
  exact fun H locs ls h1 h2 h3 h4 => lv_if_gt X.1 X.2.1 hd ht (fun q => kt q H locs ls h1 h2 h3 h4) (fun q => kf q H locs ls h1 h2 h3 h4)
theorem r_icmp_gt (X : cX Γ p R s m args meth c cc ret nm own k mc ms nL) {x y : Int32} {off : Int} (tgt : Nat) (hd : decode cc pc = .ok (.if_icmp .gt off, 3)) (ht : (pc : Int) + off = (tgt : Int)) (kt : y < x → vV Γ p l e R s m args below meth c Q nL cells slots (tgt) (lv) (st) (μ)) (kf : ¬ (y < x) → vV Γ p l e R s m args below meth c Q nL cells slots (pc + 3) (lv) (st) (μ)) : vV Γ p l e R s m args below meth c Q nL cells slots (pc) (lv) (.int y :: .int x :: st) (μ) := by
  exact fun H locs ls h1 h2 h3 h4 => lv_icmp_gt X.1 X.2.1 hd ht (fun q => kt q H locs ls h1 h2 h3 h4) (fun q => kf q H locs ls h1 h2 h3 h4)
theorem r_if_le (X : cX Γ p R s m args meth c cc ret nm own k mc ms nL) {x : Int32} {off : Int} (tgt : Nat) (hd : decode cc pc = .ok (.ifCond .le off, 3)) (ht : (pc : Int) + off = (tgt : Int)) (kt : x ≤ nI 0 → vV Γ p l e R s m args below meth c Q nL cells slots (tgt) (lv) (st) (μ)) (kf : ¬ (x ≤ nI 0) → vV Γ p l e R s m args below meth c Q nL cells slots (pc + 3) (lv) (st) (μ)) : vV Γ p l e R s m args below meth c Q nL cells slots (pc) (lv) (.int x :: st) (μ) := by
  rw [nI_0] at kt kf
  exact fun H locs ls h1 h2 h3 h4 => lv_if_le X.1 X.2.1 hd ht (fun q => kt q H locs ls h1 h2 h3 h4) (fun q => kf q H locs ls h1 h2 h3 h4)
theorem r_icmp_le (X : cX Γ p R s m args meth c cc ret nm own k mc ms nL) {x y : Int32} {off : Int} (tgt : Nat) (hd : decode cc pc = .ok (.if_icmp .le off, 3)) (ht : (pc : Int) + off = (tgt : Int)) (kt : x ≤ y → vV Γ p l e R s m args below meth c Q nL cells slots (tgt) (lv) (st) (μ)) (kf : ¬ (x ≤ y) → vV Γ p l e R s m args below meth c Q nL cells slots (pc + 3) (lv) (st) (μ)) : vV Γ p l e R s m args below meth c Q nL cells slots (pc) (lv) (.int y :: .int x :: st) (μ) := by
  exact fun H locs ls h1 h2 h3 h4 => lv_icmp_le X.1 X.2.1 hd ht (fun q => kt q H locs ls h1 h2 h3 h4) (fun q => kf q H locs ls h1 h2 h3 h4)
theorem r_goto (X : cX Γ p R s m args meth c cc ret nm own k mc ms nL) {off : Int} (tgt : Nat) (hd : decode cc pc = .ok (.goto off, 3)) (ht : (pc : Int) + off = (tgt : Int)) (kk : vV Γ p l e R s m args below meth c Q nL cells slots (tgt) (lv) (st) (μ)) : vV Γ p l e R s m args below meth c Q nL cells slots (pc) (lv) (st) (μ) := fun H locs ls h1 h2 h3 h4 => lv_goto X.1 X.2.1 hd ht (kk H locs ls h1 h2 h3 h4)
theorem r_tableOut (X : cX Γ p R s m args meth c cc ret nm own k mc ms nL) {dflt lo hi : Int} {offs : Array Int} {len : Nat} {x : Int32} (tgt : Nat) (hd : decode cc pc = .ok (.tableswitch dflt lo hi offs, len)) (h : x.toInt < lo ∨ hi < x.toInt) (ht : (pc : Int) + dflt = (tgt : Int)) (kk : vV Γ p l e R s m args below meth c Q nL cells slots (tgt) (lv) (st) (μ)) : vV Γ p l e R s m args below meth c Q nL cells slots (pc) (lv) (.int x :: st) (μ) := fun H locs ls h1 h2 h3 h4 => lv_tableOut X.1 X.2.1 hd h ht (kk H locs ls h1 h2 h3 h4)
theorem r_tableIn (X : cX Γ p R s m args meth c cc ret nm own k mc ms nL) {dflt lo hi : Int} {offs : Array Int} {len : Nat} {x : Int32} {off : Int} (tgt : Nat) (hd : decode cc pc = .ok (.tableswitch dflt lo hi offs, len)) (g1 : ¬ x.toInt < lo) (g2 : ¬ hi < x.toInt) (ho : offs[(x.toInt - lo).toNat]? = some off) (ht : (pc : Int) + off = (tgt : Int)) (kk : vV Γ p l e R s m args below meth c Q nL cells slots (tgt) (lv) (st) (μ)) : vV Γ p l e R s m args below meth c Q nL cells slots (pc) (lv) (.int x :: st) (μ) := fun H locs ls h1 h2 h3 h4 => lv_tableIn X.1 X.2.1 hd g1 g2 ho ht (kk H locs ls h1 h2 h3 h4)
theorem r_ldcw (X : cX Γ p R s m args meth c cc ret nm own k mc ms nL) {idx : Nat} {v : Int32} (hw : Cond.constant own idx v ∈ GT) (hd : decode cc pc = .ok (.ldc_w idx, 3)) (kk : vV Γ p l e R s m args below meth c Q nL cells slots (pc + 3) (lv) (.int v :: st) (μ)) : vV Γ p l e R s m args below meth c Q nL cells slots (pc) (lv) (st) (μ) := fun H locs ls h1 h2 h3 h4 => lv_ldcw X.1 X.2.1 X.2.2.2.2.1 (X.2.2.2.2.2.1 _ hw) hd (kk H locs ls h1 h2 h3 h4)
theorem r_ldc2 (X : cX Γ p R s m args meth c cc ret nm own k mc ms nL) {idx : Nat} {v : Int64} (hw : Cond.constantLong own idx v ∈ GT) (hd : decode cc pc = .ok (.ldc2_w idx, 3)) (kk : vV Γ p l e R s m args below meth c Q nL cells slots (pc + 3) (lv) (.long v :: st) (μ)) : vV Γ p l e R s m args below meth c Q nL cells slots (pc) (lv) (st) (μ) := fun H locs ls h1 h2 h3 h4 => lv_ldc2 X.1 X.2.1 X.2.2.2.2.1 (X.2.2.2.2.2.1 _ hw) hd (kk H locs ls h1 h2 h3 h4)
def LC (C : String) (T : u_T) (N : Nat) : Prop := (∀ w ∈ u_ws C T N, w ∈ GT) ∧ ∃ ty0 : Nat → FieldType, (∀ k, k < N → parseFieldDescriptor (T k).2.2.1 = some (ty0 k)) ∧ ∀ a, a < N → ∀ b, b < N → a ≠ b → (T a).2.1 ≠ (T b).2.1
/-- a field's link: place idx in own's pool is field kf of class ci -/
def LF (own : String) (idx ci kf : Nat) (C : String) (T : u_T) (N : Nat) (ty : FieldType) (fin : Bool) : Prop := vwCl[ci]? = some (C, T, N) ∧ kf < N ∧ Cond.fieldLink own idx (T kf).1 (T kf).2.1 (T kf).2.2.1 ∈ GT ∧ LC C T N ∧ parseFieldDescriptor (T kf).2.2.1 = some ty ∧ (T kf).2.2.2 = fin ∧ (T kf).1 = C
theorem r_get (X : cX Γ p R s m args meth c cc ret nm own k mc ms nL) {idx ci kf N a : Nat} {C : String} {T : u_T} {ty : FieldType} {fin : Bool} {fs : List Value} {v : Value} (L : LF own idx ci kf C T N ty fin) (hd : decode cc pc = .ok (.getfield idx, 3)) (hμ : μ a = some (xO ci fs)) (hv : fs[kf]? = some v) (kk : vV Γ p l e R s m args below meth c Q nL cells slots (pc + 3) (lv) (v :: st) (μ)) : vV Γ p l e R s m args below meth c Q nL cells slots (pc) (lv) (.ref a :: st) (μ) := by
  intro H locs ls h1 h2 h3 h4
  obtain ⟨hc, hk, hl, hC, -⟩ := L
  exact va_get (D := kD Γ) (cl := vwCl) (tys := kT Γ) (ws := [(a, xO ci fs)]) X.1 X.2.1 X.2.2.2.2.2.1 hC.1 X.2.2.2.2.1 X.2.2.2.2.2.2.1.1 (fun j q hj => by
    match j, hj with
    | 0, hj => cases hj; exact (h1 a _ hμ).1) 0 rfl hc kf hk (X.2.2.2.2.2.1 _ hl) (fun _ h9 => h9) hv hd (kk H locs ls h1 h2 h3 h4)
theorem r_put (X : cX Γ p R s m args meth c cc ret nm own k mc ms nL) {idx ci kf N a : Nat} {C : String} {T : u_T} {ty : FieldType} {fs : List Value} {v : Value} (L : LF own idx ci kf C T N ty false) (hd : decode cc pc = .ok (.putfield idx, 3)) (hμ : μ a = some (xO ci fs)) (hn : narrow ty v = v) (hf : fits ty v = true) (hlen : kf < fs.length) (kk : vV Γ p l e R s m args below meth c Q nL cells slots (pc + 3) (lv) (st) (mu μ a (xO ci (fs.set kf v)))) : vV Γ p l e R s m args below meth c Q nL cells slots (pc) (lv) (v :: .ref a :: st) (μ) := by
  intro H locs ls h1 h2 h3 h4
  obtain ⟨hc, hk, hl, ⟨hin, ty0, hty, hnm⟩, hd2, hfin, hdecl⟩ := L
  have hts := X.2.2.2.2.2.1
  have hK := X.2.2.2.2.2.2.1.1
  have hap := va_apart (own := own) hts hin ty0 hty hnm hK hc
  obtain ⟨hat, hkA⟩ := h1 a _ hμ
  obtain ⟨r, e1, cell, q1, q2, q3, q4⟩ := hat
  have hr : r = (C, T, N) := Option.some.inj (e1.symm.trans hc)
  subst hr
  obtain ⟨hS, hfc, kC, hkC, hkind⟩ := hK.1 ci _ hc
  obtain ⟨cf, kf', fi, f, hi, hsl⟩ := hS kf hk
  have hlay := hts _ (hin _ (u_in_lay hk))
  unfold u_lay at hlay
  rw [if_neg (by rw [hfin]; decide)] at hlay
  have hst := (u_facts hfc hkC (u_lays hts hin hk) hi).1
  have h6 := u_store hfc hkC hkind hlay hi hd2 hn hf
  refine W.putK X.1 X.2.1 (f := f) ⟨X.2.2.2.2.1, hts _ hl, ⟨_, _, _, hi⟩, hst⟩ (by rw [q2]; exact h6) q1 q3 (by rw [hsl]; exact k2_hasslot (q4 kf hk)) rfl rfl hd fun H' g1 g2 g3 => ?_
  rw [hsl] at g1 ⊢
  exact kk H' _ ls (h1.set hkA ⟨_, hc, t_OB.to (V := updV (vp_V fs) kf v) ⟨_, g1, q2, q3, t_set q4 hap hk v⟩ (fun j _ => vp_updV_set hlen v j)⟩ g3) (g2.trans h2) (h3.put g2 g3 hkA) h4
theorem r_putS (X : cX Γ p R s m args meth c cc ret nm own k mc ms nL) {idx ci kf N a : Nat} {C : String} {T : u_T} {ty : FieldType} {fs : List Value} {v : Value} (L : LF own idx ci kf C T N ty false) (hd : decode cc pc = .ok (.putfield idx, 3)) (hn : narrow ty v = v) (hf : fits ty v = true) (hlen : kf < fs.length) (kk : vV Γ p l e R s m args below meth c Q nL cells slots (pc + 3) (lv) (st) (mu μ a (xO ci (fs.set kf v)))) : vV Γ p l e R s m args below meth c Q nL cells slots (pc) (lv) (v :: .ref a :: st) (mu μ a (xO ci fs)) :=
  r_put X L hd mu_self hn hf hlen (by rw [mu_mu]; exact kk)
theorem r_putF (X : cX Γ p R s m args meth c cc ret nm own k mc ms nL) {idx ci kf N a : Nat} {C : String} {T : u_T} {ty : FieldType} {fs : List Value} {v : Value} (L : LF own idx ci kf C T N ty true) (hini : nm = "<init>") (hC2 : C = own) (hd : decode cc pc = .ok (.putfield idx, 3)) (hμ : μ a = some (xO ci fs)) (hn : narrow ty v = v) (hf : fits ty v = true) (hlen : kf < fs.length) (kk : vV Γ p l e R s m args below meth c Q nL cells slots (pc + 3) (lv) (st) (mu μ a (xO ci (fs.set kf v)))) : vV Γ p l e R s m args below meth c Q nL cells slots (pc) (lv) (v :: .ref a :: st) (μ) := by
  intro H locs ls h1 h2 h3 h4
  obtain ⟨hc, hk, hl, ⟨hin, ty0, hty, hnm⟩, hd2, hfin, hdecl⟩ := L
  have hts := X.2.2.2.2.2.1
  have hK := X.2.2.2.2.2.2.1.1
  have hown := X.2.2.2.2.1
  have hap := va_apart (own := own) hts hin ty0 hty hnm hK hc
  obtain ⟨hat, hkA⟩ := h1 a _ hμ
  obtain ⟨r, e1, cell, q1, q2, q3, q4⟩ := hat
  have hr : r = (C, T, N) := Option.some.inj (e1.symm.trans hc)
  subst hr
  obtain ⟨hS, hfc, kC, hkC, hkind⟩ := hK.1 ci _ hc
  obtain ⟨cf, kf', fi, f, hi, hsl⟩ := hS kf hk
  have hlay := hts _ (hin _ (u_in_lay hk))
  unfold u_lay at hlay
  rw [if_pos hfin] at hlay
  have hst := (u_facts hfc hkC (u_lays hts hin hk) hi).1
  have hcf : m.cls = cf := by
    obtain ⟨_, _, c', _, _, _, -, -, hf', -, -, -, hown2, -⟩ := Cond.laysFinal_spec hlay
    have e1 : c' = cf := by have := hi.symm.trans hf'; simp at this; exact this.1.symm
    rw [hdecl, hC2] at hown2
    rw [← e1]; exact Option.some.inj (hown.symm.trans hown2)
  have h6 := u_fits hfc hkC hkind (Or.inr hlay) hi hd2 hn hf
  refine W.putFinK X.1 X.2.1 hown (hts _ hl) hi hst hcf (X.2.2.2.2.2.2.2.2.2.1.trans hini) (by rw [q2]; exact h6) q1 q3 (by rw [hsl]; exact k2_hasslot (q4 kf hk)) rfl rfl hd fun H' g1 g2 g3 => ?_
  rw [hsl] at g1 ⊢
  exact kk H' _ ls (h1.set hkA ⟨_, hc, t_OB.to (V := updV (vp_V fs) kf v) ⟨_, g1, q2, q3, t_set q4 hap hk v⟩ (fun j _ => vp_updV_set hlen v j)⟩ g3) (g2.trans h2) (h3.put g2 g3 hkA) h4
theorem r_putFS (X : cX Γ p R s m args meth c cc ret nm own k mc ms nL) {idx ci kf N a : Nat} {C : String} {T : u_T} {ty : FieldType} {fs : List Value} {v : Value} (L : LF own idx ci kf C T N ty true) (hini : nm = "<init>") (hC2 : C = own) (hd : decode cc pc = .ok (.putfield idx, 3)) (hn : narrow ty v = v) (hf : fits ty v = true) (hlen : kf < fs.length) (kk : vV Γ p l e R s m args below meth c Q nL cells slots (pc + 3) (lv) (st) (mu μ a (xO ci (fs.set kf v)))) : vV Γ p l e R s m args below meth c Q nL cells slots (pc) (lv) (v :: .ref a :: st) (mu μ a (xO ci fs)) :=
  r_putF X L hini hC2 hd mu_self hn hf hlen (by rw [mu_mu]; exact kk)
theorem nI_vp {j n : Nat} (hj : j < n) (hn : n < 2 ^ 31) : vp_in (nI j) n := nI_in hj hn
theorem r_iald (X : cX Γ p R s m args meth c cc ret nm own k mc ms nL) {a n j : Nat} {f : Nat → Int32} (hd : decode cc pc = .ok (.iaload, 1)) (hμ : μ a = some (xI Γ n f)) (hj : j < n) (hn : n < 2 ^ 31) (kk : vV Γ p l e R s m args below meth c Q nL cells slots (pc + 1) (lv) (.int (f j) :: st) (μ)) : vV Γ p l e R s m args below meth c Q nL cells slots (pc) (lv) (.int (nI j) :: .ref a :: st) (μ) := by
  intro H locs ls h1 h2 h3 h4
  have e := nI_clamp (n := j) (by omega)
  refine W.iald (v := .int (f j)) X.1 X.2.1 ((h1 a _ hμ).1 : H[a]? = some (vp_cell _ _)) ((X.2.2.2.2.2.2.1.1.2 0 _ rfl).1 n (fun j => .int (f j))) (fun q => by cases q) (by show ¬ (nI j < 0 ∨ (arrV _ _ _).slots.size ≤ _); rw [arrV_size]; exact nI_vp hj hn) (by show (arrV _ _ _).slots[_]? = _; rw [e, arrV_read _ _ hj]) rfl rfl hd (kk H locs ls h1 h2 h3 h4)
theorem r_iast (X : cX Γ p R s m args meth c cc ret nm own k mc ms nL) {a n j : Nat} {f : Nat → Int32} {x : Int32} (hd : decode cc pc = .ok (.iastore, 1)) (hμ : μ a = some (xI Γ n f)) (hj : j < n) (hn : n < 2 ^ 31) (kk : vV Γ p l e R s m args below meth c Q nL cells slots (pc + 1) (lv) (st) (mu μ a (xI Γ n (upd f j x)))) : vV Γ p l e R s m args below meth c Q nL cells slots (pc) (lv) (.int x :: .int (nI j) :: .ref a :: st) (μ) := by
  intro H locs ls h1 h2 h3 h4
  have e := nI_clamp (n := j) (by omega)
  refine W.iast X.1 X.2.1 ((h1 a _ hμ).1 : H[a]? = some (vp_cell _ _)) ((X.2.2.2.2.2.2.1.1.2 0 _ rfl).1 n (fun j => .int (f j))) (fun q => by cases q) (by show ¬ (nI j < 0 ∨ (arrV _ _ _).slots.size ≤ _); rw [arrV_size]; exact nI_vp hj hn) rfl rfl hd fun H1 g1 g2 g3 => ?_
  refine kk H1 _ ls (h1.set (h1 a _ hμ).2 ?_ g3) (g2.trans h2) (h3.put g2 g3 (h1 a _ hμ).2) h4
  show H1[a]? = some (vp_cell _ _)
  rw [g1, e]
  rw [vp_cell_i, vp_cell_i, arrV_store]
  congr 2
  funext q
  by_cases hq : q = j
  · subst hq
    simp only [updV, upd, if_true]
  · simp only [updV, upd, if_neg hq]
theorem r_ialen (X : cX Γ p R s m args meth c cc ret nm own k mc ms nL) {a n : Nat} {f : Nat → Int32} (hd : decode cc pc = .ok (.arraylength, 1)) (hμ : μ a = some (xI Γ n f)) (kk : vV Γ p l e R s m args below meth c Q nL cells slots (pc + 1) (lv) (.int (nI n) :: st) (μ)) : vV Γ p l e R s m args below meth c Q nL cells slots (pc) (lv) (.ref a :: st) (μ) := by
  intro H locs ls h1 h2 h3 h4
  exact W.alen (n := nI n) X.1 X.2.1 ((h1 a _ hμ).1 : H[a]? = some (vp_cell _ _)) ((X.2.2.2.2.2.2.1.1.2 0 _ rfl).1 n (fun j => .int (f j))) (by rw [vp_cell_i, arrV_size] <;> rfl) rfl rfl hd (kk H locs ls h1 h2 h3 h4)
theorem r_cald (X : cX Γ p R s m args meth c cc ret nm own k mc ms nL) {a n j : Nat} {f : Nat → Int32} (hd : decode cc pc = .ok (.caload, 1)) (hμ : μ a = some (xC Γ n f)) (hj : j < n) (hn : n < 2 ^ 31) (kk : vV Γ p l e R s m args below meth c Q nL cells slots (pc + 1) (lv) (.int (f j) :: st) (μ)) : vV Γ p l e R s m args below meth c Q nL cells slots (pc) (lv) (.int (nI j) :: .ref a :: st) (μ) := by
  intro H locs ls h1 h2 h3 h4
  have e := nI_clamp (n := j) (by omega)
  refine W.cald (v := .int (f j)) X.1 X.2.1 ((h1 a _ hμ).1 : H[a]? = some (vp_cell _ _)) ((X.2.2.2.2.2.2.1.1.2 1 _ rfl).1 n (fun j => .int (f j))) (fun q => by cases q) (by show ¬ (nI j < 0 ∨ (arrV _ _ _).slots.size ≤ _); rw [arrV_size]; exact nI_vp hj hn) (by show (arrV _ _ _).slots[_]? = _; rw [e, arrV_read _ _ hj]) rfl rfl hd (kk H locs ls h1 h2 h3 h4)
theorem r_cast (X : cX Γ p R s m args meth c cc ret nm own k mc ms nL) {a n j : Nat} {f : Nat → Int32} {x : Int32} (hd : decode cc pc = .ok (.castore, 1)) (hx : vp_nar .char x = x) (hμ : μ a = some (xC Γ n f)) (hj : j < n) (hn : n < 2 ^ 31) (kk : vV Γ p l e R s m args below meth c Q nL cells slots (pc + 1) (lv) (st) (mu μ a (xC Γ n (upd f j x)))) : vV Γ p l e R s m args below meth c Q nL cells slots (pc) (lv) (.int x :: .int (nI j) :: .ref a :: st) (μ) := by
  intro H locs ls h1 h2 h3 h4
  have e := nI_clamp (n := j) (by omega)
  refine W.cast X.1 X.2.1 ((h1 a _ hμ).1 : H[a]? = some (vp_cell _ _)) ((X.2.2.2.2.2.2.1.1.2 1 _ rfl).1 n (fun j => .int (f j))) (fun q => by cases q) (by show ¬ (nI j < 0 ∨ (arrV _ _ _).slots.size ≤ _); rw [arrV_size]; exact nI_vp hj hn) rfl rfl hd fun H1 g1 g2 g3 => ?_
  refine kk H1 _ ls (h1.set (h1 a _ hμ).2 ?_ g3) (g2.trans h2) (h3.put g2 g3 (h1 a _ hμ).2) h4
  show H1[a]? = some (vp_cell _ _)
  rw [g1, e]
  rw [vp_cell_i, vp_cell_i, arrV_store]
  congr 2
  funext q
  by_cases hq : q = j
  · subst hq
    have hx2 : narrow .char (.int x) = .int x := by
      have : narrow .char (.int x) = .int (vp_nar .char x) := rfl
      rw [this, hx]
    simp only [updV, upd, if_true, hx2]
  · simp only [updV, upd, if_neg hq]
theorem r_calen (X : cX Γ p R s m args meth c cc ret nm own k mc ms nL) {a n : Nat} {f : Nat → Int32} (hd : decode cc pc = .ok (.arraylength, 1)) (hμ : μ a = some (xC Γ n f)) (kk : vV Γ p l e R s m args below meth c Q nL cells slots (pc + 1) (lv) (.int (nI n) :: st) (μ)) : vV Γ p l e R s m args below meth c Q nL cells slots (pc) (lv) (.ref a :: st) (μ) := by
  intro H locs ls h1 h2 h3 h4
  exact W.alen (n := nI n) X.1 X.2.1 ((h1 a _ hμ).1 : H[a]? = some (vp_cell _ _)) ((X.2.2.2.2.2.2.1.1.2 1 _ rfl).1 n (fun j => .int (f j))) (by rw [vp_cell_i, arrV_size] <;> rfl) rfl rfl hd (kk H locs ls h1 h2 h3 h4)
theorem r_zald (X : cX Γ p R s m args meth c cc ret nm own k mc ms nL) {a n j : Nat} {f : Nat → Int32} (hd : decode cc pc = .ok (.baload, 1)) (hμ : μ a = some (xZ Γ n f)) (hj : j < n) (hn : n < 2 ^ 31) (kk : vV Γ p l e R s m args below meth c Q nL cells slots (pc + 1) (lv) (.int (f j) :: st) (μ)) : vV Γ p l e R s m args below meth c Q nL cells slots (pc) (lv) (.int (nI j) :: .ref a :: st) (μ) := by
  intro H locs ls h1 h2 h3 h4
  have e := nI_clamp (n := j) (by omega)
  refine W.zald (v := .int (f j)) X.1 X.2.1 ((h1 a _ hμ).1 : H[a]? = some (vp_cell _ _)) ((X.2.2.2.2.2.2.1.1.2 2 _ rfl).1 n (fun j => .int (f j))) (fun q => by cases q) (by show ¬ (nI j < 0 ∨ (arrV _ _ _).slots.size ≤ _); rw [arrV_size]; exact nI_vp hj hn) (by show (arrV _ _ _).slots[_]? = _; rw [e, arrV_read _ _ hj]) rfl rfl hd (kk H locs ls h1 h2 h3 h4)
theorem r_zast (X : cX Γ p R s m args meth c cc ret nm own k mc ms nL) {a n j : Nat} {f : Nat → Int32} {x : Int32} (hd : decode cc pc = .ok (.bastore, 1)) (hx : vp_nar .boolean x = x) (hμ : μ a = some (xZ Γ n f)) (hj : j < n) (hn : n < 2 ^ 31) (kk : vV Γ p l e R s m args below meth c Q nL cells slots (pc + 1) (lv) (st) (mu μ a (xZ Γ n (upd f j x)))) : vV Γ p l e R s m args below meth c Q nL cells slots (pc) (lv) (.int x :: .int (nI j) :: .ref a :: st) (μ) := by
  intro H locs ls h1 h2 h3 h4
  have e := nI_clamp (n := j) (by omega)
  refine W.zast X.1 X.2.1 ((h1 a _ hμ).1 : H[a]? = some (vp_cell _ _)) ((X.2.2.2.2.2.2.1.1.2 2 _ rfl).1 n (fun j => .int (f j))) (fun q => by cases q) (by show ¬ (nI j < 0 ∨ (arrV _ _ _).slots.size ≤ _); rw [arrV_size]; exact nI_vp hj hn) rfl rfl hd fun H1 g1 g2 g3 => ?_
  refine kk H1 _ ls (h1.set (h1 a _ hμ).2 ?_ g3) (g2.trans h2) (h3.put g2 g3 (h1 a _ hμ).2) h4
  show H1[a]? = some (vp_cell _ _)
  rw [g1, e]
  rw [vp_cell_i, vp_cell_i, arrV_store]
  congr 2
  funext q
  by_cases hq : q = j
  · subst hq
    have hx2 : narrow .boolean (.int x) = .int x := by
      have : narrow .boolean (.int x) = .int (vp_nar .boolean x) := rfl
      rw [this, hx]
    simp only [updV, upd, if_true, hx2]
  · simp only [updV, upd, if_neg hq]
theorem r_zalen (X : cX Γ p R s m args meth c cc ret nm own k mc ms nL) {a n : Nat} {f : Nat → Int32} (hd : decode cc pc = .ok (.arraylength, 1)) (hμ : μ a = some (xZ Γ n f)) (kk : vV Γ p l e R s m args below meth c Q nL cells slots (pc + 1) (lv) (.int (nI n) :: st) (μ)) : vV Γ p l e R s m args below meth c Q nL cells slots (pc) (lv) (.ref a :: st) (μ) := by
  intro H locs ls h1 h2 h3 h4
  exact W.alen (n := nI n) X.1 X.2.1 ((h1 a _ hμ).1 : H[a]? = some (vp_cell _ _)) ((X.2.2.2.2.2.2.1.1.2 2 _ rfl).1 n (fun j => .int (f j))) (by rw [vp_cell_i, arrV_size] <;> rfl) rfl rfl hd (kk H locs ls h1 h2 h3 h4)
theorem r_sald (X : cX Γ p R s m args meth c cc ret nm own k mc ms nL) {a n j b : Nat} {f : Nat → Option Nat} (hd : decode cc pc = .ok (.aaload, 1)) (hμ : μ a = some (xS Γ n f)) (hj : j < n) (hn : n < 2 ^ 31) (hf : f j = some b) (kk : vV Γ p l e R s m args below meth c Q nL cells slots (pc + 1) (lv) (.ref b :: st) (μ)) : vV Γ p l e R s m args below meth c Q nL cells slots (pc) (lv) (.int (nI j) :: .ref a :: st) (μ) := by
  intro H locs ls h1 h2 h3 h4
  have e := nI_clamp (n := j) (by omega)
  refine W.aald (v := va_rf (f j)) (ty := .object "NobodyCave$Scene") X.1 X.2.1 ((h1 a _ hμ).1 : H[a]? = some (vp_cell _ _)) ((X.2.2.2.2.2.2.1.1.2 3 _ rfl).1 n (fun j => va_rf (f j))) rfl (fun q => by cases q) (by show ¬ (nI j < 0 ∨ (arrV _ _ _).slots.size ≤ _); rw [arrV_size]; exact nI_vp hj hn) (by show (arrV _ _ _).slots[_]? = _; rw [e, arrV_read _ _ hj]) rfl rfl hd ?_
  rw [hf]
  exact (kk H locs ls h1 h2 h3 h4)
theorem r_sast (X : cX Γ p R s m args meth c cc ret nm own k mc ms nL) {a n j b : Nat} {f : Nat → Option Nat} {fs : List Value} (hd : decode cc pc = .ok (.aastore, 1)) (hμ : μ a = some (xS Γ n f)) (hv : μ b = some (xO 2 fs)) (hj : j < n) (hn : n < 2 ^ 31) (kk : vV Γ p l e R s m args below meth c Q nL cells slots (pc + 1) (lv) (st) (mu μ a (xS Γ n (va_up f j (some b))))) : vV Γ p l e R s m args below meth c Q nL cells slots (pc) (lv) (.ref b :: .int (nI j) :: .ref a :: st) (μ) := by
  intro H locs ls h1 h2 h3 h4
  have e := nI_clamp (n := j) (by omega)
  have h0 : ¬ nI j < 0 := nI_pos (by omega)
  obtain ⟨r', hr', cellV, g1, g2, g3, -⟩ := (h1 b _ hv).1
  have hK := X.2.2.2.2.2.2.1.1
  have hcls := (hK.1 2 (RX2, TX2, 10) rfl).2
  obtain ⟨kA', comp, k1, k2, k3, -⟩ := (hK.2 3 _ rfl).2
  have hcomp : comp = (kD Γ).1 2 := Option.some.inj (k3.symm.trans hcls.1)
  subst hcomp
  obtain ⟨kC, hkC, -⟩ := hcls.2
  refine W.aast X.1 X.2.1 ((h1 a _ hμ).1 : H[a]? = some (vp_cell _ _)) (fun q h => by cases h) (fun h => by cases h) k1 k2 rfl hkC ⟨h0, by show _ < (arrV _ _ _).slots.size; rw [arrV_size, e]; exact hj⟩ g1 (fun q h => by rw [g3] at h; cases h) (by rw [g2]; exact hkC) (by rw [g2]; exact va_assign hcls) rfl rfl hd fun H1 q1 q2 q3 => ?_
  refine kk H1 _ ls (h1.set (h1 a _ hμ).2 ?_ q3) (q2.trans h2) (h3.put q2 q3 (h1 a _ hμ).2) h4
  show H1[a]? = some (vp_cell _ _)
  rw [q1, e]
  rw [vp_cell_q, vp_cell_q, arrV_store]
  congr 2
  funext q
  by_cases hq : q = j
  · subst hq
    simp only [updV, va_up, if_true, va_rf]
  · simp only [updV, va_up, if_neg hq]
end LY
