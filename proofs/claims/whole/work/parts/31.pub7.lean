section S31a
variable {Γ : KK} {p : Program} {l : Launch} {e : Env} {R : Room} {s : State} {m : MethodId} {args : Array Value} {below : List Frame} {meth : Method} {c : Code} {Q : State → Prop} {cc : ByteArray} {ret : Option FieldType} {nm own : String} {k mc ms nL cells slots pc : Nat} {lv : List (Option Value)} {st : List Value} {μ : MM}
theorem r_new' (X : cX Γ p R s m args meth c cc ret nm own k mc ms nL) {idx ci N : Nat} {C : String} {T : u_T} {fs : List Value} (L : LN own idx ci C T N fs) (hd : decode cc pc = .ok (.new idx, 3)) (hcl : cells + 1 ≤ mc) (hsl : slots + N ≤ ms) (ad : Nat) (had : s.heap.size + cells = ad) (kk : vV Γ p l e R s m args below meth c Q nL (cells + 1) (slots + N) (pc + 3) lv (.ref ad :: st) (mu μ ad (xO ci fs))) : vV Γ p l e R s m args below meth c Q nL cells slots pc lv st μ := by
  subst had
  exact r_new X L hd hcl hsl kk
theorem r_newaI' (X : cX Γ p R s m args meth c cc ret nm own k mc ms nL) {N : Nat} (L : Cond.arrayClass .int ∈ GT) (hd : decode cc pc = .ok (.newarray .int, 2)) (hN : N < 1000) (hcl : cells + 1 ≤ mc) (hsl : slots + N ≤ ms) (ad : Nat) (had : s.heap.size + cells = ad) (kk : vV Γ p l e R s m args below meth c Q nL (cells + 1) (slots + N) (pc + 2) lv (.ref ad :: st) (mu μ ad (xI Γ N (fun _ => nI 0)))) : vV Γ p l e R s m args below meth c Q nL cells slots pc lv (.int (nI N) :: st) μ := by
  subst had
  exact r_newaI X L hd hN hcl hsl kk
theorem r_newaC' (X : cX Γ p R s m args meth c cc ret nm own k mc ms nL) {N : Nat} (L : Cond.arrayClass .char ∈ GT) (hd : decode cc pc = .ok (.newarray .char, 2)) (hN : N < 1000) (hcl : cells + 1 ≤ mc) (hsl : slots + N ≤ ms) (ad : Nat) (had : s.heap.size + cells = ad) (kk : vV Γ p l e R s m args below meth c Q nL (cells + 1) (slots + N) (pc + 2) lv (.ref ad :: st) (mu μ ad (xC Γ N (fun _ => nI 0)))) : vV Γ p l e R s m args below meth c Q nL cells slots pc lv (.int (nI N) :: st) μ := by
  subst had
  exact r_newaC X L hd hN hcl hsl kk
theorem r_newaZ' (X : cX Γ p R s m args meth c cc ret nm own k mc ms nL) {N : Nat} (L : Cond.arrayClass .boolean ∈ GT) (hd : decode cc pc = .ok (.newarray .boolean, 2)) (hN : N < 1000) (hcl : cells + 1 ≤ mc) (hsl : slots + N ≤ ms) (ad : Nat) (had : s.heap.size + cells = ad) (kk : vV Γ p l e R s m args below meth c Q nL (cells + 1) (slots + N) (pc + 2) lv (.ref ad :: st) (mu μ ad (xZ Γ N (fun _ => nI 0)))) : vV Γ p l e R s m args below meth c Q nL cells slots pc lv (.int (nI N) :: st) μ := by
  subst had
  exact r_newaZ X L hd hN hcl hsl kk
theorem r_newaS' (X : cX Γ p R s m args meth c cc ret nm own k mc ms nL) {N idx : Nat} (L : Cond.classLink own idx RX2 ∈ GT) (hd : decode cc pc = .ok (.anewarray idx, 3)) (hN : N < 1000) (hcl : cells + 1 ≤ mc) (hsl : slots + N ≤ ms) (ad : Nat) (had : s.heap.size + cells = ad) (kk : vV Γ p l e R s m args below meth c Q nL (cells + 1) (slots + N) (pc + 3) lv (.ref ad :: st) (mu μ ad (xS Γ N (fun _ => none)))) : vV Γ p l e R s m args below meth c Q nL cells slots pc lv (.int (nI N) :: st) μ := by
  subst had
  exact r_newaS X L hd hN hcl hsl kk
end S31a
section S31
variable {Γ : KK} {l : Launch} {sz : Nat} {μ : MM} {x : Nat} {T S : Nat → Nat} {un : Nat} {A : Nat → Nat → Nat} {kf : Nat → Bool} {K : Nat → Nat → Nat} {n : Nat} {xs : Nat → Nat} {sn : Nat} {V : Nat → Nat}
theorem t6_count (h : WC Γ μ x T S un A kf K n xs sn V) (hI : INV T S un A kf K n xs sn V) (v1 : Int32) : CT Γ l 0 sz 0 0 mX6_count [.ref x, .int v1] μ (ri (fun r μ' => r = opCount T S un n sn v1 ∧ μ' = μ)) := by
  obtain ⟨a0, ⟨cl, tb, te, a1⟩, a2, ⟨T', a3⟩, a4, ⟨nx, V', U', a5, a6, a7⟩, ⟨V2, U2, a8, a9⟩, a10, ⟨pf, pg, a11, a12⟩, a13⟩ := id h
  have c10 := a1.1
  have c11 := a1.2
  have c20 := a2.1
  have c21 := a2.2.1
  have c22 := a2.2.2.1
  have c23 := a2.2.2.2.1
  have c24 := a2.2.2.2.2
  have c30 := a3.1
  have c40 := a4.1
  have c41 := a4.2.1
  have c60 := a6.1
  have c80 := a8.1
  have c110 := a11.1
  have c130 := a13.1
  obtain ⟨i1, i2, i3, i4, i5, i6, i7, i8, i9⟩ := id hI
  obtain ⟨t1, t2, t3, t4, t5, t6, t7, t8, t9, t10, t11⟩ := id i1
  obtain ⟨z1, z2, z3, z4, z5, z6, z7, z8, z9⟩ := id i2
  refine CT.go RX6 rfl "count" rfl [some (.ref x), some (.int v1)] rfl (by decide) (Nat.le_of_ble_eq_true rfl) ?_
  intro p e R s m args below meth c X hsz
  refine r_iload_n (pc := 0) X dX6_count_0 rfl ?_
  unfold opCount
  by_cases h1 : 0 ≤ v1.toInt ∧ v1.toInt ≤ 14
  · have hv := nt_nI h1.1
    have hl : nt v1 ≤ 14 := by unfold nt; omega
    rw [if_neg (fun q => q h1)]
    obtain ⟨k', hk⟩ : ∃ k', k' = nt v1 := ⟨_, rfl⟩
    rw [← hk] at hv hl ⊢
    subst hv
    rcases (show k' = 0 ∨ k' = 1 ∨ k' = 2 ∨ k' = 3 ∨ k' = 4 ∨ k' = 5 ∨ k' = 6 ∨ k' = 7 ∨ k' = 8 ∨ k' = 9 ∨ k' = 10 ∨ k' = 11 ∨ k' = 12 ∨ k' = 13 ∨ k' = 14 by omega) with rfl | rfl | rfl | rfl | rfl | rfl | rfl | rfl | rfl | rfl | rfl | rfl | rfl | rfl | rfl
    · refine r_tableIn (pc := 1) X 76 dX6_count_1 (by decide) (by decide) rfl (by decide) ?_
      refine r_aload_n (pc := 76) X dX6_count_76 rfl ?_
      apply r_get (pc := 77) X f_X6_19 dX6_count_77
      · repeat (first | exact mu_self | assumption | refine (mu_ne (by omega)).trans ?_)
      · rfl
      apply r_get (pc := 80) X f_X6_253 dX6_count_80
      · repeat (first | exact mu_self | assumption | refine (mu_ne (by omega)).trans ?_)
      · rfl
      exact r_iret (pc := 83) X dX6_count_83 (⟨rfl, rfl⟩)
    · refine r_tableIn (pc := 1) X 84 dX6_count_1 (by decide) (by decide) rfl (by decide) ?_
      refine r_aload_n (pc := 84) X dX6_count_84 rfl ?_
      apply r_get (pc := 85) X f_X6_19 dX6_count_85
      · repeat (first | exact mu_self | assumption | refine (mu_ne (by omega)).trans ?_)
      · rfl
      apply r_get (pc := 88) X f_X6_256 dX6_count_88
      · repeat (first | exact mu_self | assumption | refine (mu_ne (by omega)).trans ?_)
      · rfl
      exact r_iret (pc := 91) X dX6_count_91 (⟨rfl, rfl⟩)
    · refine r_tableIn (pc := 1) X 92 dX6_count_1 (by decide) (by decide) rfl (by decide) ?_
      refine r_aload_n (pc := 92) X dX6_count_92 rfl ?_
      apply r_get (pc := 93) X f_X6_19 dX6_count_93
      · repeat (first | exact mu_self | assumption | refine (mu_ne (by omega)).trans ?_)
      · rfl
      apply r_get (pc := 96) X f_X6_233 dX6_count_96
      · repeat (first | exact mu_self | assumption | refine (mu_ne (by omega)).trans ?_)
      · rfl
      exact r_iret (pc := 99) X dX6_count_99 (⟨rfl, rfl⟩)
    · refine r_tableIn (pc := 1) X 100 dX6_count_1 (by decide) (by decide) rfl (by decide) ?_
      refine r_aload_n (pc := 100) X dX6_count_100 rfl ?_
      apply r_get (pc := 101) X f_X6_29 dX6_count_101
      · repeat (first | exact mu_self | assumption | refine (mu_ne (by omega)).trans ?_)
      · rfl
      apply r_get (pc := 104) X f_X6_154 dX6_count_104
      · repeat (first | exact mu_self | assumption | refine (mu_ne (by omega)).trans ?_)
      · rfl
      exact r_iret (pc := 107) X dX6_count_107 (⟨rfl, rfl⟩)
    · refine r_tableIn (pc := 1) X 108 dX6_count_1 (by decide) (by decide) rfl (by decide) ?_
      refine r_aload_n (pc := 108) X dX6_count_108 rfl ?_
      apply r_get (pc := 109) X f_X6_29 dX6_count_109
      · repeat (first | exact mu_self | assumption | refine (mu_ne (by omega)).trans ?_)
      · rfl
      apply r_get (pc := 112) X f_X6_144 dX6_count_112
      · repeat (first | exact mu_self | assumption | refine (mu_ne (by omega)).trans ?_)
      · rfl
      exact r_iret (pc := 115) X dX6_count_115 (⟨rfl, rfl⟩)
    · refine r_tableIn (pc := 1) X 116 dX6_count_1 (by decide) (by decide) rfl (by decide) ?_
      refine r_aload_n (pc := 116) X dX6_count_116 rfl ?_
      apply r_get (pc := 117) X f_X6_29 dX6_count_117
      · repeat (first | exact mu_self | assumption | refine (mu_ne (by omega)).trans ?_)
      · rfl
      apply r_get (pc := 120) X f_X6_151 dX6_count_120
      · repeat (first | exact mu_self | assumption | refine (mu_ne (by omega)).trans ?_)
      · rfl
      exact r_iret (pc := 123) X dX6_count_123 (⟨rfl, rfl⟩)
    · refine r_tableIn (pc := 1) X 124 dX6_count_1 (by decide) (by decide) rfl (by decide) ?_
      refine r_aload_n (pc := 124) X dX6_count_124 rfl ?_
      apply r_get (pc := 125) X f_X6_29 dX6_count_125
      · repeat (first | exact mu_self | assumption | refine (mu_ne (by omega)).trans ?_)
      · rfl
      apply r_get (pc := 128) X f_X6_163 dX6_count_128
      · repeat (first | exact mu_self | assumption | refine (mu_ne (by omega)).trans ?_)
      · rfl
      exact r_iret (pc := 131) X dX6_count_131 (⟨rfl, rfl⟩)
    · refine r_tableIn (pc := 1) X 132 dX6_count_1 (by decide) (by decide) rfl (by decide) ?_
      refine r_aload_n (pc := 132) X dX6_count_132 rfl ?_
      apply r_get (pc := 133) X f_X6_29 dX6_count_133
      · repeat (first | exact mu_self | assumption | refine (mu_ne (by omega)).trans ?_)
      · rfl
      apply r_get (pc := 136) X f_X6_140 dX6_count_136
      · repeat (first | exact mu_self | assumption | refine (mu_ne (by omega)).trans ?_)
      · rfl
      first | refine r_if_eqZ (pc := 139) X 146 dX6_count_139 (by decide) (fun h3 => ?_) (fun h3 => ?_) | refine r_if_eqN (pc := 139) X 146 dX6_count_139 (by decide) (by omega) (fun h3 => ?_) (fun h3 => ?_) | refine r_if_eq (pc := 139) X 146 dX6_count_139 (by decide) (fun h3 => ?_) (fun h3 => ?_)
      · have h3' : S 3 = 0 := h3
        refine r_iconst (pc := 146) (v := nI 0) X dX6_count_146 (by decide) ?_
        exact r_iret (pc := 147) X dX6_count_147 (⟨by show nI 0 = nI (S 3); rw [h3'], rfl⟩)
      · have h3' : S 3 = 1 := by
          have : ¬ S 3 = 0 := h3
          omega
        refine r_iconst (pc := 142) (v := nI 1) X dX6_count_142 (by decide) ?_
        refine r_goto (pc := 143) X 147 dX6_count_143 (by decide) ?_
        exact r_iret (pc := 147) X dX6_count_147 (⟨by show nI 1 = nI (S 3); rw [h3'], rfl⟩)
    · refine r_tableIn (pc := 1) X 148 dX6_count_1 (by decide) (by decide) rfl (by decide) ?_
      refine r_aload_n (pc := 148) X dX6_count_148 rfl ?_
      apply r_get (pc := 149) X f_X6_29 dX6_count_149
      · repeat (first | exact mu_self | assumption | refine (mu_ne (by omega)).trans ?_)
      · rfl
      apply r_get (pc := 152) X f_X6_208 dX6_count_152
      · repeat (first | exact mu_self | assumption | refine (mu_ne (by omega)).trans ?_)
      · rfl
      exact r_iret (pc := 155) X dX6_count_155 (⟨rfl, rfl⟩)
    · refine r_tableIn (pc := 1) X 156 dX6_count_1 (by decide) (by decide) rfl (by decide) ?_
      refine r_aload_n (pc := 156) X dX6_count_156 rfl ?_
      apply r_get (pc := 157) X f_X6_29 dX6_count_157
      · repeat (first | exact mu_self | assumption | refine (mu_ne (by omega)).trans ?_)
      · rfl
      apply r_get (pc := 160) X f_X6_259 dX6_count_160
      · repeat (first | exact mu_self | assumption | refine (mu_ne (by omega)).trans ?_)
      · rfl
      exact r_iret (pc := 163) X dX6_count_163 (⟨rfl, rfl⟩)
    · refine r_tableIn (pc := 1) X 164 dX6_count_1 (by decide) (by decide) rfl (by decide) ?_
      refine r_aload_n (pc := 164) X dX6_count_164 rfl ?_
      apply r_get (pc := 165) X f_X6_29 dX6_count_165
      · repeat (first | exact mu_self | assumption | refine (mu_ne (by omega)).trans ?_)
      · rfl
      apply r_get (pc := 168) X f_X6_262 dX6_count_168
      · repeat (first | exact mu_self | assumption | refine (mu_ne (by omega)).trans ?_)
      · rfl
      exact r_iret (pc := 171) X dX6_count_171 (⟨rfl, rfl⟩)
    · refine r_tableIn (pc := 1) X 172 dX6_count_1 (by decide) (by decide) rfl (by decide) ?_
      refine r_aload_n (pc := 172) X dX6_count_172 rfl ?_
      apply r_get (pc := 173) X f_X6_29 dX6_count_173
      · repeat (first | exact mu_self | assumption | refine (mu_ne (by omega)).trans ?_)
      · rfl
      apply r_get (pc := 176) X f_X6_115 dX6_count_176
      · repeat (first | exact mu_self | assumption | refine (mu_ne (by omega)).trans ?_)
      · rfl
      exact r_iret (pc := 179) X dX6_count_179 (⟨rfl, rfl⟩)
    · refine r_tableIn (pc := 1) X 180 dX6_count_1 (by decide) (by decide) rfl (by decide) ?_
      refine r_aload_n (pc := 180) X dX6_count_180 rfl ?_
      apply r_get (pc := 181) X f_X6_58 dX6_count_181
      · repeat (first | exact mu_self | assumption | refine (mu_ne (by omega)).trans ?_)
      · rfl
      apply r_get (pc := 184) X f_X6_242 dX6_count_184
      · repeat (first | exact mu_self | assumption | refine (mu_ne (by omega)).trans ?_)
      · rfl
      exact r_iret (pc := 187) X dX6_count_187 (⟨rfl, rfl⟩)
    · refine r_tableIn (pc := 1) X 188 dX6_count_1 (by decide) (by decide) rfl (by decide) ?_
      refine r_aload_n (pc := 188) X dX6_count_188 rfl ?_
      apply r_get (pc := 189) X f_X6_36 dX6_count_189
      · repeat (first | exact mu_self | assumption | refine (mu_ne (by omega)).trans ?_)
      · rfl
      apply r_get (pc := 192) X f_X6_196 dX6_count_192
      · repeat (first | exact mu_self | assumption | refine (mu_ne (by omega)).trans ?_)
      · rfl
      exact r_iret (pc := 195) X dX6_count_195 (⟨rfl, rfl⟩)
    · refine r_tableIn (pc := 1) X 196 dX6_count_1 (by decide) (by decide) rfl (by decide) ?_
      refine r_aload_n (pc := 196) X dX6_count_196 rfl ?_
      apply r_get (pc := 197) X f_X6_10 dX6_count_197
      · repeat (first | exact mu_self | assumption | refine (mu_ne (by omega)).trans ?_)
      · rfl
      apply r_get (pc := 200) X f_X6_74 dX6_count_200
      · repeat (first | exact mu_self | assumption | refine (mu_ne (by omega)).trans ?_)
      · rfl
      exact r_iret (pc := 203) X dX6_count_203 (⟨rfl, rfl⟩)
  · rw [if_pos h1]
    refine r_tableOut (pc := 1) X 204 dX6_count_1 (by omega) (by decide) ?_
    refine r_bipush (pc := 204) (v := -3) X dX6_count_204 (by decide) ?_
    exact r_iret (pc := 206) X dX6_count_206 (⟨rfl, rfl⟩)
theorem tI_Scene {a : Nat} (h : μ a = some (xO 2 [.int (nI 0), .int (nI 0), .int (nI 0), .int (nI 0), .int (nI 0), .int (nI 0), .int (nI 0), .int (nI 0), .int (nI 0), .null])) (hs : sz = a + 1) : CT Γ l 1 sz 1 6 mX2_init [.ref a] μ (rv (fun μ' => ScAt Γ μ' a (fun _ => nI 0) (fun _ => nI 0) ∧ Fr a 2 μ μ')) := by
  refine CT.go RX2 rfl "<init>" rfl [some (.ref a)] rfl (by decide) (Nat.le_of_ble_eq_true rfl) ?_
  intro p e R s m args below meth c X hsz
  refine r_aload_n (pc := 0) X dX2_init_0 rfl ?_
  refine r_objInit (pc := 1) X l_X2_3 dX2_init_1 (by decide) (Nat.le_of_ble_eq_true rfl) ?_
  refine r_aload_n (pc := 4) X dX2_init_4 rfl ?_
  refine r_bipush (pc := 5) (v := nI 6) X dX2_init_5 (by decide) ?_
  refine r_newaI' (pc := 7) X ac_I dX2_init_7 (by decide) (by omega) (by omega) (a + 1) (by omega) ?_
  first | refine r_putFS (pc := 9) X f_X2_9 rfl rfl dX2_init_9 (by first | rfl | assumption | decide | simp [narrow]) (by first | rfl | assumption) (Nat.le_of_ble_eq_true rfl) ?_ | refine r_putF (pc := 9) X f_X2_9 rfl rfl dX2_init_9 (by repeat (first | exact mu_self | assumption | refine (mu_ne (by omega)).trans ?_)) (by first | rfl | assumption | decide | simp [narrow]) (by first | rfl | assumption) (Nat.le_of_ble_eq_true rfl) ?_
  exact r_vret (pc := 12) X dX2_init_12 (⟨⟨(by repeat (first | exact mu_self | assumption | refine (mu_ne (by omega)).trans ?_)), (by repeat (first | exact mu_self | assumption | refine (mu_ne (by omega)).trans ?_)), Or.inl rfl⟩, (fun q hq => by repeat (first | rfl | refine (mu_ne (by omega)).trans ?_))⟩)
theorem tI_Text {a : Nat} (h : μ a = some (xO 4 [.null, .int (nI 0), .int (nI 0), .int (nI 0), .int (nI 0)])) (hs : sz = a + 1) : CT Γ l 1 sz 1 160 mX4_init [.ref a] μ (rv (fun μ' => TextAt Γ μ' a 0 (fun _ => 0) (nI 0) (nI 0) (nI 0) ∧ Fr a 2 μ μ')) := by
  refine CT.go RX4 rfl "<init>" rfl [some (.ref a)] rfl (by decide) (Nat.le_of_ble_eq_true rfl) ?_
  intro p e R s m args below meth c X hsz
  refine r_aload_n (pc := 0) X dX4_init_0 rfl ?_
  refine r_objInit (pc := 1) X l_X4_3 dX4_init_1 (by decide) (Nat.le_of_ble_eq_true rfl) ?_
  refine r_aload_n (pc := 4) X dX4_init_4 rfl ?_
  refine r_sipush (pc := 5) (v := nI 160) X dX4_init_5 (by decide) ?_
  refine r_newaC' (pc := 8) X ac_C dX4_init_8 (by decide) (by omega) (by omega) (a + 1) (by omega) ?_
  first | refine r_putFS (pc := 10) X f_X4_9 rfl rfl dX4_init_10 (by first | rfl | assumption | decide | simp [narrow]) (by first | rfl | assumption) (Nat.le_of_ble_eq_true rfl) ?_ | refine r_putF (pc := 10) X f_X4_9 rfl rfl dX4_init_10 (by repeat (first | exact mu_self | assumption | refine (mu_ne (by omega)).trans ?_)) (by first | rfl | assumption | decide | simp [narrow]) (by first | rfl | assumption) (Nat.le_of_ble_eq_true rfl) ?_
  exact r_vret (pc := 13) X dX4_init_13 (⟨⟨(by repeat (first | exact mu_self | assumption | refine (mu_ne (by omega)).trans ?_)), (by repeat (first | exact mu_self | assumption | refine (mu_ne (by omega)).trans ?_))⟩, (fun q hq => by repeat (first | rfl | refine (mu_ne (by omega)).trans ?_))⟩)
theorem tI_Planner {a : Nat} (h : μ a = some (xO 1 [.null, .null])) (hs : sz = a + 1) : CT Γ l 1 sz 2 454 mX1_init [.ref a] μ (rv (fun μ' => PlanAt Γ μ' a (fun _ => nI 0) (fun _ => nI 0) ∧ Fr a 3 μ μ')) := by
  refine CT.go RX1 rfl "<init>" rfl [some (.ref a)] rfl (by decide) (Nat.le_of_ble_eq_true rfl) ?_
  intro p e R s m args below meth c X hsz
  refine r_aload_n (pc := 0) X dX1_init_0 rfl ?_
  refine r_objInit (pc := 1) X l_X1_3 dX1_init_1 (by decide) (Nat.le_of_ble_eq_true rfl) ?_
  refine r_aload_n (pc := 4) X dX1_init_4 rfl ?_
  refine r_bipush (pc := 5) (v := nI 6) X dX1_init_5 (by decide) ?_
  refine r_newaI' (pc := 7) X ac_I dX1_init_7 (by decide) (by omega) (by omega) (a + 1) (by omega) ?_
  first | refine r_putFS (pc := 9) X f_X1_9 rfl rfl dX1_init_9 (by first | rfl | assumption | decide | simp [narrow]) (by first | rfl | assumption) (Nat.le_of_ble_eq_true rfl) ?_ | refine r_putF (pc := 9) X f_X1_9 rfl rfl dX1_init_9 (by repeat (first | exact mu_self | assumption | refine (mu_ne (by omega)).trans ?_)) (by first | rfl | assumption | decide | simp [narrow]) (by first | rfl | assumption) (Nat.le_of_ble_eq_true rfl) ?_
  refine r_aload_n (pc := 12) X dX1_init_12 rfl ?_
  refine r_sipush (pc := 13) (v := nI 448) X dX1_init_13 (by decide) ?_
  refine r_newaI' (pc := 16) X ac_I dX1_init_16 (by decide) (by omega) (by omega) (a + 2) (by omega) ?_
  first | refine r_putFS (pc := 18) X f_X1_15 rfl rfl dX1_init_18 (by first | rfl | assumption | decide | simp [narrow]) (by first | rfl | assumption) (Nat.le_of_ble_eq_true rfl) ?_ | refine r_putF (pc := 18) X f_X1_15 rfl rfl dX1_init_18 (by repeat (first | exact mu_self | assumption | refine (mu_ne (by omega)).trans ?_)) (by first | rfl | assumption | decide | simp [narrow]) (by first | rfl | assumption) (Nat.le_of_ble_eq_true rfl) ?_
  exact r_vret (pc := 21) X dX1_init_21 (⟨⟨(by repeat (first | exact mu_self | assumption | refine (mu_ne (by omega)).trans ?_)), (by repeat (first | exact mu_self | assumption | refine (mu_ne (by omega)).trans ?_)), (by repeat (first | exact mu_self | assumption | refine (mu_ne (by omega)).trans ?_))⟩, (fun q hq => by repeat (first | rfl | refine (mu_ne (by omega)).trans ?_))⟩)
theorem tI_Sights {a : Nat} (h : μ a = some (xO 3 [.int (nI 0), .null, .null, .null])) (hs : sz = a + 1) : CT Γ l 1 sz 3 18 mX3_init [.ref a] μ (rv (fun μ' => SigAt Γ μ' a 0 (fun _ => 0) ∧ Fr a 4 μ μ')) := by
  refine CT.go RX3 rfl "<init>" rfl [some (.ref a)] rfl (by decide) (Nat.le_of_ble_eq_true rfl) ?_
  intro p e R s m args below meth c X hsz
  refine r_aload_n (pc := 0) X dX3_init_0 rfl ?_
  refine r_objInit (pc := 1) X l_X3_3 dX3_init_1 (by decide) (Nat.le_of_ble_eq_true rfl) ?_
  refine r_aload_n (pc := 4) X dX3_init_4 rfl ?_
  refine r_bipush (pc := 5) (v := nI 6) X dX3_init_5 (by decide) ?_
  refine r_newaI' (pc := 7) X ac_I dX3_init_7 (by decide) (by omega) (by omega) (a + 1) (by omega) ?_
  first | refine r_putFS (pc := 9) X f_X3_9 rfl rfl dX3_init_9 (by first | rfl | assumption | decide | simp [narrow]) (by first | rfl | assumption) (Nat.le_of_ble_eq_true rfl) ?_ | refine r_putF (pc := 9) X f_X3_9 rfl rfl dX3_init_9 (by repeat (first | exact mu_self | assumption | refine (mu_ne (by omega)).trans ?_)) (by first | rfl | assumption | decide | simp [narrow]) (by first | rfl | assumption) (Nat.le_of_ble_eq_true rfl) ?_
  refine r_aload_n (pc := 12) X dX3_init_12 rfl ?_
  refine r_bipush (pc := 13) (v := nI 6) X dX3_init_13 (by decide) ?_
  refine r_newaI' (pc := 15) X ac_I dX3_init_15 (by decide) (by omega) (by omega) (a + 2) (by omega) ?_
  first | refine r_putFS (pc := 17) X f_X3_15 rfl rfl dX3_init_17 (by first | rfl | assumption | decide | simp [narrow]) (by first | rfl | assumption) (Nat.le_of_ble_eq_true rfl) ?_ | refine r_putF (pc := 17) X f_X3_15 rfl rfl dX3_init_17 (by repeat (first | exact mu_self | assumption | refine (mu_ne (by omega)).trans ?_)) (by first | rfl | assumption | decide | simp [narrow]) (by first | rfl | assumption) (Nat.le_of_ble_eq_true rfl) ?_
  refine r_aload_n (pc := 20) X dX3_init_20 rfl ?_
  refine r_bipush (pc := 21) (v := nI 6) X dX3_init_21 (by decide) ?_
  refine r_newaZ' (pc := 23) X ac_Z dX3_init_23 (by decide) (by omega) (by omega) (a + 3) (by omega) ?_
  first | refine r_putFS (pc := 25) X f_X3_18 rfl rfl dX3_init_25 (by first | rfl | assumption | decide | simp [narrow]) (by first | rfl | assumption) (Nat.le_of_ble_eq_true rfl) ?_ | refine r_putF (pc := 25) X f_X3_18 rfl rfl dX3_init_25 (by repeat (first | exact mu_self | assumption | refine (mu_ne (by omega)).trans ?_)) (by first | rfl | assumption | decide | simp [narrow]) (by first | rfl | assumption) (Nat.le_of_ble_eq_true rfl) ?_
  exact r_vret (pc := 28) X dX3_init_28 (⟨⟨(by repeat (first | exact mu_self | assumption | refine (mu_ne (by omega)).trans ?_)), (by repeat (first | exact mu_self | assumption | refine (mu_ne (by omega)).trans ?_)), (by repeat (first | exact mu_self | assumption | refine (mu_ne (by omega)).trans ?_)), (by repeat (first | exact mu_self | assumption | refine (mu_ne (by omega)).trans ?_))⟩, (fun q hq => by repeat (first | rfl | refine (mu_ne (by omega)).trans ?_))⟩)
def T00 : Nat → Nat := rsT (fun _ => 0)
theorem tI_Told {a : Nat} (h : μ a = some (xO 5 [.int (nI 0), .int (nI 0), .int (nI 0), .int (nI 0), .int (nI 0), .int (nI 0), .int (nI 0), .null, .null, .null, .null])) (hs : sz = a + 1) : CT Γ l 1 sz 4 22 mX5_init [.ref a] μ (rv (fun μ' => ToldAt Γ μ' a T00 ∧ Fr a 5 μ μ')) := by
  refine CT.go RX5 rfl "<init>" rfl [some (.ref a)] rfl (by decide) (Nat.le_of_ble_eq_true rfl) ?_
  intro p e R s m args below meth c X hsz
  refine r_aload_n (pc := 0) X dX5_init_0 rfl ?_
  refine r_objInit (pc := 1) X l_X5_3 dX5_init_1 (by decide) (Nat.le_of_ble_eq_true rfl) ?_
  refine r_aload_n (pc := 4) X dX5_init_4 rfl ?_
  refine r_bipush (pc := 5) (v := nI 6) X dX5_init_5 (by decide) ?_
  refine r_newaI' (pc := 7) X ac_I dX5_init_7 (by decide) (by omega) (by omega) (a + 1) (by omega) ?_
  first | refine r_putFS (pc := 9) X f_X5_9 rfl rfl dX5_init_9 (by first | rfl | assumption | decide | simp [narrow]) (by first | rfl | assumption) (Nat.le_of_ble_eq_true rfl) ?_ | refine r_putF (pc := 9) X f_X5_9 rfl rfl dX5_init_9 (by repeat (first | exact mu_self | assumption | refine (mu_ne (by omega)).trans ?_)) (by first | rfl | assumption | decide | simp [narrow]) (by first | rfl | assumption) (Nat.le_of_ble_eq_true rfl) ?_
  refine r_aload_n (pc := 12) X dX5_init_12 rfl ?_
  refine r_bipush (pc := 13) (v := nI 6) X dX5_init_13 (by decide) ?_
  refine r_newaI' (pc := 15) X ac_I dX5_init_15 (by decide) (by omega) (by omega) (a + 2) (by omega) ?_
  first | refine r_putFS (pc := 17) X f_X5_15 rfl rfl dX5_init_17 (by first | rfl | assumption | decide | simp [narrow]) (by first | rfl | assumption) (Nat.le_of_ble_eq_true rfl) ?_ | refine r_putF (pc := 17) X f_X5_15 rfl rfl dX5_init_17 (by repeat (first | exact mu_self | assumption | refine (mu_ne (by omega)).trans ?_)) (by first | rfl | assumption | decide | simp [narrow]) (by first | rfl | assumption) (Nat.le_of_ble_eq_true rfl) ?_
  refine r_aload_n (pc := 20) X dX5_init_20 rfl ?_
  refine r_bipush (pc := 21) (v := nI 6) X dX5_init_21 (by decide) ?_
  refine r_newaI' (pc := 23) X ac_I dX5_init_23 (by decide) (by omega) (by omega) (a + 3) (by omega) ?_
  first | refine r_putFS (pc := 25) X f_X5_18 rfl rfl dX5_init_25 (by first | rfl | assumption | decide | simp [narrow]) (by first | rfl | assumption) (Nat.le_of_ble_eq_true rfl) ?_ | refine r_putF (pc := 25) X f_X5_18 rfl rfl dX5_init_25 (by repeat (first | exact mu_self | assumption | refine (mu_ne (by omega)).trans ?_)) (by first | rfl | assumption | decide | simp [narrow]) (by first | rfl | assumption) (Nat.le_of_ble_eq_true rfl) ?_
  refine r_aload_n (pc := 28) X dX5_init_28 rfl ?_
  refine r_iconst (pc := 29) (v := nI 4) X dX5_init_29 (by decide) ?_
  refine r_newaI' (pc := 30) X ac_I dX5_init_30 (by decide) (by omega) (by omega) (a + 4) (by omega) ?_
  first | refine r_putFS (pc := 32) X f_X5_21 rfl rfl dX5_init_32 (by first | rfl | assumption | decide | simp [narrow]) (by first | rfl | assumption) (Nat.le_of_ble_eq_true rfl) ?_ | refine r_putF (pc := 32) X f_X5_21 rfl rfl dX5_init_32 (by repeat (first | exact mu_self | assumption | refine (mu_ne (by omega)).trans ?_)) (by first | rfl | assumption | decide | simp [narrow]) (by first | rfl | assumption) (Nat.le_of_ble_eq_true rfl) ?_
  refine r_aload_n (pc := 35) X dX5_init_35 rfl ?_
  refine c_v X (rV (pc := 36) (ci := 5) X l_X5_24 (t5_reset (T := fun _ => 0) ⟨(by repeat (first | exact mu_self | assumption | refine (mu_ne (by omega)).trans ?_)), (by repeat (first | exact mu_self | assumption | refine (mu_ne (by omega)).trans ?_)), (by repeat (first | exact mu_self | assumption | refine (mu_ne (by omega)).trans ?_)), (by repeat (first | exact mu_self | assumption | refine (mu_ne (by omega)).trans ?_)), (by repeat (first | exact mu_self | assumption | refine (mu_ne (by omega)).trans ?_))⟩) dX5_init_36 (by repeat (first | exact mu_self | assumption | refine (mu_ne (by omega)).trans ?_)) rfl rfl rfl (Nat.le_of_ble_eq_true rfl) (by decide) (Nat.le_of_ble_eq_true rfl) (Nat.le_of_ble_eq_true rfl)) ?_
  rintro μ1 ⟨k1, k2⟩
  exact r_vret (pc := 39) X dX5_init_39 (⟨k1, fun q hq => (k2 q hq).trans (by repeat (first | rfl | refine (mu_ne (by omega)).trans ?_))⟩)
theorem tI_Past {a : Nat} (h : μ a = some (xO 0 [.int (nI 0), .int (nI 0), .null])) (hs : sz = a + 1) : CT Γ l 2 sz 17 136 mX0_init [.ref a] μ (rv (fun μ' => PastAt Γ μ' a 0 0 (fun _ _ => nI 0) (fun _ _ => nI 0) ∧ Fr a 18 μ μ')) := by
  refine CT.go RX0 rfl "<init>" rfl [some (.ref a), none] rfl (by decide) (Nat.le_of_ble_eq_true rfl) ?_
  intro p e R s m args below meth c X hsz
  refine r_aload_n (pc := 0) X dX0_init_0 rfl ?_
  refine r_objInit (pc := 1) X l_X0_3 dX0_init_1 (by decide) (Nat.le_of_ble_eq_true rfl) ?_
  refine r_aload_n (pc := 4) X dX0_init_4 rfl ?_
  refine r_bipush (pc := 5) (v := nI 8) X dX0_init_5 (by decide) ?_
  refine r_newaS' (pc := 7) X cl_X0_9 dX0_init_7 (by decide) (by omega) (by omega) (a + 1) (by omega) ?_
  first | refine r_putFS (pc := 10) X f_X0_11 rfl rfl dX0_init_10 (by first | rfl | assumption | decide | simp [narrow]) (by first | rfl | assumption) (Nat.le_of_ble_eq_true rfl) ?_ | refine r_putF (pc := 10) X f_X0_11 rfl rfl dX0_init_10 (by repeat (first | exact mu_self | assumption | refine (mu_ne (by omega)).trans ?_)) (by first | rfl | assumption | decide | simp [narrow]) (by first | rfl | assumption) (Nat.le_of_ble_eq_true rfl) ?_
  refine r_iconst (pc := 13) (v := nI 0) X dX0_init_13 (by decide) ?_
  refine r_istore_n (pc := 14) X dX0_init_14 (by decide) rfl ?_
  have key : ∀ (N i : Nat) (f : Nat → Option Nat) (μ1 : MM), i + N = 8 → (∀ j, j < i → f j = some (a + 2 + 2 * j)) → μ1 a = some (xO 0 [.int (nI 0), .int (nI 0), .ref (a + 1)]) → μ1 (a + 1) = some (xS Γ 8 f) → (∀ j, j < i → ScAt Γ μ1 (a + 2 + 2 * j) (fun _ => nI 0) (fun _ => nI 0)) → Fr a 18 μ μ1 → vV Γ p l e R s m args below meth c (vQ Γ s args below 17 136 (rv (fun μ' => PastAt Γ μ' a 0 0 (fun _ _ => nI 0) (fun _ _ => nI 0) ∧ Fr a 18 μ μ'))) 2 (1 + 2 * i) (8 + 16 * i) 15 [some (.ref (a)), some (.int (nI (i)))] [] (μ1) := by
    intro N
    induction N with
    | zero =>
      intro i f μ1 hi hf q0 q1 q2 q3
      have hi2 : i = 8 := by omega
      subst hi2
      refine r_iload_n (pc := 15) X dX0_init_15 rfl ?_
      refine r_bipush (pc := 16) (v := nI 8) X dX0_init_16 (by decide) ?_
      refine r_icmp_geN (pc := 18) X 40 dX0_init_18 (by decide) (by omega) (by omega) (fun _ => ?_) (fun h => absurd (Nat.le_refl _) h)
      refine vV.sub (μ' := mu μ1 (a + 1) (xS Γ 8 (fun i => some (a + 2 + 2 * i)))) (fun H hP => ?_) ?_
      · refine hP.to (fun b e hb => ?_)
        by_cases hq : b = a + 1
        · subst hq
          rw [mu_self] at hb
          cases hb
          refine ⟨_, q1, fun H2 hH => ?_⟩
          have e1 : H2[a + 1]? = some (vp_cell (kcS Γ) (8, .inr (.inr (.inr (.inr f))))) := hH
          show H2[a + 1]? = some (vp_cell (kcS Γ) (8, .inr (.inr (.inr (.inr (fun i => some (a + 2 + 2 * i)))))))
          rw [e1, vp_cell_q, vp_cell_q, arrV_congr (fun j hj => by rw [hf j hj])]
        · rw [mu_ne hq] at hb
          exact ⟨e, hb, fun _ hH => hH⟩
      exact r_vret (pc := 40) X dX0_init_40 (⟨⟨(mu_ne (by omega)).trans q0, mu_self, fun j hj => (q2 j hj).kept (fun q h1 h2 => mu_ne (by omega))⟩, fun q hq => (mu_ne (by omega)).trans (q3 q hq)⟩)
    | succ N ih =>
      intro i f μ1 hi hf q0 q1 q2 q3
      refine r_iload_n (pc := 15) X dX0_init_15 rfl ?_
      refine r_bipush (pc := 16) (v := nI 8) X dX0_init_16 (by decide) ?_
      refine r_icmp_geN (pc := 18) X 40 dX0_init_18 (by decide) (by omega) (by omega) (fun h => absurd h (by omega)) (fun _ => ?_)
      refine r_aload_n (pc := 21) X dX0_init_21 rfl ?_
      apply r_get (pc := 22) X f_X0_11 dX0_init_22
      · repeat (first | exact mu_self | assumption | refine (mu_ne (by omega)).trans ?_)
      · rfl
      refine r_iload_n (pc := 25) X dX0_init_25 rfl ?_
      refine r_new' (pc := 26) X n_X0_9 dX0_init_26 (by omega) (by omega) (a + 2 + 2 * i) (by omega) ?_
      refine r_dup (pc := 29) X dX0_init_29 rfl ?_
      refine c_v X (rIN (pc := 30) X l_X0_17 (tI_Scene (a := a + 2 + 2 * i) mu_self (by omega)) dX0_init_30 rfl rfl (Nat.le_of_ble_eq_true rfl) (by decide) (by omega) (by omega)) ?_
      rintro μ2 ⟨k1, k2⟩
      refine r_sast (pc := 33) X dX0_init_33 ((k2 _ (by omega)).trans ((mu_ne (by omega)).trans q1)) k1.1 (by omega) (by decide) ?_
      refine r_iincN (pc := 34) (b := 1) X dX0_init_34 rfl (by decide) rfl ?_
      refine r_goto (pc := 37) X 15 dX0_init_37 (by decide) ?_
      have := ih (i + 1) (va_up f i (some (a + 2 + 2 * i))) (mu μ2 (a + 1) (xS Γ 8 (va_up f i (some (a + 2 + 2 * i))))) (by omega) (fun j hj => by
        unfold va_up
        by_cases hji : j = i
        · rw [if_pos hji, hji]
        · rw [if_neg hji]; exact hf j (by omega)) ((mu_ne (by omega)).trans ((k2 _ (by omega)).trans ((mu_ne (by omega)).trans q0))) mu_self (fun j hj => by
        by_cases hji : j = i
        · subst hji; exact k1.kept (fun q h1 h2 => mu_ne (by omega))
        · exact (q2 j (by omega)).kept (fun q h1 h2 => (mu_ne (by omega)).trans ((k2 q (by omega)).trans (mu_ne (by omega))))) (fun q hq => (mu_ne (by omega)).trans ((k2 q (by omega)).trans ((mu_ne (by omega)).trans (q3 q hq))))
      have ec : 1 + 2 * i + 1 + 1 = 1 + 2 * (i + 1) := by omega
      have es : 8 + 16 * i + 10 + 6 = 8 + 16 * (i + 1) := by omega
      rw [ec, es]
      exact this
  exact key 8 0 (fun _ => none) _ (by omega) (fun j hj => by omega) mu_self (by repeat (first | exact mu_self | assumption | refine (mu_ne (by omega)).trans ?_)) (fun j hj => by omega) (fun q hq => by repeat (first | rfl | refine (mu_ne (by omega)).trans ?_))
end S31
