section S64
variable {Γ : KK} {p : Program} {l : Launch} {e : Env} {R : Room} {s : State} {m : MethodId} {args : Array Value} {below : List Frame} {meth : Method} {c : Code} {Q : State → Prop} {cc : ByteArray} {ret' : Option FieldType} {nm own : String} {k mc ms nL cells slots pc : Nat} {lv : List (Option Value)} {st : List Value} {μ : MM}
/-- the law's own script -/
theorem r_sld (X : cX Γ p R s m args meth c cc ret' nm own k mc ms nL) {b L j : Nat} {scr : Nat → Int32} (hXs : va_X b L scr s s.heap) (hbl : b < s.heap.size) (hbk : b < kB Γ) (hj : j < L) (hL : L < 2 ^ 31) (hd : decode cc pc = .ok (.iaload, 1)) (kk : vV Γ p l e R s m args below meth c Q nL cells slots (pc + 1) lv (.int (scr j) :: st) μ) : vV Γ p l e R s m args below meth c Q nL cells slots pc lv (.int (nI j) :: .ref b :: st) μ := fun H locs ls h1 h2 h3 h4 => by
  refine va_sld X.1 X.2.1 hXs hbl (A := kA Γ) (Nat.not_le.mpr hbk) h3 (nI_vp hj hL) hd ?_
  rw [nI_clamp (by omega)]
  exact kk H locs ls h1 h2 h3 h4
theorem r_slen0 (X : cX Γ p R s m args meth c cc ret' nm own k mc ms nL) {b L : Nat} {scr : Nat → Int32} (hXs : va_X b L scr s s.heap) (hbl : b < s.heap.size) (hbk : b < kB Γ) (hd : decode cc pc = .ok (.arraylength, 1)) (kk : vV Γ p l e R s m args below meth c Q nL cells slots (pc + 1) lv (.int (nI L) :: st) μ) : vV Γ p l e R s m args below meth c Q nL cells slots pc lv (.ref b :: st) μ := fun H locs ls h1 h2 h3 h4 =>
  va_slen X.1 X.2.1 hXs hbl (A := kA Γ) (Nat.not_le.mpr hbk) h3 hd (kk H locs ls h1 h2 h3 h4)
end S64
/-- the law's walk -/
abbrev lJ (Γ : KK) (p : Program) (l : Launch) (e : Env) (s : State) (m : MethodId) (below : List Frame) (meth : Method) (c : Code) (b pc : Nat) (lv : List (Option Value)) (st : List Value) (μ : MM) : Prop := vV Γ p l e room_1 s m #[Value.ref b] below meth c (lw_Z below #[Value.ref b] s) 4 56 1810 pc lv st μ
abbrev lC (Γ : KK) (p : Program) (s : State) (m : MethodId) (meth : Method) (c : Code) (b : Nat) (nm : String) : Prop := cX Γ p room_1 s m #[Value.ref b] meth c cL_law ret nm RL 10 600000 7302250 4
abbrev lG (Γ : KK) (p : Program) (l : Launch) (e : Env) (s : State) (m : MethodId) (below : List Frame) (meth : Method) (c : Code) (b x i : Nat) : Prop := ∀ (μ' : MM) (T S : Nat → Nat) (un : Nat) (A : Nat → Nat → Nat) (kf : Nat → Bool) (K : Nat → Nat → Nat) (n : Nat) (xs : Nat → Nat) (sn : Nat) (V : Nat → Nat), WC Γ μ' x T S un A kf K n xs sn V → WM Γ μ' (x + 46) T S un A kf K n xs sn V → INV T S un A kf K n xs sn V → lJ Γ p l e s m below meth c b 800 [some (.ref b), some (.ref x), some (.ref (x + 46)), some (.int (nI i))] [] μ'
section S64b
variable {Γ : KK} {p : Program} {l : Launch} {e : Env} {s : State} {m : MethodId} {below : List Frame} {meth : Method} {c : Code} {b L : Nat} {scr : Nat → Int32} {nm : String} {μ : MM} {x i : Nat} {T S : Nat → Nat} {un : Nat} {A : Nat → Nat → Nat} {kf : Nat → Bool} {K : Nat → Nat → Nat} {n : Nat} {xs : Nat → Nat} {sn : Nat} {V : Nat → Nat}
theorem law_write (X : lC Γ p s m meth c b nm) (hXs : va_X b L scr s s.heap) (hbl : b < s.heap.size) (hbk : b < kB Γ) (hL : L ≤ 384) (hi : i + 6 ≤ L) (h : WC Γ μ x T S un A kf K n xs sn V) (hm : WM Γ μ (x + 46) T S un A kf K n xs sn V) (hI : INV T S un A kf K n xs sn V) (go : lG Γ p l e s m below meth c b x i) : lJ Γ p l e s m below meth c b 152 [some (.ref b), some (.ref x), some (.ref (x + 46)), some (.int (nI i))] [] μ := by
  have a0 := h.1
  refine r_aload_n (pc := 152) X dL_law_152 rfl ?_
  refine r_aload_n (pc := 153) X dL_law_153 rfl ?_
  refine r_iload_n (pc := 154) X dL_law_154 rfl ?_
  refine r_iconst (pc := 155) (v := nI 1) X dL_law_155 (by decide) ?_
  first | refine r_iaddN (pc := 156) X dL_law_156 ?_ | refine r_iadd (pc := 156) X dL_law_156 ?_
  refine r_sld (pc := 157) X hXs hbl hbk (by omega) (by omega) dL_law_157 ?_
  refine c_i X (rV (pc := 158) (ci := 6) X l_L_13 (t6_write h hI (scr (i + 1))) dL_law_158 (by repeat (first | exact mu_self | assumption | refine (mu_ne (by omega)).trans ?_)) rfl rfl rfl (Nat.le_of_ble_eq_true rfl) (by decide) (Nat.le_of_ble_eq_true rfl) (Nat.le_of_ble_eq_true rfl)) ?_
  rintro _ μ1 ⟨rfl, h1, hF1⟩
  have hm1 := hm.kept (fun q q1 q2 => hF1 q (by omega))
  obtain ⟨pl, tk, vl, bg, cl, rd, ah, kp, mo, b0, -⟩ := id hm1
  refine r_aload_n (pc := 161) X dL_law_161 rfl ?_
  refine r_aload_n (pc := 162) X dL_law_162 rfl ?_
  refine r_iload_n (pc := 163) X dL_law_163 rfl ?_
  refine r_iconst (pc := 164) (v := nI 1) X dL_law_164 (by decide) ?_
  first | refine r_iaddN (pc := 165) X dL_law_165 ?_ | refine r_iadd (pc := 165) X dL_law_165 ?_
  refine r_sld (pc := 166) X hXs hbl hbk (by omega) (by omega) dL_law_166 ?_
  refine c_i X (rV (pc := 167) (ci := 7) X l_L_17 (t7_write hm1 hI (scr (i + 1))) dL_law_167 (by repeat (first | exact mu_self | assumption | refine (mu_ne (by omega)).trans ?_)) rfl rfl rfl (Nat.le_of_ble_eq_true rfl) (by decide) (Nat.le_of_ble_eq_true rfl) (Nat.le_of_ble_eq_true rfl)) ?_
  rintro _ μ2 ⟨rfl, hm2, hF2⟩
  refine r_icmp_eq (pc := 170) X 800 dL_law_170 (by decide) (fun _ => ?_) (fun q => absurd rfl q)
  exact go _ _ _ _ _ _ _ _ _ _ _ (h1.kept (fun q q1 q2 => hF2 q (by omega))) hm2 (inv_write hI _)
theorem law_erase (X : lC Γ p s m meth c b nm) (hXs : va_X b L scr s s.heap) (hbl : b < s.heap.size) (hbk : b < kB Γ) (hL : L ≤ 384) (hi : i + 6 ≤ L) (h : WC Γ μ x T S un A kf K n xs sn V) (hm : WM Γ μ (x + 46) T S un A kf K n xs sn V) (hI : INV T S un A kf K n xs sn V) (go : lG Γ p l e s m below meth c b x i) : lJ Γ p l e s m below meth c b 175 [some (.ref b), some (.ref x), some (.ref (x + 46)), some (.int (nI i))] [] μ := by
  have a0 := h.1
  refine r_aload_n (pc := 175) X dL_law_175 rfl ?_
  refine c_i X (rV (pc := 176) (ci := 6) X l_L_18 (t6_erase h hI ) dL_law_176 (by repeat (first | exact mu_self | assumption | refine (mu_ne (by omega)).trans ?_)) rfl rfl rfl (Nat.le_of_ble_eq_true rfl) (by decide) (Nat.le_of_ble_eq_true rfl) (Nat.le_of_ble_eq_true rfl)) ?_
  rintro _ μ1 ⟨rfl, h1, hF1⟩
  have hm1 := hm.kept (fun q q1 q2 => hF1 q (by omega))
  obtain ⟨pl, tk, vl, bg, cl, rd, ah, kp, mo, b0, -⟩ := id hm1
  refine r_aload_n (pc := 179) X dL_law_179 rfl ?_
  refine c_i X (rV (pc := 180) (ci := 7) X l_L_22 (t7_erase hm1 hI ) dL_law_180 (by repeat (first | exact mu_self | assumption | refine (mu_ne (by omega)).trans ?_)) rfl rfl rfl (Nat.le_of_ble_eq_true rfl) (by decide) (Nat.le_of_ble_eq_true rfl) (Nat.le_of_ble_eq_true rfl)) ?_
  rintro _ μ2 ⟨rfl, hm2, hF2⟩
  refine r_icmp_eq (pc := 183) X 800 dL_law_183 (by decide) (fun _ => ?_) (fun q => absurd rfl q)
  exact go _ _ _ _ _ _ _ _ _ _ _ (h1.kept (fun q q1 q2 => hF2 q (by omega))) hm2 (inv_erase hI)
theorem law_fault (X : lC Γ p s m meth c b nm) (hXs : va_X b L scr s s.heap) (hbl : b < s.heap.size) (hbk : b < kB Γ) (hL : L ≤ 384) (hi : i + 6 ≤ L) (h : WC Γ μ x T S un A kf K n xs sn V) (hm : WM Γ μ (x + 46) T S un A kf K n xs sn V) (hI : INV T S un A kf K n xs sn V) (go : lG Γ p l e s m below meth c b x i) : lJ Γ p l e s m below meth c b 188 [some (.ref b), some (.ref x), some (.ref (x + 46)), some (.int (nI i))] [] μ := by
  have a0 := h.1
  refine r_aload_n (pc := 188) X dL_law_188 rfl ?_
  refine c_i X (rV (pc := 189) (ci := 6) X l_L_23 (t6_fault h hI ) dL_law_189 (by repeat (first | exact mu_self | assumption | refine (mu_ne (by omega)).trans ?_)) rfl rfl rfl (Nat.le_of_ble_eq_true rfl) (by decide) (Nat.le_of_ble_eq_true rfl) (Nat.le_of_ble_eq_true rfl)) ?_
  rintro _ μ1 ⟨rfl, h1, hF1⟩
  have hm1 := hm.kept (fun q q1 q2 => hF1 q (by omega))
  obtain ⟨pl, tk, vl, bg, cl, rd, ah, kp, mo, b0, -⟩ := id hm1
  refine r_aload_n (pc := 192) X dL_law_192 rfl ?_
  refine c_i X (rV (pc := 193) (ci := 7) X l_L_26 (t7_fault hm1 hI ) dL_law_193 (by repeat (first | exact mu_self | assumption | refine (mu_ne (by omega)).trans ?_)) rfl rfl rfl (Nat.le_of_ble_eq_true rfl) (by decide) (Nat.le_of_ble_eq_true rfl) (Nat.le_of_ble_eq_true rfl)) ?_
  rintro _ μ2 ⟨rfl, hm2, hF2⟩
  refine r_icmp_eq (pc := 196) X 800 dL_law_196 (by decide) (fun _ => ?_) (fun q => absurd rfl q)
  exact go _ _ _ _ _ _ _ _ _ _ _ (h1.kept (fun q q1 q2 => hF2 q (by omega))) hm2 (hI)
theorem law_cave (X : lC Γ p s m meth c b nm) (hXs : va_X b L scr s s.heap) (hbl : b < s.heap.size) (hbk : b < kB Γ) (hL : L ≤ 384) (hi : i + 6 ≤ L) (h : WC Γ μ x T S un A kf K n xs sn V) (hm : WM Γ μ (x + 46) T S un A kf K n xs sn V) (hI : INV T S un A kf K n xs sn V) (go : lG Γ p l e s m below meth c b x i) : lJ Γ p l e s m below meth c b 201 [some (.ref b), some (.ref x), some (.ref (x + 46)), some (.int (nI i))] [] μ := by
  have a0 := h.1
  by_cases hf : (rdT xs n 14 0 T 0 0).1 = 0
  · refine r_aload_n (pc := 201) X dL_law_201 rfl ?_
    refine c_i X (rV (pc := 202) (ci := 6) X l_L_27 (t6_cave1 h hI hf) dL_law_202 (by repeat (first | exact mu_self | assumption | refine (mu_ne (by omega)).trans ?_)) rfl rfl rfl (Nat.le_of_ble_eq_true rfl) (by decide) (Nat.le_of_ble_eq_true rfl) (Nat.le_of_ble_eq_true rfl)) ?_
    rintro _ μ1 ⟨rfl, h1, hF1⟩
    have hm1 := hm.kept (fun q q1 q2 => hF1 q (by omega))
    obtain ⟨pl, tk, vl, bg, cl, rd, ah, kp, mo, b0, -⟩ := id hm1
    refine r_aload_n (pc := 205) X dL_law_205 rfl ?_
    refine c_i X (rV (pc := 206) (ci := 7) X l_L_30 (t7_cave1 hm1 hI hf) dL_law_206 (by repeat (first | exact mu_self | assumption | refine (mu_ne (by omega)).trans ?_)) rfl rfl rfl (Nat.le_of_ble_eq_true rfl) (by decide) (Nat.le_of_ble_eq_true rfl) (Nat.le_of_ble_eq_true rfl)) ?_
    rintro _ μ2 ⟨rfl, hm2, hF2⟩
    refine r_icmp_eq (pc := 209) X 800 dL_law_209 (by decide) (fun _ => ?_) (fun q => absurd rfl q)
    exact go _ _ _ _ _ _ _ _ _ _ _ (h1.kept (fun q q1 q2 => hF2 q (by omega))) hm2 (inv_cave hI)
  · refine r_aload_n (pc := 201) X dL_law_201 rfl ?_
    refine c_i X (rV (pc := 202) (ci := 6) X l_L_27 (t6_cave0 h hI hf) dL_law_202 (by repeat (first | exact mu_self | assumption | refine (mu_ne (by omega)).trans ?_)) rfl rfl rfl (Nat.le_of_ble_eq_true rfl) (by decide) (Nat.le_of_ble_eq_true rfl) (Nat.le_of_ble_eq_true rfl)) ?_
    rintro _ μ1 ⟨rfl, h1, hF1⟩
    have hm1 := hm.kept (fun q q1 q2 => hF1 q (by omega))
    obtain ⟨pl, tk, vl, bg, cl, rd, ah, kp, mo, b0, -⟩ := id hm1
    refine r_aload_n (pc := 205) X dL_law_205 rfl ?_
    refine c_i X (rV (pc := 206) (ci := 7) X l_L_30 (t7_cave0 hm1 hI hf) dL_law_206 (by repeat (first | exact mu_self | assumption | refine (mu_ne (by omega)).trans ?_)) rfl rfl rfl (Nat.le_of_ble_eq_true rfl) (by decide) (Nat.le_of_ble_eq_true rfl) (Nat.le_of_ble_eq_true rfl)) ?_
    rintro _ μ2 ⟨rfl, hm2, hF2⟩
    refine r_icmp_eq (pc := 209) X 800 dL_law_209 (by decide) (fun _ => ?_) (fun q => absurd rfl q)
    exact go _ _ _ _ _ _ _ _ _ _ _ (h1.kept (fun q q1 q2 => hF2 q (by omega))) hm2 (hI)
theorem law_man (X : lC Γ p s m meth c b nm) (hXs : va_X b L scr s s.heap) (hbl : b < s.heap.size) (hbk : b < kB Γ) (hL : L ≤ 384) (hi : i + 6 ≤ L) (h : WC Γ μ x T S un A kf K n xs sn V) (hm : WM Γ μ (x + 46) T S un A kf K n xs sn V) (hI : INV T S un A kf K n xs sn V) (go : lG Γ p l e s m below meth c b x i) : lJ Γ p l e s m below meth c b 214 [some (.ref b), some (.ref x), some (.ref (x + 46)), some (.int (nI i))] [] μ := by
  have a0 := h.1
  refine r_aload_n (pc := 214) X dL_law_214 rfl ?_
  refine r_aload_n (pc := 215) X dL_law_215 rfl ?_
  refine r_iload_n (pc := 216) X dL_law_216 rfl ?_
  refine r_iconst (pc := 217) (v := nI 1) X dL_law_217 (by decide) ?_
  first | refine r_iaddN (pc := 218) X dL_law_218 ?_ | refine r_iadd (pc := 218) X dL_law_218 ?_
  refine r_sld (pc := 219) X hXs hbl hbk (by omega) (by omega) dL_law_219 ?_
  refine r_aload_n (pc := 220) X dL_law_220 rfl ?_
  refine r_iload_n (pc := 221) X dL_law_221 rfl ?_
  refine r_iconst (pc := 222) (v := nI 2) X dL_law_222 (by decide) ?_
  first | refine r_iaddN (pc := 223) X dL_law_223 ?_ | refine r_iadd (pc := 223) X dL_law_223 ?_
  refine r_sld (pc := 224) X hXs hbl hbk (by omega) (by omega) dL_law_224 ?_
  refine c_i X (rV (pc := 225) (ci := 6) X l_L_31 (t6_man h hI (scr (i + 1)) (scr (i + 2))) dL_law_225 (by repeat (first | exact mu_self | assumption | refine (mu_ne (by omega)).trans ?_)) rfl rfl rfl (Nat.le_of_ble_eq_true rfl) (by decide) (Nat.le_of_ble_eq_true rfl) (Nat.le_of_ble_eq_true rfl)) ?_
  rintro _ μq ⟨rfl, hμq⟩
  rw [hμq]
  clear hμq μq
  obtain ⟨pl, tk, vl, bg, cl, rd, ah, kp, mo, b0, -⟩ := id hm
  refine r_aload_n (pc := 228) X dL_law_228 rfl ?_
  refine r_aload_n (pc := 229) X dL_law_229 rfl ?_
  refine r_iload_n (pc := 230) X dL_law_230 rfl ?_
  refine r_iconst (pc := 231) (v := nI 1) X dL_law_231 (by decide) ?_
  first | refine r_iaddN (pc := 232) X dL_law_232 ?_ | refine r_iadd (pc := 232) X dL_law_232 ?_
  refine r_sld (pc := 233) X hXs hbl hbk (by omega) (by omega) dL_law_233 ?_
  refine r_aload_n (pc := 234) X dL_law_234 rfl ?_
  refine r_iload_n (pc := 235) X dL_law_235 rfl ?_
  refine r_iconst (pc := 236) (v := nI 2) X dL_law_236 (by decide) ?_
  first | refine r_iaddN (pc := 237) X dL_law_237 ?_ | refine r_iadd (pc := 237) X dL_law_237 ?_
  refine r_sld (pc := 238) X hXs hbl hbk (by omega) (by omega) dL_law_238 ?_
  refine c_i X (rV (pc := 239) (ci := 7) X l_L_35 (t7_man hm hI (scr (i + 1)) (scr (i + 2))) dL_law_239 (by repeat (first | exact mu_self | assumption | refine (mu_ne (by omega)).trans ?_)) rfl rfl rfl (Nat.le_of_ble_eq_true rfl) (by decide) (Nat.le_of_ble_eq_true rfl) (Nat.le_of_ble_eq_true rfl)) ?_
  rintro _ μq ⟨rfl, hμq⟩
  rw [hμq]
  clear hμq μq
  refine r_icmp_eq (pc := 242) X 800 dL_law_242 (by decide) (fun _ => ?_) (fun q => absurd rfl q)
  exact go _ _ _ _ _ _ _ _ _ _ _ h hm hI
theorem law_sheep (X : lC Γ p s m meth c b nm) (hXs : va_X b L scr s s.heap) (hbl : b < s.heap.size) (hbk : b < kB Γ) (hL : L ≤ 384) (hi : i + 6 ≤ L) (h : WC Γ μ x T S un A kf K n xs sn V) (hm : WM Γ μ (x + 46) T S un A kf K n xs sn V) (hI : INV T S un A kf K n xs sn V) (go : lG Γ p l e s m below meth c b x i) : lJ Γ p l e s m below meth c b 247 [some (.ref b), some (.ref x), some (.ref (x + 46)), some (.int (nI i))] [] μ := by
  have a0 := h.1
  refine r_aload_n (pc := 247) X dL_law_247 rfl ?_
  refine r_aload_n (pc := 248) X dL_law_248 rfl ?_
  refine r_iload_n (pc := 249) X dL_law_249 rfl ?_
  refine r_iconst (pc := 250) (v := nI 1) X dL_law_250 (by decide) ?_
  first | refine r_iaddN (pc := 251) X dL_law_251 ?_ | refine r_iadd (pc := 251) X dL_law_251 ?_
  refine r_sld (pc := 252) X hXs hbl hbk (by omega) (by omega) dL_law_252 ?_
  refine r_aload_n (pc := 253) X dL_law_253 rfl ?_
  refine r_iload_n (pc := 254) X dL_law_254 rfl ?_
  refine r_iconst (pc := 255) (v := nI 2) X dL_law_255 (by decide) ?_
  first | refine r_iaddN (pc := 256) X dL_law_256 ?_ | refine r_iadd (pc := 256) X dL_law_256 ?_
  refine r_sld (pc := 257) X hXs hbl hbk (by omega) (by omega) dL_law_257 ?_
  refine c_i X (rV (pc := 258) (ci := 6) X l_L_36 (t6_sheep h hI (scr (i + 1)) (scr (i + 2))) dL_law_258 (by repeat (first | exact mu_self | assumption | refine (mu_ne (by omega)).trans ?_)) rfl rfl rfl (Nat.le_of_ble_eq_true rfl) (by decide) (Nat.le_of_ble_eq_true rfl) (Nat.le_of_ble_eq_true rfl)) ?_
  rintro _ μq ⟨rfl, hμq⟩
  rw [hμq]
  clear hμq μq
  obtain ⟨pl, tk, vl, bg, cl, rd, ah, kp, mo, b0, -⟩ := id hm
  refine r_aload_n (pc := 261) X dL_law_261 rfl ?_
  refine r_aload_n (pc := 262) X dL_law_262 rfl ?_
  refine r_iload_n (pc := 263) X dL_law_263 rfl ?_
  refine r_iconst (pc := 264) (v := nI 1) X dL_law_264 (by decide) ?_
  first | refine r_iaddN (pc := 265) X dL_law_265 ?_ | refine r_iadd (pc := 265) X dL_law_265 ?_
  refine r_sld (pc := 266) X hXs hbl hbk (by omega) (by omega) dL_law_266 ?_
  refine r_aload_n (pc := 267) X dL_law_267 rfl ?_
  refine r_iload_n (pc := 268) X dL_law_268 rfl ?_
  refine r_iconst (pc := 269) (v := nI 2) X dL_law_269 (by decide) ?_
  first | refine r_iaddN (pc := 270) X dL_law_270 ?_ | refine r_iadd (pc := 270) X dL_law_270 ?_
  refine r_sld (pc := 271) X hXs hbl hbk (by omega) (by omega) dL_law_271 ?_
  refine c_i X (rV (pc := 272) (ci := 7) X l_L_39 (t7_sheep hm hI (scr (i + 1)) (scr (i + 2))) dL_law_272 (by repeat (first | exact mu_self | assumption | refine (mu_ne (by omega)).trans ?_)) rfl rfl rfl (Nat.le_of_ble_eq_true rfl) (by decide) (Nat.le_of_ble_eq_true rfl) (Nat.le_of_ble_eq_true rfl)) ?_
  rintro _ μq ⟨rfl, hμq⟩
  rw [hμq]
  clear hμq μq
  refine r_icmp_eq (pc := 275) X 800 dL_law_275 (by decide) (fun _ => ?_) (fun q => absurd rfl q)
  exact go _ _ _ _ _ _ _ _ _ _ _ h hm hI
theorem law_near (X : lC Γ p s m meth c b nm) (hXs : va_X b L scr s s.heap) (hbl : b < s.heap.size) (hbk : b < kB Γ) (hL : L ≤ 384) (hi : i + 6 ≤ L) (h : WC Γ μ x T S un A kf K n xs sn V) (hm : WM Γ μ (x + 46) T S un A kf K n xs sn V) (hI : INV T S un A kf K n xs sn V) (go : lG Γ p l e s m below meth c b x i) : lJ Γ p l e s m below meth c b 280 [some (.ref b), some (.ref x), some (.ref (x + 46)), some (.int (nI i))] [] μ := by
  have a0 := h.1
  refine r_aload_n (pc := 280) X dL_law_280 rfl ?_
  refine r_aload_n (pc := 281) X dL_law_281 rfl ?_
  refine r_iload_n (pc := 282) X dL_law_282 rfl ?_
  refine r_iconst (pc := 283) (v := nI 1) X dL_law_283 (by decide) ?_
  first | refine r_iaddN (pc := 284) X dL_law_284 ?_ | refine r_iadd (pc := 284) X dL_law_284 ?_
  refine r_sld (pc := 285) X hXs hbl hbk (by omega) (by omega) dL_law_285 ?_
  refine c_i X (rV (pc := 286) (ci := 6) X l_L_40 (t6_near h hI (scr (i + 1))) dL_law_286 (by repeat (first | exact mu_self | assumption | refine (mu_ne (by omega)).trans ?_)) rfl rfl rfl (Nat.le_of_ble_eq_true rfl) (by decide) (Nat.le_of_ble_eq_true rfl) (Nat.le_of_ble_eq_true rfl)) ?_
  rintro _ μq ⟨rfl, hμq⟩
  rw [hμq]
  clear hμq μq
  obtain ⟨pl, tk, vl, bg, cl, rd, ah, kp, mo, b0, -⟩ := id hm
  refine r_aload_n (pc := 289) X dL_law_289 rfl ?_
  refine r_aload_n (pc := 290) X dL_law_290 rfl ?_
  refine r_iload_n (pc := 291) X dL_law_291 rfl ?_
  refine r_iconst (pc := 292) (v := nI 1) X dL_law_292 (by decide) ?_
  first | refine r_iaddN (pc := 293) X dL_law_293 ?_ | refine r_iadd (pc := 293) X dL_law_293 ?_
  refine r_sld (pc := 294) X hXs hbl hbk (by omega) (by omega) dL_law_294 ?_
  refine c_i X (rV (pc := 295) (ci := 7) X l_L_43 (t7_near hm hI (scr (i + 1))) dL_law_295 (by repeat (first | exact mu_self | assumption | refine (mu_ne (by omega)).trans ?_)) rfl rfl rfl (Nat.le_of_ble_eq_true rfl) (by decide) (Nat.le_of_ble_eq_true rfl) (Nat.le_of_ble_eq_true rfl)) ?_
  rintro _ μq ⟨rfl, hμq⟩
  rw [hμq]
  clear hμq μq
  refine r_icmp_eq (pc := 298) X 800 dL_law_298 (by decide) (fun _ => ?_) (fun q => absurd rfl q)
  exact go _ _ _ _ _ _ _ _ _ _ _ h hm hI
theorem law_as (X : lC Γ p s m meth c b nm) (hXs : va_X b L scr s s.heap) (hbl : b < s.heap.size) (hbk : b < kB Γ) (hL : L ≤ 384) (hi : i + 6 ≤ L) (h : WC Γ μ x T S un A kf K n xs sn V) (hm : WM Γ μ (x + 46) T S un A kf K n xs sn V) (hI : INV T S un A kf K n xs sn V) (go : lG Γ p l e s m below meth c b x i) : lJ Γ p l e s m below meth c b 303 [some (.ref b), some (.ref x), some (.ref (x + 46)), some (.int (nI i))] [] μ := by
  have a0 := h.1
  refine r_aload_n (pc := 303) X dL_law_303 rfl ?_
  refine r_aload_n (pc := 304) X dL_law_304 rfl ?_
  refine r_iload_n (pc := 305) X dL_law_305 rfl ?_
  refine r_iconst (pc := 306) (v := nI 1) X dL_law_306 (by decide) ?_
  first | refine r_iaddN (pc := 307) X dL_law_307 ?_ | refine r_iadd (pc := 307) X dL_law_307 ?_
  refine r_sld (pc := 308) X hXs hbl hbk (by omega) (by omega) dL_law_308 ?_
  refine r_aload_n (pc := 309) X dL_law_309 rfl ?_
  refine r_iload_n (pc := 310) X dL_law_310 rfl ?_
  refine r_iconst (pc := 311) (v := nI 2) X dL_law_311 (by decide) ?_
  first | refine r_iaddN (pc := 312) X dL_law_312 ?_ | refine r_iadd (pc := 312) X dL_law_312 ?_
  refine r_sld (pc := 313) X hXs hbl hbk (by omega) (by omega) dL_law_313 ?_
  refine c_i X (rV (pc := 314) (ci := 6) X l_L_44 (t6_as h hI (scr (i + 1)) (scr (i + 2))) dL_law_314 (by repeat (first | exact mu_self | assumption | refine (mu_ne (by omega)).trans ?_)) rfl rfl rfl (Nat.le_of_ble_eq_true rfl) (by decide) (Nat.le_of_ble_eq_true rfl) (Nat.le_of_ble_eq_true rfl)) ?_
  rintro _ μq ⟨rfl, hμq⟩
  rw [hμq]
  clear hμq μq
  obtain ⟨pl, tk, vl, bg, cl, rd, ah, kp, mo, b0, -⟩ := id hm
  refine r_aload_n (pc := 317) X dL_law_317 rfl ?_
  refine r_aload_n (pc := 318) X dL_law_318 rfl ?_
  refine r_iload_n (pc := 319) X dL_law_319 rfl ?_
  refine r_iconst (pc := 320) (v := nI 1) X dL_law_320 (by decide) ?_
  first | refine r_iaddN (pc := 321) X dL_law_321 ?_ | refine r_iadd (pc := 321) X dL_law_321 ?_
  refine r_sld (pc := 322) X hXs hbl hbk (by omega) (by omega) dL_law_322 ?_
  refine r_aload_n (pc := 323) X dL_law_323 rfl ?_
  refine r_iload_n (pc := 324) X dL_law_324 rfl ?_
  refine r_iconst (pc := 325) (v := nI 2) X dL_law_325 (by decide) ?_
  first | refine r_iaddN (pc := 326) X dL_law_326 ?_ | refine r_iadd (pc := 326) X dL_law_326 ?_
  refine r_sld (pc := 327) X hXs hbl hbk (by omega) (by omega) dL_law_327 ?_
  refine c_i X (rV (pc := 328) (ci := 7) X l_L_47 (t7_as hm hI (scr (i + 1)) (scr (i + 2))) dL_law_328 (by repeat (first | exact mu_self | assumption | refine (mu_ne (by omega)).trans ?_)) rfl rfl rfl (Nat.le_of_ble_eq_true rfl) (by decide) (Nat.le_of_ble_eq_true rfl) (Nat.le_of_ble_eq_true rfl)) ?_
  rintro _ μq ⟨rfl, hμq⟩
  rw [hμq]
  clear hμq μq
  refine r_icmp_eq (pc := 331) X 800 dL_law_331 (by decide) (fun _ => ?_) (fun q => absurd rfl q)
  exact go _ _ _ _ _ _ _ _ _ _ _ h hm hI
theorem law_give (X : lC Γ p s m meth c b nm) (hXs : va_X b L scr s s.heap) (hbl : b < s.heap.size) (hbk : b < kB Γ) (hL : L ≤ 384) (hi : i + 6 ≤ L) (h : WC Γ μ x T S un A kf K n xs sn V) (hm : WM Γ μ (x + 46) T S un A kf K n xs sn V) (hI : INV T S un A kf K n xs sn V) (go : lG Γ p l e s m below meth c b x i) : lJ Γ p l e s m below meth c b 336 [some (.ref b), some (.ref x), some (.ref (x + 46)), some (.int (nI i))] [] μ := by
  have a0 := h.1
  refine r_aload_n (pc := 336) X dL_law_336 rfl ?_
  refine r_aload_n (pc := 337) X dL_law_337 rfl ?_
  refine r_iload_n (pc := 338) X dL_law_338 rfl ?_
  refine r_iconst (pc := 339) (v := nI 1) X dL_law_339 (by decide) ?_
  first | refine r_iaddN (pc := 340) X dL_law_340 ?_ | refine r_iadd (pc := 340) X dL_law_340 ?_
  refine r_sld (pc := 341) X hXs hbl hbk (by omega) (by omega) dL_law_341 ?_
  refine c_i X (rV (pc := 342) (ci := 6) X l_L_48 (t6_give h hI (scr (i + 1))) dL_law_342 (by repeat (first | exact mu_self | assumption | refine (mu_ne (by omega)).trans ?_)) rfl rfl rfl (Nat.le_of_ble_eq_true rfl) (by decide) (Nat.le_of_ble_eq_true rfl) (Nat.le_of_ble_eq_true rfl)) ?_
  rintro _ μ1 ⟨rfl, h1, hF1⟩
  have hm1 := hm.kept (fun q q1 q2 => hF1 q (by omega))
  obtain ⟨pl, tk, vl, bg, cl, rd, ah, kp, mo, b0, -⟩ := id hm1
  refine r_aload_n (pc := 345) X dL_law_345 rfl ?_
  refine r_aload_n (pc := 346) X dL_law_346 rfl ?_
  refine r_iload_n (pc := 347) X dL_law_347 rfl ?_
  refine r_iconst (pc := 348) (v := nI 1) X dL_law_348 (by decide) ?_
  first | refine r_iaddN (pc := 349) X dL_law_349 ?_ | refine r_iadd (pc := 349) X dL_law_349 ?_
  refine r_sld (pc := 350) X hXs hbl hbk (by omega) (by omega) dL_law_350 ?_
  refine c_i X (rV (pc := 351) (ci := 7) X l_L_51 (t7_give hm1 hI (scr (i + 1))) dL_law_351 (by repeat (first | exact mu_self | assumption | refine (mu_ne (by omega)).trans ?_)) rfl rfl rfl (Nat.le_of_ble_eq_true rfl) (by decide) (Nat.le_of_ble_eq_true rfl) (Nat.le_of_ble_eq_true rfl)) ?_
  rintro _ μ2 ⟨rfl, hm2, hF2⟩
  refine r_icmp_eq (pc := 354) X 800 dL_law_354 (by decide) (fun _ => ?_) (fun q => absurd rfl q)
  exact go _ _ _ _ _ _ _ _ _ _ _ (h1.kept (fun q q1 q2 => hF2 q (by omega))) hm2 (inv_give hI _)
theorem law_day (X : lC Γ p s m meth c b nm) (hXs : va_X b L scr s s.heap) (hbl : b < s.heap.size) (hbk : b < kB Γ) (hL : L ≤ 384) (hi : i + 6 ≤ L) (h : WC Γ μ x T S un A kf K n xs sn V) (hm : WM Γ μ (x + 46) T S un A kf K n xs sn V) (hI : INV T S un A kf K n xs sn V) (go : lG Γ p l e s m below meth c b x i) : lJ Γ p l e s m below meth c b 359 [some (.ref b), some (.ref x), some (.ref (x + 46)), some (.int (nI i))] [] μ := by
  have a0 := h.1
  refine r_aload_n (pc := 359) X dL_law_359 rfl ?_
  refine c_i X (rV (pc := 360) (ci := 6) X l_L_52 (t6_day h hI ) dL_law_360 (by repeat (first | exact mu_self | assumption | refine (mu_ne (by omega)).trans ?_)) rfl rfl rfl (Nat.le_of_ble_eq_true rfl) (by decide) (Nat.le_of_ble_eq_true rfl) (Nat.le_of_ble_eq_true rfl)) ?_
  rintro _ μ1 ⟨rfl, h1, hF1⟩
  have hm1 := hm.kept (fun q q1 q2 => hF1 q (by omega))
  obtain ⟨pl, tk, vl, bg, cl, rd, ah, kp, mo, b0, -⟩ := id hm1
  refine r_aload_n (pc := 363) X dL_law_363 rfl ?_
  refine c_i X (rV (pc := 364) (ci := 7) X l_L_55 (t7_day hm1 hI ) dL_law_364 (by repeat (first | exact mu_self | assumption | refine (mu_ne (by omega)).trans ?_)) rfl rfl rfl (Nat.le_of_ble_eq_true rfl) (by decide) (Nat.le_of_ble_eq_true rfl) (Nat.le_of_ble_eq_true rfl)) ?_
  rintro _ μ2 ⟨rfl, hm2, hF2⟩
  refine r_icmp_eq (pc := 367) X 800 dL_law_367 (by decide) (fun _ => ?_) (fun q => absurd rfl q)
  exact go _ _ _ _ _ _ _ _ _ _ _ (h1.kept (fun q q1 q2 => hF2 q (by omega))) hm2 (inv_day hI)
theorem law_blind (X : lC Γ p s m meth c b nm) (hXs : va_X b L scr s s.heap) (hbl : b < s.heap.size) (hbk : b < kB Γ) (hL : L ≤ 384) (hi : i + 6 ≤ L) (h : WC Γ μ x T S un A kf K n xs sn V) (hm : WM Γ μ (x + 46) T S un A kf K n xs sn V) (hI : INV T S un A kf K n xs sn V) (go : lG Γ p l e s m below meth c b x i) : lJ Γ p l e s m below meth c b 372 [some (.ref b), some (.ref x), some (.ref (x + 46)), some (.int (nI i))] [] μ := by
  have a0 := h.1
  refine r_aload_n (pc := 372) X dL_law_372 rfl ?_
  refine r_aload_n (pc := 373) X dL_law_373 rfl ?_
  refine r_iload_n (pc := 374) X dL_law_374 rfl ?_
  refine r_iconst (pc := 375) (v := nI 1) X dL_law_375 (by decide) ?_
  first | refine r_iaddN (pc := 376) X dL_law_376 ?_ | refine r_iadd (pc := 376) X dL_law_376 ?_
  refine r_sld (pc := 377) X hXs hbl hbk (by omega) (by omega) dL_law_377 ?_
  refine c_i X (rV (pc := 378) (ci := 6) X l_L_56 (t6_blind h hI (scr (i + 1))) dL_law_378 (by repeat (first | exact mu_self | assumption | refine (mu_ne (by omega)).trans ?_)) rfl rfl rfl (Nat.le_of_ble_eq_true rfl) (by decide) (Nat.le_of_ble_eq_true rfl) (Nat.le_of_ble_eq_true rfl)) ?_
  rintro _ μ1 ⟨rfl, h1, hF1⟩
  have hm1 := hm.kept (fun q q1 q2 => hF1 q (by omega))
  obtain ⟨pl, tk, vl, bg, cl, rd, ah, kp, mo, b0, -⟩ := id hm1
  refine r_aload_n (pc := 381) X dL_law_381 rfl ?_
  refine r_aload_n (pc := 382) X dL_law_382 rfl ?_
  refine r_iload_n (pc := 383) X dL_law_383 rfl ?_
  refine r_iconst (pc := 384) (v := nI 1) X dL_law_384 (by decide) ?_
  first | refine r_iaddN (pc := 385) X dL_law_385 ?_ | refine r_iadd (pc := 385) X dL_law_385 ?_
  refine r_sld (pc := 386) X hXs hbl hbk (by omega) (by omega) dL_law_386 ?_
  refine c_i X (rV (pc := 387) (ci := 7) X l_L_59 (t7_blind hm1 hI (scr (i + 1))) dL_law_387 (by repeat (first | exact mu_self | assumption | refine (mu_ne (by omega)).trans ?_)) rfl rfl rfl (Nat.le_of_ble_eq_true rfl) (by decide) (Nat.le_of_ble_eq_true rfl) (Nat.le_of_ble_eq_true rfl)) ?_
  rintro _ μ2 ⟨rfl, hm2, hF2⟩
  refine r_icmp_eq (pc := 390) X 800 dL_law_390 (by decide) (fun _ => ?_) (fun q => absurd rfl q)
  exact go _ _ _ _ _ _ _ _ _ _ _ (h1.kept (fun q q1 q2 => hF2 q (by omega))) hm2 (inv_blind hI _)
theorem law_hide (X : lC Γ p s m meth c b nm) (hXs : va_X b L scr s s.heap) (hbl : b < s.heap.size) (hbk : b < kB Γ) (hL : L ≤ 384) (hi : i + 6 ≤ L) (h : WC Γ μ x T S un A kf K n xs sn V) (hm : WM Γ μ (x + 46) T S un A kf K n xs sn V) (hI : INV T S un A kf K n xs sn V) (go : lG Γ p l e s m below meth c b x i) : lJ Γ p l e s m below meth c b 395 [some (.ref b), some (.ref x), some (.ref (x + 46)), some (.int (nI i))] [] μ := by
  have a0 := h.1
  refine r_aload_n (pc := 395) X dL_law_395 rfl ?_
  refine r_aload_n (pc := 396) X dL_law_396 rfl ?_
  refine r_iload_n (pc := 397) X dL_law_397 rfl ?_
  refine r_iconst (pc := 398) (v := nI 1) X dL_law_398 (by decide) ?_
  first | refine r_iaddN (pc := 399) X dL_law_399 ?_ | refine r_iadd (pc := 399) X dL_law_399 ?_
  refine r_sld (pc := 400) X hXs hbl hbk (by omega) (by omega) dL_law_400 ?_
  refine r_aload_n (pc := 401) X dL_law_401 rfl ?_
  refine r_iload_n (pc := 402) X dL_law_402 rfl ?_
  refine r_iconst (pc := 403) (v := nI 2) X dL_law_403 (by decide) ?_
  first | refine r_iaddN (pc := 404) X dL_law_404 ?_ | refine r_iadd (pc := 404) X dL_law_404 ?_
  refine r_sld (pc := 405) X hXs hbl hbk (by omega) (by omega) dL_law_405 ?_
  refine c_i X (rV (pc := 406) (ci := 6) X l_L_60 (t6_hide h hI (scr (i + 1)) (scr (i + 2))) dL_law_406 (by repeat (first | exact mu_self | assumption | refine (mu_ne (by omega)).trans ?_)) rfl rfl rfl (Nat.le_of_ble_eq_true rfl) (by decide) (Nat.le_of_ble_eq_true rfl) (Nat.le_of_ble_eq_true rfl)) ?_
  rintro _ μ1 ⟨rfl, h1, hF1⟩
  have hm1 := hm.kept (fun q q1 q2 => hF1 q (by omega))
  obtain ⟨pl, tk, vl, bg, cl, rd, ah, kp, mo, b0, -⟩ := id hm1
  refine r_aload_n (pc := 409) X dL_law_409 rfl ?_
  refine r_aload_n (pc := 410) X dL_law_410 rfl ?_
  refine r_iload_n (pc := 411) X dL_law_411 rfl ?_
  refine r_iconst (pc := 412) (v := nI 1) X dL_law_412 (by decide) ?_
  first | refine r_iaddN (pc := 413) X dL_law_413 ?_ | refine r_iadd (pc := 413) X dL_law_413 ?_
  refine r_sld (pc := 414) X hXs hbl hbk (by omega) (by omega) dL_law_414 ?_
  refine r_aload_n (pc := 415) X dL_law_415 rfl ?_
  refine r_iload_n (pc := 416) X dL_law_416 rfl ?_
  refine r_iconst (pc := 417) (v := nI 2) X dL_law_417 (by decide) ?_
  first | refine r_iaddN (pc := 418) X dL_law_418 ?_ | refine r_iadd (pc := 418) X dL_law_418 ?_
  refine r_sld (pc := 419) X hXs hbl hbk (by omega) (by omega) dL_law_419 ?_
  refine c_i X (rV (pc := 420) (ci := 7) X l_L_63 (t7_hide hm1 hI (scr (i + 1)) (scr (i + 2))) dL_law_420 (by repeat (first | exact mu_self | assumption | refine (mu_ne (by omega)).trans ?_)) rfl rfl rfl (Nat.le_of_ble_eq_true rfl) (by decide) (Nat.le_of_ble_eq_true rfl) (Nat.le_of_ble_eq_true rfl)) ?_
  rintro _ μ2 ⟨rfl, hm2, hF2⟩
  refine r_icmp_eq (pc := 423) X 800 dL_law_423 (by decide) (fun _ => ?_) (fun q => absurd rfl q)
  exact go _ _ _ _ _ _ _ _ _ _ _ (h1.kept (fun q q1 q2 => hF2 q (by omega))) hm2 (inv_hide hI _ _)
theorem law_morning (X : lC Γ p s m meth c b nm) (hXs : va_X b L scr s s.heap) (hbl : b < s.heap.size) (hbk : b < kB Γ) (hL : L ≤ 384) (hi : i + 6 ≤ L) (h : WC Γ μ x T S un A kf K n xs sn V) (hm : WM Γ μ (x + 46) T S un A kf K n xs sn V) (hI : INV T S un A kf K n xs sn V) (go : lG Γ p l e s m below meth c b x i) : lJ Γ p l e s m below meth c b 428 [some (.ref b), some (.ref x), some (.ref (x + 46)), some (.int (nI i))] [] μ := by
  have a0 := h.1
  refine r_aload_n (pc := 428) X dL_law_428 rfl ?_
  refine c_i X (rV (pc := 429) (ci := 6) X l_L_64 (t6_morning h hI ) dL_law_429 (by repeat (first | exact mu_self | assumption | refine (mu_ne (by omega)).trans ?_)) rfl rfl rfl (Nat.le_of_ble_eq_true rfl) (by decide) (Nat.le_of_ble_eq_true rfl) (Nat.le_of_ble_eq_true rfl)) ?_
  rintro _ μ1 ⟨rfl, h1, hF1⟩
  have hm1 := hm.kept (fun q q1 q2 => hF1 q (by omega))
  obtain ⟨pl, tk, vl, bg, cl, rd, ah, kp, mo, b0, -⟩ := id hm1
  refine r_aload_n (pc := 432) X dL_law_432 rfl ?_
  refine c_i X (rV (pc := 433) (ci := 7) X l_L_67 (t7_morning hm1 hI ) dL_law_433 (by repeat (first | exact mu_self | assumption | refine (mu_ne (by omega)).trans ?_)) rfl rfl rfl (Nat.le_of_ble_eq_true rfl) (by decide) (Nat.le_of_ble_eq_true rfl) (Nat.le_of_ble_eq_true rfl)) ?_
  rintro _ μ2 ⟨rfl, hm2, hF2⟩
  refine r_icmp_eq (pc := 436) X 800 dL_law_436 (by decide) (fun _ => ?_) (fun q => absurd rfl q)
  exact go _ _ _ _ _ _ _ _ _ _ _ (h1.kept (fun q q1 q2 => hF2 q (by omega))) hm2 (inv_morning hI)
theorem law_undo (X : lC Γ p s m meth c b nm) (hXs : va_X b L scr s s.heap) (hbl : b < s.heap.size) (hbk : b < kB Γ) (hL : L ≤ 384) (hi : i + 6 ≤ L) (h : WC Γ μ x T S un A kf K n xs sn V) (hm : WM Γ μ (x + 46) T S un A kf K n xs sn V) (hI : INV T S un A kf K n xs sn V) (go : lG Γ p l e s m below meth c b x i) : lJ Γ p l e s m below meth c b 441 [some (.ref b), some (.ref x), some (.ref (x + 46)), some (.int (nI i))] [] μ := by
  have a0 := h.1
  refine r_aload_n (pc := 441) X dL_law_441 rfl ?_
  refine c_i X (rV (pc := 442) (ci := 6) X l_L_68 (t6_undo h hI ) dL_law_442 (by repeat (first | exact mu_self | assumption | refine (mu_ne (by omega)).trans ?_)) rfl rfl rfl (Nat.le_of_ble_eq_true rfl) (by decide) (Nat.le_of_ble_eq_true rfl) (Nat.le_of_ble_eq_true rfl)) ?_
  rintro _ μ1 ⟨rfl, h1, hF1⟩
  have hm1 := hm.kept (fun q q1 q2 => hF1 q (by omega))
  obtain ⟨pl, tk, vl, bg, cl, rd, ah, kp, mo, b0, -⟩ := id hm1
  refine r_aload_n (pc := 445) X dL_law_445 rfl ?_
  refine c_i X (rV (pc := 446) (ci := 7) X l_L_71 (t7_undo hm1 hI ) dL_law_446 (by repeat (first | exact mu_self | assumption | refine (mu_ne (by omega)).trans ?_)) rfl rfl rfl (Nat.le_of_ble_eq_true rfl) (by decide) (Nat.le_of_ble_eq_true rfl) (Nat.le_of_ble_eq_true rfl)) ?_
  rintro _ μ2 ⟨rfl, hm2, hF2⟩
  refine r_icmp_eq (pc := 449) X 800 dL_law_449 (by decide) (fun _ => ?_) (fun q => absurd rfl q)
  exact go _ _ _ _ _ _ _ _ _ _ _ (h1.kept (fun q q1 q2 => hF2 q (by omega))) hm2 (inv_undo hI)
theorem law_keep (X : lC Γ p s m meth c b nm) (hXs : va_X b L scr s s.heap) (hbl : b < s.heap.size) (hbk : b < kB Γ) (hL : L ≤ 384) (hi : i + 6 ≤ L) (h : WC Γ μ x T S un A kf K n xs sn V) (hm : WM Γ μ (x + 46) T S un A kf K n xs sn V) (hI : INV T S un A kf K n xs sn V) (go : lG Γ p l e s m below meth c b x i) : lJ Γ p l e s m below meth c b 454 [some (.ref b), some (.ref x), some (.ref (x + 46)), some (.int (nI i))] [] μ := by
  have a0 := h.1
  refine r_aload_n (pc := 454) X dL_law_454 rfl ?_
  refine r_aload_n (pc := 455) X dL_law_455 rfl ?_
  refine r_iload_n (pc := 456) X dL_law_456 rfl ?_
  refine r_iconst (pc := 457) (v := nI 1) X dL_law_457 (by decide) ?_
  first | refine r_iaddN (pc := 458) X dL_law_458 ?_ | refine r_iadd (pc := 458) X dL_law_458 ?_
  refine r_sld (pc := 459) X hXs hbl hbk (by omega) (by omega) dL_law_459 ?_
  refine c_i X (rV (pc := 460) (ci := 6) X l_L_72 (t6_keep h hI (scr (i + 1))) dL_law_460 (by repeat (first | exact mu_self | assumption | refine (mu_ne (by omega)).trans ?_)) rfl rfl rfl (Nat.le_of_ble_eq_true rfl) (by decide) (Nat.le_of_ble_eq_true rfl) (Nat.le_of_ble_eq_true rfl)) ?_
  rintro _ μ1 ⟨rfl, h1, hF1⟩
  have hm1 := hm.kept (fun q q1 q2 => hF1 q (by omega))
  obtain ⟨pl, tk, vl, bg, cl, rd, ah, kp, mo, b0, -⟩ := id hm1
  refine r_aload_n (pc := 463) X dL_law_463 rfl ?_
  refine r_aload_n (pc := 464) X dL_law_464 rfl ?_
  refine r_iload_n (pc := 465) X dL_law_465 rfl ?_
  refine r_iconst (pc := 466) (v := nI 1) X dL_law_466 (by decide) ?_
  first | refine r_iaddN (pc := 467) X dL_law_467 ?_ | refine r_iadd (pc := 467) X dL_law_467 ?_
  refine r_sld (pc := 468) X hXs hbl hbk (by omega) (by omega) dL_law_468 ?_
  refine c_i X (rV (pc := 469) (ci := 7) X l_L_75 (t7_keep hm1 hI (scr (i + 1))) dL_law_469 (by repeat (first | exact mu_self | assumption | refine (mu_ne (by omega)).trans ?_)) rfl rfl rfl (Nat.le_of_ble_eq_true rfl) (by decide) (Nat.le_of_ble_eq_true rfl) (Nat.le_of_ble_eq_true rfl)) ?_
  rintro _ μ2 ⟨rfl, hm2, hF2⟩
  refine r_icmp_eq (pc := 472) X 800 dL_law_472 (by decide) (fun _ => ?_) (fun q => absurd rfl q)
  exact go _ _ _ _ _ _ _ _ _ _ _ (h1.kept (fun q q1 q2 => hF2 q (by omega))) hm2 (inv_keep hI _)
theorem law_back (X : lC Γ p s m meth c b nm) (hXs : va_X b L scr s s.heap) (hbl : b < s.heap.size) (hbk : b < kB Γ) (hL : L ≤ 384) (hi : i + 6 ≤ L) (h : WC Γ μ x T S un A kf K n xs sn V) (hm : WM Γ μ (x + 46) T S un A kf K n xs sn V) (hI : INV T S un A kf K n xs sn V) (go : lG Γ p l e s m below meth c b x i) : lJ Γ p l e s m below meth c b 477 [some (.ref b), some (.ref x), some (.ref (x + 46)), some (.int (nI i))] [] μ := by
  have a0 := h.1
  refine r_aload_n (pc := 477) X dL_law_477 rfl ?_
  refine r_aload_n (pc := 478) X dL_law_478 rfl ?_
  refine r_iload_n (pc := 479) X dL_law_479 rfl ?_
  refine r_iconst (pc := 480) (v := nI 1) X dL_law_480 (by decide) ?_
  first | refine r_iaddN (pc := 481) X dL_law_481 ?_ | refine r_iadd (pc := 481) X dL_law_481 ?_
  refine r_sld (pc := 482) X hXs hbl hbk (by omega) (by omega) dL_law_482 ?_
  refine c_i X (rV (pc := 483) (ci := 6) X l_L_76 (t6_back h hI (scr (i + 1))) dL_law_483 (by repeat (first | exact mu_self | assumption | refine (mu_ne (by omega)).trans ?_)) rfl rfl rfl (Nat.le_of_ble_eq_true rfl) (by decide) (Nat.le_of_ble_eq_true rfl) (Nat.le_of_ble_eq_true rfl)) ?_
  rintro _ μ1 ⟨rfl, h1, hF1⟩
  have hm1 := hm.kept (fun q q1 q2 => hF1 q (by omega))
  obtain ⟨pl, tk, vl, bg, cl, rd, ah, kp, mo, b0, -⟩ := id hm1
  refine r_aload_n (pc := 486) X dL_law_486 rfl ?_
  refine r_aload_n (pc := 487) X dL_law_487 rfl ?_
  refine r_iload_n (pc := 488) X dL_law_488 rfl ?_
  refine r_iconst (pc := 489) (v := nI 1) X dL_law_489 (by decide) ?_
  first | refine r_iaddN (pc := 490) X dL_law_490 ?_ | refine r_iadd (pc := 490) X dL_law_490 ?_
  refine r_sld (pc := 491) X hXs hbl hbk (by omega) (by omega) dL_law_491 ?_
  refine c_i X (rV (pc := 492) (ci := 7) X l_L_79 (t7_back hm1 hI (scr (i + 1))) dL_law_492 (by repeat (first | exact mu_self | assumption | refine (mu_ne (by omega)).trans ?_)) rfl rfl rfl (Nat.le_of_ble_eq_true rfl) (by decide) (Nat.le_of_ble_eq_true rfl) (Nat.le_of_ble_eq_true rfl)) ?_
  rintro _ μ2 ⟨rfl, hm2, hF2⟩
  refine r_icmp_eq (pc := 495) X 800 dL_law_495 (by decide) (fun _ => ?_) (fun q => absurd rfl q)
  exact go _ _ _ _ _ _ _ _ _ _ _ (h1.kept (fun q q1 q2 => hF2 q (by omega))) hm2 (inv_back hI _)
theorem law_soon (X : lC Γ p s m meth c b nm) (hXs : va_X b L scr s s.heap) (hbl : b < s.heap.size) (hbk : b < kB Γ) (hL : L ≤ 384) (hi : i + 6 ≤ L) (h : WC Γ μ x T S un A kf K n xs sn V) (hm : WM Γ μ (x + 46) T S un A kf K n xs sn V) (hI : INV T S un A kf K n xs sn V) (go : lG Γ p l e s m below meth c b x i) : lJ Γ p l e s m below meth c b 500 [some (.ref b), some (.ref x), some (.ref (x + 46)), some (.int (nI i))] [] μ := by
  have a0 := h.1
  refine r_aload_n (pc := 500) X dL_law_500 rfl ?_
  refine r_aload_n (pc := 501) X dL_law_501 rfl ?_
  refine r_iload_n (pc := 502) X dL_law_502 rfl ?_
  refine r_iconst (pc := 503) (v := nI 1) X dL_law_503 (by decide) ?_
  first | refine r_iaddN (pc := 504) X dL_law_504 ?_ | refine r_iadd (pc := 504) X dL_law_504 ?_
  refine r_sld (pc := 505) X hXs hbl hbk (by omega) (by omega) dL_law_505 ?_
  refine c_i X (rV (pc := 506) (ci := 6) X l_L_80 (t6_soon h hI (scr (i + 1))) dL_law_506 (by repeat (first | exact mu_self | assumption | refine (mu_ne (by omega)).trans ?_)) rfl rfl rfl (Nat.le_of_ble_eq_true rfl) (by decide) (Nat.le_of_ble_eq_true rfl) (Nat.le_of_ble_eq_true rfl)) ?_
  rintro _ μq ⟨rfl, hμq⟩
  rw [hμq]
  clear hμq μq
  obtain ⟨pl, tk, vl, bg, cl, rd, ah, kp, mo, b0, -⟩ := id hm
  refine r_aload_n (pc := 509) X dL_law_509 rfl ?_
  refine r_aload_n (pc := 510) X dL_law_510 rfl ?_
  refine r_iload_n (pc := 511) X dL_law_511 rfl ?_
  refine r_iconst (pc := 512) (v := nI 1) X dL_law_512 (by decide) ?_
  first | refine r_iaddN (pc := 513) X dL_law_513 ?_ | refine r_iadd (pc := 513) X dL_law_513 ?_
  refine r_sld (pc := 514) X hXs hbl hbk (by omega) (by omega) dL_law_514 ?_
  refine c_i X (rV (pc := 515) (ci := 7) X l_L_83 (t7_soon hm hI (scr (i + 1))) dL_law_515 (by repeat (first | exact mu_self | assumption | refine (mu_ne (by omega)).trans ?_)) rfl rfl rfl (Nat.le_of_ble_eq_true rfl) (by decide) (Nat.le_of_ble_eq_true rfl) (Nat.le_of_ble_eq_true rfl)) ?_
  rintro _ μq ⟨rfl, hμq⟩
  rw [hμq]
  clear hμq μq
  refine r_icmp_eq (pc := 518) X 800 dL_law_518 (by decide) (fun _ => ?_) (fun q => absurd rfl q)
  exact go _ _ _ _ _ _ _ _ _ _ _ h hm hI
theorem law_plan (X : lC Γ p s m meth c b nm) (hXs : va_X b L scr s s.heap) (hbl : b < s.heap.size) (hbk : b < kB Γ) (hL : L ≤ 384) (hi : i + 6 ≤ L) (h : WC Γ μ x T S un A kf K n xs sn V) (hm : WM Γ μ (x + 46) T S un A kf K n xs sn V) (hI : INV T S un A kf K n xs sn V) (go : lG Γ p l e s m below meth c b x i) : lJ Γ p l e s m below meth c b 523 [some (.ref b), some (.ref x), some (.ref (x + 46)), some (.int (nI i))] [] μ := by
  have a0 := h.1
  refine r_aload_n (pc := 523) X dL_law_523 rfl ?_
  refine r_aload_n (pc := 524) X dL_law_524 rfl ?_
  refine r_iload_n (pc := 525) X dL_law_525 rfl ?_
  refine r_iconst (pc := 526) (v := nI 1) X dL_law_526 (by decide) ?_
  first | refine r_iaddN (pc := 527) X dL_law_527 ?_ | refine r_iadd (pc := 527) X dL_law_527 ?_
  refine r_sld (pc := 528) X hXs hbl hbk (by omega) (by omega) dL_law_528 ?_
  refine c_i X (rV (pc := 529) (ci := 6) X l_L_84 (t6_plan h hI (scr (i + 1))) dL_law_529 (by repeat (first | exact mu_self | assumption | refine (mu_ne (by omega)).trans ?_)) rfl rfl rfl (Nat.le_of_ble_eq_true rfl) (by decide) (Nat.le_of_ble_eq_true rfl) (Nat.le_of_ble_eq_true rfl)) ?_
  rintro _ μ1 ⟨rfl, h1, hF1⟩
  have hm1 := hm.kept (fun q q1 q2 => hF1 q (by omega))
  obtain ⟨pl, tk, vl, bg, cl, rd, ah, kp, mo, b0, -⟩ := id hm1
  refine r_aload_n (pc := 532) X dL_law_532 rfl ?_
  refine r_aload_n (pc := 533) X dL_law_533 rfl ?_
  refine r_iload_n (pc := 534) X dL_law_534 rfl ?_
  refine r_iconst (pc := 535) (v := nI 1) X dL_law_535 (by decide) ?_
  first | refine r_iaddN (pc := 536) X dL_law_536 ?_ | refine r_iadd (pc := 536) X dL_law_536 ?_
  refine r_sld (pc := 537) X hXs hbl hbk (by omega) (by omega) dL_law_537 ?_
  refine c_i X (rV (pc := 538) (ci := 7) X l_L_87 (t7_plan hm1 hI (scr (i + 1))) dL_law_538 (by repeat (first | exact mu_self | assumption | refine (mu_ne (by omega)).trans ?_)) rfl rfl rfl (Nat.le_of_ble_eq_true rfl) (by decide) (Nat.le_of_ble_eq_true rfl) (Nat.le_of_ble_eq_true rfl)) ?_
  rintro _ μ2 ⟨rfl, hm2, hF2⟩
  refine r_icmp_eq (pc := 541) X 800 dL_law_541 (by decide) (fun _ => ?_) (fun q => absurd rfl q)
  exact go _ _ _ _ _ _ _ _ _ _ _ (h1.kept (fun q q1 q2 => hF2 q (by omega))) hm2 (hI)
theorem law_feel (X : lC Γ p s m meth c b nm) (hXs : va_X b L scr s s.heap) (hbl : b < s.heap.size) (hbk : b < kB Γ) (hL : L ≤ 384) (hi : i + 6 ≤ L) (h : WC Γ μ x T S un A kf K n xs sn V) (hm : WM Γ μ (x + 46) T S un A kf K n xs sn V) (hI : INV T S un A kf K n xs sn V) (go : lG Γ p l e s m below meth c b x i) : lJ Γ p l e s m below meth c b 546 [some (.ref b), some (.ref x), some (.ref (x + 46)), some (.int (nI i))] [] μ := by
  have a0 := h.1
  refine r_aload_n (pc := 546) X dL_law_546 rfl ?_
  refine r_aload_n (pc := 547) X dL_law_547 rfl ?_
  refine r_iload_n (pc := 548) X dL_law_548 rfl ?_
  refine r_iconst (pc := 549) (v := nI 1) X dL_law_549 (by decide) ?_
  first | refine r_iaddN (pc := 550) X dL_law_550 ?_ | refine r_iadd (pc := 550) X dL_law_550 ?_
  refine r_sld (pc := 551) X hXs hbl hbk (by omega) (by omega) dL_law_551 ?_
  refine r_aload_n (pc := 552) X dL_law_552 rfl ?_
  refine r_iload_n (pc := 553) X dL_law_553 rfl ?_
  refine r_iconst (pc := 554) (v := nI 2) X dL_law_554 (by decide) ?_
  first | refine r_iaddN (pc := 555) X dL_law_555 ?_ | refine r_iadd (pc := 555) X dL_law_555 ?_
  refine r_sld (pc := 556) X hXs hbl hbk (by omega) (by omega) dL_law_556 ?_
  refine c_i X (rV (pc := 557) (ci := 6) X l_L_88 (t6_feel h hI (scr (i + 1)) (scr (i + 2))) dL_law_557 (by repeat (first | exact mu_self | assumption | refine (mu_ne (by omega)).trans ?_)) rfl rfl rfl (Nat.le_of_ble_eq_true rfl) (by decide) (Nat.le_of_ble_eq_true rfl) (Nat.le_of_ble_eq_true rfl)) ?_
  rintro _ μ1 ⟨rfl, h1, hF1⟩
  have hm1 := hm.kept (fun q q1 q2 => hF1 q (by omega))
  obtain ⟨pl, tk, vl, bg, cl, rd, ah, kp, mo, b0, -⟩ := id hm1
  refine r_aload_n (pc := 560) X dL_law_560 rfl ?_
  refine r_aload_n (pc := 561) X dL_law_561 rfl ?_
  refine r_iload_n (pc := 562) X dL_law_562 rfl ?_
  refine r_iconst (pc := 563) (v := nI 1) X dL_law_563 (by decide) ?_
  first | refine r_iaddN (pc := 564) X dL_law_564 ?_ | refine r_iadd (pc := 564) X dL_law_564 ?_
  refine r_sld (pc := 565) X hXs hbl hbk (by omega) (by omega) dL_law_565 ?_
  refine r_aload_n (pc := 566) X dL_law_566 rfl ?_
  refine r_iload_n (pc := 567) X dL_law_567 rfl ?_
  refine r_iconst (pc := 568) (v := nI 2) X dL_law_568 (by decide) ?_
  first | refine r_iaddN (pc := 569) X dL_law_569 ?_ | refine r_iadd (pc := 569) X dL_law_569 ?_
  refine r_sld (pc := 570) X hXs hbl hbk (by omega) (by omega) dL_law_570 ?_
  refine c_i X (rV (pc := 571) (ci := 7) X l_L_91 (t7_feel hm1 hI (scr (i + 1)) (scr (i + 2))) dL_law_571 (by repeat (first | exact mu_self | assumption | refine (mu_ne (by omega)).trans ?_)) rfl rfl rfl (Nat.le_of_ble_eq_true rfl) (by decide) (Nat.le_of_ble_eq_true rfl) (Nat.le_of_ble_eq_true rfl)) ?_
  rintro _ μ2 ⟨rfl, hm2, hF2⟩
  refine r_icmp_eq (pc := 574) X 800 dL_law_574 (by decide) (fun _ => ?_) (fun q => absurd rfl q)
  exact go _ _ _ _ _ _ _ _ _ _ _ (h1.kept (fun q q1 q2 => hF2 q (by omega))) hm2 (hI)
theorem law_names (X : lC Γ p s m meth c b nm) (hXs : va_X b L scr s s.heap) (hbl : b < s.heap.size) (hbk : b < kB Γ) (hL : L ≤ 384) (hi : i + 6 ≤ L) (h : WC Γ μ x T S un A kf K n xs sn V) (hm : WM Γ μ (x + 46) T S un A kf K n xs sn V) (hI : INV T S un A kf K n xs sn V) (go : lG Γ p l e s m below meth c b x i) : lJ Γ p l e s m below meth c b 579 [some (.ref b), some (.ref x), some (.ref (x + 46)), some (.int (nI i))] [] μ := by
  have a0 := h.1
  refine r_aload_n (pc := 579) X dL_law_579 rfl ?_
  refine r_aload_n (pc := 580) X dL_law_580 rfl ?_
  refine r_iload_n (pc := 581) X dL_law_581 rfl ?_
  refine r_iconst (pc := 582) (v := nI 1) X dL_law_582 (by decide) ?_
  first | refine r_iaddN (pc := 583) X dL_law_583 ?_ | refine r_iadd (pc := 583) X dL_law_583 ?_
  refine r_sld (pc := 584) X hXs hbl hbk (by omega) (by omega) dL_law_584 ?_
  refine c_i X (rV (pc := 585) (ci := 6) X l_L_92 (t6_names h hI (scr (i + 1))) dL_law_585 (by repeat (first | exact mu_self | assumption | refine (mu_ne (by omega)).trans ?_)) rfl rfl rfl (Nat.le_of_ble_eq_true rfl) (by decide) (Nat.le_of_ble_eq_true rfl) (Nat.le_of_ble_eq_true rfl)) ?_
  rintro _ μq ⟨rfl, hμq⟩
  rw [hμq]
  clear hμq μq
  obtain ⟨pl, tk, vl, bg, cl, rd, ah, kp, mo, b0, -⟩ := id hm
  refine r_aload_n (pc := 588) X dL_law_588 rfl ?_
  refine r_aload_n (pc := 589) X dL_law_589 rfl ?_
  refine r_iload_n (pc := 590) X dL_law_590 rfl ?_
  refine r_iconst (pc := 591) (v := nI 1) X dL_law_591 (by decide) ?_
  first | refine r_iaddN (pc := 592) X dL_law_592 ?_ | refine r_iadd (pc := 592) X dL_law_592 ?_
  refine r_sld (pc := 593) X hXs hbl hbk (by omega) (by omega) dL_law_593 ?_
  refine c_i X (rV (pc := 594) (ci := 7) X l_L_95 (t7_names hm hI (scr (i + 1))) dL_law_594 (by repeat (first | exact mu_self | assumption | refine (mu_ne (by omega)).trans ?_)) rfl rfl rfl (Nat.le_of_ble_eq_true rfl) (by decide) (Nat.le_of_ble_eq_true rfl) (Nat.le_of_ble_eq_true rfl)) ?_
  rintro _ μq ⟨rfl, hμq⟩
  rw [hμq]
  clear hμq μq
  refine r_icmp_eq (pc := 597) X 800 dL_law_597 (by decide) (fun _ => ?_) (fun q => absurd rfl q)
  exact go _ _ _ _ _ _ _ _ _ _ _ h hm hI
theorem law_came (X : lC Γ p s m meth c b nm) (hXs : va_X b L scr s s.heap) (hbl : b < s.heap.size) (hbk : b < kB Γ) (hL : L ≤ 384) (hi : i + 6 ≤ L) (h : WC Γ μ x T S un A kf K n xs sn V) (hm : WM Γ μ (x + 46) T S un A kf K n xs sn V) (hI : INV T S un A kf K n xs sn V) (go : lG Γ p l e s m below meth c b x i) : lJ Γ p l e s m below meth c b 602 [some (.ref b), some (.ref x), some (.ref (x + 46)), some (.int (nI i))] [] μ := by
  have a0 := h.1
  refine r_aload_n (pc := 602) X dL_law_602 rfl ?_
  refine r_aload_n (pc := 603) X dL_law_603 rfl ?_
  refine r_iload_n (pc := 604) X dL_law_604 rfl ?_
  refine r_iconst (pc := 605) (v := nI 1) X dL_law_605 (by decide) ?_
  first | refine r_iaddN (pc := 606) X dL_law_606 ?_ | refine r_iadd (pc := 606) X dL_law_606 ?_
  refine r_sld (pc := 607) X hXs hbl hbk (by omega) (by omega) dL_law_607 ?_
  refine c_i X (rV (pc := 608) (ci := 6) X l_L_96 (t6_came h hI (scr (i + 1))) dL_law_608 (by repeat (first | exact mu_self | assumption | refine (mu_ne (by omega)).trans ?_)) rfl rfl rfl (Nat.le_of_ble_eq_true rfl) (by decide) (Nat.le_of_ble_eq_true rfl) (Nat.le_of_ble_eq_true rfl)) ?_
  rintro _ μq ⟨rfl, hμq⟩
  rw [hμq]
  clear hμq μq
  obtain ⟨pl, tk, vl, bg, cl, rd, ah, kp, mo, b0, -⟩ := id hm
  refine r_aload_n (pc := 611) X dL_law_611 rfl ?_
  refine r_aload_n (pc := 612) X dL_law_612 rfl ?_
  refine r_iload_n (pc := 613) X dL_law_613 rfl ?_
  refine r_iconst (pc := 614) (v := nI 1) X dL_law_614 (by decide) ?_
  first | refine r_iaddN (pc := 615) X dL_law_615 ?_ | refine r_iadd (pc := 615) X dL_law_615 ?_
  refine r_sld (pc := 616) X hXs hbl hbk (by omega) (by omega) dL_law_616 ?_
  refine c_i X (rV (pc := 617) (ci := 7) X l_L_99 (t7_came hm hI (scr (i + 1))) dL_law_617 (by repeat (first | exact mu_self | assumption | refine (mu_ne (by omega)).trans ?_)) rfl rfl rfl (Nat.le_of_ble_eq_true rfl) (by decide) (Nat.le_of_ble_eq_true rfl) (Nat.le_of_ble_eq_true rfl)) ?_
  rintro _ μq ⟨rfl, hμq⟩
  rw [hμq]
  clear hμq μq
  refine r_icmp_eq (pc := 620) X 800 dL_law_620 (by decide) (fun _ => ?_) (fun q => absurd rfl q)
  exact go _ _ _ _ _ _ _ _ _ _ _ h hm hI
theorem law_seen (X : lC Γ p s m meth c b nm) (hXs : va_X b L scr s s.heap) (hbl : b < s.heap.size) (hbk : b < kB Γ) (hL : L ≤ 384) (hi : i + 6 ≤ L) (h : WC Γ μ x T S un A kf K n xs sn V) (hm : WM Γ μ (x + 46) T S un A kf K n xs sn V) (hI : INV T S un A kf K n xs sn V) (go : lG Γ p l e s m below meth c b x i) : lJ Γ p l e s m below meth c b 625 [some (.ref b), some (.ref x), some (.ref (x + 46)), some (.int (nI i))] [] μ := by
  have a0 := h.1
  refine r_aload_n (pc := 625) X dL_law_625 rfl ?_
  refine r_aload_n (pc := 626) X dL_law_626 rfl ?_
  refine r_iload_n (pc := 627) X dL_law_627 rfl ?_
  refine r_iconst (pc := 628) (v := nI 1) X dL_law_628 (by decide) ?_
  first | refine r_iaddN (pc := 629) X dL_law_629 ?_ | refine r_iadd (pc := 629) X dL_law_629 ?_
  refine r_sld (pc := 630) X hXs hbl hbk (by omega) (by omega) dL_law_630 ?_
  refine r_aload_n (pc := 631) X dL_law_631 rfl ?_
  refine r_iload_n (pc := 632) X dL_law_632 rfl ?_
  refine r_iconst (pc := 633) (v := nI 2) X dL_law_633 (by decide) ?_
  first | refine r_iaddN (pc := 634) X dL_law_634 ?_ | refine r_iadd (pc := 634) X dL_law_634 ?_
  refine r_sld (pc := 635) X hXs hbl hbk (by omega) (by omega) dL_law_635 ?_
  refine r_aload_n (pc := 636) X dL_law_636 rfl ?_
  refine r_iload_n (pc := 637) X dL_law_637 rfl ?_
  refine r_iconst (pc := 638) (v := nI 3) X dL_law_638 (by decide) ?_
  first | refine r_iaddN (pc := 639) X dL_law_639 ?_ | refine r_iadd (pc := 639) X dL_law_639 ?_
  refine r_sld (pc := 640) X hXs hbl hbk (by omega) (by omega) dL_law_640 ?_
  refine c_i X (rV (pc := 641) (ci := 6) X l_L_100 (t6_seen h hI (scr (i + 1)) (scr (i + 2)) (scr (i + 3))) dL_law_641 (by repeat (first | exact mu_self | assumption | refine (mu_ne (by omega)).trans ?_)) rfl rfl rfl (Nat.le_of_ble_eq_true rfl) (by decide) (Nat.le_of_ble_eq_true rfl) (Nat.le_of_ble_eq_true rfl)) ?_
  rintro _ μ1 ⟨rfl, h1, hF1⟩
  have hm1 := hm.kept (fun q q1 q2 => hF1 q (by omega))
  obtain ⟨pl, tk, vl, bg, cl, rd, ah, kp, mo, b0, -⟩ := id hm1
  refine r_aload_n (pc := 644) X dL_law_644 rfl ?_
  refine r_aload_n (pc := 645) X dL_law_645 rfl ?_
  refine r_iload_n (pc := 646) X dL_law_646 rfl ?_
  refine r_iconst (pc := 647) (v := nI 1) X dL_law_647 (by decide) ?_
  first | refine r_iaddN (pc := 648) X dL_law_648 ?_ | refine r_iadd (pc := 648) X dL_law_648 ?_
  refine r_sld (pc := 649) X hXs hbl hbk (by omega) (by omega) dL_law_649 ?_
  refine r_aload_n (pc := 650) X dL_law_650 rfl ?_
  refine r_iload_n (pc := 651) X dL_law_651 rfl ?_
  refine r_iconst (pc := 652) (v := nI 2) X dL_law_652 (by decide) ?_
  first | refine r_iaddN (pc := 653) X dL_law_653 ?_ | refine r_iadd (pc := 653) X dL_law_653 ?_
  refine r_sld (pc := 654) X hXs hbl hbk (by omega) (by omega) dL_law_654 ?_
  refine r_aload_n (pc := 655) X dL_law_655 rfl ?_
  refine r_iload_n (pc := 656) X dL_law_656 rfl ?_
  refine r_iconst (pc := 657) (v := nI 3) X dL_law_657 (by decide) ?_
  first | refine r_iaddN (pc := 658) X dL_law_658 ?_ | refine r_iadd (pc := 658) X dL_law_658 ?_
  refine r_sld (pc := 659) X hXs hbl hbk (by omega) (by omega) dL_law_659 ?_
  refine c_i X (rV (pc := 660) (ci := 7) X l_L_104 (t7_seen hm1 hI (scr (i + 1)) (scr (i + 2)) (scr (i + 3))) dL_law_660 (by repeat (first | exact mu_self | assumption | refine (mu_ne (by omega)).trans ?_)) rfl rfl rfl (Nat.le_of_ble_eq_true rfl) (by decide) (Nat.le_of_ble_eq_true rfl) (Nat.le_of_ble_eq_true rfl)) ?_
  rintro _ μ2 ⟨rfl, hm2, hF2⟩
  refine r_icmp_eq (pc := 663) X 800 dL_law_663 (by decide) (fun _ => ?_) (fun q => absurd rfl q)
  exact go _ _ _ _ _ _ _ _ _ _ _ (h1.kept (fun q q1 q2 => hF2 q (by omega))) hm2 (inv_seen hI _ _ _)
theorem law_forget (X : lC Γ p s m meth c b nm) (hXs : va_X b L scr s s.heap) (hbl : b < s.heap.size) (hbk : b < kB Γ) (hL : L ≤ 384) (hi : i + 6 ≤ L) (h : WC Γ μ x T S un A kf K n xs sn V) (hm : WM Γ μ (x + 46) T S un A kf K n xs sn V) (hI : INV T S un A kf K n xs sn V) (go : lG Γ p l e s m below meth c b x i) : lJ Γ p l e s m below meth c b 668 [some (.ref b), some (.ref x), some (.ref (x + 46)), some (.int (nI i))] [] μ := by
  have a0 := h.1
  refine r_aload_n (pc := 668) X dL_law_668 rfl ?_
  refine c_i X (rV (pc := 669) (ci := 6) X l_L_105 (t6_forget h hI ) dL_law_669 (by repeat (first | exact mu_self | assumption | refine (mu_ne (by omega)).trans ?_)) rfl rfl rfl (Nat.le_of_ble_eq_true rfl) (by decide) (Nat.le_of_ble_eq_true rfl) (Nat.le_of_ble_eq_true rfl)) ?_
  rintro _ μ1 ⟨rfl, h1, hF1⟩
  have hm1 := hm.kept (fun q q1 q2 => hF1 q (by omega))
  obtain ⟨pl, tk, vl, bg, cl, rd, ah, kp, mo, b0, -⟩ := id hm1
  refine r_aload_n (pc := 672) X dL_law_672 rfl ?_
  refine c_i X (rV (pc := 673) (ci := 7) X l_L_108 (t7_forget hm1 hI ) dL_law_673 (by repeat (first | exact mu_self | assumption | refine (mu_ne (by omega)).trans ?_)) rfl rfl rfl (Nat.le_of_ble_eq_true rfl) (by decide) (Nat.le_of_ble_eq_true rfl) (Nat.le_of_ble_eq_true rfl)) ?_
  rintro _ μ2 ⟨rfl, hm2, hF2⟩
  refine r_icmp_eq (pc := 676) X 800 dL_law_676 (by decide) (fun _ => ?_) (fun q => absurd rfl q)
  exact go _ _ _ _ _ _ _ _ _ _ _ (h1.kept (fun q q1 q2 => hF2 q (by omega))) hm2 (inv_forget hI)
theorem law_strong (X : lC Γ p s m meth c b nm) (hXs : va_X b L scr s s.heap) (hbl : b < s.heap.size) (hbk : b < kB Γ) (hL : L ≤ 384) (hi : i + 6 ≤ L) (h : WC Γ μ x T S un A kf K n xs sn V) (hm : WM Γ μ (x + 46) T S un A kf K n xs sn V) (hI : INV T S un A kf K n xs sn V) (go : lG Γ p l e s m below meth c b x i) : lJ Γ p l e s m below meth c b 681 [some (.ref b), some (.ref x), some (.ref (x + 46)), some (.int (nI i))] [] μ := by
  have a0 := h.1
  refine r_aload_n (pc := 681) X dL_law_681 rfl ?_
  refine r_aload_n (pc := 682) X dL_law_682 rfl ?_
  refine r_iload_n (pc := 683) X dL_law_683 rfl ?_
  refine r_iconst (pc := 684) (v := nI 1) X dL_law_684 (by decide) ?_
  first | refine r_iaddN (pc := 685) X dL_law_685 ?_ | refine r_iadd (pc := 685) X dL_law_685 ?_
  refine r_sld (pc := 686) X hXs hbl hbk (by omega) (by omega) dL_law_686 ?_
  refine r_aload_n (pc := 687) X dL_law_687 rfl ?_
  refine r_iload_n (pc := 688) X dL_law_688 rfl ?_
  refine r_iconst (pc := 689) (v := nI 2) X dL_law_689 (by decide) ?_
  first | refine r_iaddN (pc := 690) X dL_law_690 ?_ | refine r_iadd (pc := 690) X dL_law_690 ?_
  refine r_sld (pc := 691) X hXs hbl hbk (by omega) (by omega) dL_law_691 ?_
  refine c_i X (rV (pc := 692) (ci := 6) X l_L_109 (t6_strong h hI (scr (i + 1)) (scr (i + 2))) dL_law_692 (by repeat (first | exact mu_self | assumption | refine (mu_ne (by omega)).trans ?_)) rfl rfl rfl (Nat.le_of_ble_eq_true rfl) (by decide) (Nat.le_of_ble_eq_true rfl) (Nat.le_of_ble_eq_true rfl)) ?_
  rintro _ μq ⟨rfl, hμq⟩
  rw [hμq]
  clear hμq μq
  obtain ⟨pl, tk, vl, bg, cl, rd, ah, kp, mo, b0, -⟩ := id hm
  refine r_aload_n (pc := 695) X dL_law_695 rfl ?_
  refine r_aload_n (pc := 696) X dL_law_696 rfl ?_
  refine r_iload_n (pc := 697) X dL_law_697 rfl ?_
  refine r_iconst (pc := 698) (v := nI 1) X dL_law_698 (by decide) ?_
  first | refine r_iaddN (pc := 699) X dL_law_699 ?_ | refine r_iadd (pc := 699) X dL_law_699 ?_
  refine r_sld (pc := 700) X hXs hbl hbk (by omega) (by omega) dL_law_700 ?_
  refine r_aload_n (pc := 701) X dL_law_701 rfl ?_
  refine r_iload_n (pc := 702) X dL_law_702 rfl ?_
  refine r_iconst (pc := 703) (v := nI 2) X dL_law_703 (by decide) ?_
  first | refine r_iaddN (pc := 704) X dL_law_704 ?_ | refine r_iadd (pc := 704) X dL_law_704 ?_
  refine r_sld (pc := 705) X hXs hbl hbk (by omega) (by omega) dL_law_705 ?_
  refine c_i X (rV (pc := 706) (ci := 7) X l_L_112 (t7_strong hm hI (scr (i + 1)) (scr (i + 2))) dL_law_706 (by repeat (first | exact mu_self | assumption | refine (mu_ne (by omega)).trans ?_)) rfl rfl rfl (Nat.le_of_ble_eq_true rfl) (by decide) (Nat.le_of_ble_eq_true rfl) (Nat.le_of_ble_eq_true rfl)) ?_
  rintro _ μq ⟨rfl, hμq⟩
  rw [hμq]
  clear hμq μq
  refine r_icmp_eq (pc := 709) X 800 dL_law_709 (by decide) (fun _ => ?_) (fun q => absurd rfl q)
  exact go _ _ _ _ _ _ _ _ _ _ _ h hm hI
theorem law_boasts (X : lC Γ p s m meth c b nm) (hXs : va_X b L scr s s.heap) (hbl : b < s.heap.size) (hbk : b < kB Γ) (hL : L ≤ 384) (hi : i + 6 ≤ L) (h : WC Γ μ x T S un A kf K n xs sn V) (hm : WM Γ μ (x + 46) T S un A kf K n xs sn V) (hI : INV T S un A kf K n xs sn V) (go : lG Γ p l e s m below meth c b x i) : lJ Γ p l e s m below meth c b 714 [some (.ref b), some (.ref x), some (.ref (x + 46)), some (.int (nI i))] [] μ := by
  have a0 := h.1
  refine r_aload_n (pc := 714) X dL_law_714 rfl ?_
  refine r_aload_n (pc := 715) X dL_law_715 rfl ?_
  refine r_iload_n (pc := 716) X dL_law_716 rfl ?_
  refine r_iconst (pc := 717) (v := nI 1) X dL_law_717 (by decide) ?_
  first | refine r_iaddN (pc := 718) X dL_law_718 ?_ | refine r_iadd (pc := 718) X dL_law_718 ?_
  refine r_sld (pc := 719) X hXs hbl hbk (by omega) (by omega) dL_law_719 ?_
  refine r_aload_n (pc := 720) X dL_law_720 rfl ?_
  refine r_iload_n (pc := 721) X dL_law_721 rfl ?_
  refine r_iconst (pc := 722) (v := nI 2) X dL_law_722 (by decide) ?_
  first | refine r_iaddN (pc := 723) X dL_law_723 ?_ | refine r_iadd (pc := 723) X dL_law_723 ?_
  refine r_sld (pc := 724) X hXs hbl hbk (by omega) (by omega) dL_law_724 ?_
  refine r_aload_n (pc := 725) X dL_law_725 rfl ?_
  refine r_iload_n (pc := 726) X dL_law_726 rfl ?_
  refine r_iconst (pc := 727) (v := nI 3) X dL_law_727 (by decide) ?_
  first | refine r_iaddN (pc := 728) X dL_law_728 ?_ | refine r_iadd (pc := 728) X dL_law_728 ?_
  refine r_sld (pc := 729) X hXs hbl hbk (by omega) (by omega) dL_law_729 ?_
  refine r_aload_n (pc := 730) X dL_law_730 rfl ?_
  refine r_iload_n (pc := 731) X dL_law_731 rfl ?_
  refine r_iconst (pc := 732) (v := nI 4) X dL_law_732 (by decide) ?_
  first | refine r_iaddN (pc := 733) X dL_law_733 ?_ | refine r_iadd (pc := 733) X dL_law_733 ?_
  refine r_sld (pc := 734) X hXs hbl hbk (by omega) (by omega) dL_law_734 ?_
  refine r_aload_n (pc := 735) X dL_law_735 rfl ?_
  refine r_iload_n (pc := 736) X dL_law_736 rfl ?_
  refine r_iconst (pc := 737) (v := nI 5) X dL_law_737 (by decide) ?_
  first | refine r_iaddN (pc := 738) X dL_law_738 ?_ | refine r_iadd (pc := 738) X dL_law_738 ?_
  refine r_sld (pc := 739) X hXs hbl hbk (by omega) (by omega) dL_law_739 ?_
  refine c_i X (rV (pc := 740) (ci := 6) X l_L_113 (t6_boasts  (scr (i + 1)) (scr (i + 2)) (scr (i + 3)) (scr (i + 4)) (scr (i + 5))) dL_law_740 (by repeat (first | exact mu_self | assumption | refine (mu_ne (by omega)).trans ?_)) rfl rfl rfl (Nat.le_of_ble_eq_true rfl) (by decide) (Nat.le_of_ble_eq_true rfl) (Nat.le_of_ble_eq_true rfl)) ?_
  rintro _ μq ⟨rfl, hμq⟩
  rw [hμq]
  clear hμq μq
  obtain ⟨pl, tk, vl, bg, cl, rd, ah, kp, mo, b0, -⟩ := id hm
  refine r_aload_n (pc := 743) X dL_law_743 rfl ?_
  refine r_aload_n (pc := 744) X dL_law_744 rfl ?_
  refine r_iload_n (pc := 745) X dL_law_745 rfl ?_
  refine r_iconst (pc := 746) (v := nI 1) X dL_law_746 (by decide) ?_
  first | refine r_iaddN (pc := 747) X dL_law_747 ?_ | refine r_iadd (pc := 747) X dL_law_747 ?_
  refine r_sld (pc := 748) X hXs hbl hbk (by omega) (by omega) dL_law_748 ?_
  refine r_aload_n (pc := 749) X dL_law_749 rfl ?_
  refine r_iload_n (pc := 750) X dL_law_750 rfl ?_
  refine r_iconst (pc := 751) (v := nI 2) X dL_law_751 (by decide) ?_
  first | refine r_iaddN (pc := 752) X dL_law_752 ?_ | refine r_iadd (pc := 752) X dL_law_752 ?_
  refine r_sld (pc := 753) X hXs hbl hbk (by omega) (by omega) dL_law_753 ?_
  refine r_aload_n (pc := 754) X dL_law_754 rfl ?_
  refine r_iload_n (pc := 755) X dL_law_755 rfl ?_
  refine r_iconst (pc := 756) (v := nI 3) X dL_law_756 (by decide) ?_
  first | refine r_iaddN (pc := 757) X dL_law_757 ?_ | refine r_iadd (pc := 757) X dL_law_757 ?_
  refine r_sld (pc := 758) X hXs hbl hbk (by omega) (by omega) dL_law_758 ?_
  refine r_aload_n (pc := 759) X dL_law_759 rfl ?_
  refine r_iload_n (pc := 760) X dL_law_760 rfl ?_
  refine r_iconst (pc := 761) (v := nI 4) X dL_law_761 (by decide) ?_
  first | refine r_iaddN (pc := 762) X dL_law_762 ?_ | refine r_iadd (pc := 762) X dL_law_762 ?_
  refine r_sld (pc := 763) X hXs hbl hbk (by omega) (by omega) dL_law_763 ?_
  refine r_aload_n (pc := 764) X dL_law_764 rfl ?_
  refine r_iload_n (pc := 765) X dL_law_765 rfl ?_
  refine r_iconst (pc := 766) (v := nI 5) X dL_law_766 (by decide) ?_
  first | refine r_iaddN (pc := 767) X dL_law_767 ?_ | refine r_iadd (pc := 767) X dL_law_767 ?_
  refine r_sld (pc := 768) X hXs hbl hbk (by omega) (by omega) dL_law_768 ?_
  refine c_i X (rV (pc := 769) (ci := 7) X l_L_117 (t7_boasts  (scr (i + 1)) (scr (i + 2)) (scr (i + 3)) (scr (i + 4)) (scr (i + 5))) dL_law_769 (by repeat (first | exact mu_self | assumption | refine (mu_ne (by omega)).trans ?_)) rfl rfl rfl (Nat.le_of_ble_eq_true rfl) (by decide) (Nat.le_of_ble_eq_true rfl) (Nat.le_of_ble_eq_true rfl)) ?_
  rintro _ μq ⟨rfl, hμq⟩
  rw [hμq]
  clear hμq μq
  refine r_icmp_eq (pc := 772) X 800 dL_law_772 (by decide) (fun _ => ?_) (fun q => absurd rfl q)
  exact go _ _ _ _ _ _ _ _ _ _ _ h hm hI
theorem law_count (X : lC Γ p s m meth c b nm) (hXs : va_X b L scr s s.heap) (hbl : b < s.heap.size) (hbk : b < kB Γ) (hL : L ≤ 384) (hi : i + 6 ≤ L) (h : WC Γ μ x T S un A kf K n xs sn V) (hm : WM Γ μ (x + 46) T S un A kf K n xs sn V) (hI : INV T S un A kf K n xs sn V) (go : lG Γ p l e s m below meth c b x i) : lJ Γ p l e s m below meth c b 777 [some (.ref b), some (.ref x), some (.ref (x + 46)), some (.int (nI i))] [] μ := by
  have a0 := h.1
  refine r_aload_n (pc := 777) X dL_law_777 rfl ?_
  refine r_aload_n (pc := 778) X dL_law_778 rfl ?_
  refine r_iload_n (pc := 779) X dL_law_779 rfl ?_
  refine r_iconst (pc := 780) (v := nI 1) X dL_law_780 (by decide) ?_
  first | refine r_iaddN (pc := 781) X dL_law_781 ?_ | refine r_iadd (pc := 781) X dL_law_781 ?_
  refine r_sld (pc := 782) X hXs hbl hbk (by omega) (by omega) dL_law_782 ?_
  refine c_i X (rV (pc := 783) (ci := 6) X l_L_118 (t6_count h hI (scr (i + 1))) dL_law_783 (by repeat (first | exact mu_self | assumption | refine (mu_ne (by omega)).trans ?_)) rfl rfl rfl (Nat.le_of_ble_eq_true rfl) (by decide) (Nat.le_of_ble_eq_true rfl) (Nat.le_of_ble_eq_true rfl)) ?_
  rintro _ μq ⟨rfl, hμq⟩
  rw [hμq]
  clear hμq μq
  obtain ⟨pl, tk, vl, bg, cl, rd, ah, kp, mo, b0, -⟩ := id hm
  refine r_aload_n (pc := 786) X dL_law_786 rfl ?_
  refine r_aload_n (pc := 787) X dL_law_787 rfl ?_
  refine r_iload_n (pc := 788) X dL_law_788 rfl ?_
  refine r_iconst (pc := 789) (v := nI 1) X dL_law_789 (by decide) ?_
  first | refine r_iaddN (pc := 790) X dL_law_790 ?_ | refine r_iadd (pc := 790) X dL_law_790 ?_
  refine r_sld (pc := 791) X hXs hbl hbk (by omega) (by omega) dL_law_791 ?_
  refine c_i X (rV (pc := 792) (ci := 7) X l_L_121 (t7_count hm hI (scr (i + 1))) dL_law_792 (by repeat (first | exact mu_self | assumption | refine (mu_ne (by omega)).trans ?_)) rfl rfl rfl (Nat.le_of_ble_eq_true rfl) (by decide) (Nat.le_of_ble_eq_true rfl) (Nat.le_of_ble_eq_true rfl)) ?_
  rintro _ μq ⟨rfl, hμq⟩
  rw [hμq]
  clear hμq μq
  refine r_icmp_eq (pc := 795) X 800 dL_law_795 (by decide) (fun _ => ?_) (fun q => absurd rfl q)
  exact go _ _ _ _ _ _ _ _ _ _ _ h hm hI
end S64b
