section S13
variable {Γ : KK} {l : Launch} {sz : Nat} {μ : MM} {a : Nat} {T : Nat → Nat}
theorem tellT_1 (T : Nat → Nat) (num : Nat) : tellT T 1 num = upN (upN T (1 + T 0) num) 0 (T 0 + 1) := by unfold tellT; rw [if_neg (by decide), if_pos rfl]
theorem tellT_6 (T : Nat → Nat) (num : Nat) : tellT T 6 num = upN (upN T (21 + T 20) num) 20 (T 20 + 1) := by unfold tellT; rw [if_neg (by decide), if_neg (by decide), if_neg (by decide), if_pos rfl]
theorem tellT_s (T : Nat → Nat) (kd num : Nat) (h : kd < 4) : tellT T (2 + kd) num = addShT T kd num := by unfold tellT; rw [if_neg (by omega), if_neg (by omega), if_pos (by omega)]; congr 1; omega
theorem tellT_7 (T : Nat → Nat) (k num : Nat) : tellT T (7 + k) num = upN T (25 + k) num := by unfold tellT; rw [if_neg (by omega), if_neg (by omega), if_neg (by omega), if_neg (by omega)]; congr 1; omega
theorem t5_tell (hT : ToldAt Γ μ a T) (hI : IT T) {w num : Nat} (hw : w < 11) (hr : roomT T w = true) : CT Γ l 1 sz 0 0 mX5_tell [.ref a, .int (nI w), .int (nI num)] μ (rv (fun μ' => ToldAt Γ μ' a (tellT T w num) ∧ Fr a 5 μ μ')) := by
  have hT0 := hT
  obtain ⟨g0, g1, g2, g3, g4⟩ := hT
  refine CT.go RX5 rfl "tell" rfl [some (.ref a), some (.int (nI w)), some (.int (nI num))] rfl (by decide) (Nat.le_of_ble_eq_true rfl) ?_
  intro p e R s m args below meth c X hsz
  refine r_aload_n (pc := 0) X dX5_tell_0 rfl ?_
  refine r_iload_n (pc := 1) X dX5_tell_1 rfl ?_
  refine c_i X (rV (pc := 2) (ci := 5) X l_X5_55 (t5_hasRoomFor hT0 hI hw) dX5_tell_2 (by repeat (first | exact mu_self | assumption | refine (mu_ne (by omega)).trans ?_)) rfl rfl rfl (Nat.le_of_ble_eq_true rfl) (by decide) (Nat.le_of_ble_eq_true rfl) (Nat.le_of_ble_eq_true rfl)) ?_
  rintro _ μq ⟨rfl, hμq⟩
  rw [hμq]
  clear hμq μq
  rw [hr]
  refine r_if_neZ (pc := 5) X 9 dX5_tell_5 (by decide) (fun _ => ?_) (fun h => by cases h)
  refine r_iload_n (pc := 9) X dX5_tell_9 rfl ?_
  rcases (show w = 0 ∨ w = 1 ∨ w = 2 ∨ w = 3 ∨ w = 4 ∨ w = 5 ∨ w = 6 ∨ w = 7 ∨ w = 8 ∨ w = 9 ∨ w = 10 by omega) with rfl | rfl | rfl | rfl | rfl | rfl | rfl | rfl | rfl | rfl | rfl
  · refine r_tableIn (pc := 10) X 68 dX5_tell_10 (by decide) (by decide) rfl (by decide) ?_
    refine r_aload_n (pc := 68) X dX5_tell_68 rfl ?_
    refine c_v X (rV (pc := 69) (ci := 5) X l_X5_24 (t5_reset hT0) dX5_tell_69 (by repeat (first | exact mu_self | assumption | refine (mu_ne (by omega)).trans ?_)) rfl rfl rfl (Nat.le_of_ble_eq_true rfl) (by decide) (Nat.le_of_ble_eq_true rfl) (Nat.le_of_ble_eq_true rfl)) ?_
    rintro μ1 h
    refine r_goto (pc := 72) X 183 dX5_tell_72 (by decide) ?_
    exact r_vret (pc := 183) X dX5_tell_183 (h)
  · refine r_tableIn (pc := 10) X 75 dX5_tell_10 (by decide) (by decide) rfl (by decide) ?_
    have hm : T 0 < 6 := by unfold roomT at hr; simpa using hr
    refine r_aload_n (pc := 75) X dX5_tell_75 rfl ?_
    apply r_get (pc := 76) X f_X5_9 dX5_tell_76
    · repeat (first | exact mu_self | assumption | refine (mu_ne (by omega)).trans ?_)
    · rfl
    refine r_aload_n (pc := 79) X dX5_tell_79 rfl ?_
    refine r_dup (pc := 80) X dX5_tell_80 rfl ?_
    apply r_get (pc := 81) X f_X5_27 dX5_tell_81
    · repeat (first | exact mu_self | assumption | refine (mu_ne (by omega)).trans ?_)
    · rfl
    refine r_dup_x1 (pc := 84) X dX5_tell_84 rfl rfl ?_
    refine r_iconst (pc := 85) (v := nI 1) X dX5_tell_85 (by decide) ?_
    first | refine r_iaddN (pc := 86) X dX5_tell_86 ?_ | refine r_iadd (pc := 86) X dX5_tell_86 ?_
    first | refine r_putS (pc := 87) X f_X5_27 dX5_tell_87 (by first | rfl | assumption | decide | simp [narrow]) (by first | rfl | assumption) (Nat.le_of_ble_eq_true rfl) ?_ | refine r_put (pc := 87) X f_X5_27 dX5_tell_87 (by repeat (first | exact mu_self | assumption | refine (mu_ne (by omega)).trans ?_)) (by first | rfl | assumption | decide | simp [narrow]) (by first | rfl | assumption) (Nat.le_of_ble_eq_true rfl) ?_
    refine r_iload_n (pc := 90) X dX5_tell_90 rfl ?_
    apply r_iast (pc := 91) X dX5_tell_91
    · repeat (first | exact mu_self | assumption | refine (mu_ne (by omega)).trans ?_)
    · omega
    · decide
    refine r_goto (pc := 92) X 183 dX5_tell_92 (by decide) ?_
    refine vV.sub' (fun H hP => ToldAt.of (a := a) (T' := tellT T 1 num) hP ?_ (by repeat (first | exact mu_self | assumption | refine (mu_ne (by omega)).trans ?_)) (by repeat (first | exact mu_self | assumption | refine (mu_ne (by omega)).trans ?_)) (by repeat (first | exact mu_self | assumption | refine (mu_ne (by omega)).trans ?_)) (by repeat (first | exact mu_self | assumption | refine (mu_ne (by omega)).trans ?_)) ?_ ?_ ?_ ?_) (fun μ' h => ?_)
    · refine (mu_ne (by omega)).trans ?_
      rw [mu_self]
      have e0 : tellT T 1 num 0 = T 0 + 1 := by rw [tellT_1, upN_self]
      have e7 : tellT T 1 num 7 = T 7 := by rw [tellT_1, upN_ne (by omega), upN_ne (by omega)]
      have e20 : ∀ k, k < 9 → tellT T 1 num (20 + k) = T (20 + k) := fun k hk => by rw [tellT_1, upN_ne (by omega), upN_ne (by omega)]
      unfold toldO
      rw [e0, e7, e20 0 (by omega), e20 5 (by omega), e20 6 (by omega), e20 7 (by omega), e20 8 (by omega)]
      rfl
    · intro i hi
      rw [tellT_1, upN_ne (by omega)]
      unfold upd upN
      by_cases h : i = T 0
      · subst h; simp
      · rw [if_neg h, if_neg (by omega)]
    · intro i hi; rw [tellT_1, upN_ne (by omega), upN_ne (by omega)]
    · intro i hi; rw [tellT_1, upN_ne (by omega), upN_ne (by omega)]
    · intro i hi; rw [tellT_1, upN_ne (by omega), upN_ne (by omega)]
    exact r_vret (pc := 183) X dX5_tell_183 (⟨h.1, fun q hq => (h.2 q hq).trans (by repeat (first | rfl | refine (mu_ne (by omega)).trans ?_))⟩)
  · refine r_tableIn (pc := 10) X 95 dX5_tell_10 (by decide) (by decide) rfl (by decide) ?_
    have hm : T 7 < 6 := by unfold roomT at hr; simpa using hr
    refine r_aload_n (pc := 95) X dX5_tell_95 rfl ?_
    refine r_iconst (pc := 96) (v := nI 0) X dX5_tell_96 (by decide) ?_
    refine r_iload_n (pc := 97) X dX5_tell_97 rfl ?_
    refine c_v X (rV (pc := 98) (ci := 5) X l_X5_59 (t5_addSheep hT0 hm) dX5_tell_98 (by repeat (first | exact mu_self | assumption | refine (mu_ne (by omega)).trans ?_)) rfl rfl rfl (Nat.le_of_ble_eq_true rfl) (by decide) (Nat.le_of_ble_eq_true rfl) (Nat.le_of_ble_eq_true rfl)) ?_
    rintro μ1 h
    refine r_goto (pc := 101) X 183 dX5_tell_101 (by decide) ?_
    exact r_vret (pc := 183) X dX5_tell_183 (h)
  · refine r_tableIn (pc := 10) X 104 dX5_tell_10 (by decide) (by decide) rfl (by decide) ?_
    have hm : T 7 < 6 := by unfold roomT at hr; simpa using hr
    refine r_aload_n (pc := 104) X dX5_tell_104 rfl ?_
    refine r_iconst (pc := 105) (v := nI 1) X dX5_tell_105 (by decide) ?_
    refine r_iload_n (pc := 106) X dX5_tell_106 rfl ?_
    refine c_v X (rV (pc := 107) (ci := 5) X l_X5_59 (t5_addSheep hT0 hm) dX5_tell_107 (by repeat (first | exact mu_self | assumption | refine (mu_ne (by omega)).trans ?_)) rfl rfl rfl (Nat.le_of_ble_eq_true rfl) (by decide) (Nat.le_of_ble_eq_true rfl) (Nat.le_of_ble_eq_true rfl)) ?_
    rintro μ1 h
    refine r_goto (pc := 110) X 183 dX5_tell_110 (by decide) ?_
    exact r_vret (pc := 183) X dX5_tell_183 (h)
  · refine r_tableIn (pc := 10) X 113 dX5_tell_10 (by decide) (by decide) rfl (by decide) ?_
    have hm : T 7 < 6 := by unfold roomT at hr; simpa using hr
    refine r_aload_n (pc := 113) X dX5_tell_113 rfl ?_
    refine r_iconst (pc := 114) (v := nI 2) X dX5_tell_114 (by decide) ?_
    refine r_iload_n (pc := 115) X dX5_tell_115 rfl ?_
    refine c_v X (rV (pc := 116) (ci := 5) X l_X5_59 (t5_addSheep hT0 hm) dX5_tell_116 (by repeat (first | exact mu_self | assumption | refine (mu_ne (by omega)).trans ?_)) rfl rfl rfl (Nat.le_of_ble_eq_true rfl) (by decide) (Nat.le_of_ble_eq_true rfl) (Nat.le_of_ble_eq_true rfl)) ?_
    rintro μ1 h
    refine r_goto (pc := 119) X 183 dX5_tell_119 (by decide) ?_
    exact r_vret (pc := 183) X dX5_tell_183 (h)
  · refine r_tableIn (pc := 10) X 122 dX5_tell_10 (by decide) (by decide) rfl (by decide) ?_
    have hm : T 7 < 6 := by unfold roomT at hr; simpa using hr
    refine r_aload_n (pc := 122) X dX5_tell_122 rfl ?_
    refine r_iconst (pc := 123) (v := nI 3) X dX5_tell_123 (by decide) ?_
    refine r_iload_n (pc := 124) X dX5_tell_124 rfl ?_
    refine c_v X (rV (pc := 125) (ci := 5) X l_X5_59 (t5_addSheep hT0 hm) dX5_tell_125 (by repeat (first | exact mu_self | assumption | refine (mu_ne (by omega)).trans ?_)) rfl rfl rfl (Nat.le_of_ble_eq_true rfl) (by decide) (Nat.le_of_ble_eq_true rfl) (Nat.le_of_ble_eq_true rfl)) ?_
    rintro μ1 h
    refine r_goto (pc := 128) X 183 dX5_tell_128 (by decide) ?_
    exact r_vret (pc := 183) X dX5_tell_183 (h)
  · refine r_tableIn (pc := 10) X 131 dX5_tell_10 (by decide) (by decide) rfl (by decide) ?_
    have hm : T 20 < 4 := by unfold roomT at hr; simpa using hr
    refine r_aload_n (pc := 131) X dX5_tell_131 rfl ?_
    apply r_get (pc := 132) X f_X5_21 dX5_tell_132
    · repeat (first | exact mu_self | assumption | refine (mu_ne (by omega)).trans ?_)
    · rfl
    refine r_aload_n (pc := 135) X dX5_tell_135 rfl ?_
    refine r_dup (pc := 136) X dX5_tell_136 rfl ?_
    apply r_get (pc := 137) X f_X5_34 dX5_tell_137
    · repeat (first | exact mu_self | assumption | refine (mu_ne (by omega)).trans ?_)
    · rfl
    refine r_dup_x1 (pc := 140) X dX5_tell_140 rfl rfl ?_
    refine r_iconst (pc := 141) (v := nI 1) X dX5_tell_141 (by decide) ?_
    first | refine r_iaddN (pc := 142) X dX5_tell_142 ?_ | refine r_iadd (pc := 142) X dX5_tell_142 ?_
    first | refine r_putS (pc := 143) X f_X5_34 dX5_tell_143 (by first | rfl | assumption | decide | simp [narrow]) (by first | rfl | assumption) (Nat.le_of_ble_eq_true rfl) ?_ | refine r_put (pc := 143) X f_X5_34 dX5_tell_143 (by repeat (first | exact mu_self | assumption | refine (mu_ne (by omega)).trans ?_)) (by first | rfl | assumption | decide | simp [narrow]) (by first | rfl | assumption) (Nat.le_of_ble_eq_true rfl) ?_
    refine r_iload_n (pc := 146) X dX5_tell_146 rfl ?_
    apply r_iast (pc := 147) X dX5_tell_147
    · repeat (first | exact mu_self | assumption | refine (mu_ne (by omega)).trans ?_)
    · omega
    · decide
    refine r_goto (pc := 148) X 183 dX5_tell_148 (by decide) ?_
    refine vV.sub' (fun H hP => ToldAt.of (a := a) (T' := tellT T 6 num) hP ?_ (by repeat (first | exact mu_self | assumption | refine (mu_ne (by omega)).trans ?_)) (by repeat (first | exact mu_self | assumption | refine (mu_ne (by omega)).trans ?_)) (by repeat (first | exact mu_self | assumption | refine (mu_ne (by omega)).trans ?_)) (by repeat (first | exact mu_self | assumption | refine (mu_ne (by omega)).trans ?_)) ?_ ?_ ?_ ?_) (fun μ' h => ?_)
    · refine (mu_ne (by omega)).trans ?_
      rw [mu_self]
      have e0 : tellT T 6 num 0 = T 0 := by rw [tellT_6, upN_ne (by omega), upN_ne (by omega)]
      have e7 : tellT T 6 num 7 = T 7 := by rw [tellT_6, upN_ne (by omega), upN_ne (by omega)]
      have e20 : tellT T 6 num 20 = T 20 + 1 := by rw [tellT_6, upN_self]
      have e25 : ∀ k, k < 4 → tellT T 6 num (25 + k) = T (25 + k) := fun k hk => by rw [tellT_6, upN_ne (by omega), upN_ne (by omega)]
      unfold toldO
      rw [e0, e7, e20, e25 0 (by omega), e25 1 (by omega), e25 2 (by omega), e25 3 (by omega)]
      rfl
    · intro i hi; rw [tellT_6, upN_ne (by omega), upN_ne (by omega)]
    · intro i hi; rw [tellT_6, upN_ne (by omega), upN_ne (by omega)]
    · intro i hi; rw [tellT_6, upN_ne (by omega), upN_ne (by omega)]
    · intro i hi
      rw [tellT_6, upN_ne (by omega)]
      unfold upd upN
      by_cases h : i = T 20
      · subst h; simp
      · rw [if_neg h, if_neg (by omega)]
    exact r_vret (pc := 183) X dX5_tell_183 (⟨h.1, fun q hq => (h.2 q hq).trans (by repeat (first | rfl | refine (mu_ne (by omega)).trans ?_))⟩)
  · refine r_tableIn (pc := 10) X 151 dX5_tell_10 (by decide) (by decide) rfl (by decide) ?_
    refine r_aload_n (pc := 151) X dX5_tell_151 rfl ?_
    refine r_iload_n (pc := 152) X dX5_tell_152 rfl ?_
    first | refine r_putS (pc := 153) X f_X5_37 dX5_tell_153 (by first | rfl | assumption | decide | simp [narrow]) (by first | rfl | assumption) (Nat.le_of_ble_eq_true rfl) ?_ | refine r_put (pc := 153) X f_X5_37 dX5_tell_153 (by repeat (first | exact mu_self | assumption | refine (mu_ne (by omega)).trans ?_)) (by first | rfl | assumption | decide | simp [narrow]) (by first | rfl | assumption) (Nat.le_of_ble_eq_true rfl) ?_
    refine r_goto (pc := 156) X 183 dX5_tell_156 (by decide) ?_
    have e : tellT T 7 num = upN T 25 num := tellT_7 T 0 num
    refine vV.sub' (fun H hP => ToldAt.of (a := a) (T' := tellT T 7 num) hP mu_self (by repeat (first | exact mu_self | assumption | refine (mu_ne (by omega)).trans ?_)) (by repeat (first | exact mu_self | assumption | refine (mu_ne (by omega)).trans ?_)) (by repeat (first | exact mu_self | assumption | refine (mu_ne (by omega)).trans ?_)) (by repeat (first | exact mu_self | assumption | refine (mu_ne (by omega)).trans ?_)) (fun i hi => by rw [e, upN_ne (by omega)]) (fun i hi => by rw [e, upN_ne (by omega)]) (fun i hi => by rw [e, upN_ne (by omega)]) (fun i hi => by rw [e, upN_ne (by omega)])) (fun μ' h => ?_)
    exact r_vret (pc := 183) X dX5_tell_183 (⟨h.1, fun q hq => (h.2 q hq).trans (by repeat (first | rfl | refine (mu_ne (by omega)).trans ?_))⟩)
  · refine r_tableIn (pc := 10) X 159 dX5_tell_10 (by decide) (by decide) rfl (by decide) ?_
    refine r_aload_n (pc := 159) X dX5_tell_159 rfl ?_
    refine r_iload_n (pc := 160) X dX5_tell_160 rfl ?_
    first | refine r_putS (pc := 161) X f_X5_40 dX5_tell_161 (by first | rfl | assumption | decide | simp [narrow]) (by first | rfl | assumption) (Nat.le_of_ble_eq_true rfl) ?_ | refine r_put (pc := 161) X f_X5_40 dX5_tell_161 (by repeat (first | exact mu_self | assumption | refine (mu_ne (by omega)).trans ?_)) (by first | rfl | assumption | decide | simp [narrow]) (by first | rfl | assumption) (Nat.le_of_ble_eq_true rfl) ?_
    refine r_goto (pc := 164) X 183 dX5_tell_164 (by decide) ?_
    have e : tellT T 8 num = upN T 26 num := tellT_7 T 1 num
    refine vV.sub' (fun H hP => ToldAt.of (a := a) (T' := tellT T 8 num) hP mu_self (by repeat (first | exact mu_self | assumption | refine (mu_ne (by omega)).trans ?_)) (by repeat (first | exact mu_self | assumption | refine (mu_ne (by omega)).trans ?_)) (by repeat (first | exact mu_self | assumption | refine (mu_ne (by omega)).trans ?_)) (by repeat (first | exact mu_self | assumption | refine (mu_ne (by omega)).trans ?_)) (fun i hi => by rw [e, upN_ne (by omega)]) (fun i hi => by rw [e, upN_ne (by omega)]) (fun i hi => by rw [e, upN_ne (by omega)]) (fun i hi => by rw [e, upN_ne (by omega)])) (fun μ' h => ?_)
    exact r_vret (pc := 183) X dX5_tell_183 (⟨h.1, fun q hq => (h.2 q hq).trans (by repeat (first | rfl | refine (mu_ne (by omega)).trans ?_))⟩)
  · refine r_tableIn (pc := 10) X 167 dX5_tell_10 (by decide) (by decide) rfl (by decide) ?_
    refine r_aload_n (pc := 167) X dX5_tell_167 rfl ?_
    refine r_iload_n (pc := 168) X dX5_tell_168 rfl ?_
    first | refine r_putS (pc := 169) X f_X5_43 dX5_tell_169 (by first | rfl | assumption | decide | simp [narrow]) (by first | rfl | assumption) (Nat.le_of_ble_eq_true rfl) ?_ | refine r_put (pc := 169) X f_X5_43 dX5_tell_169 (by repeat (first | exact mu_self | assumption | refine (mu_ne (by omega)).trans ?_)) (by first | rfl | assumption | decide | simp [narrow]) (by first | rfl | assumption) (Nat.le_of_ble_eq_true rfl) ?_
    refine r_goto (pc := 172) X 183 dX5_tell_172 (by decide) ?_
    have e : tellT T 9 num = upN T 27 num := tellT_7 T 2 num
    refine vV.sub' (fun H hP => ToldAt.of (a := a) (T' := tellT T 9 num) hP mu_self (by repeat (first | exact mu_self | assumption | refine (mu_ne (by omega)).trans ?_)) (by repeat (first | exact mu_self | assumption | refine (mu_ne (by omega)).trans ?_)) (by repeat (first | exact mu_self | assumption | refine (mu_ne (by omega)).trans ?_)) (by repeat (first | exact mu_self | assumption | refine (mu_ne (by omega)).trans ?_)) (fun i hi => by rw [e, upN_ne (by omega)]) (fun i hi => by rw [e, upN_ne (by omega)]) (fun i hi => by rw [e, upN_ne (by omega)]) (fun i hi => by rw [e, upN_ne (by omega)])) (fun μ' h => ?_)
    exact r_vret (pc := 183) X dX5_tell_183 (⟨h.1, fun q hq => (h.2 q hq).trans (by repeat (first | rfl | refine (mu_ne (by omega)).trans ?_))⟩)
  · refine r_tableIn (pc := 10) X 175 dX5_tell_10 (by decide) (by decide) rfl (by decide) ?_
    refine r_aload_n (pc := 175) X dX5_tell_175 rfl ?_
    refine r_iload_n (pc := 176) X dX5_tell_176 rfl ?_
    first | refine r_putS (pc := 177) X f_X5_46 dX5_tell_177 (by first | rfl | assumption | decide | simp [narrow]) (by first | rfl | assumption) (Nat.le_of_ble_eq_true rfl) ?_ | refine r_put (pc := 177) X f_X5_46 dX5_tell_177 (by repeat (first | exact mu_self | assumption | refine (mu_ne (by omega)).trans ?_)) (by first | rfl | assumption | decide | simp [narrow]) (by first | rfl | assumption) (Nat.le_of_ble_eq_true rfl) ?_
    refine r_goto (pc := 180) X 183 dX5_tell_180 (by decide) ?_
    have e : tellT T 10 num = upN T 28 num := tellT_7 T 3 num
    refine vV.sub' (fun H hP => ToldAt.of (a := a) (T' := tellT T 10 num) hP mu_self (by repeat (first | exact mu_self | assumption | refine (mu_ne (by omega)).trans ?_)) (by repeat (first | exact mu_self | assumption | refine (mu_ne (by omega)).trans ?_)) (by repeat (first | exact mu_self | assumption | refine (mu_ne (by omega)).trans ?_)) (by repeat (first | exact mu_self | assumption | refine (mu_ne (by omega)).trans ?_)) (fun i hi => by rw [e, upN_ne (by omega)]) (fun i hi => by rw [e, upN_ne (by omega)]) (fun i hi => by rw [e, upN_ne (by omega)]) (fun i hi => by rw [e, upN_ne (by omega)])) (fun μ' h => ?_)
    exact r_vret (pc := 183) X dX5_tell_183 (⟨h.1, fun q hq => (h.2 q hq).trans (by repeat (first | rfl | refine (mu_ne (by omega)).trans ?_))⟩)
theorem t5_bears (hT : ToldAt Γ μ a T) (hI : IT T) {w : Nat} (hw : w < 6) : CT Γ l 2 sz 0 0 mX5_bears [.ref a, .int (nI w)] μ (ri (fun r μ' => r = nI (brT T w) ∧ μ' = μ)) := by
  have hT0 := hT
  obtain ⟨g0, g1, g2, g3, g4⟩ := hT
  refine CT.go RX5 rfl "bears" rfl [some (.ref a), some (.int (nI w))] rfl (by decide) (Nat.le_of_ble_eq_true rfl) ?_
  intro p e R s m args below meth c X hsz
  refine r_aload_n (pc := 0) X dX5_bears_0 rfl ?_
  refine r_iload_n (pc := 1) X dX5_bears_1 rfl ?_
  refine c_i X (rV (pc := 2) (ci := 5) X l_X5_67 (t5_hasSheep hT0 hI.2.1 (nI w)) dX5_bears_2 (by repeat (first | exact mu_self | assumption | refine (mu_ne (by omega)).trans ?_)) rfl rfl rfl (Nat.le_of_ble_eq_true rfl) (by decide) (Nat.le_of_ble_eq_true rfl) (Nat.le_of_ble_eq_true rfl)) ?_
  rintro _ μq ⟨rfl, hμq⟩
  rw [hμq]
  clear hμq μq
  rw [nI_toInt (by omega)]
  first | refine r_if_eqZ (pc := 5) X 26 dX5_bears_5 (by decide) (fun h => ?_) (fun h => ?_) | refine r_if_eqN (pc := 5) X 26 dX5_bears_5 (by decide) (by omega) (fun h => ?_) (fun h => ?_) | refine r_if_eq (pc := 5) X 26 dX5_bears_5 (by decide) (fun h => ?_) (fun h => ?_)
  · have h1 : ¬ w < T 7 := by simp at h; omega
    refine r_iconst (pc := 26) (v := nI 0) X dX5_bears_26 (by decide) ?_
    exact r_iret (pc := 27) X dX5_bears_27 (⟨by unfold brT; rw [if_neg h1], rfl⟩)
  · have h1 : w < T 7 := by simp at h; omega
    refine r_aload_n (pc := 8) X dX5_bears_8 rfl ?_
    apply r_get (pc := 9) X f_X5_15 dX5_bears_9
    · repeat (first | exact mu_self | assumption | refine (mu_ne (by omega)).trans ?_)
    · rfl
    refine r_iload_n (pc := 12) X dX5_bears_12 rfl ?_
    apply r_iald (pc := 13) X dX5_bears_13
    · repeat (first | exact mu_self | assumption | refine (mu_ne (by omega)).trans ?_)
    · omega
    · decide
    refine r_aload_n (pc := 14) X dX5_bears_14 rfl ?_
    apply r_get (pc := 15) X f_X5_18 dX5_bears_15
    · repeat (first | exact mu_self | assumption | refine (mu_ne (by omega)).trans ?_)
    · rfl
    refine r_iload_n (pc := 18) X dX5_bears_18 rfl ?_
    apply r_iald (pc := 19) X dX5_bears_19
    · repeat (first | exact mu_self | assumption | refine (mu_ne (by omega)).trans ?_)
    · omega
    · decide
    refine c_i X (rSN (pc := 20) X l_X5_70 (t6_bearing (hI.2.2.2.2.1 w hw) (Nat.lt_of_le_of_lt (hI.2.2.2.2.2.1 w hw) (by decide))) dX5_bears_20 rfl rfl (Nat.le_of_ble_eq_true rfl) (by decide) (Nat.le_of_ble_eq_true rfl) (Nat.le_of_ble_eq_true rfl)) ?_
    rintro _ μq ⟨rfl, hμq⟩
    rw [hμq]
    clear hμq μq
    refine r_goto (pc := 23) X 27 dX5_bears_23 (by decide) ?_
    exact r_iret (pc := 27) X dX5_bears_27 (⟨by unfold brT; rw [if_pos h1], rfl⟩)
theorem t5_bearsMan (hT : ToldAt Γ μ a T) (hI : IT T) {w m' : Nat} (hw : w < 6) (hm : m' < 6) : CT Γ l 3 sz 0 0 mX5_bearsMan [.ref a, .int (nI w), .int (nI m')] μ (ri (fun r μ' => r = zb (brM T w m') ∧ μ' = μ)) := by
  have hT0 := hT
  obtain ⟨g0, g1, g2, g3, g4⟩ := hT
  have hb := brT_le hI hw
  have hw1 := hI.2.2.2.1 m' hm
  refine CT.go RX5 rfl "bearsMan" rfl [some (.ref a), some (.int (nI w)), some (.int (nI m'))] rfl (by decide) (Nat.le_of_ble_eq_true rfl) ?_
  intro p e R s m args below meth c X hsz
  refine r_aload_n (pc := 0) X dX5_bearsMan_0 rfl ?_
  refine r_iload_n (pc := 1) X dX5_bearsMan_1 rfl ?_
  refine c_i X (rV (pc := 2) (ci := 5) X l_X5_67 (t5_hasSheep hT0 hI.2.1 (nI w)) dX5_bearsMan_2 (by repeat (first | exact mu_self | assumption | refine (mu_ne (by omega)).trans ?_)) rfl rfl rfl (Nat.le_of_ble_eq_true rfl) (by decide) (Nat.le_of_ble_eq_true rfl) (Nat.le_of_ble_eq_true rfl)) ?_
  rintro _ μq ⟨rfl, hμq⟩
  rw [hμq]
  clear hμq μq
  rw [nI_toInt (by omega)]
  first | refine r_if_eqZ (pc := 5) X 34 dX5_bearsMan_5 (by decide) (fun h => ?_) (fun h => ?_) | refine r_if_eqN (pc := 5) X 34 dX5_bearsMan_5 (by decide) (by omega) (fun h => ?_) (fun h => ?_) | refine r_if_eq (pc := 5) X 34 dX5_bearsMan_5 (by decide) (fun h => ?_) (fun h => ?_)
  · have h1 : ¬ w < T 7 := by simp at h; omega
    refine r_iconst (pc := 34) (v := nI 0) X dX5_bearsMan_34 (by decide) ?_
    exact r_zret (pc := 35) X dX5_bearsMan_35 (by first | rfl | decide | exact zb_nar _) (⟨by unfold brM; rw [decide_eq_false (by omega)]; rfl, rfl⟩)
  · have h1 : w < T 7 := by simp at h; omega
    refine r_aload_n (pc := 8) X dX5_bearsMan_8 rfl ?_
    refine r_iload_n (pc := 9) X dX5_bearsMan_9 rfl ?_
    refine c_i X (rV (pc := 10) (ci := 5) X l_X5_74 (t5_hasMan hT0 hI.1 (nI m')) dX5_bearsMan_10 (by repeat (first | exact mu_self | assumption | refine (mu_ne (by omega)).trans ?_)) rfl rfl rfl (Nat.le_of_ble_eq_true rfl) (by decide) (Nat.le_of_ble_eq_true rfl) (Nat.le_of_ble_eq_true rfl)) ?_
    rintro _ μq ⟨rfl, hμq⟩
    rw [hμq]
    clear hμq μq
    rw [nI_toInt (by omega)]
    first | refine r_if_eqZ (pc := 13) X 34 dX5_bearsMan_13 (by decide) (fun h2 => ?_) (fun h2 => ?_) | refine r_if_eqN (pc := 13) X 34 dX5_bearsMan_13 (by decide) (by omega) (fun h2 => ?_) (fun h2 => ?_) | refine r_if_eq (pc := 13) X 34 dX5_bearsMan_13 (by decide) (fun h2 => ?_) (fun h2 => ?_)
    · have h3 : ¬ m' < T 0 := by simp at h2; omega
      refine r_iconst (pc := 34) (v := nI 0) X dX5_bearsMan_34 (by decide) ?_
      exact r_zret (pc := 35) X dX5_bearsMan_35 (by first | rfl | decide | exact zb_nar _) (⟨by unfold brM; rw [decide_eq_false (by omega)]; rfl, rfl⟩)
    · have h3 : m' < T 0 := by simp at h2; omega
      refine r_aload_n (pc := 16) X dX5_bearsMan_16 rfl ?_
      refine r_iload_n (pc := 17) X dX5_bearsMan_17 rfl ?_
      refine c_i X (rV (pc := 18) (ci := 5) X l_X5_77 (t5_bears hT0 hI hw) dX5_bearsMan_18 (by repeat (first | exact mu_self | assumption | refine (mu_ne (by omega)).trans ?_)) rfl rfl rfl (Nat.le_of_ble_eq_true rfl) (by decide) (Nat.le_of_ble_eq_true rfl) (Nat.le_of_ble_eq_true rfl)) ?_
      rintro _ μq ⟨rfl, hμq⟩
      rw [hμq]
      clear hμq μq
      refine r_aload_n (pc := 21) X dX5_bearsMan_21 rfl ?_
      apply r_get (pc := 22) X f_X5_9 dX5_bearsMan_22
      · repeat (first | exact mu_self | assumption | refine (mu_ne (by omega)).trans ?_)
      · rfl
      refine r_iload_n (pc := 25) X dX5_bearsMan_25 rfl ?_
      apply r_iald (pc := 26) X dX5_bearsMan_26
      · repeat (first | exact mu_self | assumption | refine (mu_ne (by omega)).trans ?_)
      · omega
      · decide
      first | refine r_icmp_ltN (pc := 27) X 34 dX5_bearsMan_27 (by decide) (by omega) (by omega) (fun h4 => ?_) (fun h4 => ?_) | refine r_icmp_lt (pc := 27) X 34 dX5_bearsMan_27 (by decide) (fun h4 => ?_) (fun h4 => ?_)
      · refine r_iconst (pc := 34) (v := nI 0) X dX5_bearsMan_34 (by decide) ?_
        exact r_zret (pc := 35) X dX5_bearsMan_35 (by first | rfl | decide | exact zb_nar _) (⟨by unfold brM; rw [decide_eq_false (by omega)]; rfl, rfl⟩)
      · refine r_iconst (pc := 30) (v := nI 1) X dX5_bearsMan_30 (by decide) ?_
        refine r_goto (pc := 31) X 35 dX5_bearsMan_31 (by decide) ?_
        exact r_zret (pc := 35) X dX5_bearsMan_35 (by first | rfl | decide | exact zb_nar _) (⟨by unfold brM; rw [decide_eq_true (by omega)]; rfl, rfl⟩)
theorem mkb_succ (n : Nat) (p : Nat → Bool) : mkb (n + 1) p = mkb n p ||| (if p n then 1 <<< n else 0) := rfl
theorem t5_comers (hT : ToldAt Γ μ a T) (hI : IT T) {nm : Nat} (hn : nm < 8) : CT Γ l 1 sz 0 0 mX5_comers [.ref a, .int (nI nm)] μ (ri (fun r μ' => r = nI (comT T nm) ∧ μ' = μ)) := by
  obtain ⟨g0, g1, g2, g3, g4⟩ := hT
  have h20 := hI.2.2.1
  refine CT.go RX5 rfl "comers" rfl [some (.ref a), some (.int (nI nm)), none, none] rfl (by decide) (Nat.le_of_ble_eq_true rfl) ?_
  intro p e R s m args below meth c X hsz
  refine r_iconst (pc := 0) (v := nI 0) X dX5_comers_0 (by decide) ?_
  refine r_istore_n (pc := 1) X dX5_comers_1 (by decide) rfl ?_
  refine r_iconst (pc := 2) (v := nI 0) X dX5_comers_2 (by decide) ?_
  refine r_istore_n (pc := 3) X dX5_comers_3 (by decide) rfl ?_
  have key : ∀ (N i : Nat), i + N = T 20 → vV Γ p l e R s m args below meth c (vQ Γ s args below 0 0 (ri (fun r μ' => r = nI (comT T nm) ∧ μ' = μ))) 4 0 0 4 [some (.ref (a)), some (.int (nI (nm))), some (.int (nI (mkb i (fun k => !(T (21 + k)).testBit nm)))), some (.int (nI (i)))] [] (μ) := by
    intro N
    induction N with
    | zero =>
      intro i hi
      have hi2 : i = T 20 := by omega
      subst hi2
      refine r_iload_n (pc := 4) X dX5_comers_4 rfl ?_
      refine r_aload_n (pc := 5) X dX5_comers_5 rfl ?_
      apply r_get (pc := 6) X f_X5_34 dX5_comers_6
      · repeat (first | exact mu_self | assumption | refine (mu_ne (by omega)).trans ?_)
      · rfl
      refine r_icmp_geN (pc := 9) X 37 dX5_comers_9 (by decide) (by omega) (by omega) (fun _ => ?_) (fun h => absurd (Nat.le_refl _) h)
      refine r_iload_n (pc := 37) X dX5_comers_37 rfl ?_
      exact r_iret (pc := 38) X dX5_comers_38 (⟨rfl, rfl⟩)
    | succ N ih =>
      intro i hi
      have ht := hI.2.2.2.2.2.2.1 i (by omega)
      refine r_iload_n (pc := 4) X dX5_comers_4 rfl ?_
      refine r_aload_n (pc := 5) X dX5_comers_5 rfl ?_
      apply r_get (pc := 6) X f_X5_34 dX5_comers_6
      · repeat (first | exact mu_self | assumption | refine (mu_ne (by omega)).trans ?_)
      · rfl
      refine r_icmp_geN (pc := 9) X 37 dX5_comers_9 (by decide) (by omega) (by omega) (fun h => absurd h (by omega)) (fun h => ?_)
      refine r_aload_n (pc := 12) X dX5_comers_12 rfl ?_
      apply r_get (pc := 13) X f_X5_21 dX5_comers_13
      · repeat (first | exact mu_self | assumption | refine (mu_ne (by omega)).trans ?_)
      · rfl
      refine r_iload_n (pc := 16) X dX5_comers_16 rfl ?_
      apply r_iald (pc := 17) X dX5_comers_17
      · repeat (first | exact mu_self | assumption | refine (mu_ne (by omega)).trans ?_)
      · omega
      · decide
      refine r_iload_n (pc := 18) X dX5_comers_18 rfl ?_
      refine c_i X (rSN (pc := 19) X l_X5_80 (t6_hasBit (b := T (21 + i)) (k := nm) (by omega) (by omega)) dX5_comers_19 rfl rfl (Nat.le_of_ble_eq_true rfl) (by decide) (Nat.le_of_ble_eq_true rfl) (Nat.le_of_ble_eq_true rfl)) ?_
      rintro _ μq ⟨rfl, hμq⟩
      rw [hμq]
      clear hμq μq
      first | refine r_if_neZ (pc := 22) X 31 dX5_comers_22 (by decide) (fun h2 => ?_) (fun h2 => ?_) | refine r_if_neN (pc := 22) X 31 dX5_comers_22 (by decide) (by omega) (fun h2 => ?_) (fun h2 => ?_) | refine r_if_ne (pc := 22) X 31 dX5_comers_22 (by decide) (fun h2 => ?_) (fun h2 => ?_)
      · refine r_iincN (pc := 31) (b := 1) X dX5_comers_31 rfl (by decide) rfl ?_
        refine r_goto (pc := 34) X 4 dX5_comers_34 (by decide) ?_
        have e : mkb (i + 1) (fun k => !(T (21 + k)).testBit nm) = mkb i (fun k => !(T (21 + k)).testBit nm) := by rw [mkb_succ]; simp [h2]
        have := ih (i + 1) (by omega)
        rw [e] at this
        exact this
      · refine r_iload_n (pc := 25) X dX5_comers_25 rfl ?_
        refine r_iconst (pc := 26) (v := nI 1) X dX5_comers_26 (by decide) ?_
        refine r_iload_n (pc := 27) X dX5_comers_27 rfl ?_
        first | refine r_ishlN (pc := 28) X dX5_comers_28 (by omega) ?_ | refine r_ishl (pc := 28) X dX5_comers_28 ?_
        first | refine r_iorN (pc := 29) X dX5_comers_29 ?_ | refine r_ior (pc := 29) X dX5_comers_29 ?_
        refine r_istore_n (pc := 30) X dX5_comers_30 (by decide) rfl ?_
        refine r_iincN (pc := 31) (b := 1) X dX5_comers_31 rfl (by decide) rfl ?_
        refine r_goto (pc := 34) X 4 dX5_comers_34 (by decide) ?_
        have e : mkb (i + 1) (fun k => !(T (21 + k)).testBit nm) = mkb i (fun k => !(T (21 + k)).testBit nm) ||| 1 <<< i := by rw [mkb_succ]; simp [h2]
        have := ih (i + 1) (by omega)
        rw [e] at this
        exact this
  exact key (T 20) 0 (by omega)
theorem t5_namesFor (hT : ToldAt Γ μ a T) (hI : IT T) {st : Nat} (hs : st < 2 ^ 31) : CT Γ l 2 sz 0 0 mX5_namesFor [.ref a, .int (nI st)] μ (ri (fun r μ' => r = nI (namT T st) ∧ μ' = μ)) := by
  have hT0 := hT
  obtain ⟨g0, g1, g2, g3, g4⟩ := hT
  refine CT.go RX5 rfl "namesFor" rfl [some (.ref a), some (.int (nI st)), none, none] rfl (by decide) (Nat.le_of_ble_eq_true rfl) ?_
  intro p e R s m args below meth c X hsz
  refine r_iconst (pc := 0) (v := nI 0) X dX5_namesFor_0 (by decide) ?_
  refine r_istore_n (pc := 1) X dX5_namesFor_1 (by decide) rfl ?_
  refine r_iconst (pc := 2) (v := nI 0) X dX5_namesFor_2 (by decide) ?_
  refine r_istore_n (pc := 3) X dX5_namesFor_3 (by decide) rfl ?_
  have key : ∀ (N i : Nat), i + N = 8 → vV Γ p l e R s m args below meth c (vQ Γ s args below 0 0 (ri (fun r μ' => r = nI (namT T st) ∧ μ' = μ))) 4 0 0 4 [some (.ref (a)), some (.int (nI (st))), some (.int (nI (mkb i (fun nm => comT T nm == st)))), some (.int (nI (i)))] [] (μ) := by
    intro N
    induction N with
    | zero =>
      intro i hi
      have hi2 : i = 8 := by omega
      subst hi2
      refine r_iload_n (pc := 4) X dX5_namesFor_4 rfl ?_
      refine r_bipush (pc := 5) (v := nI 8) X dX5_namesFor_5 (by decide) ?_
      refine r_icmp_geN (pc := 7) X 31 dX5_namesFor_7 (by decide) (by omega) (by omega) (fun _ => ?_) (fun h => absurd (Nat.le_refl _) h)
      refine r_iload_n (pc := 31) X dX5_namesFor_31 rfl ?_
      exact r_iret (pc := 32) X dX5_namesFor_32 (⟨rfl, rfl⟩)
    | succ N ih =>
      intro i hi
      have hc := comT_lt (nm := i) hI.2.2.1
      refine r_iload_n (pc := 4) X dX5_namesFor_4 rfl ?_
      refine r_bipush (pc := 5) (v := nI 8) X dX5_namesFor_5 (by decide) ?_
      refine r_icmp_geN (pc := 7) X 31 dX5_namesFor_7 (by decide) (by omega) (by omega) (fun h => absurd h (by omega)) (fun h => ?_)
      refine r_aload_n (pc := 10) X dX5_namesFor_10 rfl ?_
      refine r_iload_n (pc := 11) X dX5_namesFor_11 rfl ?_
      refine c_i X (rV (pc := 12) (ci := 5) X l_X5_84 (t5_comers hT0 hI (nm := i) (by omega)) dX5_namesFor_12 (by repeat (first | exact mu_self | assumption | refine (mu_ne (by omega)).trans ?_)) rfl rfl rfl (Nat.le_of_ble_eq_true rfl) (by decide) (Nat.le_of_ble_eq_true rfl) (Nat.le_of_ble_eq_true rfl)) ?_
      rintro _ μq ⟨rfl, hμq⟩
      rw [hμq]
      clear hμq μq
      refine r_iload_n (pc := 15) X dX5_namesFor_15 rfl ?_
      first | refine r_icmp_neN (pc := 16) X 25 dX5_namesFor_16 (by decide) (by omega) (by omega) (fun h2 => ?_) (fun h2 => ?_) | refine r_icmp_ne (pc := 16) X 25 dX5_namesFor_16 (by decide) (fun h2 => ?_) (fun h2 => ?_)
      · refine r_iincN (pc := 25) (b := 1) X dX5_namesFor_25 rfl (by decide) rfl ?_
        refine r_goto (pc := 28) X 4 dX5_namesFor_28 (by decide) ?_
        have e : mkb (i + 1) (fun nm => comT T nm == st) = mkb i (fun nm => comT T nm == st) := by rw [mkb_succ]; simp [h2]
        have := ih (i + 1) (by omega)
        rw [e] at this
        exact this
      · refine r_iload_n (pc := 19) X dX5_namesFor_19 rfl ?_
        refine r_iconst (pc := 20) (v := nI 1) X dX5_namesFor_20 (by decide) ?_
        refine r_iload_n (pc := 21) X dX5_namesFor_21 rfl ?_
        first | refine r_ishlN (pc := 22) X dX5_namesFor_22 (by omega) ?_ | refine r_ishl (pc := 22) X dX5_namesFor_22 ?_
        first | refine r_iorN (pc := 23) X dX5_namesFor_23 ?_ | refine r_ior (pc := 23) X dX5_namesFor_23 ?_
        refine r_istore_n (pc := 24) X dX5_namesFor_24 (by decide) rfl ?_
        refine r_iincN (pc := 25) (b := 1) X dX5_namesFor_25 rfl (by decide) rfl ?_
        refine r_goto (pc := 28) X 4 dX5_namesFor_28 (by decide) ?_
        have e : mkb (i + 1) (fun nm => comT T nm == st) = mkb i (fun nm => comT T nm == st) ||| 1 <<< i := by rw [mkb_succ]; simp [h2]
        have := ih (i + 1) (by omega)
        rw [e] at this
        exact this
  exact key 8 0 (by omega)
theorem t5_quietestName (hT : ToldAt Γ μ a T) (hI : IT T) : CT Γ l 2 sz 0 0 mX5_quietestName [.ref a] μ (ri (fun r μ' => r = nI (qn T 8) ∧ μ' = μ)) := by
  have hT0 := hT
  obtain ⟨g0, g1, g2, g3, g4⟩ := hT
  refine CT.go RX5 rfl "quietestName" rfl [some (.ref a), none, none, none, none] rfl (by decide) (Nat.le_of_ble_eq_true rfl) ?_
  intro p e R s m args below meth c X hsz
  refine r_iconst (pc := 0) (v := nI 0) X dX5_quietestName_0 (by decide) ?_
  refine r_istore_n (pc := 1) X dX5_quietestName_1 (by decide) rfl ?_
  refine r_iconst (pc := 2) (v := nI 5) X dX5_quietestName_2 (by decide) ?_
  refine r_istore_n (pc := 3) X dX5_quietestName_3 (by decide) rfl ?_
  refine r_iconst (pc := 4) (v := nI 0) X dX5_quietestName_4 (by decide) ?_
  refine r_istore_n (pc := 5) X dX5_quietestName_5 (by decide) rfl ?_
  have key : ∀ (N i fw : Nat) (q4 : Option Value), i + N = 8 → (fw = (if i = 0 then 5 else popc (comT T (qn T i)))) → vV Γ p l e R s m args below meth c (vQ Γ s args below 0 0 (ri (fun r μ' => r = nI (qn T 8) ∧ μ' = μ))) 5 0 0 6 [some (.ref a), some (.int (nI (qn T i))), some (.int (nI fw)), some (.int (nI i)), q4] [] μ := by
    intro N
    induction N with
    | zero =>
      intro i fw q4 hi hf
      have hi2 : i = 8 := by omega
      subst hi2
      refine r_iload_n (pc := 6) X dX5_quietestName_6 rfl ?_
      refine r_bipush (pc := 7) (v := nI 8) X dX5_quietestName_7 (by decide) ?_
      refine r_icmp_geN (pc := 9) X 39 dX5_quietestName_9 (by decide) (by omega) (by omega) (fun _ => ?_) (fun h => absurd (Nat.le_refl _) h)
      refine r_iload_n (pc := 39) X dX5_quietestName_39 rfl ?_
      exact r_iret (pc := 40) X dX5_quietestName_40 (⟨rfl, rfl⟩)
    | succ N ih =>
      intro i fw q4 hi hf
      have hc := comT_lt (nm := i) hI.2.2.1
      have hp := popc16 _ hc
      have hq := popc16 _ (comT_lt (nm := qn T i) hI.2.2.1)
      have hfw : fw ≤ 5 := by rw [hf]; split <;> omega
      refine r_iload_n (pc := 6) X dX5_quietestName_6 rfl ?_
      refine r_bipush (pc := 7) (v := nI 8) X dX5_quietestName_7 (by decide) ?_
      refine r_icmp_geN (pc := 9) X 39 dX5_quietestName_9 (by decide) (by omega) (by omega) (fun h => absurd h (by omega)) (fun h => ?_)
      refine r_aload_n (pc := 12) X dX5_quietestName_12 rfl ?_
      refine r_iload_n (pc := 13) X dX5_quietestName_13 rfl ?_
      refine c_i X (rV (pc := 14) (ci := 5) X l_X5_84 (t5_comers hT0 hI (nm := i) (by omega)) dX5_quietestName_14 (by repeat (first | exact mu_self | assumption | refine (mu_ne (by omega)).trans ?_)) rfl rfl rfl (Nat.le_of_ble_eq_true rfl) (by decide) (Nat.le_of_ble_eq_true rfl) (Nat.le_of_ble_eq_true rfl)) ?_
      rintro _ μq ⟨rfl, hμq⟩
      rw [hμq]
      clear hμq μq
      refine c_i X (rS (pc := 17) X l_X5_87 (tJ_bitCount (Nat.lt_trans hc (by decide))) dX5_quietestName_17 rfl rfl (Nat.le_of_ble_eq_true rfl) (by decide) (Nat.le_of_ble_eq_true rfl) (Nat.le_of_ble_eq_true rfl)) ?_
      rintro _ μq ⟨rfl, hμq⟩
      rw [hμq]
      clear hμq μq
      refine r_istore (pc := 20) X dX5_quietestName_20 (by decide) rfl ?_
      refine r_iload (pc := 22) X dX5_quietestName_22 rfl ?_
      refine r_iload_n (pc := 24) X dX5_quietestName_24 rfl ?_
      first | refine r_icmp_geN (pc := 25) X 33 dX5_quietestName_25 (by decide) (by omega) (by omega) (fun h2 => ?_) (fun h2 => ?_) | refine r_icmp_ge (pc := 25) X 33 dX5_quietestName_25 (by decide) (fun h2 => ?_) (fun h2 => ?_)
      · refine r_iincN (pc := 33) (b := 1) X dX5_quietestName_33 rfl (by decide) rfl ?_
        refine r_goto (pc := 36) X 6 dX5_quietestName_36 (by decide) ?_
        have e : qn T (i + 1) = qn T i := by
          show (if popc (comT T i) < popc (comT T (qn T i)) then i else qn T i) = qn T i
          by_cases h0 : i = 0
          · subst h0; rw [if_pos rfl] at hf; omega
          · rw [if_neg h0] at hf; rw [if_neg (by omega)]
        have := ih (i + 1) fw (some (.int (nI (popc (comT T i))))) (by omega) (by
          rw [if_neg (by omega), e]
          by_cases h0 : i = 0
          · subst h0; rw [if_pos rfl] at hf; omega
          · rw [if_neg h0] at hf; exact hf)
        rw [e] at this
        exact this
      · refine r_iload (pc := 28) X dX5_quietestName_28 rfl ?_
        refine r_istore_n (pc := 30) X dX5_quietestName_30 (by decide) rfl ?_
        refine r_iload_n (pc := 31) X dX5_quietestName_31 rfl ?_
        refine r_istore_n (pc := 32) X dX5_quietestName_32 (by decide) rfl ?_
        refine r_iincN (pc := 33) (b := 1) X dX5_quietestName_33 rfl (by decide) rfl ?_
        refine r_goto (pc := 36) X 6 dX5_quietestName_36 (by decide) ?_
        have e : qn T (i + 1) = i := by
          show (if popc (comT T i) < popc (comT T (qn T i)) then i else qn T i) = i
          by_cases h0 : i = 0
          · subst h0
            split <;> rfl
          · rw [if_neg h0] at hf; rw [if_pos (by omega)]
        have := ih (i + 1) (popc (comT T i)) (some (.int (nI (popc (comT T i))))) (by omega) (by rw [if_neg (by omega), e])
        rw [e] at this
        exact this
  exact key 8 0 5 none (by omega) rfl
end S13
