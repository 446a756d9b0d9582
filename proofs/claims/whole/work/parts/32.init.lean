section S32
variable {Γ : KK} {l : Launch} {sz : Nat} {μ : MM} {x : Nat}
def S00 : Nat → Nat := beginS T00
theorem tI_Cave (h : μ x = some (xO 6 [.null, .null, .null, .null, .null, .null, .null, .null, .null])) (hs : sz = x + 1) : CT Γ l 3 sz 45 900 mX6_init [.ref x] μ (rv (fun μ' => WC Γ μ' x T00 S00 0 (fun _ _ => 0) (fun _ => false) (fun _ _ => 0) 0 (fun _ => 0) 0 (fun _ => 0) ∧ Fr x 46 μ μ')) := by
  refine CT.go RX6 rfl "<init>" rfl [some (.ref x), none] rfl (by decide) (Nat.le_of_ble_eq_true rfl) ?_
  intro p e R s m args below meth c X hsz
  refine r_aload_n (pc := 0) X dX6_init_0 rfl ?_
  refine r_objInit (pc := 1) X l_X6_1 dX6_init_1 (by decide) (Nat.le_of_ble_eq_true rfl) ?_
  refine r_aload_n (pc := 4) X dX6_init_4 rfl ?_
  refine r_new' (pc := 5) X n_X6_7 dX6_init_5 (by omega) (by omega) (x + 1) (by omega) ?_
  refine r_dup (pc := 8) X dX6_init_8 rfl ?_
  refine c_v X (rIN (pc := 9) X l_X6_9 (tI_Text (a := x + 1) mu_self (by omega)) dX6_init_9 rfl rfl (Nat.le_of_ble_eq_true rfl) (by decide) (Nat.le_of_ble_eq_true rfl) (Nat.le_of_ble_eq_true rfl)) ?_
  rintro μ1 ⟨a1, b1⟩
  have c1 : μ1 x = _ := (b1 x (by omega)).trans ((mu_ne (by omega)).trans h)
  have F1 : ∀ q : Nat, (q < x + 1 ∨ x + 3 ≤ q) → μ1 q = μ q := fun q hq => (b1 q (by omega)).trans (mu_ne (by omega))
  first | refine r_putFS (pc := 12) X f_X6_10 rfl rfl dX6_init_12 (by first | rfl | assumption | decide | simp [narrow]) (by first | rfl | assumption) (Nat.le_of_ble_eq_true rfl) ?_ | refine r_putF (pc := 12) X f_X6_10 rfl rfl dX6_init_12 (by repeat (first | exact mu_self | assumption | refine (mu_ne (by omega)).trans ?_)) (by first | rfl | assumption | decide | simp [narrow]) (by first | rfl | assumption) (Nat.le_of_ble_eq_true rfl) ?_
  refine r_aload_n (pc := 15) X dX6_init_15 rfl ?_
  refine r_new' (pc := 16) X n_X6_16 dX6_init_16 (by omega) (by omega) (x + 3) (by omega) ?_
  refine r_dup (pc := 19) X dX6_init_19 rfl ?_
  refine c_v X (rI (pc := 20) X l_X6_18 (tI_Told (a := x + 3) mu_self (by omega)) dX6_init_20 rfl rfl (Nat.le_of_ble_eq_true rfl) (by decide) (Nat.le_of_ble_eq_true rfl) (Nat.le_of_ble_eq_true rfl)) ?_
  rintro μ2 ⟨a2, b2⟩
  have F2 : ∀ q : Nat, (q < x + 3 ∨ x + 8 ≤ q) → q ≠ x → μ2 q = μ1 q := fun q hq hx => (b2 q (by omega)).trans ((mu_ne (by omega)).trans (mu_ne hx))
  have c2 : μ2 x = some (xO 6 [.ref (x + 1), .null, .null, .null, .null, .null, .null, .null, .null]) := (b2 x (by omega)).trans ((mu_ne (by omega)).trans mu_self)
  first | refine r_putFS (pc := 23) X f_X6_19 rfl rfl dX6_init_23 (by first | rfl | assumption | decide | simp [narrow]) (by first | rfl | assumption) (Nat.le_of_ble_eq_true rfl) ?_ | refine r_putF (pc := 23) X f_X6_19 rfl rfl dX6_init_23 (by repeat (first | exact mu_self | assumption | refine (mu_ne (by omega)).trans ?_)) (by first | rfl | assumption | decide | simp [narrow]) (by first | rfl | assumption) (Nat.le_of_ble_eq_true rfl) ?_
  refine r_aload_n (pc := 26) X dX6_init_26 rfl ?_
  refine r_new' (pc := 27) X n_X6_16 dX6_init_27 (by omega) (by omega) (x + 8) (by omega) ?_
  refine r_dup (pc := 30) X dX6_init_30 rfl ?_
  refine c_v X (rI (pc := 31) X l_X6_18 (tI_Told (a := x + 8) mu_self (by omega)) dX6_init_31 rfl rfl (Nat.le_of_ble_eq_true rfl) (by decide) (Nat.le_of_ble_eq_true rfl) (Nat.le_of_ble_eq_true rfl)) ?_
  rintro μ3 ⟨a3, b3⟩
  have F3 : ∀ q : Nat, (q < x + 8 ∨ x + 13 ≤ q) → q ≠ x → μ3 q = μ2 q := fun q hq hx => (b3 q (by omega)).trans ((mu_ne (by omega)).trans (mu_ne hx))
  have c3 : μ3 x = some (xO 6 [.ref (x + 1), .ref (x + 3), .null, .null, .null, .null, .null, .null, .null]) := (b3 x (by omega)).trans ((mu_ne (by omega)).trans mu_self)
  first | refine r_putFS (pc := 34) X f_X6_23 rfl rfl dX6_init_34 (by first | rfl | assumption | decide | simp [narrow]) (by first | rfl | assumption) (Nat.le_of_ble_eq_true rfl) ?_ | refine r_putF (pc := 34) X f_X6_23 rfl rfl dX6_init_34 (by repeat (first | exact mu_self | assumption | refine (mu_ne (by omega)).trans ?_)) (by first | rfl | assumption | decide | simp [narrow]) (by first | rfl | assumption) (Nat.le_of_ble_eq_true rfl) ?_
  refine r_aload_n (pc := 37) X dX6_init_37 rfl ?_
  refine r_new' (pc := 38) X n_X6_26 dX6_init_38 (by omega) (by omega) (x + 13) (by omega) ?_
  refine r_dup (pc := 41) X dX6_init_41 rfl ?_
  refine c_v X (rIN (pc := 42) X l_X6_28 (tI_Scene (a := x + 13) mu_self (by omega)) dX6_init_42 rfl rfl (Nat.le_of_ble_eq_true rfl) (by decide) (Nat.le_of_ble_eq_true rfl) (Nat.le_of_ble_eq_true rfl)) ?_
  rintro μ4 ⟨a4, b4⟩
  have F4 : ∀ q : Nat, (q < x + 13 ∨ x + 15 ≤ q) → q ≠ x → μ4 q = μ3 q := fun q hq hx => (b4 q (by omega)).trans ((mu_ne (by omega)).trans (mu_ne hx))
  have c4 : μ4 x = some (xO 6 [.ref (x + 1), .ref (x + 3), .ref (x + 8), .null, .null, .null, .null, .null, .null]) := (b4 x (by omega)).trans ((mu_ne (by omega)).trans mu_self)
  first | refine r_putFS (pc := 45) X f_X6_29 rfl rfl dX6_init_45 (by first | rfl | assumption | decide | simp [narrow]) (by first | rfl | assumption) (Nat.le_of_ble_eq_true rfl) ?_ | refine r_putF (pc := 45) X f_X6_29 rfl rfl dX6_init_45 (by repeat (first | exact mu_self | assumption | refine (mu_ne (by omega)).trans ?_)) (by first | rfl | assumption | decide | simp [narrow]) (by first | rfl | assumption) (Nat.le_of_ble_eq_true rfl) ?_
  refine r_aload_n (pc := 48) X dX6_init_48 rfl ?_
  refine r_new' (pc := 49) X n_X6_33 dX6_init_49 (by omega) (by omega) (x + 15) (by omega) ?_
  refine r_dup (pc := 52) X dX6_init_52 rfl ?_
  refine c_v X (rI (pc := 53) X l_X6_35 (tI_Past (a := x + 15) mu_self (by omega)) dX6_init_53 rfl rfl (Nat.le_of_ble_eq_true rfl) (by decide) (Nat.le_of_ble_eq_true rfl) (Nat.le_of_ble_eq_true rfl)) ?_
  rintro μ5 ⟨a5, b5⟩
  have F5 : ∀ q : Nat, (q < x + 15 ∨ x + 33 ≤ q) → q ≠ x → μ5 q = μ4 q := fun q hq hx => (b5 q (by omega)).trans ((mu_ne (by omega)).trans (mu_ne hx))
  have c5 : μ5 x = some (xO 6 [.ref (x + 1), .ref (x + 3), .ref (x + 8), .ref (x + 13), .null, .null, .null, .null, .null]) := (b5 x (by omega)).trans ((mu_ne (by omega)).trans mu_self)
  first | refine r_putFS (pc := 56) X f_X6_36 rfl rfl dX6_init_56 (by first | rfl | assumption | decide | simp [narrow]) (by first | rfl | assumption) (Nat.le_of_ble_eq_true rfl) ?_ | refine r_putF (pc := 56) X f_X6_36 rfl rfl dX6_init_56 (by repeat (first | exact mu_self | assumption | refine (mu_ne (by omega)).trans ?_)) (by first | rfl | assumption | decide | simp [narrow]) (by first | rfl | assumption) (Nat.le_of_ble_eq_true rfl) ?_
  refine r_aload_n (pc := 59) X dX6_init_59 rfl ?_
  refine r_iconst (pc := 60) (v := nI 2) X dX6_init_60 (by decide) ?_
  refine r_newaS' (pc := 61) X cl_X6_26 dX6_init_61 (by decide) (by omega) (by omega) (x + 33) (by omega) ?_
  first | refine r_putFS (pc := 64) X f_X6_40 rfl rfl dX6_init_64 (by first | rfl | assumption | decide | simp [narrow]) (by first | rfl | assumption) (Nat.le_of_ble_eq_true rfl) ?_ | refine r_putF (pc := 64) X f_X6_40 rfl rfl dX6_init_64 (by repeat (first | exact mu_self | assumption | refine (mu_ne (by omega)).trans ?_)) (by first | rfl | assumption | decide | simp [narrow]) (by first | rfl | assumption) (Nat.le_of_ble_eq_true rfl) ?_
  refine r_iconst (pc := 67) (v := nI 0) X dX6_init_67 (by decide) ?_
  refine r_istore_n (pc := 68) X dX6_init_68 (by decide) rfl ?_
  refine r_iload_n (pc := 69) X dX6_init_69 rfl ?_
  refine r_iconst (pc := 70) (v := nI 2) X dX6_init_70 (by decide) ?_
  refine r_icmp_geN (pc := 71) X 93 dX6_init_71 (by decide) (by decide) (by decide) (fun q => absurd q (by decide)) (fun _ => ?_)
  refine r_aload_n (pc := 74) X dX6_init_74 rfl ?_
  apply r_get (pc := 75) X f_X6_40 dX6_init_75
  · repeat (first | exact mu_self | assumption | refine (mu_ne (by omega)).trans ?_)
  · rfl
  refine r_iload_n (pc := 78) X dX6_init_78 rfl ?_
  refine r_new' (pc := 79) X n_X6_26 dX6_init_79 (by omega) (by omega) (x + 34) (by omega) ?_
  refine r_dup (pc := 82) X dX6_init_82 rfl ?_
  refine c_v X (rIN (pc := 83) X l_X6_28 (tI_Scene (a := x + 34) mu_self (by omega)) dX6_init_83 rfl rfl (Nat.le_of_ble_eq_true rfl) (by decide) (Nat.le_of_ble_eq_true rfl) (Nat.le_of_ble_eq_true rfl)) ?_
  rintro μ6 ⟨a6, b6⟩
  have F6 : ∀ q : Nat, (q < x + 33 ∨ x + 36 ≤ q) → q ≠ x → μ6 q = μ5 q := fun q hq hx => (b6 q (by omega)).trans ((mu_ne (by omega)).trans ((mu_ne hx).trans ((mu_ne (by omega)).trans (mu_ne hx))))
  have c6 : μ6 x = some (xO 6 [.ref (x + 1), .ref (x + 3), .ref (x + 8), .ref (x + 13), .ref (x + 15), .ref (x + 33), .null, .null, .null]) := (b6 x (by omega)).trans ((mu_ne (by omega)).trans mu_self)
  have c6k : μ6 (x + 33) = some (xS Γ 2 (fun _ => none)) := (b6 _ (by omega)).trans ((mu_ne (by omega)).trans ((mu_ne (by omega)).trans mu_self))
  refine r_sast (pc := 86) X dX6_init_86 c6k a6.1 (by decide) (by decide) ?_
  refine r_iincN (pc := 87) (b := 1) X dX6_init_87 rfl (by decide) rfl ?_
  refine r_goto (pc := 90) X 69 dX6_init_90 (by decide) ?_
  refine r_iload_n (pc := 69) X dX6_init_69 rfl ?_
  refine r_iconst (pc := 70) (v := nI 2) X dX6_init_70 (by decide) ?_
  refine r_icmp_geN (pc := 71) X 93 dX6_init_71 (by decide) (by decide) (by decide) (fun q => absurd q (by decide)) (fun _ => ?_)
  refine r_aload_n (pc := 74) X dX6_init_74 rfl ?_
  apply r_get (pc := 75) X f_X6_40 dX6_init_75
  · repeat (first | exact mu_self | assumption | refine (mu_ne (by omega)).trans ?_)
  · rfl
  refine r_iload_n (pc := 78) X dX6_init_78 rfl ?_
  refine r_new' (pc := 79) X n_X6_26 dX6_init_79 (by omega) (by omega) (x + 36) (by omega) ?_
  refine r_dup (pc := 82) X dX6_init_82 rfl ?_
  refine c_v X (rIN (pc := 83) X l_X6_28 (tI_Scene (a := x + 36) mu_self (by omega)) dX6_init_83 rfl rfl (Nat.le_of_ble_eq_true rfl) (by decide) (Nat.le_of_ble_eq_true rfl) (Nat.le_of_ble_eq_true rfl)) ?_
  rintro μ7 ⟨a7, b7⟩
  have c7 : μ7 x = _ := (b7 x (by omega)).trans ((mu_ne (by omega)).trans ((mu_ne (by omega)).trans c6))
  have c7k : μ7 (x + 33) = _ := (b7 _ (by omega)).trans ((mu_ne (by omega)).trans mu_self)
  refine r_sast (pc := 86) X dX6_init_86 c7k a7.1 (by decide) (by decide) ?_
  have F7 : ∀ q : Nat, (q < x + 33 ∨ x + 38 ≤ q) → μ7 q = μ6 q := fun q hq => (b7 q (by omega)).trans ((mu_ne (by omega)).trans (mu_ne (by omega)))
  refine r_iincN (pc := 87) (b := 1) X dX6_init_87 rfl (by decide) rfl ?_
  refine r_goto (pc := 90) X 69 dX6_init_90 (by decide) ?_
  refine r_iload_n (pc := 69) X dX6_init_69 rfl ?_
  refine r_iconst (pc := 70) (v := nI 2) X dX6_init_70 (by decide) ?_
  refine r_icmp_geN (pc := 71) X 93 dX6_init_71 (by decide) (by decide) (by decide) (fun _ => ?_) (fun q => absurd (by decide) q)
  refine vV.sub (μ' := mu μ7 (x + 33) (xS Γ 2 (fun i => some (x + 33 + 1 + 2 * i)))) (fun H hP => ?_) ?_
  · refine hP.to (fun b e hb => ?_)
    by_cases hq : b = x + 33
    · subst hq
      rw [mu_self] at hb
      cases hb
      refine ⟨_, mu_self, fun H2 hH => ?_⟩
      have e1 : H2[x + 33]? = some (vp_cell (kcS Γ) (2, .inr (.inr (.inr (.inr (va_up (va_up (fun _ => none) 0 (some (x + 34))) (0 + 1) (some (x + 36)))))))) := hH
      show H2[x + 33]? = some (vp_cell (kcS Γ) (2, .inr (.inr (.inr (.inr (fun i => some (x + 33 + 1 + 2 * i)))))))
      rw [e1, vp_cell_q, vp_cell_q, arrV_congr (fun j hj => ?_)]
      rcases (show j = 0 ∨ j = 1 by omega) with rfl | rfl <;> rfl
    · rw [mu_ne hq] at hb
      exact ⟨e, by rw [mu_ne hq]; exact hb, fun _ hH => hH⟩
  obtain ⟨μ8, hμ8⟩ : ∃ μ8, μ8 = mu μ7 (x + 33) (xS Γ 2 (fun i => some (x + 33 + 1 + 2 * i))) := ⟨_, rfl⟩
  have F8 : ∀ q : Nat, q ≠ x + 33 → μ8 q = μ7 q := fun q hq => by rw [hμ8]; exact mu_ne hq
  have k8 : μ8 (x + 33) = some (xS Γ 2 (fun i => some (x + 33 + 1 + 2 * i))) := by rw [hμ8]; exact mu_self
  rw [← hμ8]
  have c8 : μ8 x = some (xO 6 [.ref (x + 1), .ref (x + 3), .ref (x + 8), .ref (x + 13), .ref (x + 15), .ref (x + 33), .null, .null, .null]) := (F8 x (by omega)).trans c7
  refine r_aload_n (pc := 93) X dX6_init_93 rfl ?_
  refine r_iconst (pc := 94) (v := nI 2) X dX6_init_94 (by decide) ?_
  refine r_newaZ' (pc := 95) X ac_Z dX6_init_95 (by decide) (by omega) (by omega) (x + 38) (by omega) ?_
  first | refine r_putFS (pc := 97) X f_X6_44 rfl rfl dX6_init_97 (by first | rfl | assumption | decide | simp [narrow]) (by first | rfl | assumption) (Nat.le_of_ble_eq_true rfl) ?_ | refine r_putF (pc := 97) X f_X6_44 rfl rfl dX6_init_97 (by repeat (first | exact mu_self | assumption | refine (mu_ne (by omega)).trans ?_)) (by first | rfl | assumption | decide | simp [narrow]) (by first | rfl | assumption) (Nat.le_of_ble_eq_true rfl) ?_
  refine r_aload_n (pc := 100) X dX6_init_100 rfl ?_
  refine r_new' (pc := 101) X n_X6_48 dX6_init_101 (by omega) (by omega) (x + 39) (by omega) ?_
  refine r_dup (pc := 104) X dX6_init_104 rfl ?_
  refine c_v X (rIN (pc := 105) X l_X6_50 (tI_Planner (a := x + 39) mu_self (by omega)) dX6_init_105 rfl rfl (Nat.le_of_ble_eq_true rfl) (by decide) (Nat.le_of_ble_eq_true rfl) (Nat.le_of_ble_eq_true rfl)) ?_
  rintro μ9 ⟨a9, b9⟩
  have F9 : ∀ q : Nat, (q < x + 38 ∨ x + 42 ≤ q) → q ≠ x → μ9 q = μ8 q := fun q hq hx => (b9 q (by omega)).trans ((mu_ne (by omega)).trans ((mu_ne hx).trans (mu_ne (by omega))))
  have z9 : μ9 (x + 38) = some (xZ Γ 2 (fun _ => nI 0)) := (b9 _ (by omega)).trans ((mu_ne (by omega)).trans ((mu_ne (by omega)).trans mu_self))
  have c9 : μ9 x = some (xO 6 [.ref (x + 1), .ref (x + 3), .ref (x + 8), .ref (x + 13), .ref (x + 15), .ref (x + 33), .ref (x + 38), .null, .null]) := (b9 x (by omega)).trans ((mu_ne (by omega)).trans mu_self)
  first | refine r_putFS (pc := 108) X f_X6_51 rfl rfl dX6_init_108 (by first | rfl | assumption | decide | simp [narrow]) (by first | rfl | assumption) (Nat.le_of_ble_eq_true rfl) ?_ | refine r_putF (pc := 108) X f_X6_51 rfl rfl dX6_init_108 (by repeat (first | exact mu_self | assumption | refine (mu_ne (by omega)).trans ?_)) (by first | rfl | assumption | decide | simp [narrow]) (by first | rfl | assumption) (Nat.le_of_ble_eq_true rfl) ?_
  refine r_aload_n (pc := 111) X dX6_init_111 rfl ?_
  refine r_new' (pc := 112) X n_X6_55 dX6_init_112 (by omega) (by omega) (x + 42) (by omega) ?_
  refine r_dup (pc := 115) X dX6_init_115 rfl ?_
  refine c_v X (rIN (pc := 116) X l_X6_57 (tI_Sights (a := x + 42) mu_self (by omega)) dX6_init_116 rfl rfl (Nat.le_of_ble_eq_true rfl) (by decide) (Nat.le_of_ble_eq_true rfl) (Nat.le_of_ble_eq_true rfl)) ?_
  rintro μ10 ⟨a10, b10⟩
  have F10 : ∀ q : Nat, (q < x + 42 ∨ x + 46 ≤ q) → q ≠ x → μ10 q = μ9 q := fun q hq hx => (b10 q (by omega)).trans ((mu_ne (by omega)).trans (mu_ne hx))
  have c10 : μ10 x = some (xO 6 [.ref (x + 1), .ref (x + 3), .ref (x + 8), .ref (x + 13), .ref (x + 15), .ref (x + 33), .ref (x + 38), .ref (x + 39), .null]) := (b10 x (by omega)).trans ((mu_ne (by omega)).trans mu_self)
  first | refine r_putFS (pc := 119) X f_X6_58 rfl rfl dX6_init_119 (by first | rfl | assumption | decide | simp [narrow]) (by first | rfl | assumption) (Nat.le_of_ble_eq_true rfl) ?_ | refine r_putF (pc := 119) X f_X6_58 rfl rfl dX6_init_119 (by repeat (first | exact mu_self | assumption | refine (mu_ne (by omega)).trans ?_)) (by first | rfl | assumption | decide | simp [narrow]) (by first | rfl | assumption) (Nat.le_of_ble_eq_true rfl) ?_
  obtain ⟨μ11, hμ11⟩ : ∃ μ11, μ11 = mu μ10 x (xO 6 [.ref (x + 1), .ref (x + 3), .ref (x + 8), .ref (x + 13), .ref (x + 15), .ref (x + 33), .ref (x + 38), .ref (x + 39), .ref (x + 42)]) := ⟨_, rfl⟩
  have F11 : ∀ q : Nat, q ≠ x → μ11 q = μ10 q := fun q hq => by rw [hμ11]; exact mu_ne hq
  have c11 : μ11 x = some (xO 6 [.ref (x + 1), .ref (x + 3), .ref (x + 8), .ref (x + 13), .ref (x + 15), .ref (x + 33), .ref (x + 38), .ref (x + 39), .ref (x + 42)]) := by rw [hμ11]; exact mu_self
  refine vV.sub (μ' := μ11) (fun H hP => by rw [hμ11]; exact hP) ?_
  have G5 : ∀ q : Nat, q ≠ x → (q < x + 33) → μ11 q = μ5 q := fun q hq h1 => (F11 q hq).trans ((F10 q (by omega) hq).trans ((F9 q (by omega) hq).trans ((F8 q (by omega)).trans ((F7 q (by omega)).trans (F6 q (by omega) hq)))))
  have t2 : ToldAt Γ μ11 (x + 3) T00 := a2.kept (fun q h1 h2 => (G5 q (by omega) (by omega)).trans ((F5 q (by omega) (by omega)).trans ((F4 q (by omega) (by omega)).trans (F3 q (by omega) (by omega)))))
  have t4 : ScAt Γ μ11 (x + 13) (fun _ => nI 0) (fun _ => nI 0) := a4.kept (fun q h1 h2 => (G5 q (by omega) (by omega)).trans (F5 q (by omega) (by omega)))
  have t40 := t4.1
  have t20 := t2.1
  refine r_aload_n (pc := 122) X dX6_init_122 rfl ?_
  apply r_get (pc := 123) X f_X6_29 dX6_init_123
  · repeat (first | exact mu_self | assumption | refine (mu_ne (by omega)).trans ?_)
  · rfl
  refine r_aload_n (pc := 126) X dX6_init_126 rfl ?_
  apply r_get (pc := 127) X f_X6_19 dX6_init_127
  · repeat (first | exact mu_self | assumption | refine (mu_ne (by omega)).trans ?_)
  · rfl
  refine c_v X (rV (pc := 130) (ci := 2) X l_X6_62 (t2_begin t4 t2 (by decide) (by omega)) dX6_init_130 (by repeat (first | exact mu_self | assumption | refine (mu_ne (by omega)).trans ?_)) rfl rfl rfl (Nat.le_of_ble_eq_true rfl) (by decide) (Nat.le_of_ble_eq_true rfl) (Nat.le_of_ble_eq_true rfl)) ?_
  rintro μ12 ⟨a12, b12⟩
  have G12 : ∀ q : Nat, (q < x + 13 ∨ x + 15 ≤ q) → μ12 q = μ11 q := fun q hq => b12 q (by omega)
  have hW : WC Γ μ12 x T00 S00 0 (fun _ _ => 0) (fun _ => false) (fun _ _ => 0) 0 (fun _ => 0) 0 (fun _ => 0) := by
    refine ⟨(G12 x (by omega)).trans c11, ⟨_, _, _, a1.kept (fun q h1 h2 => (G12 q (by omega)).trans ((G5 q (by omega) (by omega)).trans ((F5 q (by omega) (by omega)).trans ((F4 q (by omega) (by omega)).trans ((F3 q (by omega) (by omega)).trans (F2 q (by omega) (by omega)))))))⟩, t2.kept (fun q h1 h2 => G12 q (by omega)), ⟨T00, a3.kept (fun q h1 h2 => (G12 q (by omega)).trans ((G5 q (by omega) (by omega)).trans ((F5 q (by omega) (by omega)).trans (F4 q (by omega) (by omega)))))⟩, a12, ⟨0, _, _, by decide, a5.kept (fun q h1 h2 => (G12 q (by omega)).trans (G5 q (by omega) (by omega))), fun i hi => absurd hi (by omega)⟩, ⟨fun _ _ => nI 0, fun _ _ => nI 0, ⟨?_, fun i hi => ?_⟩, fun i _ hz => by cases hz⟩, ?_, ⟨_, _, a9.kept (fun q h1 h2 => (G12 q (by omega)).trans ((F11 q (by omega)).trans (F10 q (by omega) (by omega)))), fun j _ => rfl⟩, a10.kept (fun q h1 h2 => (G12 q (by omega)).trans (F11 q (by omega)))⟩
    · exact (G12 _ (by omega)).trans ((F11 _ (by omega)).trans ((F10 _ (by omega) (by omega)).trans ((F9 _ (by omega) (by omega)).trans k8)))
    · rcases (show i = 0 ∨ i = 1 by omega) with rfl | rfl
      · exact a6.kept (fun q h1 h2 => (G12 q (by omega)).trans ((F11 q (by omega)).trans ((F10 q (by omega) (by omega)).trans ((F9 q (by omega) (by omega)).trans ((F8 q (by omega)).trans ((b7 q (by omega)).trans ((mu_ne (by omega)).trans (mu_ne (by omega)))))))))
      · exact a7.kept (fun q h1 h2 => (G12 q (by omega)).trans ((F11 q (by omega)).trans ((F10 q (by omega) (by omega)).trans ((F9 q (by omega) (by omega)).trans (F8 q (by omega))))))
    · exact (G12 _ (by omega)).trans ((F11 _ (by omega)).trans ((F10 _ (by omega) (by omega)).trans z9))
  exact r_vret (pc := 133) X dX6_init_133 (⟨hW, fun q hq => (G12 q (by omega)).trans ((F11 q (by omega)).trans ((F10 q (by omega) (by omega)).trans ((F9 q (by omega) (by omega)).trans ((F8 q (by omega)).trans ((F7 q (by omega)).trans ((F6 q (by omega) (by omega)).trans ((F5 q (by omega) (by omega)).trans ((F4 q (by omega) (by omega)).trans ((F3 q (by omega) (by omega)).trans ((F2 q (by omega) (by omega)).trans (F1 q (by omega))))))))))))⟩)
end S32
