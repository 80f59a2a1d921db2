set_option maxHeartbeats 4000000 in
set_option maxRecDepth 100000 in
theorem kX4_pass (l : Launch) (D : va_G) (cI cZ : ClassId) (X : Nat → Nat) (S : Nat → Nat → Int32) (O : Nat → Bool) (V : Nat → Int32) (sz : Nat) (x0 : Int32) (hw0 : ¬ x0 < 1) (hw3 : x0 ≤ 300) (n0 : Nat) (hn0 : n0 ≤ 30) (hct : V 1 = nI n0) (hpe : ∀ j : Nat, j < n0 → vp_in (S 11 j) 10) : Met l yX4_pass wsX4_pass ({ frames := 6, cells := 0, slots := 0, locals := 90 } : Room) (zW D (tyl cI cZ) (hW cI cZ X S O V) sz [.ref (X 0), .int x0]) (zQi D (tyl cI cZ) (hW cI cZ X (c_doS S (V 0 + x0) 4) (c_edO (c_doS S (V 0 + x0) 4) O (va_up V 0 (V 0 + x0)) (V 0 + x0) n0) (va_up V 0 (V 0 + x0))) (c_edN (c_doS S (V 0 + x0) 4) O (va_up V 0 (V 0 + x0)) (V 0 + x0) n0) (va_A (hW cI cZ X S O V) sz)) 0 0 (va_A (hW cI cZ X S O V) sz) := by
  refine Met.ofW (cc := cX4_pass) (maxL := 2) (ret := (some .int)) (by decide) rfl ?_
  intro p e s m args below meth c s₁ B hml hv
  obtain ⟨rfl, hsz, hP, hK, hD0⟩ := hv
  have hx := B.exec
  have hb := B.bytes
  have hr := B.returns
  have hts := atoms_spec (ws := wsX4_pass) B.pre
  have hown : s.vm.findClass RX4 = some m.cls := findClass_of_methodNamed B.named
  have hlocks := B.notSynchronized
  subst hsz
  have hD := hD0.self (sz := s.heap.size)
  generalize hAe : va_A (hW cI cZ X S O V) s.heap.size = A at hD ⊢
  have hA : ∀ q : Nat, s.heap.size ≤ q → A q := fun q h => by rw [← hAe]; exact Or.inr h
  have hS : va_S A s.heap s.heap [] := va_S.rf
  have i4 : ∀ w ∈ u_ws RX4 TX4 7, w ∈ wsX4_pass := by decide +kernel
  have fl_19 := hts (.fieldLink RX4 19 "SignOnHouse" "sessions" "LSignOnHouse$Sessions;") (by decide +kernel)
  have fl_26 := hts (.fieldLink RX4 26 "SignOnHouse" "keys" "LSignOnHouse$Keys;") (by decide +kernel)
  have fl_33 := hts (.fieldLink RX4 33 "SignOnHouse" "decisions" "LSignOnHouse$Decisions;") (by decide +kernel)
  have fl_37 := hts (.fieldLink RX4 37 "SignOnHouse" "risks" "[I") (by decide +kernel)
  have fl_44 := hts (.fieldLink RX4 44 "SignOnHouse" "minute" "I") (by decide +kernel)
  have hl := lv_entry ([.ref (X 0), .int x0]) (n := 2) (Nat.le_of_ble_eq_true rfl)
  rw [lg_entry_eq]
  generalize (lg_sl ([.ref (X 0), .int x0]) ++ List.replicate (2 - (lg_sl ([.ref (X 0), .int x0])).length) Slot.unset).toArray = ls at hl ⊢
  have hl : lv_has ls 2 [(0, .ref (X 0)), (1, .int x0)] := hl
  refine lv_iload_n hx hb dX4_pass_0 rfl (lv_at hl 1 rfl) ?_
  refine lv_iconst (v := 1) hx hb dX4_pass_1 rfl ?_
  refine lv_icmp_lt (tgt := 12) hx hb dX4_pass_2 (by decide) (fun q => absurd q hw0) (fun _ => ?_)
  refine lv_iload_n hx hb dX4_pass_5 rfl (lv_at hl 1 rfl) ?_
  refine lv_sipush (v := 300) hx hb dX4_pass_6 (by decide) ?_
  refine lv_icmp_le (tgt := 22) hx hb dX4_pass_9 (by decide) (fun _ => ?_) (fun q => absurd hw3 q)
  refine lv_aload_n hx hb dX4_pass_22 rfl (lv_at hl 0 rfl) ?_
  refine lv_dup hx hb dX4_pass_23 rfl ?_
  refine va_get (D := D) (ci := 4) (v := .int (V 0)) (C := RX4) (T := TX4) (N := 7) hx hb hts i4 hown hK hP 0 rfl rfl 6 (by decide) fl_44 (fun _ h9 => h9) rfl dX4_pass_24 ?_
  refine lv_iload_n hx hb dX4_pass_27 rfl (lv_at hl 1 rfl) ?_
  refine lv_iadd hx hb dX4_pass_28 ?_
  refine va_put (D := D) (ci := 4) (v := .int ((V 0) + x0)) (ty := .int) (C := RX4) (T := TX4) (N := 7) hx hb hts i4 tyX4 tyX4_ok nmX4 hown hK hP hD hS 0 rfl rfl 6 (by decide) fl_44 (fun _ h9 => h9) rfl (by decide +kernel) rfl rfl (Nat.le_of_ble_eq_true rfl) dX4_pass_29 (fun H locs hP hD hS => ?_)
  have hP : va_P D vwCl (hW cI cZ X S O (va_up V 0 ((V 0) + x0))) H := hP
  have hD : va_D A (hW cI cZ X S O (va_up V 0 ((V 0) + x0))) := hD
  refine lv_aload_n hx hb dX4_pass_32 rfl (lv_at hl 0 rfl) ?_
  refine va_get (D := D) (ci := 4) (v := .ref (X 4)) (C := RX4) (T := TX4) (N := 7) hx hb hts i4 hown hK hP 0 rfl rfl 3 (by decide) fl_33 (fun _ h9 => h9) rfl dX4_pass_33 ?_
  refine lv_aload_n hx hb dX4_pass_36 rfl (lv_at hl 0 rfl) ?_
  refine va_get (D := D) (ci := 4) (v := .int ((V 0) + x0)) (C := RX4) (T := TX4) (N := 7) hx hb hts i4 hown hK hP 0 rfl rfl 6 (by decide) fl_44 (fun _ h9 => h9) rfl dX4_pass_37 ?_
  have hF := z_free hD hS hA
  refine z_callWv (va_runV (As := [.int ((V 0) + x0)]) (rest := []) ⟨hx, hb, hml, hown, hts⟩ (kX0_dropDueOfAll l D cI cZ X S O (va_up V 0 ((V 0) + x0)) _ ((V 0) + x0)) (cwV 1 hts gX4_pass_X0_dropDueOfAll rfl rfl rfl (by decide +kernel) ⟨Nat.le_of_ble_eq_true rfl, Nat.le_of_ble_eq_true rfl⟩) (zW_preV 4 0 hK hP hD rfl rfl) rfl rfl hl.1 rfl (lv_room (Nat.le_of_ble_eq_true rfl)) dX4_pass_40 ⟨Nat.zero_le _, Nat.zero_le _⟩) hS hF (fun H locs hP hD hS => ?_)
  obtain ⟨S1, hS1⟩ : ∃ z, z = c_doS S ((V 0) + x0) 4 := ⟨_, rfl⟩
  rw [← hS1] at hP hD
  refine lv_aload_n hx hb dX4_pass_43 rfl (lv_at hl 0 rfl) ?_
  refine va_get (D := D) (ci := 4) (v := .ref (X 2)) (C := RX4) (T := TX4) (N := 7) hx hb hts i4 hown hK hP 0 rfl rfl 1 (by decide) fl_19 (fun _ h9 => h9) rfl dX4_pass_44 ?_
  refine lv_aload_n hx hb dX4_pass_47 rfl (lv_at hl 0 rfl) ?_
  refine va_get (D := D) (ci := 4) (v := .int ((V 0) + x0)) (C := RX4) (T := TX4) (N := 7) hx hb hts i4 hown hK hP 0 rfl rfl 6 (by decide) fl_44 (fun _ h9 => h9) rfl dX4_pass_48 ?_
  refine lv_aload_n hx hb dX4_pass_51 rfl (lv_at hl 0 rfl) ?_
  refine va_get (D := D) (ci := 4) (v := .ref (X 5)) (C := RX4) (T := TX4) (N := 7) hx hb hts i4 hown hK hP 0 rfl rfl 4 (by decide) fl_37 (fun _ h9 => h9) rfl dX4_pass_52 ?_
  refine lv_aload_n hx hb dX4_pass_55 rfl (lv_at hl 0 rfl) ?_
  refine va_get (D := D) (ci := 4) (v := .ref (X 3)) (C := RX4) (T := TX4) (N := 7) hx hb hts i4 hown hK hP 0 rfl rfl 2 (by decide) fl_26 (fun _ h9 => h9) rfl dX4_pass_56 ?_
  have hF := z_free hD hS hA
  refine z_callWi (va_runV (As := [.int ((V 0) + x0), .ref (X 5), .ref (X 3)]) (rest := []) ⟨hx, hb, hml, hown, hts⟩ (kX3_endDue l D cI cZ X S1 O (va_up V 0 ((V 0) + x0)) _ ((V 0) + x0) n0 hn0 hct (fun j hj => by rw [hS1, c_doS_ne _ _ _ _ (by decide)]; exact hpe j hj)) (cwV 3 hts gX4_pass_X3_endDue rfl rfl rfl (by decide +kernel) ⟨Nat.le_of_ble_eq_true rfl, Nat.le_of_ble_eq_true rfl⟩) (zW_preV 2 3 hK hP hD rfl rfl) rfl rfl hl.1 rfl (lv_room (Nat.le_of_ble_eq_true rfl)) dX4_pass_59 ⟨Nat.zero_le _, Nat.zero_le _⟩) hS hF (fun H locs hP hD hS => ?_)
  have eO : (c_edO (c_doS S (V 0 + x0) 4) O (va_up V 0 (V 0 + x0)) (V 0 + x0) n0) = (c_edO S1 O (va_up V 0 ((V 0) + x0)) ((V 0) + x0) n0) := by first | (rw [hS1]; done) | (rw [hS1]; rfl) | rfl
  have eV : (va_up V 0 (V 0 + x0)) = (va_up V 0 ((V 0) + x0)) := by first | (rw [hS1]; done) | (rw [hS1]; rfl) | rfl
  have eS : (c_doS S (V 0 + x0) 4) = S1 := by first | (rw [hS1]; done) | (rw [hS1]; rfl) | rfl
  exact z_wret hx hb hr hlocks (by rw [eO, eV, eS]; exact hP) hK (by rw [eO, eV, eS]; exact hD) hS (by first | (rw [hS1]; done) | (rw [hS1]; rfl) | rfl) dX4_pass_62

set_option maxHeartbeats 4000000 in
set_option maxRecDepth 100000 in
theorem kX4_setCache (l : Launch) (D : va_G) (cI cZ : ClassId) (X : Nat → Nat) (S : Nat → Nat → Int32) (O : Nat → Bool) (V : Nat → Int32) (sz : Nat) (ai : Nat) (x1 : Int32) (hai : ai < 4) (hw0 : ¬ x1 < 0) (hw6 : x1 ≤ 60) : Met l yX4_setCache wsX4_setCache ({ frames := 6, cells := 0, slots := 0, locals := 90 } : Room) (zW D (tyl cI cZ) (hW cI cZ X S O V) sz [.ref (X 0), .int (nI ai), .int x1]) (zQi D (tyl cI cZ) (hW cI cZ X (c_ddS (va_up S 16 (upd (S 16) ai x1)) ai (V 0) 60) O V) (S 16 ai) (va_A (hW cI cZ X S O V) sz)) 0 0 (va_A (hW cI cZ X S O V) sz) := by
  refine Met.ofW (cc := cX4_setCache) (maxL := 4) (ret := (some .int)) (by decide) rfl ?_
  intro p e s m args below meth c s₁ B hml hv
  obtain ⟨rfl, hsz, hP, hK, hD0⟩ := hv
  have hx := B.exec
  have hb := B.bytes
  have hr := B.returns
  have hts := atoms_spec (ws := wsX4_setCache) B.pre
  have hown : s.vm.findClass RX4 = some m.cls := findClass_of_methodNamed B.named
  have hlocks := B.notSynchronized
  subst hsz
  have hD := hD0.self (sz := s.heap.size)
  generalize hAe : va_A (hW cI cZ X S O V) s.heap.size = A at hD ⊢
  have hA : ∀ q : Nat, s.heap.size ≤ q → A q := fun q h => by rw [← hAe]; exact Or.inr h
  have hS : va_S A s.heap s.heap [] := va_S.rf
  have i4 : ∀ w ∈ u_ws RX4 TX4 7, w ∈ wsX4_setCache := by decide +kernel
  have fl_33 := hts (.fieldLink RX4 33 "SignOnHouse" "decisions" "LSignOnHouse$Decisions;") (by decide +kernel)
  have fl_44 := hts (.fieldLink RX4 44 "SignOnHouse" "minute" "I") (by decide +kernel)
  have hl := lv_entry ([.ref (X 0), .int (nI ai), .int x1]) (n := 4) (Nat.le_of_ble_eq_true rfl)
  rw [lg_entry_eq]
  generalize (lg_sl ([.ref (X 0), .int (nI ai), .int x1]) ++ List.replicate (4 - (lg_sl ([.ref (X 0), .int (nI ai), .int x1])).length) Slot.unset).toArray = ls at hl ⊢
  have hl : lv_has ls 4 [(0, .ref (X 0)), (1, .int (nI ai)), (2, .int x1)] := hl
  have ok0 : c_out (nI ai) 4 = false := c_out_lt (n := 4) hai (by decide)
  refine lv_iload_n hx hb dX4_setCache_0 rfl (lv_at hl 1 rfl) ?_
  refine lv_iconst (v := 4) hx hb dX4_setCache_1 rfl ?_
  refine z_callR (W.runS (As := [.int (nI ai), .int 4]) (rest := []) ⟨hx, hb, hml, hown, hts⟩ (kX4_isOutside l (nI ai) 4) (va_cwS 2 hts gX4_setCache_X4_isOutside rfl rfl rfl (by decide +kernel) ⟨Nat.le_of_ble_eq_true rfl, Nat.le_of_ble_eq_true rfl⟩) zP_pre rfl rfl hl.1 rfl (lv_room (Nat.le_of_ble_eq_true rfl)) dX4_setCache_2 ⟨Nat.zero_le _, Nat.zero_le _⟩) ?_
  refine z_if_ne (tgt := 18) hx hb dX4_setCache_5 (by decide) (fun q => absurd (ok0.symm.trans q) (by decide)) (fun _ => ?_)
  refine lv_iload_n hx hb dX4_setCache_8 rfl (lv_at hl 2 rfl) ?_
  refine lv_if_lt (tgt := 18) hx hb dX4_setCache_9 (by decide) (fun q => absurd q hw0) (fun _ => ?_)
  refine lv_iload_n hx hb dX4_setCache_12 rfl (lv_at hl 2 rfl) ?_
  refine lv_bipush (v := 60) hx hb dX4_setCache_13 (by decide) ?_
  refine lv_icmp_le (tgt := 28) hx hb dX4_setCache_15 (by decide) (fun _ => ?_) (fun q => absurd hw6 q)
  refine lv_aload_n hx hb dX4_setCache_28 rfl (lv_at hl 0 rfl) ?_
  refine va_get (D := D) (ci := 4) (v := .ref (X 4)) (C := RX4) (T := TX4) (N := 7) hx hb hts i4 hown hK hP 0 rfl rfl 3 (by decide) fl_33 (fun _ h9 => h9) rfl dX4_setCache_29 ?_
  refine lv_iload_n hx hb dX4_setCache_32 rfl (lv_at hl 1 rfl) ?_
  refine z_callR (W.runV (As := [.int (nI ai)]) (rest := []) ⟨hx, hb, hml, hown, hts⟩ (kX0_cacheOf l D cI cZ X S O V ai (by omega)) (cwV 1 hts gX4_setCache_X0_cacheOf rfl rfl rfl (by decide +kernel) ⟨Nat.le_of_ble_eq_true rfl, Nat.le_of_ble_eq_true rfl⟩) (zR_preV 4 0 hK hP rfl rfl) rfl rfl hl.1 rfl (lv_room (Nat.le_of_ble_eq_true rfl)) dX4_setCache_33 ⟨Nat.zero_le _, Nat.zero_le _⟩) ?_
  refine lv_istore_n (lv' := [(3, .int (S 16 ai)), (0, .ref (X 0)), (1, .int (nI ai)), (2, .int x1)]) hx hb dX4_setCache_36 rfl hl (by decide) rfl (fun ls hl => ?_)
  refine lv_aload_n hx hb dX4_setCache_37 rfl (lv_at hl 1 rfl) ?_
  refine va_get (D := D) (ci := 4) (v := .ref (X 4)) (C := RX4) (T := TX4) (N := 7) hx hb hts i4 hown hK hP 0 rfl rfl 3 (by decide) fl_33 (fun _ h9 => h9) rfl dX4_setCache_38 ?_
  refine lv_iload_n hx hb dX4_setCache_41 rfl (lv_at hl 2 rfl) ?_
  refine lv_iload_n hx hb dX4_setCache_42 rfl (lv_at hl 3 rfl) ?_
  have hF := z_free hD hS hA
  refine z_callWv (va_runV (As := [.int (nI ai), .int x1]) (rest := []) ⟨hx, hb, hml, hown, hts⟩ (kX0_allowCache l D cI cZ X S O V _ ai x1 (by omega)) (cwV 2 hts gX4_setCache_X0_allowCache rfl rfl rfl (by decide +kernel) ⟨Nat.le_of_ble_eq_true rfl, Nat.le_of_ble_eq_true rfl⟩) (zW_preV 4 0 hK hP hD rfl rfl) rfl rfl hl.1 rfl (lv_room (Nat.le_of_ble_eq_true rfl)) dX4_setCache_43 ⟨Nat.zero_le _, Nat.zero_le _⟩) hS hF (fun H locs hP hD hS => ?_)
  refine lv_aload_n hx hb dX4_setCache_46 rfl (lv_at hl 1 rfl) ?_
  refine va_get (D := D) (ci := 4) (v := .ref (X 4)) (C := RX4) (T := TX4) (N := 7) hx hb hts i4 hown hK hP 0 rfl rfl 3 (by decide) fl_33 (fun _ h9 => h9) rfl dX4_setCache_47 ?_
  refine lv_iload_n hx hb dX4_setCache_50 rfl (lv_at hl 2 rfl) ?_
  refine lv_aload_n hx hb dX4_setCache_51 rfl (lv_at hl 1 rfl) ?_
  refine va_get (D := D) (ci := 4) (v := .int (V 0)) (C := RX4) (T := TX4) (N := 7) hx hb hts i4 hown hK hP 0 rfl rfl 6 (by decide) fl_44 (fun _ h9 => h9) rfl dX4_setCache_52 ?_
  have hF := z_free hD hS hA
  refine z_callWv (va_runV (As := [.int (nI ai), .int (V 0)]) (rest := []) ⟨hx, hb, hml, hown, hts⟩ (kX0_dropDue l D cI cZ X (va_up S 16 (upd (S 16) ai x1)) O V _ ai (V 0) (by omega)) (cwV 2 hts gX4_setCache_X0_dropDue rfl rfl rfl (by decide +kernel) ⟨Nat.le_of_ble_eq_true rfl, Nat.le_of_ble_eq_true rfl⟩) (zW_preV 4 0 hK hP hD rfl rfl) rfl rfl hl.1 rfl (lv_room (Nat.le_of_ble_eq_true rfl)) dX4_setCache_55 ⟨Nat.zero_le _, Nat.zero_le _⟩) hS hF (fun H locs hP hD hS => ?_)
  refine lv_iload_n hx hb dX4_setCache_58 rfl (lv_at hl 0 rfl) ?_
  exact z_wret hx hb hr hlocks hP hK hD hS rfl dX4_setCache_59

set_option maxHeartbeats 4000000 in
set_option maxRecDepth 100000 in
theorem kX4_decide (l : Launch) (D : va_G) (cI cZ : ClassId) (X : Nat → Nat) (S : Nat → Nat → Int32) (O : Nat → Bool) (V : Nat → Int32) (sz : Nat) (ai : Nat) (si : Nat) (ri : Nat) (hai : ai < 4) (hri : ri < 6) (n0 : Nat) (hn0 : n0 ≤ 30) (hct : V 1 = nI n0) (hsn : si < n0) (pi : Nat) (hpi : pi < 10) (epi : S 11 si = nI pi) : Met l yX4_decide wsX4_decide ({ frames := 6, cells := 0, slots := 0, locals := 136 } : Room) (zW D (tyl cI cZ) (hW cI cZ X S O V) sz [.ref (X 0), .int (nI ai), .int (nI si), .int (nI ri)]) (zQi D (tyl cI cZ) (hW cI cZ X (if O si = true then S else c_appS (va_up S 14 (upd (S 14) si (V 0))) V ai pi ri) O V) (if O si = true then 2 else c_appR (va_up S 14 (upd (S 14) si (V 0))) V ai pi ri) (va_A (hW cI cZ X S O V) sz)) 0 0 (va_A (hW cI cZ X S O V) sz) := by
  refine Met.ofW (cc := cX4_decide) (maxL := 4) (ret := (some .int)) (by decide) rfl ?_
  intro p e s m args below meth c s₁ B hml hv
  obtain ⟨rfl, hsz, hP, hK, hD0⟩ := hv
  have hx := B.exec
  have hb := B.bytes
  have hr := B.returns
  have hts := atoms_spec (ws := wsX4_decide) B.pre
  have hown : s.vm.findClass RX4 = some m.cls := findClass_of_methodNamed B.named
  have hlocks := B.notSynchronized
  subst hsz
  have hD := hD0.self (sz := s.heap.size)
  generalize hAe : va_A (hW cI cZ X S O V) s.heap.size = A at hD ⊢
  have hA : ∀ q : Nat, s.heap.size ≤ q → A q := fun q h => by rw [← hAe]; exact Or.inr h
  have hS : va_S A s.heap s.heap [] := va_S.rf
  have i4 : ∀ w ∈ u_ws RX4 TX4 7, w ∈ wsX4_decide := by decide +kernel
  have fl_19 := hts (.fieldLink RX4 19 "SignOnHouse" "sessions" "LSignOnHouse$Sessions;") (by decide +kernel)
  have fl_44 := hts (.fieldLink RX4 44 "SignOnHouse" "minute" "I") (by decide +kernel)
  have hl := lv_entry ([.ref (X 0), .int (nI ai), .int (nI si), .int (nI ri)]) (n := 4) (Nat.le_of_ble_eq_true rfl)
  rw [lg_entry_eq]
  generalize (lg_sl ([.ref (X 0), .int (nI ai), .int (nI si), .int (nI ri)]) ++ List.replicate (4 - (lg_sl ([.ref (X 0), .int (nI ai), .int (nI si), .int (nI ri)])).length) Slot.unset).toArray = ls at hl ⊢
  have hl : lv_has ls 4 [(0, .ref (X 0)), (1, .int (nI ai)), (2, .int (nI si)), (3, .int (nI ri))] := hl
  have ok0 : c_out (nI ai) 4 = false := c_out_lt (n := 4) hai (by decide)
  have ok1 : c_out (nI ri) 6 = false := c_out_lt (n := 6) hri (by decide)
  have ok2 : c_has V (nI si) = true := c_has_lt hct hn0 hsn
  refine lv_iload_n hx hb dX4_decide_0 rfl (lv_at hl 1 rfl) ?_
  refine lv_iconst (v := 4) hx hb dX4_decide_1 rfl ?_
  refine z_callR (W.runS (As := [.int (nI ai), .int 4]) (rest := []) ⟨hx, hb, hml, hown, hts⟩ (kX4_isOutside l (nI ai) 4) (va_cwS 2 hts gX4_decide_X4_isOutside rfl rfl rfl (by decide +kernel) ⟨Nat.le_of_ble_eq_true rfl, Nat.le_of_ble_eq_true rfl⟩) zP_pre rfl rfl hl.1 rfl (lv_room (Nat.le_of_ble_eq_true rfl)) dX4_decide_2 ⟨Nat.zero_le _, Nat.zero_le _⟩) ?_
  refine z_if_ne (tgt := 17) hx hb dX4_decide_5 (by decide) (fun q => absurd (ok0.symm.trans q) (by decide)) (fun _ => ?_)
  refine lv_iload_n hx hb dX4_decide_8 rfl (lv_at hl 3 rfl) ?_
  refine lv_bipush (v := 6) hx hb dX4_decide_9 (by decide) ?_
  refine z_callR (W.runS (As := [.int (nI ri), .int 6]) (rest := []) ⟨hx, hb, hml, hown, hts⟩ (kX4_isOutside l (nI ri) 6) (va_cwS 2 hts gX4_decide_X4_isOutside rfl rfl rfl (by decide +kernel) ⟨Nat.le_of_ble_eq_true rfl, Nat.le_of_ble_eq_true rfl⟩) zP_pre rfl rfl hl.1 rfl (lv_room (Nat.le_of_ble_eq_true rfl)) dX4_decide_11 ⟨Nat.zero_le _, Nat.zero_le _⟩) ?_
  refine z_if_eq (tgt := 27) hx hb dX4_decide_14 (by decide) (fun _ => ?_) (fun q => absurd (ok1.symm.trans q) (by decide))
  refine lv_aload_n hx hb dX4_decide_27 rfl (lv_at hl 0 rfl) ?_
  refine va_get (D := D) (ci := 4) (v := .ref (X 2)) (C := RX4) (T := TX4) (N := 7) hx hb hts i4 hown hK hP 0 rfl rfl 1 (by decide) fl_19 (fun _ h9 => h9) rfl dX4_decide_28 ?_
  refine lv_iload_n hx hb dX4_decide_31 rfl (lv_at hl 2 rfl) ?_
  refine z_callR (W.runV (As := [.int (nI si)]) (rest := []) ⟨hx, hb, hml, hown, hts⟩ (kX3_has l D cI cZ X S O V (nI si)) (cwV 1 hts gX4_decide_X3_has rfl rfl rfl (by decide +kernel) ⟨Nat.le_of_ble_eq_true rfl, Nat.le_of_ble_eq_true rfl⟩) (zR_preV 2 3 hK hP rfl rfl) rfl rfl hl.1 rfl (lv_room (Nat.le_of_ble_eq_true rfl)) dX4_decide_32 ⟨Nat.zero_le _, Nat.zero_le _⟩) ?_
  refine z_if_ne (tgt := 48) hx hb dX4_decide_35 (by decide) (fun _ => ?_) (fun q => absurd (ok2.symm.trans q) (by decide))
  refine lv_aload_n hx hb dX4_decide_48 rfl (lv_at hl 0 rfl) ?_
  refine va_get (D := D) (ci := 4) (v := .ref (X 2)) (C := RX4) (T := TX4) (N := 7) hx hb hts i4 hown hK hP 0 rfl rfl 1 (by decide) fl_19 (fun _ h9 => h9) rfl dX4_decide_49 ?_
  refine lv_iload_n hx hb dX4_decide_52 rfl (lv_at hl 2 rfl) ?_
  refine z_callR (W.runV (As := [.int (nI si)]) (rest := []) ⟨hx, hb, hml, hown, hts⟩ (kX3_isOver l D cI cZ X S O V si (by omega)) (cwV 1 hts gX4_decide_X3_isOver rfl rfl rfl (by decide +kernel) ⟨Nat.le_of_ble_eq_true rfl, Nat.le_of_ble_eq_true rfl⟩) (zR_preV 2 3 hK hP rfl rfl) rfl rfl hl.1 rfl (lv_room (Nat.le_of_ble_eq_true rfl)) dX4_decide_53 ⟨Nat.zero_le _, Nat.zero_le _⟩) ?_
  refine z_if_eq (tgt := 61) hx hb dX4_decide_56 (by decide) (fun c_56 => ?_) (fun c_56 => ?_)
  · refine lv_aload_n hx hb dX4_decide_61 rfl (lv_at hl 0 rfl) ?_
    refine va_get (D := D) (ci := 4) (v := .ref (X 2)) (C := RX4) (T := TX4) (N := 7) hx hb hts i4 hown hK hP 0 rfl rfl 1 (by decide) fl_19 (fun _ h9 => h9) rfl dX4_decide_62 ?_
    refine lv_iload_n hx hb dX4_decide_65 rfl (lv_at hl 2 rfl) ?_
    refine lv_aload_n hx hb dX4_decide_66 rfl (lv_at hl 0 rfl) ?_
    refine va_get (D := D) (ci := 4) (v := .int (V 0)) (C := RX4) (T := TX4) (N := 7) hx hb hts i4 hown hK hP 0 rfl rfl 6 (by decide) fl_44 (fun _ h9 => h9) rfl dX4_decide_67 ?_
    have hF := z_free hD hS hA
    refine z_callWv (va_runV (As := [.int (nI si), .int (V 0)]) (rest := []) ⟨hx, hb, hml, hown, hts⟩ (kX3_use l D cI cZ X S O V _ si (V 0) (by omega)) (cwV 2 hts gX4_decide_X3_use rfl rfl rfl (by decide +kernel) ⟨Nat.le_of_ble_eq_true rfl, Nat.le_of_ble_eq_true rfl⟩) (zW_preV 2 3 hK hP hD rfl rfl) rfl rfl hl.1 rfl (lv_room (Nat.le_of_ble_eq_true rfl)) dX4_decide_70 ⟨Nat.zero_le _, Nat.zero_le _⟩) hS hF (fun H locs hP hD hS => ?_)
    refine lv_aload_n hx hb dX4_decide_73 rfl (lv_at hl 0 rfl) ?_
    refine lv_iload_n hx hb dX4_decide_74 rfl (lv_at hl 1 rfl) ?_
    refine lv_aload_n hx hb dX4_decide_75 rfl (lv_at hl 0 rfl) ?_
    refine va_get (D := D) (ci := 4) (v := .ref (X 2)) (C := RX4) (T := TX4) (N := 7) hx hb hts i4 hown hK hP 0 rfl rfl 1 (by decide) fl_19 (fun _ h9 => h9) rfl dX4_decide_76 ?_
    refine lv_iload_n hx hb dX4_decide_79 rfl (lv_at hl 2 rfl) ?_
    refine z_callR (W.runV (As := [.int (nI si)]) (rest := [.int (nI ai), .ref (X 0)]) ⟨hx, hb, hml, hown, hts⟩ (kX3_personOf l D cI cZ X (va_up S 14 (upd (S 14) si (V 0))) O V si (by omega)) (cwV 1 hts gX4_decide_X3_personOf rfl rfl rfl (by decide +kernel) ⟨Nat.le_of_ble_eq_true rfl, Nat.le_of_ble_eq_true rfl⟩) (zR_preV 2 3 hK hP rfl rfl) rfl rfl hl.1 rfl (lv_room (Nat.le_of_ble_eq_true rfl)) dX4_decide_80 ⟨Nat.zero_le _, Nat.zero_le _⟩) ?_
    refine z_top (S 11 si) rfl ?_
    refine z_top (nI pi) epi ?_
    refine lv_iload_n hx hb dX4_decide_83 rfl (lv_at hl 3 rfl) ?_
    have hF := z_free hD hS hA
    refine z_callWi (va_runV (As := [.int (nI ai), .int (nI pi), .int (nI ri)]) (rest := []) ⟨hx, hb, hml, hown, hts⟩ (kX4_answerOfApp l D cI cZ X (va_up S 14 (upd (S 14) si (V 0))) O V _ ai pi ri (by omega) (by omega) (by omega)) (cwV 3 hts gX4_decide_X4_answerOfApp rfl rfl rfl (by decide +kernel) ⟨Nat.le_of_ble_eq_true rfl, Nat.le_of_ble_eq_true rfl⟩) (zW_preV 0 4 hK hP hD rfl rfl) rfl rfl hl.1 rfl (lv_room (Nat.le_of_ble_eq_true rfl)) dX4_decide_84 ⟨Nat.zero_le _, Nat.zero_le _⟩) hS hF (fun H locs hP hD hS => ?_)
    have eS : (if O si = true then S else c_appS (va_up S 14 (upd (S 14) si (V 0))) V ai pi ri) = (c_appS (va_up S 14 (upd (S 14) si (V 0))) V ai pi ri) := by simp [c_56] <;> rfl
    exact z_wret hx hb hr hlocks (by rw [eS]; exact hP) hK (by rw [eS]; exact hD) hS (by simp [c_56] <;> rfl) dX4_decide_87
  · refine lv_iconst (v := 2) hx hb dX4_decide_59 rfl ?_
    have eS : (if O si = true then S else c_appS (va_up S 14 (upd (S 14) si (V 0))) V ai pi ri) = S := by simp [c_56] <;> rfl
    exact z_wret hx hb hr hlocks (by rw [eS]; exact hP) hK (by rw [eS]; exact hD) hS (by simp [c_56] <;> rfl) dX4_decide_60

set_option maxHeartbeats 4000000 in
set_option maxRecDepth 100000 in
theorem kX4_forget (l : Launch) (D : va_G) (cI cZ : ClassId) (X : Nat → Nat) (S : Nat → Nat → Int32) (O : Nat → Bool) (V : Nat → Int32) (sz : Nat) (ai : Nat) (pi : Nat) (hai : ai < 4) (hpi : pi < 10) : Met l yX4_forget wsX4_forget ({ frames := 6, cells := 0, slots := 0, locals := 90 } : Room) (zW D (tyl cI cZ) (hW cI cZ X S O V) sz [.ref (X 0), .int (nI ai), .int (nI pi)]) (zQi D (tyl cI cZ) (hW cI cZ X (c_daS S ai pi 6) O V) (c_daN S ai pi 6) (va_A (hW cI cZ X S O V) sz)) 0 0 (va_A (hW cI cZ X S O V) sz) := by
  refine Met.ofW (cc := cX4_forget) (maxL := 3) (ret := (some .int)) (by decide) rfl ?_
  intro p e s m args below meth c s₁ B hml hv
  obtain ⟨rfl, hsz, hP, hK, hD0⟩ := hv
  have hx := B.exec
  have hb := B.bytes
  have hr := B.returns
  have hts := atoms_spec (ws := wsX4_forget) B.pre
  have hown : s.vm.findClass RX4 = some m.cls := findClass_of_methodNamed B.named
  have hlocks := B.notSynchronized
  subst hsz
  have hD := hD0.self (sz := s.heap.size)
  generalize hAe : va_A (hW cI cZ X S O V) s.heap.size = A at hD ⊢
  have hA : ∀ q : Nat, s.heap.size ≤ q → A q := fun q h => by rw [← hAe]; exact Or.inr h
  have hS : va_S A s.heap s.heap [] := va_S.rf
  have i4 : ∀ w ∈ u_ws RX4 TX4 7, w ∈ wsX4_forget := by decide +kernel
  have fl_33 := hts (.fieldLink RX4 33 "SignOnHouse" "decisions" "LSignOnHouse$Decisions;") (by decide +kernel)
  have hl := lv_entry ([.ref (X 0), .int (nI ai), .int (nI pi)]) (n := 3) (Nat.le_of_ble_eq_true rfl)
  rw [lg_entry_eq]
  generalize (lg_sl ([.ref (X 0), .int (nI ai), .int (nI pi)]) ++ List.replicate (3 - (lg_sl ([.ref (X 0), .int (nI ai), .int (nI pi)])).length) Slot.unset).toArray = ls at hl ⊢
  have hl : lv_has ls 3 [(0, .ref (X 0)), (1, .int (nI ai)), (2, .int (nI pi))] := hl
  have ok0 : c_out (nI ai) 4 = false := c_out_lt (n := 4) hai (by decide)
  have ok1 : c_out (nI pi) 10 = false := c_out_lt (n := 10) hpi (by decide)
  refine lv_iload_n hx hb dX4_forget_0 rfl (lv_at hl 1 rfl) ?_
  refine lv_iconst (v := 4) hx hb dX4_forget_1 rfl ?_
  refine z_callR (W.runS (As := [.int (nI ai), .int 4]) (rest := []) ⟨hx, hb, hml, hown, hts⟩ (kX4_isOutside l (nI ai) 4) (va_cwS 2 hts gX4_forget_X4_isOutside rfl rfl rfl (by decide +kernel) ⟨Nat.le_of_ble_eq_true rfl, Nat.le_of_ble_eq_true rfl⟩) zP_pre rfl rfl hl.1 rfl (lv_room (Nat.le_of_ble_eq_true rfl)) dX4_forget_2 ⟨Nat.zero_le _, Nat.zero_le _⟩) ?_
  refine z_if_ne (tgt := 17) hx hb dX4_forget_5 (by decide) (fun q => absurd (ok0.symm.trans q) (by decide)) (fun _ => ?_)
  refine lv_iload_n hx hb dX4_forget_8 rfl (lv_at hl 2 rfl) ?_
  refine lv_bipush (v := 10) hx hb dX4_forget_9 (by decide) ?_
  refine z_callR (W.runS (As := [.int (nI pi), .int 10]) (rest := []) ⟨hx, hb, hml, hown, hts⟩ (kX4_isOutside l (nI pi) 10) (va_cwS 2 hts gX4_forget_X4_isOutside rfl rfl rfl (by decide +kernel) ⟨Nat.le_of_ble_eq_true rfl, Nat.le_of_ble_eq_true rfl⟩) zP_pre rfl rfl hl.1 rfl (lv_room (Nat.le_of_ble_eq_true rfl)) dX4_forget_11 ⟨Nat.zero_le _, Nat.zero_le _⟩) ?_
  refine z_if_eq (tgt := 27) hx hb dX4_forget_14 (by decide) (fun _ => ?_) (fun q => absurd (ok1.symm.trans q) (by decide))
  refine lv_aload_n hx hb dX4_forget_27 rfl (lv_at hl 0 rfl) ?_
  refine va_get (D := D) (ci := 4) (v := .ref (X 4)) (C := RX4) (T := TX4) (N := 7) hx hb hts i4 hown hK hP 0 rfl rfl 3 (by decide) fl_33 (fun _ h9 => h9) rfl dX4_forget_28 ?_
  refine lv_iload_n hx hb dX4_forget_31 rfl (lv_at hl 1 rfl) ?_
  refine lv_iload_n hx hb dX4_forget_32 rfl (lv_at hl 2 rfl) ?_
  have hF := z_free hD hS hA
  refine z_callWi (va_runV (As := [.int (nI ai), .int (nI pi)]) (rest := []) ⟨hx, hb, hml, hown, hts⟩ (kX0_dropAllOf l D cI cZ X S O V _ ai pi (by omega) (by omega)) (cwV 2 hts gX4_forget_X0_dropAllOf rfl rfl rfl (by decide +kernel) ⟨Nat.le_of_ble_eq_true rfl, Nat.le_of_ble_eq_true rfl⟩) (zW_preV 4 0 hK hP hD rfl rfl) rfl rfl hl.1 rfl (lv_room (Nat.le_of_ble_eq_true rfl)) dX4_forget_33 ⟨Nat.zero_le _, Nat.zero_le _⟩) hS hF (fun H locs hP hD hS => ?_)
  exact z_wret hx hb hr hlocks hP hK hD hS rfl dX4_forget_36

set_option maxHeartbeats 4000000 in
set_option maxRecDepth 100000 in
theorem kX4_stale (l : Launch) (D : va_G) (cI cZ : ClassId) (X : Nat → Nat) (S : Nat → Nat → Int32) (O : Nat → Bool) (V : Nat → Int32) (ai : Nat) (hai : ai < 4) : Met l yX4_stale wsX4_stale ({ frames := 6, cells := 0, slots := 0, locals := 135 } : Room) (zR D (tyl cI cZ) (hW cI cZ X S O V) [.ref (X 0), .int (nI ai)]) (QcRead (c_stO S V ai 10)) 0 0 (fun _ => False) := by
  refine Met.ofW (cc := cX4_stale) (maxL := 5) (ret := (some .int)) (by decide) rfl ?_
  intro p e s m args below meth c s₁ B hml hv
  obtain ⟨rfl, hP, hK⟩ := hv
  have hx := B.exec
  have hb := B.bytes
  have hr := B.returns
  have hts := atoms_spec (ws := wsX4_stale) B.pre
  have hown : s.vm.findClass RX4 = some m.cls := findClass_of_methodNamed B.named
  have hlocks := B.notSynchronized
  have hl := lv_entry ([.ref (X 0), .int (nI ai)]) (n := 5) (Nat.le_of_ble_eq_true rfl)
  rw [lg_entry_eq]
  generalize (lg_sl ([.ref (X 0), .int (nI ai)]) ++ List.replicate (5 - (lg_sl ([.ref (X 0), .int (nI ai)])).length) Slot.unset).toArray = ls at hl ⊢
  have hl : lv_has ls 5 [(0, .ref (X 0)), (1, .int (nI ai))] := hl
  have ok0 : c_out (nI ai) 4 = false := c_out_lt (n := 4) hai (by decide)
  refine lv_iload_n hx hb dX4_stale_0 rfl (lv_at hl 1 rfl) ?_
  refine lv_iconst (v := 4) hx hb dX4_stale_1 rfl ?_
  refine z_callR (W.runS (As := [.int (nI ai), .int 4]) (rest := []) ⟨hx, hb, hml, hown, hts⟩ (kX4_isOutside l (nI ai) 4) (va_cwS 2 hts gX4_stale_X4_isOutside rfl rfl rfl (by decide +kernel) ⟨Nat.le_of_ble_eq_true rfl, Nat.le_of_ble_eq_true rfl⟩) zP_pre rfl rfl hl.1 rfl (lv_room (Nat.le_of_ble_eq_true rfl)) dX4_stale_2 ⟨Nat.zero_le _, Nat.zero_le _⟩) ?_
  refine z_if_eq (tgt := 18) hx hb dX4_stale_5 (by decide) (fun _ => ?_) (fun q => absurd (ok0.symm.trans q) (by decide))
  refine lv_iconst (v := 0) hx hb dX4_stale_18 rfl ?_
  refine lv_istore_n (lv' := [(2, .int 0), (0, .ref (X 0)), (1, .int (nI ai))]) hx hb dX4_stale_19 rfl hl (by decide) rfl (fun ls hl => ?_)
  refine lv_iconst (v := nI 0) hx hb dX4_stale_20 rfl ?_
  refine lv_istore_n (lv' := [(3, .int (nI 0)), (2, .int 0), (0, .ref (X 0)), (1, .int (nI ai))]) hx hb dX4_stale_21 rfl hl (by decide) rfl (fun ls hl => ?_)
  refine z_loop (N := 10) (nL := 5) (Lc := (fun q => [(3, .int (nI q)), (2, .int (c_stO S V ai q)), (0, .ref (X 0)), (1, .int (nI ai))])) (lv_sub hl [0, 1, 2, 3] rfl) (fun ls hl => ?_) (fun q ls hq hl ih => ?_)
  · have hl : lv_has ls 5 [(3, .int (nI 10)), (2, .int (c_stO S V ai 10)), (0, .ref (X 0)), (1, .int (nI ai))] := hl
    refine lv_iload_n hx hb dX4_stale_22 rfl (lv_at hl 0 rfl) ?_
    refine lv_bipush (v := nI 10) hx hb dX4_stale_23 (by decide) ?_
    refine z_ge_t (tgt := 64) (nI_le (by omega) (by omega)) hx hb dX4_stale_25 (by decide) ?_
    refine lv_iload_n hx hb dX4_stale_64 rfl (lv_at hl 1 rfl) ?_
    exact z_ret hx hb hr hlocks rfl dX4_stale_65
  · have hl : lv_has ls 5 [(3, .int (nI q)), (2, .int (c_stO S V ai q)), (0, .ref (X 0)), (1, .int (nI ai))] := hl
    have ih_22 := ih
    refine lv_iload_n hx hb dX4_stale_22 rfl (lv_at hl 0 rfl) ?_
    refine lv_bipush (v := nI 10) hx hb dX4_stale_23 (by decide) ?_
    refine z_ge_f (tgt := 64) (nI_ge (by omega) (by omega)) hx hb dX4_stale_25 (by decide) ?_
    refine lv_iconst (v := nI 0) hx hb dX4_stale_28 rfl ?_
    refine lv_istore (lv' := [(4, .int (nI 0)), (3, .int (nI q)), (2, .int (c_stO S V ai q)), (0, .ref (X 0)), (1, .int (nI ai))]) hx hb dX4_stale_29 hl (by decide) rfl (fun ls hl => ?_)
    refine z_loop (N := 6) (nL := 5) (Lc := (fun k => [(4, .int (nI k)), (3, .int (nI q)), (2, .int (c_stI S V ai (c_stO S V ai q) q k)), (0, .ref (X 0)), (1, .int (nI ai))])) (lv_sub hl [0, 1, 2, 3, 4] rfl) (fun ls hl => ?_) (fun k ls hk hl ih => ?_)
    · have hl : lv_has ls 5 [(4, .int (nI 6)), (3, .int (nI q)), (2, .int (c_stI S V ai (c_stO S V ai q) q 6)), (0, .ref (X 0)), (1, .int (nI ai))] := hl
      refine lv_iload hx hb dX4_stale_31 (lv_at hl 0 rfl) ?_
      refine lv_bipush (v := nI 6) hx hb dX4_stale_33 (by decide) ?_
      refine z_ge_t (tgt := 58) (nI_le (by omega) (by omega)) hx hb dX4_stale_35 (by decide) ?_
      refine lv_iinc (v := nI (q + 1)) (lv' := [(3, .int (nI (q + 1))), (4, .int (nI 6)), (2, .int (c_stI S V ai (c_stO S V ai q) q 6)), (0, .ref (X 0)), (1, .int (nI ai))]) hx hb dX4_stale_58 hl (k := 1) rfl (nI_1 _) (by decide) rfl (fun ls hl => ?_)
      refine lv_goto (tgt := 22) hx hb dX4_stale_61 (by decide) ?_
      have e2 : (c_stO S V ai (q + 1)) = (c_stI S V ai (c_stO S V ai q) q 6) := by rfl
      exact ih_22 ls (by show lv_has ls 5 [(3, .int (nI (q + 1))), (2, .int (c_stO S V ai (q + 1))), (0, .ref (X 0)), (1, .int (nI ai))]; rw [e2]; exact lv_sub hl [0, 2, 3, 4] rfl)
    · have hl : lv_has ls 5 [(4, .int (nI k)), (3, .int (nI q)), (2, .int (c_stI S V ai (c_stO S V ai q) q k)), (0, .ref (X 0)), (1, .int (nI ai))] := hl
      have ih_31 := ih
      refine lv_iload hx hb dX4_stale_31 (lv_at hl 0 rfl) ?_
      refine lv_bipush (v := nI 6) hx hb dX4_stale_33 (by decide) ?_
      refine z_ge_f (tgt := 58) (nI_ge (by omega) (by omega)) hx hb dX4_stale_35 (by decide) ?_
      refine lv_aload_n hx hb dX4_stale_38 rfl (lv_at hl 3 rfl) ?_
      refine lv_iload_n hx hb dX4_stale_39 rfl (lv_at hl 4 rfl) ?_
      refine lv_iload_n hx hb dX4_stale_40 rfl (lv_at hl 1 rfl) ?_
      refine lv_iload hx hb dX4_stale_41 (lv_at hl 0 rfl) ?_
      refine z_callR (W.runV (As := [.int (nI ai), .int (nI q), .int (nI k)]) (rest := []) ⟨hx, hb, hml, hown, hts⟩ (kX4_isStale l D cI cZ X S O V ai q k (by omega) (by omega) (by omega)) (cwV 3 hts gX4_stale_X4_isStale rfl rfl rfl (by decide +kernel) ⟨Nat.le_of_ble_eq_true rfl, Nat.le_of_ble_eq_true rfl⟩) (zR_preV 0 4 hK hP rfl rfl) rfl rfl hl.1 rfl (lv_room (Nat.le_of_ble_eq_true rfl)) dX4_stale_43 ⟨Nat.zero_le _, Nat.zero_le _⟩) ?_
      refine z_if_eq (tgt := 52) hx hb dX4_stale_46 (by decide) (fun c_46 => ?_) (fun c_46 => ?_)
      · refine lv_iinc (v := nI (k + 1)) (lv' := [(4, .int (nI (k + 1))), (3, .int (nI q)), (2, .int (c_stI S V ai (c_stO S V ai q) q k)), (0, .ref (X 0)), (1, .int (nI ai))]) hx hb dX4_stale_52 hl (k := 0) rfl (nI_1 _) (by decide) rfl (fun ls hl => ?_)
        refine lv_goto (tgt := 31) hx hb dX4_stale_55 (by decide) ?_
        have e2 : (c_stI S V ai (c_stO S V ai q) q (k + 1)) = (c_stI S V ai (c_stO S V ai q) q k) := by simp [c_stI, c_46]
        exact ih_31 ls (by show lv_has ls 5 [(4, .int (nI (k + 1))), (3, .int (nI q)), (2, .int (c_stI S V ai (c_stO S V ai q) q (k + 1))), (0, .ref (X 0)), (1, .int (nI ai))]; rw [e2]; exact lv_sub hl [0, 1, 2, 3, 4] rfl)
      · refine lv_iinc (v := c_stI S V ai (c_stO S V ai q) q k + 1) (lv' := [(2, .int (c_stI S V ai (c_stO S V ai q) q k + 1)), (4, .int (nI k)), (3, .int (nI q)), (0, .ref (X 0)), (1, .int (nI ai))]) hx hb dX4_stale_49 hl (k := 2) rfl rfl (by decide) rfl (fun ls hl => ?_)
        refine lv_iinc (v := nI (k + 1)) (lv' := [(4, .int (nI (k + 1))), (2, .int (c_stI S V ai (c_stO S V ai q) q k + 1)), (3, .int (nI q)), (0, .ref (X 0)), (1, .int (nI ai))]) hx hb dX4_stale_52 hl (k := 1) rfl (nI_1 _) (by decide) rfl (fun ls hl => ?_)
        refine lv_goto (tgt := 31) hx hb dX4_stale_55 (by decide) ?_
        have e2 : (c_stI S V ai (c_stO S V ai q) q (k + 1)) = (c_stI S V ai (c_stO S V ai q) q k + 1) := by simp [c_stI, c_46]
        exact ih_31 ls (by show lv_has ls 5 [(4, .int (nI (k + 1))), (3, .int (nI q)), (2, .int (c_stI S V ai (c_stO S V ai q) q (k + 1))), (0, .ref (X 0)), (1, .int (nI ai))]; rw [e2]; exact lv_sub hl [0, 2, 1, 3, 4] rfl)
