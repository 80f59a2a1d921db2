set_option maxHeartbeats 4000000 in
set_option maxRecDepth 100000 in
theorem kX4_now (l : Launch) (D : va_G) (cI cZ : ClassId) (X : Nat → Nat) (S : Nat → Nat → Int32) (O : Nat → Bool) (V : Nat → Int32)  : Met l yX4_now wsX4_now ({ frames := 0, cells := 0, slots := 0, locals := 0 } : Room) (zR D (tyl cI cZ) (hW cI cZ X S O V) [.ref (X 0)]) (QcRead (V 0)) 0 0 (fun _ => False) := by
  refine Met.ofW (cc := cX4_now) (maxL := 1) (ret := (some .int)) (by decide) rfl ?_
  intro p e s m args below meth c s₁ B hml hv
  obtain ⟨rfl, hP, hK⟩ := hv
  have hx := B.exec
  have hb := B.bytes
  have hr := B.returns
  have hts := atoms_spec (ws := wsX4_now) B.pre
  have hown : s.vm.findClass RX4 = some m.cls := findClass_of_methodNamed B.named
  have hlocks := B.notSynchronized
  have i4 : ∀ w ∈ u_ws RX4 TX4 7, w ∈ wsX4_now := by decide +kernel
  have fl_44 := hts (.fieldLink RX4 44 "SignOnHouse" "minute" "I") (by decide +kernel)
  have hl := lv_entry ([.ref (X 0)]) (n := 1) (Nat.le_of_ble_eq_true rfl)
  rw [lg_entry_eq]
  generalize (lg_sl ([.ref (X 0)]) ++ List.replicate (1 - (lg_sl ([.ref (X 0)])).length) Slot.unset).toArray = ls at hl ⊢
  have hl : lv_has ls 1 [(0, .ref (X 0))] := hl
  refine lv_aload_n hx hb dX4_now_0 rfl (lv_at hl 0 rfl) ?_
  refine va_get (D := D) (ci := 4) (v := .int (V 0)) (C := RX4) (T := TX4) (N := 7) hx hb hts i4 hown hK hP 0 rfl rfl 6 (by decide) fl_44 (fun _ h9 => h9) rfl dX4_now_1 ?_
  exact z_ret hx hb hr hlocks rfl dX4_now_4

set_option maxHeartbeats 4000000 in
set_option maxRecDepth 100000 in
theorem kX4_setPerson (l : Launch) (D : va_G) (cI cZ : ClassId) (X : Nat → Nat) (S : Nat → Nat → Int32) (O : Nat → Bool) (V : Nat → Int32) (sz : Nat) (gi : Nat) (pi : Nat) (b0 : Bool) (hgi : gi < 8) (hpi : pi < 10) : Met l yX4_setPerson wsX4_setPerson ({ frames := 6, cells := 0, slots := 0, locals := 90 } : Room) (zW D (tyl cI cZ) (hW cI cZ X S O V) sz [.ref (X 0), .int (nI gi), .int (nI pi), .int (bi b0)]) (zQi D (tyl cI cZ) (hW cI cZ X (va_up S 7 (upd (S 7) pi (c_changed (S 7 pi) (nI gi) b0))) O V) (bi (hasB (S 7 pi) (nI gi))) (va_A (hW cI cZ X S O V) sz)) 0 0 (va_A (hW cI cZ X S O V) sz) := by
  refine Met.ofW (cc := cX4_setPerson) (maxL := 4) (ret := (some .boolean)) (by decide) rfl ?_
  intro p e s m args below meth c s₁ B hml hv
  obtain ⟨rfl, hsz, hP, hK, hD0⟩ := hv
  have hx := B.exec
  have hb := B.bytes
  have hr := B.returns
  have hts := atoms_spec (ws := wsX4_setPerson) B.pre
  have hown : s.vm.findClass RX4 = some m.cls := findClass_of_methodNamed B.named
  have hlocks := B.notSynchronized
  subst hsz
  have hD := hD0.self (sz := s.heap.size)
  generalize hAe : va_A (hW cI cZ X S O V) s.heap.size = A at hD ⊢
  have hA : ∀ q : Nat, s.heap.size ≤ q → A q := fun q h => by rw [← hAe]; exact Or.inr h
  have hS : va_S A s.heap s.heap [] := va_S.rf
  have i4 : ∀ w ∈ u_ws RX4 TX4 7, w ∈ wsX4_setPerson := by decide +kernel
  have fl_10 := hts (.fieldLink RX4 10 "SignOnHouse" "groups" "LSignOnHouse$Groups;") (by decide +kernel)
  have hl := lv_entry ([.ref (X 0), .int (nI gi), .int (nI pi), .int (bi b0)]) (n := 4) (Nat.le_of_ble_eq_true rfl)
  rw [lg_entry_eq]
  generalize (lg_sl ([.ref (X 0), .int (nI gi), .int (nI pi), .int (bi b0)]) ++ List.replicate (4 - (lg_sl ([.ref (X 0), .int (nI gi), .int (nI pi), .int (bi b0)])).length) Slot.unset).toArray = ls at hl ⊢
  have hl : lv_has ls 4 [(0, .ref (X 0)), (1, .int (nI gi)), (2, .int (nI pi)), (3, .int (bi b0))] := hl
  have ok0 : c_out (nI gi) 8 = false := c_out_lt (n := 8) hgi (by decide)
  have ok1 : c_out (nI pi) 10 = false := c_out_lt (n := 10) hpi (by decide)
  refine lv_iload_n hx hb dX4_setPerson_0 rfl (lv_at hl 1 rfl) ?_
  refine lv_bipush (v := 8) hx hb dX4_setPerson_1 (by decide) ?_
  refine z_callR (W.runS (As := [.int (nI gi), .int 8]) (rest := []) ⟨hx, hb, hml, hown, hts⟩ (kX4_isOutside l (nI gi) 8) (va_cwS 2 hts gX4_setPerson_X4_isOutside rfl rfl rfl (by decide +kernel) ⟨Nat.le_of_ble_eq_true rfl, Nat.le_of_ble_eq_true rfl⟩) zP_pre rfl rfl hl.1 rfl (lv_room (Nat.le_of_ble_eq_true rfl)) dX4_setPerson_3 ⟨Nat.zero_le _, Nat.zero_le _⟩) ?_
  refine z_if_ne (tgt := 18) hx hb dX4_setPerson_6 (by decide) (fun q => absurd (ok0.symm.trans q) (by decide)) (fun _ => ?_)
  refine lv_iload_n hx hb dX4_setPerson_9 rfl (lv_at hl 2 rfl) ?_
  refine lv_bipush (v := 10) hx hb dX4_setPerson_10 (by decide) ?_
  refine z_callR (W.runS (As := [.int (nI pi), .int 10]) (rest := []) ⟨hx, hb, hml, hown, hts⟩ (kX4_isOutside l (nI pi) 10) (va_cwS 2 hts gX4_setPerson_X4_isOutside rfl rfl rfl (by decide +kernel) ⟨Nat.le_of_ble_eq_true rfl, Nat.le_of_ble_eq_true rfl⟩) zP_pre rfl rfl hl.1 rfl (lv_room (Nat.le_of_ble_eq_true rfl)) dX4_setPerson_12 ⟨Nat.zero_le _, Nat.zero_le _⟩) ?_
  refine z_if_eq (tgt := 28) hx hb dX4_setPerson_15 (by decide) (fun _ => ?_) (fun q => absurd (ok1.symm.trans q) (by decide))
  refine lv_aload_n hx hb dX4_setPerson_28 rfl (lv_at hl 0 rfl) ?_
  refine va_get (D := D) (ci := 4) (v := .ref (X 1)) (C := RX4) (T := TX4) (N := 7) hx hb hts i4 hown hK hP 0 rfl rfl 0 (by decide) fl_10 (fun _ h9 => h9) rfl dX4_setPerson_29 ?_
  refine lv_iload_n hx hb dX4_setPerson_32 rfl (lv_at hl 1 rfl) ?_
  refine lv_iload_n hx hb dX4_setPerson_33 rfl (lv_at hl 2 rfl) ?_
  refine lv_iload_n hx hb dX4_setPerson_34 rfl (lv_at hl 3 rfl) ?_
  have hF := z_free hD hS hA
  refine z_callWi (va_runV (As := [.int (nI gi), .int (nI pi), .int (bi b0)]) (rest := []) ⟨hx, hb, hml, hown, hts⟩ (kX1_placePerson l D cI cZ X S O V _ gi pi b0 (by omega) (by omega)) (cwV 3 hts gX4_setPerson_X1_placePerson rfl rfl rfl (by decide +kernel) ⟨Nat.le_of_ble_eq_true rfl, Nat.le_of_ble_eq_true rfl⟩) (zW_preV 1 1 hK hP hD rfl rfl) rfl rfl hl.1 rfl (lv_room (Nat.le_of_ble_eq_true rfl)) dX4_setPerson_35 ⟨Nat.zero_le _, Nat.zero_le _⟩) hS hF (fun H locs hP hD hS => ?_)
  exact z_wzret hx hb hr hlocks hP hK hD hS rfl dX4_setPerson_38

set_option maxHeartbeats 4000000 in
set_option maxRecDepth 100000 in
theorem kX4_setRole (l : Launch) (D : va_G) (cI cZ : ClassId) (X : Nat → Nat) (S : Nat → Nat → Int32) (O : Nat → Bool) (V : Nat → Int32) (sz : Nat) (gi : Nat) (ri : Nat) (x2 : Int32) (hgi : gi < 8) (hri : ri < 6) (hw0 : ¬ x2 < 0) (hw2 : x2 ≤ 2) : Met l yX4_setRole wsX4_setRole ({ frames := 6, cells := 0, slots := 0, locals := 90 } : Room) (zW D (tyl cI cZ) (hW cI cZ X S O V) sz [.ref (X 0), .int (nI gi), .int (nI ri), .int x2]) (zQi D (tyl cI cZ) (hW cI cZ X (va_up (va_up S 9 (upd (S 9) ri (c_changed (S 9 ri) (nI gi) (decide (x2 = 1))))) 10 (upd (S 10) ri (c_changed (S 10 ri) (nI gi) (decide (x2 = 2))))) O V) (c_roleOf S gi ri) (va_A (hW cI cZ X S O V) sz)) 0 0 (va_A (hW cI cZ X S O V) sz) := by
  refine Met.ofW (cc := cX4_setRole) (maxL := 4) (ret := (some .int)) (by decide) rfl ?_
  intro p e s m args below meth c s₁ B hml hv
  obtain ⟨rfl, hsz, hP, hK, hD0⟩ := hv
  have hx := B.exec
  have hb := B.bytes
  have hr := B.returns
  have hts := atoms_spec (ws := wsX4_setRole) B.pre
  have hown : s.vm.findClass RX4 = some m.cls := findClass_of_methodNamed B.named
  have hlocks := B.notSynchronized
  subst hsz
  have hD := hD0.self (sz := s.heap.size)
  generalize hAe : va_A (hW cI cZ X S O V) s.heap.size = A at hD ⊢
  have hA : ∀ q : Nat, s.heap.size ≤ q → A q := fun q h => by rw [← hAe]; exact Or.inr h
  have hS : va_S A s.heap s.heap [] := va_S.rf
  have i4 : ∀ w ∈ u_ws RX4 TX4 7, w ∈ wsX4_setRole := by decide +kernel
  have fl_10 := hts (.fieldLink RX4 10 "SignOnHouse" "groups" "LSignOnHouse$Groups;") (by decide +kernel)
  have hl := lv_entry ([.ref (X 0), .int (nI gi), .int (nI ri), .int x2]) (n := 4) (Nat.le_of_ble_eq_true rfl)
  rw [lg_entry_eq]
  generalize (lg_sl ([.ref (X 0), .int (nI gi), .int (nI ri), .int x2]) ++ List.replicate (4 - (lg_sl ([.ref (X 0), .int (nI gi), .int (nI ri), .int x2])).length) Slot.unset).toArray = ls at hl ⊢
  have hl : lv_has ls 4 [(0, .ref (X 0)), (1, .int (nI gi)), (2, .int (nI ri)), (3, .int x2)] := hl
  have ok0 : c_out (nI gi) 8 = false := c_out_lt (n := 8) hgi (by decide)
  have ok1 : c_out (nI ri) 6 = false := c_out_lt (n := 6) hri (by decide)
  refine lv_iload_n hx hb dX4_setRole_0 rfl (lv_at hl 1 rfl) ?_
  refine lv_bipush (v := 8) hx hb dX4_setRole_1 (by decide) ?_
  refine z_callR (W.runS (As := [.int (nI gi), .int 8]) (rest := []) ⟨hx, hb, hml, hown, hts⟩ (kX4_isOutside l (nI gi) 8) (va_cwS 2 hts gX4_setRole_X4_isOutside rfl rfl rfl (by decide +kernel) ⟨Nat.le_of_ble_eq_true rfl, Nat.le_of_ble_eq_true rfl⟩) zP_pre rfl rfl hl.1 rfl (lv_room (Nat.le_of_ble_eq_true rfl)) dX4_setRole_3 ⟨Nat.zero_le _, Nat.zero_le _⟩) ?_
  refine z_if_ne (tgt := 18) hx hb dX4_setRole_6 (by decide) (fun q => absurd (ok0.symm.trans q) (by decide)) (fun _ => ?_)
  refine lv_iload_n hx hb dX4_setRole_9 rfl (lv_at hl 2 rfl) ?_
  refine lv_bipush (v := 6) hx hb dX4_setRole_10 (by decide) ?_
  refine z_callR (W.runS (As := [.int (nI ri), .int 6]) (rest := []) ⟨hx, hb, hml, hown, hts⟩ (kX4_isOutside l (nI ri) 6) (va_cwS 2 hts gX4_setRole_X4_isOutside rfl rfl rfl (by decide +kernel) ⟨Nat.le_of_ble_eq_true rfl, Nat.le_of_ble_eq_true rfl⟩) zP_pre rfl rfl hl.1 rfl (lv_room (Nat.le_of_ble_eq_true rfl)) dX4_setRole_12 ⟨Nat.zero_le _, Nat.zero_le _⟩) ?_
  refine z_if_eq (tgt := 28) hx hb dX4_setRole_15 (by decide) (fun _ => ?_) (fun q => absurd (ok1.symm.trans q) (by decide))
  refine lv_iload_n hx hb dX4_setRole_28 rfl (lv_at hl 3 rfl) ?_
  refine lv_if_lt (tgt := 37) hx hb dX4_setRole_29 (by decide) (fun q => absurd q hw0) (fun _ => ?_)
  refine lv_iload_n hx hb dX4_setRole_32 rfl (lv_at hl 3 rfl) ?_
  refine lv_iconst (v := 2) hx hb dX4_setRole_33 rfl ?_
  refine lv_icmp_le (tgt := 47) hx hb dX4_setRole_34 (by decide) (fun _ => ?_) (fun q => absurd hw2 q)
  refine lv_aload_n hx hb dX4_setRole_47 rfl (lv_at hl 0 rfl) ?_
  refine va_get (D := D) (ci := 4) (v := .ref (X 1)) (C := RX4) (T := TX4) (N := 7) hx hb hts i4 hown hK hP 0 rfl rfl 0 (by decide) fl_10 (fun _ h9 => h9) rfl dX4_setRole_48 ?_
  refine lv_iload_n hx hb dX4_setRole_51 rfl (lv_at hl 1 rfl) ?_
  refine lv_iload_n hx hb dX4_setRole_52 rfl (lv_at hl 2 rfl) ?_
  refine lv_iload_n hx hb dX4_setRole_53 rfl (lv_at hl 3 rfl) ?_
  have hF := z_free hD hS hA
  refine z_callWi (va_runV (As := [.int (nI gi), .int (nI ri), .int x2]) (rest := []) ⟨hx, hb, hml, hown, hts⟩ (kX1_giveRole l D cI cZ X S O V _ gi ri x2 (by omega) (by omega)) (cwV 3 hts gX4_setRole_X1_giveRole rfl rfl rfl (by decide +kernel) ⟨Nat.le_of_ble_eq_true rfl, Nat.le_of_ble_eq_true rfl⟩) (zW_preV 1 1 hK hP hD rfl rfl) rfl rfl hl.1 rfl (lv_room (Nat.le_of_ble_eq_true rfl)) dX4_setRole_54 ⟨Nat.zero_le _, Nat.zero_le _⟩) hS hF (fun H locs hP hD hS => ?_)
  exact z_wret hx hb hr hlocks hP hK hD hS rfl dX4_setRole_57

set_option maxHeartbeats 4000000 in
set_option maxRecDepth 100000 in
theorem kX4_setRisk (l : Launch) (D : va_G) (cI cZ : ClassId) (X : Nat → Nat) (S : Nat → Nat → Int32) (O : Nat → Bool) (V : Nat → Int32) (sz : Nat) (pi : Nat) (x1 : Int32) (hpi : pi < 10) (hw0 : ¬ x1 < 0) (hw3 : x1 ≤ 3) (n0 : Nat) (hn0 : n0 ≤ 30) (hct : V 1 = nI n0) : Met l yX4_setRisk wsX4_setRisk ({ frames := 6, cells := 0, slots := 0, locals := 90 } : Room) (zW D (tyl cI cZ) (hW cI cZ X S O V) sz [.ref (X 0), .int (nI pi), .int x1]) (zQi D (tyl cI cZ) (hW cI cZ X (va_up S 5 (upd (S 5) pi x1)) (if x1 ≤ S 5 pi then O else c_eaO (va_up S 5 (upd (S 5) pi x1)) O (nI pi) n0) V) (if x1 ≤ S 5 pi then 0 else c_eaN (va_up S 5 (upd (S 5) pi x1)) O (nI pi) n0) (va_A (hW cI cZ X S O V) sz)) 0 0 (va_A (hW cI cZ X S O V) sz) := by
  refine Met.ofW (cc := cX4_setRisk) (maxL := 4) (ret := (some .int)) (by decide) rfl ?_
  intro p e s m args below meth c s₁ B hml hv
  obtain ⟨rfl, hsz, hP, hK, hD0⟩ := hv
  have hx := B.exec
  have hb := B.bytes
  have hr := B.returns
  have hts := atoms_spec (ws := wsX4_setRisk) B.pre
  have hown : s.vm.findClass RX4 = some m.cls := findClass_of_methodNamed B.named
  have hlocks := B.notSynchronized
  subst hsz
  have hD := hD0.self (sz := s.heap.size)
  generalize hAe : va_A (hW cI cZ X S O V) s.heap.size = A at hD ⊢
  have hA : ∀ q : Nat, s.heap.size ≤ q → A q := fun q h => by rw [← hAe]; exact Or.inr h
  have hS : va_S A s.heap s.heap [] := va_S.rf
  have i4 : ∀ w ∈ u_ws RX4 TX4 7, w ∈ wsX4_setRisk := by decide +kernel
  have fl_19 := hts (.fieldLink RX4 19 "SignOnHouse" "sessions" "LSignOnHouse$Sessions;") (by decide +kernel)
  have fl_37 := hts (.fieldLink RX4 37 "SignOnHouse" "risks" "[I") (by decide +kernel)
  have hl := lv_entry ([.ref (X 0), .int (nI pi), .int x1]) (n := 4) (Nat.le_of_ble_eq_true rfl)
  rw [lg_entry_eq]
  generalize (lg_sl ([.ref (X 0), .int (nI pi), .int x1]) ++ List.replicate (4 - (lg_sl ([.ref (X 0), .int (nI pi), .int x1])).length) Slot.unset).toArray = ls at hl ⊢
  have hl : lv_has ls 4 [(0, .ref (X 0)), (1, .int (nI pi)), (2, .int x1)] := hl
  have ok0 : c_out (nI pi) 10 = false := c_out_lt (n := 10) hpi (by decide)
  refine lv_iload_n hx hb dX4_setRisk_0 rfl (lv_at hl 1 rfl) ?_
  refine lv_bipush (v := 10) hx hb dX4_setRisk_1 (by decide) ?_
  refine z_callR (W.runS (As := [.int (nI pi), .int 10]) (rest := []) ⟨hx, hb, hml, hown, hts⟩ (kX4_isOutside l (nI pi) 10) (va_cwS 2 hts gX4_setRisk_X4_isOutside rfl rfl rfl (by decide +kernel) ⟨Nat.le_of_ble_eq_true rfl, Nat.le_of_ble_eq_true rfl⟩) zP_pre rfl rfl hl.1 rfl (lv_room (Nat.le_of_ble_eq_true rfl)) dX4_setRisk_3 ⟨Nat.zero_le _, Nat.zero_le _⟩) ?_
  refine z_if_ne (tgt := 18) hx hb dX4_setRisk_6 (by decide) (fun q => absurd (ok0.symm.trans q) (by decide)) (fun _ => ?_)
  refine lv_iload_n hx hb dX4_setRisk_9 rfl (lv_at hl 2 rfl) ?_
  refine lv_if_lt (tgt := 18) hx hb dX4_setRisk_10 (by decide) (fun q => absurd q hw0) (fun _ => ?_)
  refine lv_iload_n hx hb dX4_setRisk_13 rfl (lv_at hl 2 rfl) ?_
  refine lv_iconst (v := 3) hx hb dX4_setRisk_14 rfl ?_
  refine lv_icmp_le (tgt := 28) hx hb dX4_setRisk_15 (by decide) (fun _ => ?_) (fun q => absurd hw3 q)
  refine lv_iload_n hx hb dX4_setRisk_28 rfl (lv_at hl 2 rfl) ?_
  refine lv_aload_n hx hb dX4_setRisk_29 rfl (lv_at hl 0 rfl) ?_
  refine va_get (D := D) (ci := 4) (v := .ref (X 5)) (C := RX4) (T := TX4) (N := 7) hx hb hts i4 hown hK hP 0 rfl rfl 4 (by decide) fl_37 (fun _ h9 => h9) rfl dX4_setRisk_30 ?_
  refine lv_iload_n hx hb dX4_setRisk_33 rfl (lv_at hl 1 rfl) ?_
  refine z_iald (D := D) (j := pi) (f := S 5) hx hb hK hP 5 0 rfl rfl (by omega) (by decide) dX4_setRisk_34 ?_
  refine z_sel_icmp_le hx hb dX4_setRisk_35 dX4_setRisk_38 dX4_setRisk_39 dX4_setRisk_42 ?_
  refine lv_istore_n (lv' := [(3, .int (bi (!decide (x1 ≤ S 5 pi)))), (0, .ref (X 0)), (1, .int (nI pi)), (2, .int x1)]) hx hb dX4_setRisk_43 rfl hl (by decide) rfl (fun ls hl => ?_)
  refine lv_aload_n hx hb dX4_setRisk_44 rfl (lv_at hl 1 rfl) ?_
  refine va_get (D := D) (ci := 4) (v := .ref (X 5)) (C := RX4) (T := TX4) (N := 7) hx hb hts i4 hown hK hP 0 rfl rfl 4 (by decide) fl_37 (fun _ h9 => h9) rfl dX4_setRisk_45 ?_
  refine lv_iload_n hx hb dX4_setRisk_48 rfl (lv_at hl 2 rfl) ?_
  refine lv_iload_n hx hb dX4_setRisk_49 rfl (lv_at hl 3 rfl) ?_
  refine z_iast (D := D) (j := pi) (f := S 5) hx hb hK hP hD hS 5 0 rfl rfl (by omega) (by decide) dX4_setRisk_50 (fun H locs hP hD hS => ?_)
  have hP : va_P D vwCl (hW cI cZ X (va_up S 5 (upd (S 5) pi x1)) O V) H := hP
  have hD : va_D A (hW cI cZ X (va_up S 5 (upd (S 5) pi x1)) O V) := hD
  refine lv_iload_n hx hb dX4_setRisk_51 rfl (lv_at hl 0 rfl) ?_
  refine z_if_eq (tgt := 66) hx hb dX4_setRisk_52 (by decide) (fun c_52 => ?_) (fun c_52 => ?_)
  · refine lv_iconst (v := 0) hx hb dX4_setRisk_66 rfl ?_
    have eO : (if x1 ≤ S 5 pi then O else c_eaO (va_up S 5 (upd (S 5) pi x1)) O (nI pi) n0) = O := by simp [(eq_true (nd_f c_52))]
    exact z_wret hx hb hr hlocks (by rw [eO]; exact hP) hK (by rw [eO]; exact hD) hS (by simp [(eq_true (nd_f c_52))]) dX4_setRisk_67
  · refine lv_aload_n hx hb dX4_setRisk_55 rfl (lv_at hl 1 rfl) ?_
    refine va_get (D := D) (ci := 4) (v := .ref (X 2)) (C := RX4) (T := TX4) (N := 7) hx hb hts i4 hown hK hP 0 rfl rfl 1 (by decide) fl_19 (fun _ h9 => h9) rfl dX4_setRisk_56 ?_
    refine lv_iload_n hx hb dX4_setRisk_59 rfl (lv_at hl 2 rfl) ?_
    have hF := z_free hD hS hA
    refine z_callWi (va_runV (As := [.int (nI pi)]) (rest := []) ⟨hx, hb, hml, hown, hts⟩ (kX3_endAllOf l D cI cZ X (va_up S 5 (upd (S 5) pi x1)) O V _ (nI pi) n0 hn0 hct) (cwV 1 hts gX4_setRisk_X3_endAllOf rfl rfl rfl (by decide +kernel) ⟨Nat.le_of_ble_eq_true rfl, Nat.le_of_ble_eq_true rfl⟩) (zW_preV 2 3 hK hP hD rfl rfl) rfl rfl hl.1 rfl (lv_room (Nat.le_of_ble_eq_true rfl)) dX4_setRisk_60 ⟨Nat.zero_le _, Nat.zero_le _⟩) hS hF (fun H locs hP hD hS => ?_)
    refine lv_goto (tgt := 67) hx hb dX4_setRisk_63 (by decide) ?_
    have eO : (if x1 ≤ S 5 pi then O else c_eaO (va_up S 5 (upd (S 5) pi x1)) O (nI pi) n0) = (c_eaO (va_up S 5 (upd (S 5) pi x1)) O (nI pi) n0) := by simp [(nd_t c_52)]
    exact z_wret hx hb hr hlocks (by rw [eO]; exact hP) hK (by rw [eO]; exact hD) hS (by simp [(nd_t c_52)]) dX4_setRisk_67

set_option maxHeartbeats 4000000 in
set_option maxRecDepth 100000 in
theorem kX4_isIn (l : Launch) (D : va_G) (cI cZ : ClassId) (X : Nat → Nat) (S : Nat → Nat → Int32) (O : Nat → Bool) (V : Nat → Int32) (gi : Nat) (pi : Nat) (hgi : gi < 8) (hpi : pi < 10) : Met l yX4_isIn wsX4_isIn ({ frames := 6, cells := 0, slots := 0, locals := 90 } : Room) (zR D (tyl cI cZ) (hW cI cZ X S O V) [.ref (X 0), .int (nI gi), .int (nI pi)]) (QcRead (bi (hasB (c_allA S (S 7 pi) 8) (nI gi)))) 0 0 (fun _ => False) := by
  refine Met.ofW (cc := cX4_isIn) (maxL := 3) (ret := (some .boolean)) (by decide) rfl ?_
  intro p e s m args below meth c s₁ B hml hv
  obtain ⟨rfl, hP, hK⟩ := hv
  have hx := B.exec
  have hb := B.bytes
  have hr := B.returns
  have hts := atoms_spec (ws := wsX4_isIn) B.pre
  have hown : s.vm.findClass RX4 = some m.cls := findClass_of_methodNamed B.named
  have hlocks := B.notSynchronized
  have i4 : ∀ w ∈ u_ws RX4 TX4 7, w ∈ wsX4_isIn := by decide +kernel
  have fl_10 := hts (.fieldLink RX4 10 "SignOnHouse" "groups" "LSignOnHouse$Groups;") (by decide +kernel)
  have hl := lv_entry ([.ref (X 0), .int (nI gi), .int (nI pi)]) (n := 3) (Nat.le_of_ble_eq_true rfl)
  rw [lg_entry_eq]
  generalize (lg_sl ([.ref (X 0), .int (nI gi), .int (nI pi)]) ++ List.replicate (3 - (lg_sl ([.ref (X 0), .int (nI gi), .int (nI pi)])).length) Slot.unset).toArray = ls at hl ⊢
  have hl : lv_has ls 3 [(0, .ref (X 0)), (1, .int (nI gi)), (2, .int (nI pi))] := hl
  have ok0 : c_out (nI gi) 8 = false := c_out_lt (n := 8) hgi (by decide)
  have ok1 : c_out (nI pi) 10 = false := c_out_lt (n := 10) hpi (by decide)
  refine lv_iload_n hx hb dX4_isIn_0 rfl (lv_at hl 1 rfl) ?_
  refine lv_bipush (v := 8) hx hb dX4_isIn_1 (by decide) ?_
  refine z_callR (W.runS (As := [.int (nI gi), .int 8]) (rest := []) ⟨hx, hb, hml, hown, hts⟩ (kX4_isOutside l (nI gi) 8) (va_cwS 2 hts gX4_isIn_X4_isOutside rfl rfl rfl (by decide +kernel) ⟨Nat.le_of_ble_eq_true rfl, Nat.le_of_ble_eq_true rfl⟩) zP_pre rfl rfl hl.1 rfl (lv_room (Nat.le_of_ble_eq_true rfl)) dX4_isIn_3 ⟨Nat.zero_le _, Nat.zero_le _⟩) ?_
  refine z_if_ne (tgt := 18) hx hb dX4_isIn_6 (by decide) (fun q => absurd (ok0.symm.trans q) (by decide)) (fun _ => ?_)
  refine lv_iload_n hx hb dX4_isIn_9 rfl (lv_at hl 2 rfl) ?_
  refine lv_bipush (v := 10) hx hb dX4_isIn_10 (by decide) ?_
  refine z_callR (W.runS (As := [.int (nI pi), .int 10]) (rest := []) ⟨hx, hb, hml, hown, hts⟩ (kX4_isOutside l (nI pi) 10) (va_cwS 2 hts gX4_isIn_X4_isOutside rfl rfl rfl (by decide +kernel) ⟨Nat.le_of_ble_eq_true rfl, Nat.le_of_ble_eq_true rfl⟩) zP_pre rfl rfl hl.1 rfl (lv_room (Nat.le_of_ble_eq_true rfl)) dX4_isIn_12 ⟨Nat.zero_le _, Nat.zero_le _⟩) ?_
  refine z_if_eq (tgt := 28) hx hb dX4_isIn_15 (by decide) (fun _ => ?_) (fun q => absurd (ok1.symm.trans q) (by decide))
  refine lv_aload_n hx hb dX4_isIn_28 rfl (lv_at hl 0 rfl) ?_
  refine va_get (D := D) (ci := 4) (v := .ref (X 1)) (C := RX4) (T := TX4) (N := 7) hx hb hts i4 hown hK hP 0 rfl rfl 0 (by decide) fl_10 (fun _ h9 => h9) rfl dX4_isIn_29 ?_
  refine lv_iload_n hx hb dX4_isIn_32 rfl (lv_at hl 1 rfl) ?_
  refine lv_iload_n hx hb dX4_isIn_33 rfl (lv_at hl 2 rfl) ?_
  refine z_callR (W.runV (As := [.int (nI gi), .int (nI pi)]) (rest := []) ⟨hx, hb, hml, hown, hts⟩ (kX1_hasPerson l D cI cZ X S O V gi pi (by omega) (by omega)) (cwV 2 hts gX4_isIn_X1_hasPerson rfl rfl rfl (by decide +kernel) ⟨Nat.le_of_ble_eq_true rfl, Nat.le_of_ble_eq_true rfl⟩) (zR_preV 1 1 hK hP rfl rfl) rfl rfl hl.1 rfl (lv_room (Nat.le_of_ble_eq_true rfl)) dX4_isIn_34 ⟨Nat.zero_le _, Nat.zero_le _⟩) ?_
  exact z_zret hx hb hr hlocks rfl dX4_isIn_37

set_option maxHeartbeats 4000000 in
set_option maxRecDepth 100000 in
theorem kX4_allows (l : Launch) (D : va_G) (cI cZ : ClassId) (X : Nat → Nat) (S : Nat → Nat → Int32) (O : Nat → Bool) (V : Nat → Int32) (pi : Nat) (ri : Nat) (hpi : pi < 10) (hri : ri < 6) : Met l yX4_allows wsX4_allows ({ frames := 6, cells := 0, slots := 0, locals := 112 } : Room) (zR D (tyl cI cZ) (hW cI cZ X S O V) [.ref (X 0), .int (nI pi), .int (nI ri)]) (QcRead (bi (decide (c_house S V pi ri = 0)))) 0 0 (fun _ => False) := by
  refine Met.ofW (cc := cX4_allows) (maxL := 3) (ret := (some .boolean)) (by decide) rfl ?_
  intro p e s m args below meth c s₁ B hml hv
  obtain ⟨rfl, hP, hK⟩ := hv
  have hx := B.exec
  have hb := B.bytes
  have hr := B.returns
  have hts := atoms_spec (ws := wsX4_allows) B.pre
  have hown : s.vm.findClass RX4 = some m.cls := findClass_of_methodNamed B.named
  have hlocks := B.notSynchronized
  have hl := lv_entry ([.ref (X 0), .int (nI pi), .int (nI ri)]) (n := 3) (Nat.le_of_ble_eq_true rfl)
  rw [lg_entry_eq]
  generalize (lg_sl ([.ref (X 0), .int (nI pi), .int (nI ri)]) ++ List.replicate (3 - (lg_sl ([.ref (X 0), .int (nI pi), .int (nI ri)])).length) Slot.unset).toArray = ls at hl ⊢
  have hl : lv_has ls 3 [(0, .ref (X 0)), (1, .int (nI pi)), (2, .int (nI ri))] := hl
  have ok0 : c_out (nI pi) 10 = false := c_out_lt (n := 10) hpi (by decide)
  have ok1 : c_out (nI ri) 6 = false := c_out_lt (n := 6) hri (by decide)
  refine lv_iload_n hx hb dX4_allows_0 rfl (lv_at hl 1 rfl) ?_
  refine lv_bipush (v := 10) hx hb dX4_allows_1 (by decide) ?_
  refine z_callR (W.runS (As := [.int (nI pi), .int 10]) (rest := []) ⟨hx, hb, hml, hown, hts⟩ (kX4_isOutside l (nI pi) 10) (va_cwS 2 hts gX4_allows_X4_isOutside rfl rfl rfl (by decide +kernel) ⟨Nat.le_of_ble_eq_true rfl, Nat.le_of_ble_eq_true rfl⟩) zP_pre rfl rfl hl.1 rfl (lv_room (Nat.le_of_ble_eq_true rfl)) dX4_allows_3 ⟨Nat.zero_le _, Nat.zero_le _⟩) ?_
  refine z_if_ne (tgt := 18) hx hb dX4_allows_6 (by decide) (fun q => absurd (ok0.symm.trans q) (by decide)) (fun _ => ?_)
  refine lv_iload_n hx hb dX4_allows_9 rfl (lv_at hl 2 rfl) ?_
  refine lv_bipush (v := 6) hx hb dX4_allows_10 (by decide) ?_
  refine z_callR (W.runS (As := [.int (nI ri), .int 6]) (rest := []) ⟨hx, hb, hml, hown, hts⟩ (kX4_isOutside l (nI ri) 6) (va_cwS 2 hts gX4_allows_X4_isOutside rfl rfl rfl (by decide +kernel) ⟨Nat.le_of_ble_eq_true rfl, Nat.le_of_ble_eq_true rfl⟩) zP_pre rfl rfl hl.1 rfl (lv_room (Nat.le_of_ble_eq_true rfl)) dX4_allows_12 ⟨Nat.zero_le _, Nat.zero_le _⟩) ?_
  refine z_if_eq (tgt := 28) hx hb dX4_allows_15 (by decide) (fun _ => ?_) (fun q => absurd (ok1.symm.trans q) (by decide))
  refine lv_aload_n hx hb dX4_allows_28 rfl (lv_at hl 0 rfl) ?_
  refine lv_iload_n hx hb dX4_allows_29 rfl (lv_at hl 1 rfl) ?_
  refine lv_iload_n hx hb dX4_allows_30 rfl (lv_at hl 2 rfl) ?_
  refine z_callR (W.runV (As := [.int (nI pi), .int (nI ri)]) (rest := []) ⟨hx, hb, hml, hown, hts⟩ (kX4_answerOfHouse l D cI cZ X S O V pi ri (by omega) (by omega)) (cwV 2 hts gX4_allows_X4_answerOfHouse rfl rfl rfl (by decide +kernel) ⟨Nat.le_of_ble_eq_true rfl, Nat.le_of_ble_eq_true rfl⟩) (zR_preV 0 4 hK hP rfl rfl) rfl rfl hl.1 rfl (lv_room (Nat.le_of_ble_eq_true rfl)) dX4_allows_31 ⟨Nat.zero_le _, Nat.zero_le _⟩) ?_
  refine z_sel_if_ne hx hb dX4_allows_34 dX4_allows_37 dX4_allows_38 dX4_allows_41 ?_
  exact z_zret hx hb hr hlocks rfl dX4_allows_42

set_option maxHeartbeats 4000000 in
set_option maxRecDepth 100000 in
theorem kX4_goesOn (l : Launch) (D : va_G) (cI cZ : ClassId) (X : Nat → Nat) (S : Nat → Nat → Int32) (O : Nat → Bool) (V : Nat → Int32) (si : Nat) (n0 : Nat) (hn0 : n0 ≤ 30) (hct : V 1 = nI n0) (hsn : si < n0) : Met l yX4_goesOn wsX4_goesOn ({ frames := 6, cells := 0, slots := 0, locals := 90 } : Room) (zR D (tyl cI cZ) (hW cI cZ X S O V) [.ref (X 0), .int (nI si)]) (QcRead (bi (!O si))) 0 0 (fun _ => False) := by
  refine Met.ofW (cc := cX4_goesOn) (maxL := 2) (ret := (some .boolean)) (by decide) rfl ?_
  intro p e s m args below meth c s₁ B hml hv
  obtain ⟨rfl, hP, hK⟩ := hv
  have hx := B.exec
  have hb := B.bytes
  have hr := B.returns
  have hts := atoms_spec (ws := wsX4_goesOn) B.pre
  have hown : s.vm.findClass RX4 = some m.cls := findClass_of_methodNamed B.named
  have hlocks := B.notSynchronized
  have i4 : ∀ w ∈ u_ws RX4 TX4 7, w ∈ wsX4_goesOn := by decide +kernel
  have fl_19 := hts (.fieldLink RX4 19 "SignOnHouse" "sessions" "LSignOnHouse$Sessions;") (by decide +kernel)
  have hl := lv_entry ([.ref (X 0), .int (nI si)]) (n := 2) (Nat.le_of_ble_eq_true rfl)
  rw [lg_entry_eq]
  generalize (lg_sl ([.ref (X 0), .int (nI si)]) ++ List.replicate (2 - (lg_sl ([.ref (X 0), .int (nI si)])).length) Slot.unset).toArray = ls at hl ⊢
  have hl : lv_has ls 2 [(0, .ref (X 0)), (1, .int (nI si))] := hl
  have ok0 : c_has V (nI si) = true := c_has_lt hct hn0 hsn
  refine lv_aload_n hx hb dX4_goesOn_0 rfl (lv_at hl 0 rfl) ?_
  refine va_get (D := D) (ci := 4) (v := .ref (X 2)) (C := RX4) (T := TX4) (N := 7) hx hb hts i4 hown hK hP 0 rfl rfl 1 (by decide) fl_19 (fun _ h9 => h9) rfl dX4_goesOn_1 ?_
  refine lv_iload_n hx hb dX4_goesOn_4 rfl (lv_at hl 1 rfl) ?_
  refine z_callR (W.runV (As := [.int (nI si)]) (rest := []) ⟨hx, hb, hml, hown, hts⟩ (kX3_has l D cI cZ X S O V (nI si)) (cwV 1 hts gX4_goesOn_X3_has rfl rfl rfl (by decide +kernel) ⟨Nat.le_of_ble_eq_true rfl, Nat.le_of_ble_eq_true rfl⟩) (zR_preV 2 3 hK hP rfl rfl) rfl rfl hl.1 rfl (lv_room (Nat.le_of_ble_eq_true rfl)) dX4_goesOn_5 ⟨Nat.zero_le _, Nat.zero_le _⟩) ?_
  refine z_if_ne (tgt := 21) hx hb dX4_goesOn_8 (by decide) (fun _ => ?_) (fun q => absurd (ok0.symm.trans q) (by decide))
  refine lv_aload_n hx hb dX4_goesOn_21 rfl (lv_at hl 0 rfl) ?_
  refine va_get (D := D) (ci := 4) (v := .ref (X 2)) (C := RX4) (T := TX4) (N := 7) hx hb hts i4 hown hK hP 0 rfl rfl 1 (by decide) fl_19 (fun _ h9 => h9) rfl dX4_goesOn_22 ?_
  refine lv_iload_n hx hb dX4_goesOn_25 rfl (lv_at hl 1 rfl) ?_
  refine z_callR (W.runV (As := [.int (nI si)]) (rest := []) ⟨hx, hb, hml, hown, hts⟩ (kX3_isOver l D cI cZ X S O V si (by omega)) (cwV 1 hts gX4_goesOn_X3_isOver rfl rfl rfl (by decide +kernel) ⟨Nat.le_of_ble_eq_true rfl, Nat.le_of_ble_eq_true rfl⟩) (zR_preV 2 3 hK hP rfl rfl) rfl rfl hl.1 rfl (lv_room (Nat.le_of_ble_eq_true rfl)) dX4_goesOn_26 ⟨Nat.zero_le _, Nat.zero_le _⟩) ?_
  refine z_if_ne (tgt := 36) hx hb dX4_goesOn_29 (by decide) (fun c_29 => ?_) (fun c_29 => ?_)
  · refine lv_iconst (v := 0) hx hb dX4_goesOn_36 rfl ?_
    exact z_zret hx hb hr hlocks (by simp [bi, c_29]) dX4_goesOn_37
  · refine lv_iconst (v := 1) hx hb dX4_goesOn_32 rfl ?_
    refine lv_goto (tgt := 37) hx hb dX4_goesOn_33 (by decide) ?_
    exact z_zret hx hb hr hlocks (by simp [bi, c_29]) dX4_goesOn_37

set_option maxHeartbeats 4000000 in
set_option maxRecDepth 100000 in
theorem kX4_changeKeys (l : Launch) (D : va_G) (cI cZ : ClassId) (X : Nat → Nat) (S : Nat → Nat → Int32) (O : Nat → Bool) (V : Nat → Int32) (sz : Nat) (x0 : Int32) (hw0 : ¬ x0 < 0) (hw3 : x0 ≤ 300) (n0 : Nat) (hn0 : n0 ≤ 30) (hct : V 1 = nI n0) (hpe : ∀ j : Nat, j < n0 → vp_in (S 11 j) 10) : Met l yX4_changeKeys wsX4_changeKeys ({ frames := 6, cells := 0, slots := 0, locals := 90 } : Room) (zW D (tyl cI cZ) (hW cI cZ X S O V) sz [.ref (X 0), .int x0]) (zQi D (tyl cI cZ) (hW cI cZ X S (c_edO S O (va_up (va_up V 2 (V 2 + 1)) 3 (V 0 + x0)) (V 0) n0) (va_up (va_up V 2 (V 2 + 1)) 3 (V 0 + x0))) (V 2 + 1) (va_A (hW cI cZ X S O V) sz)) 0 0 (va_A (hW cI cZ X S O V) sz) := by
  refine Met.ofW (cc := cX4_changeKeys) (maxL := 2) (ret := (some .int)) (by decide) rfl ?_
  intro p e s m args below meth c s₁ B hml hv
  obtain ⟨rfl, hsz, hP, hK, hD0⟩ := hv
  have hx := B.exec
  have hb := B.bytes
  have hr := B.returns
  have hts := atoms_spec (ws := wsX4_changeKeys) B.pre
  have hown : s.vm.findClass RX4 = some m.cls := findClass_of_methodNamed B.named
  have hlocks := B.notSynchronized
  subst hsz
  have hD := hD0.self (sz := s.heap.size)
  generalize hAe : va_A (hW cI cZ X S O V) s.heap.size = A at hD ⊢
  have hA : ∀ q : Nat, s.heap.size ≤ q → A q := fun q h => by rw [← hAe]; exact Or.inr h
  have hS : va_S A s.heap s.heap [] := va_S.rf
  have i4 : ∀ w ∈ u_ws RX4 TX4 7, w ∈ wsX4_changeKeys := by decide +kernel
  have fl_19 := hts (.fieldLink RX4 19 "SignOnHouse" "sessions" "LSignOnHouse$Sessions;") (by decide +kernel)
  have fl_26 := hts (.fieldLink RX4 26 "SignOnHouse" "keys" "LSignOnHouse$Keys;") (by decide +kernel)
  have fl_37 := hts (.fieldLink RX4 37 "SignOnHouse" "risks" "[I") (by decide +kernel)
  have fl_44 := hts (.fieldLink RX4 44 "SignOnHouse" "minute" "I") (by decide +kernel)
  have hl := lv_entry ([.ref (X 0), .int x0]) (n := 2) (Nat.le_of_ble_eq_true rfl)
  rw [lg_entry_eq]
  generalize (lg_sl ([.ref (X 0), .int x0]) ++ List.replicate (2 - (lg_sl ([.ref (X 0), .int x0])).length) Slot.unset).toArray = ls at hl ⊢
  have hl : lv_has ls 2 [(0, .ref (X 0)), (1, .int x0)] := hl
  refine lv_iload_n hx hb dX4_changeKeys_0 rfl (lv_at hl 1 rfl) ?_
  refine lv_if_lt (tgt := 11) hx hb dX4_changeKeys_1 (by decide) (fun q => absurd q hw0) (fun _ => ?_)
  refine lv_iload_n hx hb dX4_changeKeys_4 rfl (lv_at hl 1 rfl) ?_
  refine lv_sipush (v := 300) hx hb dX4_changeKeys_5 (by decide) ?_
  refine lv_icmp_le (tgt := 21) hx hb dX4_changeKeys_8 (by decide) (fun _ => ?_) (fun q => absurd hw3 q)
  refine lv_aload_n hx hb dX4_changeKeys_21 rfl (lv_at hl 0 rfl) ?_
  refine va_get (D := D) (ci := 4) (v := .ref (X 3)) (C := RX4) (T := TX4) (N := 7) hx hb hts i4 hown hK hP 0 rfl rfl 2 (by decide) fl_26 (fun _ h9 => h9) rfl dX4_changeKeys_22 ?_
  refine lv_aload_n hx hb dX4_changeKeys_25 rfl (lv_at hl 0 rfl) ?_
  refine va_get (D := D) (ci := 4) (v := .int (V 0)) (C := RX4) (T := TX4) (N := 7) hx hb hts i4 hown hK hP 0 rfl rfl 6 (by decide) fl_44 (fun _ h9 => h9) rfl dX4_changeKeys_26 ?_
  refine lv_iload_n hx hb dX4_changeKeys_29 rfl (lv_at hl 1 rfl) ?_
  refine lv_iadd hx hb dX4_changeKeys_30 ?_
  have hF := z_free hD hS hA
  refine z_callWv (va_runV (As := [.int ((V 0) + x0)]) (rest := []) ⟨hx, hb, hml, hown, hts⟩ (kX2_signWithNext l D cI cZ X S O V _ ((V 0) + x0)) (cwV 1 hts gX4_changeKeys_X2_signWithNext rfl rfl rfl (by decide +kernel) ⟨Nat.le_of_ble_eq_true rfl, Nat.le_of_ble_eq_true rfl⟩) (zW_preV 3 2 hK hP hD rfl rfl) rfl rfl hl.1 rfl (lv_room (Nat.le_of_ble_eq_true rfl)) dX4_changeKeys_31 ⟨Nat.zero_le _, Nat.zero_le _⟩) hS hF (fun H locs hP hD hS => ?_)
  refine lv_aload_n hx hb dX4_changeKeys_34 rfl (lv_at hl 0 rfl) ?_
  refine va_get (D := D) (ci := 4) (v := .ref (X 2)) (C := RX4) (T := TX4) (N := 7) hx hb hts i4 hown hK hP 0 rfl rfl 1 (by decide) fl_19 (fun _ h9 => h9) rfl dX4_changeKeys_35 ?_
  refine lv_aload_n hx hb dX4_changeKeys_38 rfl (lv_at hl 0 rfl) ?_
  refine va_get (D := D) (ci := 4) (v := .int ((va_up (va_up V 2 (V 2 + 1)) 3 ((V 0) + x0)) 0)) (C := RX4) (T := TX4) (N := 7) hx hb hts i4 hown hK hP 0 rfl rfl 6 (by decide) fl_44 (fun _ h9 => h9) rfl dX4_changeKeys_39 ?_
  refine lv_aload_n hx hb dX4_changeKeys_42 rfl (lv_at hl 0 rfl) ?_
  refine va_get (D := D) (ci := 4) (v := .ref (X 5)) (C := RX4) (T := TX4) (N := 7) hx hb hts i4 hown hK hP 0 rfl rfl 4 (by decide) fl_37 (fun _ h9 => h9) rfl dX4_changeKeys_43 ?_
  refine lv_aload_n hx hb dX4_changeKeys_46 rfl (lv_at hl 0 rfl) ?_
  refine va_get (D := D) (ci := 4) (v := .ref (X 3)) (C := RX4) (T := TX4) (N := 7) hx hb hts i4 hown hK hP 0 rfl rfl 2 (by decide) fl_26 (fun _ h9 => h9) rfl dX4_changeKeys_47 ?_
  have hF := z_free hD hS hA
  refine z_callWi (va_runV (As := [.int ((va_up (va_up V 2 (V 2 + 1)) 3 ((V 0) + x0)) 0), .ref (X 5), .ref (X 3)]) (rest := []) ⟨hx, hb, hml, hown, hts⟩ (kX3_endDue l D cI cZ X S O (va_up (va_up V 2 (V 2 + 1)) 3 ((V 0) + x0)) _ ((va_up (va_up V 2 (V 2 + 1)) 3 ((V 0) + x0)) 0) n0 hn0 hct hpe) (cwV 3 hts gX4_changeKeys_X3_endDue rfl rfl rfl (by decide +kernel) ⟨Nat.le_of_ble_eq_true rfl, Nat.le_of_ble_eq_true rfl⟩) (zW_preV 2 3 hK hP hD rfl rfl) rfl rfl hl.1 rfl (lv_room (Nat.le_of_ble_eq_true rfl)) dX4_changeKeys_50 ⟨Nat.zero_le _, Nat.zero_le _⟩) hS hF (fun H locs hP hD hS => ?_)
  refine lv_pop hx hb dX4_changeKeys_53 rfl ?_
  refine lv_aload_n hx hb dX4_changeKeys_54 rfl (lv_at hl 0 rfl) ?_
  refine va_get (D := D) (ci := 4) (v := .ref (X 3)) (C := RX4) (T := TX4) (N := 7) hx hb hts i4 hown hK hP 0 rfl rfl 2 (by decide) fl_26 (fun _ h9 => h9) rfl dX4_changeKeys_55 ?_
  refine z_callR (W.runV (As := []) (rest := []) ⟨hx, hb, hml, hown, hts⟩ (kX2_signing l D cI cZ X S (c_edO S O (va_up (va_up V 2 (V 2 + 1)) 3 ((V 0) + x0)) ((va_up (va_up V 2 (V 2 + 1)) 3 ((V 0) + x0)) 0) n0) (va_up (va_up V 2 (V 2 + 1)) 3 ((V 0) + x0)) ) (cwV 0 hts gX4_changeKeys_X2_signing rfl rfl rfl (by decide +kernel) ⟨Nat.le_of_ble_eq_true rfl, Nat.le_of_ble_eq_true rfl⟩) (zR_preV 3 2 hK hP rfl rfl) rfl rfl hl.1 rfl (lv_room (Nat.le_of_ble_eq_true rfl)) dX4_changeKeys_58 ⟨Nat.zero_le _, Nat.zero_le _⟩) ?_
  have eO : (c_edO S O (va_up (va_up V 2 (V 2 + 1)) 3 (V 0 + x0)) (V 0) n0) = (c_edO S O (va_up (va_up V 2 (V 2 + 1)) 3 ((V 0) + x0)) ((va_up (va_up V 2 (V 2 + 1)) 3 ((V 0) + x0)) 0) n0) := by rfl
  have eV : (va_up (va_up V 2 (V 2 + 1)) 3 (V 0 + x0)) = (va_up (va_up V 2 (V 2 + 1)) 3 ((V 0) + x0)) := by rfl
  exact z_wret hx hb hr hlocks (by rw [eO, eV]; exact hP) hK (by rw [eO, eV]; exact hD) hS (by rfl) dX4_changeKeys_61

set_option maxHeartbeats 4000000 in
set_option maxRecDepth 100000 in
theorem kX4_isTaken (l : Launch) (D : va_G) (cI cZ : ClassId) (X : Nat → Nat) (S : Nat → Nat → Int32) (O : Nat → Bool) (V : Nat → Int32) (x0 : Int32) (hw0 : ¬ x0 < 0) (hw3 : x0 ≤ V 2) : Met l yX4_isTaken wsX4_isTaken ({ frames := 6, cells := 0, slots := 0, locals := 90 } : Room) (zR D (tyl cI cZ) (hW cI cZ X S O V) [.ref (X 0), .int x0]) (QcRead (bi (c_takes V x0 (V 0)))) 0 0 (fun _ => False) := by
  refine Met.ofW (cc := cX4_isTaken) (maxL := 2) (ret := (some .boolean)) (by decide) rfl ?_
  intro p e s m args below meth c s₁ B hml hv
  obtain ⟨rfl, hP, hK⟩ := hv
  have hx := B.exec
  have hb := B.bytes
  have hr := B.returns
  have hts := atoms_spec (ws := wsX4_isTaken) B.pre
  have hown : s.vm.findClass RX4 = some m.cls := findClass_of_methodNamed B.named
  have hlocks := B.notSynchronized
  have i4 : ∀ w ∈ u_ws RX4 TX4 7, w ∈ wsX4_isTaken := by decide +kernel
  have fl_26 := hts (.fieldLink RX4 26 "SignOnHouse" "keys" "LSignOnHouse$Keys;") (by decide +kernel)
  have fl_44 := hts (.fieldLink RX4 44 "SignOnHouse" "minute" "I") (by decide +kernel)
  have hl := lv_entry ([.ref (X 0), .int x0]) (n := 2) (Nat.le_of_ble_eq_true rfl)
  rw [lg_entry_eq]
  generalize (lg_sl ([.ref (X 0), .int x0]) ++ List.replicate (2 - (lg_sl ([.ref (X 0), .int x0])).length) Slot.unset).toArray = ls at hl ⊢
  have hl : lv_has ls 2 [(0, .ref (X 0)), (1, .int x0)] := hl
  refine lv_iload_n hx hb dX4_isTaken_0 rfl (lv_at hl 1 rfl) ?_
  refine lv_if_lt (tgt := 15) hx hb dX4_isTaken_1 (by decide) (fun q => absurd q hw0) (fun _ => ?_)
  refine lv_iload_n hx hb dX4_isTaken_4 rfl (lv_at hl 1 rfl) ?_
  refine lv_aload_n hx hb dX4_isTaken_5 rfl (lv_at hl 0 rfl) ?_
  refine va_get (D := D) (ci := 4) (v := .ref (X 3)) (C := RX4) (T := TX4) (N := 7) hx hb hts i4 hown hK hP 0 rfl rfl 2 (by decide) fl_26 (fun _ h9 => h9) rfl dX4_isTaken_6 ?_
  refine z_callR (W.runV (As := []) (rest := [.int x0]) ⟨hx, hb, hml, hown, hts⟩ (kX2_signing l D cI cZ X S O V ) (cwV 0 hts gX4_isTaken_X2_signing rfl rfl rfl (by decide +kernel) ⟨Nat.le_of_ble_eq_true rfl, Nat.le_of_ble_eq_true rfl⟩) (zR_preV 3 2 hK hP rfl rfl) rfl rfl hl.1 rfl (lv_room (Nat.le_of_ble_eq_true rfl)) dX4_isTaken_9 ⟨Nat.zero_le _, Nat.zero_le _⟩) ?_
  refine lv_icmp_le (tgt := 25) hx hb dX4_isTaken_12 (by decide) (fun _ => ?_) (fun q => absurd hw3 q)
  refine lv_aload_n hx hb dX4_isTaken_25 rfl (lv_at hl 0 rfl) ?_
  refine va_get (D := D) (ci := 4) (v := .ref (X 3)) (C := RX4) (T := TX4) (N := 7) hx hb hts i4 hown hK hP 0 rfl rfl 2 (by decide) fl_26 (fun _ h9 => h9) rfl dX4_isTaken_26 ?_
  refine lv_iload_n hx hb dX4_isTaken_29 rfl (lv_at hl 1 rfl) ?_
  refine lv_aload_n hx hb dX4_isTaken_30 rfl (lv_at hl 0 rfl) ?_
  refine va_get (D := D) (ci := 4) (v := .int (V 0)) (C := RX4) (T := TX4) (N := 7) hx hb hts i4 hown hK hP 0 rfl rfl 6 (by decide) fl_44 (fun _ h9 => h9) rfl dX4_isTaken_31 ?_
  refine z_callR (W.runV (As := [.int x0, .int (V 0)]) (rest := []) ⟨hx, hb, hml, hown, hts⟩ (kX2_takes l D cI cZ X S O V x0 (V 0)) (cwV 2 hts gX4_isTaken_X2_takes rfl rfl rfl (by decide +kernel) ⟨Nat.le_of_ble_eq_true rfl, Nat.le_of_ble_eq_true rfl⟩) (zR_preV 3 2 hK hP rfl rfl) rfl rfl hl.1 rfl (lv_room (Nat.le_of_ble_eq_true rfl)) dX4_isTaken_34 ⟨Nat.zero_le _, Nat.zero_le _⟩) ?_
  exact z_zret hx hb hr hlocks rfl dX4_isTaken_37
