set_option maxHeartbeats 4000000 in
set_option maxRecDepth 100000 in
theorem kX2_signing (l : Launch) (D : va_G) (cI cZ : ClassId) (X : Nat → Nat) (S : Nat → Nat → Int32) (O : Nat → Bool) (V : Nat → Int32)  : Met l yX2_signing wsX2_signing ({ frames := 0, cells := 0, slots := 0, locals := 0 } : Room) (zR D (tyl cI cZ) (hW cI cZ X S O V) [.ref (X 3)]) (QcRead (V 2)) 0 0 (fun _ => False) := by
  refine Met.ofW (cc := cX2_signing) (maxL := 1) (ret := (some .int)) (by decide) rfl ?_
  intro p e s m args below meth c s₁ B hml hv
  obtain ⟨rfl, hP, hK⟩ := hv
  have hx := B.exec
  have hb := B.bytes
  have hr := B.returns
  have hts := atoms_spec (ws := wsX2_signing) B.pre
  have hown : s.vm.findClass RX2 = some m.cls := findClass_of_methodNamed B.named
  have hlocks := B.notSynchronized
  have i2 : ∀ w ∈ u_ws RX2 TX2 2, w ∈ wsX2_signing := by decide +kernel
  have fl_7 := hts (.fieldLink RX2 7 "SignOnHouse$Keys" "signing" "I") (by decide +kernel)
  have hl := lv_entry ([.ref (X 3)]) (n := 1) (Nat.le_of_ble_eq_true rfl)
  rw [lg_entry_eq]
  generalize (lg_sl ([.ref (X 3)]) ++ List.replicate (1 - (lg_sl ([.ref (X 3)])).length) Slot.unset).toArray = ls at hl ⊢
  have hl : lv_has ls 1 [(0, .ref (X 3))] := hl
  refine lv_aload_n hx hb dX2_signing_0 rfl (lv_at hl 0 rfl) ?_
  refine va_get (D := D) (ci := 2) (v := .int (V 2)) (C := RX2) (T := TX2) (N := 2) hx hb hts i2 hown hK hP 3 rfl rfl 0 (by decide) fl_7 (fun _ h9 => h9) rfl dX2_signing_1 ?_
  exact z_ret hx hb hr hlocks rfl dX2_signing_4

set_option maxHeartbeats 4000000 in
set_option maxRecDepth 100000 in
theorem kX2_signWithNext (l : Launch) (D : va_G) (cI cZ : ClassId) (X : Nat → Nat) (S : Nat → Nat → Int32) (O : Nat → Bool) (V : Nat → Int32) (sz : Nat) (x0 : Int32) : Met l yX2_signWithNext wsX2_signWithNext ({ frames := 0, cells := 0, slots := 0, locals := 0 } : Room) (zW D (tyl cI cZ) (hW cI cZ X S O V) sz [.ref (X 3), .int x0]) (zQv D (tyl cI cZ) (hW cI cZ X S O (va_up (va_up V 2 (V 2 + 1)) 3 x0)) (va_A (hW cI cZ X S O V) sz)) 0 0 (va_A (hW cI cZ X S O V) sz) := by
  refine Met.ofW (cc := cX2_signWithNext) (maxL := 2) (ret := none) (by decide) rfl ?_
  intro p e s m args below meth c s₁ B hml hv
  obtain ⟨rfl, hsz, hP, hK, hD0⟩ := hv
  have hx := B.exec
  have hb := B.bytes
  have hr := B.returns
  have hts := atoms_spec (ws := wsX2_signWithNext) B.pre
  have hown : s.vm.findClass RX2 = some m.cls := findClass_of_methodNamed B.named
  have hlocks := B.notSynchronized
  subst hsz
  have hD := hD0.self (sz := s.heap.size)
  generalize hAe : va_A (hW cI cZ X S O V) s.heap.size = A at hD ⊢
  have hA : ∀ q : Nat, s.heap.size ≤ q → A q := fun q h => by rw [← hAe]; exact Or.inr h
  have hS : va_S A s.heap s.heap [] := va_S.rf
  have i2 : ∀ w ∈ u_ws RX2 TX2 2, w ∈ wsX2_signWithNext := by decide +kernel
  have fl_7 := hts (.fieldLink RX2 7 "SignOnHouse$Keys" "signing" "I") (by decide +kernel)
  have fl_13 := hts (.fieldLink RX2 13 "SignOnHouse$Keys" "endOfBefore" "I") (by decide +kernel)
  have hl := lv_entry ([.ref (X 3), .int x0]) (n := 2) (Nat.le_of_ble_eq_true rfl)
  rw [lg_entry_eq]
  generalize (lg_sl ([.ref (X 3), .int x0]) ++ List.replicate (2 - (lg_sl ([.ref (X 3), .int x0])).length) Slot.unset).toArray = ls at hl ⊢
  have hl : lv_has ls 2 [(0, .ref (X 3)), (1, .int x0)] := hl
  refine lv_aload_n hx hb dX2_signWithNext_0 rfl (lv_at hl 0 rfl) ?_
  refine lv_dup hx hb dX2_signWithNext_1 rfl ?_
  refine va_get (D := D) (ci := 2) (v := .int (V 2)) (C := RX2) (T := TX2) (N := 2) hx hb hts i2 hown hK hP 3 rfl rfl 0 (by decide) fl_7 (fun _ h9 => h9) rfl dX2_signWithNext_2 ?_
  refine lv_iconst (v := 1) hx hb dX2_signWithNext_5 rfl ?_
  refine lv_iadd hx hb dX2_signWithNext_6 ?_
  refine va_put (D := D) (ci := 2) (v := .int ((V 2) + 1)) (ty := .int) (C := RX2) (T := TX2) (N := 2) hx hb hts i2 tyX2 tyX2_ok nmX2 hown hK hP hD hS 3 rfl rfl 0 (by decide) fl_7 (fun _ h9 => h9) rfl (by decide +kernel) rfl rfl (Nat.le_of_ble_eq_true rfl) dX2_signWithNext_7 (fun H locs hP hD hS => ?_)
  have hP : va_P D vwCl (hW cI cZ X S O (va_up V 2 ((V 2) + 1))) H := hP
  have hD : va_D A (hW cI cZ X S O (va_up V 2 ((V 2) + 1))) := hD
  refine lv_aload_n hx hb dX2_signWithNext_10 rfl (lv_at hl 0 rfl) ?_
  refine lv_iload_n hx hb dX2_signWithNext_11 rfl (lv_at hl 1 rfl) ?_
  refine va_put (D := D) (ci := 2) (v := .int x0) (ty := .int) (C := RX2) (T := TX2) (N := 2) hx hb hts i2 tyX2 tyX2_ok nmX2 hown hK hP hD hS 3 rfl rfl 1 (by decide) fl_13 (fun _ h9 => h9) rfl (by decide +kernel) rfl rfl (Nat.le_of_ble_eq_true rfl) dX2_signWithNext_12 (fun H locs hP hD hS => ?_)
  have hP : va_P D vwCl (hW cI cZ X S O (va_up (va_up V 2 ((V 2) + 1)) 3 x0)) H := hP
  have hD : va_D A (hW cI cZ X S O (va_up (va_up V 2 ((V 2) + 1)) 3 x0)) := hD
  have eV : (va_up (va_up V 2 (V 2 + 1)) 3 x0) = (va_up (va_up V 2 ((V 2) + 1)) 3 x0) := by rfl
  exact z_wvret hx hb hr hlocks (by rw [eV]; exact hP) hK (by rw [eV]; exact hD) hS dX2_signWithNext_15

set_option maxHeartbeats 4000000 in
set_option maxRecDepth 100000 in
theorem kX2_takes (l : Launch) (D : va_G) (cI cZ : ClassId) (X : Nat → Nat) (S : Nat → Nat → Int32) (O : Nat → Bool) (V : Nat → Int32) (x0 : Int32) (x1 : Int32) : Met l yX2_takes wsX2_takes ({ frames := 0, cells := 0, slots := 0, locals := 0 } : Room) (zR D (tyl cI cZ) (hW cI cZ X S O V) [.ref (X 3), .int x0, .int x1]) (QcRead (bi (c_takes V x0 x1))) 0 0 (fun _ => False) := by
  refine Met.ofW (cc := cX2_takes) (maxL := 3) (ret := (some .boolean)) (by decide) rfl ?_
  intro p e s m args below meth c s₁ B hml hv
  obtain ⟨rfl, hP, hK⟩ := hv
  have hx := B.exec
  have hb := B.bytes
  have hr := B.returns
  have hts := atoms_spec (ws := wsX2_takes) B.pre
  have hown : s.vm.findClass RX2 = some m.cls := findClass_of_methodNamed B.named
  have hlocks := B.notSynchronized
  have i2 : ∀ w ∈ u_ws RX2 TX2 2, w ∈ wsX2_takes := by decide +kernel
  have fl_7 := hts (.fieldLink RX2 7 "SignOnHouse$Keys" "signing" "I") (by decide +kernel)
  have fl_13 := hts (.fieldLink RX2 13 "SignOnHouse$Keys" "endOfBefore" "I") (by decide +kernel)
  have hl := lv_entry ([.ref (X 3), .int x0, .int x1]) (n := 3) (Nat.le_of_ble_eq_true rfl)
  rw [lg_entry_eq]
  generalize (lg_sl ([.ref (X 3), .int x0, .int x1]) ++ List.replicate (3 - (lg_sl ([.ref (X 3), .int x0, .int x1])).length) Slot.unset).toArray = ls at hl ⊢
  have hl : lv_has ls 3 [(0, .ref (X 3)), (1, .int x0), (2, .int x1)] := hl
  refine lv_iload_n hx hb dX2_takes_0 rfl (lv_at hl 1 rfl) ?_
  refine lv_aload_n hx hb dX2_takes_1 rfl (lv_at hl 0 rfl) ?_
  refine va_get (D := D) (ci := 2) (v := .int (V 2)) (C := RX2) (T := TX2) (N := 2) hx hb hts i2 hown hK hP 3 rfl rfl 0 (by decide) fl_7 (fun _ h9 => h9) rfl dX2_takes_2 ?_
  refine lv_icmp_eq (tgt := 26) hx hb dX2_takes_5 (by decide) (fun c_5 => ?_) (fun c_5 => ?_)
  · refine lv_iconst (v := 1) hx hb dX2_takes_26 rfl ?_
    refine lv_goto (tgt := 31) hx hb dX2_takes_27 (by decide) ?_
    exact z_zret hx hb hr hlocks (by simp [c_takes, bi, (eq_true c_5)]) dX2_takes_31
  · refine lv_iload_n hx hb dX2_takes_8 rfl (lv_at hl 1 rfl) ?_
    refine lv_aload_n hx hb dX2_takes_9 rfl (lv_at hl 0 rfl) ?_
    refine va_get (D := D) (ci := 2) (v := .int (V 2)) (C := RX2) (T := TX2) (N := 2) hx hb hts i2 hown hK hP 3 rfl rfl 0 (by decide) fl_7 (fun _ h9 => h9) rfl dX2_takes_10 ?_
    refine lv_iconst (v := 1) hx hb dX2_takes_13 rfl ?_
    refine lv_isub hx hb dX2_takes_14 ?_
    refine lv_icmp_ne (tgt := 30) hx hb dX2_takes_15 (by decide) (fun c_15 => ?_) (fun c_15 => ?_)
    · refine lv_iconst (v := 0) hx hb dX2_takes_30 rfl ?_
      exact z_zret hx hb hr hlocks (by simp [c_takes, bi, c_5, c_15]) dX2_takes_31
    · refine lv_iload_n hx hb dX2_takes_18 rfl (lv_at hl 2 rfl) ?_
      refine lv_aload_n hx hb dX2_takes_19 rfl (lv_at hl 0 rfl) ?_
      refine va_get (D := D) (ci := 2) (v := .int (V 3)) (C := RX2) (T := TX2) (N := 2) hx hb hts i2 hown hK hP 3 rfl rfl 1 (by decide) fl_13 (fun _ h9 => h9) rfl dX2_takes_20 ?_
      refine z_sel_icmp_ge hx hb dX2_takes_23 dX2_takes_26 dX2_takes_27 dX2_takes_30 ?_
      exact z_zret hx hb hr hlocks (by simp [c_takes, bi, c_5, (eq_true c_15)]) dX2_takes_31

set_option maxHeartbeats 4000000 in
set_option maxRecDepth 100000 in
theorem kX3_areAllOpened (l : Launch) (D : va_G) (cI cZ : ClassId) (X : Nat → Nat) (S : Nat → Nat → Int32) (O : Nat → Bool) (V : Nat → Int32)  : Met l yX3_areAllOpened wsX3_areAllOpened ({ frames := 0, cells := 0, slots := 0, locals := 0 } : Room) (zR D (tyl cI cZ) (hW cI cZ X S O V) [.ref (X 2)]) (QcRead (bi (!decide (V 1 < 30)))) 0 0 (fun _ => False) := by
  refine Met.ofW (cc := cX3_areAllOpened) (maxL := 1) (ret := (some .boolean)) (by decide) rfl ?_
  intro p e s m args below meth c s₁ B hml hv
  obtain ⟨rfl, hP, hK⟩ := hv
  have hx := B.exec
  have hb := B.bytes
  have hr := B.returns
  have hts := atoms_spec (ws := wsX3_areAllOpened) B.pre
  have hown : s.vm.findClass RX3 = some m.cls := findClass_of_methodNamed B.named
  have hlocks := B.notSynchronized
  have i3 : ∀ w ∈ u_ws RX3 TX3 6, w ∈ wsX3_areAllOpened := by decide +kernel
  have fl_26 := hts (.fieldLink RX3 26 "SignOnHouse$Sessions" "count" "I") (by decide +kernel)
  have hl := lv_entry ([.ref (X 2)]) (n := 1) (Nat.le_of_ble_eq_true rfl)
  rw [lg_entry_eq]
  generalize (lg_sl ([.ref (X 2)]) ++ List.replicate (1 - (lg_sl ([.ref (X 2)])).length) Slot.unset).toArray = ls at hl ⊢
  have hl : lv_has ls 1 [(0, .ref (X 2))] := hl
  refine lv_aload_n hx hb dX3_areAllOpened_0 rfl (lv_at hl 0 rfl) ?_
  refine va_get (D := D) (ci := 3) (v := .int (V 1)) (C := RX3) (T := TX3) (N := 6) hx hb hts i3 hown hK hP 2 rfl rfl 5 (by decide) fl_26 (fun _ h9 => h9) rfl dX3_areAllOpened_1 ?_
  refine lv_bipush (v := 30) hx hb dX3_areAllOpened_4 (by decide) ?_
  refine z_sel_icmp_lt hx hb dX3_areAllOpened_6 dX3_areAllOpened_9 dX3_areAllOpened_10 dX3_areAllOpened_13 ?_
  exact z_zret hx hb hr hlocks rfl dX3_areAllOpened_14

set_option maxHeartbeats 4000000 in
set_option maxRecDepth 100000 in
theorem kX3_has (l : Launch) (D : va_G) (cI cZ : ClassId) (X : Nat → Nat) (S : Nat → Nat → Int32) (O : Nat → Bool) (V : Nat → Int32) (x0 : Int32) : Met l yX3_has wsX3_has ({ frames := 0, cells := 0, slots := 0, locals := 0 } : Room) (zR D (tyl cI cZ) (hW cI cZ X S O V) [.ref (X 2), .int x0]) (QcRead (bi (c_has V x0))) 0 0 (fun _ => False) := by
  refine Met.ofW (cc := cX3_has) (maxL := 2) (ret := (some .boolean)) (by decide) rfl ?_
  intro p e s m args below meth c s₁ B hml hv
  obtain ⟨rfl, hP, hK⟩ := hv
  have hx := B.exec
  have hb := B.bytes
  have hr := B.returns
  have hts := atoms_spec (ws := wsX3_has) B.pre
  have hown : s.vm.findClass RX3 = some m.cls := findClass_of_methodNamed B.named
  have hlocks := B.notSynchronized
  have i3 : ∀ w ∈ u_ws RX3 TX3 6, w ∈ wsX3_has := by decide +kernel
  have fl_26 := hts (.fieldLink RX3 26 "SignOnHouse$Sessions" "count" "I") (by decide +kernel)
  have hl := lv_entry ([.ref (X 2), .int x0]) (n := 2) (Nat.le_of_ble_eq_true rfl)
  rw [lg_entry_eq]
  generalize (lg_sl ([.ref (X 2), .int x0]) ++ List.replicate (2 - (lg_sl ([.ref (X 2), .int x0])).length) Slot.unset).toArray = ls at hl ⊢
  have hl : lv_has ls 2 [(0, .ref (X 2)), (1, .int x0)] := hl
  refine lv_iload_n hx hb dX3_has_0 rfl (lv_at hl 1 rfl) ?_
  refine lv_if_lt (tgt := 16) hx hb dX3_has_1 (by decide) (fun c_1 => ?_) (fun c_1 => ?_)
  · refine lv_iconst (v := 0) hx hb dX3_has_16 rfl ?_
    exact z_zret hx hb hr hlocks (by simp [c_has, bi, c_1]) dX3_has_17
  · refine lv_iload_n hx hb dX3_has_4 rfl (lv_at hl 1 rfl) ?_
    refine lv_aload_n hx hb dX3_has_5 rfl (lv_at hl 0 rfl) ?_
    refine va_get (D := D) (ci := 3) (v := .int (V 1)) (C := RX3) (T := TX3) (N := 6) hx hb hts i3 hown hK hP 2 rfl rfl 5 (by decide) fl_26 (fun _ h9 => h9) rfl dX3_has_6 ?_
    refine z_sel_icmp_ge hx hb dX3_has_9 dX3_has_12 dX3_has_13 dX3_has_16 ?_
    exact z_zret hx hb hr hlocks (by simp [c_has, bi, c_1]) dX3_has_17

set_option maxHeartbeats 4000000 in
set_option maxRecDepth 100000 in
theorem kX3_add (l : Launch) (D : va_G) (cI cZ : ClassId) (X : Nat → Nat) (S : Nat → Nat → Int32) (O : Nat → Bool) (V : Nat → Int32) (sz : Nat) (x0 : Int32) (x1 : Int32) (x2 : Int32) (n0 : Nat) (hn0 : n0 < 30) (hct : V 1 = nI n0) : Met l yX3_add wsX3_add ({ frames := 0, cells := 0, slots := 0, locals := 0 } : Room) (zW D (tyl cI cZ) (hW cI cZ X S O V) sz [.ref (X 2), .int x0, .int x1, .int x2]) (zQi D (tyl cI cZ) (hW cI cZ X (va_up (va_up (va_up (va_up S 11 (upd (S 11) n0 x0)) 12 (upd (S 12) n0 x1)) 13 (upd (S 13) n0 x2)) 14 (upd (S 14) n0 x2)) O (va_up V 1 (V 1 + 1))) (nI n0) (va_A (hW cI cZ X S O V) sz)) 0 0 (va_A (hW cI cZ X S O V) sz) := by
  refine Met.ofW (cc := cX3_add) (maxL := 5) (ret := (some .int)) (by decide) rfl ?_
  intro p e s m args below meth c s₁ B hml hv
  obtain ⟨rfl, hsz, hP, hK, hD0⟩ := hv
  have hx := B.exec
  have hb := B.bytes
  have hr := B.returns
  have hts := atoms_spec (ws := wsX3_add) B.pre
  have hown : s.vm.findClass RX3 = some m.cls := findClass_of_methodNamed B.named
  have hlocks := B.notSynchronized
  subst hsz
  have hD := hD0.self (sz := s.heap.size)
  generalize hAe : va_A (hW cI cZ X S O V) s.heap.size = A at hD ⊢
  have hA : ∀ q : Nat, s.heap.size ≤ q → A q := fun q h => by rw [← hAe]; exact Or.inr h
  have hS : va_S A s.heap s.heap [] := va_S.rf
  have i3 : ∀ w ∈ u_ws RX3 TX3 6, w ∈ wsX3_add := by decide +kernel
  have fl_9 := hts (.fieldLink RX3 9 "SignOnHouse$Sessions" "people" "[I") (by decide +kernel)
  have fl_13 := hts (.fieldLink RX3 13 "SignOnHouse$Sessions" "signedWith" "[I") (by decide +kernel)
  have fl_16 := hts (.fieldLink RX3 16 "SignOnHouse$Sessions" "openedAt" "[I") (by decide +kernel)
  have fl_19 := hts (.fieldLink RX3 19 "SignOnHouse$Sessions" "usedAt" "[I") (by decide +kernel)
  have fl_26 := hts (.fieldLink RX3 26 "SignOnHouse$Sessions" "count" "I") (by decide +kernel)
  have hl := lv_entry ([.ref (X 2), .int x0, .int x1, .int x2]) (n := 5) (Nat.le_of_ble_eq_true rfl)
  rw [lg_entry_eq]
  generalize (lg_sl ([.ref (X 2), .int x0, .int x1, .int x2]) ++ List.replicate (5 - (lg_sl ([.ref (X 2), .int x0, .int x1, .int x2])).length) Slot.unset).toArray = ls at hl ⊢
  have hl : lv_has ls 5 [(0, .ref (X 2)), (1, .int x0), (2, .int x1), (3, .int x2)] := hl
  refine lv_aload_n hx hb dX3_add_0 rfl (lv_at hl 0 rfl) ?_
  refine va_get (D := D) (ci := 3) (v := .int (V 1)) (C := RX3) (T := TX3) (N := 6) hx hb hts i3 hown hK hP 2 rfl rfl 5 (by decide) fl_26 (fun _ h9 => h9) rfl dX3_add_1 ?_
  refine z_top (nI n0) hct ?_
  refine lv_istore (lv' := [(4, .int (nI n0)), (0, .ref (X 2)), (1, .int x0), (2, .int x1), (3, .int x2)]) hx hb dX3_add_4 hl (by decide) rfl (fun ls hl => ?_)
  refine lv_aload_n hx hb dX3_add_6 rfl (lv_at hl 1 rfl) ?_
  refine va_get (D := D) (ci := 3) (v := .ref (X 11)) (C := RX3) (T := TX3) (N := 6) hx hb hts i3 hown hK hP 2 rfl rfl 0 (by decide) fl_9 (fun _ h9 => h9) rfl dX3_add_7 ?_
  refine lv_iload hx hb dX3_add_10 (lv_at hl 0 rfl) ?_
  refine lv_iload_n hx hb dX3_add_12 rfl (lv_at hl 2 rfl) ?_
  refine z_iast (D := D) (j := n0) (f := S 11) hx hb hK hP hD hS 11 0 rfl rfl (by omega) (by decide) dX3_add_13 (fun H locs hP hD hS => ?_)
  have hP : va_P D vwCl (hW cI cZ X (va_up S 11 (upd (S 11) n0 x0)) O V) H := hP
  have hD : va_D A (hW cI cZ X (va_up S 11 (upd (S 11) n0 x0)) O V) := hD
  refine lv_aload_n hx hb dX3_add_14 rfl (lv_at hl 1 rfl) ?_
  refine va_get (D := D) (ci := 3) (v := .ref (X 12)) (C := RX3) (T := TX3) (N := 6) hx hb hts i3 hown hK hP 2 rfl rfl 1 (by decide) fl_13 (fun _ h9 => h9) rfl dX3_add_15 ?_
  refine lv_iload hx hb dX3_add_18 (lv_at hl 0 rfl) ?_
  refine lv_iload_n hx hb dX3_add_20 rfl (lv_at hl 3 rfl) ?_
  refine z_iast (D := D) (j := n0) (f := S 12) hx hb hK hP hD hS 12 0 rfl rfl (by omega) (by decide) dX3_add_21 (fun H locs hP hD hS => ?_)
  have hP : va_P D vwCl (hW cI cZ X (va_up (va_up S 11 (upd (S 11) n0 x0)) 12 (upd (S 12) n0 x1)) O V) H := hP
  have hD : va_D A (hW cI cZ X (va_up (va_up S 11 (upd (S 11) n0 x0)) 12 (upd (S 12) n0 x1)) O V) := hD
  refine lv_aload_n hx hb dX3_add_22 rfl (lv_at hl 1 rfl) ?_
  refine va_get (D := D) (ci := 3) (v := .ref (X 13)) (C := RX3) (T := TX3) (N := 6) hx hb hts i3 hown hK hP 2 rfl rfl 2 (by decide) fl_16 (fun _ h9 => h9) rfl dX3_add_23 ?_
  refine lv_iload hx hb dX3_add_26 (lv_at hl 0 rfl) ?_
  refine lv_iload_n hx hb dX3_add_28 rfl (lv_at hl 4 rfl) ?_
  refine z_iast (D := D) (j := n0) (f := S 13) hx hb hK hP hD hS 13 0 rfl rfl (by omega) (by decide) dX3_add_29 (fun H locs hP hD hS => ?_)
  have hP : va_P D vwCl (hW cI cZ X (va_up (va_up (va_up S 11 (upd (S 11) n0 x0)) 12 (upd (S 12) n0 x1)) 13 (upd (S 13) n0 x2)) O V) H := hP
  have hD : va_D A (hW cI cZ X (va_up (va_up (va_up S 11 (upd (S 11) n0 x0)) 12 (upd (S 12) n0 x1)) 13 (upd (S 13) n0 x2)) O V) := hD
  refine lv_aload_n hx hb dX3_add_30 rfl (lv_at hl 1 rfl) ?_
  refine va_get (D := D) (ci := 3) (v := .ref (X 14)) (C := RX3) (T := TX3) (N := 6) hx hb hts i3 hown hK hP 2 rfl rfl 3 (by decide) fl_19 (fun _ h9 => h9) rfl dX3_add_31 ?_
  refine lv_iload hx hb dX3_add_34 (lv_at hl 0 rfl) ?_
  refine lv_iload_n hx hb dX3_add_36 rfl (lv_at hl 4 rfl) ?_
  refine z_iast (D := D) (j := n0) (f := S 14) hx hb hK hP hD hS 14 0 rfl rfl (by omega) (by decide) dX3_add_37 (fun H locs hP hD hS => ?_)
  have hP : va_P D vwCl (hW cI cZ X (va_up (va_up (va_up (va_up S 11 (upd (S 11) n0 x0)) 12 (upd (S 12) n0 x1)) 13 (upd (S 13) n0 x2)) 14 (upd (S 14) n0 x2)) O V) H := hP
  have hD : va_D A (hW cI cZ X (va_up (va_up (va_up (va_up S 11 (upd (S 11) n0 x0)) 12 (upd (S 12) n0 x1)) 13 (upd (S 13) n0 x2)) 14 (upd (S 14) n0 x2)) O V) := hD
  refine lv_aload_n hx hb dX3_add_38 rfl (lv_at hl 1 rfl) ?_
  refine lv_dup hx hb dX3_add_39 rfl ?_
  refine va_get (D := D) (ci := 3) (v := .int (V 1)) (C := RX3) (T := TX3) (N := 6) hx hb hts i3 hown hK hP 2 rfl rfl 5 (by decide) fl_26 (fun _ h9 => h9) rfl dX3_add_40 ?_
  refine lv_iconst (v := 1) hx hb dX3_add_43 rfl ?_
  refine lv_iadd hx hb dX3_add_44 ?_
  refine va_put (D := D) (ci := 3) (v := .int ((V 1) + 1)) (ty := .int) (C := RX3) (T := TX3) (N := 6) hx hb hts i3 tyX3 tyX3_ok nmX3 hown hK hP hD hS 2 rfl rfl 5 (by decide) fl_26 (fun _ h9 => h9) rfl (by decide +kernel) rfl rfl (Nat.le_of_ble_eq_true rfl) dX3_add_45 (fun H locs hP hD hS => ?_)
  have hP : va_P D vwCl (hW cI cZ X (va_up (va_up (va_up (va_up S 11 (upd (S 11) n0 x0)) 12 (upd (S 12) n0 x1)) 13 (upd (S 13) n0 x2)) 14 (upd (S 14) n0 x2)) O (va_up V 1 ((V 1) + 1))) H := hP
  have hD : va_D A (hW cI cZ X (va_up (va_up (va_up (va_up S 11 (upd (S 11) n0 x0)) 12 (upd (S 12) n0 x1)) 13 (upd (S 13) n0 x2)) 14 (upd (S 14) n0 x2)) O (va_up V 1 ((V 1) + 1))) := hD
  refine lv_iload hx hb dX3_add_48 (lv_at hl 0 rfl) ?_
  have eV : (va_up V 1 (V 1 + 1)) = (va_up V 1 ((V 1) + 1)) := by rfl
  exact z_wret hx hb hr hlocks (by rw [eV]; exact hP) hK (by rw [eV]; exact hD) hS rfl dX3_add_50

set_option maxHeartbeats 4000000 in
set_option maxRecDepth 100000 in
theorem kX3_isOver (l : Launch) (D : va_G) (cI cZ : ClassId) (X : Nat → Nat) (S : Nat → Nat → Int32) (O : Nat → Bool) (V : Nat → Int32) (si : Nat) (hsi : si < 30) : Met l yX3_isOver wsX3_isOver ({ frames := 0, cells := 0, slots := 0, locals := 0 } : Room) (zR D (tyl cI cZ) (hW cI cZ X S O V) [.ref (X 2), .int (nI si)]) (QcRead (bi (O si))) 0 0 (fun _ => False) := by
  refine Met.ofW (cc := cX3_isOver) (maxL := 2) (ret := (some .boolean)) (by decide) rfl ?_
  intro p e s m args below meth c s₁ B hml hv
  obtain ⟨rfl, hP, hK⟩ := hv
  have hx := B.exec
  have hb := B.bytes
  have hr := B.returns
  have hts := atoms_spec (ws := wsX3_isOver) B.pre
  have hown : s.vm.findClass RX3 = some m.cls := findClass_of_methodNamed B.named
  have hlocks := B.notSynchronized
  have i3 : ∀ w ∈ u_ws RX3 TX3 6, w ∈ wsX3_isOver := by decide +kernel
  have fl_22 := hts (.fieldLink RX3 22 "SignOnHouse$Sessions" "over" "[Z") (by decide +kernel)
  have hl := lv_entry ([.ref (X 2), .int (nI si)]) (n := 2) (Nat.le_of_ble_eq_true rfl)
  rw [lg_entry_eq]
  generalize (lg_sl ([.ref (X 2), .int (nI si)]) ++ List.replicate (2 - (lg_sl ([.ref (X 2), .int (nI si)])).length) Slot.unset).toArray = ls at hl ⊢
  have hl : lv_has ls 2 [(0, .ref (X 2)), (1, .int (nI si))] := hl
  refine lv_aload_n hx hb dX3_isOver_0 rfl (lv_at hl 0 rfl) ?_
  refine va_get (D := D) (ci := 3) (v := .ref (X 15)) (C := RX3) (T := TX3) (N := 6) hx hb hts i3 hown hK hP 2 rfl rfl 4 (by decide) fl_22 (fun _ h9 => h9) rfl dX3_isOver_1 ?_
  refine lv_iload_n hx hb dX3_isOver_4 rfl (lv_at hl 1 rfl) ?_
  refine z_zald (D := D) (j := si) (g := O) hx hb hK hP 15 1 rfl rfl (by omega) (by decide) dX3_isOver_5 ?_
  exact z_zret hx hb hr hlocks rfl dX3_isOver_6

set_option maxHeartbeats 4000000 in
set_option maxRecDepth 100000 in
theorem kX3_end (l : Launch) (D : va_G) (cI cZ : ClassId) (X : Nat → Nat) (S : Nat → Nat → Int32) (O : Nat → Bool) (V : Nat → Int32) (sz : Nat) (si : Nat) (hsi : si < 30) : Met l yX3_end wsX3_end ({ frames := 0, cells := 0, slots := 0, locals := 0 } : Room) (zW D (tyl cI cZ) (hW cI cZ X S O V) sz [.ref (X 2), .int (nI si)]) (zQv D (tyl cI cZ) (hW cI cZ X S (va_up O si true) V) (va_A (hW cI cZ X S O V) sz)) 0 0 (va_A (hW cI cZ X S O V) sz) := by
  refine Met.ofW (cc := cX3_end) (maxL := 2) (ret := none) (by decide) rfl ?_
  intro p e s m args below meth c s₁ B hml hv
  obtain ⟨rfl, hsz, hP, hK, hD0⟩ := hv
  have hx := B.exec
  have hb := B.bytes
  have hr := B.returns
  have hts := atoms_spec (ws := wsX3_end) B.pre
  have hown : s.vm.findClass RX3 = some m.cls := findClass_of_methodNamed B.named
  have hlocks := B.notSynchronized
  subst hsz
  have hD := hD0.self (sz := s.heap.size)
  generalize hAe : va_A (hW cI cZ X S O V) s.heap.size = A at hD ⊢
  have hA : ∀ q : Nat, s.heap.size ≤ q → A q := fun q h => by rw [← hAe]; exact Or.inr h
  have hS : va_S A s.heap s.heap [] := va_S.rf
  have i3 : ∀ w ∈ u_ws RX3 TX3 6, w ∈ wsX3_end := by decide +kernel
  have fl_22 := hts (.fieldLink RX3 22 "SignOnHouse$Sessions" "over" "[Z") (by decide +kernel)
  have hl := lv_entry ([.ref (X 2), .int (nI si)]) (n := 2) (Nat.le_of_ble_eq_true rfl)
  rw [lg_entry_eq]
  generalize (lg_sl ([.ref (X 2), .int (nI si)]) ++ List.replicate (2 - (lg_sl ([.ref (X 2), .int (nI si)])).length) Slot.unset).toArray = ls at hl ⊢
  have hl : lv_has ls 2 [(0, .ref (X 2)), (1, .int (nI si))] := hl
  refine lv_aload_n hx hb dX3_end_0 rfl (lv_at hl 0 rfl) ?_
  refine va_get (D := D) (ci := 3) (v := .ref (X 15)) (C := RX3) (T := TX3) (N := 6) hx hb hts i3 hown hK hP 2 rfl rfl 4 (by decide) fl_22 (fun _ h9 => h9) rfl dX3_end_1 ?_
  refine lv_iload_n hx hb dX3_end_4 rfl (lv_at hl 1 rfl) ?_
  refine lv_iconst (v := 1) hx hb dX3_end_5 rfl ?_
  refine z_zast (D := D) (j := si) (b := true) (g := O) hx hb hK hP hD hS 15 1 rfl rfl (by omega) (by decide) dX3_end_6 (fun H locs hP hD hS => ?_)
  have hP : va_P D vwCl (hW cI cZ X S (va_up O si true) V) H := hP
  have hD : va_D A (hW cI cZ X S (va_up O si true) V) := hD
  exact z_wvret hx hb hr hlocks hP hK hD hS dX3_end_7

set_option maxHeartbeats 4000000 in
set_option maxRecDepth 100000 in
theorem kX3_use (l : Launch) (D : va_G) (cI cZ : ClassId) (X : Nat → Nat) (S : Nat → Nat → Int32) (O : Nat → Bool) (V : Nat → Int32) (sz : Nat) (si : Nat) (x0 : Int32) (hsi : si < 30) : Met l yX3_use wsX3_use ({ frames := 0, cells := 0, slots := 0, locals := 0 } : Room) (zW D (tyl cI cZ) (hW cI cZ X S O V) sz [.ref (X 2), .int (nI si), .int x0]) (zQv D (tyl cI cZ) (hW cI cZ X (va_up S 14 (upd (S 14) si x0)) O V) (va_A (hW cI cZ X S O V) sz)) 0 0 (va_A (hW cI cZ X S O V) sz) := by
  refine Met.ofW (cc := cX3_use) (maxL := 3) (ret := none) (by decide) rfl ?_
  intro p e s m args below meth c s₁ B hml hv
  obtain ⟨rfl, hsz, hP, hK, hD0⟩ := hv
  have hx := B.exec
  have hb := B.bytes
  have hr := B.returns
  have hts := atoms_spec (ws := wsX3_use) B.pre
  have hown : s.vm.findClass RX3 = some m.cls := findClass_of_methodNamed B.named
  have hlocks := B.notSynchronized
  subst hsz
  have hD := hD0.self (sz := s.heap.size)
  generalize hAe : va_A (hW cI cZ X S O V) s.heap.size = A at hD ⊢
  have hA : ∀ q : Nat, s.heap.size ≤ q → A q := fun q h => by rw [← hAe]; exact Or.inr h
  have hS : va_S A s.heap s.heap [] := va_S.rf
  have i3 : ∀ w ∈ u_ws RX3 TX3 6, w ∈ wsX3_use := by decide +kernel
  have fl_19 := hts (.fieldLink RX3 19 "SignOnHouse$Sessions" "usedAt" "[I") (by decide +kernel)
  have hl := lv_entry ([.ref (X 2), .int (nI si), .int x0]) (n := 3) (Nat.le_of_ble_eq_true rfl)
  rw [lg_entry_eq]
  generalize (lg_sl ([.ref (X 2), .int (nI si), .int x0]) ++ List.replicate (3 - (lg_sl ([.ref (X 2), .int (nI si), .int x0])).length) Slot.unset).toArray = ls at hl ⊢
  have hl : lv_has ls 3 [(0, .ref (X 2)), (1, .int (nI si)), (2, .int x0)] := hl
  refine lv_aload_n hx hb dX3_use_0 rfl (lv_at hl 0 rfl) ?_
  refine va_get (D := D) (ci := 3) (v := .ref (X 14)) (C := RX3) (T := TX3) (N := 6) hx hb hts i3 hown hK hP 2 rfl rfl 3 (by decide) fl_19 (fun _ h9 => h9) rfl dX3_use_1 ?_
  refine lv_iload_n hx hb dX3_use_4 rfl (lv_at hl 1 rfl) ?_
  refine lv_iload_n hx hb dX3_use_5 rfl (lv_at hl 2 rfl) ?_
  refine z_iast (D := D) (j := si) (f := S 14) hx hb hK hP hD hS 14 0 rfl rfl (by omega) (by decide) dX3_use_6 (fun H locs hP hD hS => ?_)
  have hP : va_P D vwCl (hW cI cZ X (va_up S 14 (upd (S 14) si x0)) O V) H := hP
  have hD : va_D A (hW cI cZ X (va_up S 14 (upd (S 14) si x0)) O V) := hD
  exact z_wvret hx hb hr hlocks hP hK hD hS dX3_use_7

set_option maxHeartbeats 4000000 in
set_option maxRecDepth 100000 in
theorem kX3_personOf (l : Launch) (D : va_G) (cI cZ : ClassId) (X : Nat → Nat) (S : Nat → Nat → Int32) (O : Nat → Bool) (V : Nat → Int32) (si : Nat) (hsi : si < 30) : Met l yX3_personOf wsX3_personOf ({ frames := 0, cells := 0, slots := 0, locals := 0 } : Room) (zR D (tyl cI cZ) (hW cI cZ X S O V) [.ref (X 2), .int (nI si)]) (QcRead (S 11 si)) 0 0 (fun _ => False) := by
  refine Met.ofW (cc := cX3_personOf) (maxL := 2) (ret := (some .int)) (by decide) rfl ?_
  intro p e s m args below meth c s₁ B hml hv
  obtain ⟨rfl, hP, hK⟩ := hv
  have hx := B.exec
  have hb := B.bytes
  have hr := B.returns
  have hts := atoms_spec (ws := wsX3_personOf) B.pre
  have hown : s.vm.findClass RX3 = some m.cls := findClass_of_methodNamed B.named
  have hlocks := B.notSynchronized
  have i3 : ∀ w ∈ u_ws RX3 TX3 6, w ∈ wsX3_personOf := by decide +kernel
  have fl_9 := hts (.fieldLink RX3 9 "SignOnHouse$Sessions" "people" "[I") (by decide +kernel)
  have hl := lv_entry ([.ref (X 2), .int (nI si)]) (n := 2) (Nat.le_of_ble_eq_true rfl)
  rw [lg_entry_eq]
  generalize (lg_sl ([.ref (X 2), .int (nI si)]) ++ List.replicate (2 - (lg_sl ([.ref (X 2), .int (nI si)])).length) Slot.unset).toArray = ls at hl ⊢
  have hl : lv_has ls 2 [(0, .ref (X 2)), (1, .int (nI si))] := hl
  refine lv_aload_n hx hb dX3_personOf_0 rfl (lv_at hl 0 rfl) ?_
  refine va_get (D := D) (ci := 3) (v := .ref (X 11)) (C := RX3) (T := TX3) (N := 6) hx hb hts i3 hown hK hP 2 rfl rfl 0 (by decide) fl_9 (fun _ h9 => h9) rfl dX3_personOf_1 ?_
  refine lv_iload_n hx hb dX3_personOf_4 rfl (lv_at hl 1 rfl) ?_
  refine z_iald (D := D) (j := si) (f := S 11) hx hb hK hP 11 0 rfl rfl (by omega) (by decide) dX3_personOf_5 ?_
  exact z_ret hx hb hr hlocks rfl dX3_personOf_6

set_option maxHeartbeats 4000000 in
set_option maxRecDepth 100000 in
theorem kX3_age (l : Launch) (D : va_G) (cI cZ : ClassId) (X : Nat → Nat) (S : Nat → Nat → Int32) (O : Nat → Bool) (V : Nat → Int32) (si : Nat) (x0 : Int32) (hsi : si < 30) : Met l yX3_age wsX3_age ({ frames := 0, cells := 0, slots := 0, locals := 0 } : Room) (zR D (tyl cI cZ) (hW cI cZ X S O V) [.ref (X 2), .int (nI si), .int x0]) (QcRead (x0 - S 13 si)) 0 0 (fun _ => False) := by
  refine Met.ofW (cc := cX3_age) (maxL := 3) (ret := (some .int)) (by decide) rfl ?_
  intro p e s m args below meth c s₁ B hml hv
  obtain ⟨rfl, hP, hK⟩ := hv
  have hx := B.exec
  have hb := B.bytes
  have hr := B.returns
  have hts := atoms_spec (ws := wsX3_age) B.pre
  have hown : s.vm.findClass RX3 = some m.cls := findClass_of_methodNamed B.named
  have hlocks := B.notSynchronized
  have i3 : ∀ w ∈ u_ws RX3 TX3 6, w ∈ wsX3_age := by decide +kernel
  have fl_16 := hts (.fieldLink RX3 16 "SignOnHouse$Sessions" "openedAt" "[I") (by decide +kernel)
  have hl := lv_entry ([.ref (X 2), .int (nI si), .int x0]) (n := 3) (Nat.le_of_ble_eq_true rfl)
  rw [lg_entry_eq]
  generalize (lg_sl ([.ref (X 2), .int (nI si), .int x0]) ++ List.replicate (3 - (lg_sl ([.ref (X 2), .int (nI si), .int x0])).length) Slot.unset).toArray = ls at hl ⊢
  have hl : lv_has ls 3 [(0, .ref (X 2)), (1, .int (nI si)), (2, .int x0)] := hl
  refine lv_iload_n hx hb dX3_age_0 rfl (lv_at hl 2 rfl) ?_
  refine lv_aload_n hx hb dX3_age_1 rfl (lv_at hl 0 rfl) ?_
  refine va_get (D := D) (ci := 3) (v := .ref (X 13)) (C := RX3) (T := TX3) (N := 6) hx hb hts i3 hown hK hP 2 rfl rfl 2 (by decide) fl_16 (fun _ h9 => h9) rfl dX3_age_2 ?_
  refine lv_iload_n hx hb dX3_age_5 rfl (lv_at hl 1 rfl) ?_
  refine z_iald (D := D) (j := si) (f := S 13) hx hb hK hP 13 0 rfl rfl (by omega) (by decide) dX3_age_6 ?_
  refine lv_isub hx hb dX3_age_7 ?_
  exact z_ret hx hb hr hlocks (by rfl) dX3_age_8

set_option maxHeartbeats 4000000 in
set_option maxRecDepth 100000 in
theorem kX3_isDue (l : Launch) (D : va_G) (cI cZ : ClassId) (X : Nat → Nat) (S : Nat → Nat → Int32) (O : Nat → Bool) (V : Nat → Int32) (si : Nat) (x0 : Int32) (x1 : Int32) (hsi : si < 30) : Met l yX3_isDue wsX3_isDue ({ frames := 1, cells := 0, slots := 0, locals := 22 } : Room) (zR D (tyl cI cZ) (hW cI cZ X S O V) [.ref (X 2), .int (nI si), .int x0, .int x1, .ref (X 3)]) (QcRead (bi (c_isDue S V si x0 x1))) 0 0 (fun _ => False) := by
  refine Met.ofW (cc := cX3_isDue) (maxL := 5) (ret := (some .boolean)) (by decide) rfl ?_
  intro p e s m args below meth c s₁ B hml hv
  obtain ⟨rfl, hP, hK⟩ := hv
  have hx := B.exec
  have hb := B.bytes
  have hr := B.returns
  have hts := atoms_spec (ws := wsX3_isDue) B.pre
  have hown : s.vm.findClass RX3 = some m.cls := findClass_of_methodNamed B.named
  have hlocks := B.notSynchronized
  have i3 : ∀ w ∈ u_ws RX3 TX3 6, w ∈ wsX3_isDue := by decide +kernel
  have fl_13 := hts (.fieldLink RX3 13 "SignOnHouse$Sessions" "signedWith" "[I") (by decide +kernel)
  have fl_19 := hts (.fieldLink RX3 19 "SignOnHouse$Sessions" "usedAt" "[I") (by decide +kernel)
  have hl := lv_entry ([.ref (X 2), .int (nI si), .int x0, .int x1, .ref (X 3)]) (n := 5) (Nat.le_of_ble_eq_true rfl)
  rw [lg_entry_eq]
  generalize (lg_sl ([.ref (X 2), .int (nI si), .int x0, .int x1, .ref (X 3)]) ++ List.replicate (5 - (lg_sl ([.ref (X 2), .int (nI si), .int x0, .int x1, .ref (X 3)])).length) Slot.unset).toArray = ls at hl ⊢
  have hl : lv_has ls 5 [(0, .ref (X 2)), (1, .int (nI si)), (2, .int x0), (3, .int x1), (4, .ref (X 3))] := hl
  refine lv_iload_n hx hb dX3_isDue_0 rfl (lv_at hl 2 rfl) ?_
  refine lv_aload_n hx hb dX3_isDue_1 rfl (lv_at hl 0 rfl) ?_
  refine va_get (D := D) (ci := 3) (v := .ref (X 14)) (C := RX3) (T := TX3) (N := 6) hx hb hts i3 hown hK hP 2 rfl rfl 3 (by decide) fl_19 (fun _ h9 => h9) rfl dX3_isDue_2 ?_
  refine lv_iload_n hx hb dX3_isDue_5 rfl (lv_at hl 1 rfl) ?_
  refine z_iald (D := D) (j := si) (f := S 14) hx hb hK hP 14 0 rfl rfl (by omega) (by decide) dX3_isDue_6 ?_
  refine lv_isub hx hb dX3_isDue_7 ?_
  refine lv_bipush (v := 30) hx hb dX3_isDue_8 (by decide) ?_
  refine lv_icmp_ge (tgt := 45) hx hb dX3_isDue_10 (by decide) (fun c_10 => ?_) (fun c_10 => ?_)
  · refine lv_iconst (v := 1) hx hb dX3_isDue_45 rfl ?_
    refine lv_goto (tgt := 50) hx hb dX3_isDue_46 (by decide) ?_
    exact z_zret hx hb hr hlocks (by simp [c_isDue, bi, c_10]) dX3_isDue_50
  · refine lv_aload_n hx hb dX3_isDue_13 rfl (lv_at hl 0 rfl) ?_
    refine lv_iload_n hx hb dX3_isDue_14 rfl (lv_at hl 1 rfl) ?_
    refine lv_iload_n hx hb dX3_isDue_15 rfl (lv_at hl 2 rfl) ?_
    refine z_callR (W.runV (As := [.int (nI si), .int x0]) (rest := []) ⟨hx, hb, hml, hown, hts⟩ (kX3_age l D cI cZ X S O V si x0 (by omega)) (cwV 2 hts gX3_isDue_X3_age rfl rfl rfl (by decide +kernel) ⟨Nat.le_of_ble_eq_true rfl, Nat.le_of_ble_eq_true rfl⟩) (zR_preV 2 3 hK hP rfl rfl) rfl rfl hl.1 rfl (lv_room (Nat.le_of_ble_eq_true rfl)) dX3_isDue_16 ⟨Nat.zero_le _, Nat.zero_le _⟩) ?_
    refine lv_sipush (v := 240) hx hb dX3_isDue_19 (by decide) ?_
    refine lv_bipush (v := 60) hx hb dX3_isDue_22 (by decide) ?_
    refine lv_iload_n hx hb dX3_isDue_24 rfl (lv_at hl 3 rfl) ?_
    refine lv_imul hx hb dX3_isDue_25 ?_
    refine lv_isub hx hb dX3_isDue_26 ?_
    refine lv_icmp_ge (tgt := 45) hx hb dX3_isDue_27 (by decide) (fun c_27 => ?_) (fun c_27 => ?_)
    · refine lv_iconst (v := 1) hx hb dX3_isDue_45 rfl ?_
      refine lv_goto (tgt := 50) hx hb dX3_isDue_46 (by decide) ?_
      exact z_zret hx hb hr hlocks (by simp [c_isDue, bi, c_10, c_27]) dX3_isDue_50
    · refine lv_aload hx hb dX3_isDue_30 (lv_at hl 4 rfl) ?_
      refine lv_aload_n hx hb dX3_isDue_32 rfl (lv_at hl 0 rfl) ?_
      refine va_get (D := D) (ci := 3) (v := .ref (X 12)) (C := RX3) (T := TX3) (N := 6) hx hb hts i3 hown hK hP 2 rfl rfl 1 (by decide) fl_13 (fun _ h9 => h9) rfl dX3_isDue_33 ?_
      refine lv_iload_n hx hb dX3_isDue_36 rfl (lv_at hl 1 rfl) ?_
      refine z_iald (D := D) (j := si) (f := S 12) hx hb hK hP 12 0 rfl rfl (by omega) (by decide) dX3_isDue_37 ?_
      refine lv_iload_n hx hb dX3_isDue_38 rfl (lv_at hl 2 rfl) ?_
      refine z_callR (W.runV (As := [.int (S 12 si), .int x0]) (rest := []) ⟨hx, hb, hml, hown, hts⟩ (kX2_takes l D cI cZ X S O V (S 12 si) x0) (cwV 2 hts gX3_isDue_X2_takes rfl rfl rfl (by decide +kernel) ⟨Nat.le_of_ble_eq_true rfl, Nat.le_of_ble_eq_true rfl⟩) (zR_preV 3 2 hK hP rfl rfl) rfl rfl hl.1 rfl (lv_room (Nat.le_of_ble_eq_true rfl)) dX3_isDue_39 ⟨Nat.zero_le _, Nat.zero_le _⟩) ?_
      refine z_if_ne (tgt := 49) hx hb dX3_isDue_42 (by decide) (fun c_42 => ?_) (fun c_42 => ?_)
      · refine lv_iconst (v := 0) hx hb dX3_isDue_49 rfl ?_
        exact z_zret hx hb hr hlocks (by simp [c_isDue, bi, c_10, c_27, c_42]) dX3_isDue_50
      · refine lv_iconst (v := 1) hx hb dX3_isDue_45 rfl ?_
        refine lv_goto (tgt := 50) hx hb dX3_isDue_46 (by decide) ?_
        exact z_zret hx hb hr hlocks (by simp [c_isDue, bi, c_10, c_27, c_42]) dX3_isDue_50

set_option maxHeartbeats 4000000 in
set_option maxRecDepth 100000 in
theorem kX3_endAllOf (l : Launch) (D : va_G) (cI cZ : ClassId) (X : Nat → Nat) (S : Nat → Nat → Int32) (O : Nat → Bool) (V : Nat → Int32) (sz : Nat) (x0 : Int32) (n0 : Nat) (hn0 : n0 ≤ 30) (hct : V 1 = nI n0) : Met l yX3_endAllOf wsX3_endAllOf ({ frames := 1, cells := 0, slots := 0, locals := 21 } : Room) (zW D (tyl cI cZ) (hW cI cZ X S O V) sz [.ref (X 2), .int x0]) (zQi D (tyl cI cZ) (hW cI cZ X S (c_eaO S O x0 n0) V) (c_eaN S O x0 n0) (va_A (hW cI cZ X S O V) sz)) 0 0 (va_A (hW cI cZ X S O V) sz) := by
  refine Met.ofW (cc := cX3_endAllOf) (maxL := 4) (ret := (some .int)) (by decide) rfl ?_
  intro p e s m args below meth c s₁ B hml hv
  obtain ⟨rfl, hsz, hP, hK, hD0⟩ := hv
  have hx := B.exec
  have hb := B.bytes
  have hr := B.returns
  have hts := atoms_spec (ws := wsX3_endAllOf) B.pre
  have hown : s.vm.findClass RX3 = some m.cls := findClass_of_methodNamed B.named
  have hlocks := B.notSynchronized
  subst hsz
  have hD := hD0.self (sz := s.heap.size)
  generalize hAe : va_A (hW cI cZ X S O V) s.heap.size = A at hD ⊢
  have hA : ∀ q : Nat, s.heap.size ≤ q → A q := fun q h => by rw [← hAe]; exact Or.inr h
  have hS : va_S A s.heap s.heap [] := va_S.rf
  have i3 : ∀ w ∈ u_ws RX3 TX3 6, w ∈ wsX3_endAllOf := by decide +kernel
  have fl_9 := hts (.fieldLink RX3 9 "SignOnHouse$Sessions" "people" "[I") (by decide +kernel)
  have fl_22 := hts (.fieldLink RX3 22 "SignOnHouse$Sessions" "over" "[Z") (by decide +kernel)
  have fl_26 := hts (.fieldLink RX3 26 "SignOnHouse$Sessions" "count" "I") (by decide +kernel)
  have hl := lv_entry ([.ref (X 2), .int x0]) (n := 4) (Nat.le_of_ble_eq_true rfl)
  rw [lg_entry_eq]
  generalize (lg_sl ([.ref (X 2), .int x0]) ++ List.replicate (4 - (lg_sl ([.ref (X 2), .int x0])).length) Slot.unset).toArray = ls at hl ⊢
  have hl : lv_has ls 4 [(0, .ref (X 2)), (1, .int x0)] := hl
  refine lv_iconst (v := 0) hx hb dX3_endAllOf_0 rfl ?_
  refine lv_istore_n (lv' := [(2, .int 0), (0, .ref (X 2)), (1, .int x0)]) hx hb dX3_endAllOf_1 rfl hl (by decide) rfl (fun ls hl => ?_)
  refine lv_iconst (v := nI 0) hx hb dX3_endAllOf_2 rfl ?_
  refine lv_istore_n (lv' := [(3, .int (nI 0)), (2, .int 0), (0, .ref (X 2)), (1, .int x0)]) hx hb dX3_endAllOf_3 rfl hl (by decide) rfl (fun ls hl => ?_)
  refine z_loopW (N := n0) (nL := 4) (Lc := (fun k => [(3, .int (nI k)), (2, .int (c_eaN S O x0 k)), (0, .ref (X 2)), (1, .int x0)])) (Wd := fun k => hW cI cZ X S (c_eaO S O x0 k) V) (lv_sub hl [0, 1, 2, 3] rfl) hP hD hS (fun H locs ls hP hD hS hl => ?_) (fun k H locs ls hk hP hD hS hl ih => ?_)
  · have hP : va_P D vwCl (hW cI cZ X S (c_eaO S O x0 n0) V) H := hP
    have hD : va_D A (hW cI cZ X S (c_eaO S O x0 n0) V) := hD
    have hl : lv_has ls 4 [(3, .int (nI n0)), (2, .int (c_eaN S O x0 n0)), (0, .ref (X 2)), (1, .int x0)] := hl
    refine lv_iload_n hx hb dX3_endAllOf_4 rfl (lv_at hl 0 rfl) ?_
    refine lv_aload_n hx hb dX3_endAllOf_5 rfl (lv_at hl 2 rfl) ?_
    refine va_get (D := D) (ci := 3) (v := .int (V 1)) (C := RX3) (T := TX3) (N := 6) hx hb hts i3 hown hK hP 2 rfl rfl 5 (by decide) fl_26 (fun _ h9 => h9) rfl dX3_endAllOf_6 ?_
    refine z_top (nI n0) hct ?_
    refine z_ge_t (tgt := 45) (nI_le (by omega) (by omega)) hx hb dX3_endAllOf_9 (by decide) ?_
    refine lv_iload_n hx hb dX3_endAllOf_45 rfl (lv_at hl 1 rfl) ?_
    exact z_wret hx hb hr hlocks hP hK hD hS rfl dX3_endAllOf_46
  · have hP : va_P D vwCl (hW cI cZ X S (c_eaO S O x0 k) V) H := hP
    have hD : va_D A (hW cI cZ X S (c_eaO S O x0 k) V) := hD
    have hl : lv_has ls 4 [(3, .int (nI k)), (2, .int (c_eaN S O x0 k)), (0, .ref (X 2)), (1, .int x0)] := hl
    have ih_4 := ih
    refine lv_iload_n hx hb dX3_endAllOf_4 rfl (lv_at hl 0 rfl) ?_
    refine lv_aload_n hx hb dX3_endAllOf_5 rfl (lv_at hl 2 rfl) ?_
    refine va_get (D := D) (ci := 3) (v := .int (V 1)) (C := RX3) (T := TX3) (N := 6) hx hb hts i3 hown hK hP 2 rfl rfl 5 (by decide) fl_26 (fun _ h9 => h9) rfl dX3_endAllOf_6 ?_
    refine z_top (nI n0) hct ?_
    refine z_ge_f (tgt := 45) (nI_ge (by omega) (by omega)) hx hb dX3_endAllOf_9 (by decide) ?_
    refine lv_aload_n hx hb dX3_endAllOf_12 rfl (lv_at hl 2 rfl) ?_
    refine va_get (D := D) (ci := 3) (v := .ref (X 15)) (C := RX3) (T := TX3) (N := 6) hx hb hts i3 hown hK hP 2 rfl rfl 4 (by decide) fl_22 (fun _ h9 => h9) rfl dX3_endAllOf_13 ?_
    refine lv_iload_n hx hb dX3_endAllOf_16 rfl (lv_at hl 0 rfl) ?_
    refine z_zald (D := D) (j := k) (g := c_eaO S O x0 k) hx hb hK hP 15 1 rfl rfl (by omega) (by decide) dX3_endAllOf_17 ?_
    refine z_if_ne (tgt := 39) hx hb dX3_endAllOf_18 (by decide) (fun c_18 => ?_) (fun c_18 => ?_)
    · refine lv_iinc (v := nI (k + 1)) (lv' := [(3, .int (nI (k + 1))), (2, .int (c_eaN S O x0 k)), (0, .ref (X 2)), (1, .int x0)]) hx hb dX3_endAllOf_39 hl (k := 0) rfl (nI_1 _) (by decide) rfl (fun ls hl => ?_)
      refine lv_goto (tgt := 4) hx hb dX3_endAllOf_42 (by decide) ?_
      have e2 : (c_eaN S O x0 (k + 1)) = (c_eaN S O x0 k) := by simp [c_eaN, c_eaO, bi, c_18]
      have eO : (c_eaO S O x0 (k + 1)) = (c_eaO S O x0 k) := by simp [c_eaN, c_eaO, bi, c_18]
      exact ih_4 H locs ls (by show va_P D vwCl (hW cI cZ X S (c_eaO S O x0 (k + 1)) V) H; rw [eO]; exact hP) (by show va_D A (hW cI cZ X S (c_eaO S O x0 (k + 1)) V); rw [eO]; exact hD) hS (by show lv_has ls 4 [(3, .int (nI (k + 1))), (2, .int (c_eaN S O x0 (k + 1))), (0, .ref (X 2)), (1, .int x0)]; rw [e2]; exact lv_sub hl [0, 1, 2, 3] rfl)
    · refine lv_aload_n hx hb dX3_endAllOf_21 rfl (lv_at hl 2 rfl) ?_
      refine va_get (D := D) (ci := 3) (v := .ref (X 11)) (C := RX3) (T := TX3) (N := 6) hx hb hts i3 hown hK hP 2 rfl rfl 0 (by decide) fl_9 (fun _ h9 => h9) rfl dX3_endAllOf_22 ?_
      refine lv_iload_n hx hb dX3_endAllOf_25 rfl (lv_at hl 0 rfl) ?_
      refine z_iald (D := D) (j := k) (f := S 11) hx hb hK hP 11 0 rfl rfl (by omega) (by decide) dX3_endAllOf_26 ?_
      refine lv_iload_n hx hb dX3_endAllOf_27 rfl (lv_at hl 3 rfl) ?_
      refine lv_icmp_ne (tgt := 39) hx hb dX3_endAllOf_28 (by decide) (fun c_28 => ?_) (fun c_28 => ?_)
      · refine lv_iinc (v := nI (k + 1)) (lv' := [(3, .int (nI (k + 1))), (2, .int (c_eaN S O x0 k)), (0, .ref (X 2)), (1, .int x0)]) hx hb dX3_endAllOf_39 hl (k := 0) rfl (nI_1 _) (by decide) rfl (fun ls hl => ?_)
        refine lv_goto (tgt := 4) hx hb dX3_endAllOf_42 (by decide) ?_
        have e2 : (c_eaN S O x0 (k + 1)) = (c_eaN S O x0 k) := by simp [c_eaN, c_eaO, bi, c_18, c_28]
        have eO : (c_eaO S O x0 (k + 1)) = (c_eaO S O x0 k) := by simp [c_eaN, c_eaO, bi, c_18, c_28]
        exact ih_4 H locs ls (by show va_P D vwCl (hW cI cZ X S (c_eaO S O x0 (k + 1)) V) H; rw [eO]; exact hP) (by show va_D A (hW cI cZ X S (c_eaO S O x0 (k + 1)) V); rw [eO]; exact hD) hS (by show lv_has ls 4 [(3, .int (nI (k + 1))), (2, .int (c_eaN S O x0 (k + 1))), (0, .ref (X 2)), (1, .int x0)]; rw [e2]; exact lv_sub hl [0, 1, 2, 3] rfl)
      · refine lv_aload_n hx hb dX3_endAllOf_31 rfl (lv_at hl 2 rfl) ?_
        refine lv_iload_n hx hb dX3_endAllOf_32 rfl (lv_at hl 0 rfl) ?_
        have hF := z_free hD hS hA
        refine z_callWv (va_runV (As := [.int (nI k)]) (rest := []) ⟨hx, hb, hml, hown, hts⟩ (kX3_end l D cI cZ X S (c_eaO S O x0 k) V _ k (by omega)) (cwV 1 hts gX3_endAllOf_X3_end rfl rfl rfl (by decide +kernel) ⟨Nat.le_of_ble_eq_true rfl, Nat.le_of_ble_eq_true rfl⟩) (zW_preV 2 3 hK hP hD rfl rfl) rfl rfl hl.1 rfl (lv_room (Nat.le_of_ble_eq_true rfl)) dX3_endAllOf_33 ⟨Nat.zero_le _, Nat.zero_le _⟩) hS hF (fun H locs hP hD hS => ?_)
        refine lv_iinc (v := c_eaN S O x0 k + 1) (lv' := [(2, .int (c_eaN S O x0 k + 1)), (3, .int (nI k)), (0, .ref (X 2)), (1, .int x0)]) hx hb dX3_endAllOf_36 hl (k := 1) rfl rfl (by decide) rfl (fun ls hl => ?_)
        refine lv_iinc (v := nI (k + 1)) (lv' := [(3, .int (nI (k + 1))), (2, .int (c_eaN S O x0 k + 1)), (0, .ref (X 2)), (1, .int x0)]) hx hb dX3_endAllOf_39 hl (k := 1) rfl (nI_1 _) (by decide) rfl (fun ls hl => ?_)
        refine lv_goto (tgt := 4) hx hb dX3_endAllOf_42 (by decide) ?_
        have e2 : (c_eaN S O x0 (k + 1)) = (c_eaN S O x0 k + 1) := by simp [c_eaN, c_eaO, bi, c_18, (eq_true c_28)]
        have eO : (c_eaO S O x0 (k + 1)) = (va_up (c_eaO S O x0 k) k true) := by simp [c_eaN, c_eaO, bi, c_18, (eq_true c_28)]
        exact ih_4 H locs ls (by show va_P D vwCl (hW cI cZ X S (c_eaO S O x0 (k + 1)) V) H; rw [eO]; exact hP) (by show va_D A (hW cI cZ X S (c_eaO S O x0 (k + 1)) V); rw [eO]; exact hD) hS (by show lv_has ls 4 [(3, .int (nI (k + 1))), (2, .int (c_eaN S O x0 (k + 1))), (0, .ref (X 2)), (1, .int x0)]; rw [e2]; exact lv_sub hl [0, 1, 2, 3] rfl)

set_option maxHeartbeats 4000000 in
set_option maxRecDepth 100000 in
theorem kX3_endDue (l : Launch) (D : va_G) (cI cZ : ClassId) (X : Nat → Nat) (S : Nat → Nat → Int32) (O : Nat → Bool) (V : Nat → Int32) (sz : Nat) (x0 : Int32) (n0 : Nat) (hn0 : n0 ≤ 30) (hct : V 1 = nI n0) (hpe : ∀ j : Nat, j < n0 → vp_in (S 11 j) 10) : Met l yX3_endDue wsX3_endDue ({ frames := 2, cells := 0, slots := 0, locals := 46 } : Room) (zW D (tyl cI cZ) (hW cI cZ X S O V) sz [.ref (X 2), .int x0, .ref (X 5), .ref (X 3)]) (zQi D (tyl cI cZ) (hW cI cZ X S (c_edO S O V x0 n0) V) (c_edN S O V x0 n0) (va_A (hW cI cZ X S O V) sz)) 0 0 (va_A (hW cI cZ X S O V) sz) := by
  refine Met.ofW (cc := cX3_endDue) (maxL := 6) (ret := (some .int)) (by decide) rfl ?_
  intro p e s m args below meth c s₁ B hml hv
  obtain ⟨rfl, hsz, hP, hK, hD0⟩ := hv
  have hx := B.exec
  have hb := B.bytes
  have hr := B.returns
  have hts := atoms_spec (ws := wsX3_endDue) B.pre
  have hown : s.vm.findClass RX3 = some m.cls := findClass_of_methodNamed B.named
  have hlocks := B.notSynchronized
  subst hsz
  have hD := hD0.self (sz := s.heap.size)
  generalize hAe : va_A (hW cI cZ X S O V) s.heap.size = A at hD ⊢
  have hA : ∀ q : Nat, s.heap.size ≤ q → A q := fun q h => by rw [← hAe]; exact Or.inr h
  have hS : va_S A s.heap s.heap [] := va_S.rf
  have i3 : ∀ w ∈ u_ws RX3 TX3 6, w ∈ wsX3_endDue := by decide +kernel
  have fl_9 := hts (.fieldLink RX3 9 "SignOnHouse$Sessions" "people" "[I") (by decide +kernel)
  have fl_22 := hts (.fieldLink RX3 22 "SignOnHouse$Sessions" "over" "[Z") (by decide +kernel)
  have fl_26 := hts (.fieldLink RX3 26 "SignOnHouse$Sessions" "count" "I") (by decide +kernel)
  have hl := lv_entry ([.ref (X 2), .int x0, .ref (X 5), .ref (X 3)]) (n := 6) (Nat.le_of_ble_eq_true rfl)
  rw [lg_entry_eq]
  generalize (lg_sl ([.ref (X 2), .int x0, .ref (X 5), .ref (X 3)]) ++ List.replicate (6 - (lg_sl ([.ref (X 2), .int x0, .ref (X 5), .ref (X 3)])).length) Slot.unset).toArray = ls at hl ⊢
  have hl : lv_has ls 6 [(0, .ref (X 2)), (1, .int x0), (2, .ref (X 5)), (3, .ref (X 3))] := hl
  refine lv_iconst (v := 0) hx hb dX3_endDue_0 rfl ?_
  refine lv_istore (lv' := [(4, .int 0), (0, .ref (X 2)), (1, .int x0), (2, .ref (X 5)), (3, .ref (X 3))]) hx hb dX3_endDue_1 hl (by decide) rfl (fun ls hl => ?_)
  refine lv_iconst (v := nI 0) hx hb dX3_endDue_3 rfl ?_
  refine lv_istore (lv' := [(5, .int (nI 0)), (4, .int 0), (0, .ref (X 2)), (1, .int x0), (2, .ref (X 5)), (3, .ref (X 3))]) hx hb dX3_endDue_4 hl (by decide) rfl (fun ls hl => ?_)
  refine z_loopW (N := n0) (nL := 6) (Lc := (fun k => [(5, .int (nI k)), (4, .int (c_edN S O V x0 k)), (0, .ref (X 2)), (1, .int x0), (2, .ref (X 5)), (3, .ref (X 3))])) (Wd := fun k => hW cI cZ X S (c_edO S O V x0 k) V) (lv_sub hl [0, 1, 2, 3, 4, 5] rfl) hP hD hS (fun H locs ls hP hD hS hl => ?_) (fun k H locs ls hk hP hD hS hl ih => ?_)
  · have hP : va_P D vwCl (hW cI cZ X S (c_edO S O V x0 n0) V) H := hP
    have hD : va_D A (hW cI cZ X S (c_edO S O V x0 n0) V) := hD
    have hl : lv_has ls 6 [(5, .int (nI n0)), (4, .int (c_edN S O V x0 n0)), (0, .ref (X 2)), (1, .int x0), (2, .ref (X 5)), (3, .ref (X 3))] := hl
    refine lv_iload hx hb dX3_endDue_6 (lv_at hl 0 rfl) ?_
    refine lv_aload_n hx hb dX3_endDue_8 rfl (lv_at hl 2 rfl) ?_
    refine va_get (D := D) (ci := 3) (v := .int (V 1)) (C := RX3) (T := TX3) (N := 6) hx hb hts i3 hown hK hP 2 rfl rfl 5 (by decide) fl_26 (fun _ h9 => h9) rfl dX3_endDue_9 ?_
    refine z_top (nI n0) hct ?_
    refine z_ge_t (tgt := 60) (nI_le (by omega) (by omega)) hx hb dX3_endDue_12 (by decide) ?_
    refine lv_iload hx hb dX3_endDue_60 (lv_at hl 1 rfl) ?_
    exact z_wret hx hb hr hlocks hP hK hD hS rfl dX3_endDue_62
  · have hP : va_P D vwCl (hW cI cZ X S (c_edO S O V x0 k) V) H := hP
    have hD : va_D A (hW cI cZ X S (c_edO S O V x0 k) V) := hD
    have hl : lv_has ls 6 [(5, .int (nI k)), (4, .int (c_edN S O V x0 k)), (0, .ref (X 2)), (1, .int x0), (2, .ref (X 5)), (3, .ref (X 3))] := hl
    have ih_6 := ih
    refine lv_iload hx hb dX3_endDue_6 (lv_at hl 0 rfl) ?_
    refine lv_aload_n hx hb dX3_endDue_8 rfl (lv_at hl 2 rfl) ?_
    refine va_get (D := D) (ci := 3) (v := .int (V 1)) (C := RX3) (T := TX3) (N := 6) hx hb hts i3 hown hK hP 2 rfl rfl 5 (by decide) fl_26 (fun _ h9 => h9) rfl dX3_endDue_9 ?_
    refine z_top (nI n0) hct ?_
    refine z_ge_f (tgt := 60) (nI_ge (by omega) (by omega)) hx hb dX3_endDue_12 (by decide) ?_
    refine lv_aload_n hx hb dX3_endDue_15 rfl (lv_at hl 2 rfl) ?_
    refine va_get (D := D) (ci := 3) (v := .ref (X 15)) (C := RX3) (T := TX3) (N := 6) hx hb hts i3 hown hK hP 2 rfl rfl 4 (by decide) fl_22 (fun _ h9 => h9) rfl dX3_endDue_16 ?_
    refine lv_iload hx hb dX3_endDue_19 (lv_at hl 0 rfl) ?_
    refine z_zald (D := D) (j := k) (g := c_edO S O V x0 k) hx hb hK hP 15 1 rfl rfl (by omega) (by decide) dX3_endDue_21 ?_
    refine z_if_ne (tgt := 54) hx hb dX3_endDue_22 (by decide) (fun c_22 => ?_) (fun c_22 => ?_)
    · refine lv_iinc (v := nI (k + 1)) (lv' := [(5, .int (nI (k + 1))), (4, .int (c_edN S O V x0 k)), (0, .ref (X 2)), (1, .int x0), (2, .ref (X 5)), (3, .ref (X 3))]) hx hb dX3_endDue_54 hl (k := 0) rfl (nI_1 _) (by decide) rfl (fun ls hl => ?_)
      refine lv_goto (tgt := 6) hx hb dX3_endDue_57 (by decide) ?_
      have e4 : (c_edN S O V x0 (k + 1)) = (c_edN S O V x0 k) := by simp [c_edN, c_edO, bi, c_22]
      have eO : (c_edO S O V x0 (k + 1)) = (c_edO S O V x0 k) := by simp [c_edN, c_edO, bi, c_22]
      exact ih_6 H locs ls (by show va_P D vwCl (hW cI cZ X S (c_edO S O V x0 (k + 1)) V) H; rw [eO]; exact hP) (by show va_D A (hW cI cZ X S (c_edO S O V x0 (k + 1)) V); rw [eO]; exact hD) hS (by show lv_has ls 6 [(5, .int (nI (k + 1))), (4, .int (c_edN S O V x0 (k + 1))), (0, .ref (X 2)), (1, .int x0), (2, .ref (X 5)), (3, .ref (X 3))]; rw [e4]; exact lv_sub hl [0, 1, 2, 3, 4, 5] rfl)
    · refine lv_aload_n hx hb dX3_endDue_25 rfl (lv_at hl 2 rfl) ?_
      refine lv_iload hx hb dX3_endDue_26 (lv_at hl 0 rfl) ?_
      refine lv_iload_n hx hb dX3_endDue_28 rfl (lv_at hl 3 rfl) ?_
      refine lv_aload_n hx hb dX3_endDue_29 rfl (lv_at hl 4 rfl) ?_
      refine lv_aload_n hx hb dX3_endDue_30 rfl (lv_at hl 2 rfl) ?_
      refine va_get (D := D) (ci := 3) (v := .ref (X 11)) (C := RX3) (T := TX3) (N := 6) hx hb hts i3 hown hK hP 2 rfl rfl 0 (by decide) fl_9 (fun _ h9 => h9) rfl dX3_endDue_31 ?_
      refine lv_iload hx hb dX3_endDue_34 (lv_at hl 0 rfl) ?_
      refine z_iald (D := D) (j := k) (f := S 11) hx hb hK hP 11 0 rfl rfl (by omega) (by decide) dX3_endDue_36 ?_
      refine va_iald (D := D) (f := S 5) hx hb hK hP 5 0 rfl rfl (hpe k hk) dX3_endDue_37 ?_
      refine lv_aload_n hx hb dX3_endDue_38 rfl (lv_at hl 5 rfl) ?_
      refine z_callR (W.runV (As := [.int (nI k), .int x0, .int (S 5 (S 11 k).toNatClampNeg), .ref (X 3)]) (rest := []) ⟨hx, hb, hml, hown, hts⟩ (kX3_isDue l D cI cZ X S (c_edO S O V x0 k) V k x0 (S 5 (S 11 k).toNatClampNeg) (by omega)) (cwV 4 hts gX3_endDue_X3_isDue rfl rfl rfl (by decide +kernel) ⟨Nat.le_of_ble_eq_true rfl, Nat.le_of_ble_eq_true rfl⟩) (zR_preV 2 3 hK hP rfl rfl) rfl rfl hl.1 rfl (lv_room (Nat.le_of_ble_eq_true rfl)) dX3_endDue_39 ⟨Nat.zero_le _, Nat.zero_le _⟩) ?_
      refine z_if_eq (tgt := 54) hx hb dX3_endDue_42 (by decide) (fun c_42 => ?_) (fun c_42 => ?_)
      · refine lv_iinc (v := nI (k + 1)) (lv' := [(5, .int (nI (k + 1))), (4, .int (c_edN S O V x0 k)), (0, .ref (X 2)), (1, .int x0), (2, .ref (X 5)), (3, .ref (X 3))]) hx hb dX3_endDue_54 hl (k := 0) rfl (nI_1 _) (by decide) rfl (fun ls hl => ?_)
        refine lv_goto (tgt := 6) hx hb dX3_endDue_57 (by decide) ?_
        have e4 : (c_edN S O V x0 (k + 1)) = (c_edN S O V x0 k) := by simp [c_edN, c_edO, bi, c_22, c_42]
        have eO : (c_edO S O V x0 (k + 1)) = (c_edO S O V x0 k) := by simp [c_edN, c_edO, bi, c_22, c_42]
        exact ih_6 H locs ls (by show va_P D vwCl (hW cI cZ X S (c_edO S O V x0 (k + 1)) V) H; rw [eO]; exact hP) (by show va_D A (hW cI cZ X S (c_edO S O V x0 (k + 1)) V); rw [eO]; exact hD) hS (by show lv_has ls 6 [(5, .int (nI (k + 1))), (4, .int (c_edN S O V x0 (k + 1))), (0, .ref (X 2)), (1, .int x0), (2, .ref (X 5)), (3, .ref (X 3))]; rw [e4]; exact lv_sub hl [0, 1, 2, 3, 4, 5] rfl)
      · refine lv_aload_n hx hb dX3_endDue_45 rfl (lv_at hl 2 rfl) ?_
        refine lv_iload hx hb dX3_endDue_46 (lv_at hl 0 rfl) ?_
        have hF := z_free hD hS hA
        refine z_callWv (va_runV (As := [.int (nI k)]) (rest := []) ⟨hx, hb, hml, hown, hts⟩ (kX3_end l D cI cZ X S (c_edO S O V x0 k) V _ k (by omega)) (cwV 1 hts gX3_endDue_X3_end rfl rfl rfl (by decide +kernel) ⟨Nat.le_of_ble_eq_true rfl, Nat.le_of_ble_eq_true rfl⟩) (zW_preV 2 3 hK hP hD rfl rfl) rfl rfl hl.1 rfl (lv_room (Nat.le_of_ble_eq_true rfl)) dX3_endDue_48 ⟨Nat.zero_le _, Nat.zero_le _⟩) hS hF (fun H locs hP hD hS => ?_)
        refine lv_iinc (v := c_edN S O V x0 k + 1) (lv' := [(4, .int (c_edN S O V x0 k + 1)), (5, .int (nI k)), (0, .ref (X 2)), (1, .int x0), (2, .ref (X 5)), (3, .ref (X 3))]) hx hb dX3_endDue_51 hl (k := 1) rfl rfl (by decide) rfl (fun ls hl => ?_)
        refine lv_iinc (v := nI (k + 1)) (lv' := [(5, .int (nI (k + 1))), (4, .int (c_edN S O V x0 k + 1)), (0, .ref (X 2)), (1, .int x0), (2, .ref (X 5)), (3, .ref (X 3))]) hx hb dX3_endDue_54 hl (k := 1) rfl (nI_1 _) (by decide) rfl (fun ls hl => ?_)
        refine lv_goto (tgt := 6) hx hb dX3_endDue_57 (by decide) ?_
        have e4 : (c_edN S O V x0 (k + 1)) = (c_edN S O V x0 k + 1) := by simp [c_edN, c_edO, bi, c_22, c_42]
        have eO : (c_edO S O V x0 (k + 1)) = (va_up (c_edO S O V x0 k) k true) := by simp [c_edN, c_edO, bi, c_22, c_42]
        exact ih_6 H locs ls (by show va_P D vwCl (hW cI cZ X S (c_edO S O V x0 (k + 1)) V) H; rw [eO]; exact hP) (by show va_D A (hW cI cZ X S (c_edO S O V x0 (k + 1)) V); rw [eO]; exact hD) hS (by show lv_has ls 6 [(5, .int (nI (k + 1))), (4, .int (c_edN S O V x0 (k + 1))), (0, .ref (X 2)), (1, .int x0), (2, .ref (X 5)), (3, .ref (X 3))]; rw [e4]; exact lv_sub hl [0, 1, 2, 3, 4, 5] rfl)
