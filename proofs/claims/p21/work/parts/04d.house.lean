set_option maxHeartbeats 4000000 in
set_option maxRecDepth 100000 in
theorem kX4_isOutside (l : Launch) (x0 : Int32) (x1 : Int32) : Met l yX4_isOutside wsX4_isOutside ({ frames := 0, cells := 0, slots := 0, locals := 0 } : Room) (zP [.int x0, .int x1]) (QcRead (bi (c_out x0 x1))) 0 0 (fun _ => False) := by
  refine Met.ofW (cc := cX4_isOutside) (maxL := 2) (ret := (some .boolean)) (by decide) rfl ?_
  intro p e s m args below meth c s₁ B hml hv
  obtain rfl := hv
  have hx := B.exec
  have hb := B.bytes
  have hr := B.returns
  have hts := atoms_spec (ws := wsX4_isOutside) B.pre
  have hown : s.vm.findClass RX4 = some m.cls := findClass_of_methodNamed B.named
  have hlocks := B.notSynchronized
  have hl := lv_entry ([.int x0, .int x1]) (n := 2) (Nat.le_of_ble_eq_true rfl)
  rw [lg_entry_eq]
  generalize (lg_sl ([.int x0, .int x1]) ++ List.replicate (2 - (lg_sl ([.int x0, .int x1])).length) Slot.unset).toArray = ls at hl ⊢
  have hl : lv_has ls 2 [(0, .int x0), (1, .int x1)] := hl
  refine lv_iload_n hx hb dX4_isOutside_0 rfl (lv_at hl 0 rfl) ?_
  refine lv_if_lt (tgt := 9) hx hb dX4_isOutside_1 (by decide) (fun c_1 => ?_) (fun c_1 => ?_)
  · refine lv_iconst (v := 1) hx hb dX4_isOutside_9 rfl ?_
    refine lv_goto (tgt := 14) hx hb dX4_isOutside_10 (by decide) ?_
    exact z_zret hx hb hr hlocks (by simp [c_out, bi, c_1]) dX4_isOutside_14
  · refine lv_iload_n hx hb dX4_isOutside_4 rfl (lv_at hl 0 rfl) ?_
    refine lv_iload_n hx hb dX4_isOutside_5 rfl (lv_at hl 1 rfl) ?_
    refine z_sel_icmp_lt hx hb dX4_isOutside_6 dX4_isOutside_9 dX4_isOutside_10 dX4_isOutside_13 ?_
    exact z_zret hx hb hr hlocks (by simp [c_out, bi, c_1]) dX4_isOutside_14

set_option maxHeartbeats 4000000 in
set_option maxRecDepth 100000 in
theorem kX4_isBarred (l : Launch) (D : va_G) (cI cZ : ClassId) (X : Nat → Nat) (S : Nat → Nat → Int32) (O : Nat → Bool) (V : Nat → Int32) (pi : Nat) (hpi : pi < 10) : Met l yX4_isBarred wsX4_isBarred ({ frames := 0, cells := 0, slots := 0, locals := 0 } : Room) (zR D (tyl cI cZ) (hW cI cZ X S O V) [.ref (X 0), .int (nI pi)]) (QcRead (bi (decide (S 5 pi = 3)))) 0 0 (fun _ => False) := by
  refine Met.ofW (cc := cX4_isBarred) (maxL := 2) (ret := (some .boolean)) (by decide) rfl ?_
  intro p e s m args below meth c s₁ B hml hv
  obtain ⟨rfl, hP, hK⟩ := hv
  have hx := B.exec
  have hb := B.bytes
  have hr := B.returns
  have hts := atoms_spec (ws := wsX4_isBarred) B.pre
  have hown : s.vm.findClass RX4 = some m.cls := findClass_of_methodNamed B.named
  have hlocks := B.notSynchronized
  have i4 : ∀ w ∈ u_ws RX4 TX4 7, w ∈ wsX4_isBarred := by decide +kernel
  have fl_37 := hts (.fieldLink RX4 37 "SignOnHouse" "risks" "[I") (by decide +kernel)
  have hl := lv_entry ([.ref (X 0), .int (nI pi)]) (n := 2) (Nat.le_of_ble_eq_true rfl)
  rw [lg_entry_eq]
  generalize (lg_sl ([.ref (X 0), .int (nI pi)]) ++ List.replicate (2 - (lg_sl ([.ref (X 0), .int (nI pi)])).length) Slot.unset).toArray = ls at hl ⊢
  have hl : lv_has ls 2 [(0, .ref (X 0)), (1, .int (nI pi))] := hl
  refine lv_aload_n hx hb dX4_isBarred_0 rfl (lv_at hl 0 rfl) ?_
  refine va_get (D := D) (ci := 4) (v := .ref (X 5)) (C := RX4) (T := TX4) (N := 7) hx hb hts i4 hown hK hP 0 rfl rfl 4 (by decide) fl_37 (fun _ h9 => h9) rfl dX4_isBarred_1 ?_
  refine lv_iload_n hx hb dX4_isBarred_4 rfl (lv_at hl 1 rfl) ?_
  refine z_iald (D := D) (j := pi) (f := S 5) hx hb hK hP 5 0 rfl rfl (by omega) (by decide) dX4_isBarred_5 ?_
  refine lv_iconst (v := 3) hx hb dX4_isBarred_6 rfl ?_
  refine z_sel_icmp_ne hx hb dX4_isBarred_7 dX4_isBarred_10 dX4_isBarred_11 dX4_isBarred_14 ?_
  exact z_zret hx hb hr hlocks rfl dX4_isBarred_15

set_option maxHeartbeats 4000000 in
set_option maxRecDepth 100000 in
theorem kX4_holdsGlass (l : Launch) (D : va_G) (cI cZ : ClassId) (X : Nat → Nat) (S : Nat → Nat → Int32) (O : Nat → Bool) (V : Nat → Int32) (pi : Nat) (ri : Nat) (hpi : pi < 10) (hri : ri < 6) : Met l yX4_holdsGlass wsX4_holdsGlass ({ frames := 0, cells := 0, slots := 0, locals := 0 } : Room) (zR D (tyl cI cZ) (hW cI cZ X S O V) [.ref (X 0), .int (nI pi), .int (nI ri)]) (QcRead (bi (!decide (S 6 (pi * 6 + ri) ≤ V 0)))) 0 0 (fun _ => False) := by
  refine Met.ofW (cc := cX4_holdsGlass) (maxL := 3) (ret := (some .boolean)) (by decide) rfl ?_
  intro p e s m args below meth c s₁ B hml hv
  obtain ⟨rfl, hP, hK⟩ := hv
  have hx := B.exec
  have hb := B.bytes
  have hr := B.returns
  have hts := atoms_spec (ws := wsX4_holdsGlass) B.pre
  have hown : s.vm.findClass RX4 = some m.cls := findClass_of_methodNamed B.named
  have hlocks := B.notSynchronized
  have i4 : ∀ w ∈ u_ws RX4 TX4 7, w ∈ wsX4_holdsGlass := by decide +kernel
  have fl_41 := hts (.fieldLink RX4 41 "SignOnHouse" "glassEnds" "[I") (by decide +kernel)
  have fl_44 := hts (.fieldLink RX4 44 "SignOnHouse" "minute" "I") (by decide +kernel)
  have hl := lv_entry ([.ref (X 0), .int (nI pi), .int (nI ri)]) (n := 3) (Nat.le_of_ble_eq_true rfl)
  rw [lg_entry_eq]
  generalize (lg_sl ([.ref (X 0), .int (nI pi), .int (nI ri)]) ++ List.replicate (3 - (lg_sl ([.ref (X 0), .int (nI pi), .int (nI ri)])).length) Slot.unset).toArray = ls at hl ⊢
  have hl : lv_has ls 3 [(0, .ref (X 0)), (1, .int (nI pi)), (2, .int (nI ri))] := hl
  refine lv_aload_n hx hb dX4_holdsGlass_0 rfl (lv_at hl 0 rfl) ?_
  refine va_get (D := D) (ci := 4) (v := .int (V 0)) (C := RX4) (T := TX4) (N := 7) hx hb hts i4 hown hK hP 0 rfl rfl 6 (by decide) fl_44 (fun _ h9 => h9) rfl dX4_holdsGlass_1 ?_
  refine lv_aload_n hx hb dX4_holdsGlass_4 rfl (lv_at hl 0 rfl) ?_
  refine va_get (D := D) (ci := 4) (v := .ref (X 6)) (C := RX4) (T := TX4) (N := 7) hx hb hts i4 hown hK hP 0 rfl rfl 5 (by decide) fl_41 (fun _ h9 => h9) rfl dX4_holdsGlass_5 ?_
  refine lv_iload_n hx hb dX4_holdsGlass_8 rfl (lv_at hl 1 rfl) ?_
  refine lv_bipush (v := 6) hx hb dX4_holdsGlass_9 (by decide) ?_
  refine lv_imul hx hb dX4_holdsGlass_11 ?_
  refine lv_iload_n hx hb dX4_holdsGlass_12 rfl (lv_at hl 2 rfl) ?_
  refine lv_iadd hx hb dX4_holdsGlass_13 ?_
  refine z_top (nI (pi * 6 + ri)) (by simp only [show (6 : Int32) = nI 6 from rfl, pk_mul, nI_add]) ?_
  refine z_iald (D := D) (j := pi * 6 + ri) (f := S 6) hx hb hK hP 6 0 rfl rfl (by omega) (by decide) dX4_holdsGlass_14 ?_
  refine z_sel_icmp_ge hx hb dX4_holdsGlass_15 dX4_holdsGlass_18 dX4_holdsGlass_19 dX4_holdsGlass_22 ?_
  exact z_zret hx hb hr hlocks rfl dX4_holdsGlass_23

set_option maxHeartbeats 4000000 in
set_option maxRecDepth 100000 in
theorem kX4_servesAsWitness (l : Launch) (D : va_G) (cI cZ : ClassId) (X : Nat → Nat) (S : Nat → Nat → Int32) (O : Nat → Bool) (V : Nat → Int32) (pi : Nat) (ri : Nat) (hpi : pi < 10) (hri : ri < 6) : Met l yX4_servesAsWitness wsX4_servesAsWitness ({ frames := 4, cells := 0, slots := 0, locals := 89 } : Room) (zR D (tyl cI cZ) (hW cI cZ X S O V) [.ref (X 0), .int (nI pi), .int (nI ri)]) (QcRead (bi (c_serves S pi ri))) 0 0 (fun _ => False) := by
  refine Met.ofW (cc := cX4_servesAsWitness) (maxL := 3) (ret := (some .boolean)) (by decide) rfl ?_
  intro p e s m args below meth c s₁ B hml hv
  obtain ⟨rfl, hP, hK⟩ := hv
  have hx := B.exec
  have hb := B.bytes
  have hr := B.returns
  have hts := atoms_spec (ws := wsX4_servesAsWitness) B.pre
  have hown : s.vm.findClass RX4 = some m.cls := findClass_of_methodNamed B.named
  have hlocks := B.notSynchronized
  have i4 : ∀ w ∈ u_ws RX4 TX4 7, w ∈ wsX4_servesAsWitness := by decide +kernel
  have fl_10 := hts (.fieldLink RX4 10 "SignOnHouse" "groups" "LSignOnHouse$Groups;") (by decide +kernel)
  have hl := lv_entry ([.ref (X 0), .int (nI pi), .int (nI ri)]) (n := 3) (Nat.le_of_ble_eq_true rfl)
  rw [lg_entry_eq]
  generalize (lg_sl ([.ref (X 0), .int (nI pi), .int (nI ri)]) ++ List.replicate (3 - (lg_sl ([.ref (X 0), .int (nI pi), .int (nI ri)])).length) Slot.unset).toArray = ls at hl ⊢
  have hl : lv_has ls 3 [(0, .ref (X 0)), (1, .int (nI pi)), (2, .int (nI ri))] := hl
  refine lv_aload_n hx hb dX4_servesAsWitness_0 rfl (lv_at hl 0 rfl) ?_
  refine lv_iload_n hx hb dX4_servesAsWitness_1 rfl (lv_at hl 1 rfl) ?_
  refine z_callR (W.runV (As := [.int (nI pi)]) (rest := []) ⟨hx, hb, hml, hown, hts⟩ (kX4_isBarred l D cI cZ X S O V pi (by omega)) (cwV 1 hts gX4_servesAsWitness_X4_isBarred rfl rfl rfl (by decide +kernel) ⟨Nat.le_of_ble_eq_true rfl, Nat.le_of_ble_eq_true rfl⟩) (zR_preV 0 4 hK hP rfl rfl) rfl rfl hl.1 rfl (lv_room (Nat.le_of_ble_eq_true rfl)) dX4_servesAsWitness_2 ⟨Nat.zero_le _, Nat.zero_le _⟩) ?_
  refine z_if_ne (tgt := 24) hx hb dX4_servesAsWitness_5 (by decide) (fun c_5 => ?_) (fun c_5 => ?_)
  · refine lv_iconst (v := 0) hx hb dX4_servesAsWitness_24 rfl ?_
    exact z_zret hx hb hr hlocks (by simp [c_serves, bi, (eq_true (of_decide_eq_true c_5))]) dX4_servesAsWitness_25
  · refine lv_aload_n hx hb dX4_servesAsWitness_8 rfl (lv_at hl 0 rfl) ?_
    refine va_get (D := D) (ci := 4) (v := .ref (X 1)) (C := RX4) (T := TX4) (N := 7) hx hb hts i4 hown hK hP 0 rfl rfl 0 (by decide) fl_10 (fun _ h9 => h9) rfl dX4_servesAsWitness_9 ?_
    refine lv_iload_n hx hb dX4_servesAsWitness_12 rfl (lv_at hl 1 rfl) ?_
    refine lv_iload_n hx hb dX4_servesAsWitness_13 rfl (lv_at hl 2 rfl) ?_
    refine z_callR (W.runV (As := [.int (nI pi), .int (nI ri)]) (rest := []) ⟨hx, hb, hml, hown, hts⟩ (kX1_anyGrants l D cI cZ X S O V pi ri (by omega) (by omega)) (cwV 2 hts gX4_servesAsWitness_X1_anyGrants rfl rfl rfl (by decide +kernel) ⟨Nat.le_of_ble_eq_true rfl, Nat.le_of_ble_eq_true rfl⟩) (zR_preV 1 1 hK hP rfl rfl) rfl rfl hl.1 rfl (lv_room (Nat.le_of_ble_eq_true rfl)) dX4_servesAsWitness_14 ⟨Nat.zero_le _, Nat.zero_le _⟩) ?_
    refine z_if_eq (tgt := 24) hx hb dX4_servesAsWitness_17 (by decide) (fun c_17 => ?_) (fun c_17 => ?_)
    · refine lv_iconst (v := 0) hx hb dX4_servesAsWitness_24 rfl ?_
      exact z_zret hx hb hr hlocks (by simp [c_serves, bi, (of_decide_eq_false c_5), c_17]) dX4_servesAsWitness_25
    · refine lv_iconst (v := 1) hx hb dX4_servesAsWitness_20 rfl ?_
      refine lv_goto (tgt := 25) hx hb dX4_servesAsWitness_21 (by decide) ?_
      exact z_zret hx hb hr hlocks (by simp [c_serves, bi, (of_decide_eq_false c_5), c_17]) dX4_servesAsWitness_25

set_option maxHeartbeats 4000000 in
set_option maxRecDepth 100000 in
theorem kX4_answerOfHouse (l : Launch) (D : va_G) (cI cZ : ClassId) (X : Nat → Nat) (S : Nat → Nat → Int32) (O : Nat → Bool) (V : Nat → Int32) (pi : Nat) (ri : Nat) (hpi : pi < 10) (hri : ri < 6) : Met l yX4_answerOfHouse wsX4_answerOfHouse ({ frames := 4, cells := 0, slots := 0, locals := 89 } : Room) (zR D (tyl cI cZ) (hW cI cZ X S O V) [.ref (X 0), .int (nI pi), .int (nI ri)]) (QcRead (c_house S V pi ri)) 0 0 (fun _ => False) := by
  refine Met.ofW (cc := cX4_answerOfHouse) (maxL := 4) (ret := (some .int)) (by decide) rfl ?_
  intro p e s m args below meth c s₁ B hml hv
  obtain ⟨rfl, hP, hK⟩ := hv
  have hx := B.exec
  have hb := B.bytes
  have hr := B.returns
  have hts := atoms_spec (ws := wsX4_answerOfHouse) B.pre
  have hown : s.vm.findClass RX4 = some m.cls := findClass_of_methodNamed B.named
  have hlocks := B.notSynchronized
  have i4 : ∀ w ∈ u_ws RX4 TX4 7, w ∈ wsX4_answerOfHouse := by decide +kernel
  have fl_10 := hts (.fieldLink RX4 10 "SignOnHouse" "groups" "LSignOnHouse$Groups;") (by decide +kernel)
  have hl := lv_entry ([.ref (X 0), .int (nI pi), .int (nI ri)]) (n := 4) (Nat.le_of_ble_eq_true rfl)
  rw [lg_entry_eq]
  generalize (lg_sl ([.ref (X 0), .int (nI pi), .int (nI ri)]) ++ List.replicate (4 - (lg_sl ([.ref (X 0), .int (nI pi), .int (nI ri)])).length) Slot.unset).toArray = ls at hl ⊢
  have hl : lv_has ls 4 [(0, .ref (X 0)), (1, .int (nI pi)), (2, .int (nI ri))] := hl
  refine lv_aload_n hx hb dX4_answerOfHouse_0 rfl (lv_at hl 0 rfl) ?_
  refine lv_iload_n hx hb dX4_answerOfHouse_1 rfl (lv_at hl 1 rfl) ?_
  refine z_callR (W.runV (As := [.int (nI pi)]) (rest := []) ⟨hx, hb, hml, hown, hts⟩ (kX4_isBarred l D cI cZ X S O V pi (by omega)) (cwV 1 hts gX4_answerOfHouse_X4_isBarred rfl rfl rfl (by decide +kernel) ⟨Nat.le_of_ble_eq_true rfl, Nat.le_of_ble_eq_true rfl⟩) (zR_preV 0 4 hK hP rfl rfl) rfl rfl hl.1 rfl (lv_room (Nat.le_of_ble_eq_true rfl)) dX4_answerOfHouse_2 ⟨Nat.zero_le _, Nat.zero_le _⟩) ?_
  refine z_if_eq (tgt := 10) hx hb dX4_answerOfHouse_5 (by decide) (fun c_5 => ?_) (fun c_5 => ?_)
  · refine lv_aload_n hx hb dX4_answerOfHouse_10 rfl (lv_at hl 0 rfl) ?_
    refine va_get (D := D) (ci := 4) (v := .ref (X 1)) (C := RX4) (T := TX4) (N := 7) hx hb hts i4 hown hK hP 0 rfl rfl 0 (by decide) fl_10 (fun _ h9 => h9) rfl dX4_answerOfHouse_11 ?_
    refine lv_iload_n hx hb dX4_answerOfHouse_14 rfl (lv_at hl 1 rfl) ?_
    refine lv_iload_n hx hb dX4_answerOfHouse_15 rfl (lv_at hl 2 rfl) ?_
    refine z_callR (W.runV (As := [.int (nI pi), .int (nI ri)]) (rest := []) ⟨hx, hb, hml, hown, hts⟩ (kX1_anyGrants l D cI cZ X S O V pi ri (by omega) (by omega)) (cwV 2 hts gX4_answerOfHouse_X1_anyGrants rfl rfl rfl (by decide +kernel) ⟨Nat.le_of_ble_eq_true rfl, Nat.le_of_ble_eq_true rfl⟩) (zR_preV 1 1 hK hP rfl rfl) rfl rfl hl.1 rfl (lv_room (Nat.le_of_ble_eq_true rfl)) dX4_answerOfHouse_16 ⟨Nat.zero_le _, Nat.zero_le _⟩) ?_
    refine z_if_eq (tgt := 38) hx hb dX4_answerOfHouse_19 (by decide) (fun c_19 => ?_) (fun c_19 => ?_)
    · refine lv_iconst (v := 0) hx hb dX4_answerOfHouse_38 rfl ?_
      refine lv_istore_n (lv' := [(3, .int 0), (0, .ref (X 0)), (1, .int (nI pi)), (2, .int (nI ri))]) hx hb dX4_answerOfHouse_39 rfl hl (by decide) rfl (fun ls hl => ?_)
      refine lv_iload_n hx hb dX4_answerOfHouse_40 rfl (lv_at hl 0 rfl) ?_
      refine lv_if_ne (tgt := 53) hx hb dX4_answerOfHouse_41 (by decide) (fun q => absurd rfl q) (fun _ => ?_)
      refine lv_aload_n hx hb dX4_answerOfHouse_44 rfl (lv_at hl 1 rfl) ?_
      refine lv_iload_n hx hb dX4_answerOfHouse_45 rfl (lv_at hl 2 rfl) ?_
      refine lv_iload_n hx hb dX4_answerOfHouse_46 rfl (lv_at hl 3 rfl) ?_
      refine z_callR (W.runV (As := [.int (nI pi), .int (nI ri)]) (rest := []) ⟨hx, hb, hml, hown, hts⟩ (kX4_holdsGlass l D cI cZ X S O V pi ri (by omega) (by omega)) (cwV 2 hts gX4_answerOfHouse_X4_holdsGlass rfl rfl rfl (by decide +kernel) ⟨Nat.le_of_ble_eq_true rfl, Nat.le_of_ble_eq_true rfl⟩) (zR_preV 0 4 hK hP rfl rfl) rfl rfl hl.1 rfl (lv_room (Nat.le_of_ble_eq_true rfl)) dX4_answerOfHouse_47 ⟨Nat.zero_le _, Nat.zero_le _⟩) ?_
      refine z_if_eq (tgt := 57) hx hb dX4_answerOfHouse_50 (by decide) (fun c_50 => ?_) (fun c_50 => ?_)
      · refine lv_iconst (v := 1) hx hb dX4_answerOfHouse_57 rfl ?_
        exact z_ret hx hb hr hlocks (by simp [c_house, c_lets, bi, (of_decide_eq_false c_5), c_19, (eq_true (nd_f c_50))]) dX4_answerOfHouse_58
      · refine lv_iconst (v := 0) hx hb dX4_answerOfHouse_53 rfl ?_
        refine lv_goto (tgt := 58) hx hb dX4_answerOfHouse_54 (by decide) ?_
        exact z_ret hx hb hr hlocks (by simp [c_house, c_lets, bi, (of_decide_eq_false c_5), c_19, (nd_t c_50)]) dX4_answerOfHouse_58
    · refine lv_aload_n hx hb dX4_answerOfHouse_22 rfl (lv_at hl 0 rfl) ?_
      refine va_get (D := D) (ci := 4) (v := .ref (X 1)) (C := RX4) (T := TX4) (N := 7) hx hb hts i4 hown hK hP 0 rfl rfl 0 (by decide) fl_10 (fun _ h9 => h9) rfl dX4_answerOfHouse_23 ?_
      refine lv_iload_n hx hb dX4_answerOfHouse_26 rfl (lv_at hl 1 rfl) ?_
      refine lv_iload_n hx hb dX4_answerOfHouse_27 rfl (lv_at hl 2 rfl) ?_
      refine z_callR (W.runV (As := [.int (nI pi), .int (nI ri)]) (rest := []) ⟨hx, hb, hml, hown, hts⟩ (kX1_anyDenies l D cI cZ X S O V pi ri (by omega) (by omega)) (cwV 2 hts gX4_answerOfHouse_X1_anyDenies rfl rfl rfl (by decide +kernel) ⟨Nat.le_of_ble_eq_true rfl, Nat.le_of_ble_eq_true rfl⟩) (zR_preV 1 1 hK hP rfl rfl) rfl rfl hl.1 rfl (lv_room (Nat.le_of_ble_eq_true rfl)) dX4_answerOfHouse_28 ⟨Nat.zero_le _, Nat.zero_le _⟩) ?_
      refine z_if_ne (tgt := 38) hx hb dX4_answerOfHouse_31 (by decide) (fun c_31 => ?_) (fun c_31 => ?_)
      · refine lv_iconst (v := 0) hx hb dX4_answerOfHouse_38 rfl ?_
        refine lv_istore_n (lv' := [(3, .int 0), (0, .ref (X 0)), (1, .int (nI pi)), (2, .int (nI ri))]) hx hb dX4_answerOfHouse_39 rfl hl (by decide) rfl (fun ls hl => ?_)
        refine lv_iload_n hx hb dX4_answerOfHouse_40 rfl (lv_at hl 0 rfl) ?_
        refine lv_if_ne (tgt := 53) hx hb dX4_answerOfHouse_41 (by decide) (fun q => absurd rfl q) (fun _ => ?_)
        refine lv_aload_n hx hb dX4_answerOfHouse_44 rfl (lv_at hl 1 rfl) ?_
        refine lv_iload_n hx hb dX4_answerOfHouse_45 rfl (lv_at hl 2 rfl) ?_
        refine lv_iload_n hx hb dX4_answerOfHouse_46 rfl (lv_at hl 3 rfl) ?_
        refine z_callR (W.runV (As := [.int (nI pi), .int (nI ri)]) (rest := []) ⟨hx, hb, hml, hown, hts⟩ (kX4_holdsGlass l D cI cZ X S O V pi ri (by omega) (by omega)) (cwV 2 hts gX4_answerOfHouse_X4_holdsGlass rfl rfl rfl (by decide +kernel) ⟨Nat.le_of_ble_eq_true rfl, Nat.le_of_ble_eq_true rfl⟩) (zR_preV 0 4 hK hP rfl rfl) rfl rfl hl.1 rfl (lv_room (Nat.le_of_ble_eq_true rfl)) dX4_answerOfHouse_47 ⟨Nat.zero_le _, Nat.zero_le _⟩) ?_
        refine z_if_eq (tgt := 57) hx hb dX4_answerOfHouse_50 (by decide) (fun c_50 => ?_) (fun c_50 => ?_)
        · refine lv_iconst (v := 1) hx hb dX4_answerOfHouse_57 rfl ?_
          exact z_ret hx hb hr hlocks (by simp [c_house, c_lets, bi, (of_decide_eq_false c_5), c_19, c_31, (eq_true (nd_f c_50))]) dX4_answerOfHouse_58
        · refine lv_iconst (v := 0) hx hb dX4_answerOfHouse_53 rfl ?_
          refine lv_goto (tgt := 58) hx hb dX4_answerOfHouse_54 (by decide) ?_
          exact z_ret hx hb hr hlocks (by simp [c_house, c_lets, bi, (of_decide_eq_false c_5), c_19, c_31, (nd_t c_50)]) dX4_answerOfHouse_58
      · refine lv_iconst (v := 1) hx hb dX4_answerOfHouse_34 rfl ?_
        refine lv_goto (tgt := 39) hx hb dX4_answerOfHouse_35 (by decide) ?_
        refine lv_istore_n (lv' := [(3, .int 1), (0, .ref (X 0)), (1, .int (nI pi)), (2, .int (nI ri))]) hx hb dX4_answerOfHouse_39 rfl hl (by decide) rfl (fun ls hl => ?_)
        refine lv_iload_n hx hb dX4_answerOfHouse_40 rfl (lv_at hl 0 rfl) ?_
        refine lv_if_ne (tgt := 53) hx hb dX4_answerOfHouse_41 (by decide) (fun _ => ?_) (fun q => absurd q (by decide))
        refine lv_iconst (v := 0) hx hb dX4_answerOfHouse_53 rfl ?_
        refine lv_goto (tgt := 58) hx hb dX4_answerOfHouse_54 (by decide) ?_
        exact z_ret hx hb hr hlocks (by simp [c_house, c_lets, bi, (of_decide_eq_false c_5), c_19, c_31]) dX4_answerOfHouse_58
  · refine lv_iconst (v := 1) hx hb dX4_answerOfHouse_8 rfl ?_
    exact z_ret hx hb hr hlocks (by simp [c_house, c_lets, bi, (eq_true (of_decide_eq_true c_5))]) dX4_answerOfHouse_9

set_option maxHeartbeats 4000000 in
set_option maxRecDepth 100000 in
theorem kX4_answerOfApp (l : Launch) (D : va_G) (cI cZ : ClassId) (X : Nat → Nat) (S : Nat → Nat → Int32) (O : Nat → Bool) (V : Nat → Int32) (sz : Nat) (ai : Nat) (pi : Nat) (ri : Nat) (hai : ai < 4) (hpi : pi < 10) (hri : ri < 6) : Met l yX4_answerOfApp wsX4_answerOfApp ({ frames := 5, cells := 0, slots := 0, locals := 112 } : Room) (zW D (tyl cI cZ) (hW cI cZ X S O V) sz [.ref (X 0), .int (nI ai), .int (nI pi), .int (nI ri)]) (zQi D (tyl cI cZ) (hW cI cZ X (c_appS S V ai pi ri) O V) (c_appR S V ai pi ri) (va_A (hW cI cZ X S O V) sz)) 0 0 (va_A (hW cI cZ X S O V) sz) := by
  refine Met.ofW (cc := cX4_answerOfApp) (maxL := 5) (ret := (some .int)) (by decide) rfl ?_
  intro p e s m args below meth c s₁ B hml hv
  obtain ⟨rfl, hsz, hP, hK, hD0⟩ := hv
  have hx := B.exec
  have hb := B.bytes
  have hr := B.returns
  have hts := atoms_spec (ws := wsX4_answerOfApp) B.pre
  have hown : s.vm.findClass RX4 = some m.cls := findClass_of_methodNamed B.named
  have hlocks := B.notSynchronized
  subst hsz
  have hD := hD0.self (sz := s.heap.size)
  generalize hAe : va_A (hW cI cZ X S O V) s.heap.size = A at hD ⊢
  have hA : ∀ q : Nat, s.heap.size ≤ q → A q := fun q h => by rw [← hAe]; exact Or.inr h
  have hS : va_S A s.heap s.heap [] := va_S.rf
  have i4 : ∀ w ∈ u_ws RX4 TX4 7, w ∈ wsX4_answerOfApp := by decide +kernel
  have fl_33 := hts (.fieldLink RX4 33 "SignOnHouse" "decisions" "LSignOnHouse$Decisions;") (by decide +kernel)
  have fl_44 := hts (.fieldLink RX4 44 "SignOnHouse" "minute" "I") (by decide +kernel)
  have hl := lv_entry ([.ref (X 0), .int (nI ai), .int (nI pi), .int (nI ri)]) (n := 5) (Nat.le_of_ble_eq_true rfl)
  rw [lg_entry_eq]
  generalize (lg_sl ([.ref (X 0), .int (nI ai), .int (nI pi), .int (nI ri)]) ++ List.replicate (5 - (lg_sl ([.ref (X 0), .int (nI ai), .int (nI pi), .int (nI ri)])).length) Slot.unset).toArray = ls at hl ⊢
  have hl : lv_has ls 5 [(0, .ref (X 0)), (1, .int (nI ai)), (2, .int (nI pi)), (3, .int (nI ri))] := hl
  refine lv_aload_n hx hb dX4_answerOfApp_0 rfl (lv_at hl 0 rfl) ?_
  refine va_get (D := D) (ci := 4) (v := .ref (X 4)) (C := RX4) (T := TX4) (N := 7) hx hb hts i4 hown hK hP 0 rfl rfl 3 (by decide) fl_33 (fun _ h9 => h9) rfl dX4_answerOfApp_1 ?_
  refine lv_iload_n hx hb dX4_answerOfApp_4 rfl (lv_at hl 1 rfl) ?_
  refine lv_iload_n hx hb dX4_answerOfApp_5 rfl (lv_at hl 2 rfl) ?_
  refine lv_iload_n hx hb dX4_answerOfApp_6 rfl (lv_at hl 3 rfl) ?_
  refine z_callR (W.runV (As := [.int (nI ai), .int (nI pi), .int (nI ri)]) (rest := []) ⟨hx, hb, hml, hown, hts⟩ (kX0_areKept l D cI cZ X S O V ai pi ri (by omega) (by omega) (by omega)) (cwV 3 hts gX4_answerOfApp_X0_areKept rfl rfl rfl (by decide +kernel) ⟨Nat.le_of_ble_eq_true rfl, Nat.le_of_ble_eq_true rfl⟩) (zR_preV 4 0 hK hP rfl rfl) rfl rfl hl.1 rfl (lv_room (Nat.le_of_ble_eq_true rfl)) dX4_answerOfApp_7 ⟨Nat.zero_le _, Nat.zero_le _⟩) ?_
  refine z_if_eq (tgt := 24) hx hb dX4_answerOfApp_10 (by decide) (fun c_10 => ?_) (fun c_10 => ?_)
  · refine lv_aload_n hx hb dX4_answerOfApp_24 rfl (lv_at hl 0 rfl) ?_
    refine lv_iload_n hx hb dX4_answerOfApp_25 rfl (lv_at hl 2 rfl) ?_
    refine lv_iload_n hx hb dX4_answerOfApp_26 rfl (lv_at hl 3 rfl) ?_
    refine z_callR (W.runV (As := [.int (nI pi), .int (nI ri)]) (rest := []) ⟨hx, hb, hml, hown, hts⟩ (kX4_answerOfHouse l D cI cZ X S O V pi ri (by omega) (by omega)) (cwV 2 hts gX4_answerOfApp_X4_answerOfHouse rfl rfl rfl (by decide +kernel) ⟨Nat.le_of_ble_eq_true rfl, Nat.le_of_ble_eq_true rfl⟩) (zR_preV 0 4 hK hP rfl rfl) rfl rfl hl.1 rfl (lv_room (Nat.le_of_ble_eq_true rfl)) dX4_answerOfApp_27 ⟨Nat.zero_le _, Nat.zero_le _⟩) ?_
    refine lv_istore (lv' := [(4, .int (c_house S V pi ri)), (0, .ref (X 0)), (1, .int (nI ai)), (2, .int (nI pi)), (3, .int (nI ri))]) hx hb dX4_answerOfApp_30 hl (by decide) rfl (fun ls hl => ?_)
    refine lv_aload_n hx hb dX4_answerOfApp_32 rfl (lv_at hl 1 rfl) ?_
    refine va_get (D := D) (ci := 4) (v := .ref (X 4)) (C := RX4) (T := TX4) (N := 7) hx hb hts i4 hown hK hP 0 rfl rfl 3 (by decide) fl_33 (fun _ h9 => h9) rfl dX4_answerOfApp_33 ?_
    refine lv_iload_n hx hb dX4_answerOfApp_36 rfl (lv_at hl 2 rfl) ?_
    refine lv_iload_n hx hb dX4_answerOfApp_37 rfl (lv_at hl 3 rfl) ?_
    refine lv_iload_n hx hb dX4_answerOfApp_38 rfl (lv_at hl 4 rfl) ?_
    refine lv_iload hx hb dX4_answerOfApp_39 (lv_at hl 0 rfl) ?_
    refine lv_aload_n hx hb dX4_answerOfApp_41 rfl (lv_at hl 1 rfl) ?_
    refine va_get (D := D) (ci := 4) (v := .int (V 0)) (C := RX4) (T := TX4) (N := 7) hx hb hts i4 hown hK hP 0 rfl rfl 6 (by decide) fl_44 (fun _ h9 => h9) rfl dX4_answerOfApp_42 ?_
    have hF := z_free hD hS hA
    refine z_callWv (va_runV (As := [.int (nI ai), .int (nI pi), .int (nI ri), .int (c_house S V pi ri), .int (V 0)]) (rest := []) ⟨hx, hb, hml, hown, hts⟩ (kX0_keep l D cI cZ X S O V _ ai pi ri (c_house S V pi ri) (V 0) (by omega) (by omega) (by omega)) (cwV 5 hts gX4_answerOfApp_X0_keep rfl rfl rfl (by decide +kernel) ⟨Nat.le_of_ble_eq_true rfl, Nat.le_of_ble_eq_true rfl⟩) (zW_preV 4 0 hK hP hD rfl rfl) rfl rfl hl.1 rfl (lv_room (Nat.le_of_ble_eq_true rfl)) dX4_answerOfApp_45 ⟨Nat.zero_le _, Nat.zero_le _⟩) hS hF (fun H locs hP hD hS => ?_)
    refine lv_iload hx hb dX4_answerOfApp_48 (lv_at hl 0 rfl) ?_
    have eS : (c_appS S V ai pi ri) = (c_keep S ai pi ri (c_house S V pi ri) (V 0)) := by simp [c_appR, c_appS, bi, (eq_true (nd_f c_10))]
    exact z_wret hx hb hr hlocks (by rw [eS]; exact hP) hK (by rw [eS]; exact hD) hS (by simp [c_appR, c_appS, bi, (eq_true (nd_f c_10))]) dX4_answerOfApp_50
  · refine lv_aload_n hx hb dX4_answerOfApp_13 rfl (lv_at hl 0 rfl) ?_
    refine va_get (D := D) (ci := 4) (v := .ref (X 4)) (C := RX4) (T := TX4) (N := 7) hx hb hts i4 hown hK hP 0 rfl rfl 3 (by decide) fl_33 (fun _ h9 => h9) rfl dX4_answerOfApp_14 ?_
    refine lv_iload_n hx hb dX4_answerOfApp_17 rfl (lv_at hl 1 rfl) ?_
    refine lv_iload_n hx hb dX4_answerOfApp_18 rfl (lv_at hl 2 rfl) ?_
    refine lv_iload_n hx hb dX4_answerOfApp_19 rfl (lv_at hl 3 rfl) ?_
    refine z_callR (W.runV (As := [.int (nI ai), .int (nI pi), .int (nI ri)]) (rest := []) ⟨hx, hb, hml, hown, hts⟩ (kX0_answer l D cI cZ X S O V ai pi ri (by omega) (by omega) (by omega)) (cwV 3 hts gX4_answerOfApp_X0_answer rfl rfl rfl (by decide +kernel) ⟨Nat.le_of_ble_eq_true rfl, Nat.le_of_ble_eq_true rfl⟩) (zR_preV 4 0 hK hP rfl rfl) rfl rfl hl.1 rfl (lv_room (Nat.le_of_ble_eq_true rfl)) dX4_answerOfApp_20 ⟨Nat.zero_le _, Nat.zero_le _⟩) ?_
    have eS : (c_appS S V ai pi ri) = S := by simp [c_appR, c_appS, bi, (nd_t c_10)]
    exact z_wret hx hb hr hlocks (by rw [eS]; exact hP) hK (by rw [eS]; exact hD) hS (by simp [c_appR, c_appS, bi, (nd_t c_10)]) dX4_answerOfApp_23

set_option maxHeartbeats 4000000 in
set_option maxRecDepth 100000 in
theorem kX4_isStale (l : Launch) (D : va_G) (cI cZ : ClassId) (X : Nat → Nat) (S : Nat → Nat → Int32) (O : Nat → Bool) (V : Nat → Int32) (ai : Nat) (pi : Nat) (ri : Nat) (hai : ai < 4) (hpi : pi < 10) (hri : ri < 6) : Met l yX4_isStale wsX4_isStale ({ frames := 5, cells := 0, slots := 0, locals := 112 } : Room) (zR D (tyl cI cZ) (hW cI cZ X S O V) [.ref (X 0), .int (nI ai), .int (nI pi), .int (nI ri)]) (QcRead (bi (c_stale1 S V ai pi ri))) 0 0 (fun _ => False) := by
  refine Met.ofW (cc := cX4_isStale) (maxL := 4) (ret := (some .boolean)) (by decide) rfl ?_
  intro p e s m args below meth c s₁ B hml hv
  obtain ⟨rfl, hP, hK⟩ := hv
  have hx := B.exec
  have hb := B.bytes
  have hr := B.returns
  have hts := atoms_spec (ws := wsX4_isStale) B.pre
  have hown : s.vm.findClass RX4 = some m.cls := findClass_of_methodNamed B.named
  have hlocks := B.notSynchronized
  have i4 : ∀ w ∈ u_ws RX4 TX4 7, w ∈ wsX4_isStale := by decide +kernel
  have fl_33 := hts (.fieldLink RX4 33 "SignOnHouse" "decisions" "LSignOnHouse$Decisions;") (by decide +kernel)
  have hl := lv_entry ([.ref (X 0), .int (nI ai), .int (nI pi), .int (nI ri)]) (n := 4) (Nat.le_of_ble_eq_true rfl)
  rw [lg_entry_eq]
  generalize (lg_sl ([.ref (X 0), .int (nI ai), .int (nI pi), .int (nI ri)]) ++ List.replicate (4 - (lg_sl ([.ref (X 0), .int (nI ai), .int (nI pi), .int (nI ri)])).length) Slot.unset).toArray = ls at hl ⊢
  have hl : lv_has ls 4 [(0, .ref (X 0)), (1, .int (nI ai)), (2, .int (nI pi)), (3, .int (nI ri))] := hl
  refine lv_aload_n hx hb dX4_isStale_0 rfl (lv_at hl 0 rfl) ?_
  refine va_get (D := D) (ci := 4) (v := .ref (X 4)) (C := RX4) (T := TX4) (N := 7) hx hb hts i4 hown hK hP 0 rfl rfl 3 (by decide) fl_33 (fun _ h9 => h9) rfl dX4_isStale_1 ?_
  refine lv_iload_n hx hb dX4_isStale_4 rfl (lv_at hl 1 rfl) ?_
  refine lv_iload_n hx hb dX4_isStale_5 rfl (lv_at hl 2 rfl) ?_
  refine lv_iload_n hx hb dX4_isStale_6 rfl (lv_at hl 3 rfl) ?_
  refine z_callR (W.runV (As := [.int (nI ai), .int (nI pi), .int (nI ri)]) (rest := []) ⟨hx, hb, hml, hown, hts⟩ (kX0_areKept l D cI cZ X S O V ai pi ri (by omega) (by omega) (by omega)) (cwV 3 hts gX4_isStale_X0_areKept rfl rfl rfl (by decide +kernel) ⟨Nat.le_of_ble_eq_true rfl, Nat.le_of_ble_eq_true rfl⟩) (zR_preV 4 0 hK hP rfl rfl) rfl rfl hl.1 rfl (lv_room (Nat.le_of_ble_eq_true rfl)) dX4_isStale_7 ⟨Nat.zero_le _, Nat.zero_le _⟩) ?_
  refine z_if_eq (tgt := 36) hx hb dX4_isStale_10 (by decide) (fun c_10 => ?_) (fun c_10 => ?_)
  · refine lv_iconst (v := 0) hx hb dX4_isStale_36 rfl ?_
    exact z_zret hx hb hr hlocks (by simp [c_stale1, bi, (eq_true (nd_f c_10))]) dX4_isStale_37
  · refine lv_aload_n hx hb dX4_isStale_13 rfl (lv_at hl 0 rfl) ?_
    refine va_get (D := D) (ci := 4) (v := .ref (X 4)) (C := RX4) (T := TX4) (N := 7) hx hb hts i4 hown hK hP 0 rfl rfl 3 (by decide) fl_33 (fun _ h9 => h9) rfl dX4_isStale_14 ?_
    refine lv_iload_n hx hb dX4_isStale_17 rfl (lv_at hl 1 rfl) ?_
    refine lv_iload_n hx hb dX4_isStale_18 rfl (lv_at hl 2 rfl) ?_
    refine lv_iload_n hx hb dX4_isStale_19 rfl (lv_at hl 3 rfl) ?_
    refine z_callR (W.runV (As := [.int (nI ai), .int (nI pi), .int (nI ri)]) (rest := []) ⟨hx, hb, hml, hown, hts⟩ (kX0_answer l D cI cZ X S O V ai pi ri (by omega) (by omega) (by omega)) (cwV 3 hts gX4_isStale_X0_answer rfl rfl rfl (by decide +kernel) ⟨Nat.le_of_ble_eq_true rfl, Nat.le_of_ble_eq_true rfl⟩) (zR_preV 4 0 hK hP rfl rfl) rfl rfl hl.1 rfl (lv_room (Nat.le_of_ble_eq_true rfl)) dX4_isStale_20 ⟨Nat.zero_le _, Nat.zero_le _⟩) ?_
    refine lv_aload_n hx hb dX4_isStale_23 rfl (lv_at hl 0 rfl) ?_
    refine lv_iload_n hx hb dX4_isStale_24 rfl (lv_at hl 2 rfl) ?_
    refine lv_iload_n hx hb dX4_isStale_25 rfl (lv_at hl 3 rfl) ?_
    refine z_callR (W.runV (As := [.int (nI pi), .int (nI ri)]) (rest := [.int (S 17 (ai * 60 + pi * 6 + ri))]) ⟨hx, hb, hml, hown, hts⟩ (kX4_answerOfHouse l D cI cZ X S O V pi ri (by omega) (by omega)) (cwV 2 hts gX4_isStale_X4_answerOfHouse rfl rfl rfl (by decide +kernel) ⟨Nat.le_of_ble_eq_true rfl, Nat.le_of_ble_eq_true rfl⟩) (zR_preV 0 4 hK hP rfl rfl) rfl rfl hl.1 rfl (lv_room (Nat.le_of_ble_eq_true rfl)) dX4_isStale_26 ⟨Nat.zero_le _, Nat.zero_le _⟩) ?_
    refine z_sel_icmp_eq hx hb dX4_isStale_29 dX4_isStale_32 dX4_isStale_33 dX4_isStale_36 ?_
    exact z_zret hx hb hr hlocks (by simp [c_stale1, bi, (nd_t c_10)]) dX4_isStale_37
