set_option maxHeartbeats 4000000 in
set_option maxRecDepth 100000 in
theorem kX1_contains (l : Launch) (x0 : Int32) (x1 : Int32) : Met l yX1_contains wsX1_contains ({ frames := 0, cells := 0, slots := 0, locals := 0 } : Room) (zP [.int x0, .int x1]) (QcRead (bi (hasB x0 x1))) 0 0 (fun _ => False) := by
  refine Met.ofW (cc := cX1_contains) (maxL := 2) (ret := (some .boolean)) (by decide) rfl ?_
  intro p e s m args below meth c s₁ B hml hv
  obtain rfl := hv
  have hx := B.exec
  have hb := B.bytes
  have hr := B.returns
  have hts := atoms_spec (ws := wsX1_contains) B.pre
  have hown : s.vm.findClass RX1 = some m.cls := findClass_of_methodNamed B.named
  have hlocks := B.notSynchronized
  have hl := lv_entry ([.int x0, .int x1]) (n := 2) (Nat.le_of_ble_eq_true rfl)
  rw [lg_entry_eq]
  generalize (lg_sl ([.int x0, .int x1]) ++ List.replicate (2 - (lg_sl ([.int x0, .int x1])).length) Slot.unset).toArray = ls at hl ⊢
  have hl : lv_has ls 2 [(0, .int x0), (1, .int x1)] := hl
  refine lv_iload_n hx hb dX1_contains_0 rfl (lv_at hl 0 rfl) ?_
  refine lv_iload_n hx hb dX1_contains_1 rfl (lv_at hl 1 rfl) ?_
  refine lv_ishr hx hb dX1_contains_2 ?_
  refine lv_iconst (v := 1) hx hb dX1_contains_3 rfl ?_
  refine lv_iand hx hb dX1_contains_4 ?_
  refine lv_iconst (v := 1) hx hb dX1_contains_5 rfl ?_
  refine z_sel_icmp_ne hx hb dX1_contains_6 dX1_contains_9 dX1_contains_10 dX1_contains_13 ?_
  exact z_zret hx hb hr hlocks (by rfl) dX1_contains_14

set_option maxHeartbeats 4000000 in
set_option maxRecDepth 100000 in
theorem kX1_changed (l : Launch) (x0 : Int32) (x1 : Int32) (b0 : Bool) : Met l yX1_changed wsX1_changed ({ frames := 0, cells := 0, slots := 0, locals := 0 } : Room) (zP [.int x0, .int x1, .int (bi b0)]) (QcRead (c_changed x0 x1 b0)) 0 0 (fun _ => False) := by
  refine Met.ofW (cc := cX1_changed) (maxL := 3) (ret := (some .int)) (by decide) rfl ?_
  intro p e s m args below meth c s₁ B hml hv
  obtain rfl := hv
  have hx := B.exec
  have hb := B.bytes
  have hr := B.returns
  have hts := atoms_spec (ws := wsX1_changed) B.pre
  have hown : s.vm.findClass RX1 = some m.cls := findClass_of_methodNamed B.named
  have hlocks := B.notSynchronized
  have hl := lv_entry ([.int x0, .int x1, .int (bi b0)]) (n := 3) (Nat.le_of_ble_eq_true rfl)
  rw [lg_entry_eq]
  generalize (lg_sl ([.int x0, .int x1, .int (bi b0)]) ++ List.replicate (3 - (lg_sl ([.int x0, .int x1, .int (bi b0)])).length) Slot.unset).toArray = ls at hl ⊢
  have hl : lv_has ls 3 [(0, .int x0), (1, .int x1), (2, .int (bi b0))] := hl
  refine lv_iload_n hx hb dX1_changed_0 rfl (lv_at hl 2 rfl) ?_
  refine z_if_eq (tgt := 12) hx hb dX1_changed_1 (by decide) (fun c_1 => ?_) (fun c_1 => ?_)
  · refine lv_iload_n hx hb dX1_changed_12 rfl (lv_at hl 0 rfl) ?_
    refine lv_iconst (v := 1) hx hb dX1_changed_13 rfl ?_
    refine lv_iload_n hx hb dX1_changed_14 rfl (lv_at hl 1 rfl) ?_
    refine lv_ishl hx hb dX1_changed_15 ?_
    refine lv_iconst (v := (-1)) hx hb dX1_changed_16 rfl ?_
    refine lv_ixor hx hb dX1_changed_17 ?_
    refine lv_iand hx hb dX1_changed_18 ?_
    exact z_ret hx hb hr hlocks (by simp [c_changed, bi, c_1]) dX1_changed_19
  · refine lv_iload_n hx hb dX1_changed_4 rfl (lv_at hl 0 rfl) ?_
    refine lv_iconst (v := 1) hx hb dX1_changed_5 rfl ?_
    refine lv_iload_n hx hb dX1_changed_6 rfl (lv_at hl 1 rfl) ?_
    refine lv_ishl hx hb dX1_changed_7 ?_
    refine lv_ior hx hb dX1_changed_8 ?_
    refine lv_goto (tgt := 19) hx hb dX1_changed_9 (by decide) ?_
    exact z_ret hx hb hr hlocks (by simp [c_changed, bi, c_1]) dX1_changed_19

set_option maxHeartbeats 4000000 in
set_option maxRecDepth 100000 in
theorem kX1_oneLinkFurther (l : Launch) (D : va_G) (cI cZ : ClassId) (X : Nat → Nat) (S : Nat → Nat → Int32) (O : Nat → Bool) (V : Nat → Int32) (x0 : Int32) : Met l yX1_oneLinkFurther wsX1_oneLinkFurther ({ frames := 1, cells := 0, slots := 0, locals := 21 } : Room) (zR D (tyl cI cZ) (hW cI cZ X S O V) [.ref (X 1), .int x0]) (QcRead (c_oneA S x0 8)) 0 0 (fun _ => False) := by
  refine Met.ofW (cc := cX1_oneLinkFurther) (maxL := 4) (ret := (some .int)) (by decide) rfl ?_
  intro p e s m args below meth c s₁ B hml hv
  obtain ⟨rfl, hP, hK⟩ := hv
  have hx := B.exec
  have hb := B.bytes
  have hr := B.returns
  have hts := atoms_spec (ws := wsX1_oneLinkFurther) B.pre
  have hown : s.vm.findClass RX1 = some m.cls := findClass_of_methodNamed B.named
  have hlocks := B.notSynchronized
  have i1 : ∀ w ∈ u_ws RX1 TX1 4, w ∈ wsX1_oneLinkFurther := by decide +kernel
  have fl_15 := hts (.fieldLink RX1 15 "SignOnHouse$Groups" "homesOfGroup" "[I") (by decide +kernel)
  have hl := lv_entry ([.ref (X 1), .int x0]) (n := 4) (Nat.le_of_ble_eq_true rfl)
  rw [lg_entry_eq]
  generalize (lg_sl ([.ref (X 1), .int x0]) ++ List.replicate (4 - (lg_sl ([.ref (X 1), .int x0])).length) Slot.unset).toArray = ls at hl ⊢
  have hl : lv_has ls 4 [(0, .ref (X 1)), (1, .int x0)] := hl
  refine lv_iload_n hx hb dX1_oneLinkFurther_0 rfl (lv_at hl 1 rfl) ?_
  refine lv_istore_n (lv' := [(2, .int x0), (0, .ref (X 1)), (1, .int x0)]) hx hb dX1_oneLinkFurther_1 rfl hl (by decide) rfl (fun ls hl => ?_)
  refine lv_iconst (v := nI 0) hx hb dX1_oneLinkFurther_2 rfl ?_
  refine lv_istore_n (lv' := [(3, .int (nI 0)), (2, .int x0), (0, .ref (X 1)), (1, .int x0)]) hx hb dX1_oneLinkFurther_3 rfl hl (by decide) rfl (fun ls hl => ?_)
  refine z_loop (N := 8) (nL := 4) (Lc := (fun k => [(3, .int (nI k)), (2, .int (c_oneA S x0 k)), (0, .ref (X 1)), (1, .int x0)])) (lv_sub hl [0, 1, 2, 3] rfl) (fun ls hl => ?_) (fun k ls hk hl ih => ?_)
  · have hl : lv_has ls 4 [(3, .int (nI 8)), (2, .int (c_oneA S x0 8)), (0, .ref (X 1)), (1, .int x0)] := hl
    refine lv_iload_n hx hb dX1_oneLinkFurther_4 rfl (lv_at hl 0 rfl) ?_
    refine lv_bipush (v := nI 8) hx hb dX1_oneLinkFurther_5 (by decide) ?_
    refine z_ge_t (tgt := 33) (nI_le (by omega) (by omega)) hx hb dX1_oneLinkFurther_7 (by decide) ?_
    refine lv_iload_n hx hb dX1_oneLinkFurther_33 rfl (lv_at hl 1 rfl) ?_
    exact z_ret hx hb hr hlocks rfl dX1_oneLinkFurther_34
  · have hl : lv_has ls 4 [(3, .int (nI k)), (2, .int (c_oneA S x0 k)), (0, .ref (X 1)), (1, .int x0)] := hl
    have ih_4 := ih
    refine lv_iload_n hx hb dX1_oneLinkFurther_4 rfl (lv_at hl 0 rfl) ?_
    refine lv_bipush (v := nI 8) hx hb dX1_oneLinkFurther_5 (by decide) ?_
    refine z_ge_f (tgt := 33) (nI_ge (by omega) (by omega)) hx hb dX1_oneLinkFurther_7 (by decide) ?_
    refine lv_iload_n hx hb dX1_oneLinkFurther_10 rfl (lv_at hl 3 rfl) ?_
    refine lv_iload_n hx hb dX1_oneLinkFurther_11 rfl (lv_at hl 0 rfl) ?_
    refine z_callR (W.runS (As := [.int x0, .int (nI k)]) (rest := []) ⟨hx, hb, hml, hown, hts⟩ (kX1_contains l x0 (nI k)) (va_cwS 2 hts gX1_oneLinkFurther_X1_contains rfl rfl rfl (by decide +kernel) ⟨Nat.le_of_ble_eq_true rfl, Nat.le_of_ble_eq_true rfl⟩) zP_pre rfl rfl hl.1 rfl (lv_room (Nat.le_of_ble_eq_true rfl)) dX1_oneLinkFurther_12 ⟨Nat.zero_le _, Nat.zero_le _⟩) ?_
    refine z_if_eq (tgt := 27) hx hb dX1_oneLinkFurther_15 (by decide) (fun c_15 => ?_) (fun c_15 => ?_)
    · refine lv_iinc (v := nI (k + 1)) (lv' := [(3, .int (nI (k + 1))), (2, .int (c_oneA S x0 k)), (0, .ref (X 1)), (1, .int x0)]) hx hb dX1_oneLinkFurther_27 hl (k := 0) rfl (nI_1 _) (by decide) rfl (fun ls hl => ?_)
      refine lv_goto (tgt := 4) hx hb dX1_oneLinkFurther_30 (by decide) ?_
      have e2 : (c_oneA S x0 (k + 1)) = (c_oneA S x0 k) := by simp [c_oneA, bi, c_15]
      exact ih_4 ls (by show lv_has ls 4 [(3, .int (nI (k + 1))), (2, .int (c_oneA S x0 (k + 1))), (0, .ref (X 1)), (1, .int x0)]; rw [e2]; exact lv_sub hl [0, 1, 2, 3] rfl)
    · refine lv_iload_n hx hb dX1_oneLinkFurther_18 rfl (lv_at hl 1 rfl) ?_
      refine lv_aload_n hx hb dX1_oneLinkFurther_19 rfl (lv_at hl 2 rfl) ?_
      refine va_get (D := D) (ci := 1) (v := .ref (X 8)) (C := RX1) (T := TX1) (N := 4) hx hb hts i1 hown hK hP 1 rfl rfl 1 (by decide) fl_15 (fun _ h9 => h9) rfl dX1_oneLinkFurther_20 ?_
      refine lv_iload_n hx hb dX1_oneLinkFurther_23 rfl (lv_at hl 0 rfl) ?_
      refine z_iald (D := D) (j := k) (f := S 8) hx hb hK hP 8 0 rfl rfl (by omega) (by decide) dX1_oneLinkFurther_24 ?_
      refine lv_ior hx hb dX1_oneLinkFurther_25 ?_
      refine lv_istore_n (lv' := [(2, .int ((c_oneA S x0 k) ||| (S 8 k))), (3, .int (nI k)), (0, .ref (X 1)), (1, .int x0)]) hx hb dX1_oneLinkFurther_26 rfl hl (by decide) rfl (fun ls hl => ?_)
      refine lv_iinc (v := nI (k + 1)) (lv' := [(3, .int (nI (k + 1))), (2, .int ((c_oneA S x0 k) ||| (S 8 k))), (0, .ref (X 1)), (1, .int x0)]) hx hb dX1_oneLinkFurther_27 hl (k := 1) rfl (nI_1 _) (by decide) rfl (fun ls hl => ?_)
      refine lv_goto (tgt := 4) hx hb dX1_oneLinkFurther_30 (by decide) ?_
      have e2 : (c_oneA S x0 (k + 1)) = ((c_oneA S x0 k) ||| (S 8 k)) := by simp [c_oneA, bi, c_15]
      exact ih_4 ls (by show lv_has ls 4 [(3, .int (nI (k + 1))), (2, .int (c_oneA S x0 (k + 1))), (0, .ref (X 1)), (1, .int x0)]; rw [e2]; exact lv_sub hl [0, 1, 2, 3] rfl)

set_option maxHeartbeats 4000000 in
set_option maxRecDepth 100000 in
theorem kX1_allAround (l : Launch) (D : va_G) (cI cZ : ClassId) (X : Nat → Nat) (S : Nat → Nat → Int32) (O : Nat → Bool) (V : Nat → Int32) (x0 : Int32) : Met l yX1_allAround wsX1_allAround ({ frames := 2, cells := 0, slots := 0, locals := 44 } : Room) (zR D (tyl cI cZ) (hW cI cZ X S O V) [.ref (X 1), .int x0]) (QcRead (c_allA S x0 8)) 0 0 (fun _ => False) := by
  refine Met.ofW (cc := cX1_allAround) (maxL := 4) (ret := (some .int)) (by decide) rfl ?_
  intro p e s m args below meth c s₁ B hml hv
  obtain ⟨rfl, hP, hK⟩ := hv
  have hx := B.exec
  have hb := B.bytes
  have hr := B.returns
  have hts := atoms_spec (ws := wsX1_allAround) B.pre
  have hown : s.vm.findClass RX1 = some m.cls := findClass_of_methodNamed B.named
  have hlocks := B.notSynchronized
  have hl := lv_entry ([.ref (X 1), .int x0]) (n := 4) (Nat.le_of_ble_eq_true rfl)
  rw [lg_entry_eq]
  generalize (lg_sl ([.ref (X 1), .int x0]) ++ List.replicate (4 - (lg_sl ([.ref (X 1), .int x0])).length) Slot.unset).toArray = ls at hl ⊢
  have hl : lv_has ls 4 [(0, .ref (X 1)), (1, .int x0)] := hl
  refine lv_iload_n hx hb dX1_allAround_0 rfl (lv_at hl 1 rfl) ?_
  refine lv_istore_n (lv' := [(2, .int x0), (0, .ref (X 1)), (1, .int x0)]) hx hb dX1_allAround_1 rfl hl (by decide) rfl (fun ls hl => ?_)
  refine lv_iconst (v := nI 1) hx hb dX1_allAround_2 rfl ?_
  refine lv_istore_n (lv' := [(3, .int (nI 1)), (2, .int x0), (0, .ref (X 1)), (1, .int x0)]) hx hb dX1_allAround_3 rfl hl (by decide) rfl (fun ls hl => ?_)
  refine z_loop (N := 7) (nL := 4) (Lc := (fun k => [(3, .int (nI (k + 1))), (2, .int (c_allA S x0 (k + 1))), (0, .ref (X 1)), (1, .int x0)])) (lv_sub hl [0, 1, 2, 3] rfl) (fun ls hl => ?_) (fun k ls hk hl ih => ?_)
  · have hl : lv_has ls 4 [(3, .int (nI 8)), (2, .int (c_allA S x0 8)), (0, .ref (X 1)), (1, .int x0)] := hl
    refine lv_iload_n hx hb dX1_allAround_4 rfl (lv_at hl 0 rfl) ?_
    refine lv_bipush (v := nI 8) hx hb dX1_allAround_5 (by decide) ?_
    refine z_ge_t (tgt := 22) (nI_le (by omega) (by omega)) hx hb dX1_allAround_7 (by decide) ?_
    refine lv_iload_n hx hb dX1_allAround_22 rfl (lv_at hl 1 rfl) ?_
    exact z_ret hx hb hr hlocks rfl dX1_allAround_23
  · have hl : lv_has ls 4 [(3, .int (nI (k + 1))), (2, .int (c_allA S x0 (k + 1))), (0, .ref (X 1)), (1, .int x0)] := hl
    have ih_4 := ih
    refine lv_iload_n hx hb dX1_allAround_4 rfl (lv_at hl 0 rfl) ?_
    refine lv_bipush (v := nI 8) hx hb dX1_allAround_5 (by decide) ?_
    refine z_ge_f (tgt := 22) (nI_ge (by omega) (by omega)) hx hb dX1_allAround_7 (by decide) ?_
    refine lv_aload_n hx hb dX1_allAround_10 rfl (lv_at hl 2 rfl) ?_
    refine lv_iload_n hx hb dX1_allAround_11 rfl (lv_at hl 1 rfl) ?_
    refine z_callR (W.runV (As := [.int (c_allA S x0 (k + 1))]) (rest := []) ⟨hx, hb, hml, hown, hts⟩ (kX1_oneLinkFurther l D cI cZ X S O V (c_allA S x0 (k + 1))) (cwV 1 hts gX1_allAround_X1_oneLinkFurther rfl rfl rfl (by decide +kernel) ⟨Nat.le_of_ble_eq_true rfl, Nat.le_of_ble_eq_true rfl⟩) (zR_preV 1 1 hK hP rfl rfl) rfl rfl hl.1 rfl (lv_room (Nat.le_of_ble_eq_true rfl)) dX1_allAround_12 ⟨Nat.zero_le _, Nat.zero_le _⟩) ?_
    refine lv_istore_n (lv' := [(2, .int (c_oneA S (c_allA S x0 (k + 1)) 8)), (3, .int (nI (k + 1))), (0, .ref (X 1)), (1, .int x0)]) hx hb dX1_allAround_15 rfl hl (by decide) rfl (fun ls hl => ?_)
    refine lv_iinc (v := nI (k + 1 + 1)) (lv' := [(3, .int (nI (k + 1 + 1))), (2, .int (c_oneA S (c_allA S x0 (k + 1)) 8)), (0, .ref (X 1)), (1, .int x0)]) hx hb dX1_allAround_16 hl (k := 1) rfl (nI_1 _) (by decide) rfl (fun ls hl => ?_)
    refine lv_goto (tgt := 4) hx hb dX1_allAround_19 (by decide) ?_
    have e2 : (c_allA S x0 (k + 1 + 1)) = (c_oneA S (c_allA S x0 (k + 1)) 8) := by rfl
    exact ih_4 ls (by show lv_has ls 4 [(3, .int (nI (k + 1 + 1))), (2, .int (c_allA S x0 (k + 1 + 1))), (0, .ref (X 1)), (1, .int x0)]; rw [e2]; exact lv_sub hl [0, 1, 2, 3] rfl)

set_option maxHeartbeats 4000000 in
set_option maxRecDepth 100000 in
theorem kX1_hasPerson (l : Launch) (D : va_G) (cI cZ : ClassId) (X : Nat → Nat) (S : Nat → Nat → Int32) (O : Nat → Bool) (V : Nat → Int32) (gi : Nat) (pi : Nat) (hgi : gi < 8) (hpi : pi < 10) : Met l yX1_hasPerson wsX1_hasPerson ({ frames := 3, cells := 0, slots := 0, locals := 67 } : Room) (zR D (tyl cI cZ) (hW cI cZ X S O V) [.ref (X 1), .int (nI gi), .int (nI pi)]) (QcRead (bi (hasB (c_allA S (S 7 pi) 8) (nI gi)))) 0 0 (fun _ => False) := by
  refine Met.ofW (cc := cX1_hasPerson) (maxL := 3) (ret := (some .boolean)) (by decide) rfl ?_
  intro p e s m args below meth c s₁ B hml hv
  obtain ⟨rfl, hP, hK⟩ := hv
  have hx := B.exec
  have hb := B.bytes
  have hr := B.returns
  have hts := atoms_spec (ws := wsX1_hasPerson) B.pre
  have hown : s.vm.findClass RX1 = some m.cls := findClass_of_methodNamed B.named
  have hlocks := B.notSynchronized
  have i1 : ∀ w ∈ u_ws RX1 TX1 4, w ∈ wsX1_hasPerson := by decide +kernel
  have fl_9 := hts (.fieldLink RX1 9 "SignOnHouse$Groups" "homesOfPerson" "[I") (by decide +kernel)
  have hl := lv_entry ([.ref (X 1), .int (nI gi), .int (nI pi)]) (n := 3) (Nat.le_of_ble_eq_true rfl)
  rw [lg_entry_eq]
  generalize (lg_sl ([.ref (X 1), .int (nI gi), .int (nI pi)]) ++ List.replicate (3 - (lg_sl ([.ref (X 1), .int (nI gi), .int (nI pi)])).length) Slot.unset).toArray = ls at hl ⊢
  have hl : lv_has ls 3 [(0, .ref (X 1)), (1, .int (nI gi)), (2, .int (nI pi))] := hl
  refine lv_aload_n hx hb dX1_hasPerson_0 rfl (lv_at hl 0 rfl) ?_
  refine lv_aload_n hx hb dX1_hasPerson_1 rfl (lv_at hl 0 rfl) ?_
  refine va_get (D := D) (ci := 1) (v := .ref (X 7)) (C := RX1) (T := TX1) (N := 4) hx hb hts i1 hown hK hP 1 rfl rfl 0 (by decide) fl_9 (fun _ h9 => h9) rfl dX1_hasPerson_2 ?_
  refine lv_iload_n hx hb dX1_hasPerson_5 rfl (lv_at hl 2 rfl) ?_
  refine z_iald (D := D) (j := pi) (f := S 7) hx hb hK hP 7 0 rfl rfl (by omega) (by decide) dX1_hasPerson_6 ?_
  refine z_callR (W.runV (As := [.int (S 7 pi)]) (rest := []) ⟨hx, hb, hml, hown, hts⟩ (kX1_allAround l D cI cZ X S O V (S 7 pi)) (cwV 1 hts gX1_hasPerson_X1_allAround rfl rfl rfl (by decide +kernel) ⟨Nat.le_of_ble_eq_true rfl, Nat.le_of_ble_eq_true rfl⟩) (zR_preV 1 1 hK hP rfl rfl) rfl rfl hl.1 rfl (lv_room (Nat.le_of_ble_eq_true rfl)) dX1_hasPerson_7 ⟨Nat.zero_le _, Nat.zero_le _⟩) ?_
  refine lv_iload_n hx hb dX1_hasPerson_10 rfl (lv_at hl 1 rfl) ?_
  refine z_callR (W.runS (As := [.int (c_allA S (S 7 pi) 8), .int (nI gi)]) (rest := []) ⟨hx, hb, hml, hown, hts⟩ (kX1_contains l (c_allA S (S 7 pi) 8) (nI gi)) (va_cwS 2 hts gX1_hasPerson_X1_contains rfl rfl rfl (by decide +kernel) ⟨Nat.le_of_ble_eq_true rfl, Nat.le_of_ble_eq_true rfl⟩) zP_pre rfl rfl hl.1 rfl (lv_room (Nat.le_of_ble_eq_true rfl)) dX1_hasPerson_11 ⟨Nat.zero_le _, Nat.zero_le _⟩) ?_
  exact z_zret hx hb hr hlocks rfl dX1_hasPerson_14

set_option maxHeartbeats 4000000 in
set_option maxRecDepth 100000 in
theorem kX1_isAround (l : Launch) (D : va_G) (cI cZ : ClassId) (X : Nat → Nat) (S : Nat → Nat → Int32) (O : Nat → Bool) (V : Nat → Int32) (oi : Nat) (gi : Nat) (hoi : oi < 8) (hgi : gi < 8) : Met l yX1_isAround wsX1_isAround ({ frames := 3, cells := 0, slots := 0, locals := 67 } : Room) (zR D (tyl cI cZ) (hW cI cZ X S O V) [.ref (X 1), .int (nI oi), .int (nI gi)]) (QcRead (bi (hasB (c_allA S (S 8 gi) 8) (nI oi)))) 0 0 (fun _ => False) := by
  refine Met.ofW (cc := cX1_isAround) (maxL := 3) (ret := (some .boolean)) (by decide) rfl ?_
  intro p e s m args below meth c s₁ B hml hv
  obtain ⟨rfl, hP, hK⟩ := hv
  have hx := B.exec
  have hb := B.bytes
  have hr := B.returns
  have hts := atoms_spec (ws := wsX1_isAround) B.pre
  have hown : s.vm.findClass RX1 = some m.cls := findClass_of_methodNamed B.named
  have hlocks := B.notSynchronized
  have i1 : ∀ w ∈ u_ws RX1 TX1 4, w ∈ wsX1_isAround := by decide +kernel
  have fl_15 := hts (.fieldLink RX1 15 "SignOnHouse$Groups" "homesOfGroup" "[I") (by decide +kernel)
  have hl := lv_entry ([.ref (X 1), .int (nI oi), .int (nI gi)]) (n := 3) (Nat.le_of_ble_eq_true rfl)
  rw [lg_entry_eq]
  generalize (lg_sl ([.ref (X 1), .int (nI oi), .int (nI gi)]) ++ List.replicate (3 - (lg_sl ([.ref (X 1), .int (nI oi), .int (nI gi)])).length) Slot.unset).toArray = ls at hl ⊢
  have hl : lv_has ls 3 [(0, .ref (X 1)), (1, .int (nI oi)), (2, .int (nI gi))] := hl
  refine lv_aload_n hx hb dX1_isAround_0 rfl (lv_at hl 0 rfl) ?_
  refine lv_aload_n hx hb dX1_isAround_1 rfl (lv_at hl 0 rfl) ?_
  refine va_get (D := D) (ci := 1) (v := .ref (X 8)) (C := RX1) (T := TX1) (N := 4) hx hb hts i1 hown hK hP 1 rfl rfl 1 (by decide) fl_15 (fun _ h9 => h9) rfl dX1_isAround_2 ?_
  refine lv_iload_n hx hb dX1_isAround_5 rfl (lv_at hl 2 rfl) ?_
  refine z_iald (D := D) (j := gi) (f := S 8) hx hb hK hP 8 0 rfl rfl (by omega) (by decide) dX1_isAround_6 ?_
  refine z_callR (W.runV (As := [.int (S 8 gi)]) (rest := []) ⟨hx, hb, hml, hown, hts⟩ (kX1_allAround l D cI cZ X S O V (S 8 gi)) (cwV 1 hts gX1_isAround_X1_allAround rfl rfl rfl (by decide +kernel) ⟨Nat.le_of_ble_eq_true rfl, Nat.le_of_ble_eq_true rfl⟩) (zR_preV 1 1 hK hP rfl rfl) rfl rfl hl.1 rfl (lv_room (Nat.le_of_ble_eq_true rfl)) dX1_isAround_7 ⟨Nat.zero_le _, Nat.zero_le _⟩) ?_
  refine lv_iload_n hx hb dX1_isAround_10 rfl (lv_at hl 1 rfl) ?_
  refine z_callR (W.runS (As := [.int (c_allA S (S 8 gi) 8), .int (nI oi)]) (rest := []) ⟨hx, hb, hml, hown, hts⟩ (kX1_contains l (c_allA S (S 8 gi) 8) (nI oi)) (va_cwS 2 hts gX1_isAround_X1_contains rfl rfl rfl (by decide +kernel) ⟨Nat.le_of_ble_eq_true rfl, Nat.le_of_ble_eq_true rfl⟩) zP_pre rfl rfl hl.1 rfl (lv_room (Nat.le_of_ble_eq_true rfl)) dX1_isAround_11 ⟨Nat.zero_le _, Nat.zero_le _⟩) ?_
  exact z_zret hx hb hr hlocks rfl dX1_isAround_14

set_option maxHeartbeats 4000000 in
set_option maxRecDepth 100000 in
theorem kX1_anyGrants (l : Launch) (D : va_G) (cI cZ : ClassId) (X : Nat → Nat) (S : Nat → Nat → Int32) (O : Nat → Bool) (V : Nat → Int32) (pi : Nat) (ri : Nat) (hpi : pi < 10) (hri : ri < 6) : Met l yX1_anyGrants wsX1_anyGrants ({ frames := 3, cells := 0, slots := 0, locals := 67 } : Room) (zR D (tyl cI cZ) (hW cI cZ X S O V) [.ref (X 1), .int (nI pi), .int (nI ri)]) (QcRead (bi (c_any S 9 pi ri))) 0 0 (fun _ => False) := by
  refine Met.ofW (cc := cX1_anyGrants) (maxL := 3) (ret := (some .boolean)) (by decide) rfl ?_
  intro p e s m args below meth c s₁ B hml hv
  obtain ⟨rfl, hP, hK⟩ := hv
  have hx := B.exec
  have hb := B.bytes
  have hr := B.returns
  have hts := atoms_spec (ws := wsX1_anyGrants) B.pre
  have hown : s.vm.findClass RX1 = some m.cls := findClass_of_methodNamed B.named
  have hlocks := B.notSynchronized
  have i1 : ∀ w ∈ u_ws RX1 TX1 4, w ∈ wsX1_anyGrants := by decide +kernel
  have fl_9 := hts (.fieldLink RX1 9 "SignOnHouse$Groups" "homesOfPerson" "[I") (by decide +kernel)
  have fl_18 := hts (.fieldLink RX1 18 "SignOnHouse$Groups" "grantedOfRole" "[I") (by decide +kernel)
  have hl := lv_entry ([.ref (X 1), .int (nI pi), .int (nI ri)]) (n := 3) (Nat.le_of_ble_eq_true rfl)
  rw [lg_entry_eq]
  generalize (lg_sl ([.ref (X 1), .int (nI pi), .int (nI ri)]) ++ List.replicate (3 - (lg_sl ([.ref (X 1), .int (nI pi), .int (nI ri)])).length) Slot.unset).toArray = ls at hl ⊢
  have hl : lv_has ls 3 [(0, .ref (X 1)), (1, .int (nI pi)), (2, .int (nI ri))] := hl
  refine lv_aload_n hx hb dX1_anyGrants_0 rfl (lv_at hl 0 rfl) ?_
  refine lv_aload_n hx hb dX1_anyGrants_1 rfl (lv_at hl 0 rfl) ?_
  refine va_get (D := D) (ci := 1) (v := .ref (X 7)) (C := RX1) (T := TX1) (N := 4) hx hb hts i1 hown hK hP 1 rfl rfl 0 (by decide) fl_9 (fun _ h9 => h9) rfl dX1_anyGrants_2 ?_
  refine lv_iload_n hx hb dX1_anyGrants_5 rfl (lv_at hl 1 rfl) ?_
  refine z_iald (D := D) (j := pi) (f := S 7) hx hb hK hP 7 0 rfl rfl (by omega) (by decide) dX1_anyGrants_6 ?_
  refine z_callR (W.runV (As := [.int (S 7 pi)]) (rest := []) ⟨hx, hb, hml, hown, hts⟩ (kX1_allAround l D cI cZ X S O V (S 7 pi)) (cwV 1 hts gX1_anyGrants_X1_allAround rfl rfl rfl (by decide +kernel) ⟨Nat.le_of_ble_eq_true rfl, Nat.le_of_ble_eq_true rfl⟩) (zR_preV 1 1 hK hP rfl rfl) rfl rfl hl.1 rfl (lv_room (Nat.le_of_ble_eq_true rfl)) dX1_anyGrants_7 ⟨Nat.zero_le _, Nat.zero_le _⟩) ?_
  refine lv_aload_n hx hb dX1_anyGrants_10 rfl (lv_at hl 0 rfl) ?_
  refine va_get (D := D) (ci := 1) (v := .ref (X 9)) (C := RX1) (T := TX1) (N := 4) hx hb hts i1 hown hK hP 1 rfl rfl 2 (by decide) fl_18 (fun _ h9 => h9) rfl dX1_anyGrants_11 ?_
  refine lv_iload_n hx hb dX1_anyGrants_14 rfl (lv_at hl 2 rfl) ?_
  refine z_iald (D := D) (j := ri) (f := S 9) hx hb hK hP 9 0 rfl rfl (by omega) (by decide) dX1_anyGrants_15 ?_
  refine lv_iand hx hb dX1_anyGrants_16 ?_
  refine z_sel_if_eq hx hb dX1_anyGrants_17 dX1_anyGrants_20 dX1_anyGrants_21 dX1_anyGrants_24 ?_
  exact z_zret hx hb hr hlocks (by rfl) dX1_anyGrants_25

set_option maxHeartbeats 4000000 in
set_option maxRecDepth 100000 in
theorem kX1_anyDenies (l : Launch) (D : va_G) (cI cZ : ClassId) (X : Nat → Nat) (S : Nat → Nat → Int32) (O : Nat → Bool) (V : Nat → Int32) (pi : Nat) (ri : Nat) (hpi : pi < 10) (hri : ri < 6) : Met l yX1_anyDenies wsX1_anyDenies ({ frames := 3, cells := 0, slots := 0, locals := 67 } : Room) (zR D (tyl cI cZ) (hW cI cZ X S O V) [.ref (X 1), .int (nI pi), .int (nI ri)]) (QcRead (bi (c_any S 10 pi ri))) 0 0 (fun _ => False) := by
  refine Met.ofW (cc := cX1_anyDenies) (maxL := 3) (ret := (some .boolean)) (by decide) rfl ?_
  intro p e s m args below meth c s₁ B hml hv
  obtain ⟨rfl, hP, hK⟩ := hv
  have hx := B.exec
  have hb := B.bytes
  have hr := B.returns
  have hts := atoms_spec (ws := wsX1_anyDenies) B.pre
  have hown : s.vm.findClass RX1 = some m.cls := findClass_of_methodNamed B.named
  have hlocks := B.notSynchronized
  have i1 : ∀ w ∈ u_ws RX1 TX1 4, w ∈ wsX1_anyDenies := by decide +kernel
  have fl_9 := hts (.fieldLink RX1 9 "SignOnHouse$Groups" "homesOfPerson" "[I") (by decide +kernel)
  have fl_21 := hts (.fieldLink RX1 21 "SignOnHouse$Groups" "deniedOfRole" "[I") (by decide +kernel)
  have hl := lv_entry ([.ref (X 1), .int (nI pi), .int (nI ri)]) (n := 3) (Nat.le_of_ble_eq_true rfl)
  rw [lg_entry_eq]
  generalize (lg_sl ([.ref (X 1), .int (nI pi), .int (nI ri)]) ++ List.replicate (3 - (lg_sl ([.ref (X 1), .int (nI pi), .int (nI ri)])).length) Slot.unset).toArray = ls at hl ⊢
  have hl : lv_has ls 3 [(0, .ref (X 1)), (1, .int (nI pi)), (2, .int (nI ri))] := hl
  refine lv_aload_n hx hb dX1_anyDenies_0 rfl (lv_at hl 0 rfl) ?_
  refine lv_aload_n hx hb dX1_anyDenies_1 rfl (lv_at hl 0 rfl) ?_
  refine va_get (D := D) (ci := 1) (v := .ref (X 7)) (C := RX1) (T := TX1) (N := 4) hx hb hts i1 hown hK hP 1 rfl rfl 0 (by decide) fl_9 (fun _ h9 => h9) rfl dX1_anyDenies_2 ?_
  refine lv_iload_n hx hb dX1_anyDenies_5 rfl (lv_at hl 1 rfl) ?_
  refine z_iald (D := D) (j := pi) (f := S 7) hx hb hK hP 7 0 rfl rfl (by omega) (by decide) dX1_anyDenies_6 ?_
  refine z_callR (W.runV (As := [.int (S 7 pi)]) (rest := []) ⟨hx, hb, hml, hown, hts⟩ (kX1_allAround l D cI cZ X S O V (S 7 pi)) (cwV 1 hts gX1_anyDenies_X1_allAround rfl rfl rfl (by decide +kernel) ⟨Nat.le_of_ble_eq_true rfl, Nat.le_of_ble_eq_true rfl⟩) (zR_preV 1 1 hK hP rfl rfl) rfl rfl hl.1 rfl (lv_room (Nat.le_of_ble_eq_true rfl)) dX1_anyDenies_7 ⟨Nat.zero_le _, Nat.zero_le _⟩) ?_
  refine lv_aload_n hx hb dX1_anyDenies_10 rfl (lv_at hl 0 rfl) ?_
  refine va_get (D := D) (ci := 1) (v := .ref (X 10)) (C := RX1) (T := TX1) (N := 4) hx hb hts i1 hown hK hP 1 rfl rfl 3 (by decide) fl_21 (fun _ h9 => h9) rfl dX1_anyDenies_11 ?_
  refine lv_iload_n hx hb dX1_anyDenies_14 rfl (lv_at hl 2 rfl) ?_
  refine z_iald (D := D) (j := ri) (f := S 10) hx hb hK hP 10 0 rfl rfl (by omega) (by decide) dX1_anyDenies_15 ?_
  refine lv_iand hx hb dX1_anyDenies_16 ?_
  refine z_sel_if_eq hx hb dX1_anyDenies_17 dX1_anyDenies_20 dX1_anyDenies_21 dX1_anyDenies_24 ?_
  exact z_zret hx hb hr hlocks (by rfl) dX1_anyDenies_25

set_option maxHeartbeats 4000000 in
set_option maxRecDepth 100000 in
theorem kX1_roleOf (l : Launch) (D : va_G) (cI cZ : ClassId) (X : Nat → Nat) (S : Nat → Nat → Int32) (O : Nat → Bool) (V : Nat → Int32) (gi : Nat) (ri : Nat) (hgi : gi < 8) (hri : ri < 6) : Met l yX1_roleOf wsX1_roleOf ({ frames := 1, cells := 0, slots := 0, locals := 21 } : Room) (zR D (tyl cI cZ) (hW cI cZ X S O V) [.ref (X 1), .int (nI gi), .int (nI ri)]) (QcRead (c_roleOf S gi ri)) 0 0 (fun _ => False) := by
  refine Met.ofW (cc := cX1_roleOf) (maxL := 3) (ret := (some .int)) (by decide) rfl ?_
  intro p e s m args below meth c s₁ B hml hv
  obtain ⟨rfl, hP, hK⟩ := hv
  have hx := B.exec
  have hb := B.bytes
  have hr := B.returns
  have hts := atoms_spec (ws := wsX1_roleOf) B.pre
  have hown : s.vm.findClass RX1 = some m.cls := findClass_of_methodNamed B.named
  have hlocks := B.notSynchronized
  have i1 : ∀ w ∈ u_ws RX1 TX1 4, w ∈ wsX1_roleOf := by decide +kernel
  have fl_18 := hts (.fieldLink RX1 18 "SignOnHouse$Groups" "grantedOfRole" "[I") (by decide +kernel)
  have fl_21 := hts (.fieldLink RX1 21 "SignOnHouse$Groups" "deniedOfRole" "[I") (by decide +kernel)
  have hl := lv_entry ([.ref (X 1), .int (nI gi), .int (nI ri)]) (n := 3) (Nat.le_of_ble_eq_true rfl)
  rw [lg_entry_eq]
  generalize (lg_sl ([.ref (X 1), .int (nI gi), .int (nI ri)]) ++ List.replicate (3 - (lg_sl ([.ref (X 1), .int (nI gi), .int (nI ri)])).length) Slot.unset).toArray = ls at hl ⊢
  have hl : lv_has ls 3 [(0, .ref (X 1)), (1, .int (nI gi)), (2, .int (nI ri))] := hl
  refine lv_aload_n hx hb dX1_roleOf_0 rfl (lv_at hl 0 rfl) ?_
  refine va_get (D := D) (ci := 1) (v := .ref (X 9)) (C := RX1) (T := TX1) (N := 4) hx hb hts i1 hown hK hP 1 rfl rfl 2 (by decide) fl_18 (fun _ h9 => h9) rfl dX1_roleOf_1 ?_
  refine lv_iload_n hx hb dX1_roleOf_4 rfl (lv_at hl 2 rfl) ?_
  refine z_iald (D := D) (j := ri) (f := S 9) hx hb hK hP 9 0 rfl rfl (by omega) (by decide) dX1_roleOf_5 ?_
  refine lv_iload_n hx hb dX1_roleOf_6 rfl (lv_at hl 1 rfl) ?_
  refine z_callR (W.runS (As := [.int (S 9 ri), .int (nI gi)]) (rest := []) ⟨hx, hb, hml, hown, hts⟩ (kX1_contains l (S 9 ri) (nI gi)) (va_cwS 2 hts gX1_roleOf_X1_contains rfl rfl rfl (by decide +kernel) ⟨Nat.le_of_ble_eq_true rfl, Nat.le_of_ble_eq_true rfl⟩) zP_pre rfl rfl hl.1 rfl (lv_room (Nat.le_of_ble_eq_true rfl)) dX1_roleOf_7 ⟨Nat.zero_le _, Nat.zero_le _⟩) ?_
  refine z_if_eq (tgt := 15) hx hb dX1_roleOf_10 (by decide) (fun c_10 => ?_) (fun c_10 => ?_)
  · refine lv_aload_n hx hb dX1_roleOf_15 rfl (lv_at hl 0 rfl) ?_
    refine va_get (D := D) (ci := 1) (v := .ref (X 10)) (C := RX1) (T := TX1) (N := 4) hx hb hts i1 hown hK hP 1 rfl rfl 3 (by decide) fl_21 (fun _ h9 => h9) rfl dX1_roleOf_16 ?_
    refine lv_iload_n hx hb dX1_roleOf_19 rfl (lv_at hl 2 rfl) ?_
    refine z_iald (D := D) (j := ri) (f := S 10) hx hb hK hP 10 0 rfl rfl (by omega) (by decide) dX1_roleOf_20 ?_
    refine lv_iload_n hx hb dX1_roleOf_21 rfl (lv_at hl 1 rfl) ?_
    refine z_callR (W.runS (As := [.int (S 10 ri), .int (nI gi)]) (rest := []) ⟨hx, hb, hml, hown, hts⟩ (kX1_contains l (S 10 ri) (nI gi)) (va_cwS 2 hts gX1_roleOf_X1_contains rfl rfl rfl (by decide +kernel) ⟨Nat.le_of_ble_eq_true rfl, Nat.le_of_ble_eq_true rfl⟩) zP_pre rfl rfl hl.1 rfl (lv_room (Nat.le_of_ble_eq_true rfl)) dX1_roleOf_22 ⟨Nat.zero_le _, Nat.zero_le _⟩) ?_
    refine z_if_eq (tgt := 32) hx hb dX1_roleOf_25 (by decide) (fun c_25 => ?_) (fun c_25 => ?_)
    · refine lv_iconst (v := 0) hx hb dX1_roleOf_32 rfl ?_
      exact z_ret hx hb hr hlocks (by simp [c_roleOf, bi, c_10, c_25]) dX1_roleOf_33
    · refine lv_iconst (v := 2) hx hb dX1_roleOf_28 rfl ?_
      refine lv_goto (tgt := 33) hx hb dX1_roleOf_29 (by decide) ?_
      exact z_ret hx hb hr hlocks (by simp [c_roleOf, bi, c_10, c_25]) dX1_roleOf_33
  · refine lv_iconst (v := 1) hx hb dX1_roleOf_13 rfl ?_
    exact z_ret hx hb hr hlocks (by simp [c_roleOf, bi, c_10]) dX1_roleOf_14

set_option maxHeartbeats 4000000 in
set_option maxRecDepth 100000 in
theorem kX1_placePerson (l : Launch) (D : va_G) (cI cZ : ClassId) (X : Nat → Nat) (S : Nat → Nat → Int32) (O : Nat → Bool) (V : Nat → Int32) (sz : Nat) (gi : Nat) (pi : Nat) (b0 : Bool) (hgi : gi < 8) (hpi : pi < 10) : Met l yX1_placePerson wsX1_placePerson ({ frames := 1, cells := 0, slots := 0, locals := 22 } : Room) (zW D (tyl cI cZ) (hW cI cZ X S O V) sz [.ref (X 1), .int (nI gi), .int (nI pi), .int (bi b0)]) (zQi D (tyl cI cZ) (hW cI cZ X (va_up S 7 (upd (S 7) pi (c_changed (S 7 pi) (nI gi) b0))) O V) (bi (hasB (S 7 pi) (nI gi))) (va_A (hW cI cZ X S O V) sz)) 0 0 (va_A (hW cI cZ X S O V) sz) := by
  refine Met.ofW (cc := cX1_placePerson) (maxL := 5) (ret := (some .boolean)) (by decide) rfl ?_
  intro p e s m args below meth c s₁ B hml hv
  obtain ⟨rfl, hsz, hP, hK, hD0⟩ := hv
  have hx := B.exec
  have hb := B.bytes
  have hr := B.returns
  have hts := atoms_spec (ws := wsX1_placePerson) B.pre
  have hown : s.vm.findClass RX1 = some m.cls := findClass_of_methodNamed B.named
  have hlocks := B.notSynchronized
  subst hsz
  have hD := hD0.self (sz := s.heap.size)
  generalize hAe : va_A (hW cI cZ X S O V) s.heap.size = A at hD ⊢
  have hA : ∀ q : Nat, s.heap.size ≤ q → A q := fun q h => by rw [← hAe]; exact Or.inr h
  have hS : va_S A s.heap s.heap [] := va_S.rf
  have i1 : ∀ w ∈ u_ws RX1 TX1 4, w ∈ wsX1_placePerson := by decide +kernel
  have fl_9 := hts (.fieldLink RX1 9 "SignOnHouse$Groups" "homesOfPerson" "[I") (by decide +kernel)
  have hl := lv_entry ([.ref (X 1), .int (nI gi), .int (nI pi), .int (bi b0)]) (n := 5) (Nat.le_of_ble_eq_true rfl)
  rw [lg_entry_eq]
  generalize (lg_sl ([.ref (X 1), .int (nI gi), .int (nI pi), .int (bi b0)]) ++ List.replicate (5 - (lg_sl ([.ref (X 1), .int (nI gi), .int (nI pi), .int (bi b0)])).length) Slot.unset).toArray = ls at hl ⊢
  have hl : lv_has ls 5 [(0, .ref (X 1)), (1, .int (nI gi)), (2, .int (nI pi)), (3, .int (bi b0))] := hl
  refine lv_aload_n hx hb dX1_placePerson_0 rfl (lv_at hl 0 rfl) ?_
  refine va_get (D := D) (ci := 1) (v := .ref (X 7)) (C := RX1) (T := TX1) (N := 4) hx hb hts i1 hown hK hP 1 rfl rfl 0 (by decide) fl_9 (fun _ h9 => h9) rfl dX1_placePerson_1 ?_
  refine lv_iload_n hx hb dX1_placePerson_4 rfl (lv_at hl 2 rfl) ?_
  refine z_iald (D := D) (j := pi) (f := S 7) hx hb hK hP 7 0 rfl rfl (by omega) (by decide) dX1_placePerson_5 ?_
  refine lv_iload_n hx hb dX1_placePerson_6 rfl (lv_at hl 1 rfl) ?_
  refine z_callR (W.runS (As := [.int (S 7 pi), .int (nI gi)]) (rest := []) ⟨hx, hb, hml, hown, hts⟩ (kX1_contains l (S 7 pi) (nI gi)) (va_cwS 2 hts gX1_placePerson_X1_contains rfl rfl rfl (by decide +kernel) ⟨Nat.le_of_ble_eq_true rfl, Nat.le_of_ble_eq_true rfl⟩) zP_pre rfl rfl hl.1 rfl (lv_room (Nat.le_of_ble_eq_true rfl)) dX1_placePerson_7 ⟨Nat.zero_le _, Nat.zero_le _⟩) ?_
  refine lv_istore (lv' := [(4, .int (bi (hasB (S 7 pi) (nI gi)))), (0, .ref (X 1)), (1, .int (nI gi)), (2, .int (nI pi)), (3, .int (bi b0))]) hx hb dX1_placePerson_10 hl (by decide) rfl (fun ls hl => ?_)
  refine lv_aload_n hx hb dX1_placePerson_12 rfl (lv_at hl 1 rfl) ?_
  refine va_get (D := D) (ci := 1) (v := .ref (X 7)) (C := RX1) (T := TX1) (N := 4) hx hb hts i1 hown hK hP 1 rfl rfl 0 (by decide) fl_9 (fun _ h9 => h9) rfl dX1_placePerson_13 ?_
  refine lv_iload_n hx hb dX1_placePerson_16 rfl (lv_at hl 3 rfl) ?_
  refine lv_aload_n hx hb dX1_placePerson_17 rfl (lv_at hl 1 rfl) ?_
  refine va_get (D := D) (ci := 1) (v := .ref (X 7)) (C := RX1) (T := TX1) (N := 4) hx hb hts i1 hown hK hP 1 rfl rfl 0 (by decide) fl_9 (fun _ h9 => h9) rfl dX1_placePerson_18 ?_
  refine lv_iload_n hx hb dX1_placePerson_21 rfl (lv_at hl 3 rfl) ?_
  refine z_iald (D := D) (j := pi) (f := S 7) hx hb hK hP 7 0 rfl rfl (by omega) (by decide) dX1_placePerson_22 ?_
  refine lv_iload_n hx hb dX1_placePerson_23 rfl (lv_at hl 2 rfl) ?_
  refine lv_iload_n hx hb dX1_placePerson_24 rfl (lv_at hl 4 rfl) ?_
  refine z_callR (W.runS (As := [.int (S 7 pi), .int (nI gi), .int (bi b0)]) (rest := [.int (nI pi), .ref (X 7)]) ⟨hx, hb, hml, hown, hts⟩ (kX1_changed l (S 7 pi) (nI gi) b0) (va_cwS 3 hts gX1_placePerson_X1_changed rfl rfl rfl (by decide +kernel) ⟨Nat.le_of_ble_eq_true rfl, Nat.le_of_ble_eq_true rfl⟩) zP_pre rfl rfl hl.1 rfl (lv_room (Nat.le_of_ble_eq_true rfl)) dX1_placePerson_25 ⟨Nat.zero_le _, Nat.zero_le _⟩) ?_
  refine z_iast (D := D) (j := pi) (f := S 7) hx hb hK hP hD hS 7 0 rfl rfl (by omega) (by decide) dX1_placePerson_28 (fun H locs hP hD hS => ?_)
  have hP : va_P D vwCl (hW cI cZ X (va_up S 7 (upd (S 7) pi (c_changed (S 7 pi) (nI gi) b0))) O V) H := hP
  have hD : va_D A (hW cI cZ X (va_up S 7 (upd (S 7) pi (c_changed (S 7 pi) (nI gi) b0))) O V) := hD
  refine lv_iload hx hb dX1_placePerson_29 (lv_at hl 0 rfl) ?_
  exact z_wzret hx hb hr hlocks hP hK hD hS rfl dX1_placePerson_31

set_option maxHeartbeats 4000000 in
set_option maxRecDepth 100000 in
theorem kX1_placeGroup (l : Launch) (D : va_G) (cI cZ : ClassId) (X : Nat → Nat) (S : Nat → Nat → Int32) (O : Nat → Bool) (V : Nat → Int32) (sz : Nat) (gi : Nat) (ii : Nat) (b0 : Bool) (hgi : gi < 8) (hii : ii < 8) : Met l yX1_placeGroup wsX1_placeGroup ({ frames := 1, cells := 0, slots := 0, locals := 22 } : Room) (zW D (tyl cI cZ) (hW cI cZ X S O V) sz [.ref (X 1), .int (nI gi), .int (nI ii), .int (bi b0)]) (zQi D (tyl cI cZ) (hW cI cZ X (va_up S 8 (upd (S 8) ii (c_changed (S 8 ii) (nI gi) b0))) O V) (bi (hasB (S 8 ii) (nI gi))) (va_A (hW cI cZ X S O V) sz)) 0 0 (va_A (hW cI cZ X S O V) sz) := by
  refine Met.ofW (cc := cX1_placeGroup) (maxL := 5) (ret := (some .boolean)) (by decide) rfl ?_
  intro p e s m args below meth c s₁ B hml hv
  obtain ⟨rfl, hsz, hP, hK, hD0⟩ := hv
  have hx := B.exec
  have hb := B.bytes
  have hr := B.returns
  have hts := atoms_spec (ws := wsX1_placeGroup) B.pre
  have hown : s.vm.findClass RX1 = some m.cls := findClass_of_methodNamed B.named
  have hlocks := B.notSynchronized
  subst hsz
  have hD := hD0.self (sz := s.heap.size)
  generalize hAe : va_A (hW cI cZ X S O V) s.heap.size = A at hD ⊢
  have hA : ∀ q : Nat, s.heap.size ≤ q → A q := fun q h => by rw [← hAe]; exact Or.inr h
  have hS : va_S A s.heap s.heap [] := va_S.rf
  have i1 : ∀ w ∈ u_ws RX1 TX1 4, w ∈ wsX1_placeGroup := by decide +kernel
  have fl_15 := hts (.fieldLink RX1 15 "SignOnHouse$Groups" "homesOfGroup" "[I") (by decide +kernel)
  have hl := lv_entry ([.ref (X 1), .int (nI gi), .int (nI ii), .int (bi b0)]) (n := 5) (Nat.le_of_ble_eq_true rfl)
  rw [lg_entry_eq]
  generalize (lg_sl ([.ref (X 1), .int (nI gi), .int (nI ii), .int (bi b0)]) ++ List.replicate (5 - (lg_sl ([.ref (X 1), .int (nI gi), .int (nI ii), .int (bi b0)])).length) Slot.unset).toArray = ls at hl ⊢
  have hl : lv_has ls 5 [(0, .ref (X 1)), (1, .int (nI gi)), (2, .int (nI ii)), (3, .int (bi b0))] := hl
  refine lv_aload_n hx hb dX1_placeGroup_0 rfl (lv_at hl 0 rfl) ?_
  refine va_get (D := D) (ci := 1) (v := .ref (X 8)) (C := RX1) (T := TX1) (N := 4) hx hb hts i1 hown hK hP 1 rfl rfl 1 (by decide) fl_15 (fun _ h9 => h9) rfl dX1_placeGroup_1 ?_
  refine lv_iload_n hx hb dX1_placeGroup_4 rfl (lv_at hl 2 rfl) ?_
  refine z_iald (D := D) (j := ii) (f := S 8) hx hb hK hP 8 0 rfl rfl (by omega) (by decide) dX1_placeGroup_5 ?_
  refine lv_iload_n hx hb dX1_placeGroup_6 rfl (lv_at hl 1 rfl) ?_
  refine z_callR (W.runS (As := [.int (S 8 ii), .int (nI gi)]) (rest := []) ⟨hx, hb, hml, hown, hts⟩ (kX1_contains l (S 8 ii) (nI gi)) (va_cwS 2 hts gX1_placeGroup_X1_contains rfl rfl rfl (by decide +kernel) ⟨Nat.le_of_ble_eq_true rfl, Nat.le_of_ble_eq_true rfl⟩) zP_pre rfl rfl hl.1 rfl (lv_room (Nat.le_of_ble_eq_true rfl)) dX1_placeGroup_7 ⟨Nat.zero_le _, Nat.zero_le _⟩) ?_
  refine lv_istore (lv' := [(4, .int (bi (hasB (S 8 ii) (nI gi)))), (0, .ref (X 1)), (1, .int (nI gi)), (2, .int (nI ii)), (3, .int (bi b0))]) hx hb dX1_placeGroup_10 hl (by decide) rfl (fun ls hl => ?_)
  refine lv_aload_n hx hb dX1_placeGroup_12 rfl (lv_at hl 1 rfl) ?_
  refine va_get (D := D) (ci := 1) (v := .ref (X 8)) (C := RX1) (T := TX1) (N := 4) hx hb hts i1 hown hK hP 1 rfl rfl 1 (by decide) fl_15 (fun _ h9 => h9) rfl dX1_placeGroup_13 ?_
  refine lv_iload_n hx hb dX1_placeGroup_16 rfl (lv_at hl 3 rfl) ?_
  refine lv_aload_n hx hb dX1_placeGroup_17 rfl (lv_at hl 1 rfl) ?_
  refine va_get (D := D) (ci := 1) (v := .ref (X 8)) (C := RX1) (T := TX1) (N := 4) hx hb hts i1 hown hK hP 1 rfl rfl 1 (by decide) fl_15 (fun _ h9 => h9) rfl dX1_placeGroup_18 ?_
  refine lv_iload_n hx hb dX1_placeGroup_21 rfl (lv_at hl 3 rfl) ?_
  refine z_iald (D := D) (j := ii) (f := S 8) hx hb hK hP 8 0 rfl rfl (by omega) (by decide) dX1_placeGroup_22 ?_
  refine lv_iload_n hx hb dX1_placeGroup_23 rfl (lv_at hl 2 rfl) ?_
  refine lv_iload_n hx hb dX1_placeGroup_24 rfl (lv_at hl 4 rfl) ?_
  refine z_callR (W.runS (As := [.int (S 8 ii), .int (nI gi), .int (bi b0)]) (rest := [.int (nI ii), .ref (X 8)]) ⟨hx, hb, hml, hown, hts⟩ (kX1_changed l (S 8 ii) (nI gi) b0) (va_cwS 3 hts gX1_placeGroup_X1_changed rfl rfl rfl (by decide +kernel) ⟨Nat.le_of_ble_eq_true rfl, Nat.le_of_ble_eq_true rfl⟩) zP_pre rfl rfl hl.1 rfl (lv_room (Nat.le_of_ble_eq_true rfl)) dX1_placeGroup_25 ⟨Nat.zero_le _, Nat.zero_le _⟩) ?_
  refine z_iast (D := D) (j := ii) (f := S 8) hx hb hK hP hD hS 8 0 rfl rfl (by omega) (by decide) dX1_placeGroup_28 (fun H locs hP hD hS => ?_)
  have hP : va_P D vwCl (hW cI cZ X (va_up S 8 (upd (S 8) ii (c_changed (S 8 ii) (nI gi) b0))) O V) H := hP
  have hD : va_D A (hW cI cZ X (va_up S 8 (upd (S 8) ii (c_changed (S 8 ii) (nI gi) b0))) O V) := hD
  refine lv_iload hx hb dX1_placeGroup_29 (lv_at hl 0 rfl) ?_
  exact z_wzret hx hb hr hlocks hP hK hD hS rfl dX1_placeGroup_31

set_option maxHeartbeats 4000000 in
set_option maxRecDepth 100000 in
theorem kX1_giveRole (l : Launch) (D : va_G) (cI cZ : ClassId) (X : Nat → Nat) (S : Nat → Nat → Int32) (O : Nat → Bool) (V : Nat → Int32) (sz : Nat) (gi : Nat) (ri : Nat) (x0 : Int32) (hgi : gi < 8) (hri : ri < 6) : Met l yX1_giveRole wsX1_giveRole ({ frames := 2, cells := 0, slots := 0, locals := 43 } : Room) (zW D (tyl cI cZ) (hW cI cZ X S O V) sz [.ref (X 1), .int (nI gi), .int (nI ri), .int x0]) (zQi D (tyl cI cZ) (hW cI cZ X (va_up (va_up S 9 (upd (S 9) ri (c_changed (S 9 ri) (nI gi) (decide (x0 = 1))))) 10 (upd (S 10) ri (c_changed (S 10 ri) (nI gi) (decide (x0 = 2))))) O V) (c_roleOf S gi ri) (va_A (hW cI cZ X S O V) sz)) 0 0 (va_A (hW cI cZ X S O V) sz) := by
  refine Met.ofW (cc := cX1_giveRole) (maxL := 5) (ret := (some .int)) (by decide) rfl ?_
  intro p e s m args below meth c s₁ B hml hv
  obtain ⟨rfl, hsz, hP, hK, hD0⟩ := hv
  have hx := B.exec
  have hb := B.bytes
  have hr := B.returns
  have hts := atoms_spec (ws := wsX1_giveRole) B.pre
  have hown : s.vm.findClass RX1 = some m.cls := findClass_of_methodNamed B.named
  have hlocks := B.notSynchronized
  subst hsz
  have hD := hD0.self (sz := s.heap.size)
  generalize hAe : va_A (hW cI cZ X S O V) s.heap.size = A at hD ⊢
  have hA : ∀ q : Nat, s.heap.size ≤ q → A q := fun q h => by rw [← hAe]; exact Or.inr h
  have hS : va_S A s.heap s.heap [] := va_S.rf
  have i1 : ∀ w ∈ u_ws RX1 TX1 4, w ∈ wsX1_giveRole := by decide +kernel
  have fl_18 := hts (.fieldLink RX1 18 "SignOnHouse$Groups" "grantedOfRole" "[I") (by decide +kernel)
  have fl_21 := hts (.fieldLink RX1 21 "SignOnHouse$Groups" "deniedOfRole" "[I") (by decide +kernel)
  have hl := lv_entry ([.ref (X 1), .int (nI gi), .int (nI ri), .int x0]) (n := 5) (Nat.le_of_ble_eq_true rfl)
  rw [lg_entry_eq]
  generalize (lg_sl ([.ref (X 1), .int (nI gi), .int (nI ri), .int x0]) ++ List.replicate (5 - (lg_sl ([.ref (X 1), .int (nI gi), .int (nI ri), .int x0])).length) Slot.unset).toArray = ls at hl ⊢
  have hl : lv_has ls 5 [(0, .ref (X 1)), (1, .int (nI gi)), (2, .int (nI ri)), (3, .int x0)] := hl
  refine lv_aload_n hx hb dX1_giveRole_0 rfl (lv_at hl 0 rfl) ?_
  refine lv_iload_n hx hb dX1_giveRole_1 rfl (lv_at hl 1 rfl) ?_
  refine lv_iload_n hx hb dX1_giveRole_2 rfl (lv_at hl 2 rfl) ?_
  refine z_callR (W.runV (As := [.int (nI gi), .int (nI ri)]) (rest := []) ⟨hx, hb, hml, hown, hts⟩ (kX1_roleOf l D cI cZ X S O V gi ri (by omega) (by omega)) (cwV 2 hts gX1_giveRole_X1_roleOf rfl rfl rfl (by decide +kernel) ⟨Nat.le_of_ble_eq_true rfl, Nat.le_of_ble_eq_true rfl⟩) (zR_preV 1 1 hK hP rfl rfl) rfl rfl hl.1 rfl (lv_room (Nat.le_of_ble_eq_true rfl)) dX1_giveRole_3 ⟨Nat.zero_le _, Nat.zero_le _⟩) ?_
  refine lv_istore (lv' := [(4, .int (c_roleOf S gi ri)), (0, .ref (X 1)), (1, .int (nI gi)), (2, .int (nI ri)), (3, .int x0)]) hx hb dX1_giveRole_6 hl (by decide) rfl (fun ls hl => ?_)
  refine lv_aload_n hx hb dX1_giveRole_8 rfl (lv_at hl 1 rfl) ?_
  refine va_get (D := D) (ci := 1) (v := .ref (X 9)) (C := RX1) (T := TX1) (N := 4) hx hb hts i1 hown hK hP 1 rfl rfl 2 (by decide) fl_18 (fun _ h9 => h9) rfl dX1_giveRole_9 ?_
  refine lv_iload_n hx hb dX1_giveRole_12 rfl (lv_at hl 3 rfl) ?_
  refine lv_aload_n hx hb dX1_giveRole_13 rfl (lv_at hl 1 rfl) ?_
  refine va_get (D := D) (ci := 1) (v := .ref (X 9)) (C := RX1) (T := TX1) (N := 4) hx hb hts i1 hown hK hP 1 rfl rfl 2 (by decide) fl_18 (fun _ h9 => h9) rfl dX1_giveRole_14 ?_
  refine lv_iload_n hx hb dX1_giveRole_17 rfl (lv_at hl 3 rfl) ?_
  refine z_iald (D := D) (j := ri) (f := S 9) hx hb hK hP 9 0 rfl rfl (by omega) (by decide) dX1_giveRole_18 ?_
  refine lv_iload_n hx hb dX1_giveRole_19 rfl (lv_at hl 2 rfl) ?_
  refine lv_iload_n hx hb dX1_giveRole_20 rfl (lv_at hl 4 rfl) ?_
  refine lv_iconst (v := 1) hx hb dX1_giveRole_21 rfl ?_
  refine z_sel_icmp_ne hx hb dX1_giveRole_22 dX1_giveRole_25 dX1_giveRole_26 dX1_giveRole_29 ?_
  refine z_callR (W.runS (As := [.int (S 9 ri), .int (nI gi), .int (bi (decide (x0 = 1)))]) (rest := [.int (nI ri), .ref (X 9)]) ⟨hx, hb, hml, hown, hts⟩ (kX1_changed l (S 9 ri) (nI gi) (decide (x0 = 1))) (va_cwS 3 hts gX1_giveRole_X1_changed rfl rfl rfl (by decide +kernel) ⟨Nat.le_of_ble_eq_true rfl, Nat.le_of_ble_eq_true rfl⟩) zP_pre rfl rfl hl.1 rfl (lv_room (Nat.le_of_ble_eq_true rfl)) dX1_giveRole_30 ⟨Nat.zero_le _, Nat.zero_le _⟩) ?_
  refine z_iast (D := D) (j := ri) (f := S 9) hx hb hK hP hD hS 9 0 rfl rfl (by omega) (by decide) dX1_giveRole_33 (fun H locs hP hD hS => ?_)
  have hP : va_P D vwCl (hW cI cZ X (va_up S 9 (upd (S 9) ri (c_changed (S 9 ri) (nI gi) (decide (x0 = 1))))) O V) H := hP
  have hD : va_D A (hW cI cZ X (va_up S 9 (upd (S 9) ri (c_changed (S 9 ri) (nI gi) (decide (x0 = 1))))) O V) := hD
  refine lv_aload_n hx hb dX1_giveRole_34 rfl (lv_at hl 1 rfl) ?_
  refine va_get (D := D) (ci := 1) (v := .ref (X 10)) (C := RX1) (T := TX1) (N := 4) hx hb hts i1 hown hK hP 1 rfl rfl 3 (by decide) fl_21 (fun _ h9 => h9) rfl dX1_giveRole_35 ?_
  refine lv_iload_n hx hb dX1_giveRole_38 rfl (lv_at hl 3 rfl) ?_
  refine lv_aload_n hx hb dX1_giveRole_39 rfl (lv_at hl 1 rfl) ?_
  refine va_get (D := D) (ci := 1) (v := .ref (X 10)) (C := RX1) (T := TX1) (N := 4) hx hb hts i1 hown hK hP 1 rfl rfl 3 (by decide) fl_21 (fun _ h9 => h9) rfl dX1_giveRole_40 ?_
  refine lv_iload_n hx hb dX1_giveRole_43 rfl (lv_at hl 3 rfl) ?_
  refine z_iald (D := D) (j := ri) (f := S 10) hx hb hK hP 10 0 rfl rfl (by omega) (by decide) dX1_giveRole_44 ?_
  refine lv_iload_n hx hb dX1_giveRole_45 rfl (lv_at hl 2 rfl) ?_
  refine lv_iload_n hx hb dX1_giveRole_46 rfl (lv_at hl 4 rfl) ?_
  refine lv_iconst (v := 2) hx hb dX1_giveRole_47 rfl ?_
  refine z_sel_icmp_ne hx hb dX1_giveRole_48 dX1_giveRole_51 dX1_giveRole_52 dX1_giveRole_55 ?_
  refine z_callR (W.runS (As := [.int (S 10 ri), .int (nI gi), .int (bi (decide (x0 = 2)))]) (rest := [.int (nI ri), .ref (X 10)]) ⟨hx, hb, hml, hown, hts⟩ (kX1_changed l (S 10 ri) (nI gi) (decide (x0 = 2))) (va_cwS 3 hts gX1_giveRole_X1_changed rfl rfl rfl (by decide +kernel) ⟨Nat.le_of_ble_eq_true rfl, Nat.le_of_ble_eq_true rfl⟩) zP_pre rfl rfl hl.1 rfl (lv_room (Nat.le_of_ble_eq_true rfl)) dX1_giveRole_56 ⟨Nat.zero_le _, Nat.zero_le _⟩) ?_
  refine z_iast (D := D) (j := ri) (f := S 10) hx hb hK hP hD hS 10 0 rfl rfl (by omega) (by decide) dX1_giveRole_59 (fun H locs hP hD hS => ?_)
  have hP : va_P D vwCl (hW cI cZ X (va_up (va_up S 9 (upd (S 9) ri (c_changed (S 9 ri) (nI gi) (decide (x0 = 1))))) 10 (upd (S 10) ri (c_changed (S 10 ri) (nI gi) (decide (x0 = 2))))) O V) H := hP
  have hD : va_D A (hW cI cZ X (va_up (va_up S 9 (upd (S 9) ri (c_changed (S 9 ri) (nI gi) (decide (x0 = 1))))) 10 (upd (S 10) ri (c_changed (S 10 ri) (nI gi) (decide (x0 = 2))))) O V) := hD
  refine lv_iload hx hb dX1_giveRole_60 (lv_at hl 0 rfl) ?_
  exact z_wret hx hb hr hlocks hP hK hD hS rfl dX1_giveRole_62
