set_option maxHeartbeats 4000000 in
set_option maxRecDepth 100000 in
theorem kX4_now (l : Launch) (D : va_G) (cI cZ : ClassId) (X : Nat → Nat) (S : Nat → Nat → Int32) (O : Nat → Bool) (V : Nat → Int32)  : Met l yX4_now wsX4_now ({ frames := 0, cells := 0, slots := 0, locals := 0 } : Room) (zR D (tyl cI cZ) (hW cI cZ X S O V) [.ref (X 0)]) (QcRead (V 0)) 0 0 (fun _ => False) := by
  refine Met.ofW (cc := cX4_now) (maxL := 1) (ret := (some .int)) (by decide) rfl ?_
  intro p e s m args below meth c s₁ B hml hv
  obtain ⟨rfl, hP, hK⟩ := hv
  have hx := B.exec
  have hb := B.bytes
  have hr := B.returns
  have hts := atoms_spec (ws := wsX4_now) B.pre
  have hown : s.vm.findClass RX4 = some m.cls := findClass_of_methodNamed B.named
  have hlocks := B.notSynchronized
  have i4 : ∀ w ∈ u_ws RX4 TX4 7, w ∈ wsX4_now := by decide +kernel
  have fl_44 := hts (.fieldLink RX4 44 "SignOnHouse" "minute" "I") (by decide +kernel)
  have hl := lv_entry ([.ref (X 0)]) (n := 1) (Nat.le_of_ble_eq_true rfl)
  rw [lg_entry_eq]
  generalize (lg_sl ([.ref (X 0)]) ++ List.replicate (1 - (lg_sl ([.ref (X 0)])).length) Slot.unset).toArray = ls at hl ⊢
  have hl : lv_has ls 1 [(0, .ref (X 0))] := hl
  refine lv_aload_n hx hb dX4_now_0 rfl (lv_at hl 0 rfl) ?_
  refine va_get (D := D) (ci := 4) (v := .int (V 0)) (C := RX4) (T := TX4) (N := 7) hx hb hts i4 hown hK hP 0 rfl rfl 6 (by decide) fl_44 (fun _ h9 => h9) rfl dX4_now_1 ?_
  exact z_ret hx hb hr hlocks rfl dX4_now_4

set_option maxHeartbeats 4000000 in
set_option maxRecDepth 100000 in
theorem kX4_setPerson (l : Launch) (hl0 : l.stackTraces = false) (D : va_G) (cI cZ : ClassId) (X : Nat → Nat) (S : Nat → Nat → Int32) (O : Nat → Bool) (V : Nat → Int32) (sz : Nat) (x0 : Int32) (x1 : Int32) (b0 : Bool) : vx_Met l yX4_setPerson wsX4_setPerson ({ frames := 6, cells := 1, slots := 6, locals := 90 } : Room) (zT D (tyl cI cZ) (hW cI cZ X S O V) sz [.ref (X 0), .int x0, .int x1, .int (bi b0)]) (zTi D (tyl cI cZ) (hW cI cZ X (va_up S 7 (upd (S 7) (ix x1) (c_changed (S 7 (ix x1)) (nI (ix x0)) b0))) O V) (c_spK x0 x1) (bi (hasB (S 7 (ix x1)) (nI (ix x0)))) (va_A (hW cI cZ X S O V) sz)) (zXC D (tyl cI cZ) (hW cI cZ X S O V) (va_A (hW cI cZ X S O V) sz) (fun E => ((c_spK x0 x1) = 1 ∧ E = "java/lang/IllegalArgumentException"))) 1 6 (va_A (hW cI cZ X S O V) sz) := by
  refine vx_ofW (cc := cX4_setPerson) (maxL := 4) (ret := (some .boolean)) (by decide) rfl ?_
  intro p e s m args below meth c s₁ B hml htb hv
  obtain ⟨rfl, hsz, hP, hK, hD0, hZ⟩ := hv
  have hx := B.exec
  have hb := B.bytes
  have hr := B.returns
  have hts := atoms_spec (ws := wsX4_setPerson) B.pre
  have hown : s.vm.findClass RX4 = some m.cls := findClass_of_methodNamed B.named
  have hlocks := B.notSynchronized
  subst hsz
  have hD := hD0.self (sz := s.heap.size)
  generalize hAe : va_A (hW cI cZ X S O V) s.heap.size = A at hD hZ ⊢
  have hA : ∀ q : Nat, s.heap.size ≤ q → A q := fun q h => by rw [← hAe]; exact Or.inr h
  have hS : va_S A s.heap s.heap [] := va_S.rf
  have i4 : ∀ w ∈ u_ws RX4 TX4 7, w ∈ wsX4_setPerson := by decide +kernel
  have fl_10 := hts (.fieldLink RX4 10 "SignOnHouse" "groups" "LSignOnHouse$Groups;") (by decide +kernel)
  have xk52 := hts (.classLink RX4 52 "java/lang/IllegalArgumentException") (by decide +kernel)
  have xi52 := hts (.initialized "java/lang/IllegalArgumentException") (by decide +kernel)
  have xa52 : ∀ w ∈ (vx_atS RX4 56 "java/lang/IllegalArgumentException" xnames).filter goodWord, w ∈ wsX4_setPerson := by decide +kernel
  have hl := lv_entry ([.ref (X 0), .int x0, .int x1, .int (bi b0)]) (n := 4) (Nat.le_of_ble_eq_true rfl)
  rw [lg_entry_eq]
  generalize (lg_sl ([.ref (X 0), .int x0, .int x1, .int (bi b0)]) ++ List.replicate (4 - (lg_sl ([.ref (X 0), .int x0, .int x1, .int (bi b0)])).length) Slot.unset).toArray = ls at hl ⊢
  have hl : lv_has ls 4 [(0, .ref (X 0)), (1, .int x0), (2, .int x1), (3, .int (bi b0))] := hl
  refine lv_iload_n hx hb dX4_setPerson_0 rfl (lv_at hl 1 rfl) ?_
  refine lv_bipush (v := 8) hx hb dX4_setPerson_1 (by decide) ?_
  refine z_callR (W.runS (As := [.int x0, .int 8]) (rest := []) ⟨hx, hb, hml, hown, hts⟩ (kX4_isOutside l x0 8) (va_cwS 2 hts gX4_setPerson_X4_isOutside rfl rfl rfl (by decide +kernel) ⟨Nat.le_of_ble_eq_true rfl, Nat.le_of_ble_eq_true rfl⟩) zP_pre rfl rfl hl.1 rfl (lv_room (Nat.le_of_ble_eq_true rfl)) dX4_setPerson_3 ⟨Nat.zero_le _, Nat.zero_le _⟩) ?_
  refine z_if_ne (tgt := 18) hx hb dX4_setPerson_6 (by decide) (fun c_6 => ?_) (fun c_6 => ?_)
  · exact z_throw (cls := "java/lang/IllegalArgumentException") (text := "group or person is out of range") (ik := 52) (is := 54) (ic := 56) hx hb hl0 hown zxI_fit xk52 xi52 (fun w hw => hts w (xa52 w hw)) zxI_bad zxI_ot hZ (by decide +kernel) hS (by rw [hml]; exact hl.1) dX4_setPerson_18 dX4_setPerson_21 dX4_setPerson_22 dX4_setPerson_24 dX4_setPerson_27 htb (by decide) (by decide) (by decide) (by decide) hlocks hP hK hD ⟨by simp [c_spK, c_6], rfl⟩
  · obtain ⟨gi, hgi, egi⟩ := c_out8 c_6
    have xgi : ix x0 = gi := ix_of egi (by omega)
    refine lv_iload_n hx hb dX4_setPerson_9 rfl (lv_at hl 2 rfl) ?_
    refine lv_bipush (v := 10) hx hb dX4_setPerson_10 (by decide) ?_
    refine z_callR (W.runS (As := [.int x1, .int 10]) (rest := []) ⟨hx, hb, hml, hown, hts⟩ (kX4_isOutside l x1 10) (va_cwS 2 hts gX4_setPerson_X4_isOutside rfl rfl rfl (by decide +kernel) ⟨Nat.le_of_ble_eq_true rfl, Nat.le_of_ble_eq_true rfl⟩) zP_pre rfl rfl hl.1 rfl (lv_room (Nat.le_of_ble_eq_true rfl)) dX4_setPerson_12 ⟨Nat.zero_le _, Nat.zero_le _⟩) ?_
    refine z_if_eq (tgt := 28) hx hb dX4_setPerson_15 (by decide) (fun c_15 => ?_) (fun c_15 => ?_)
    · obtain ⟨pi, hpi, epi⟩ := c_out10 c_15
      have xpi : ix x1 = pi := ix_of epi (by omega)
      refine lv_aload_n hx hb dX4_setPerson_28 rfl (lv_at hl 0 rfl) ?_
      refine va_get (D := D) (ci := 4) (v := .ref (X 1)) (C := RX4) (T := TX4) (N := 7) hx hb hts i4 hown hK hP 0 rfl rfl 0 (by decide) fl_10 (fun _ h9 => h9) rfl dX4_setPerson_29 ?_
      refine lv_iload_n hx hb dX4_setPerson_32 rfl (lv_at hl 1 rfl) ?_
      refine z_top (nI gi) egi ?_
      refine lv_iload_n hx hb dX4_setPerson_33 rfl (lv_at hl 2 rfl) ?_
      refine z_top (nI pi) epi ?_
      refine lv_iload_n hx hb dX4_setPerson_34 rfl (lv_at hl 3 rfl) ?_
      have hF := z_free hD hS hA
      refine z_callWi (va_runV (As := [.int (nI gi), .int (nI pi), .int (bi b0)]) (rest := []) ⟨hx, hb, hml, hown, hts⟩ (kX1_placePerson l D cI cZ X S O V _ gi pi b0 (by omega) (by omega)) (cwV 3 hts gX4_setPerson_X1_placePerson rfl rfl rfl (by decide +kernel) ⟨Nat.le_of_ble_eq_true rfl, Nat.le_of_ble_eq_true rfl⟩) (zW_preV 1 1 hK hP hD rfl rfl) rfl rfl hl.1 rfl (lv_room (Nat.le_of_ble_eq_true rfl)) dX4_setPerson_35 ⟨Nat.zero_le _, Nat.zero_le _⟩) hS hF (fun H locs hP hD hS => ?_)
      have eS : (va_up S 7 (upd (S 7) (ix x1) (c_changed (S 7 (ix x1)) (nI (ix x0)) b0))) = (va_up S 7 (upd (S 7) pi (c_changed (S 7 pi) (nI gi) b0))) := by simp [c_spK, bi, c_6, xgi, c_15, xpi]
      exact z_tzret hx hb hr hlocks (by rw [eS]; exact hP) hK (by rw [eS]; exact hD) hS (by simp [c_spK, c_6, xgi, c_15, xpi]) (by simp [c_spK, bi, c_6, xgi, c_15, xpi]) dX4_setPerson_38
    · exact z_throw (cls := "java/lang/IllegalArgumentException") (text := "group or person is out of range") (ik := 52) (is := 54) (ic := 56) hx hb hl0 hown zxI_fit xk52 xi52 (fun w hw => hts w (xa52 w hw)) zxI_bad zxI_ot hZ (by decide +kernel) hS (by rw [hml]; exact hl.1) dX4_setPerson_18 dX4_setPerson_21 dX4_setPerson_22 dX4_setPerson_24 dX4_setPerson_27 htb (by decide) (by decide) (by decide) (by decide) hlocks hP hK hD ⟨by simp [c_spK, c_6, xgi, c_15], rfl⟩

set_option maxHeartbeats 4000000 in
set_option maxRecDepth 100000 in
theorem kX4_setGroup (l : Launch) (hl0 : l.stackTraces = false) (D : va_G) (cI cZ : ClassId) (X : Nat → Nat) (S : Nat → Nat → Int32) (O : Nat → Bool) (V : Nat → Int32) (sz : Nat) (x0 : Int32) (x1 : Int32) (b0 : Bool) : vx_Met l yX4_setGroup wsX4_setGroup ({ frames := 6, cells := 1, slots := 6, locals := 90 } : Room) (zT D (tyl cI cZ) (hW cI cZ X S O V) sz [.ref (X 0), .int x0, .int x1, .int (bi b0)]) (zTi D (tyl cI cZ) (hW cI cZ X (va_up S 8 (upd (S 8) (ix x1) (c_changed (S 8 (ix x1)) (nI (ix x0)) b0))) O V) (c_sgK S x0 x1 b0) (bi (hasB (S 8 (ix x1)) (nI (ix x0)))) (va_A (hW cI cZ X S O V) sz)) (zXC D (tyl cI cZ) (hW cI cZ X S O V) (va_A (hW cI cZ X S O V) sz) (fun E => ((c_sgK S x0 x1 b0) = 1 ∧ E = "java/lang/IllegalArgumentException") ∨ ((c_sgK S x0 x1 b0) = 2 ∧ E = "java/lang/IllegalStateException"))) 1 6 (va_A (hW cI cZ X S O V) sz) := by
  refine vx_ofW (cc := cX4_setGroup) (maxL := 4) (ret := (some .boolean)) (by decide) rfl ?_
  intro p e s m args below meth c s₁ B hml htb hv
  obtain ⟨rfl, hsz, hP, hK, hD0, hZ⟩ := hv
  have hx := B.exec
  have hb := B.bytes
  have hr := B.returns
  have hts := atoms_spec (ws := wsX4_setGroup) B.pre
  have hown : s.vm.findClass RX4 = some m.cls := findClass_of_methodNamed B.named
  have hlocks := B.notSynchronized
  subst hsz
  have hD := hD0.self (sz := s.heap.size)
  generalize hAe : va_A (hW cI cZ X S O V) s.heap.size = A at hD hZ ⊢
  have hA : ∀ q : Nat, s.heap.size ≤ q → A q := fun q h => by rw [← hAe]; exact Or.inr h
  have hS : va_S A s.heap s.heap [] := va_S.rf
  have i4 : ∀ w ∈ u_ws RX4 TX4 7, w ∈ wsX4_setGroup := by decide +kernel
  have fl_10 := hts (.fieldLink RX4 10 "SignOnHouse" "groups" "LSignOnHouse$Groups;") (by decide +kernel)
  have xk52 := hts (.classLink RX4 52 "java/lang/IllegalArgumentException") (by decide +kernel)
  have xi52 := hts (.initialized "java/lang/IllegalArgumentException") (by decide +kernel)
  have xa52 : ∀ w ∈ (vx_atS RX4 56 "java/lang/IllegalArgumentException" xnames).filter goodWord, w ∈ wsX4_setGroup := by decide +kernel
  have xk70 := hts (.classLink RX4 70 "java/lang/IllegalStateException") (by decide +kernel)
  have xi70 := hts (.initialized "java/lang/IllegalStateException") (by decide +kernel)
  have xa70 : ∀ w ∈ (vx_atS RX4 74 "java/lang/IllegalStateException" xnames).filter goodWord, w ∈ wsX4_setGroup := by decide +kernel
  have hl := lv_entry ([.ref (X 0), .int x0, .int x1, .int (bi b0)]) (n := 4) (Nat.le_of_ble_eq_true rfl)
  rw [lg_entry_eq]
  generalize (lg_sl ([.ref (X 0), .int x0, .int x1, .int (bi b0)]) ++ List.replicate (4 - (lg_sl ([.ref (X 0), .int x0, .int x1, .int (bi b0)])).length) Slot.unset).toArray = ls at hl ⊢
  have hl : lv_has ls 4 [(0, .ref (X 0)), (1, .int x0), (2, .int x1), (3, .int (bi b0))] := hl
  refine lv_iload_n hx hb dX4_setGroup_0 rfl (lv_at hl 1 rfl) ?_
  refine lv_bipush (v := 8) hx hb dX4_setGroup_1 (by decide) ?_
  refine z_callR (W.runS (As := [.int x0, .int 8]) (rest := []) ⟨hx, hb, hml, hown, hts⟩ (kX4_isOutside l x0 8) (va_cwS 2 hts gX4_setGroup_X4_isOutside rfl rfl rfl (by decide +kernel) ⟨Nat.le_of_ble_eq_true rfl, Nat.le_of_ble_eq_true rfl⟩) zP_pre rfl rfl hl.1 rfl (lv_room (Nat.le_of_ble_eq_true rfl)) dX4_setGroup_3 ⟨Nat.zero_le _, Nat.zero_le _⟩) ?_
  refine z_if_ne (tgt := 18) hx hb dX4_setGroup_6 (by decide) (fun c_6 => ?_) (fun c_6 => ?_)
  · exact z_throw (cls := "java/lang/IllegalArgumentException") (text := "group or inner is out of range") (ik := 52) (is := 63) (ic := 56) hx hb hl0 hown zxI_fit xk52 xi52 (fun w hw => hts w (xa52 w hw)) zxI_bad zxI_ot hZ (by decide +kernel) hS (by rw [hml]; exact hl.1) dX4_setGroup_18 dX4_setGroup_21 dX4_setGroup_22 dX4_setGroup_24 dX4_setGroup_27 htb (by decide) (by decide) (by decide) (by decide) hlocks hP hK hD (Or.inl ⟨by simp [c_sgK, c_6], rfl⟩)
  · obtain ⟨gi, hgi, egi⟩ := c_out8 c_6
    have xgi : ix x0 = gi := ix_of egi (by omega)
    refine lv_iload_n hx hb dX4_setGroup_9 rfl (lv_at hl 2 rfl) ?_
    refine lv_bipush (v := 8) hx hb dX4_setGroup_10 (by decide) ?_
    refine z_callR (W.runS (As := [.int x1, .int 8]) (rest := []) ⟨hx, hb, hml, hown, hts⟩ (kX4_isOutside l x1 8) (va_cwS 2 hts gX4_setGroup_X4_isOutside rfl rfl rfl (by decide +kernel) ⟨Nat.le_of_ble_eq_true rfl, Nat.le_of_ble_eq_true rfl⟩) zP_pre rfl rfl hl.1 rfl (lv_room (Nat.le_of_ble_eq_true rfl)) dX4_setGroup_12 ⟨Nat.zero_le _, Nat.zero_le _⟩) ?_
    refine z_if_eq (tgt := 28) hx hb dX4_setGroup_15 (by decide) (fun c_15 => ?_) (fun c_15 => ?_)
    · obtain ⟨ii, hii, eii⟩ := c_out8 c_15
      have xii : ix x1 = ii := ix_of eii (by omega)
      refine lv_iload_n hx hb dX4_setGroup_28 rfl (lv_at hl 1 rfl) ?_
      refine lv_iload_n hx hb dX4_setGroup_29 rfl (lv_at hl 2 rfl) ?_
      refine lv_icmp_ne (tgt := 43) hx hb dX4_setGroup_30 (by decide) (fun c_30 => ?_) (fun c_30 => ?_)
      · refine lv_iload_n hx hb dX4_setGroup_43 rfl (lv_at hl 3 rfl) ?_
        refine z_if_eq (tgt := 69) hx hb dX4_setGroup_44 (by decide) (fun c_44 => ?_) (fun c_44 => ?_)
        · refine lv_aload_n hx hb dX4_setGroup_69 rfl (lv_at hl 0 rfl) ?_
          refine va_get (D := D) (ci := 4) (v := .ref (X 1)) (C := RX4) (T := TX4) (N := 7) hx hb hts i4 hown hK hP 0 rfl rfl 0 (by decide) fl_10 (fun _ h9 => h9) rfl dX4_setGroup_70 ?_
          refine lv_iload_n hx hb dX4_setGroup_73 rfl (lv_at hl 1 rfl) ?_
          refine z_top (nI gi) egi ?_
          refine lv_iload_n hx hb dX4_setGroup_74 rfl (lv_at hl 2 rfl) ?_
          refine z_top (nI ii) eii ?_
          refine lv_iload_n hx hb dX4_setGroup_75 rfl (lv_at hl 3 rfl) ?_
          have hF := z_free hD hS hA
          refine z_callWi (va_runV (As := [.int (nI gi), .int (nI ii), .int (bi b0)]) (rest := []) ⟨hx, hb, hml, hown, hts⟩ (kX1_placeGroup l D cI cZ X S O V _ gi ii b0 (by omega) (by omega)) (cwV 3 hts gX4_setGroup_X1_placeGroup rfl rfl rfl (by decide +kernel) ⟨Nat.le_of_ble_eq_true rfl, Nat.le_of_ble_eq_true rfl⟩) (zW_preV 1 1 hK hP hD rfl rfl) rfl rfl hl.1 rfl (lv_room (Nat.le_of_ble_eq_true rfl)) dX4_setGroup_76 ⟨Nat.zero_le _, Nat.zero_le _⟩) hS hF (fun H locs hP hD hS => ?_)
          have eS : (va_up S 8 (upd (S 8) (ix x1) (c_changed (S 8 (ix x1)) (nI (ix x0)) b0))) = (va_up S 8 (upd (S 8) ii (c_changed (S 8 ii) (nI gi) b0))) := by simp [c_sgK, bi, c_6, xgi, c_15, xii, c_30, c_44]
          exact z_tzret hx hb hr hlocks (by rw [eS]; exact hP) hK (by rw [eS]; exact hD) hS (by simp [c_sgK, c_6, xgi, c_15, xii, c_30, c_44]) (by simp [c_sgK, bi, c_6, xgi, c_15, xii, c_30, c_44]) dX4_setGroup_79
        · refine lv_aload_n hx hb dX4_setGroup_47 rfl (lv_at hl 0 rfl) ?_
          refine va_get (D := D) (ci := 4) (v := .ref (X 1)) (C := RX4) (T := TX4) (N := 7) hx hb hts i4 hown hK hP 0 rfl rfl 0 (by decide) fl_10 (fun _ h9 => h9) rfl dX4_setGroup_48 ?_
          refine lv_iload_n hx hb dX4_setGroup_51 rfl (lv_at hl 2 rfl) ?_
          refine z_top (nI ii) eii ?_
          refine lv_iload_n hx hb dX4_setGroup_52 rfl (lv_at hl 1 rfl) ?_
          refine z_top (nI gi) egi ?_
          refine z_callR (W.runV (As := [.int (nI ii), .int (nI gi)]) (rest := []) ⟨hx, hb, hml, hown, hts⟩ (kX1_isAround l D cI cZ X S O V ii gi (by omega) (by omega)) (cwV 2 hts gX4_setGroup_X1_isAround rfl rfl rfl (by decide +kernel) ⟨Nat.le_of_ble_eq_true rfl, Nat.le_of_ble_eq_true rfl⟩) (zR_preV 1 1 hK hP rfl rfl) rfl rfl hl.1 rfl (lv_room (Nat.le_of_ble_eq_true rfl)) dX4_setGroup_53 ⟨Nat.zero_le _, Nat.zero_le _⟩) ?_
          refine z_if_eq (tgt := 69) hx hb dX4_setGroup_56 (by decide) (fun c_56 => ?_) (fun c_56 => ?_)
          · refine lv_aload_n hx hb dX4_setGroup_69 rfl (lv_at hl 0 rfl) ?_
            refine va_get (D := D) (ci := 4) (v := .ref (X 1)) (C := RX4) (T := TX4) (N := 7) hx hb hts i4 hown hK hP 0 rfl rfl 0 (by decide) fl_10 (fun _ h9 => h9) rfl dX4_setGroup_70 ?_
            refine lv_iload_n hx hb dX4_setGroup_73 rfl (lv_at hl 1 rfl) ?_
            refine z_top (nI gi) egi ?_
            refine lv_iload_n hx hb dX4_setGroup_74 rfl (lv_at hl 2 rfl) ?_
            refine z_top (nI ii) eii ?_
            refine lv_iload_n hx hb dX4_setGroup_75 rfl (lv_at hl 3 rfl) ?_
            have hF := z_free hD hS hA
            refine z_callWi (va_runV (As := [.int (nI gi), .int (nI ii), .int (bi b0)]) (rest := []) ⟨hx, hb, hml, hown, hts⟩ (kX1_placeGroup l D cI cZ X S O V _ gi ii b0 (by omega) (by omega)) (cwV 3 hts gX4_setGroup_X1_placeGroup rfl rfl rfl (by decide +kernel) ⟨Nat.le_of_ble_eq_true rfl, Nat.le_of_ble_eq_true rfl⟩) (zW_preV 1 1 hK hP hD rfl rfl) rfl rfl hl.1 rfl (lv_room (Nat.le_of_ble_eq_true rfl)) dX4_setGroup_76 ⟨Nat.zero_le _, Nat.zero_le _⟩) hS hF (fun H locs hP hD hS => ?_)
            have eS : (va_up S 8 (upd (S 8) (ix x1) (c_changed (S 8 (ix x1)) (nI (ix x0)) b0))) = (va_up S 8 (upd (S 8) ii (c_changed (S 8 ii) (nI gi) b0))) := by simp [c_sgK, bi, c_6, xgi, c_15, xii, c_30, c_44, c_56]
            exact z_tzret hx hb hr hlocks (by rw [eS]; exact hP) hK (by rw [eS]; exact hD) hS (by simp [c_sgK, c_6, xgi, c_15, xii, c_30, c_44, c_56]) (by simp [c_sgK, bi, c_6, xgi, c_15, xii, c_30, c_44, c_56]) dX4_setGroup_79
          · exact z_throw (cls := "java/lang/IllegalStateException") (text := "a group would be in itself") (ik := 70) (is := 72) (ic := 74) hx hb hl0 hown zxS_fit xk70 xi70 (fun w hw => hts w (xa70 w hw)) zxS_bad zxS_ot hZ (by decide +kernel) hS (by rw [hml]; exact hl.1) dX4_setGroup_59 dX4_setGroup_62 dX4_setGroup_63 dX4_setGroup_65 dX4_setGroup_68 htb (by decide) (by decide) (by decide) (by decide) hlocks hP hK hD (Or.inr ⟨by simp [c_sgK, c_6, xgi, c_15, xii, c_30, c_44, c_56], rfl⟩)
      · exact z_throw (cls := "java/lang/IllegalArgumentException") (text := "group and inner are the same") (ik := 52) (is := 65) (ic := 56) hx hb hl0 hown zxI_fit xk52 xi52 (fun w hw => hts w (xa52 w hw)) zxI_bad zxI_ot hZ (by decide +kernel) hS (by rw [hml]; exact hl.1) dX4_setGroup_33 dX4_setGroup_36 dX4_setGroup_37 dX4_setGroup_39 dX4_setGroup_42 htb (by decide) (by decide) (by decide) (by decide) hlocks hP hK hD (Or.inl ⟨by simp [c_sgK, c_6, xgi, c_15, xii, (eq_true c_30)], rfl⟩)
    · exact z_throw (cls := "java/lang/IllegalArgumentException") (text := "group or inner is out of range") (ik := 52) (is := 63) (ic := 56) hx hb hl0 hown zxI_fit xk52 xi52 (fun w hw => hts w (xa52 w hw)) zxI_bad zxI_ot hZ (by decide +kernel) hS (by rw [hml]; exact hl.1) dX4_setGroup_18 dX4_setGroup_21 dX4_setGroup_22 dX4_setGroup_24 dX4_setGroup_27 htb (by decide) (by decide) (by decide) (by decide) hlocks hP hK hD (Or.inl ⟨by simp [c_sgK, c_6, xgi, c_15], rfl⟩)

set_option maxHeartbeats 4000000 in
set_option maxRecDepth 100000 in
theorem kX4_setRole (l : Launch) (hl0 : l.stackTraces = false) (D : va_G) (cI cZ : ClassId) (X : Nat → Nat) (S : Nat → Nat → Int32) (O : Nat → Bool) (V : Nat → Int32) (sz : Nat) (x0 : Int32) (x1 : Int32) (x2 : Int32) : vx_Met l yX4_setRole wsX4_setRole ({ frames := 6, cells := 1, slots := 6, locals := 90 } : Room) (zT D (tyl cI cZ) (hW cI cZ X S O V) sz [.ref (X 0), .int x0, .int x1, .int x2]) (zTi D (tyl cI cZ) (hW cI cZ X (va_up (va_up S 9 (upd (S 9) (ix x1) (c_changed (S 9 (ix x1)) (nI (ix x0)) (decide (x2 = 1))))) 10 (upd (S 10) (ix x1) (c_changed (S 10 (ix x1)) (nI (ix x0)) (decide (x2 = 2))))) O V) (c_srK x0 x1 x2) (c_roleOf S (ix x0) (ix x1)) (va_A (hW cI cZ X S O V) sz)) (zXC D (tyl cI cZ) (hW cI cZ X S O V) (va_A (hW cI cZ X S O V) sz) (fun E => ((c_srK x0 x1 x2) = 1 ∧ E = "java/lang/IllegalArgumentException"))) 1 6 (va_A (hW cI cZ X S O V) sz) := by
  refine vx_ofW (cc := cX4_setRole) (maxL := 4) (ret := (some .int)) (by decide) rfl ?_
  intro p e s m args below meth c s₁ B hml htb hv
  obtain ⟨rfl, hsz, hP, hK, hD0, hZ⟩ := hv
  have hx := B.exec
  have hb := B.bytes
  have hr := B.returns
  have hts := atoms_spec (ws := wsX4_setRole) B.pre
  have hown : s.vm.findClass RX4 = some m.cls := findClass_of_methodNamed B.named
  have hlocks := B.notSynchronized
  subst hsz
  have hD := hD0.self (sz := s.heap.size)
  generalize hAe : va_A (hW cI cZ X S O V) s.heap.size = A at hD hZ ⊢
  have hA : ∀ q : Nat, s.heap.size ≤ q → A q := fun q h => by rw [← hAe]; exact Or.inr h
  have hS : va_S A s.heap s.heap [] := va_S.rf
  have i4 : ∀ w ∈ u_ws RX4 TX4 7, w ∈ wsX4_setRole := by decide +kernel
  have fl_10 := hts (.fieldLink RX4 10 "SignOnHouse" "groups" "LSignOnHouse$Groups;") (by decide +kernel)
  have xk52 := hts (.classLink RX4 52 "java/lang/IllegalArgumentException") (by decide +kernel)
  have xi52 := hts (.initialized "java/lang/IllegalArgumentException") (by decide +kernel)
  have xa52 : ∀ w ∈ (vx_atS RX4 56 "java/lang/IllegalArgumentException" xnames).filter goodWord, w ∈ wsX4_setRole := by decide +kernel
  have hl := lv_entry ([.ref (X 0), .int x0, .int x1, .int x2]) (n := 4) (Nat.le_of_ble_eq_true rfl)
  rw [lg_entry_eq]
  generalize (lg_sl ([.ref (X 0), .int x0, .int x1, .int x2]) ++ List.replicate (4 - (lg_sl ([.ref (X 0), .int x0, .int x1, .int x2])).length) Slot.unset).toArray = ls at hl ⊢
  have hl : lv_has ls 4 [(0, .ref (X 0)), (1, .int x0), (2, .int x1), (3, .int x2)] := hl
  refine lv_iload_n hx hb dX4_setRole_0 rfl (lv_at hl 1 rfl) ?_
  refine lv_bipush (v := 8) hx hb dX4_setRole_1 (by decide) ?_
  refine z_callR (W.runS (As := [.int x0, .int 8]) (rest := []) ⟨hx, hb, hml, hown, hts⟩ (kX4_isOutside l x0 8) (va_cwS 2 hts gX4_setRole_X4_isOutside rfl rfl rfl (by decide +kernel) ⟨Nat.le_of_ble_eq_true rfl, Nat.le_of_ble_eq_true rfl⟩) zP_pre rfl rfl hl.1 rfl (lv_room (Nat.le_of_ble_eq_true rfl)) dX4_setRole_3 ⟨Nat.zero_le _, Nat.zero_le _⟩) ?_
  refine z_if_ne (tgt := 18) hx hb dX4_setRole_6 (by decide) (fun c_6 => ?_) (fun c_6 => ?_)
  · exact z_throw (cls := "java/lang/IllegalArgumentException") (text := "group or role is out of range") (ik := 52) (is := 78) (ic := 56) hx hb hl0 hown zxI_fit xk52 xi52 (fun w hw => hts w (xa52 w hw)) zxI_bad zxI_ot hZ (by decide +kernel) hS (by rw [hml]; exact hl.1) dX4_setRole_18 dX4_setRole_21 dX4_setRole_22 dX4_setRole_24 dX4_setRole_27 htb (by decide) (by decide) (by decide) (by decide) hlocks hP hK hD ⟨by simp [c_srK, c_6], rfl⟩
  · obtain ⟨gi, hgi, egi⟩ := c_out8 c_6
    have xgi : ix x0 = gi := ix_of egi (by omega)
    refine lv_iload_n hx hb dX4_setRole_9 rfl (lv_at hl 2 rfl) ?_
    refine lv_bipush (v := 6) hx hb dX4_setRole_10 (by decide) ?_
    refine z_callR (W.runS (As := [.int x1, .int 6]) (rest := []) ⟨hx, hb, hml, hown, hts⟩ (kX4_isOutside l x1 6) (va_cwS 2 hts gX4_setRole_X4_isOutside rfl rfl rfl (by decide +kernel) ⟨Nat.le_of_ble_eq_true rfl, Nat.le_of_ble_eq_true rfl⟩) zP_pre rfl rfl hl.1 rfl (lv_room (Nat.le_of_ble_eq_true rfl)) dX4_setRole_12 ⟨Nat.zero_le _, Nat.zero_le _⟩) ?_
    refine z_if_eq (tgt := 28) hx hb dX4_setRole_15 (by decide) (fun c_15 => ?_) (fun c_15 => ?_)
    · obtain ⟨ri, hri, eri⟩ := c_out6 c_15
      have xri : ix x1 = ri := ix_of eri (by omega)
      refine lv_iload_n hx hb dX4_setRole_28 rfl (lv_at hl 3 rfl) ?_
      refine lv_if_lt (tgt := 37) hx hb dX4_setRole_29 (by decide) (fun c_29 => ?_) (fun c_29 => ?_)
      · exact z_throw (cls := "java/lang/IllegalArgumentException") (text := "what is out of range") (ik := 52) (is := 80) (ic := 56) hx hb hl0 hown zxI_fit xk52 xi52 (fun w hw => hts w (xa52 w hw)) zxI_bad zxI_ot hZ (by decide +kernel) hS (by rw [hml]; exact hl.1) dX4_setRole_37 dX4_setRole_40 dX4_setRole_41 dX4_setRole_43 dX4_setRole_46 htb (by decide) (by decide) (by decide) (by decide) hlocks hP hK hD ⟨by simp [c_srK, c_6, xgi, c_15, xri, c_29], rfl⟩
      · refine lv_iload_n hx hb dX4_setRole_32 rfl (lv_at hl 3 rfl) ?_
        refine lv_iconst (v := 2) hx hb dX4_setRole_33 rfl ?_
        refine lv_icmp_le (tgt := 47) hx hb dX4_setRole_34 (by decide) (fun c_34 => ?_) (fun c_34 => ?_)
        · refine lv_aload_n hx hb dX4_setRole_47 rfl (lv_at hl 0 rfl) ?_
          refine va_get (D := D) (ci := 4) (v := .ref (X 1)) (C := RX4) (T := TX4) (N := 7) hx hb hts i4 hown hK hP 0 rfl rfl 0 (by decide) fl_10 (fun _ h9 => h9) rfl dX4_setRole_48 ?_
          refine lv_iload_n hx hb dX4_setRole_51 rfl (lv_at hl 1 rfl) ?_
          refine z_top (nI gi) egi ?_
          refine lv_iload_n hx hb dX4_setRole_52 rfl (lv_at hl 2 rfl) ?_
          refine z_top (nI ri) eri ?_
          refine lv_iload_n hx hb dX4_setRole_53 rfl (lv_at hl 3 rfl) ?_
          have hF := z_free hD hS hA
          refine z_callWi (va_runV (As := [.int (nI gi), .int (nI ri), .int x2]) (rest := []) ⟨hx, hb, hml, hown, hts⟩ (kX1_giveRole l D cI cZ X S O V _ gi ri x2 (by omega) (by omega)) (cwV 3 hts gX4_setRole_X1_giveRole rfl rfl rfl (by decide +kernel) ⟨Nat.le_of_ble_eq_true rfl, Nat.le_of_ble_eq_true rfl⟩) (zW_preV 1 1 hK hP hD rfl rfl) rfl rfl hl.1 rfl (lv_room (Nat.le_of_ble_eq_true rfl)) dX4_setRole_54 ⟨Nat.zero_le _, Nat.zero_le _⟩) hS hF (fun H locs hP hD hS => ?_)
          have eS : (va_up (va_up S 9 (upd (S 9) (ix x1) (c_changed (S 9 (ix x1)) (nI (ix x0)) (decide (x2 = 1))))) 10 (upd (S 10) (ix x1) (c_changed (S 10 (ix x1)) (nI (ix x0)) (decide (x2 = 2))))) = (va_up (va_up S 9 (upd (S 9) ri (c_changed (S 9 ri) (nI gi) (decide (x2 = 1))))) 10 (upd (S 10) ri (c_changed (S 10 ri) (nI gi) (decide (x2 = 2))))) := by simp [c_srK, bi, c_6, xgi, c_15, xri, c_29, c_34]
          exact z_tret hx hb hr hlocks (by rw [eS]; exact hP) hK (by rw [eS]; exact hD) hS (by simp [c_srK, c_6, xgi, c_15, xri, c_29, c_34]) (by simp [c_srK, bi, c_6, xgi, c_15, xri, c_29, c_34]) dX4_setRole_57
        · exact z_throw (cls := "java/lang/IllegalArgumentException") (text := "what is out of range") (ik := 52) (is := 80) (ic := 56) hx hb hl0 hown zxI_fit xk52 xi52 (fun w hw => hts w (xa52 w hw)) zxI_bad zxI_ot hZ (by decide +kernel) hS (by rw [hml]; exact hl.1) dX4_setRole_37 dX4_setRole_40 dX4_setRole_41 dX4_setRole_43 dX4_setRole_46 htb (by decide) (by decide) (by decide) (by decide) hlocks hP hK hD ⟨by simp [c_srK, c_6, xgi, c_15, xri, c_29, c_34], rfl⟩
    · exact z_throw (cls := "java/lang/IllegalArgumentException") (text := "group or role is out of range") (ik := 52) (is := 78) (ic := 56) hx hb hl0 hown zxI_fit xk52 xi52 (fun w hw => hts w (xa52 w hw)) zxI_bad zxI_ot hZ (by decide +kernel) hS (by rw [hml]; exact hl.1) dX4_setRole_18 dX4_setRole_21 dX4_setRole_22 dX4_setRole_24 dX4_setRole_27 htb (by decide) (by decide) (by decide) (by decide) hlocks hP hK hD ⟨by simp [c_srK, c_6, xgi, c_15], rfl⟩

set_option maxHeartbeats 4000000 in
set_option maxRecDepth 100000 in
theorem kX4_setRisk (l : Launch) (hl0 : l.stackTraces = false) (D : va_G) (cI cZ : ClassId) (X : Nat → Nat) (S : Nat → Nat → Int32) (O : Nat → Bool) (V : Nat → Int32) (sz : Nat) (x0 : Int32) (x1 : Int32) (n0 : Nat) (hn0 : n0 ≤ 30) (hct : V 1 = nI n0) : vx_Met l yX4_setRisk wsX4_setRisk ({ frames := 6, cells := 1, slots := 6, locals := 90 } : Room) (zT D (tyl cI cZ) (hW cI cZ X S O V) sz [.ref (X 0), .int x0, .int x1]) (zTi D (tyl cI cZ) (hW cI cZ X (c_riS S x0 x1) (if x1 ≤ S 5 (ix x0) then O else c_eaO (c_riS S x0 x1) O (nI (ix x0)) n0) V) (c_riK x0 x1) (if x1 ≤ S 5 (ix x0) then 0 else c_eaN (c_riS S x0 x1) O (nI (ix x0)) n0) (va_A (hW cI cZ X S O V) sz)) (zXC D (tyl cI cZ) (hW cI cZ X S O V) (va_A (hW cI cZ X S O V) sz) (fun E => ((c_riK x0 x1) = 1 ∧ E = "java/lang/IllegalArgumentException"))) 1 6 (va_A (hW cI cZ X S O V) sz) := by
  refine vx_ofW (cc := cX4_setRisk) (maxL := 4) (ret := (some .int)) (by decide) rfl ?_
  intro p e s m args below meth c s₁ B hml htb hv
  obtain ⟨rfl, hsz, hP, hK, hD0, hZ⟩ := hv
  have hx := B.exec
  have hb := B.bytes
  have hr := B.returns
  have hts := atoms_spec (ws := wsX4_setRisk) B.pre
  have hown : s.vm.findClass RX4 = some m.cls := findClass_of_methodNamed B.named
  have hlocks := B.notSynchronized
  subst hsz
  have hD := hD0.self (sz := s.heap.size)
  generalize hAe : va_A (hW cI cZ X S O V) s.heap.size = A at hD hZ ⊢
  have hA : ∀ q : Nat, s.heap.size ≤ q → A q := fun q h => by rw [← hAe]; exact Or.inr h
  have hS : va_S A s.heap s.heap [] := va_S.rf
  have i4 : ∀ w ∈ u_ws RX4 TX4 7, w ∈ wsX4_setRisk := by decide +kernel
  have fl_19 := hts (.fieldLink RX4 19 "SignOnHouse" "sessions" "LSignOnHouse$Sessions;") (by decide +kernel)
  have fl_37 := hts (.fieldLink RX4 37 "SignOnHouse" "risks" "[I") (by decide +kernel)
  have xk52 := hts (.classLink RX4 52 "java/lang/IllegalArgumentException") (by decide +kernel)
  have xi52 := hts (.initialized "java/lang/IllegalArgumentException") (by decide +kernel)
  have xa52 : ∀ w ∈ (vx_atS RX4 56 "java/lang/IllegalArgumentException" xnames).filter goodWord, w ∈ wsX4_setRisk := by decide +kernel
  have hl := lv_entry ([.ref (X 0), .int x0, .int x1]) (n := 4) (Nat.le_of_ble_eq_true rfl)
  rw [lg_entry_eq]
  generalize (lg_sl ([.ref (X 0), .int x0, .int x1]) ++ List.replicate (4 - (lg_sl ([.ref (X 0), .int x0, .int x1])).length) Slot.unset).toArray = ls at hl ⊢
  have hl : lv_has ls 4 [(0, .ref (X 0)), (1, .int x0), (2, .int x1)] := hl
  refine lv_iload_n hx hb dX4_setRisk_0 rfl (lv_at hl 1 rfl) ?_
  refine lv_bipush (v := 10) hx hb dX4_setRisk_1 (by decide) ?_
  refine z_callR (W.runS (As := [.int x0, .int 10]) (rest := []) ⟨hx, hb, hml, hown, hts⟩ (kX4_isOutside l x0 10) (va_cwS 2 hts gX4_setRisk_X4_isOutside rfl rfl rfl (by decide +kernel) ⟨Nat.le_of_ble_eq_true rfl, Nat.le_of_ble_eq_true rfl⟩) zP_pre rfl rfl hl.1 rfl (lv_room (Nat.le_of_ble_eq_true rfl)) dX4_setRisk_3 ⟨Nat.zero_le _, Nat.zero_le _⟩) ?_
  refine z_if_ne (tgt := 18) hx hb dX4_setRisk_6 (by decide) (fun c_6 => ?_) (fun c_6 => ?_)
  · exact z_throw (cls := "java/lang/IllegalArgumentException") (text := "person or risk is out of range") (ik := 52) (is := 86) (ic := 56) hx hb hl0 hown zxI_fit xk52 xi52 (fun w hw => hts w (xa52 w hw)) zxI_bad zxI_ot hZ (by decide +kernel) hS (by rw [hml]; exact hl.1) dX4_setRisk_18 dX4_setRisk_21 dX4_setRisk_22 dX4_setRisk_24 dX4_setRisk_27 htb (by decide) (by decide) (by decide) (by decide) hlocks hP hK hD ⟨by simp [c_riK, c_riS, c_6], rfl⟩
  · obtain ⟨pi, hpi, epi⟩ := c_out10 c_6
    have xpi : ix x0 = pi := ix_of epi (by omega)
    refine lv_iload_n hx hb dX4_setRisk_9 rfl (lv_at hl 2 rfl) ?_
    refine lv_if_lt (tgt := 18) hx hb dX4_setRisk_10 (by decide) (fun c_10 => ?_) (fun c_10 => ?_)
    · exact z_throw (cls := "java/lang/IllegalArgumentException") (text := "person or risk is out of range") (ik := 52) (is := 86) (ic := 56) hx hb hl0 hown zxI_fit xk52 xi52 (fun w hw => hts w (xa52 w hw)) zxI_bad zxI_ot hZ (by decide +kernel) hS (by rw [hml]; exact hl.1) dX4_setRisk_18 dX4_setRisk_21 dX4_setRisk_22 dX4_setRisk_24 dX4_setRisk_27 htb (by decide) (by decide) (by decide) (by decide) hlocks hP hK hD ⟨by simp [c_riK, c_riS, c_6, xpi, c_10], rfl⟩
    · refine lv_iload_n hx hb dX4_setRisk_13 rfl (lv_at hl 2 rfl) ?_
      refine lv_iconst (v := 3) hx hb dX4_setRisk_14 rfl ?_
      refine lv_icmp_le (tgt := 28) hx hb dX4_setRisk_15 (by decide) (fun c_15 => ?_) (fun c_15 => ?_)
      · refine lv_iload_n hx hb dX4_setRisk_28 rfl (lv_at hl 2 rfl) ?_
        refine lv_aload_n hx hb dX4_setRisk_29 rfl (lv_at hl 0 rfl) ?_
        refine va_get (D := D) (ci := 4) (v := .ref (X 5)) (C := RX4) (T := TX4) (N := 7) hx hb hts i4 hown hK hP 0 rfl rfl 4 (by decide) fl_37 (fun _ h9 => h9) rfl dX4_setRisk_30 ?_
        refine lv_iload_n hx hb dX4_setRisk_33 rfl (lv_at hl 1 rfl) ?_
        refine z_top (nI pi) epi ?_
        refine z_iald (D := D) (j := pi) (f := S 5) hx hb hK hP 5 0 rfl rfl (by omega) (by decide) dX4_setRisk_34 ?_
        refine z_sel_icmp_le hx hb dX4_setRisk_35 dX4_setRisk_38 dX4_setRisk_39 dX4_setRisk_42 ?_
        refine lv_istore_n (lv' := [(3, .int (bi (!decide (x1 ≤ S 5 pi)))), (0, .ref (X 0)), (1, .int x0), (2, .int x1)]) hx hb dX4_setRisk_43 rfl hl (by decide) rfl (fun ls hl => ?_)
        refine lv_aload_n hx hb dX4_setRisk_44 rfl (lv_at hl 1 rfl) ?_
        refine va_get (D := D) (ci := 4) (v := .ref (X 5)) (C := RX4) (T := TX4) (N := 7) hx hb hts i4 hown hK hP 0 rfl rfl 4 (by decide) fl_37 (fun _ h9 => h9) rfl dX4_setRisk_45 ?_
        refine lv_iload_n hx hb dX4_setRisk_48 rfl (lv_at hl 2 rfl) ?_
        refine z_top (nI pi) epi ?_
        refine lv_iload_n hx hb dX4_setRisk_49 rfl (lv_at hl 3 rfl) ?_
        refine z_iast (D := D) (j := pi) (f := S 5) hx hb hK hP hD hS 5 0 rfl rfl (by omega) (by decide) dX4_setRisk_50 (fun H locs hP hD hS => ?_)
        have hP : va_P D vwCl (hW cI cZ X (va_up S 5 (upd (S 5) pi x1)) O V) H := hP
        have hD : va_D A (hW cI cZ X (va_up S 5 (upd (S 5) pi x1)) O V) := hD
        refine lv_iload_n hx hb dX4_setRisk_51 rfl (lv_at hl 0 rfl) ?_
        refine z_if_eq (tgt := 66) hx hb dX4_setRisk_52 (by decide) (fun c_52 => ?_) (fun c_52 => ?_)
        · refine lv_iconst (v := 0) hx hb dX4_setRisk_66 rfl ?_
          have eO : (if x1 ≤ S 5 (ix x0) then O else c_eaO (c_riS S x0 x1) O (nI (ix x0)) n0) = O := by simp [c_riK, c_riS, bi, c_6, xpi, c_10, c_15, (eq_true (nd_f c_52))]
          have eS : (c_riS S x0 x1) = (va_up S 5 (upd (S 5) pi x1)) := by simp [c_riK, c_riS, bi, c_6, xpi, c_10, c_15, (eq_true (nd_f c_52))]
          exact z_tret hx hb hr hlocks (by rw [eO, eS]; exact hP) hK (by rw [eO, eS]; exact hD) hS (by simp [c_riK, c_riS, c_6, xpi, c_10, c_15, (eq_true (nd_f c_52))]) (by simp [c_riK, c_riS, bi, c_6, xpi, c_10, c_15, (eq_true (nd_f c_52))]) dX4_setRisk_67
        · refine lv_aload_n hx hb dX4_setRisk_55 rfl (lv_at hl 1 rfl) ?_
          refine va_get (D := D) (ci := 4) (v := .ref (X 2)) (C := RX4) (T := TX4) (N := 7) hx hb hts i4 hown hK hP 0 rfl rfl 1 (by decide) fl_19 (fun _ h9 => h9) rfl dX4_setRisk_56 ?_
          refine lv_iload_n hx hb dX4_setRisk_59 rfl (lv_at hl 2 rfl) ?_
          refine z_top (nI pi) epi ?_
          have hF := z_free hD hS hA
          refine z_callWi (va_runV (As := [.int (nI pi)]) (rest := []) ⟨hx, hb, hml, hown, hts⟩ (kX3_endAllOf l D cI cZ X (va_up S 5 (upd (S 5) pi x1)) O V _ (nI pi) n0 hn0 hct) (cwV 1 hts gX4_setRisk_X3_endAllOf rfl rfl rfl (by decide +kernel) ⟨Nat.le_of_ble_eq_true rfl, Nat.le_of_ble_eq_true rfl⟩) (zW_preV 2 3 hK hP hD rfl rfl) rfl rfl hl.1 rfl (lv_room (Nat.le_of_ble_eq_true rfl)) dX4_setRisk_60 ⟨Nat.zero_le _, Nat.zero_le _⟩) hS hF (fun H locs hP hD hS => ?_)
          refine lv_goto (tgt := 67) hx hb dX4_setRisk_63 (by decide) ?_
          have eO : (if x1 ≤ S 5 (ix x0) then O else c_eaO (c_riS S x0 x1) O (nI (ix x0)) n0) = (c_eaO (va_up S 5 (upd (S 5) pi x1)) O (nI pi) n0) := by simp [c_riK, c_riS, bi, c_6, xpi, c_10, c_15, (nd_t c_52)]
          have eS : (c_riS S x0 x1) = (va_up S 5 (upd (S 5) pi x1)) := by simp [c_riK, c_riS, bi, c_6, xpi, c_10, c_15, (nd_t c_52)]
          exact z_tret hx hb hr hlocks (by rw [eO, eS]; exact hP) hK (by rw [eO, eS]; exact hD) hS (by simp [c_riK, c_riS, c_6, xpi, c_10, c_15, (nd_t c_52)]) (by simp [c_riK, c_riS, bi, c_6, xpi, c_10, c_15, (nd_t c_52)]) dX4_setRisk_67
      · exact z_throw (cls := "java/lang/IllegalArgumentException") (text := "person or risk is out of range") (ik := 52) (is := 86) (ic := 56) hx hb hl0 hown zxI_fit xk52 xi52 (fun w hw => hts w (xa52 w hw)) zxI_bad zxI_ot hZ (by decide +kernel) hS (by rw [hml]; exact hl.1) dX4_setRisk_18 dX4_setRisk_21 dX4_setRisk_22 dX4_setRisk_24 dX4_setRisk_27 htb (by decide) (by decide) (by decide) (by decide) hlocks hP hK hD ⟨by simp [c_riK, c_riS, c_6, xpi, c_10, c_15], rfl⟩

set_option maxHeartbeats 4000000 in
set_option maxRecDepth 100000 in
theorem kX4_isIn (l : Launch) (hl0 : l.stackTraces = false) (D : va_G) (cI cZ : ClassId) (X : Nat → Nat) (S : Nat → Nat → Int32) (O : Nat → Bool) (V : Nat → Int32) (sz : Nat) (x0 : Int32) (x1 : Int32) : vx_Met l yX4_isIn wsX4_isIn ({ frames := 6, cells := 1, slots := 6, locals := 90 } : Room) (zT D (tyl cI cZ) (hW cI cZ X S O V) sz [.ref (X 0), .int x0, .int x1]) (zTi D (tyl cI cZ) (hW cI cZ X S O V) (c_spK x0 x1) (bi (hasB (c_allA S (S 7 (ix x1)) 8) (nI (ix x0)))) (va_A (hW cI cZ X S O V) sz)) (zXC D (tyl cI cZ) (hW cI cZ X S O V) (va_A (hW cI cZ X S O V) sz) (fun E => ((c_spK x0 x1) = 1 ∧ E = "java/lang/IllegalArgumentException"))) 1 6 (va_A (hW cI cZ X S O V) sz) := by
  refine vx_ofW (cc := cX4_isIn) (maxL := 3) (ret := (some .boolean)) (by decide) rfl ?_
  intro p e s m args below meth c s₁ B hml htb hv
  obtain ⟨rfl, hsz, hP, hK, hD0, hZ⟩ := hv
  have hx := B.exec
  have hb := B.bytes
  have hr := B.returns
  have hts := atoms_spec (ws := wsX4_isIn) B.pre
  have hown : s.vm.findClass RX4 = some m.cls := findClass_of_methodNamed B.named
  have hlocks := B.notSynchronized
  subst hsz
  have hD := hD0.self (sz := s.heap.size)
  generalize hAe : va_A (hW cI cZ X S O V) s.heap.size = A at hD hZ ⊢
  have hA : ∀ q : Nat, s.heap.size ≤ q → A q := fun q h => by rw [← hAe]; exact Or.inr h
  have hS : va_S A s.heap s.heap [] := va_S.rf
  have i4 : ∀ w ∈ u_ws RX4 TX4 7, w ∈ wsX4_isIn := by decide +kernel
  have fl_10 := hts (.fieldLink RX4 10 "SignOnHouse" "groups" "LSignOnHouse$Groups;") (by decide +kernel)
  have xk52 := hts (.classLink RX4 52 "java/lang/IllegalArgumentException") (by decide +kernel)
  have xi52 := hts (.initialized "java/lang/IllegalArgumentException") (by decide +kernel)
  have xa52 : ∀ w ∈ (vx_atS RX4 56 "java/lang/IllegalArgumentException" xnames).filter goodWord, w ∈ wsX4_isIn := by decide +kernel
  have hl := lv_entry ([.ref (X 0), .int x0, .int x1]) (n := 3) (Nat.le_of_ble_eq_true rfl)
  rw [lg_entry_eq]
  generalize (lg_sl ([.ref (X 0), .int x0, .int x1]) ++ List.replicate (3 - (lg_sl ([.ref (X 0), .int x0, .int x1])).length) Slot.unset).toArray = ls at hl ⊢
  have hl : lv_has ls 3 [(0, .ref (X 0)), (1, .int x0), (2, .int x1)] := hl
  refine lv_iload_n hx hb dX4_isIn_0 rfl (lv_at hl 1 rfl) ?_
  refine lv_bipush (v := 8) hx hb dX4_isIn_1 (by decide) ?_
  refine z_callR (W.runS (As := [.int x0, .int 8]) (rest := []) ⟨hx, hb, hml, hown, hts⟩ (kX4_isOutside l x0 8) (va_cwS 2 hts gX4_isIn_X4_isOutside rfl rfl rfl (by decide +kernel) ⟨Nat.le_of_ble_eq_true rfl, Nat.le_of_ble_eq_true rfl⟩) zP_pre rfl rfl hl.1 rfl (lv_room (Nat.le_of_ble_eq_true rfl)) dX4_isIn_3 ⟨Nat.zero_le _, Nat.zero_le _⟩) ?_
  refine z_if_ne (tgt := 18) hx hb dX4_isIn_6 (by decide) (fun c_6 => ?_) (fun c_6 => ?_)
  · exact z_throw (cls := "java/lang/IllegalArgumentException") (text := "group or person is out of range") (ik := 52) (is := 54) (ic := 56) hx hb hl0 hown zxI_fit xk52 xi52 (fun w hw => hts w (xa52 w hw)) zxI_bad zxI_ot hZ (by decide +kernel) hS (by rw [hml]; exact hl.1) dX4_isIn_18 dX4_isIn_21 dX4_isIn_22 dX4_isIn_24 dX4_isIn_27 htb (by decide) (by decide) (by decide) (by decide) hlocks hP hK hD ⟨by simp [c_spK, c_6], rfl⟩
  · obtain ⟨gi, hgi, egi⟩ := c_out8 c_6
    have xgi : ix x0 = gi := ix_of egi (by omega)
    refine lv_iload_n hx hb dX4_isIn_9 rfl (lv_at hl 2 rfl) ?_
    refine lv_bipush (v := 10) hx hb dX4_isIn_10 (by decide) ?_
    refine z_callR (W.runS (As := [.int x1, .int 10]) (rest := []) ⟨hx, hb, hml, hown, hts⟩ (kX4_isOutside l x1 10) (va_cwS 2 hts gX4_isIn_X4_isOutside rfl rfl rfl (by decide +kernel) ⟨Nat.le_of_ble_eq_true rfl, Nat.le_of_ble_eq_true rfl⟩) zP_pre rfl rfl hl.1 rfl (lv_room (Nat.le_of_ble_eq_true rfl)) dX4_isIn_12 ⟨Nat.zero_le _, Nat.zero_le _⟩) ?_
    refine z_if_eq (tgt := 28) hx hb dX4_isIn_15 (by decide) (fun c_15 => ?_) (fun c_15 => ?_)
    · obtain ⟨pi, hpi, epi⟩ := c_out10 c_15
      have xpi : ix x1 = pi := ix_of epi (by omega)
      refine lv_aload_n hx hb dX4_isIn_28 rfl (lv_at hl 0 rfl) ?_
      refine va_get (D := D) (ci := 4) (v := .ref (X 1)) (C := RX4) (T := TX4) (N := 7) hx hb hts i4 hown hK hP 0 rfl rfl 0 (by decide) fl_10 (fun _ h9 => h9) rfl dX4_isIn_29 ?_
      refine lv_iload_n hx hb dX4_isIn_32 rfl (lv_at hl 1 rfl) ?_
      refine z_top (nI gi) egi ?_
      refine lv_iload_n hx hb dX4_isIn_33 rfl (lv_at hl 2 rfl) ?_
      refine z_top (nI pi) epi ?_
      refine z_callR (W.runV (As := [.int (nI gi), .int (nI pi)]) (rest := []) ⟨hx, hb, hml, hown, hts⟩ (kX1_hasPerson l D cI cZ X S O V gi pi (by omega) (by omega)) (cwV 2 hts gX4_isIn_X1_hasPerson rfl rfl rfl (by decide +kernel) ⟨Nat.le_of_ble_eq_true rfl, Nat.le_of_ble_eq_true rfl⟩) (zR_preV 1 1 hK hP rfl rfl) rfl rfl hl.1 rfl (lv_room (Nat.le_of_ble_eq_true rfl)) dX4_isIn_34 ⟨Nat.zero_le _, Nat.zero_le _⟩) ?_
      exact z_tzret hx hb hr hlocks hP hK hD hS (by simp [c_spK, c_6, xgi, c_15, xpi]) (by simp [c_spK, bi, c_6, xgi, c_15, xpi]) dX4_isIn_37
    · exact z_throw (cls := "java/lang/IllegalArgumentException") (text := "group or person is out of range") (ik := 52) (is := 54) (ic := 56) hx hb hl0 hown zxI_fit xk52 xi52 (fun w hw => hts w (xa52 w hw)) zxI_bad zxI_ot hZ (by decide +kernel) hS (by rw [hml]; exact hl.1) dX4_isIn_18 dX4_isIn_21 dX4_isIn_22 dX4_isIn_24 dX4_isIn_27 htb (by decide) (by decide) (by decide) (by decide) hlocks hP hK hD ⟨by simp [c_spK, c_6, xgi, c_15], rfl⟩

set_option maxHeartbeats 4000000 in
set_option maxRecDepth 100000 in
theorem kX4_allows (l : Launch) (hl0 : l.stackTraces = false) (D : va_G) (cI cZ : ClassId) (X : Nat → Nat) (S : Nat → Nat → Int32) (O : Nat → Bool) (V : Nat → Int32) (sz : Nat) (x0 : Int32) (x1 : Int32) : vx_Met l yX4_allows wsX4_allows ({ frames := 6, cells := 1, slots := 6, locals := 112 } : Room) (zT D (tyl cI cZ) (hW cI cZ X S O V) sz [.ref (X 0), .int x0, .int x1]) (zTi D (tyl cI cZ) (hW cI cZ X S O V) (c_alK x0 x1) (bi (decide (c_house S V (ix x0) (ix x1) = 0))) (va_A (hW cI cZ X S O V) sz)) (zXC D (tyl cI cZ) (hW cI cZ X S O V) (va_A (hW cI cZ X S O V) sz) (fun E => ((c_alK x0 x1) = 1 ∧ E = "java/lang/IllegalArgumentException"))) 1 6 (va_A (hW cI cZ X S O V) sz) := by
  refine vx_ofW (cc := cX4_allows) (maxL := 3) (ret := (some .boolean)) (by decide) rfl ?_
  intro p e s m args below meth c s₁ B hml htb hv
  obtain ⟨rfl, hsz, hP, hK, hD0, hZ⟩ := hv
  have hx := B.exec
  have hb := B.bytes
  have hr := B.returns
  have hts := atoms_spec (ws := wsX4_allows) B.pre
  have hown : s.vm.findClass RX4 = some m.cls := findClass_of_methodNamed B.named
  have hlocks := B.notSynchronized
  subst hsz
  have hD := hD0.self (sz := s.heap.size)
  generalize hAe : va_A (hW cI cZ X S O V) s.heap.size = A at hD hZ ⊢
  have hA : ∀ q : Nat, s.heap.size ≤ q → A q := fun q h => by rw [← hAe]; exact Or.inr h
  have hS : va_S A s.heap s.heap [] := va_S.rf
  have xk52 := hts (.classLink RX4 52 "java/lang/IllegalArgumentException") (by decide +kernel)
  have xi52 := hts (.initialized "java/lang/IllegalArgumentException") (by decide +kernel)
  have xa52 : ∀ w ∈ (vx_atS RX4 56 "java/lang/IllegalArgumentException" xnames).filter goodWord, w ∈ wsX4_allows := by decide +kernel
  have hl := lv_entry ([.ref (X 0), .int x0, .int x1]) (n := 3) (Nat.le_of_ble_eq_true rfl)
  rw [lg_entry_eq]
  generalize (lg_sl ([.ref (X 0), .int x0, .int x1]) ++ List.replicate (3 - (lg_sl ([.ref (X 0), .int x0, .int x1])).length) Slot.unset).toArray = ls at hl ⊢
  have hl : lv_has ls 3 [(0, .ref (X 0)), (1, .int x0), (2, .int x1)] := hl
  refine lv_iload_n hx hb dX4_allows_0 rfl (lv_at hl 1 rfl) ?_
  refine lv_bipush (v := 10) hx hb dX4_allows_1 (by decide) ?_
  refine z_callR (W.runS (As := [.int x0, .int 10]) (rest := []) ⟨hx, hb, hml, hown, hts⟩ (kX4_isOutside l x0 10) (va_cwS 2 hts gX4_allows_X4_isOutside rfl rfl rfl (by decide +kernel) ⟨Nat.le_of_ble_eq_true rfl, Nat.le_of_ble_eq_true rfl⟩) zP_pre rfl rfl hl.1 rfl (lv_room (Nat.le_of_ble_eq_true rfl)) dX4_allows_3 ⟨Nat.zero_le _, Nat.zero_le _⟩) ?_
  refine z_if_ne (tgt := 18) hx hb dX4_allows_6 (by decide) (fun c_6 => ?_) (fun c_6 => ?_)
  · exact z_throw (cls := "java/lang/IllegalArgumentException") (text := "person or role is out of range") (ik := 52) (is := 95) (ic := 56) hx hb hl0 hown zxI_fit xk52 xi52 (fun w hw => hts w (xa52 w hw)) zxI_bad zxI_ot hZ (by decide +kernel) hS (by rw [hml]; exact hl.1) dX4_allows_18 dX4_allows_21 dX4_allows_22 dX4_allows_24 dX4_allows_27 htb (by decide) (by decide) (by decide) (by decide) hlocks hP hK hD ⟨by simp [c_alK, c_6], rfl⟩
  · obtain ⟨pi, hpi, epi⟩ := c_out10 c_6
    have xpi : ix x0 = pi := ix_of epi (by omega)
    refine lv_iload_n hx hb dX4_allows_9 rfl (lv_at hl 2 rfl) ?_
    refine lv_bipush (v := 6) hx hb dX4_allows_10 (by decide) ?_
    refine z_callR (W.runS (As := [.int x1, .int 6]) (rest := []) ⟨hx, hb, hml, hown, hts⟩ (kX4_isOutside l x1 6) (va_cwS 2 hts gX4_allows_X4_isOutside rfl rfl rfl (by decide +kernel) ⟨Nat.le_of_ble_eq_true rfl, Nat.le_of_ble_eq_true rfl⟩) zP_pre rfl rfl hl.1 rfl (lv_room (Nat.le_of_ble_eq_true rfl)) dX4_allows_12 ⟨Nat.zero_le _, Nat.zero_le _⟩) ?_
    refine z_if_eq (tgt := 28) hx hb dX4_allows_15 (by decide) (fun c_15 => ?_) (fun c_15 => ?_)
    · obtain ⟨ri, hri, eri⟩ := c_out6 c_15
      have xri : ix x1 = ri := ix_of eri (by omega)
      refine lv_aload_n hx hb dX4_allows_28 rfl (lv_at hl 0 rfl) ?_
      refine lv_iload_n hx hb dX4_allows_29 rfl (lv_at hl 1 rfl) ?_
      refine z_top (nI pi) epi ?_
      refine lv_iload_n hx hb dX4_allows_30 rfl (lv_at hl 2 rfl) ?_
      refine z_top (nI ri) eri ?_
      refine z_callR (W.runV (As := [.int (nI pi), .int (nI ri)]) (rest := []) ⟨hx, hb, hml, hown, hts⟩ (kX4_answerOfHouse l D cI cZ X S O V pi ri (by omega) (by omega)) (cwV 2 hts gX4_allows_X4_answerOfHouse rfl rfl rfl (by decide +kernel) ⟨Nat.le_of_ble_eq_true rfl, Nat.le_of_ble_eq_true rfl⟩) (zR_preV 0 4 hK hP rfl rfl) rfl rfl hl.1 rfl (lv_room (Nat.le_of_ble_eq_true rfl)) dX4_allows_31 ⟨Nat.zero_le _, Nat.zero_le _⟩) ?_
      refine z_sel_if_ne hx hb dX4_allows_34 dX4_allows_37 dX4_allows_38 dX4_allows_41 ?_
      exact z_tzret hx hb hr hlocks hP hK hD hS (by simp [c_alK, c_6, xpi, c_15, xri]) (by simp [c_alK, bi, c_6, xpi, c_15, xri]) dX4_allows_42
    · exact z_throw (cls := "java/lang/IllegalArgumentException") (text := "person or role is out of range") (ik := 52) (is := 95) (ic := 56) hx hb hl0 hown zxI_fit xk52 xi52 (fun w hw => hts w (xa52 w hw)) zxI_bad zxI_ot hZ (by decide +kernel) hS (by rw [hml]; exact hl.1) dX4_allows_18 dX4_allows_21 dX4_allows_22 dX4_allows_24 dX4_allows_27 htb (by decide) (by decide) (by decide) (by decide) hlocks hP hK hD ⟨by simp [c_alK, c_6, xpi, c_15], rfl⟩

set_option maxHeartbeats 4000000 in
set_option maxRecDepth 100000 in
theorem kX4_open (l : Launch) (hl0 : l.stackTraces = false) (D : va_G) (cI cZ : ClassId) (X : Nat → Nat) (S : Nat → Nat → Int32) (O : Nat → Bool) (V : Nat → Int32) (sz : Nat) (x0 : Int32) (n0 : Nat) (hn0 : n0 ≤ 30) (hct : V 1 = nI n0) : vx_Met l yX4_open wsX4_open ({ frames := 6, cells := 1, slots := 6, locals := 90 } : Room) (zT D (tyl cI cZ) (hW cI cZ X S O V) sz [.ref (X 0), .int x0]) (zTi D (tyl cI cZ) (hW cI cZ X (va_up (va_up (va_up (va_up S 11 (upd (S 11) n0 x0)) 12 (upd (S 12) n0 (V 2))) 13 (upd (S 13) n0 (V 0))) 14 (upd (S 14) n0 (V 0))) O (va_up V 1 (V 1 + 1))) (c_opK S V x0) (nI n0) (va_A (hW cI cZ X S O V) sz)) (zXC D (tyl cI cZ) (hW cI cZ X S O V) (va_A (hW cI cZ X S O V) sz) (fun E => ((c_opK S V x0) = 1 ∧ E = "java/lang/IllegalArgumentException") ∨ ((c_opK S V x0) = 2 ∧ E = "java/lang/IllegalStateException"))) 1 6 (va_A (hW cI cZ X S O V) sz) := by
  refine vx_ofW (cc := cX4_open) (maxL := 2) (ret := (some .int)) (by decide) rfl ?_
  intro p e s m args below meth c s₁ B hml htb hv
  obtain ⟨rfl, hsz, hP, hK, hD0, hZ⟩ := hv
  have hx := B.exec
  have hb := B.bytes
  have hr := B.returns
  have hts := atoms_spec (ws := wsX4_open) B.pre
  have hown : s.vm.findClass RX4 = some m.cls := findClass_of_methodNamed B.named
  have hlocks := B.notSynchronized
  subst hsz
  have hD := hD0.self (sz := s.heap.size)
  generalize hAe : va_A (hW cI cZ X S O V) s.heap.size = A at hD hZ ⊢
  have hA : ∀ q : Nat, s.heap.size ≤ q → A q := fun q h => by rw [← hAe]; exact Or.inr h
  have hS : va_S A s.heap s.heap [] := va_S.rf
  have i4 : ∀ w ∈ u_ws RX4 TX4 7, w ∈ wsX4_open := by decide +kernel
  have fl_19 := hts (.fieldLink RX4 19 "SignOnHouse" "sessions" "LSignOnHouse$Sessions;") (by decide +kernel)
  have fl_26 := hts (.fieldLink RX4 26 "SignOnHouse" "keys" "LSignOnHouse$Keys;") (by decide +kernel)
  have fl_44 := hts (.fieldLink RX4 44 "SignOnHouse" "minute" "I") (by decide +kernel)
  have xk52 := hts (.classLink RX4 52 "java/lang/IllegalArgumentException") (by decide +kernel)
  have xi52 := hts (.initialized "java/lang/IllegalArgumentException") (by decide +kernel)
  have xa52 : ∀ w ∈ (vx_atS RX4 56 "java/lang/IllegalArgumentException" xnames).filter goodWord, w ∈ wsX4_open := by decide +kernel
  have xk70 := hts (.classLink RX4 70 "java/lang/IllegalStateException") (by decide +kernel)
  have xi70 := hts (.initialized "java/lang/IllegalStateException") (by decide +kernel)
  have xa70 : ∀ w ∈ (vx_atS RX4 74 "java/lang/IllegalStateException" xnames).filter goodWord, w ∈ wsX4_open := by decide +kernel
  have hl := lv_entry ([.ref (X 0), .int x0]) (n := 2) (Nat.le_of_ble_eq_true rfl)
  rw [lg_entry_eq]
  generalize (lg_sl ([.ref (X 0), .int x0]) ++ List.replicate (2 - (lg_sl ([.ref (X 0), .int x0])).length) Slot.unset).toArray = ls at hl ⊢
  have hl : lv_has ls 2 [(0, .ref (X 0)), (1, .int x0)] := hl
  refine lv_iload_n hx hb dX4_open_0 rfl (lv_at hl 1 rfl) ?_
  refine lv_bipush (v := 10) hx hb dX4_open_1 (by decide) ?_
  refine z_callR (W.runS (As := [.int x0, .int 10]) (rest := []) ⟨hx, hb, hml, hown, hts⟩ (kX4_isOutside l x0 10) (va_cwS 2 hts gX4_open_X4_isOutside rfl rfl rfl (by decide +kernel) ⟨Nat.le_of_ble_eq_true rfl, Nat.le_of_ble_eq_true rfl⟩) zP_pre rfl rfl hl.1 rfl (lv_room (Nat.le_of_ble_eq_true rfl)) dX4_open_3 ⟨Nat.zero_le _, Nat.zero_le _⟩) ?_
  refine z_if_eq (tgt := 19) hx hb dX4_open_6 (by decide) (fun c_6 => ?_) (fun c_6 => ?_)
  · obtain ⟨pi, hpi, epi⟩ := c_out10 c_6
    have xpi : ix x0 = pi := ix_of epi (by omega)
    refine lv_aload_n hx hb dX4_open_19 rfl (lv_at hl 0 rfl) ?_
    refine lv_iload_n hx hb dX4_open_20 rfl (lv_at hl 1 rfl) ?_
    refine z_top (nI pi) epi ?_
    refine z_callR (W.runV (As := [.int (nI pi)]) (rest := []) ⟨hx, hb, hml, hown, hts⟩ (kX4_isBarred l D cI cZ X S O V pi (by omega)) (cwV 1 hts gX4_open_X4_isBarred rfl rfl rfl (by decide +kernel) ⟨Nat.le_of_ble_eq_true rfl, Nat.le_of_ble_eq_true rfl⟩) (zR_preV 0 4 hK hP rfl rfl) rfl rfl hl.1 rfl (lv_room (Nat.le_of_ble_eq_true rfl)) dX4_open_21 ⟨Nat.zero_le _, Nat.zero_le _⟩) ?_
    refine z_if_eq (tgt := 37) hx hb dX4_open_24 (by decide) (fun c_24 => ?_) (fun c_24 => ?_)
    · refine lv_aload_n hx hb dX4_open_37 rfl (lv_at hl 0 rfl) ?_
      refine va_get (D := D) (ci := 4) (v := .ref (X 2)) (C := RX4) (T := TX4) (N := 7) hx hb hts i4 hown hK hP 0 rfl rfl 1 (by decide) fl_19 (fun _ h9 => h9) rfl dX4_open_38 ?_
      refine z_callR (W.runV (As := []) (rest := []) ⟨hx, hb, hml, hown, hts⟩ (kX3_areAllOpened l D cI cZ X S O V ) (cwV 0 hts gX4_open_X3_areAllOpened rfl rfl rfl (by decide +kernel) ⟨Nat.le_of_ble_eq_true rfl, Nat.le_of_ble_eq_true rfl⟩) (zR_preV 2 3 hK hP rfl rfl) rfl rfl hl.1 rfl (lv_room (Nat.le_of_ble_eq_true rfl)) dX4_open_41 ⟨Nat.zero_le _, Nat.zero_le _⟩) ?_
      refine z_if_eq (tgt := 57) hx hb dX4_open_44 (by decide) (fun c_44 => ?_) (fun c_44 => ?_)
      · have hn : n0 < 30 := by
          rcases Nat.lt_or_ge n0 30 with h | h
          · exact h
          · exact absurd (nd_f c_44) (by rw [hct, show n0 = 30 by omega]; decide)
        refine lv_aload_n hx hb dX4_open_57 rfl (lv_at hl 0 rfl) ?_
        refine va_get (D := D) (ci := 4) (v := .ref (X 2)) (C := RX4) (T := TX4) (N := 7) hx hb hts i4 hown hK hP 0 rfl rfl 1 (by decide) fl_19 (fun _ h9 => h9) rfl dX4_open_58 ?_
        refine lv_iload_n hx hb dX4_open_61 rfl (lv_at hl 1 rfl) ?_
        refine lv_aload_n hx hb dX4_open_62 rfl (lv_at hl 0 rfl) ?_
        refine va_get (D := D) (ci := 4) (v := .ref (X 3)) (C := RX4) (T := TX4) (N := 7) hx hb hts i4 hown hK hP 0 rfl rfl 2 (by decide) fl_26 (fun _ h9 => h9) rfl dX4_open_63 ?_
        refine z_callR (W.runV (As := []) (rest := [.int x0, .ref (X 2)]) ⟨hx, hb, hml, hown, hts⟩ (kX2_signing l D cI cZ X S O V ) (cwV 0 hts gX4_open_X2_signing rfl rfl rfl (by decide +kernel) ⟨Nat.le_of_ble_eq_true rfl, Nat.le_of_ble_eq_true rfl⟩) (zR_preV 3 2 hK hP rfl rfl) rfl rfl hl.1 rfl (lv_room (Nat.le_of_ble_eq_true rfl)) dX4_open_66 ⟨Nat.zero_le _, Nat.zero_le _⟩) ?_
        refine lv_aload_n hx hb dX4_open_69 rfl (lv_at hl 0 rfl) ?_
        refine va_get (D := D) (ci := 4) (v := .int (V 0)) (C := RX4) (T := TX4) (N := 7) hx hb hts i4 hown hK hP 0 rfl rfl 6 (by decide) fl_44 (fun _ h9 => h9) rfl dX4_open_70 ?_
        have hF := z_free hD hS hA
        refine z_callWi (va_runV (As := [.int x0, .int (V 2), .int (V 0)]) (rest := []) ⟨hx, hb, hml, hown, hts⟩ (kX3_add l D cI cZ X S O V _ x0 (V 2) (V 0) n0 hn hct) (cwV 3 hts gX4_open_X3_add rfl rfl rfl (by decide +kernel) ⟨Nat.le_of_ble_eq_true rfl, Nat.le_of_ble_eq_true rfl⟩) (zW_preV 2 3 hK hP hD rfl rfl) rfl rfl hl.1 rfl (lv_room (Nat.le_of_ble_eq_true rfl)) dX4_open_73 ⟨Nat.zero_le _, Nat.zero_le _⟩) hS hF (fun H locs hP hD hS => ?_)
        exact z_tret hx hb hr hlocks hP hK hD hS (by simp [c_opK, c_6, xpi, (of_decide_eq_false c_24), (eq_true (nd_f c_44))]) rfl dX4_open_76
      · exact z_throw (cls := "java/lang/IllegalStateException") (text := "no more sessions can be opened") (ik := 70) (is := 113) (ic := 74) hx hb hl0 hown zxS_fit xk70 xi70 (fun w hw => hts w (xa70 w hw)) zxS_bad zxS_ot hZ (by decide +kernel) hS (by rw [hml]; exact hl.1) dX4_open_47 dX4_open_50 dX4_open_51 dX4_open_53 dX4_open_56 htb (by decide) (by decide) (by decide) (by decide) hlocks hP hK hD (Or.inr ⟨by simp [c_opK, c_6, xpi, (of_decide_eq_false c_24), (nd_t c_44)], rfl⟩)
    · exact z_throw (cls := "java/lang/IllegalStateException") (text := "the account is barred") (ik := 70) (is := 107) (ic := 74) hx hb hl0 hown zxS_fit xk70 xi70 (fun w hw => hts w (xa70 w hw)) zxS_bad zxS_ot hZ (by decide +kernel) hS (by rw [hml]; exact hl.1) dX4_open_27 dX4_open_30 dX4_open_31 dX4_open_33 dX4_open_36 htb (by decide) (by decide) (by decide) (by decide) hlocks hP hK hD (Or.inr ⟨by simp [c_opK, c_6, xpi, (eq_true (of_decide_eq_true c_24))], rfl⟩)
  · exact z_throw (cls := "java/lang/IllegalArgumentException") (text := "person is out of range") (ik := 52) (is := 101) (ic := 56) hx hb hl0 hown zxI_fit xk52 xi52 (fun w hw => hts w (xa52 w hw)) zxI_bad zxI_ot hZ (by decide +kernel) hS (by rw [hml]; exact hl.1) dX4_open_9 dX4_open_12 dX4_open_13 dX4_open_15 dX4_open_18 htb (by decide) (by decide) (by decide) (by decide) hlocks hP hK hD (Or.inl ⟨by simp [c_opK, c_6], rfl⟩)

set_option maxHeartbeats 4000000 in
set_option maxRecDepth 100000 in
theorem kX4_close (l : Launch) (hl0 : l.stackTraces = false) (D : va_G) (cI cZ : ClassId) (X : Nat → Nat) (S : Nat → Nat → Int32) (O : Nat → Bool) (V : Nat → Int32) (sz : Nat) (x0 : Int32) (n0 : Nat) (hn0 : n0 ≤ 30) (hct : V 1 = nI n0) : vx_Met l yX4_close wsX4_close ({ frames := 6, cells := 1, slots := 6, locals := 90 } : Room) (zT D (tyl cI cZ) (hW cI cZ X S O V) sz [.ref (X 0), .int x0]) (zTi D (tyl cI cZ) (hW cI cZ X S (va_up O (ix x0) true) V) (c_clK O V x0) (V 0 - S 13 (ix x0)) (va_A (hW cI cZ X S O V) sz)) (zXC D (tyl cI cZ) (hW cI cZ X S O V) (va_A (hW cI cZ X S O V) sz) (fun E => ((c_clK O V x0) = 1 ∧ E = "java/lang/IndexOutOfBoundsException") ∨ ((c_clK O V x0) = 2 ∧ E = "java/lang/IllegalStateException"))) 1 6 (va_A (hW cI cZ X S O V) sz) := by
  refine vx_ofW (cc := cX4_close) (maxL := 2) (ret := (some .int)) (by decide) rfl ?_
  intro p e s m args below meth c s₁ B hml htb hv
  obtain ⟨rfl, hsz, hP, hK, hD0, hZ⟩ := hv
  have hx := B.exec
  have hb := B.bytes
  have hr := B.returns
  have hts := atoms_spec (ws := wsX4_close) B.pre
  have hown : s.vm.findClass RX4 = some m.cls := findClass_of_methodNamed B.named
  have hlocks := B.notSynchronized
  subst hsz
  have hD := hD0.self (sz := s.heap.size)
  generalize hAe : va_A (hW cI cZ X S O V) s.heap.size = A at hD hZ ⊢
  have hA : ∀ q : Nat, s.heap.size ≤ q → A q := fun q h => by rw [← hAe]; exact Or.inr h
  have hS : va_S A s.heap s.heap [] := va_S.rf
  have i4 : ∀ w ∈ u_ws RX4 TX4 7, w ∈ wsX4_close := by decide +kernel
  have fl_19 := hts (.fieldLink RX4 19 "SignOnHouse" "sessions" "LSignOnHouse$Sessions;") (by decide +kernel)
  have fl_44 := hts (.fieldLink RX4 44 "SignOnHouse" "minute" "I") (by decide +kernel)
  have xk70 := hts (.classLink RX4 70 "java/lang/IllegalStateException") (by decide +kernel)
  have xi70 := hts (.initialized "java/lang/IllegalStateException") (by decide +kernel)
  have xa70 : ∀ w ∈ (vx_atS RX4 74 "java/lang/IllegalStateException" xnames).filter goodWord, w ∈ wsX4_close := by decide +kernel
  have xk125 := hts (.classLink RX4 125 "java/lang/IndexOutOfBoundsException") (by decide +kernel)
  have xi125 := hts (.initialized "java/lang/IndexOutOfBoundsException") (by decide +kernel)
  have xa125 : ∀ w ∈ (vx_atS RX4 129 "java/lang/IndexOutOfBoundsException" xnames).filter goodWord, w ∈ wsX4_close := by decide +kernel
  have hl := lv_entry ([.ref (X 0), .int x0]) (n := 2) (Nat.le_of_ble_eq_true rfl)
  rw [lg_entry_eq]
  generalize (lg_sl ([.ref (X 0), .int x0]) ++ List.replicate (2 - (lg_sl ([.ref (X 0), .int x0])).length) Slot.unset).toArray = ls at hl ⊢
  have hl : lv_has ls 2 [(0, .ref (X 0)), (1, .int x0)] := hl
  refine lv_aload_n hx hb dX4_close_0 rfl (lv_at hl 0 rfl) ?_
  refine va_get (D := D) (ci := 4) (v := .ref (X 2)) (C := RX4) (T := TX4) (N := 7) hx hb hts i4 hown hK hP 0 rfl rfl 1 (by decide) fl_19 (fun _ h9 => h9) rfl dX4_close_1 ?_
  refine lv_iload_n hx hb dX4_close_4 rfl (lv_at hl 1 rfl) ?_
  refine z_callR (W.runV (As := [.int x0]) (rest := []) ⟨hx, hb, hml, hown, hts⟩ (kX3_has l D cI cZ X S O V x0) (cwV 1 hts gX4_close_X3_has rfl rfl rfl (by decide +kernel) ⟨Nat.le_of_ble_eq_true rfl, Nat.le_of_ble_eq_true rfl⟩) (zR_preV 2 3 hK hP rfl rfl) rfl rfl hl.1 rfl (lv_room (Nat.le_of_ble_eq_true rfl)) dX4_close_5 ⟨Nat.zero_le _, Nat.zero_le _⟩) ?_
  refine z_if_ne (tgt := 21) hx hb dX4_close_8 (by decide) (fun c_8 => ?_) (fun c_8 => ?_)
  · obtain ⟨si, hsi, esi⟩ := c_hasN c_8 hct hn0
    have xsi : ix x0 = si := ix_of esi (by omega)
    refine lv_aload_n hx hb dX4_close_21 rfl (lv_at hl 0 rfl) ?_
    refine va_get (D := D) (ci := 4) (v := .ref (X 2)) (C := RX4) (T := TX4) (N := 7) hx hb hts i4 hown hK hP 0 rfl rfl 1 (by decide) fl_19 (fun _ h9 => h9) rfl dX4_close_22 ?_
    refine lv_iload_n hx hb dX4_close_25 rfl (lv_at hl 1 rfl) ?_
    refine z_top (nI si) esi ?_
    refine z_callR (W.runV (As := [.int (nI si)]) (rest := []) ⟨hx, hb, hml, hown, hts⟩ (kX3_isOver l D cI cZ X S O V si (by omega)) (cwV 1 hts gX4_close_X3_isOver rfl rfl rfl (by decide +kernel) ⟨Nat.le_of_ble_eq_true rfl, Nat.le_of_ble_eq_true rfl⟩) (zR_preV 2 3 hK hP rfl rfl) rfl rfl hl.1 rfl (lv_room (Nat.le_of_ble_eq_true rfl)) dX4_close_26 ⟨Nat.zero_le _, Nat.zero_le _⟩) ?_
    refine z_if_eq (tgt := 42) hx hb dX4_close_29 (by decide) (fun c_29 => ?_) (fun c_29 => ?_)
    · refine lv_aload_n hx hb dX4_close_42 rfl (lv_at hl 0 rfl) ?_
      refine va_get (D := D) (ci := 4) (v := .ref (X 2)) (C := RX4) (T := TX4) (N := 7) hx hb hts i4 hown hK hP 0 rfl rfl 1 (by decide) fl_19 (fun _ h9 => h9) rfl dX4_close_43 ?_
      refine lv_iload_n hx hb dX4_close_46 rfl (lv_at hl 1 rfl) ?_
      refine z_top (nI si) esi ?_
      have hF := z_free hD hS hA
      refine z_callWv (va_runV (As := [.int (nI si)]) (rest := []) ⟨hx, hb, hml, hown, hts⟩ (kX3_end l D cI cZ X S O V _ si (by omega)) (cwV 1 hts gX4_close_X3_end rfl rfl rfl (by decide +kernel) ⟨Nat.le_of_ble_eq_true rfl, Nat.le_of_ble_eq_true rfl⟩) (zW_preV 2 3 hK hP hD rfl rfl) rfl rfl hl.1 rfl (lv_room (Nat.le_of_ble_eq_true rfl)) dX4_close_47 ⟨Nat.zero_le _, Nat.zero_le _⟩) hS hF (fun H locs hP hD hS => ?_)
      refine lv_aload_n hx hb dX4_close_50 rfl (lv_at hl 0 rfl) ?_
      refine va_get (D := D) (ci := 4) (v := .ref (X 2)) (C := RX4) (T := TX4) (N := 7) hx hb hts i4 hown hK hP 0 rfl rfl 1 (by decide) fl_19 (fun _ h9 => h9) rfl dX4_close_51 ?_
      refine lv_iload_n hx hb dX4_close_54 rfl (lv_at hl 1 rfl) ?_
      refine z_top (nI si) esi ?_
      refine lv_aload_n hx hb dX4_close_55 rfl (lv_at hl 0 rfl) ?_
      refine va_get (D := D) (ci := 4) (v := .int (V 0)) (C := RX4) (T := TX4) (N := 7) hx hb hts i4 hown hK hP 0 rfl rfl 6 (by decide) fl_44 (fun _ h9 => h9) rfl dX4_close_56 ?_
      refine z_callR (W.runV (As := [.int (nI si), .int (V 0)]) (rest := []) ⟨hx, hb, hml, hown, hts⟩ (kX3_age l D cI cZ X S (va_up O si true) V si (V 0) (by omega)) (cwV 2 hts gX4_close_X3_age rfl rfl rfl (by decide +kernel) ⟨Nat.le_of_ble_eq_true rfl, Nat.le_of_ble_eq_true rfl⟩) (zR_preV 2 3 hK hP rfl rfl) rfl rfl hl.1 rfl (lv_room (Nat.le_of_ble_eq_true rfl)) dX4_close_59 ⟨Nat.zero_le _, Nat.zero_le _⟩) ?_
      have eO : (va_up O (ix x0) true) = (va_up O si true) := by simp [c_clK, bi, c_8, xsi, c_29]
      exact z_tret hx hb hr hlocks (by rw [eO]; exact hP) hK (by rw [eO]; exact hD) hS (by simp [c_clK, c_8, xsi, c_29]) (by simp [c_clK, bi, c_8, xsi, c_29]) dX4_close_62
    · exact z_throw (cls := "java/lang/IllegalStateException") (text := "the session is over") (ik := 70) (is := 133) (ic := 74) hx hb hl0 hown zxS_fit xk70 xi70 (fun w hw => hts w (xa70 w hw)) zxS_bad zxS_ot hZ (by decide +kernel) hS (by rw [hml]; exact hl.1) dX4_close_32 dX4_close_35 dX4_close_36 dX4_close_38 dX4_close_41 htb (by decide) (by decide) (by decide) (by decide) hlocks hP hK hD (Or.inr ⟨by simp [c_clK, c_8, xsi, c_29], rfl⟩)
  · exact z_throw (cls := "java/lang/IndexOutOfBoundsException") (text := "there is no such session") (ik := 125) (is := 127) (ic := 129) hx hb hl0 hown zxB_fit xk125 xi125 (fun w hw => hts w (xa125 w hw)) zxB_bad zxB_ot hZ (by decide +kernel) hS (by rw [hml]; exact hl.1) dX4_close_11 dX4_close_14 dX4_close_15 dX4_close_17 dX4_close_20 htb (by decide) (by decide) (by decide) (by decide) hlocks hP hK hD (Or.inl ⟨by simp [c_clK, c_8], rfl⟩)

set_option maxHeartbeats 4000000 in
set_option maxRecDepth 100000 in
theorem kX4_goesOn (l : Launch) (hl0 : l.stackTraces = false) (D : va_G) (cI cZ : ClassId) (X : Nat → Nat) (S : Nat → Nat → Int32) (O : Nat → Bool) (V : Nat → Int32) (sz : Nat) (x0 : Int32) (n0 : Nat) (hn0 : n0 ≤ 30) (hct : V 1 = nI n0) : vx_Met l yX4_goesOn wsX4_goesOn ({ frames := 6, cells := 1, slots := 6, locals := 90 } : Room) (zT D (tyl cI cZ) (hW cI cZ X S O V) sz [.ref (X 0), .int x0]) (zTi D (tyl cI cZ) (hW cI cZ X S O V) (c_goK V x0) (bi (!O (ix x0))) (va_A (hW cI cZ X S O V) sz)) (zXC D (tyl cI cZ) (hW cI cZ X S O V) (va_A (hW cI cZ X S O V) sz) (fun E => ((c_goK V x0) = 1 ∧ E = "java/lang/IndexOutOfBoundsException"))) 1 6 (va_A (hW cI cZ X S O V) sz) := by
  refine vx_ofW (cc := cX4_goesOn) (maxL := 2) (ret := (some .boolean)) (by decide) rfl ?_
  intro p e s m args below meth c s₁ B hml htb hv
  obtain ⟨rfl, hsz, hP, hK, hD0, hZ⟩ := hv
  have hx := B.exec
  have hb := B.bytes
  have hr := B.returns
  have hts := atoms_spec (ws := wsX4_goesOn) B.pre
  have hown : s.vm.findClass RX4 = some m.cls := findClass_of_methodNamed B.named
  have hlocks := B.notSynchronized
  subst hsz
  have hD := hD0.self (sz := s.heap.size)
  generalize hAe : va_A (hW cI cZ X S O V) s.heap.size = A at hD hZ ⊢
  have hA : ∀ q : Nat, s.heap.size ≤ q → A q := fun q h => by rw [← hAe]; exact Or.inr h
  have hS : va_S A s.heap s.heap [] := va_S.rf
  have i4 : ∀ w ∈ u_ws RX4 TX4 7, w ∈ wsX4_goesOn := by decide +kernel
  have fl_19 := hts (.fieldLink RX4 19 "SignOnHouse" "sessions" "LSignOnHouse$Sessions;") (by decide +kernel)
  have xk125 := hts (.classLink RX4 125 "java/lang/IndexOutOfBoundsException") (by decide +kernel)
  have xi125 := hts (.initialized "java/lang/IndexOutOfBoundsException") (by decide +kernel)
  have xa125 : ∀ w ∈ (vx_atS RX4 129 "java/lang/IndexOutOfBoundsException" xnames).filter goodWord, w ∈ wsX4_goesOn := by decide +kernel
  have hl := lv_entry ([.ref (X 0), .int x0]) (n := 2) (Nat.le_of_ble_eq_true rfl)
  rw [lg_entry_eq]
  generalize (lg_sl ([.ref (X 0), .int x0]) ++ List.replicate (2 - (lg_sl ([.ref (X 0), .int x0])).length) Slot.unset).toArray = ls at hl ⊢
  have hl : lv_has ls 2 [(0, .ref (X 0)), (1, .int x0)] := hl
  refine lv_aload_n hx hb dX4_goesOn_0 rfl (lv_at hl 0 rfl) ?_
  refine va_get (D := D) (ci := 4) (v := .ref (X 2)) (C := RX4) (T := TX4) (N := 7) hx hb hts i4 hown hK hP 0 rfl rfl 1 (by decide) fl_19 (fun _ h9 => h9) rfl dX4_goesOn_1 ?_
  refine lv_iload_n hx hb dX4_goesOn_4 rfl (lv_at hl 1 rfl) ?_
  refine z_callR (W.runV (As := [.int x0]) (rest := []) ⟨hx, hb, hml, hown, hts⟩ (kX3_has l D cI cZ X S O V x0) (cwV 1 hts gX4_goesOn_X3_has rfl rfl rfl (by decide +kernel) ⟨Nat.le_of_ble_eq_true rfl, Nat.le_of_ble_eq_true rfl⟩) (zR_preV 2 3 hK hP rfl rfl) rfl rfl hl.1 rfl (lv_room (Nat.le_of_ble_eq_true rfl)) dX4_goesOn_5 ⟨Nat.zero_le _, Nat.zero_le _⟩) ?_
  refine z_if_ne (tgt := 21) hx hb dX4_goesOn_8 (by decide) (fun c_8 => ?_) (fun c_8 => ?_)
  · obtain ⟨si, hsi, esi⟩ := c_hasN c_8 hct hn0
    have xsi : ix x0 = si := ix_of esi (by omega)
    refine lv_aload_n hx hb dX4_goesOn_21 rfl (lv_at hl 0 rfl) ?_
    refine va_get (D := D) (ci := 4) (v := .ref (X 2)) (C := RX4) (T := TX4) (N := 7) hx hb hts i4 hown hK hP 0 rfl rfl 1 (by decide) fl_19 (fun _ h9 => h9) rfl dX4_goesOn_22 ?_
    refine lv_iload_n hx hb dX4_goesOn_25 rfl (lv_at hl 1 rfl) ?_
    refine z_top (nI si) esi ?_
    refine z_callR (W.runV (As := [.int (nI si)]) (rest := []) ⟨hx, hb, hml, hown, hts⟩ (kX3_isOver l D cI cZ X S O V si (by omega)) (cwV 1 hts gX4_goesOn_X3_isOver rfl rfl rfl (by decide +kernel) ⟨Nat.le_of_ble_eq_true rfl, Nat.le_of_ble_eq_true rfl⟩) (zR_preV 2 3 hK hP rfl rfl) rfl rfl hl.1 rfl (lv_room (Nat.le_of_ble_eq_true rfl)) dX4_goesOn_26 ⟨Nat.zero_le _, Nat.zero_le _⟩) ?_
    refine z_if_ne (tgt := 36) hx hb dX4_goesOn_29 (by decide) (fun c_29 => ?_) (fun c_29 => ?_)
    · refine lv_iconst (v := 0) hx hb dX4_goesOn_36 rfl ?_
      exact z_tzret hx hb hr hlocks hP hK hD hS (by simp [c_goK, c_8, xsi, c_29]) (by simp [c_goK, bi, c_8, xsi, c_29]) dX4_goesOn_37
    · refine lv_iconst (v := 1) hx hb dX4_goesOn_32 rfl ?_
      refine lv_goto (tgt := 37) hx hb dX4_goesOn_33 (by decide) ?_
      exact z_tzret hx hb hr hlocks hP hK hD hS (by simp [c_goK, c_8, xsi, c_29]) (by simp [c_goK, bi, c_8, xsi, c_29]) dX4_goesOn_37
  · exact z_throw (cls := "java/lang/IndexOutOfBoundsException") (text := "there is no such session") (ik := 125) (is := 127) (ic := 129) hx hb hl0 hown zxB_fit xk125 xi125 (fun w hw => hts w (xa125 w hw)) zxB_bad zxB_ot hZ (by decide +kernel) hS (by rw [hml]; exact hl.1) dX4_goesOn_11 dX4_goesOn_14 dX4_goesOn_15 dX4_goesOn_17 dX4_goesOn_20 htb (by decide) (by decide) (by decide) (by decide) hlocks hP hK hD ⟨by simp [c_goK, c_8], rfl⟩
