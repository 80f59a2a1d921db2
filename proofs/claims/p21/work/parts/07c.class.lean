set_option maxHeartbeats 4000000 in
set_option maxRecDepth 100000 in
theorem kX4_setGroup (l : Launch) (hl0 : l.stackTraces = false) (D : va_G) (cI cZ : ClassId) (X : Nat → Nat) (S : Nat → Nat → Int32) (O : Nat → Bool) (V : Nat → Int32) (sz : Nat) (x0 : Int32) (x1 : Int32) (b0 : Bool) : vx_Met l yX4_setGroup wsX4_setGroup ({ frames := 6, cells := 1, slots := 6, locals := 90 } : Room) (zT D (tyl cI cZ) (hW cI cZ X S O V) sz [.ref (X 0), .int x0, .int x1, .int (bi b0)]) (zTi D (tyl cI cZ) (hW cI cZ X (va_up S 8 (upd (S 8) (ix x1) (c_changed (S 8 (ix x1)) (nI (ix x0)) b0))) O V) (c_sgK S x0 x1 b0) (bi (hasB (S 8 (ix x1)) (nI (ix x0)))) (va_A (hW cI cZ X S O V) sz)) (zXC D (tyl cI cZ) (hW cI cZ X S O V) (va_A (hW cI cZ X S O V) sz) (fun E => ((c_sgK S x0 x1 b0) = 1 ∧ E = "java/lang/IllegalArgumentException") ∨ ((c_sgK S x0 x1 b0) = 2 ∧ E = "java/lang/IllegalStateException"))) 1 6 (va_A (hW cI cZ X S O V) sz) := by
  refine vx_ofW (cc := cX4_setGroup) (maxL := 4) (ret := (some .boolean)) (by decide) rfl ?_
  intro p e s m args below meth c s₁ B hml htb hv
  obtain ⟨rfl, hsz, hP, hK, hD0, hZ⟩ := hv
  have hx := B.exec
  have hb := B.bytes
  have hr := B.returns
  have hts := atoms_spec (ws := wsX4_setGroup) B.pre
  have hown : s.vm.findClass RX4 = some m.cls := findClass_of_methodNamed B.named
  have hlocks := B.notSynchronized
  subst hsz
  have hD := hD0.self (sz := s.heap.size)
  generalize hAe : va_A (hW cI cZ X S O V) s.heap.size = A at hD hZ ⊢
  have hA : ∀ q : Nat, s.heap.size ≤ q → A q := fun q h => by rw [← hAe]; exact Or.inr h
  have hS : va_S A s.heap s.heap [] := va_S.rf
  have i4 : ∀ w ∈ u_ws RX4 TX4 7, w ∈ wsX4_setGroup := by decide +kernel
  have fl_10 := hts (.fieldLink RX4 10 "SignOnHouse" "groups" "LSignOnHouse$Groups;") (by decide +kernel)
  have xk52 := hts (.classLink RX4 52 "java/lang/IllegalArgumentException") (by decide +kernel)
  have xi52 := hts (.initialized "java/lang/IllegalArgumentException") (by decide +kernel)
  have xa52 : ∀ w ∈ (vx_atS RX4 56 "java/lang/IllegalArgumentException" xnames).filter goodWord, w ∈ wsX4_setGroup := by decide +kernel
  have xk70 := hts (.classLink RX4 70 "java/lang/IllegalStateException") (by decide +kernel)
  have xi70 := hts (.initialized "java/lang/IllegalStateException") (by decide +kernel)
  have xa70 : ∀ w ∈ (vx_atS RX4 74 "java/lang/IllegalStateException" xnames).filter goodWord, w ∈ wsX4_setGroup := by decide +kernel
  have hl := lv_entry ([.ref (X 0), .int x0, .int x1, .int (bi b0)]) (n := 4) (Nat.le_of_ble_eq_true rfl)
  rw [lg_entry_eq]
  generalize (lg_sl ([.ref (X 0), .int x0, .int x1, .int (bi b0)]) ++ List.replicate (4 - (lg_sl ([.ref (X 0), .int x0, .int x1, .int (bi b0)])).length) Slot.unset).toArray = ls at hl ⊢
  have hl : lv_has ls 4 [(0, .ref (X 0)), (1, .int x0), (2, .int x1), (3, .int (bi b0))] := hl
  refine lv_iload_n hx hb dX4_setGroup_0 rfl (lv_at hl 1 rfl) ?_
  refine lv_bipush (v := 8) hx hb dX4_setGroup_1 (by decide) ?_
  refine z_callR (W.runS (As := [.int x0, .int 8]) (rest := []) ⟨hx, hb, hml, hown, hts⟩ (kX4_isOutside l x0 8) (va_cwS 2 hts gX4_setGroup_X4_isOutside rfl rfl rfl (by decide +kernel) ⟨Nat.le_of_ble_eq_true rfl, Nat.le_of_ble_eq_true rfl⟩) zP_pre rfl rfl hl.1 rfl (lv_room (Nat.le_of_ble_eq_true rfl)) dX4_setGroup_3 ⟨Nat.zero_le _, Nat.zero_le _⟩) ?_
  refine z_if_ne (tgt := 18) hx hb dX4_setGroup_6 (by decide) (fun c_6 => ?_) (fun c_6 => ?_)
  · exact z_throw (cls := "java/lang/IllegalArgumentException") (text := "group or inner is out of range") (ik := 52) (is := 63) (ic := 56) hx hb hl0 hown zxI_fit xk52 xi52 (fun w hw => hts w (xa52 w hw)) zxI_bad zxI_ot hZ (by decide +kernel) hS (by rw [hml]; exact hl.1) dX4_setGroup_18 dX4_setGroup_21 dX4_setGroup_22 dX4_setGroup_24 dX4_setGroup_27 htb (by decide) (by decide) (by decide) (by decide) hlocks hP hK hD (Or.inl ⟨by simp [c_sgK, c_6], rfl⟩)
  · obtain ⟨gi, hgi, egi⟩ := c_out8 c_6
    have xgi : ix x0 = gi := ix_of egi (by omega)
    refine lv_iload_n hx hb dX4_setGroup_9 rfl (lv_at hl 2 rfl) ?_
    refine lv_bipush (v := 8) hx hb dX4_setGroup_10 (by decide) ?_
    refine z_callR (W.runS (As := [.int x1, .int 8]) (rest := []) ⟨hx, hb, hml, hown, hts⟩ (kX4_isOutside l x1 8) (va_cwS 2 hts gX4_setGroup_X4_isOutside rfl rfl rfl (by decide +kernel) ⟨Nat.le_of_ble_eq_true rfl, Nat.le_of_ble_eq_true rfl⟩) zP_pre rfl rfl hl.1 rfl (lv_room (Nat.le_of_ble_eq_true rfl)) dX4_setGroup_12 ⟨Nat.zero_le _, Nat.zero_le _⟩) ?_
    refine z_if_eq (tgt := 28) hx hb dX4_setGroup_15 (by decide) (fun c_15 => ?_) (fun c_15 => ?_)
    · obtain ⟨ii, hii, eii⟩ := c_out8 c_15
      have xii : ix x1 = ii := ix_of eii (by omega)
      refine lv_iload_n hx hb dX4_setGroup_28 rfl (lv_at hl 1 rfl) ?_
      refine lv_iload_n hx hb dX4_setGroup_29 rfl (lv_at hl 2 rfl) ?_
      refine lv_icmp_ne (tgt := 43) hx hb dX4_setGroup_30 (by decide) (fun c_30 => ?_) (fun c_30 => ?_)
      · refine lv_iload_n hx hb dX4_setGroup_43 rfl (lv_at hl 3 rfl) ?_
        refine z_if_eq (tgt := 69) hx hb dX4_setGroup_44 (by decide) (fun c_44 => ?_) (fun c_44 => ?_)
        · refine lv_aload_n hx hb dX4_setGroup_69 rfl (lv_at hl 0 rfl) ?_
          refine va_get (D := D) (ci := 4) (v := .ref (X 1)) (C := RX4) (T := TX4) (N := 7) hx hb hts i4 hown hK hP 0 rfl rfl 0 (by decide) fl_10 (fun _ h9 => h9) rfl dX4_setGroup_70 ?_
          refine lv_iload_n hx hb dX4_setGroup_73 rfl (lv_at hl 1 rfl) ?_
          refine z_top (nI gi) egi ?_
          refine lv_iload_n hx hb dX4_setGroup_74 rfl (lv_at hl 2 rfl) ?_
          refine z_top (nI ii) eii ?_
          refine lv_iload_n hx hb dX4_setGroup_75 rfl (lv_at hl 3 rfl) ?_
          have hF := z_free hD hS hA
          refine z_callWi (va_runV (As := [.int (nI gi), .int (nI ii), .int (bi b0)]) (rest := []) ⟨hx, hb, hml, hown, hts⟩ (kX1_placeGroup l D cI cZ X S O V _ gi ii b0 (by omega) (by omega)) (cwV 3 hts gX4_setGroup_X1_placeGroup rfl rfl rfl (by decide +kernel) ⟨Nat.le_of_ble_eq_true rfl, Nat.le_of_ble_eq_true rfl⟩) (zW_preV 1 1 hK hP hD rfl rfl) rfl rfl hl.1 rfl (lv_room (Nat.le_of_ble_eq_true rfl)) dX4_setGroup_76 ⟨Nat.zero_le _, Nat.zero_le _⟩) hS hF (fun H locs hP hD hS => ?_)
          have eS : (va_up S 8 (upd (S 8) (ix x1) (c_changed (S 8 (ix x1)) (nI (ix x0)) b0))) = (va_up S 8 (upd (S 8) ii (c_changed (S 8 ii) (nI gi) b0))) := by simp [c_sgK, bi, c_6, xgi, c_15, xii, c_30, c_44]
          exact z_tzret hx hb hr hlocks (by rw [eS]; exact hP) hK (by rw [eS]; exact hD) hS (by simp [c_sgK, c_6, xgi, c_15, xii, c_30, c_44]) (by simp [c_sgK, bi, c_6, xgi, c_15, xii, c_30, c_44]) dX4_setGroup_79
        · refine lv_aload_n hx hb dX4_setGroup_47 rfl (lv_at hl 0 rfl) ?_
          refine va_get (D := D) (ci := 4) (v := .ref (X 1)) (C := RX4) (T := TX4) (N := 7) hx hb hts i4 hown hK hP 0 rfl rfl 0 (by decide) fl_10 (fun _ h9 => h9) rfl dX4_setGroup_48 ?_
          refine lv_iload_n hx hb dX4_setGroup_51 rfl (lv_at hl 2 rfl) ?_
          refine z_top (nI ii) eii ?_
          refine lv_iload_n hx hb dX4_setGroup_52 rfl (lv_at hl 1 rfl) ?_
          refine z_top (nI gi) egi ?_
          refine z_callR (W.runV (As := [.int (nI ii), .int (nI gi)]) (rest := []) ⟨hx, hb, hml, hown, hts⟩ (kX1_isAround l D cI cZ X S O V ii gi (by omega) (by omega)) (cwV 2 hts gX4_setGroup_X1_isAround rfl rfl rfl (by decide +kernel) ⟨Nat.le_of_ble_eq_true rfl, Nat.le_of_ble_eq_true rfl⟩) (zR_preV 1 1 hK hP rfl rfl) rfl rfl hl.1 rfl (lv_room (Nat.le_of_ble_eq_true rfl)) dX4_setGroup_53 ⟨Nat.zero_le _, Nat.zero_le _⟩) ?_
          refine z_if_eq (tgt := 69) hx hb dX4_setGroup_56 (by decide) (fun c_56 => ?_) (fun c_56 => ?_)
          · refine lv_aload_n hx hb dX4_setGroup_69 rfl (lv_at hl 0 rfl) ?_
            refine va_get (D := D) (ci := 4) (v := .ref (X 1)) (C := RX4) (T := TX4) (N := 7) hx hb hts i4 hown hK hP 0 rfl rfl 0 (by decide) fl_10 (fun _ h9 => h9) rfl dX4_setGroup_70 ?_
            refine lv_iload_n hx hb dX4_setGroup_73 rfl (lv_at hl 1 rfl) ?_
            refine z_top (nI gi) egi ?_
            refine lv_iload_n hx hb dX4_setGroup_74 rfl (lv_at hl 2 rfl) ?_
            refine z_top (nI ii) eii ?_
            refine lv_iload_n hx hb dX4_setGroup_75 rfl (lv_at hl 3 rfl) ?_
            have hF := z_free hD hS hA
            refine z_callWi (va_runV (As := [.int (nI gi), .int (nI ii), .int (bi b0)]) (rest := []) ⟨hx, hb, hml, hown, hts⟩ (kX1_placeGroup l D cI cZ X S O V _ gi ii b0 (by omega) (by omega)) (cwV 3 hts gX4_setGroup_X1_placeGroup rfl rfl rfl (by decide +kernel) ⟨Nat.le_of_ble_eq_true rfl, Nat.le_of_ble_eq_true rfl⟩) (zW_preV 1 1 hK hP hD rfl rfl) rfl rfl hl.1 rfl (lv_room (Nat.le_of_ble_eq_true rfl)) dX4_setGroup_76 ⟨Nat.zero_le _, Nat.zero_le _⟩) hS hF (fun H locs hP hD hS => ?_)
            have eS : (va_up S 8 (upd (S 8) (ix x1) (c_changed (S 8 (ix x1)) (nI (ix x0)) b0))) = (va_up S 8 (upd (S 8) ii (c_changed (S 8 ii) (nI gi) b0))) := by simp [c_sgK, bi, c_6, xgi, c_15, xii, c_30, c_44, c_56]
            exact z_tzret hx hb hr hlocks (by rw [eS]; exact hP) hK (by rw [eS]; exact hD) hS (by simp [c_sgK, c_6, xgi, c_15, xii, c_30, c_44, c_56]) (by simp [c_sgK, bi, c_6, xgi, c_15, xii, c_30, c_44, c_56]) dX4_setGroup_79
          · exact z_throw (cls := "java/lang/IllegalStateException") (text := "a group would be in itself") (ik := 70) (is := 72) (ic := 74) hx hb hl0 hown zxS_fit xk70 xi70 (fun w hw => hts w (xa70 w hw)) zxS_bad zxS_ot hZ (by decide +kernel) hS (by rw [hml]; exact hl.1) dX4_setGroup_59 dX4_setGroup_62 dX4_setGroup_63 dX4_setGroup_65 dX4_setGroup_68 htb (by decide) (by decide) (by decide) (by decide) hlocks hP hK hD (Or.inr ⟨by simp [c_sgK, c_6, xgi, c_15, xii, c_30, c_44, c_56], rfl⟩)
      · exact z_throw (cls := "java/lang/IllegalArgumentException") (text := "group and inner are the same") (ik := 52) (is := 65) (ic := 56) hx hb hl0 hown zxI_fit xk52 xi52 (fun w hw => hts w (xa52 w hw)) zxI_bad zxI_ot hZ (by decide +kernel) hS (by rw [hml]; exact hl.1) dX4_setGroup_33 dX4_setGroup_36 dX4_setGroup_37 dX4_setGroup_39 dX4_setGroup_42 htb (by decide) (by decide) (by decide) (by decide) hlocks hP hK hD (Or.inl ⟨by simp [c_sgK, c_6, xgi, c_15, xii, (eq_true c_30)], rfl⟩)
    · exact z_throw (cls := "java/lang/IllegalArgumentException") (text := "group or inner is out of range") (ik := 52) (is := 63) (ic := 56) hx hb hl0 hown zxI_fit xk52 xi52 (fun w hw => hts w (xa52 w hw)) zxI_bad zxI_ot hZ (by decide +kernel) hS (by rw [hml]; exact hl.1) dX4_setGroup_18 dX4_setGroup_21 dX4_setGroup_22 dX4_setGroup_24 dX4_setGroup_27 htb (by decide) (by decide) (by decide) (by decide) hlocks hP hK hD (Or.inl ⟨by simp [c_sgK, c_6, xgi, c_15], rfl⟩)

set_option maxHeartbeats 4000000 in
set_option maxRecDepth 100000 in
theorem kX4_open (l : Launch) (hl0 : l.stackTraces = false) (D : va_G) (cI cZ : ClassId) (X : Nat → Nat) (S : Nat → Nat → Int32) (O : Nat → Bool) (V : Nat → Int32) (sz : Nat) (x0 : Int32) (n0 : Nat) (hn0 : n0 ≤ 30) (hct : V 1 = nI n0) : vx_Met l yX4_open wsX4_open ({ frames := 6, cells := 1, slots := 6, locals := 90 } : Room) (zT D (tyl cI cZ) (hW cI cZ X S O V) sz [.ref (X 0), .int x0]) (zTi D (tyl cI cZ) (hW cI cZ X (va_up (va_up (va_up (va_up S 11 (upd (S 11) n0 x0)) 12 (upd (S 12) n0 (V 2))) 13 (upd (S 13) n0 (V 0))) 14 (upd (S 14) n0 (V 0))) O (va_up V 1 (V 1 + 1))) (c_opK S V x0) (nI n0) (va_A (hW cI cZ X S O V) sz)) (zXC D (tyl cI cZ) (hW cI cZ X S O V) (va_A (hW cI cZ X S O V) sz) (fun E => ((c_opK S V x0) = 1 ∧ E = "java/lang/IllegalArgumentException") ∨ ((c_opK S V x0) = 2 ∧ E = "java/lang/IllegalStateException"))) 1 6 (va_A (hW cI cZ X S O V) sz) := by
  refine vx_ofW (cc := cX4_open) (maxL := 2) (ret := (some .int)) (by decide) rfl ?_
  intro p e s m args below meth c s₁ B hml htb hv
  obtain ⟨rfl, hsz, hP, hK, hD0, hZ⟩ := hv
  have hx := B.exec
  have hb := B.bytes
  have hr := B.returns
  have hts := atoms_spec (ws := wsX4_open) B.pre
  have hown : s.vm.findClass RX4 = some m.cls := findClass_of_methodNamed B.named
  have hlocks := B.notSynchronized
  subst hsz
  have hD := hD0.self (sz := s.heap.size)
  generalize hAe : va_A (hW cI cZ X S O V) s.heap.size = A at hD hZ ⊢
  have hA : ∀ q : Nat, s.heap.size ≤ q → A q := fun q h => by rw [← hAe]; exact Or.inr h
  have hS : va_S A s.heap s.heap [] := va_S.rf
  have i4 : ∀ w ∈ u_ws RX4 TX4 7, w ∈ wsX4_open := by decide +kernel
  have fl_19 := hts (.fieldLink RX4 19 "SignOnHouse" "sessions" "LSignOnHouse$Sessions;") (by decide +kernel)
  have fl_26 := hts (.fieldLink RX4 26 "SignOnHouse" "keys" "LSignOnHouse$Keys;") (by decide +kernel)
  have fl_44 := hts (.fieldLink RX4 44 "SignOnHouse" "minute" "I") (by decide +kernel)
  have xk52 := hts (.classLink RX4 52 "java/lang/IllegalArgumentException") (by decide +kernel)
  have xi52 := hts (.initialized "java/lang/IllegalArgumentException") (by decide +kernel)
  have xa52 : ∀ w ∈ (vx_atS RX4 56 "java/lang/IllegalArgumentException" xnames).filter goodWord, w ∈ wsX4_open := by decide +kernel
  have xk70 := hts (.classLink RX4 70 "java/lang/IllegalStateException") (by decide +kernel)
  have xi70 := hts (.initialized "java/lang/IllegalStateException") (by decide +kernel)
  have xa70 : ∀ w ∈ (vx_atS RX4 74 "java/lang/IllegalStateException" xnames).filter goodWord, w ∈ wsX4_open := by decide +kernel
  have hl := lv_entry ([.ref (X 0), .int x0]) (n := 2) (Nat.le_of_ble_eq_true rfl)
  rw [lg_entry_eq]
  generalize (lg_sl ([.ref (X 0), .int x0]) ++ List.replicate (2 - (lg_sl ([.ref (X 0), .int x0])).length) Slot.unset).toArray = ls at hl ⊢
  have hl : lv_has ls 2 [(0, .ref (X 0)), (1, .int x0)] := hl
  refine lv_iload_n hx hb dX4_open_0 rfl (lv_at hl 1 rfl) ?_
  refine lv_bipush (v := 10) hx hb dX4_open_1 (by decide) ?_
  refine z_callR (W.runS (As := [.int x0, .int 10]) (rest := []) ⟨hx, hb, hml, hown, hts⟩ (kX4_isOutside l x0 10) (va_cwS 2 hts gX4_open_X4_isOutside rfl rfl rfl (by decide +kernel) ⟨Nat.le_of_ble_eq_true rfl, Nat.le_of_ble_eq_true rfl⟩) zP_pre rfl rfl hl.1 rfl (lv_room (Nat.le_of_ble_eq_true rfl)) dX4_open_3 ⟨Nat.zero_le _, Nat.zero_le _⟩) ?_
  refine z_if_eq (tgt := 19) hx hb dX4_open_6 (by decide) (fun c_6 => ?_) (fun c_6 => ?_)
  · obtain ⟨pi, hpi, epi⟩ := c_out10 c_6
    have xpi : ix x0 = pi := ix_of epi (by omega)
    refine lv_aload_n hx hb dX4_open_19 rfl (lv_at hl 0 rfl) ?_
    refine lv_iload_n hx hb dX4_open_20 rfl (lv_at hl 1 rfl) ?_
    refine z_top (nI pi) epi ?_
    refine z_callR (W.runV (As := [.int (nI pi)]) (rest := []) ⟨hx, hb, hml, hown, hts⟩ (kX4_isBarred l D cI cZ X S O V pi (by omega)) (cwV 1 hts gX4_open_X4_isBarred rfl rfl rfl (by decide +kernel) ⟨Nat.le_of_ble_eq_true rfl, Nat.le_of_ble_eq_true rfl⟩) (zR_preV 0 4 hK hP rfl rfl) rfl rfl hl.1 rfl (lv_room (Nat.le_of_ble_eq_true rfl)) dX4_open_21 ⟨Nat.zero_le _, Nat.zero_le _⟩) ?_
    refine z_if_eq (tgt := 37) hx hb dX4_open_24 (by decide) (fun c_24 => ?_) (fun c_24 => ?_)
    · refine lv_aload_n hx hb dX4_open_37 rfl (lv_at hl 0 rfl) ?_
      refine va_get (D := D) (ci := 4) (v := .ref (X 2)) (C := RX4) (T := TX4) (N := 7) hx hb hts i4 hown hK hP 0 rfl rfl 1 (by decide) fl_19 (fun _ h9 => h9) rfl dX4_open_38 ?_
      refine z_callR (W.runV (As := []) (rest := []) ⟨hx, hb, hml, hown, hts⟩ (kX3_areAllOpened l D cI cZ X S O V ) (cwV 0 hts gX4_open_X3_areAllOpened rfl rfl rfl (by decide +kernel) ⟨Nat.le_of_ble_eq_true rfl, Nat.le_of_ble_eq_true rfl⟩) (zR_preV 2 3 hK hP rfl rfl) rfl rfl hl.1 rfl (lv_room (Nat.le_of_ble_eq_true rfl)) dX4_open_41 ⟨Nat.zero_le _, Nat.zero_le _⟩) ?_
      refine z_if_eq (tgt := 57) hx hb dX4_open_44 (by decide) (fun c_44 => ?_) (fun c_44 => ?_)
      · have hn : n0 < 30 := by
          rcases Nat.lt_or_ge n0 30 with h | h
          · exact h
          · exact absurd (nd_f c_44) (by rw [hct, show n0 = 30 by omega]; decide)
        refine lv_aload_n hx hb dX4_open_57 rfl (lv_at hl 0 rfl) ?_
        refine va_get (D := D) (ci := 4) (v := .ref (X 2)) (C := RX4) (T := TX4) (N := 7) hx hb hts i4 hown hK hP 0 rfl rfl 1 (by decide) fl_19 (fun _ h9 => h9) rfl dX4_open_58 ?_
        refine lv_iload_n hx hb dX4_open_61 rfl (lv_at hl 1 rfl) ?_
        refine lv_aload_n hx hb dX4_open_62 rfl (lv_at hl 0 rfl) ?_
        refine va_get (D := D) (ci := 4) (v := .ref (X 3)) (C := RX4) (T := TX4) (N := 7) hx hb hts i4 hown hK hP 0 rfl rfl 2 (by decide) fl_26 (fun _ h9 => h9) rfl dX4_open_63 ?_
        refine z_callR (W.runV (As := []) (rest := [.int x0, .ref (X 2)]) ⟨hx, hb, hml, hown, hts⟩ (kX2_signing l D cI cZ X S O V ) (cwV 0 hts gX4_open_X2_signing rfl rfl rfl (by decide +kernel) ⟨Nat.le_of_ble_eq_true rfl, Nat.le_of_ble_eq_true rfl⟩) (zR_preV 3 2 hK hP rfl rfl) rfl rfl hl.1 rfl (lv_room (Nat.le_of_ble_eq_true rfl)) dX4_open_66 ⟨Nat.zero_le _, Nat.zero_le _⟩) ?_
        refine lv_aload_n hx hb dX4_open_69 rfl (lv_at hl 0 rfl) ?_
        refine va_get (D := D) (ci := 4) (v := .int (V 0)) (C := RX4) (T := TX4) (N := 7) hx hb hts i4 hown hK hP 0 rfl rfl 6 (by decide) fl_44 (fun _ h9 => h9) rfl dX4_open_70 ?_
        have hF := z_free hD hS hA
        refine z_callWi (va_runV (As := [.int x0, .int (V 2), .int (V 0)]) (rest := []) ⟨hx, hb, hml, hown, hts⟩ (kX3_add l D cI cZ X S O V _ x0 (V 2) (V 0) n0 hn hct) (cwV 3 hts gX4_open_X3_add rfl rfl rfl (by decide +kernel) ⟨Nat.le_of_ble_eq_true rfl, Nat.le_of_ble_eq_true rfl⟩) (zW_preV 2 3 hK hP hD rfl rfl) rfl rfl hl.1 rfl (lv_room (Nat.le_of_ble_eq_true rfl)) dX4_open_73 ⟨Nat.zero_le _, Nat.zero_le _⟩) hS hF (fun H locs hP hD hS => ?_)
        exact z_tret hx hb hr hlocks hP hK hD hS (by simp [c_opK, c_6, xpi, (of_decide_eq_false c_24), (eq_true (nd_f c_44))]) rfl dX4_open_76
      · exact z_throw (cls := "java/lang/IllegalStateException") (text := "no more sessions can be opened") (ik := 70) (is := 113) (ic := 74) hx hb hl0 hown zxS_fit xk70 xi70 (fun w hw => hts w (xa70 w hw)) zxS_bad zxS_ot hZ (by decide +kernel) hS (by rw [hml]; exact hl.1) dX4_open_47 dX4_open_50 dX4_open_51 dX4_open_53 dX4_open_56 htb (by decide) (by decide) (by decide) (by decide) hlocks hP hK hD (Or.inr ⟨by simp [c_opK, c_6, xpi, (of_decide_eq_false c_24), (nd_t c_44)], rfl⟩)
    · exact z_throw (cls := "java/lang/IllegalStateException") (text := "the account is barred") (ik := 70) (is := 107) (ic := 74) hx hb hl0 hown zxS_fit xk70 xi70 (fun w hw => hts w (xa70 w hw)) zxS_bad zxS_ot hZ (by decide +kernel) hS (by rw [hml]; exact hl.1) dX4_open_27 dX4_open_30 dX4_open_31 dX4_open_33 dX4_open_36 htb (by decide) (by decide) (by decide) (by decide) hlocks hP hK hD (Or.inr ⟨by simp [c_opK, c_6, xpi, (eq_true (of_decide_eq_true c_24))], rfl⟩)
  · exact z_throw (cls := "java/lang/IllegalArgumentException") (text := "person is out of range") (ik := 52) (is := 101) (ic := 56) hx hb hl0 hown zxI_fit xk52 xi52 (fun w hw => hts w (xa52 w hw)) zxI_bad zxI_ot hZ (by decide +kernel) hS (by rw [hml]; exact hl.1) dX4_open_9 dX4_open_12 dX4_open_13 dX4_open_15 dX4_open_18 htb (by decide) (by decide) (by decide) (by decide) hlocks hP hK hD (Or.inl ⟨by simp [c_opK, c_6], rfl⟩)

set_option maxHeartbeats 4000000 in
set_option maxRecDepth 100000 in
theorem kX4_close (l : Launch) (hl0 : l.stackTraces = false) (D : va_G) (cI cZ : ClassId) (X : Nat → Nat) (S : Nat → Nat → Int32) (O : Nat → Bool) (V : Nat → Int32) (sz : Nat) (x0 : Int32) (n0 : Nat) (hn0 : n0 ≤ 30) (hct : V 1 = nI n0) : vx_Met l yX4_close wsX4_close ({ frames := 6, cells := 1, slots := 6, locals := 90 } : Room) (zT D (tyl cI cZ) (hW cI cZ X S O V) sz [.ref (X 0), .int x0]) (zTi D (tyl cI cZ) (hW cI cZ X S (va_up O (ix x0) true) V) (c_clK O V x0) (V 0 - S 13 (ix x0)) (va_A (hW cI cZ X S O V) sz)) (zXC D (tyl cI cZ) (hW cI cZ X S O V) (va_A (hW cI cZ X S O V) sz) (fun E => ((c_clK O V x0) = 1 ∧ E = "java/lang/IndexOutOfBoundsException") ∨ ((c_clK O V x0) = 2 ∧ E = "java/lang/IllegalStateException"))) 1 6 (va_A (hW cI cZ X S O V) sz) := by
  refine vx_ofW (cc := cX4_close) (maxL := 2) (ret := (some .int)) (by decide) rfl ?_
  intro p e s m args below meth c s₁ B hml htb hv
  obtain ⟨rfl, hsz, hP, hK, hD0, hZ⟩ := hv
  have hx := B.exec
  have hb := B.bytes
  have hr := B.returns
  have hts := atoms_spec (ws := wsX4_close) B.pre
  have hown : s.vm.findClass RX4 = some m.cls := findClass_of_methodNamed B.named
  have hlocks := B.notSynchronized
  subst hsz
  have hD := hD0.self (sz := s.heap.size)
  generalize hAe : va_A (hW cI cZ X S O V) s.heap.size = A at hD hZ ⊢
  have hA : ∀ q : Nat, s.heap.size ≤ q → A q := fun q h => by rw [← hAe]; exact Or.inr h
  have hS : va_S A s.heap s.heap [] := va_S.rf
  have i4 : ∀ w ∈ u_ws RX4 TX4 7, w ∈ wsX4_close := by decide +kernel
  have fl_19 := hts (.fieldLink RX4 19 "SignOnHouse" "sessions" "LSignOnHouse$Sessions;") (by decide +kernel)
  have fl_44 := hts (.fieldLink RX4 44 "SignOnHouse" "minute" "I") (by decide +kernel)
  have xk70 := hts (.classLink RX4 70 "java/lang/IllegalStateException") (by decide +kernel)
  have xi70 := hts (.initialized "java/lang/IllegalStateException") (by decide +kernel)
  have xa70 : ∀ w ∈ (vx_atS RX4 74 "java/lang/IllegalStateException" xnames).filter goodWord, w ∈ wsX4_close := by decide +kernel
  have xk125 := hts (.classLink RX4 125 "java/lang/IndexOutOfBoundsException") (by decide +kernel)
  have xi125 := hts (.initialized "java/lang/IndexOutOfBoundsException") (by decide +kernel)
  have xa125 : ∀ w ∈ (vx_atS RX4 129 "java/lang/IndexOutOfBoundsException" xnames).filter goodWord, w ∈ wsX4_close := by decide +kernel
  have hl := lv_entry ([.ref (X 0), .int x0]) (n := 2) (Nat.le_of_ble_eq_true rfl)
  rw [lg_entry_eq]
  generalize (lg_sl ([.ref (X 0), .int x0]) ++ List.replicate (2 - (lg_sl ([.ref (X 0), .int x0])).length) Slot.unset).toArray = ls at hl ⊢
  have hl : lv_has ls 2 [(0, .ref (X 0)), (1, .int x0)] := hl
  refine lv_aload_n hx hb dX4_close_0 rfl (lv_at hl 0 rfl) ?_
  refine va_get (D := D) (ci := 4) (v := .ref (X 2)) (C := RX4) (T := TX4) (N := 7) hx hb hts i4 hown hK hP 0 rfl rfl 1 (by decide) fl_19 (fun _ h9 => h9) rfl dX4_close_1 ?_
  refine lv_iload_n hx hb dX4_close_4 rfl (lv_at hl 1 rfl) ?_
  refine z_callR (W.runV (As := [.int x0]) (rest := []) ⟨hx, hb, hml, hown, hts⟩ (kX3_has l D cI cZ X S O V x0) (cwV 1 hts gX4_close_X3_has rfl rfl rfl (by decide +kernel) ⟨Nat.le_of_ble_eq_true rfl, Nat.le_of_ble_eq_true rfl⟩) (zR_preV 2 3 hK hP rfl rfl) rfl rfl hl.1 rfl (lv_room (Nat.le_of_ble_eq_true rfl)) dX4_close_5 ⟨Nat.zero_le _, Nat.zero_le _⟩) ?_
  refine z_if_ne (tgt := 21) hx hb dX4_close_8 (by decide) (fun c_8 => ?_) (fun c_8 => ?_)
  · obtain ⟨si, hsi, esi⟩ := c_hasN c_8 hct hn0
    have xsi : ix x0 = si := ix_of esi (by omega)
    refine lv_aload_n hx hb dX4_close_21 rfl (lv_at hl 0 rfl) ?_
    refine va_get (D := D) (ci := 4) (v := .ref (X 2)) (C := RX4) (T := TX4) (N := 7) hx hb hts i4 hown hK hP 0 rfl rfl 1 (by decide) fl_19 (fun _ h9 => h9) rfl dX4_close_22 ?_
    refine lv_iload_n hx hb dX4_close_25 rfl (lv_at hl 1 rfl) ?_
    refine z_top (nI si) esi ?_
    refine z_callR (W.runV (As := [.int (nI si)]) (rest := []) ⟨hx, hb, hml, hown, hts⟩ (kX3_isOver l D cI cZ X S O V si (by omega)) (cwV 1 hts gX4_close_X3_isOver rfl rfl rfl (by decide +kernel) ⟨Nat.le_of_ble_eq_true rfl, Nat.le_of_ble_eq_true rfl⟩) (zR_preV 2 3 hK hP rfl rfl) rfl rfl hl.1 rfl (lv_room (Nat.le_of_ble_eq_true rfl)) dX4_close_26 ⟨Nat.zero_le _, Nat.zero_le _⟩) ?_
    refine z_if_eq (tgt := 42) hx hb dX4_close_29 (by decide) (fun c_29 => ?_) (fun c_29 => ?_)
    · refine lv_aload_n hx hb dX4_close_42 rfl (lv_at hl 0 rfl) ?_
      refine va_get (D := D) (ci := 4) (v := .ref (X 2)) (C := RX4) (T := TX4) (N := 7) hx hb hts i4 hown hK hP 0 rfl rfl 1 (by decide) fl_19 (fun _ h9 => h9) rfl dX4_close_43 ?_
      refine lv_iload_n hx hb dX4_close_46 rfl (lv_at hl 1 rfl) ?_
      refine z_top (nI si) esi ?_
      have hF := z_free hD hS hA
      refine z_callWv (va_runV (As := [.int (nI si)]) (rest := []) ⟨hx, hb, hml, hown, hts⟩ (kX3_end l D cI cZ X S O V _ si (by omega)) (cwV 1 hts gX4_close_X3_end rfl rfl rfl (by decide +kernel) ⟨Nat.le_of_ble_eq_true rfl, Nat.le_of_ble_eq_true rfl⟩) (zW_preV 2 3 hK hP hD rfl rfl) rfl rfl hl.1 rfl (lv_room (Nat.le_of_ble_eq_true rfl)) dX4_close_47 ⟨Nat.zero_le _, Nat.zero_le _⟩) hS hF (fun H locs hP hD hS => ?_)
      refine lv_aload_n hx hb dX4_close_50 rfl (lv_at hl 0 rfl) ?_
      refine va_get (D := D) (ci := 4) (v := .ref (X 2)) (C := RX4) (T := TX4) (N := 7) hx hb hts i4 hown hK hP 0 rfl rfl 1 (by decide) fl_19 (fun _ h9 => h9) rfl dX4_close_51 ?_
      refine lv_iload_n hx hb dX4_close_54 rfl (lv_at hl 1 rfl) ?_
      refine z_top (nI si) esi ?_
      refine lv_aload_n hx hb dX4_close_55 rfl (lv_at hl 0 rfl) ?_
      refine va_get (D := D) (ci := 4) (v := .int (V 0)) (C := RX4) (T := TX4) (N := 7) hx hb hts i4 hown hK hP 0 rfl rfl 6 (by decide) fl_44 (fun _ h9 => h9) rfl dX4_close_56 ?_
      refine z_callR (W.runV (As := [.int (nI si), .int (V 0)]) (rest := []) ⟨hx, hb, hml, hown, hts⟩ (kX3_age l D cI cZ X S (va_up O si true) V si (V 0) (by omega)) (cwV 2 hts gX4_close_X3_age rfl rfl rfl (by decide +kernel) ⟨Nat.le_of_ble_eq_true rfl, Nat.le_of_ble_eq_true rfl⟩) (zR_preV 2 3 hK hP rfl rfl) rfl rfl hl.1 rfl (lv_room (Nat.le_of_ble_eq_true rfl)) dX4_close_59 ⟨Nat.zero_le _, Nat.zero_le _⟩) ?_
      have eO : (va_up O (ix x0) true) = (va_up O si true) := by simp [c_clK, bi, c_8, xsi, c_29]
      exact z_tret hx hb hr hlocks (by rw [eO]; exact hP) hK (by rw [eO]; exact hD) hS (by simp [c_clK, c_8, xsi, c_29]) (by simp [c_clK, bi, c_8, xsi, c_29]) dX4_close_62
    · exact z_throw (cls := "java/lang/IllegalStateException") (text := "the session is over") (ik := 70) (is := 133) (ic := 74) hx hb hl0 hown zxS_fit xk70 xi70 (fun w hw => hts w (xa70 w hw)) zxS_bad zxS_ot hZ (by decide +kernel) hS (by rw [hml]; exact hl.1) dX4_close_32 dX4_close_35 dX4_close_36 dX4_close_38 dX4_close_41 htb (by decide) (by decide) (by decide) (by decide) hlocks hP hK hD (Or.inr ⟨by simp [c_clK, c_8, xsi, c_29], rfl⟩)
  · exact z_throw (cls := "java/lang/IndexOutOfBoundsException") (text := "there is no such session") (ik := 125) (is := 127) (ic := 129) hx hb hl0 hown zxB_fit xk125 xi125 (fun w hw => hts w (xa125 w hw)) zxB_bad zxB_ot hZ (by decide +kernel) hS (by rw [hml]; exact hl.1) dX4_close_11 dX4_close_14 dX4_close_15 dX4_close_17 dX4_close_20 htb (by decide) (by decide) (by decide) (by decide) hlocks hP hK hD (Or.inl ⟨by simp [c_clK, c_8], rfl⟩)

set_option maxHeartbeats 4000000 in
set_option maxRecDepth 100000 in
theorem kX4_breakGlass (l : Launch) (hl0 : l.stackTraces = false) (D : va_G) (cI cZ : ClassId) (X : Nat → Nat) (S : Nat → Nat → Int32) (O : Nat → Bool) (V : Nat → Int32) (sz : Nat) (x0 : Int32) (x1 : Int32) (x2 : Int32) (x3 : Int32) : vx_Met l yX4_breakGlass wsX4_breakGlass ({ frames := 6, cells := 1, slots := 6, locals := 111 } : Room) (zT D (tyl cI cZ) (hW cI cZ X S O V) sz [.ref (X 0), .int x0, .int x1, .int x2, .int x3]) (zTi D (tyl cI cZ) (hW cI cZ X (va_up S 6 (upd (S 6) (ix x0 * 6 + ix x1) (V 0 + 60))) O V) (c_bgK S x0 x1 x2 x3) (V 0 + 60) (va_A (hW cI cZ X S O V) sz)) (zXC D (tyl cI cZ) (hW cI cZ X S O V) (va_A (hW cI cZ X S O V) sz) (fun E => ((c_bgK S x0 x1 x2 x3) = 1 ∧ E = "java/lang/IllegalArgumentException") ∨ ((c_bgK S x0 x1 x2 x3) = 2 ∧ E = "java/lang/IllegalStateException"))) 1 6 (va_A (hW cI cZ X S O V) sz) := by
  refine vx_ofW (cc := cX4_breakGlass) (maxL := 6) (ret := (some .int)) (by decide) rfl ?_
  intro p e s m args below meth c s₁ B hml htb hv
  obtain ⟨rfl, hsz, hP, hK, hD0, hZ⟩ := hv
  have hx := B.exec
  have hb := B.bytes
  have hr := B.returns
  have hts := atoms_spec (ws := wsX4_breakGlass) B.pre
  have hown : s.vm.findClass RX4 = some m.cls := findClass_of_methodNamed B.named
  have hlocks := B.notSynchronized
  subst hsz
  have hD := hD0.self (sz := s.heap.size)
  generalize hAe : va_A (hW cI cZ X S O V) s.heap.size = A at hD hZ ⊢
  have hA : ∀ q : Nat, s.heap.size ≤ q → A q := fun q h => by rw [← hAe]; exact Or.inr h
  have hS : va_S A s.heap s.heap [] := va_S.rf
  have i4 : ∀ w ∈ u_ws RX4 TX4 7, w ∈ wsX4_breakGlass := by decide +kernel
  have fl_41 := hts (.fieldLink RX4 41 "SignOnHouse" "glassEnds" "[I") (by decide +kernel)
  have fl_44 := hts (.fieldLink RX4 44 "SignOnHouse" "minute" "I") (by decide +kernel)
  have xk52 := hts (.classLink RX4 52 "java/lang/IllegalArgumentException") (by decide +kernel)
  have xi52 := hts (.initialized "java/lang/IllegalArgumentException") (by decide +kernel)
  have xa52 : ∀ w ∈ (vx_atS RX4 56 "java/lang/IllegalArgumentException" xnames).filter goodWord, w ∈ wsX4_breakGlass := by decide +kernel
  have xk70 := hts (.classLink RX4 70 "java/lang/IllegalStateException") (by decide +kernel)
  have xi70 := hts (.initialized "java/lang/IllegalStateException") (by decide +kernel)
  have xa70 : ∀ w ∈ (vx_atS RX4 74 "java/lang/IllegalStateException" xnames).filter goodWord, w ∈ wsX4_breakGlass := by decide +kernel
  have hl := lv_entry ([.ref (X 0), .int x0, .int x1, .int x2, .int x3]) (n := 6) (Nat.le_of_ble_eq_true rfl)
  rw [lg_entry_eq]
  generalize (lg_sl ([.ref (X 0), .int x0, .int x1, .int x2, .int x3]) ++ List.replicate (6 - (lg_sl ([.ref (X 0), .int x0, .int x1, .int x2, .int x3])).length) Slot.unset).toArray = ls at hl ⊢
  have hl : lv_has ls 6 [(0, .ref (X 0)), (1, .int x0), (2, .int x1), (3, .int x2), (4, .int x3)] := hl
  refine lv_iload_n hx hb dX4_breakGlass_0 rfl (lv_at hl 1 rfl) ?_
  refine lv_bipush (v := 10) hx hb dX4_breakGlass_1 (by decide) ?_
  refine z_callR (W.runS (As := [.int x0, .int 10]) (rest := []) ⟨hx, hb, hml, hown, hts⟩ (kX4_isOutside l x0 10) (va_cwS 2 hts gX4_breakGlass_X4_isOutside rfl rfl rfl (by decide +kernel) ⟨Nat.le_of_ble_eq_true rfl, Nat.le_of_ble_eq_true rfl⟩) zP_pre rfl rfl hl.1 rfl (lv_room (Nat.le_of_ble_eq_true rfl)) dX4_breakGlass_3 ⟨Nat.zero_le _, Nat.zero_le _⟩) ?_
  refine z_if_ne (tgt := 18) hx hb dX4_breakGlass_6 (by decide) (fun c_6 => ?_) (fun c_6 => ?_)
  · exact z_throw (cls := "java/lang/IllegalArgumentException") (text := "person or role is out of range") (ik := 52) (is := 95) (ic := 56) hx hb hl0 hown zxI_fit xk52 xi52 (fun w hw => hts w (xa52 w hw)) zxI_bad zxI_ot hZ (by decide +kernel) hS (by rw [hml]; exact hl.1) dX4_breakGlass_18 dX4_breakGlass_21 dX4_breakGlass_22 dX4_breakGlass_24 dX4_breakGlass_27 htb (by decide) (by decide) (by decide) (by decide) hlocks hP hK hD (Or.inl ⟨by simp [c_bgK, c_6], rfl⟩)
  · obtain ⟨pi, hpi, epi⟩ := c_out10 c_6
    have xpi : ix x0 = pi := ix_of epi (by omega)
    refine lv_iload_n hx hb dX4_breakGlass_9 rfl (lv_at hl 2 rfl) ?_
    refine lv_bipush (v := 6) hx hb dX4_breakGlass_10 (by decide) ?_
    refine z_callR (W.runS (As := [.int x1, .int 6]) (rest := []) ⟨hx, hb, hml, hown, hts⟩ (kX4_isOutside l x1 6) (va_cwS 2 hts gX4_breakGlass_X4_isOutside rfl rfl rfl (by decide +kernel) ⟨Nat.le_of_ble_eq_true rfl, Nat.le_of_ble_eq_true rfl⟩) zP_pre rfl rfl hl.1 rfl (lv_room (Nat.le_of_ble_eq_true rfl)) dX4_breakGlass_12 ⟨Nat.zero_le _, Nat.zero_le _⟩) ?_
    refine z_if_eq (tgt := 28) hx hb dX4_breakGlass_15 (by decide) (fun c_15 => ?_) (fun c_15 => ?_)
    · obtain ⟨ri, hri, eri⟩ := c_out6 c_15
      have xri : ix x1 = ri := ix_of eri (by omega)
      refine lv_iload_n hx hb dX4_breakGlass_28 rfl (lv_at hl 3 rfl) ?_
      refine lv_bipush (v := 10) hx hb dX4_breakGlass_29 (by decide) ?_
      refine z_callR (W.runS (As := [.int x2, .int 10]) (rest := []) ⟨hx, hb, hml, hown, hts⟩ (kX4_isOutside l x2 10) (va_cwS 2 hts gX4_breakGlass_X4_isOutside rfl rfl rfl (by decide +kernel) ⟨Nat.le_of_ble_eq_true rfl, Nat.le_of_ble_eq_true rfl⟩) zP_pre rfl rfl hl.1 rfl (lv_room (Nat.le_of_ble_eq_true rfl)) dX4_breakGlass_31 ⟨Nat.zero_le _, Nat.zero_le _⟩) ?_
      refine z_if_ne (tgt := 47) hx hb dX4_breakGlass_34 (by decide) (fun c_34 => ?_) (fun c_34 => ?_)
      · exact z_throw (cls := "java/lang/IllegalArgumentException") (text := "a witness is out of range") (ik := 52) (is := 159) (ic := 56) hx hb hl0 hown zxI_fit xk52 xi52 (fun w hw => hts w (xa52 w hw)) zxI_bad zxI_ot hZ (by decide +kernel) hS (by rw [hml]; exact hl.1) dX4_breakGlass_47 dX4_breakGlass_50 dX4_breakGlass_51 dX4_breakGlass_53 dX4_breakGlass_56 htb (by decide) (by decide) (by decide) (by decide) hlocks hP hK hD (Or.inl ⟨by simp [c_bgK, c_6, xpi, c_15, xri, c_34], rfl⟩)
      · obtain ⟨oi, hoi, eoi⟩ := c_out10 c_34
        have xoi : ix x2 = oi := ix_of eoi (by omega)
        refine lv_iload hx hb dX4_breakGlass_37 (lv_at hl 4 rfl) ?_
        refine lv_bipush (v := 10) hx hb dX4_breakGlass_39 (by decide) ?_
        refine z_callR (W.runS (As := [.int x3, .int 10]) (rest := []) ⟨hx, hb, hml, hown, hts⟩ (kX4_isOutside l x3 10) (va_cwS 2 hts gX4_breakGlass_X4_isOutside rfl rfl rfl (by decide +kernel) ⟨Nat.le_of_ble_eq_true rfl, Nat.le_of_ble_eq_true rfl⟩) zP_pre rfl rfl hl.1 rfl (lv_room (Nat.le_of_ble_eq_true rfl)) dX4_breakGlass_41 ⟨Nat.zero_le _, Nat.zero_le _⟩) ?_
        refine z_if_eq (tgt := 57) hx hb dX4_breakGlass_44 (by decide) (fun c_44 => ?_) (fun c_44 => ?_)
        · obtain ⟨ti, hti, eti⟩ := c_out10 c_44
          have xti : ix x3 = ti := ix_of eti (by omega)
          refine lv_iload_n hx hb dX4_breakGlass_57 rfl (lv_at hl 1 rfl) ?_
          refine lv_iload_n hx hb dX4_breakGlass_58 rfl (lv_at hl 3 rfl) ?_
          refine lv_icmp_eq (tgt := 74) hx hb dX4_breakGlass_59 (by decide) (fun c_59 => ?_) (fun c_59 => ?_)
          · exact z_throw (cls := "java/lang/IllegalArgumentException") (text := "two of the three people are the same") (ik := 52) (is := 161) (ic := 56) hx hb hl0 hown zxI_fit xk52 xi52 (fun w hw => hts w (xa52 w hw)) zxI_bad zxI_ot hZ (by decide +kernel) hS (by rw [hml]; exact hl.1) dX4_breakGlass_74 dX4_breakGlass_77 dX4_breakGlass_78 dX4_breakGlass_80 dX4_breakGlass_83 htb (by decide) (by decide) (by decide) (by decide) hlocks hP hK hD (Or.inl ⟨by simp [c_bgK, c_6, xpi, c_15, xri, c_34, xoi, c_44, xti, (eq_true c_59)], rfl⟩)
          · refine lv_iload_n hx hb dX4_breakGlass_62 rfl (lv_at hl 1 rfl) ?_
            refine lv_iload hx hb dX4_breakGlass_63 (lv_at hl 4 rfl) ?_
            refine lv_icmp_eq (tgt := 74) hx hb dX4_breakGlass_65 (by decide) (fun c_65 => ?_) (fun c_65 => ?_)
            · exact z_throw (cls := "java/lang/IllegalArgumentException") (text := "two of the three people are the same") (ik := 52) (is := 161) (ic := 56) hx hb hl0 hown zxI_fit xk52 xi52 (fun w hw => hts w (xa52 w hw)) zxI_bad zxI_ot hZ (by decide +kernel) hS (by rw [hml]; exact hl.1) dX4_breakGlass_74 dX4_breakGlass_77 dX4_breakGlass_78 dX4_breakGlass_80 dX4_breakGlass_83 htb (by decide) (by decide) (by decide) (by decide) hlocks hP hK hD (Or.inl ⟨by simp [c_bgK, c_6, xpi, c_15, xri, c_34, xoi, c_44, xti, c_59, (eq_true c_65)], rfl⟩)
            · refine lv_iload_n hx hb dX4_breakGlass_68 rfl (lv_at hl 3 rfl) ?_
              refine lv_iload hx hb dX4_breakGlass_69 (lv_at hl 4 rfl) ?_
              refine lv_icmp_ne (tgt := 84) hx hb dX4_breakGlass_71 (by decide) (fun c_71 => ?_) (fun c_71 => ?_)
              · refine lv_aload_n hx hb dX4_breakGlass_84 rfl (lv_at hl 0 rfl) ?_
                refine lv_iload_n hx hb dX4_breakGlass_85 rfl (lv_at hl 3 rfl) ?_
                refine z_top (nI oi) eoi ?_
                refine lv_iload_n hx hb dX4_breakGlass_86 rfl (lv_at hl 2 rfl) ?_
                refine z_top (nI ri) eri ?_
                refine z_callR (W.runV (As := [.int (nI oi), .int (nI ri)]) (rest := []) ⟨hx, hb, hml, hown, hts⟩ (kX4_servesAsWitness l D cI cZ X S O V oi ri (by omega) (by omega)) (cwV 2 hts gX4_breakGlass_X4_servesAsWitness rfl rfl rfl (by decide +kernel) ⟨Nat.le_of_ble_eq_true rfl, Nat.le_of_ble_eq_true rfl⟩) (zR_preV 0 4 hK hP rfl rfl) rfl rfl hl.1 rfl (lv_room (Nat.le_of_ble_eq_true rfl)) dX4_breakGlass_87 ⟨Nat.zero_le _, Nat.zero_le _⟩) ?_
                refine z_if_eq (tgt := 103) hx hb dX4_breakGlass_90 (by decide) (fun c_90 => ?_) (fun c_90 => ?_)
                · exact z_throw (cls := "java/lang/IllegalStateException") (text := "a witness does not serve") (ik := 70) (is := 166) (ic := 74) hx hb hl0 hown zxS_fit xk70 xi70 (fun w hw => hts w (xa70 w hw)) zxS_bad zxS_ot hZ (by decide +kernel) hS (by rw [hml]; exact hl.1) dX4_breakGlass_103 dX4_breakGlass_106 dX4_breakGlass_107 dX4_breakGlass_109 dX4_breakGlass_112 htb (by decide) (by decide) (by decide) (by decide) hlocks hP hK hD (Or.inr ⟨by simp [c_bgK, c_6, xpi, c_15, xri, c_34, xoi, c_44, xti, c_59, c_65, c_71, c_90], rfl⟩)
                · refine lv_aload_n hx hb dX4_breakGlass_93 rfl (lv_at hl 0 rfl) ?_
                  refine lv_iload hx hb dX4_breakGlass_94 (lv_at hl 4 rfl) ?_
                  refine z_top (nI ti) eti ?_
                  refine lv_iload_n hx hb dX4_breakGlass_96 rfl (lv_at hl 2 rfl) ?_
                  refine z_top (nI ri) eri ?_
                  refine z_callR (W.runV (As := [.int (nI ti), .int (nI ri)]) (rest := []) ⟨hx, hb, hml, hown, hts⟩ (kX4_servesAsWitness l D cI cZ X S O V ti ri (by omega) (by omega)) (cwV 2 hts gX4_breakGlass_X4_servesAsWitness rfl rfl rfl (by decide +kernel) ⟨Nat.le_of_ble_eq_true rfl, Nat.le_of_ble_eq_true rfl⟩) (zR_preV 0 4 hK hP rfl rfl) rfl rfl hl.1 rfl (lv_room (Nat.le_of_ble_eq_true rfl)) dX4_breakGlass_97 ⟨Nat.zero_le _, Nat.zero_le _⟩) ?_
                  refine z_if_ne (tgt := 113) hx hb dX4_breakGlass_100 (by decide) (fun c_100 => ?_) (fun c_100 => ?_)
                  · refine lv_aload_n hx hb dX4_breakGlass_113 rfl (lv_at hl 0 rfl) ?_
                    refine va_get (D := D) (ci := 4) (v := .int (V 0)) (C := RX4) (T := TX4) (N := 7) hx hb hts i4 hown hK hP 0 rfl rfl 6 (by decide) fl_44 (fun _ h9 => h9) rfl dX4_breakGlass_114 ?_
                    refine lv_bipush (v := 60) hx hb dX4_breakGlass_117 (by decide) ?_
                    refine lv_iadd hx hb dX4_breakGlass_119 ?_
                    refine lv_istore (lv' := [(5, .int ((V 0) + 60)), (0, .ref (X 0)), (1, .int x0), (2, .int x1), (3, .int x2), (4, .int x3)]) hx hb dX4_breakGlass_120 hl (by decide) rfl (fun ls hl => ?_)
                    refine lv_aload_n hx hb dX4_breakGlass_122 rfl (lv_at hl 1 rfl) ?_
                    refine va_get (D := D) (ci := 4) (v := .ref (X 6)) (C := RX4) (T := TX4) (N := 7) hx hb hts i4 hown hK hP 0 rfl rfl 5 (by decide) fl_41 (fun _ h9 => h9) rfl dX4_breakGlass_123 ?_
                    refine lv_iload_n hx hb dX4_breakGlass_126 rfl (lv_at hl 2 rfl) ?_
                    refine lv_bipush (v := 6) hx hb dX4_breakGlass_127 (by decide) ?_
                    refine lv_imul hx hb dX4_breakGlass_129 ?_
                    refine lv_iload_n hx hb dX4_breakGlass_130 rfl (lv_at hl 3 rfl) ?_
                    refine lv_iadd hx hb dX4_breakGlass_131 ?_
                    refine z_top (nI (pi * 6 + ri)) (by rw [epi, eri]; simp only [show (60 : Int32) = nI 60 from rfl, show (6 : Int32) = nI 6 from rfl, pk_mul, nI_add]) ?_
                    refine lv_iload hx hb dX4_breakGlass_132 (lv_at hl 0 rfl) ?_
                    refine z_iast (D := D) (j := pi * 6 + ri) (f := S 6) hx hb hK hP hD hS 6 0 rfl rfl (by omega) (by decide) dX4_breakGlass_134 (fun H locs hP hD hS => ?_)
                    have hP : va_P D vwCl (hW cI cZ X (va_up S 6 (upd (S 6) (pi * 6 + ri) ((V 0) + 60))) O V) H := hP
                    have hD : va_D A (hW cI cZ X (va_up S 6 (upd (S 6) (pi * 6 + ri) ((V 0) + 60))) O V) := hD
                    refine lv_iload hx hb dX4_breakGlass_135 (lv_at hl 0 rfl) ?_
                    have eS : (va_up S 6 (upd (S 6) (ix x0 * 6 + ix x1) (V 0 + 60))) = (va_up S 6 (upd (S 6) (pi * 6 + ri) ((V 0) + 60))) := by simp [c_bgK, bi, c_6, xpi, c_15, xri, c_34, xoi, c_44, xti, c_59, c_65, c_71, c_90, c_100]
                    exact z_tret hx hb hr hlocks (by rw [eS]; exact hP) hK (by rw [eS]; exact hD) hS (by simp [c_bgK, c_6, xpi, c_15, xri, c_34, xoi, c_44, xti, c_59, c_65, c_71, c_90, c_100]) (by simp [c_bgK, bi, c_6, xpi, c_15, xri, c_34, xoi, c_44, xti, c_59, c_65, c_71, c_90, c_100]) dX4_breakGlass_137
                  · exact z_throw (cls := "java/lang/IllegalStateException") (text := "a witness does not serve") (ik := 70) (is := 166) (ic := 74) hx hb hl0 hown zxS_fit xk70 xi70 (fun w hw => hts w (xa70 w hw)) zxS_bad zxS_ot hZ (by decide +kernel) hS (by rw [hml]; exact hl.1) dX4_breakGlass_103 dX4_breakGlass_106 dX4_breakGlass_107 dX4_breakGlass_109 dX4_breakGlass_112 htb (by decide) (by decide) (by decide) (by decide) hlocks hP hK hD (Or.inr ⟨by simp [c_bgK, c_6, xpi, c_15, xri, c_34, xoi, c_44, xti, c_59, c_65, c_71, c_90, c_100], rfl⟩)
              · exact z_throw (cls := "java/lang/IllegalArgumentException") (text := "two of the three people are the same") (ik := 52) (is := 161) (ic := 56) hx hb hl0 hown zxI_fit xk52 xi52 (fun w hw => hts w (xa52 w hw)) zxI_bad zxI_ot hZ (by decide +kernel) hS (by rw [hml]; exact hl.1) dX4_breakGlass_74 dX4_breakGlass_77 dX4_breakGlass_78 dX4_breakGlass_80 dX4_breakGlass_83 htb (by decide) (by decide) (by decide) (by decide) hlocks hP hK hD (Or.inl ⟨by simp [c_bgK, c_6, xpi, c_15, xri, c_34, xoi, c_44, xti, c_59, c_65, (eq_true c_71)], rfl⟩)
        · exact z_throw (cls := "java/lang/IllegalArgumentException") (text := "a witness is out of range") (ik := 52) (is := 159) (ic := 56) hx hb hl0 hown zxI_fit xk52 xi52 (fun w hw => hts w (xa52 w hw)) zxI_bad zxI_ot hZ (by decide +kernel) hS (by rw [hml]; exact hl.1) dX4_breakGlass_47 dX4_breakGlass_50 dX4_breakGlass_51 dX4_breakGlass_53 dX4_breakGlass_56 htb (by decide) (by decide) (by decide) (by decide) hlocks hP hK hD (Or.inl ⟨by simp [c_bgK, c_6, xpi, c_15, xri, c_34, xoi, c_44], rfl⟩)
    · exact z_throw (cls := "java/lang/IllegalArgumentException") (text := "person or role is out of range") (ik := 52) (is := 95) (ic := 56) hx hb hl0 hown zxI_fit xk52 xi52 (fun w hw => hts w (xa52 w hw)) zxI_bad zxI_ot hZ (by decide +kernel) hS (by rw [hml]; exact hl.1) dX4_breakGlass_18 dX4_breakGlass_21 dX4_breakGlass_22 dX4_breakGlass_24 dX4_breakGlass_27 htb (by decide) (by decide) (by decide) (by decide) hlocks hP hK hD (Or.inl ⟨by simp [c_bgK, c_6, xpi, c_15], rfl⟩)
