set_option maxHeartbeats 4000000 in
set_option maxRecDepth 100000 in
theorem kX5_setPerson (l : Launch) (D : va_G) (cI cZ : ClassId) (X : Nat → Nat) (S : Nat → Nat → Int32) (O : Nat → Bool) (V : Nat → Int32) (sz : Nat) (x0 : Int32) (x1 : Int32) (b0 : Bool) : Met l yX5_setPerson wsX5_setPerson ({ frames := 2, cells := 0, slots := 0, locals := 42 } : Room) (zW D (tyl cI cZ) (mW cI cZ X S O V) sz [.ref (X 0), .int x0, .int x1, .int (bi b0)]) (zQi D (tyl cI cZ) (mW cI cZ X (if m_spOk x0 x1 = true then m_set1 S 1 (ix x0) x1 b0 else S) O (va_up V 0 (if m_spOk x0 x1 = true then 0 else 1))) (bi (m_spOk x0 x1 && hasB (S 1 (ix x0)) x1)) (va_A (mW cI cZ X S O V) sz)) 0 0 (va_A (mW cI cZ X S O V) sz) := by
  refine Met.ofW (cc := cX5_setPerson) (maxL := 5) (ret := (some .boolean)) (by decide) rfl ?_
  intro p e s m args below meth c s₁ B hml hv
  obtain ⟨rfl, hsz, hP, hK, hD0⟩ := hv
  have hx := B.exec
  have hb := B.bytes
  have hr := B.returns
  have hts := atoms_spec (ws := wsX5_setPerson) B.pre
  have hown : s.vm.findClass RX5 = some m.cls := findClass_of_methodNamed B.named
  have hlocks := B.notSynchronized
  subst hsz
  have hD := hD0.self (sz := s.heap.size)
  generalize hAe : va_A (mW cI cZ X S O V) s.heap.size = A at hD ⊢
  have hA : ∀ q : Nat, s.heap.size ≤ q → A q := fun q h => by rw [← hAe]; exact Or.inr h
  have hS : va_S A s.heap s.heap [] := va_S.rf
  have i5 : ∀ w ∈ u_ws RX5 TX5 17, w ∈ wsX5_setPerson := by decide +kernel
  have fl_7 := hts (.fieldLink RX5 7 "SignOnHouseModel" "people" "[I") (by decide +kernel)
  have fl_47 := hts (.fieldLink RX5 47 "SignOnHouseModel" "thrown" "I") (by decide +kernel)
  have hl := lv_entry ([.ref (X 0), .int x0, .int x1, .int (bi b0)]) (n := 5) (Nat.le_of_ble_eq_true rfl)
  rw [lg_entry_eq]
  generalize (lg_sl ([.ref (X 0), .int x0, .int x1, .int (bi b0)]) ++ List.replicate (5 - (lg_sl ([.ref (X 0), .int x0, .int x1, .int (bi b0)])).length) Slot.unset).toArray = ls at hl ⊢
  have hl : lv_has ls 5 [(0, .ref (X 0)), (1, .int x0), (2, .int x1), (3, .int (bi b0))] := hl
  refine lv_aload_n hx hb dX5_setPerson_0 rfl (lv_at hl 0 rfl) ?_
  refine lv_iload_n hx hb dX5_setPerson_1 rfl (lv_at hl 1 rfl) ?_
  refine z_callR (W.runS (As := [.int x0]) (rest := [.ref (X 0)]) ⟨hx, hb, hml, hown, hts⟩ (kX5_isGroup l x0) (va_cwS 1 hts gX5_setPerson_X5_isGroup rfl rfl rfl (by decide +kernel) ⟨Nat.le_of_ble_eq_true rfl, Nat.le_of_ble_eq_true rfl⟩) zP_pre rfl rfl hl.1 rfl (lv_room (Nat.le_of_ble_eq_true rfl)) dX5_setPerson_2 ⟨Nat.zero_le _, Nat.zero_le _⟩) ?_
  refine z_if_eq (tgt := 19) hx hb dX5_setPerson_5 (by decide) (fun c_5 => ?_) (fun c_5 => ?_)
  · refine lv_iconst (v := 1) hx hb dX5_setPerson_19 rfl ?_
    refine va_put (D := D) (ci := 5) (v := .int 1) (ty := .int) (C := RX5) (T := TX5) (N := 17) hx hb hts i5 tyX5 tyX5_ok nmX5 hown hK hP hD hS 0 rfl rfl 0 (by decide) fl_47 (fun _ h9 => h9) rfl (by decide +kernel) rfl rfl (Nat.le_of_ble_eq_true rfl) dX5_setPerson_20 (fun H locs hP hD hS => ?_)
    have hP : va_P D vwCl (mW cI cZ X S O (va_up V 0 1)) H := hP
    have hD : va_D A (mW cI cZ X S O (va_up V 0 1)) := hD
    refine lv_aload_n hx hb dX5_setPerson_23 rfl (lv_at hl 0 rfl) ?_
    refine va_get (D := D) (ci := 5) (v := .int 1) (C := RX5) (T := TX5) (N := 17) hx hb hts i5 hown hK hP 0 rfl rfl 0 (by decide) fl_47 (fun _ h9 => h9) rfl dX5_setPerson_24 ?_
    refine lv_if_le (tgt := 32) hx hb dX5_setPerson_27 (by decide) (fun q => absurd q (by decide)) (fun _ => ?_)
    refine lv_iconst (v := 0) hx hb dX5_setPerson_30 rfl ?_
    have eS : (if m_spOk x0 x1 = true then m_set1 S 1 (ix x0) x1 b0 else S) = S := by simp [m_spOk, m_set1, c_changed, bx_uu, bi, c_5]
    have eV : (va_up V 0 (if m_spOk x0 x1 = true then 0 else 1)) = (va_up V 0 1) := by simp [m_spOk, m_set1, c_changed, bx_uu, bi, c_5]
    exact z_wzret hx hb hr hlocks (by rw [eS, eV]; exact hP) hK (by rw [eS, eV]; exact hD) hS (by simp [m_spOk, m_set1, c_changed, bx_uu, bi, c_5]) dX5_setPerson_31
  · obtain ⟨gi, hgi, egi⟩ := m_in7 c_5
    have xgi : ix x0 = gi := ix_of egi (by omega)
    refine lv_iload_n hx hb dX5_setPerson_8 rfl (lv_at hl 2 rfl) ?_
    refine z_callR (W.runS (As := [.int x1]) (rest := [.ref (X 0)]) ⟨hx, hb, hml, hown, hts⟩ (kX5_isPerson l x1) (va_cwS 1 hts gX5_setPerson_X5_isPerson rfl rfl rfl (by decide +kernel) ⟨Nat.le_of_ble_eq_true rfl, Nat.le_of_ble_eq_true rfl⟩) zP_pre rfl rfl hl.1 rfl (lv_room (Nat.le_of_ble_eq_true rfl)) dX5_setPerson_9 ⟨Nat.zero_le _, Nat.zero_le _⟩) ?_
    refine z_if_eq (tgt := 19) hx hb dX5_setPerson_12 (by decide) (fun c_12 => ?_) (fun c_12 => ?_)
    · refine lv_iconst (v := 1) hx hb dX5_setPerson_19 rfl ?_
      refine va_put (D := D) (ci := 5) (v := .int 1) (ty := .int) (C := RX5) (T := TX5) (N := 17) hx hb hts i5 tyX5 tyX5_ok nmX5 hown hK hP hD hS 0 rfl rfl 0 (by decide) fl_47 (fun _ h9 => h9) rfl (by decide +kernel) rfl rfl (Nat.le_of_ble_eq_true rfl) dX5_setPerson_20 (fun H locs hP hD hS => ?_)
      have hP : va_P D vwCl (mW cI cZ X S O (va_up V 0 1)) H := hP
      have hD : va_D A (mW cI cZ X S O (va_up V 0 1)) := hD
      refine lv_aload_n hx hb dX5_setPerson_23 rfl (lv_at hl 0 rfl) ?_
      refine va_get (D := D) (ci := 5) (v := .int 1) (C := RX5) (T := TX5) (N := 17) hx hb hts i5 hown hK hP 0 rfl rfl 0 (by decide) fl_47 (fun _ h9 => h9) rfl dX5_setPerson_24 ?_
      refine lv_if_le (tgt := 32) hx hb dX5_setPerson_27 (by decide) (fun q => absurd q (by decide)) (fun _ => ?_)
      refine lv_iconst (v := 0) hx hb dX5_setPerson_30 rfl ?_
      have eS : (if m_spOk x0 x1 = true then m_set1 S 1 (ix x0) x1 b0 else S) = S := by simp [m_spOk, m_set1, c_changed, bx_uu, bi, c_5, xgi, c_12]
      have eV : (va_up V 0 (if m_spOk x0 x1 = true then 0 else 1)) = (va_up V 0 1) := by simp [m_spOk, m_set1, c_changed, bx_uu, bi, c_5, xgi, c_12]
      exact z_wzret hx hb hr hlocks (by rw [eS, eV]; exact hP) hK (by rw [eS, eV]; exact hD) hS (by simp [m_spOk, m_set1, c_changed, bx_uu, bi, c_5, xgi, c_12]) dX5_setPerson_31
    · refine lv_iconst (v := 0) hx hb dX5_setPerson_15 rfl ?_
      refine lv_goto (tgt := 20) hx hb dX5_setPerson_16 (by decide) ?_
      refine va_put (D := D) (ci := 5) (v := .int 0) (ty := .int) (C := RX5) (T := TX5) (N := 17) hx hb hts i5 tyX5 tyX5_ok nmX5 hown hK hP hD hS 0 rfl rfl 0 (by decide) fl_47 (fun _ h9 => h9) rfl (by decide +kernel) rfl rfl (Nat.le_of_ble_eq_true rfl) dX5_setPerson_20 (fun H locs hP hD hS => ?_)
      have hP : va_P D vwCl (mW cI cZ X S O (va_up V 0 0)) H := hP
      have hD : va_D A (mW cI cZ X S O (va_up V 0 0)) := hD
      refine lv_aload_n hx hb dX5_setPerson_23 rfl (lv_at hl 0 rfl) ?_
      refine va_get (D := D) (ci := 5) (v := .int 0) (C := RX5) (T := TX5) (N := 17) hx hb hts i5 hown hK hP 0 rfl rfl 0 (by decide) fl_47 (fun _ h9 => h9) rfl dX5_setPerson_24 ?_
      refine lv_if_le (tgt := 32) hx hb dX5_setPerson_27 (by decide) (fun _ => ?_) (fun q => absurd (by decide) q)
      refine lv_aload_n hx hb dX5_setPerson_32 rfl (lv_at hl 0 rfl) ?_
      refine va_get (D := D) (ci := 5) (v := .ref (X 1)) (C := RX5) (T := TX5) (N := 17) hx hb hts i5 hown hK hP 0 rfl rfl 2 (by decide) fl_7 (fun _ h9 => h9) rfl dX5_setPerson_33 ?_
      refine lv_iload_n hx hb dX5_setPerson_36 rfl (lv_at hl 1 rfl) ?_
      refine z_top (nI gi) egi ?_
      refine z_iald (D := D) (j := gi) (f := S 1) hx hb hK hP 1 0 rfl rfl (by omega) (by decide) dX5_setPerson_37 ?_
      refine lv_iload_n hx hb dX5_setPerson_38 rfl (lv_at hl 2 rfl) ?_
      refine z_callR (W.runS (As := [.int (S 1 gi), .int x1]) (rest := []) ⟨hx, hb, hml, hown, hts⟩ (kX5_has l (S 1 gi) x1) (va_cwS 2 hts gX5_setPerson_X5_has rfl rfl rfl (by decide +kernel) ⟨Nat.le_of_ble_eq_true rfl, Nat.le_of_ble_eq_true rfl⟩) zP_pre rfl rfl hl.1 rfl (lv_room (Nat.le_of_ble_eq_true rfl)) dX5_setPerson_39 ⟨Nat.zero_le _, Nat.zero_le _⟩) ?_
      refine lv_istore (lv' := [(4, .int (bi (hasB (S 1 gi) x1))), (0, .ref (X 0)), (1, .int x0), (2, .int x1), (3, .int (bi b0))]) hx hb dX5_setPerson_42 hl (by decide) rfl (fun ls hl => ?_)
      refine lv_aload_n hx hb dX5_setPerson_44 rfl (lv_at hl 1 rfl) ?_
      refine va_get (D := D) (ci := 5) (v := .ref (X 1)) (C := RX5) (T := TX5) (N := 17) hx hb hts i5 hown hK hP 0 rfl rfl 2 (by decide) fl_7 (fun _ h9 => h9) rfl dX5_setPerson_45 ?_
      refine lv_iload_n hx hb dX5_setPerson_48 rfl (lv_at hl 2 rfl) ?_
      refine lv_iload_n hx hb dX5_setPerson_49 rfl (lv_at hl 4 rfl) ?_
      refine z_if_eq (tgt := 66) hx hb dX5_setPerson_50 (by decide) (fun c_50 => ?_) (fun c_50 => ?_)
      · refine lv_aload_n hx hb dX5_setPerson_66 rfl (lv_at hl 1 rfl) ?_
        refine va_get (D := D) (ci := 5) (v := .ref (X 1)) (C := RX5) (T := TX5) (N := 17) hx hb hts i5 hown hK hP 0 rfl rfl 2 (by decide) fl_7 (fun _ h9 => h9) rfl dX5_setPerson_67 ?_
        refine lv_iload_n hx hb dX5_setPerson_70 rfl (lv_at hl 2 rfl) ?_
        refine z_top (nI gi) egi ?_
        refine z_iald (D := D) (j := gi) (f := S 1) hx hb hK hP 1 0 rfl rfl (by omega) (by decide) dX5_setPerson_71 ?_
        refine lv_iconst (v := 1) hx hb dX5_setPerson_72 rfl ?_
        refine lv_iload_n hx hb dX5_setPerson_73 rfl (lv_at hl 3 rfl) ?_
        refine lv_ishl hx hb dX5_setPerson_74 ?_
        refine lv_iconst (v := (-1)) hx hb dX5_setPerson_75 rfl ?_
        refine lv_ixor hx hb dX5_setPerson_76 ?_
        refine lv_iand hx hb dX5_setPerson_77 ?_
        refine z_top2 (nI gi) egi ?_
        refine z_iast (D := D) (j := gi) (f := S 1) hx hb hK hP hD hS 1 0 rfl rfl (by omega) (by decide) dX5_setPerson_78 (fun H locs hP hD hS => ?_)
        have hP : va_P D vwCl (mW cI cZ X (va_up S 1 (upd (S 1) gi ((S 1 gi) &&& ((1 <<< (x1 &&& 31)) ^^^ (-1))))) O (va_up V 0 0)) H := hP
        have hD : va_D A (mW cI cZ X (va_up S 1 (upd (S 1) gi ((S 1 gi) &&& ((1 <<< (x1 &&& 31)) ^^^ (-1))))) O (va_up V 0 0)) := hD
        refine lv_iload hx hb dX5_setPerson_79 (lv_at hl 0 rfl) ?_
        have eS : (if m_spOk x0 x1 = true then m_set1 S 1 (ix x0) x1 b0 else S) = (va_up S 1 (upd (S 1) gi ((S 1 gi) &&& ((1 <<< (x1 &&& 31)) ^^^ (-1))))) := by simp [m_spOk, m_set1, c_changed, bx_uu, bi, c_5, xgi, c_12, c_50]
        have eV : (va_up V 0 (if m_spOk x0 x1 = true then 0 else 1)) = (va_up V 0 0) := by simp [m_spOk, m_set1, c_changed, bx_uu, bi, c_5, xgi, c_12, c_50]
        exact z_wzret hx hb hr hlocks (by rw [eS, eV]; exact hP) hK (by rw [eS, eV]; exact hD) hS (by simp [m_spOk, m_set1, c_changed, bx_uu, bi, c_5, xgi, c_12, c_50]) dX5_setPerson_81
      · refine lv_aload_n hx hb dX5_setPerson_53 rfl (lv_at hl 1 rfl) ?_
        refine va_get (D := D) (ci := 5) (v := .ref (X 1)) (C := RX5) (T := TX5) (N := 17) hx hb hts i5 hown hK hP 0 rfl rfl 2 (by decide) fl_7 (fun _ h9 => h9) rfl dX5_setPerson_54 ?_
        refine lv_iload_n hx hb dX5_setPerson_57 rfl (lv_at hl 2 rfl) ?_
        refine z_top (nI gi) egi ?_
        refine z_iald (D := D) (j := gi) (f := S 1) hx hb hK hP 1 0 rfl rfl (by omega) (by decide) dX5_setPerson_58 ?_
        refine lv_iconst (v := 1) hx hb dX5_setPerson_59 rfl ?_
        refine lv_iload_n hx hb dX5_setPerson_60 rfl (lv_at hl 3 rfl) ?_
        refine lv_ishl hx hb dX5_setPerson_61 ?_
        refine lv_ior hx hb dX5_setPerson_62 ?_
        refine lv_goto (tgt := 78) hx hb dX5_setPerson_63 (by decide) ?_
        refine z_top2 (nI gi) egi ?_
        refine z_iast (D := D) (j := gi) (f := S 1) hx hb hK hP hD hS 1 0 rfl rfl (by omega) (by decide) dX5_setPerson_78 (fun H locs hP hD hS => ?_)
        have hP : va_P D vwCl (mW cI cZ X (va_up S 1 (upd (S 1) gi ((S 1 gi) ||| (1 <<< (x1 &&& 31))))) O (va_up V 0 0)) H := hP
        have hD : va_D A (mW cI cZ X (va_up S 1 (upd (S 1) gi ((S 1 gi) ||| (1 <<< (x1 &&& 31))))) O (va_up V 0 0)) := hD
        refine lv_iload hx hb dX5_setPerson_79 (lv_at hl 0 rfl) ?_
        have eS : (if m_spOk x0 x1 = true then m_set1 S 1 (ix x0) x1 b0 else S) = (va_up S 1 (upd (S 1) gi ((S 1 gi) ||| (1 <<< (x1 &&& 31))))) := by simp [m_spOk, m_set1, c_changed, bx_uu, bi, c_5, xgi, c_12, c_50]
        have eV : (va_up V 0 (if m_spOk x0 x1 = true then 0 else 1)) = (va_up V 0 0) := by simp [m_spOk, m_set1, c_changed, bx_uu, bi, c_5, xgi, c_12, c_50]
        exact z_wzret hx hb hr hlocks (by rw [eS, eV]; exact hP) hK (by rw [eS, eV]; exact hD) hS (by simp [m_spOk, m_set1, c_changed, bx_uu, bi, c_5, xgi, c_12, c_50]) dX5_setPerson_81

set_option maxHeartbeats 4000000 in
set_option maxRecDepth 100000 in
theorem kX5_setGroup (l : Launch) (D : va_G) (cI cZ : ClassId) (X : Nat → Nat) (S : Nat → Nat → Int32) (O : Nat → Bool) (V : Nat → Int32) (sz : Nat) (x0 : Int32) (x1 : Int32) (b0 : Bool) : Met l yX5_setGroup wsX5_setGroup ({ frames := 2, cells := 0, slots := 0, locals := 45 } : Room) (zW D (tyl cI cZ) (mW cI cZ X S O V) sz [.ref (X 0), .int x0, .int x1, .int (bi b0)]) (zQi D (tyl cI cZ) (mW cI cZ X (if m_sgK S x0 x1 b0 = 0 then m_set1 S 2 (ix x0) x1 b0 else S) O (va_up V 0 (m_sgK S x0 x1 b0))) (bi (decide (m_sgK S x0 x1 b0 = 0) && hasB (S 2 (ix x0)) x1)) (va_A (mW cI cZ X S O V) sz)) 0 0 (va_A (mW cI cZ X S O V) sz) := by
  refine Met.ofW (cc := cX5_setGroup) (maxL := 5) (ret := (some .boolean)) (by decide) rfl ?_
  intro p e s m args below meth c s₁ B hml hv
  obtain ⟨rfl, hsz, hP, hK, hD0⟩ := hv
  have hx := B.exec
  have hb := B.bytes
  have hr := B.returns
  have hts := atoms_spec (ws := wsX5_setGroup) B.pre
  have hown : s.vm.findClass RX5 = some m.cls := findClass_of_methodNamed B.named
  have hlocks := B.notSynchronized
  subst hsz
  have hD := hD0.self (sz := s.heap.size)
  generalize hAe : va_A (mW cI cZ X S O V) s.heap.size = A at hD ⊢
  have hA : ∀ q : Nat, s.heap.size ≤ q → A q := fun q h => by rw [← hAe]; exact Or.inr h
  have hS : va_S A s.heap s.heap [] := va_S.rf
  have i5 : ∀ w ∈ u_ws RX5 TX5 17, w ∈ wsX5_setGroup := by decide +kernel
  have fl_13 := hts (.fieldLink RX5 13 "SignOnHouseModel" "groups" "[I") (by decide +kernel)
  have fl_47 := hts (.fieldLink RX5 47 "SignOnHouseModel" "thrown" "I") (by decide +kernel)
  have hl := lv_entry ([.ref (X 0), .int x0, .int x1, .int (bi b0)]) (n := 5) (Nat.le_of_ble_eq_true rfl)
  rw [lg_entry_eq]
  generalize (lg_sl ([.ref (X 0), .int x0, .int x1, .int (bi b0)]) ++ List.replicate (5 - (lg_sl ([.ref (X 0), .int x0, .int x1, .int (bi b0)])).length) Slot.unset).toArray = ls at hl ⊢
  have hl : lv_has ls 5 [(0, .ref (X 0)), (1, .int x0), (2, .int x1), (3, .int (bi b0))] := hl
  refine lv_aload_n hx hb dX5_setGroup_0 rfl (lv_at hl 0 rfl) ?_
  refine lv_iload_n hx hb dX5_setGroup_1 rfl (lv_at hl 1 rfl) ?_
  refine z_callR (W.runS (As := [.int x0]) (rest := [.ref (X 0)]) ⟨hx, hb, hml, hown, hts⟩ (kX5_isGroup l x0) (va_cwS 1 hts gX5_setGroup_X5_isGroup rfl rfl rfl (by decide +kernel) ⟨Nat.le_of_ble_eq_true rfl, Nat.le_of_ble_eq_true rfl⟩) zP_pre rfl rfl hl.1 rfl (lv_room (Nat.le_of_ble_eq_true rfl)) dX5_setGroup_2 ⟨Nat.zero_le _, Nat.zero_le _⟩) ?_
  refine z_if_eq (tgt := 20) hx hb dX5_setGroup_5 (by decide) (fun c_5 => ?_) (fun c_5 => ?_)
  · refine lv_iconst (v := 1) hx hb dX5_setGroup_20 rfl ?_
    refine lv_goto (tgt := 45) hx hb dX5_setGroup_21 (by decide) ?_
    refine va_put (D := D) (ci := 5) (v := .int 1) (ty := .int) (C := RX5) (T := TX5) (N := 17) hx hb hts i5 tyX5 tyX5_ok nmX5 hown hK hP hD hS 0 rfl rfl 0 (by decide) fl_47 (fun _ h9 => h9) rfl (by decide +kernel) rfl rfl (Nat.le_of_ble_eq_true rfl) dX5_setGroup_45 (fun H locs hP hD hS => ?_)
    have hP : va_P D vwCl (mW cI cZ X S O (va_up V 0 1)) H := hP
    have hD : va_D A (mW cI cZ X S O (va_up V 0 1)) := hD
    refine lv_aload_n hx hb dX5_setGroup_48 rfl (lv_at hl 0 rfl) ?_
    refine va_get (D := D) (ci := 5) (v := .int 1) (C := RX5) (T := TX5) (N := 17) hx hb hts i5 hown hK hP 0 rfl rfl 0 (by decide) fl_47 (fun _ h9 => h9) rfl dX5_setGroup_49 ?_
    refine lv_if_le (tgt := 57) hx hb dX5_setGroup_52 (by decide) (fun q => absurd q (by decide)) (fun _ => ?_)
    refine lv_iconst (v := 0) hx hb dX5_setGroup_55 rfl ?_
    have eS : (if m_sgK S x0 x1 b0 = 0 then m_set1 S 2 (ix x0) x1 b0 else S) = S := by simp [m_sgK, m_set1, c_changed, bx_uu, bi, c_5]
    have eV : (va_up V 0 (m_sgK S x0 x1 b0)) = (va_up V 0 1) := by simp [m_sgK, m_set1, c_changed, bx_uu, bi, c_5]
    exact z_wzret hx hb hr hlocks (by rw [eS, eV]; exact hP) hK (by rw [eS, eV]; exact hD) hS (by simp [m_sgK, m_set1, c_changed, bx_uu, bi, c_5]) dX5_setGroup_56
  · obtain ⟨gi, hgi, egi⟩ := m_in7 c_5
    have xgi : ix x0 = gi := ix_of egi (by omega)
    refine lv_iload_n hx hb dX5_setGroup_8 rfl (lv_at hl 2 rfl) ?_
    refine z_callR (W.runS (As := [.int x1]) (rest := [.ref (X 0)]) ⟨hx, hb, hml, hown, hts⟩ (kX5_isGroup l x1) (va_cwS 1 hts gX5_setGroup_X5_isGroup rfl rfl rfl (by decide +kernel) ⟨Nat.le_of_ble_eq_true rfl, Nat.le_of_ble_eq_true rfl⟩) zP_pre rfl rfl hl.1 rfl (lv_room (Nat.le_of_ble_eq_true rfl)) dX5_setGroup_9 ⟨Nat.zero_le _, Nat.zero_le _⟩) ?_
    refine z_if_eq (tgt := 20) hx hb dX5_setGroup_12 (by decide) (fun c_12 => ?_) (fun c_12 => ?_)
    · refine lv_iconst (v := 1) hx hb dX5_setGroup_20 rfl ?_
      refine lv_goto (tgt := 45) hx hb dX5_setGroup_21 (by decide) ?_
      refine va_put (D := D) (ci := 5) (v := .int 1) (ty := .int) (C := RX5) (T := TX5) (N := 17) hx hb hts i5 tyX5 tyX5_ok nmX5 hown hK hP hD hS 0 rfl rfl 0 (by decide) fl_47 (fun _ h9 => h9) rfl (by decide +kernel) rfl rfl (Nat.le_of_ble_eq_true rfl) dX5_setGroup_45 (fun H locs hP hD hS => ?_)
      have hP : va_P D vwCl (mW cI cZ X S O (va_up V 0 1)) H := hP
      have hD : va_D A (mW cI cZ X S O (va_up V 0 1)) := hD
      refine lv_aload_n hx hb dX5_setGroup_48 rfl (lv_at hl 0 rfl) ?_
      refine va_get (D := D) (ci := 5) (v := .int 1) (C := RX5) (T := TX5) (N := 17) hx hb hts i5 hown hK hP 0 rfl rfl 0 (by decide) fl_47 (fun _ h9 => h9) rfl dX5_setGroup_49 ?_
      refine lv_if_le (tgt := 57) hx hb dX5_setGroup_52 (by decide) (fun q => absurd q (by decide)) (fun _ => ?_)
      refine lv_iconst (v := 0) hx hb dX5_setGroup_55 rfl ?_
      have eS : (if m_sgK S x0 x1 b0 = 0 then m_set1 S 2 (ix x0) x1 b0 else S) = S := by simp [m_sgK, m_set1, c_changed, bx_uu, bi, c_5, xgi, c_12]
      have eV : (va_up V 0 (m_sgK S x0 x1 b0)) = (va_up V 0 1) := by simp [m_sgK, m_set1, c_changed, bx_uu, bi, c_5, xgi, c_12]
      exact z_wzret hx hb hr hlocks (by rw [eS, eV]; exact hP) hK (by rw [eS, eV]; exact hD) hS (by simp [m_sgK, m_set1, c_changed, bx_uu, bi, c_5, xgi, c_12]) dX5_setGroup_56
    · refine lv_iload_n hx hb dX5_setGroup_15 rfl (lv_at hl 1 rfl) ?_
      refine lv_iload_n hx hb dX5_setGroup_16 rfl (lv_at hl 2 rfl) ?_
      refine lv_icmp_ne (tgt := 24) hx hb dX5_setGroup_17 (by decide) (fun c_17 => ?_) (fun c_17 => ?_)
      · refine lv_iload_n hx hb dX5_setGroup_24 rfl (lv_at hl 3 rfl) ?_
        refine z_if_eq (tgt := 44) hx hb dX5_setGroup_25 (by decide) (fun c_25 => ?_) (fun c_25 => ?_)
        · refine lv_iconst (v := 0) hx hb dX5_setGroup_44 rfl ?_
          refine va_put (D := D) (ci := 5) (v := .int 0) (ty := .int) (C := RX5) (T := TX5) (N := 17) hx hb hts i5 tyX5 tyX5_ok nmX5 hown hK hP hD hS 0 rfl rfl 0 (by decide) fl_47 (fun _ h9 => h9) rfl (by decide +kernel) rfl rfl (Nat.le_of_ble_eq_true rfl) dX5_setGroup_45 (fun H locs hP hD hS => ?_)
          have hP : va_P D vwCl (mW cI cZ X S O (va_up V 0 0)) H := hP
          have hD : va_D A (mW cI cZ X S O (va_up V 0 0)) := hD
          refine lv_aload_n hx hb dX5_setGroup_48 rfl (lv_at hl 0 rfl) ?_
          refine va_get (D := D) (ci := 5) (v := .int 0) (C := RX5) (T := TX5) (N := 17) hx hb hts i5 hown hK hP 0 rfl rfl 0 (by decide) fl_47 (fun _ h9 => h9) rfl dX5_setGroup_49 ?_
          refine lv_if_le (tgt := 57) hx hb dX5_setGroup_52 (by decide) (fun _ => ?_) (fun q => absurd (by decide) q)
          refine lv_aload_n hx hb dX5_setGroup_57 rfl (lv_at hl 0 rfl) ?_
          refine va_get (D := D) (ci := 5) (v := .ref (X 2)) (C := RX5) (T := TX5) (N := 17) hx hb hts i5 hown hK hP 0 rfl rfl 3 (by decide) fl_13 (fun _ h9 => h9) rfl dX5_setGroup_58 ?_
          refine lv_iload_n hx hb dX5_setGroup_61 rfl (lv_at hl 1 rfl) ?_
          refine z_top (nI gi) egi ?_
          refine z_iald (D := D) (j := gi) (f := S 2) hx hb hK hP 2 0 rfl rfl (by omega) (by decide) dX5_setGroup_62 ?_
          refine lv_iload_n hx hb dX5_setGroup_63 rfl (lv_at hl 2 rfl) ?_
          refine z_callR (W.runS (As := [.int (S 2 gi), .int x1]) (rest := []) ⟨hx, hb, hml, hown, hts⟩ (kX5_has l (S 2 gi) x1) (va_cwS 2 hts gX5_setGroup_X5_has rfl rfl rfl (by decide +kernel) ⟨Nat.le_of_ble_eq_true rfl, Nat.le_of_ble_eq_true rfl⟩) zP_pre rfl rfl hl.1 rfl (lv_room (Nat.le_of_ble_eq_true rfl)) dX5_setGroup_64 ⟨Nat.zero_le _, Nat.zero_le _⟩) ?_
          refine lv_istore (lv' := [(4, .int (bi (hasB (S 2 gi) x1))), (0, .ref (X 0)), (1, .int x0), (2, .int x1), (3, .int (bi b0))]) hx hb dX5_setGroup_67 hl (by decide) rfl (fun ls hl => ?_)
          refine lv_aload_n hx hb dX5_setGroup_69 rfl (lv_at hl 1 rfl) ?_
          refine va_get (D := D) (ci := 5) (v := .ref (X 2)) (C := RX5) (T := TX5) (N := 17) hx hb hts i5 hown hK hP 0 rfl rfl 3 (by decide) fl_13 (fun _ h9 => h9) rfl dX5_setGroup_70 ?_
          refine lv_iload_n hx hb dX5_setGroup_73 rfl (lv_at hl 2 rfl) ?_
          refine lv_iload_n hx hb dX5_setGroup_74 rfl (lv_at hl 4 rfl) ?_
          refine z_if_eq (tgt := 91) hx hb dX5_setGroup_75 (by decide) (fun _ => ?_) (fun q => absurd (c_25.symm.trans q) (by decide))
          refine lv_aload_n hx hb dX5_setGroup_91 rfl (lv_at hl 1 rfl) ?_
          refine va_get (D := D) (ci := 5) (v := .ref (X 2)) (C := RX5) (T := TX5) (N := 17) hx hb hts i5 hown hK hP 0 rfl rfl 3 (by decide) fl_13 (fun _ h9 => h9) rfl dX5_setGroup_92 ?_
          refine lv_iload_n hx hb dX5_setGroup_95 rfl (lv_at hl 2 rfl) ?_
          refine z_top (nI gi) egi ?_
          refine z_iald (D := D) (j := gi) (f := S 2) hx hb hK hP 2 0 rfl rfl (by omega) (by decide) dX5_setGroup_96 ?_
          refine lv_iconst (v := 1) hx hb dX5_setGroup_97 rfl ?_
          refine lv_iload_n hx hb dX5_setGroup_98 rfl (lv_at hl 3 rfl) ?_
          refine lv_ishl hx hb dX5_setGroup_99 ?_
          refine lv_iconst (v := (-1)) hx hb dX5_setGroup_100 rfl ?_
          refine lv_ixor hx hb dX5_setGroup_101 ?_
          refine lv_iand hx hb dX5_setGroup_102 ?_
          refine z_top2 (nI gi) egi ?_
          refine z_iast (D := D) (j := gi) (f := S 2) hx hb hK hP hD hS 2 0 rfl rfl (by omega) (by decide) dX5_setGroup_103 (fun H locs hP hD hS => ?_)
          have hP : va_P D vwCl (mW cI cZ X (va_up S 2 (upd (S 2) gi ((S 2 gi) &&& ((1 <<< (x1 &&& 31)) ^^^ (-1))))) O (va_up V 0 0)) H := hP
          have hD : va_D A (mW cI cZ X (va_up S 2 (upd (S 2) gi ((S 2 gi) &&& ((1 <<< (x1 &&& 31)) ^^^ (-1))))) O (va_up V 0 0)) := hD
          refine lv_iload hx hb dX5_setGroup_104 (lv_at hl 0 rfl) ?_
          have eS : (if m_sgK S x0 x1 b0 = 0 then m_set1 S 2 (ix x0) x1 b0 else S) = (va_up S 2 (upd (S 2) gi ((S 2 gi) &&& ((1 <<< (x1 &&& 31)) ^^^ (-1))))) := by simp [m_sgK, m_set1, c_changed, bx_uu, bi, c_5, xgi, c_12, c_17, c_25]
          have eV : (va_up V 0 (m_sgK S x0 x1 b0)) = (va_up V 0 0) := by simp [m_sgK, m_set1, c_changed, bx_uu, bi, c_5, xgi, c_12, c_17, c_25]
          exact z_wzret hx hb hr hlocks (by rw [eS, eV]; exact hP) hK (by rw [eS, eV]; exact hD) hS (by simp [m_sgK, m_set1, c_changed, bx_uu, bi, c_5, xgi, c_12, c_17, c_25]) dX5_setGroup_106
        · refine lv_aload_n hx hb dX5_setGroup_28 rfl (lv_at hl 0 rfl) ?_
          refine lv_iload_n hx hb dX5_setGroup_29 rfl (lv_at hl 2 rfl) ?_
          refine z_callR (W.runV (As := [.int x1]) (rest := [.ref (X 0)]) ⟨hx, hb, hml, hown, hts⟩ (kX5_within l D cI cZ X S O V x1) (cwV 1 hts gX5_setGroup_X5_within rfl rfl rfl (by decide +kernel) ⟨Nat.le_of_ble_eq_true rfl, Nat.le_of_ble_eq_true rfl⟩) (zR_preV 0 5 hK hP rfl rfl) rfl rfl hl.1 rfl (lv_room (Nat.le_of_ble_eq_true rfl)) dX5_setGroup_30 ⟨Nat.zero_le _, Nat.zero_le _⟩) ?_
          refine lv_iload_n hx hb dX5_setGroup_33 rfl (lv_at hl 1 rfl) ?_
          refine z_callR (W.runS (As := [.int (m_wr S x1 8), .int x0]) (rest := [.ref (X 0)]) ⟨hx, hb, hml, hown, hts⟩ (kX5_has l (m_wr S x1 8) x0) (va_cwS 2 hts gX5_setGroup_X5_has rfl rfl rfl (by decide +kernel) ⟨Nat.le_of_ble_eq_true rfl, Nat.le_of_ble_eq_true rfl⟩) zP_pre rfl rfl hl.1 rfl (lv_room (Nat.le_of_ble_eq_true rfl)) dX5_setGroup_34 ⟨Nat.zero_le _, Nat.zero_le _⟩) ?_
          refine z_if_eq (tgt := 44) hx hb dX5_setGroup_37 (by decide) (fun c_37 => ?_) (fun c_37 => ?_)
          · refine lv_iconst (v := 0) hx hb dX5_setGroup_44 rfl ?_
            refine va_put (D := D) (ci := 5) (v := .int 0) (ty := .int) (C := RX5) (T := TX5) (N := 17) hx hb hts i5 tyX5 tyX5_ok nmX5 hown hK hP hD hS 0 rfl rfl 0 (by decide) fl_47 (fun _ h9 => h9) rfl (by decide +kernel) rfl rfl (Nat.le_of_ble_eq_true rfl) dX5_setGroup_45 (fun H locs hP hD hS => ?_)
            have hP : va_P D vwCl (mW cI cZ X S O (va_up V 0 0)) H := hP
            have hD : va_D A (mW cI cZ X S O (va_up V 0 0)) := hD
            refine lv_aload_n hx hb dX5_setGroup_48 rfl (lv_at hl 0 rfl) ?_
            refine va_get (D := D) (ci := 5) (v := .int 0) (C := RX5) (T := TX5) (N := 17) hx hb hts i5 hown hK hP 0 rfl rfl 0 (by decide) fl_47 (fun _ h9 => h9) rfl dX5_setGroup_49 ?_
            refine lv_if_le (tgt := 57) hx hb dX5_setGroup_52 (by decide) (fun _ => ?_) (fun q => absurd (by decide) q)
            refine lv_aload_n hx hb dX5_setGroup_57 rfl (lv_at hl 0 rfl) ?_
            refine va_get (D := D) (ci := 5) (v := .ref (X 2)) (C := RX5) (T := TX5) (N := 17) hx hb hts i5 hown hK hP 0 rfl rfl 3 (by decide) fl_13 (fun _ h9 => h9) rfl dX5_setGroup_58 ?_
            refine lv_iload_n hx hb dX5_setGroup_61 rfl (lv_at hl 1 rfl) ?_
            refine z_top (nI gi) egi ?_
            refine z_iald (D := D) (j := gi) (f := S 2) hx hb hK hP 2 0 rfl rfl (by omega) (by decide) dX5_setGroup_62 ?_
            refine lv_iload_n hx hb dX5_setGroup_63 rfl (lv_at hl 2 rfl) ?_
            refine z_callR (W.runS (As := [.int (S 2 gi), .int x1]) (rest := []) ⟨hx, hb, hml, hown, hts⟩ (kX5_has l (S 2 gi) x1) (va_cwS 2 hts gX5_setGroup_X5_has rfl rfl rfl (by decide +kernel) ⟨Nat.le_of_ble_eq_true rfl, Nat.le_of_ble_eq_true rfl⟩) zP_pre rfl rfl hl.1 rfl (lv_room (Nat.le_of_ble_eq_true rfl)) dX5_setGroup_64 ⟨Nat.zero_le _, Nat.zero_le _⟩) ?_
            refine lv_istore (lv' := [(4, .int (bi (hasB (S 2 gi) x1))), (0, .ref (X 0)), (1, .int x0), (2, .int x1), (3, .int (bi b0))]) hx hb dX5_setGroup_67 hl (by decide) rfl (fun ls hl => ?_)
            refine lv_aload_n hx hb dX5_setGroup_69 rfl (lv_at hl 1 rfl) ?_
            refine va_get (D := D) (ci := 5) (v := .ref (X 2)) (C := RX5) (T := TX5) (N := 17) hx hb hts i5 hown hK hP 0 rfl rfl 3 (by decide) fl_13 (fun _ h9 => h9) rfl dX5_setGroup_70 ?_
            refine lv_iload_n hx hb dX5_setGroup_73 rfl (lv_at hl 2 rfl) ?_
            refine lv_iload_n hx hb dX5_setGroup_74 rfl (lv_at hl 4 rfl) ?_
            refine z_if_eq (tgt := 91) hx hb dX5_setGroup_75 (by decide) (fun q => absurd (c_25.symm.trans q) (by decide)) (fun _ => ?_)
            refine lv_aload_n hx hb dX5_setGroup_78 rfl (lv_at hl 1 rfl) ?_
            refine va_get (D := D) (ci := 5) (v := .ref (X 2)) (C := RX5) (T := TX5) (N := 17) hx hb hts i5 hown hK hP 0 rfl rfl 3 (by decide) fl_13 (fun _ h9 => h9) rfl dX5_setGroup_79 ?_
            refine lv_iload_n hx hb dX5_setGroup_82 rfl (lv_at hl 2 rfl) ?_
            refine z_top (nI gi) egi ?_
            refine z_iald (D := D) (j := gi) (f := S 2) hx hb hK hP 2 0 rfl rfl (by omega) (by decide) dX5_setGroup_83 ?_
            refine lv_iconst (v := 1) hx hb dX5_setGroup_84 rfl ?_
            refine lv_iload_n hx hb dX5_setGroup_85 rfl (lv_at hl 3 rfl) ?_
            refine lv_ishl hx hb dX5_setGroup_86 ?_
            refine lv_ior hx hb dX5_setGroup_87 ?_
            refine lv_goto (tgt := 103) hx hb dX5_setGroup_88 (by decide) ?_
            refine z_top2 (nI gi) egi ?_
            refine z_iast (D := D) (j := gi) (f := S 2) hx hb hK hP hD hS 2 0 rfl rfl (by omega) (by decide) dX5_setGroup_103 (fun H locs hP hD hS => ?_)
            have hP : va_P D vwCl (mW cI cZ X (va_up S 2 (upd (S 2) gi ((S 2 gi) ||| (1 <<< (x1 &&& 31))))) O (va_up V 0 0)) H := hP
            have hD : va_D A (mW cI cZ X (va_up S 2 (upd (S 2) gi ((S 2 gi) ||| (1 <<< (x1 &&& 31))))) O (va_up V 0 0)) := hD
            refine lv_iload hx hb dX5_setGroup_104 (lv_at hl 0 rfl) ?_
            have eS : (if m_sgK S x0 x1 b0 = 0 then m_set1 S 2 (ix x0) x1 b0 else S) = (va_up S 2 (upd (S 2) gi ((S 2 gi) ||| (1 <<< (x1 &&& 31))))) := by simp [m_sgK, m_set1, c_changed, bx_uu, bi, c_5, xgi, c_12, c_17, c_25, c_37]
            have eV : (va_up V 0 (m_sgK S x0 x1 b0)) = (va_up V 0 0) := by simp [m_sgK, m_set1, c_changed, bx_uu, bi, c_5, xgi, c_12, c_17, c_25, c_37]
            exact z_wzret hx hb hr hlocks (by rw [eS, eV]; exact hP) hK (by rw [eS, eV]; exact hD) hS (by simp [m_sgK, m_set1, c_changed, bx_uu, bi, c_5, xgi, c_12, c_17, c_25, c_37]) dX5_setGroup_106
          · refine lv_iconst (v := 2) hx hb dX5_setGroup_40 rfl ?_
            refine lv_goto (tgt := 45) hx hb dX5_setGroup_41 (by decide) ?_
            refine va_put (D := D) (ci := 5) (v := .int 2) (ty := .int) (C := RX5) (T := TX5) (N := 17) hx hb hts i5 tyX5 tyX5_ok nmX5 hown hK hP hD hS 0 rfl rfl 0 (by decide) fl_47 (fun _ h9 => h9) rfl (by decide +kernel) rfl rfl (Nat.le_of_ble_eq_true rfl) dX5_setGroup_45 (fun H locs hP hD hS => ?_)
            have hP : va_P D vwCl (mW cI cZ X S O (va_up V 0 2)) H := hP
            have hD : va_D A (mW cI cZ X S O (va_up V 0 2)) := hD
            refine lv_aload_n hx hb dX5_setGroup_48 rfl (lv_at hl 0 rfl) ?_
            refine va_get (D := D) (ci := 5) (v := .int 2) (C := RX5) (T := TX5) (N := 17) hx hb hts i5 hown hK hP 0 rfl rfl 0 (by decide) fl_47 (fun _ h9 => h9) rfl dX5_setGroup_49 ?_
            refine lv_if_le (tgt := 57) hx hb dX5_setGroup_52 (by decide) (fun q => absurd q (by decide)) (fun _ => ?_)
            refine lv_iconst (v := 0) hx hb dX5_setGroup_55 rfl ?_
            have eS : (if m_sgK S x0 x1 b0 = 0 then m_set1 S 2 (ix x0) x1 b0 else S) = S := by simp [m_sgK, m_set1, c_changed, bx_uu, bi, c_5, xgi, c_12, c_17, c_25, c_37]
            have eV : (va_up V 0 (m_sgK S x0 x1 b0)) = (va_up V 0 2) := by simp [m_sgK, m_set1, c_changed, bx_uu, bi, c_5, xgi, c_12, c_17, c_25, c_37]
            exact z_wzret hx hb hr hlocks (by rw [eS, eV]; exact hP) hK (by rw [eS, eV]; exact hD) hS (by simp [m_sgK, m_set1, c_changed, bx_uu, bi, c_5, xgi, c_12, c_17, c_25, c_37]) dX5_setGroup_56
      · refine lv_iconst (v := 1) hx hb dX5_setGroup_20 rfl ?_
        refine lv_goto (tgt := 45) hx hb dX5_setGroup_21 (by decide) ?_
        refine va_put (D := D) (ci := 5) (v := .int 1) (ty := .int) (C := RX5) (T := TX5) (N := 17) hx hb hts i5 tyX5 tyX5_ok nmX5 hown hK hP hD hS 0 rfl rfl 0 (by decide) fl_47 (fun _ h9 => h9) rfl (by decide +kernel) rfl rfl (Nat.le_of_ble_eq_true rfl) dX5_setGroup_45 (fun H locs hP hD hS => ?_)
        have hP : va_P D vwCl (mW cI cZ X S O (va_up V 0 1)) H := hP
        have hD : va_D A (mW cI cZ X S O (va_up V 0 1)) := hD
        refine lv_aload_n hx hb dX5_setGroup_48 rfl (lv_at hl 0 rfl) ?_
        refine va_get (D := D) (ci := 5) (v := .int 1) (C := RX5) (T := TX5) (N := 17) hx hb hts i5 hown hK hP 0 rfl rfl 0 (by decide) fl_47 (fun _ h9 => h9) rfl dX5_setGroup_49 ?_
        refine lv_if_le (tgt := 57) hx hb dX5_setGroup_52 (by decide) (fun q => absurd q (by decide)) (fun _ => ?_)
        refine lv_iconst (v := 0) hx hb dX5_setGroup_55 rfl ?_
        have eS : (if m_sgK S x0 x1 b0 = 0 then m_set1 S 2 (ix x0) x1 b0 else S) = S := by simp [m_sgK, m_set1, c_changed, bx_uu, bi, c_5, xgi, c_12, (eq_true c_17)]
        have eV : (va_up V 0 (m_sgK S x0 x1 b0)) = (va_up V 0 1) := by simp [m_sgK, m_set1, c_changed, bx_uu, bi, c_5, xgi, c_12, (eq_true c_17)]
        exact z_wzret hx hb hr hlocks (by rw [eS, eV]; exact hP) hK (by rw [eS, eV]; exact hD) hS (by simp [m_sgK, m_set1, c_changed, bx_uu, bi, c_5, xgi, c_12, (eq_true c_17)]) dX5_setGroup_56

set_option maxHeartbeats 4000000 in
set_option maxRecDepth 100000 in
theorem kX5_setRole (l : Launch) (D : va_G) (cI cZ : ClassId) (X : Nat → Nat) (S : Nat → Nat → Int32) (O : Nat → Bool) (V : Nat → Int32) (sz : Nat) (x0 : Int32) (x1 : Int32) (x2 : Int32) : Met l yX5_setRole wsX5_setRole ({ frames := 2, cells := 0, slots := 0, locals := 42 } : Room) (zW D (tyl cI cZ) (mW cI cZ X S O V) sz [.ref (X 0), .int x0, .int x1, .int x2]) (zQi D (tyl cI cZ) (mW cI cZ X (if m_srOk x0 x1 x2 = true then va_up S 3 (upd (S 3) (6 * ix x0 + ix x1) x2) else S) O (va_up V 0 (if m_srOk x0 x1 x2 = true then 0 else 1))) (if m_srOk x0 x1 x2 = true then S 3 (6 * ix x0 + ix x1) else 0) (va_A (mW cI cZ X S O V) sz)) 0 0 (va_A (mW cI cZ X S O V) sz) := by
  refine Met.ofW (cc := cX5_setRole) (maxL := 5) (ret := (some .int)) (by decide) rfl ?_
  intro p e s m args below meth c s₁ B hml hv
  obtain ⟨rfl, hsz, hP, hK, hD0⟩ := hv
  have hx := B.exec
  have hb := B.bytes
  have hr := B.returns
  have hts := atoms_spec (ws := wsX5_setRole) B.pre
  have hown : s.vm.findClass RX5 = some m.cls := findClass_of_methodNamed B.named
  have hlocks := B.notSynchronized
  subst hsz
  have hD := hD0.self (sz := s.heap.size)
  generalize hAe : va_A (mW cI cZ X S O V) s.heap.size = A at hD ⊢
  have hA : ∀ q : Nat, s.heap.size ≤ q → A q := fun q h => by rw [← hAe]; exact Or.inr h
  have hS : va_S A s.heap s.heap [] := va_S.rf
  have i5 : ∀ w ∈ u_ws RX5 TX5 17, w ∈ wsX5_setRole := by decide +kernel
  have fl_16 := hts (.fieldLink RX5 16 "SignOnHouseModel" "roles" "[I") (by decide +kernel)
  have fl_47 := hts (.fieldLink RX5 47 "SignOnHouseModel" "thrown" "I") (by decide +kernel)
  have hl := lv_entry ([.ref (X 0), .int x0, .int x1, .int x2]) (n := 5) (Nat.le_of_ble_eq_true rfl)
  rw [lg_entry_eq]
  generalize (lg_sl ([.ref (X 0), .int x0, .int x1, .int x2]) ++ List.replicate (5 - (lg_sl ([.ref (X 0), .int x0, .int x1, .int x2])).length) Slot.unset).toArray = ls at hl ⊢
  have hl : lv_has ls 5 [(0, .ref (X 0)), (1, .int x0), (2, .int x1), (3, .int x2)] := hl
  refine lv_aload_n hx hb dX5_setRole_0 rfl (lv_at hl 0 rfl) ?_
  refine lv_iconst (v := 0) hx hb dX5_setRole_1 rfl ?_
  refine va_put (D := D) (ci := 5) (v := .int 0) (ty := .int) (C := RX5) (T := TX5) (N := 17) hx hb hts i5 tyX5 tyX5_ok nmX5 hown hK hP hD hS 0 rfl rfl 0 (by decide) fl_47 (fun _ h9 => h9) rfl (by decide +kernel) rfl rfl (Nat.le_of_ble_eq_true rfl) dX5_setRole_2 (fun H locs hP hD hS => ?_)
  have hP : va_P D vwCl (mW cI cZ X S O (va_up V 0 0)) H := hP
  have hD : va_D A (mW cI cZ X S O (va_up V 0 0)) := hD
  refine lv_iload_n hx hb dX5_setRole_5 rfl (lv_at hl 1 rfl) ?_
  refine z_callR (W.runS (As := [.int x0]) (rest := []) ⟨hx, hb, hml, hown, hts⟩ (kX5_isGroup l x0) (va_cwS 1 hts gX5_setRole_X5_isGroup rfl rfl rfl (by decide +kernel) ⟨Nat.le_of_ble_eq_true rfl, Nat.le_of_ble_eq_true rfl⟩) zP_pre rfl rfl hl.1 rfl (lv_room (Nat.le_of_ble_eq_true rfl)) dX5_setRole_6 ⟨Nat.zero_le _, Nat.zero_le _⟩) ?_
  refine z_if_eq (tgt := 28) hx hb dX5_setRole_9 (by decide) (fun c_9 => ?_) (fun c_9 => ?_)
  · refine lv_aload_n hx hb dX5_setRole_28 rfl (lv_at hl 0 rfl) ?_
    refine lv_iconst (v := 1) hx hb dX5_setRole_29 rfl ?_
    have hF := z_free hD hS hA
    refine z_callWi (va_runV (As := [.int 1]) (rest := []) ⟨hx, hb, hml, hown, hts⟩ (kX5_fails l D cI cZ X S O (va_up V 0 0) _ 1) (cwV 1 hts gX5_setRole_X5_fails rfl rfl rfl (by decide +kernel) ⟨Nat.le_of_ble_eq_true rfl, Nat.le_of_ble_eq_true rfl⟩) (zW_preV 0 5 hK hP hD rfl rfl) rfl rfl hl.1 rfl (lv_room (Nat.le_of_ble_eq_true rfl)) dX5_setRole_30 ⟨Nat.zero_le _, Nat.zero_le _⟩) hS hF (fun H locs hP hD hS => ?_)
    have eS : (if m_srOk x0 x1 x2 = true then va_up S 3 (upd (S 3) (6 * ix x0 + ix x1) x2) else S) = S := by simp [m_srOk, bx_uu, bi, c_9]
    have eV : (va_up V 0 (if m_srOk x0 x1 x2 = true then 0 else 1)) = (va_up (va_up V 0 0) 0 1) := by simp [m_srOk, bx_uu, bi, c_9]
    exact z_wret hx hb hr hlocks (by rw [eS, eV]; exact hP) hK (by rw [eS, eV]; exact hD) hS (by simp [m_srOk, bx_uu, bi, c_9]) dX5_setRole_33
  · obtain ⟨gi, hgi, egi⟩ := m_in7 c_9
    have xgi : ix x0 = gi := ix_of egi (by omega)
    refine lv_iload_n hx hb dX5_setRole_12 rfl (lv_at hl 2 rfl) ?_
    refine z_callR (W.runS (As := [.int x1]) (rest := []) ⟨hx, hb, hml, hown, hts⟩ (kX5_isRole l x1) (va_cwS 1 hts gX5_setRole_X5_isRole rfl rfl rfl (by decide +kernel) ⟨Nat.le_of_ble_eq_true rfl, Nat.le_of_ble_eq_true rfl⟩) zP_pre rfl rfl hl.1 rfl (lv_room (Nat.le_of_ble_eq_true rfl)) dX5_setRole_13 ⟨Nat.zero_le _, Nat.zero_le _⟩) ?_
    refine z_if_eq (tgt := 28) hx hb dX5_setRole_16 (by decide) (fun c_16 => ?_) (fun c_16 => ?_)
    · refine lv_aload_n hx hb dX5_setRole_28 rfl (lv_at hl 0 rfl) ?_
      refine lv_iconst (v := 1) hx hb dX5_setRole_29 rfl ?_
      have hF := z_free hD hS hA
      refine z_callWi (va_runV (As := [.int 1]) (rest := []) ⟨hx, hb, hml, hown, hts⟩ (kX5_fails l D cI cZ X S O (va_up V 0 0) _ 1) (cwV 1 hts gX5_setRole_X5_fails rfl rfl rfl (by decide +kernel) ⟨Nat.le_of_ble_eq_true rfl, Nat.le_of_ble_eq_true rfl⟩) (zW_preV 0 5 hK hP hD rfl rfl) rfl rfl hl.1 rfl (lv_room (Nat.le_of_ble_eq_true rfl)) dX5_setRole_30 ⟨Nat.zero_le _, Nat.zero_le _⟩) hS hF (fun H locs hP hD hS => ?_)
      have eS : (if m_srOk x0 x1 x2 = true then va_up S 3 (upd (S 3) (6 * ix x0 + ix x1) x2) else S) = S := by simp [m_srOk, bx_uu, bi, c_9, xgi, c_16]
      have eV : (va_up V 0 (if m_srOk x0 x1 x2 = true then 0 else 1)) = (va_up (va_up V 0 0) 0 1) := by simp [m_srOk, bx_uu, bi, c_9, xgi, c_16]
      exact z_wret hx hb hr hlocks (by rw [eS, eV]; exact hP) hK (by rw [eS, eV]; exact hD) hS (by simp [m_srOk, bx_uu, bi, c_9, xgi, c_16]) dX5_setRole_33
    · obtain ⟨ri, hri, eri⟩ := m_in5 c_16
      have xri : ix x1 = ri := ix_of eri (by omega)
      refine lv_iload_n hx hb dX5_setRole_19 rfl (lv_at hl 3 rfl) ?_
      refine lv_iconst (v := 0) hx hb dX5_setRole_20 rfl ?_
      refine lv_iconst (v := 2) hx hb dX5_setRole_21 rfl ?_
      refine z_callR (W.runS (As := [.int x2, .int 0, .int 2]) (rest := []) ⟨hx, hb, hml, hown, hts⟩ (kX5_in l x2 0 2) (va_cwS 3 hts gX5_setRole_X5_in rfl rfl rfl (by decide +kernel) ⟨Nat.le_of_ble_eq_true rfl, Nat.le_of_ble_eq_true rfl⟩) zP_pre rfl rfl hl.1 rfl (lv_room (Nat.le_of_ble_eq_true rfl)) dX5_setRole_22 ⟨Nat.zero_le _, Nat.zero_le _⟩) ?_
      refine z_if_ne (tgt := 34) hx hb dX5_setRole_25 (by decide) (fun c_25 => ?_) (fun c_25 => ?_)
      · refine lv_aload_n hx hb dX5_setRole_34 rfl (lv_at hl 0 rfl) ?_
        refine va_get (D := D) (ci := 5) (v := .ref (X 3)) (C := RX5) (T := TX5) (N := 17) hx hb hts i5 hown hK hP 0 rfl rfl 4 (by decide) fl_16 (fun _ h9 => h9) rfl dX5_setRole_35 ?_
        refine lv_bipush (v := 6) hx hb dX5_setRole_38 (by decide) ?_
        refine lv_iload_n hx hb dX5_setRole_40 rfl (lv_at hl 1 rfl) ?_
        refine lv_imul hx hb dX5_setRole_41 ?_
        refine lv_iload_n hx hb dX5_setRole_42 rfl (lv_at hl 2 rfl) ?_
        refine lv_iadd hx hb dX5_setRole_43 ?_
        refine z_top (nI (6 * gi + ri)) (by rw [egi, eri]; simp only [show (60 : Int32) = nI 60 from rfl, show (6 : Int32) = nI 6 from rfl, pk_mul, nI_add]) ?_
        refine z_iald (D := D) (j := 6 * gi + ri) (f := S 3) hx hb hK hP 3 0 rfl rfl (by omega) (by decide) dX5_setRole_44 ?_
        refine lv_istore (lv' := [(4, .int (S 3 (6 * gi + ri))), (0, .ref (X 0)), (1, .int x0), (2, .int x1), (3, .int x2)]) hx hb dX5_setRole_45 hl (by decide) rfl (fun ls hl => ?_)
        refine lv_aload_n hx hb dX5_setRole_47 rfl (lv_at hl 1 rfl) ?_
        refine va_get (D := D) (ci := 5) (v := .ref (X 3)) (C := RX5) (T := TX5) (N := 17) hx hb hts i5 hown hK hP 0 rfl rfl 4 (by decide) fl_16 (fun _ h9 => h9) rfl dX5_setRole_48 ?_
        refine lv_bipush (v := 6) hx hb dX5_setRole_51 (by decide) ?_
        refine lv_iload_n hx hb dX5_setRole_53 rfl (lv_at hl 2 rfl) ?_
        refine lv_imul hx hb dX5_setRole_54 ?_
        refine lv_iload_n hx hb dX5_setRole_55 rfl (lv_at hl 3 rfl) ?_
        refine lv_iadd hx hb dX5_setRole_56 ?_
        refine z_top (nI (6 * gi + ri)) (by rw [egi, eri]; simp only [show (60 : Int32) = nI 60 from rfl, show (6 : Int32) = nI 6 from rfl, pk_mul, nI_add]) ?_
        refine lv_iload_n hx hb dX5_setRole_57 rfl (lv_at hl 4 rfl) ?_
        refine z_iast (D := D) (j := 6 * gi + ri) (f := S 3) hx hb hK hP hD hS 3 0 rfl rfl (by omega) (by decide) dX5_setRole_58 (fun H locs hP hD hS => ?_)
        have hP : va_P D vwCl (mW cI cZ X (va_up S 3 (upd (S 3) (6 * gi + ri) x2)) O (va_up V 0 0)) H := hP
        have hD : va_D A (mW cI cZ X (va_up S 3 (upd (S 3) (6 * gi + ri) x2)) O (va_up V 0 0)) := hD
        refine lv_iload hx hb dX5_setRole_59 (lv_at hl 0 rfl) ?_
        have eS : (if m_srOk x0 x1 x2 = true then va_up S 3 (upd (S 3) (6 * ix x0 + ix x1) x2) else S) = (va_up S 3 (upd (S 3) (6 * gi + ri) x2)) := by simp [m_srOk, bx_uu, bi, c_9, xgi, c_16, xri, c_25]
        have eV : (va_up V 0 (if m_srOk x0 x1 x2 = true then 0 else 1)) = (va_up V 0 0) := by simp [m_srOk, bx_uu, bi, c_9, xgi, c_16, xri, c_25]
        exact z_wret hx hb hr hlocks (by rw [eS, eV]; exact hP) hK (by rw [eS, eV]; exact hD) hS (by simp [m_srOk, bx_uu, bi, c_9, xgi, c_16, xri, c_25]) dX5_setRole_61
      · refine lv_aload_n hx hb dX5_setRole_28 rfl (lv_at hl 0 rfl) ?_
        refine lv_iconst (v := 1) hx hb dX5_setRole_29 rfl ?_
        have hF := z_free hD hS hA
        refine z_callWi (va_runV (As := [.int 1]) (rest := []) ⟨hx, hb, hml, hown, hts⟩ (kX5_fails l D cI cZ X S O (va_up V 0 0) _ 1) (cwV 1 hts gX5_setRole_X5_fails rfl rfl rfl (by decide +kernel) ⟨Nat.le_of_ble_eq_true rfl, Nat.le_of_ble_eq_true rfl⟩) (zW_preV 0 5 hK hP hD rfl rfl) rfl rfl hl.1 rfl (lv_room (Nat.le_of_ble_eq_true rfl)) dX5_setRole_30 ⟨Nat.zero_le _, Nat.zero_le _⟩) hS hF (fun H locs hP hD hS => ?_)
        have eS : (if m_srOk x0 x1 x2 = true then va_up S 3 (upd (S 3) (6 * ix x0 + ix x1) x2) else S) = S := by simp [m_srOk, bx_uu, bi, c_9, xgi, c_16, xri, c_25]
        have eV : (va_up V 0 (if m_srOk x0 x1 x2 = true then 0 else 1)) = (va_up (va_up V 0 0) 0 1) := by simp [m_srOk, bx_uu, bi, c_9, xgi, c_16, xri, c_25]
        exact z_wret hx hb hr hlocks (by rw [eS, eV]; exact hP) hK (by rw [eS, eV]; exact hD) hS (by simp [m_srOk, bx_uu, bi, c_9, xgi, c_16, xri, c_25]) dX5_setRole_33

set_option maxHeartbeats 4000000 in
set_option maxRecDepth 100000 in
theorem kX5_setRisk (l : Launch) (D : va_G) (cI cZ : ClassId) (X : Nat → Nat) (S : Nat → Nat → Int32) (O : Nat → Bool) (V : Nat → Int32) (sz : Nat) (x0 : Int32) (x1 : Int32) (n0 : Nat) (hn0 : n0 ≤ 30) (hct : V 2 = nI n0) : Met l yX5_setRisk wsX5_setRisk ({ frames := 2, cells := 0, slots := 0, locals := 42 } : Room) (zW D (tyl cI cZ) (mW cI cZ X S O V) sz [.ref (X 0), .int x0, .int x1]) (zQi D (tyl cI cZ) (mW cI cZ X (if m_riOk x0 x1 = true then va_up S 4 (upd (S 4) (ix x0) x1) else S) (if m_riOk x0 x1 = true then m_srO S O x0 x1 n0 else O) (va_up V 0 (if m_riOk x0 x1 = true then 0 else 1))) (if m_riOk x0 x1 = true then m_srN S O x0 x1 n0 else 0) (va_A (mW cI cZ X S O V) sz)) 0 0 (va_A (mW cI cZ X S O V) sz) := by
  refine Met.ofW (cc := cX5_setRisk) (maxL := 6) (ret := (some .int)) (by decide) rfl ?_
  intro p e s m args below meth c s₁ B hml hv
  obtain ⟨rfl, hsz, hP, hK, hD0⟩ := hv
  have hx := B.exec
  have hb := B.bytes
  have hr := B.returns
  have hts := atoms_spec (ws := wsX5_setRisk) B.pre
  have hown : s.vm.findClass RX5 = some m.cls := findClass_of_methodNamed B.named
  have hlocks := B.notSynchronized
  subst hsz
  have hD := hD0.self (sz := s.heap.size)
  generalize hAe : va_A (mW cI cZ X S O V) s.heap.size = A at hD ⊢
  have hA : ∀ q : Nat, s.heap.size ≤ q → A q := fun q h => by rw [← hAe]; exact Or.inr h
  have hS : va_S A s.heap s.heap [] := va_S.rf
  have i5 : ∀ w ∈ u_ws RX5 TX5 17, w ∈ wsX5_setRisk := by decide +kernel
  have fl_19 := hts (.fieldLink RX5 19 "SignOnHouseModel" "risk" "[I") (by decide +kernel)
  have fl_25 := hts (.fieldLink RX5 25 "SignOnHouseModel" "who" "[I") (by decide +kernel)
  have fl_37 := hts (.fieldLink RX5 37 "SignOnHouseModel" "over" "[Z") (by decide +kernel)
  have fl_47 := hts (.fieldLink RX5 47 "SignOnHouseModel" "thrown" "I") (by decide +kernel)
  have fl_94 := hts (.fieldLink RX5 94 "SignOnHouseModel" "sessions" "I") (by decide +kernel)
  have hl := lv_entry ([.ref (X 0), .int x0, .int x1]) (n := 6) (Nat.le_of_ble_eq_true rfl)
  rw [lg_entry_eq]
  generalize (lg_sl ([.ref (X 0), .int x0, .int x1]) ++ List.replicate (6 - (lg_sl ([.ref (X 0), .int x0, .int x1])).length) Slot.unset).toArray = ls at hl ⊢
  have hl : lv_has ls 6 [(0, .ref (X 0)), (1, .int x0), (2, .int x1)] := hl
  refine lv_aload_n hx hb dX5_setRisk_0 rfl (lv_at hl 0 rfl) ?_
  refine lv_iconst (v := 0) hx hb dX5_setRisk_1 rfl ?_
  refine va_put (D := D) (ci := 5) (v := .int 0) (ty := .int) (C := RX5) (T := TX5) (N := 17) hx hb hts i5 tyX5 tyX5_ok nmX5 hown hK hP hD hS 0 rfl rfl 0 (by decide) fl_47 (fun _ h9 => h9) rfl (by decide +kernel) rfl rfl (Nat.le_of_ble_eq_true rfl) dX5_setRisk_2 (fun H locs hP hD hS => ?_)
  have hP : va_P D vwCl (mW cI cZ X S O (va_up V 0 0)) H := hP
  have hD : va_D A (mW cI cZ X S O (va_up V 0 0)) := hD
  refine lv_iload_n hx hb dX5_setRisk_5 rfl (lv_at hl 1 rfl) ?_
  refine z_callR (W.runS (As := [.int x0]) (rest := []) ⟨hx, hb, hml, hown, hts⟩ (kX5_isPerson l x0) (va_cwS 1 hts gX5_setRisk_X5_isPerson rfl rfl rfl (by decide +kernel) ⟨Nat.le_of_ble_eq_true rfl, Nat.le_of_ble_eq_true rfl⟩) zP_pre rfl rfl hl.1 rfl (lv_room (Nat.le_of_ble_eq_true rfl)) dX5_setRisk_6 ⟨Nat.zero_le _, Nat.zero_le _⟩) ?_
  refine z_if_eq (tgt := 21) hx hb dX5_setRisk_9 (by decide) (fun c_9 => ?_) (fun c_9 => ?_)
  · refine lv_aload_n hx hb dX5_setRisk_21 rfl (lv_at hl 0 rfl) ?_
    refine lv_iconst (v := 1) hx hb dX5_setRisk_22 rfl ?_
    have hF := z_free hD hS hA
    refine z_callWi (va_runV (As := [.int 1]) (rest := []) ⟨hx, hb, hml, hown, hts⟩ (kX5_fails l D cI cZ X S O (va_up V 0 0) _ 1) (cwV 1 hts gX5_setRisk_X5_fails rfl rfl rfl (by decide +kernel) ⟨Nat.le_of_ble_eq_true rfl, Nat.le_of_ble_eq_true rfl⟩) (zW_preV 0 5 hK hP hD rfl rfl) rfl rfl hl.1 rfl (lv_room (Nat.le_of_ble_eq_true rfl)) dX5_setRisk_23 ⟨Nat.zero_le _, Nat.zero_le _⟩) hS hF (fun H locs hP hD hS => ?_)
    have eS : (if m_riOk x0 x1 = true then va_up S 4 (upd (S 4) (ix x0) x1) else S) = S := by simp [m_riOk, bx_uu, bi, c_9]
    have eO : (if m_riOk x0 x1 = true then m_srO S O x0 x1 n0 else O) = O := by simp [m_riOk, bx_uu, bi, c_9]
    have eV : (va_up V 0 (if m_riOk x0 x1 = true then 0 else 1)) = (va_up (va_up V 0 0) 0 1) := by simp [m_riOk, bx_uu, bi, c_9]
    exact z_wret hx hb hr hlocks (by rw [eS, eO, eV]; exact hP) hK (by rw [eS, eO, eV]; exact hD) hS (by simp [m_riOk, bx_uu, bi, c_9]) dX5_setRisk_26
  · obtain ⟨pi, hpi, epi⟩ := m_in9 c_9
    have xpi : ix x0 = pi := ix_of epi (by omega)
    refine lv_iload_n hx hb dX5_setRisk_12 rfl (lv_at hl 2 rfl) ?_
    refine lv_iconst (v := 0) hx hb dX5_setRisk_13 rfl ?_
    refine lv_iconst (v := 3) hx hb dX5_setRisk_14 rfl ?_
    refine z_callR (W.runS (As := [.int x1, .int 0, .int 3]) (rest := []) ⟨hx, hb, hml, hown, hts⟩ (kX5_in l x1 0 3) (va_cwS 3 hts gX5_setRisk_X5_in rfl rfl rfl (by decide +kernel) ⟨Nat.le_of_ble_eq_true rfl, Nat.le_of_ble_eq_true rfl⟩) zP_pre rfl rfl hl.1 rfl (lv_room (Nat.le_of_ble_eq_true rfl)) dX5_setRisk_15 ⟨Nat.zero_le _, Nat.zero_le _⟩) ?_
    refine z_if_ne (tgt := 27) hx hb dX5_setRisk_18 (by decide) (fun c_18 => ?_) (fun c_18 => ?_)
    · refine lv_iconst (v := 0) hx hb dX5_setRisk_27 rfl ?_
      refine lv_istore_n (lv' := [(3, .int 0), (0, .ref (X 0)), (1, .int x0), (2, .int x1)]) hx hb dX5_setRisk_28 rfl hl (by decide) rfl (fun ls hl => ?_)
      refine lv_iconst (v := nI 0) hx hb dX5_setRisk_29 rfl ?_
      refine lv_istore (lv' := [(4, .int (nI 0)), (3, .int 0), (0, .ref (X 0)), (1, .int x0), (2, .int x1)]) hx hb dX5_setRisk_30 hl (by decide) rfl (fun ls hl => ?_)
      refine z_loopW (N := n0) (nL := 6) (Lc := (fun k => [(4, .int (nI k)), (3, .int (m_srN S O x0 x1 k)), (0, .ref (X 0)), (1, .int x0), (2, .int x1)])) (Wd := fun k => mW cI cZ X S (m_srO S O x0 x1 k) (va_up V 0 0)) (lv_sub hl [0, 1, 2, 3, 4] rfl) hP hD hS (fun H locs ls hP hD hS hl => ?_) (fun k H locs ls hk hP hD hS hl ih => ?_)
      · have hP : va_P D vwCl (mW cI cZ X S (m_srO S O x0 x1 n0) (va_up V 0 0)) H := hP
        have hD : va_D A (mW cI cZ X S (m_srO S O x0 x1 n0) (va_up V 0 0)) := hD
        have hl : lv_has ls 6 [(4, .int (nI n0)), (3, .int (m_srN S O x0 x1 n0)), (0, .ref (X 0)), (1, .int x0), (2, .int x1)] := hl
        refine lv_iload hx hb dX5_setRisk_32 (lv_at hl 0 rfl) ?_
        refine lv_aload_n hx hb dX5_setRisk_34 rfl (lv_at hl 2 rfl) ?_
        refine va_get (D := D) (ci := 5) (v := .int (V 2)) (C := RX5) (T := TX5) (N := 17) hx hb hts i5 hown hK hP 0 rfl rfl 7 (by decide) fl_94 (fun _ h9 => h9) rfl dX5_setRisk_35 ?_
        refine z_top (nI n0) hct ?_
        refine z_ge_t (tgt := 125) (nI_le (by omega) (by omega)) hx hb dX5_setRisk_38 (by decide) ?_
        refine lv_aload_n hx hb dX5_setRisk_125 rfl (lv_at hl 2 rfl) ?_
        refine va_get (D := D) (ci := 5) (v := .ref (X 4)) (C := RX5) (T := TX5) (N := 17) hx hb hts i5 hown hK hP 0 rfl rfl 5 (by decide) fl_19 (fun _ h9 => h9) rfl dX5_setRisk_126 ?_
        refine lv_iload_n hx hb dX5_setRisk_129 rfl (lv_at hl 3 rfl) ?_
        refine lv_iload_n hx hb dX5_setRisk_130 rfl (lv_at hl 4 rfl) ?_
        refine z_top2 (nI pi) epi ?_
        refine z_iast (D := D) (j := pi) (f := S 4) hx hb hK hP hD hS 4 0 rfl rfl (by omega) (by decide) dX5_setRisk_131 (fun H locs hP hD hS => ?_)
        have hP : va_P D vwCl (mW cI cZ X (va_up S 4 (upd (S 4) pi x1)) (m_srO S O x0 x1 n0) (va_up V 0 0)) H := hP
        have hD : va_D A (mW cI cZ X (va_up S 4 (upd (S 4) pi x1)) (m_srO S O x0 x1 n0) (va_up V 0 0)) := hD
        refine lv_iload_n hx hb dX5_setRisk_132 rfl (lv_at hl 1 rfl) ?_
        have eS : (if m_riOk x0 x1 = true then va_up S 4 (upd (S 4) (ix x0) x1) else S) = (va_up S 4 (upd (S 4) pi x1)) := by simp [m_riOk, bx_uu, bi, c_9, xpi, c_18]
        have eO : (if m_riOk x0 x1 = true then m_srO S O x0 x1 n0 else O) = (m_srO S O x0 x1 n0) := by simp [m_riOk, bx_uu, bi, c_9, xpi, c_18]
        have eV : (va_up V 0 (if m_riOk x0 x1 = true then 0 else 1)) = (va_up V 0 0) := by simp [m_riOk, bx_uu, bi, c_9, xpi, c_18]
        exact z_wret hx hb hr hlocks (by rw [eS, eO, eV]; exact hP) hK (by rw [eS, eO, eV]; exact hD) hS (by simp [m_riOk, bx_uu, bi, c_9, xpi, c_18]) dX5_setRisk_133
      · have hP : va_P D vwCl (mW cI cZ X S (m_srO S O x0 x1 k) (va_up V 0 0)) H := hP
        have hD : va_D A (mW cI cZ X S (m_srO S O x0 x1 k) (va_up V 0 0)) := hD
        have hl : lv_has ls 6 [(4, .int (nI k)), (3, .int (m_srN S O x0 x1 k)), (0, .ref (X 0)), (1, .int x0), (2, .int x1)] := hl
        have ih_32 := ih
        refine lv_iload hx hb dX5_setRisk_32 (lv_at hl 0 rfl) ?_
        refine lv_aload_n hx hb dX5_setRisk_34 rfl (lv_at hl 2 rfl) ?_
        refine va_get (D := D) (ci := 5) (v := .int (V 2)) (C := RX5) (T := TX5) (N := 17) hx hb hts i5 hown hK hP 0 rfl rfl 7 (by decide) fl_94 (fun _ h9 => h9) rfl dX5_setRisk_35 ?_
        refine z_top (nI n0) hct ?_
        refine z_ge_f (tgt := 125) (nI_ge (by omega) (by omega)) hx hb dX5_setRisk_38 (by decide) ?_
        refine lv_iload_n hx hb dX5_setRisk_41 rfl (lv_at hl 4 rfl) ?_
        refine lv_aload_n hx hb dX5_setRisk_42 rfl (lv_at hl 2 rfl) ?_
        refine va_get (D := D) (ci := 5) (v := .ref (X 4)) (C := RX5) (T := TX5) (N := 17) hx hb hts i5 hown hK hP 0 rfl rfl 5 (by decide) fl_19 (fun _ h9 => h9) rfl dX5_setRisk_43 ?_
        refine lv_iload_n hx hb dX5_setRisk_46 rfl (lv_at hl 3 rfl) ?_
        refine z_top (nI pi) epi ?_
        refine z_iald (D := D) (j := pi) (f := S 4) hx hb hK hP 4 0 rfl rfl (by omega) (by decide) dX5_setRisk_47 ?_
        refine lv_icmp_le (tgt := 76) hx hb dX5_setRisk_48 (by decide) (fun c_48 => ?_) (fun c_48 => ?_)
        · refine lv_iconst (v := 0) hx hb dX5_setRisk_76 rfl ?_
          refine lv_istore (lv' := [(5, .int 0), (4, .int (nI k)), (3, .int (m_srN S O x0 x1 k)), (0, .ref (X 0)), (1, .int x0), (2, .int x1)]) hx hb dX5_setRisk_77 hl (by decide) rfl (fun ls hl => ?_)
          refine lv_iload_n hx hb dX5_setRisk_79 rfl (lv_at hl 2 rfl) ?_
          refine lv_iload hx hb dX5_setRisk_80 (lv_at hl 0 rfl) ?_
          refine z_sel_if_eq hx hb dX5_setRisk_82 dX5_setRisk_85 dX5_setRisk_86 dX5_setRisk_89 ?_
          refine lv_iadd hx hb dX5_setRisk_90 ?_
          refine lv_istore_n (lv' := [(3, .int ((m_srN S O x0 x1 k) + (bi (!decide (0 = 0))))), (5, .int 0), (4, .int (nI k)), (0, .ref (X 0)), (1, .int x0), (2, .int x1)]) hx hb dX5_setRisk_91 rfl hl (by decide) rfl (fun ls hl => ?_)
          refine lv_aload_n hx hb dX5_setRisk_92 rfl (lv_at hl 3 rfl) ?_
          refine va_get (D := D) (ci := 5) (v := .ref (X 10)) (C := RX5) (T := TX5) (N := 17) hx hb hts i5 hown hK hP 0 rfl rfl 12 (by decide) fl_37 (fun _ h9 => h9) rfl dX5_setRisk_93 ?_
          refine lv_iload hx hb dX5_setRisk_96 (lv_at hl 2 rfl) ?_
          refine lv_aload_n hx hb dX5_setRisk_98 rfl (lv_at hl 3 rfl) ?_
          refine va_get (D := D) (ci := 5) (v := .ref (X 10)) (C := RX5) (T := TX5) (N := 17) hx hb hts i5 hown hK hP 0 rfl rfl 12 (by decide) fl_37 (fun _ h9 => h9) rfl dX5_setRisk_99 ?_
          refine lv_iload hx hb dX5_setRisk_102 (lv_at hl 2 rfl) ?_
          refine z_zald (D := D) (j := k) (g := m_srO S O x0 x1 k) hx hb hK hP 10 1 rfl rfl (by omega) (by decide) dX5_setRisk_104 ?_
          refine z_if_ne (tgt := 113) hx hb dX5_setRisk_105 (by decide) (fun c_105 => ?_) (fun c_105 => ?_)
          · refine lv_iconst (v := 1) hx hb dX5_setRisk_113 rfl ?_
            refine lv_goto (tgt := 118) hx hb dX5_setRisk_114 (by decide) ?_
            refine z_zast (D := D) (j := k) (b := true) (g := m_srO S O x0 x1 k) hx hb hK hP hD hS 10 1 rfl rfl (by omega) (by decide) dX5_setRisk_118 (fun H locs hP hD hS => ?_)
            have hP : va_P D vwCl (mW cI cZ X S (va_up (m_srO S O x0 x1 k) k true) (va_up V 0 0)) H := hP
            have hD : va_D A (mW cI cZ X S (va_up (m_srO S O x0 x1 k) k true) (va_up V 0 0)) := hD
            refine lv_iinc (v := nI (k + 1)) (lv' := [(4, .int (nI (k + 1))), (3, .int ((m_srN S O x0 x1 k) + (bi (!decide (0 = 0))))), (5, .int 0), (0, .ref (X 0)), (1, .int x0), (2, .int x1)]) hx hb dX5_setRisk_119 hl (k := 2) rfl (nI_1 _) (by decide) rfl (fun ls hl => ?_)
            refine lv_goto (tgt := 32) hx hb dX5_setRisk_122 (by decide) ?_
            have e3 : (m_srN S O x0 x1 (k + 1)) = ((m_srN S O x0 x1 k) + (bi (!decide (0 = 0)))) := by simp [m_srN, m_srO, m_srG, bi, c_9, xpi, c_18, c_48, c_105]
            have eO : (m_srO S O x0 x1 (k + 1)) = (va_up (m_srO S O x0 x1 k) k true) := by simp [m_srN, m_srO, m_srG, bi, c_9, xpi, c_18, c_48, c_105]
            exact ih_32 H locs ls (by show va_P D vwCl (mW cI cZ X S (m_srO S O x0 x1 (k + 1)) (va_up V 0 0)) H; rw [eO]; exact hP) (by show va_D A (mW cI cZ X S (m_srO S O x0 x1 (k + 1)) (va_up V 0 0)); rw [eO]; exact hD) hS (by show lv_has ls 6 [(4, .int (nI (k + 1))), (3, .int (m_srN S O x0 x1 (k + 1))), (0, .ref (X 0)), (1, .int x0), (2, .int x1)]; rw [e3]; exact lv_sub hl [0, 1, 3, 4, 5] rfl)
          · refine lv_iload hx hb dX5_setRisk_108 (lv_at hl 1 rfl) ?_
            refine z_sel_if_eq hx hb dX5_setRisk_110 dX5_setRisk_113 dX5_setRisk_114 dX5_setRisk_117 ?_
            refine z_zast (D := D) (j := k) (b := !decide (0 = 0)) (g := m_srO S O x0 x1 k) hx hb hK hP hD hS 10 1 rfl rfl (by omega) (by decide) dX5_setRisk_118 (fun H locs hP hD hS => ?_)
            have hP : va_P D vwCl (mW cI cZ X S (va_up (m_srO S O x0 x1 k) k (!decide (0 = 0))) (va_up V 0 0)) H := hP
            have hD : va_D A (mW cI cZ X S (va_up (m_srO S O x0 x1 k) k (!decide (0 = 0))) (va_up V 0 0)) := hD
            refine lv_iinc (v := nI (k + 1)) (lv' := [(4, .int (nI (k + 1))), (3, .int ((m_srN S O x0 x1 k) + (bi (!decide (0 = 0))))), (5, .int 0), (0, .ref (X 0)), (1, .int x0), (2, .int x1)]) hx hb dX5_setRisk_119 hl (k := 2) rfl (nI_1 _) (by decide) rfl (fun ls hl => ?_)
            refine lv_goto (tgt := 32) hx hb dX5_setRisk_122 (by decide) ?_
            have e3 : (m_srN S O x0 x1 (k + 1)) = ((m_srN S O x0 x1 k) + (bi (!decide (0 = 0)))) := by simp [m_srN, m_srO, m_srG, bi, c_9, xpi, c_18, c_48, c_105]
            have eO : (m_srO S O x0 x1 (k + 1)) = (va_up (m_srO S O x0 x1 k) k (!decide (0 = 0))) := by simp [m_srN, m_srO, m_srG, bi, c_9, xpi, c_18, c_48, c_105]
            exact ih_32 H locs ls (by show va_P D vwCl (mW cI cZ X S (m_srO S O x0 x1 (k + 1)) (va_up V 0 0)) H; rw [eO]; exact hP) (by show va_D A (mW cI cZ X S (m_srO S O x0 x1 (k + 1)) (va_up V 0 0)); rw [eO]; exact hD) hS (by show lv_has ls 6 [(4, .int (nI (k + 1))), (3, .int (m_srN S O x0 x1 (k + 1))), (0, .ref (X 0)), (1, .int x0), (2, .int x1)]; rw [e3]; exact lv_sub hl [0, 1, 3, 4, 5] rfl)
        · refine lv_aload_n hx hb dX5_setRisk_51 rfl (lv_at hl 2 rfl) ?_
          refine va_get (D := D) (ci := 5) (v := .ref (X 6)) (C := RX5) (T := TX5) (N := 17) hx hb hts i5 hown hK hP 0 rfl rfl 8 (by decide) fl_25 (fun _ h9 => h9) rfl dX5_setRisk_52 ?_
          refine lv_iload hx hb dX5_setRisk_55 (lv_at hl 0 rfl) ?_
          refine z_iald (D := D) (j := k) (f := S 6) hx hb hK hP 6 0 rfl rfl (by omega) (by decide) dX5_setRisk_57 ?_
          refine lv_iload_n hx hb dX5_setRisk_58 rfl (lv_at hl 3 rfl) ?_
          refine lv_icmp_ne (tgt := 76) hx hb dX5_setRisk_59 (by decide) (fun c_59 => ?_) (fun c_59 => ?_)
          · refine lv_iconst (v := 0) hx hb dX5_setRisk_76 rfl ?_
            refine lv_istore (lv' := [(5, .int 0), (4, .int (nI k)), (3, .int (m_srN S O x0 x1 k)), (0, .ref (X 0)), (1, .int x0), (2, .int x1)]) hx hb dX5_setRisk_77 hl (by decide) rfl (fun ls hl => ?_)
            refine lv_iload_n hx hb dX5_setRisk_79 rfl (lv_at hl 2 rfl) ?_
            refine lv_iload hx hb dX5_setRisk_80 (lv_at hl 0 rfl) ?_
            refine z_sel_if_eq hx hb dX5_setRisk_82 dX5_setRisk_85 dX5_setRisk_86 dX5_setRisk_89 ?_
            refine lv_iadd hx hb dX5_setRisk_90 ?_
            refine lv_istore_n (lv' := [(3, .int ((m_srN S O x0 x1 k) + (bi (!decide (0 = 0))))), (5, .int 0), (4, .int (nI k)), (0, .ref (X 0)), (1, .int x0), (2, .int x1)]) hx hb dX5_setRisk_91 rfl hl (by decide) rfl (fun ls hl => ?_)
            refine lv_aload_n hx hb dX5_setRisk_92 rfl (lv_at hl 3 rfl) ?_
            refine va_get (D := D) (ci := 5) (v := .ref (X 10)) (C := RX5) (T := TX5) (N := 17) hx hb hts i5 hown hK hP 0 rfl rfl 12 (by decide) fl_37 (fun _ h9 => h9) rfl dX5_setRisk_93 ?_
            refine lv_iload hx hb dX5_setRisk_96 (lv_at hl 2 rfl) ?_
            refine lv_aload_n hx hb dX5_setRisk_98 rfl (lv_at hl 3 rfl) ?_
            refine va_get (D := D) (ci := 5) (v := .ref (X 10)) (C := RX5) (T := TX5) (N := 17) hx hb hts i5 hown hK hP 0 rfl rfl 12 (by decide) fl_37 (fun _ h9 => h9) rfl dX5_setRisk_99 ?_
            refine lv_iload hx hb dX5_setRisk_102 (lv_at hl 2 rfl) ?_
            refine z_zald (D := D) (j := k) (g := m_srO S O x0 x1 k) hx hb hK hP 10 1 rfl rfl (by omega) (by decide) dX5_setRisk_104 ?_
            refine z_if_ne (tgt := 113) hx hb dX5_setRisk_105 (by decide) (fun c_105 => ?_) (fun c_105 => ?_)
            · refine lv_iconst (v := 1) hx hb dX5_setRisk_113 rfl ?_
              refine lv_goto (tgt := 118) hx hb dX5_setRisk_114 (by decide) ?_
              refine z_zast (D := D) (j := k) (b := true) (g := m_srO S O x0 x1 k) hx hb hK hP hD hS 10 1 rfl rfl (by omega) (by decide) dX5_setRisk_118 (fun H locs hP hD hS => ?_)
              have hP : va_P D vwCl (mW cI cZ X S (va_up (m_srO S O x0 x1 k) k true) (va_up V 0 0)) H := hP
              have hD : va_D A (mW cI cZ X S (va_up (m_srO S O x0 x1 k) k true) (va_up V 0 0)) := hD
              refine lv_iinc (v := nI (k + 1)) (lv' := [(4, .int (nI (k + 1))), (3, .int ((m_srN S O x0 x1 k) + (bi (!decide (0 = 0))))), (5, .int 0), (0, .ref (X 0)), (1, .int x0), (2, .int x1)]) hx hb dX5_setRisk_119 hl (k := 2) rfl (nI_1 _) (by decide) rfl (fun ls hl => ?_)
              refine lv_goto (tgt := 32) hx hb dX5_setRisk_122 (by decide) ?_
              have e3 : (m_srN S O x0 x1 (k + 1)) = ((m_srN S O x0 x1 k) + (bi (!decide (0 = 0)))) := by simp [m_srN, m_srO, m_srG, bi, c_9, xpi, c_18, c_48, c_59, c_105]
              have eO : (m_srO S O x0 x1 (k + 1)) = (va_up (m_srO S O x0 x1 k) k true) := by simp [m_srN, m_srO, m_srG, bi, c_9, xpi, c_18, c_48, c_59, c_105]
              exact ih_32 H locs ls (by show va_P D vwCl (mW cI cZ X S (m_srO S O x0 x1 (k + 1)) (va_up V 0 0)) H; rw [eO]; exact hP) (by show va_D A (mW cI cZ X S (m_srO S O x0 x1 (k + 1)) (va_up V 0 0)); rw [eO]; exact hD) hS (by show lv_has ls 6 [(4, .int (nI (k + 1))), (3, .int (m_srN S O x0 x1 (k + 1))), (0, .ref (X 0)), (1, .int x0), (2, .int x1)]; rw [e3]; exact lv_sub hl [0, 1, 3, 4, 5] rfl)
            · refine lv_iload hx hb dX5_setRisk_108 (lv_at hl 1 rfl) ?_
              refine z_sel_if_eq hx hb dX5_setRisk_110 dX5_setRisk_113 dX5_setRisk_114 dX5_setRisk_117 ?_
              refine z_zast (D := D) (j := k) (b := !decide (0 = 0)) (g := m_srO S O x0 x1 k) hx hb hK hP hD hS 10 1 rfl rfl (by omega) (by decide) dX5_setRisk_118 (fun H locs hP hD hS => ?_)
              have hP : va_P D vwCl (mW cI cZ X S (va_up (m_srO S O x0 x1 k) k (!decide (0 = 0))) (va_up V 0 0)) H := hP
              have hD : va_D A (mW cI cZ X S (va_up (m_srO S O x0 x1 k) k (!decide (0 = 0))) (va_up V 0 0)) := hD
              refine lv_iinc (v := nI (k + 1)) (lv' := [(4, .int (nI (k + 1))), (3, .int ((m_srN S O x0 x1 k) + (bi (!decide (0 = 0))))), (5, .int 0), (0, .ref (X 0)), (1, .int x0), (2, .int x1)]) hx hb dX5_setRisk_119 hl (k := 2) rfl (nI_1 _) (by decide) rfl (fun ls hl => ?_)
              refine lv_goto (tgt := 32) hx hb dX5_setRisk_122 (by decide) ?_
              have e3 : (m_srN S O x0 x1 (k + 1)) = ((m_srN S O x0 x1 k) + (bi (!decide (0 = 0)))) := by simp [m_srN, m_srO, m_srG, bi, c_9, xpi, c_18, c_48, c_59, c_105]
              have eO : (m_srO S O x0 x1 (k + 1)) = (va_up (m_srO S O x0 x1 k) k (!decide (0 = 0))) := by simp [m_srN, m_srO, m_srG, bi, c_9, xpi, c_18, c_48, c_59, c_105]
              exact ih_32 H locs ls (by show va_P D vwCl (mW cI cZ X S (m_srO S O x0 x1 (k + 1)) (va_up V 0 0)) H; rw [eO]; exact hP) (by show va_D A (mW cI cZ X S (m_srO S O x0 x1 (k + 1)) (va_up V 0 0)); rw [eO]; exact hD) hS (by show lv_has ls 6 [(4, .int (nI (k + 1))), (3, .int (m_srN S O x0 x1 (k + 1))), (0, .ref (X 0)), (1, .int x0), (2, .int x1)]; rw [e3]; exact lv_sub hl [0, 1, 3, 4, 5] rfl)
          · refine lv_aload_n hx hb dX5_setRisk_62 rfl (lv_at hl 2 rfl) ?_
            refine va_get (D := D) (ci := 5) (v := .ref (X 10)) (C := RX5) (T := TX5) (N := 17) hx hb hts i5 hown hK hP 0 rfl rfl 12 (by decide) fl_37 (fun _ h9 => h9) rfl dX5_setRisk_63 ?_
            refine lv_iload hx hb dX5_setRisk_66 (lv_at hl 0 rfl) ?_
            refine z_zald (D := D) (j := k) (g := m_srO S O x0 x1 k) hx hb hK hP 10 1 rfl rfl (by omega) (by decide) dX5_setRisk_68 ?_
            refine z_if_ne (tgt := 76) hx hb dX5_setRisk_69 (by decide) (fun c_69 => ?_) (fun c_69 => ?_)
            · refine lv_iconst (v := 0) hx hb dX5_setRisk_76 rfl ?_
              refine lv_istore (lv' := [(5, .int 0), (4, .int (nI k)), (3, .int (m_srN S O x0 x1 k)), (0, .ref (X 0)), (1, .int x0), (2, .int x1)]) hx hb dX5_setRisk_77 hl (by decide) rfl (fun ls hl => ?_)
              refine lv_iload_n hx hb dX5_setRisk_79 rfl (lv_at hl 2 rfl) ?_
              refine lv_iload hx hb dX5_setRisk_80 (lv_at hl 0 rfl) ?_
              refine z_sel_if_eq hx hb dX5_setRisk_82 dX5_setRisk_85 dX5_setRisk_86 dX5_setRisk_89 ?_
              refine lv_iadd hx hb dX5_setRisk_90 ?_
              refine lv_istore_n (lv' := [(3, .int ((m_srN S O x0 x1 k) + (bi (!decide (0 = 0))))), (5, .int 0), (4, .int (nI k)), (0, .ref (X 0)), (1, .int x0), (2, .int x1)]) hx hb dX5_setRisk_91 rfl hl (by decide) rfl (fun ls hl => ?_)
              refine lv_aload_n hx hb dX5_setRisk_92 rfl (lv_at hl 3 rfl) ?_
              refine va_get (D := D) (ci := 5) (v := .ref (X 10)) (C := RX5) (T := TX5) (N := 17) hx hb hts i5 hown hK hP 0 rfl rfl 12 (by decide) fl_37 (fun _ h9 => h9) rfl dX5_setRisk_93 ?_
              refine lv_iload hx hb dX5_setRisk_96 (lv_at hl 2 rfl) ?_
              refine lv_aload_n hx hb dX5_setRisk_98 rfl (lv_at hl 3 rfl) ?_
              refine va_get (D := D) (ci := 5) (v := .ref (X 10)) (C := RX5) (T := TX5) (N := 17) hx hb hts i5 hown hK hP 0 rfl rfl 12 (by decide) fl_37 (fun _ h9 => h9) rfl dX5_setRisk_99 ?_
              refine lv_iload hx hb dX5_setRisk_102 (lv_at hl 2 rfl) ?_
              refine z_zald (D := D) (j := k) (g := m_srO S O x0 x1 k) hx hb hK hP 10 1 rfl rfl (by omega) (by decide) dX5_setRisk_104 ?_
              refine z_if_ne (tgt := 113) hx hb dX5_setRisk_105 (by decide) (fun _ => ?_) (fun q => absurd (c_69.symm.trans q) (by decide))
              refine lv_iconst (v := 1) hx hb dX5_setRisk_113 rfl ?_
              refine lv_goto (tgt := 118) hx hb dX5_setRisk_114 (by decide) ?_
              refine z_zast (D := D) (j := k) (b := true) (g := m_srO S O x0 x1 k) hx hb hK hP hD hS 10 1 rfl rfl (by omega) (by decide) dX5_setRisk_118 (fun H locs hP hD hS => ?_)
              have hP : va_P D vwCl (mW cI cZ X S (va_up (m_srO S O x0 x1 k) k true) (va_up V 0 0)) H := hP
              have hD : va_D A (mW cI cZ X S (va_up (m_srO S O x0 x1 k) k true) (va_up V 0 0)) := hD
              refine lv_iinc (v := nI (k + 1)) (lv' := [(4, .int (nI (k + 1))), (3, .int ((m_srN S O x0 x1 k) + (bi (!decide (0 = 0))))), (5, .int 0), (0, .ref (X 0)), (1, .int x0), (2, .int x1)]) hx hb dX5_setRisk_119 hl (k := 2) rfl (nI_1 _) (by decide) rfl (fun ls hl => ?_)
              refine lv_goto (tgt := 32) hx hb dX5_setRisk_122 (by decide) ?_
              have e3 : (m_srN S O x0 x1 (k + 1)) = ((m_srN S O x0 x1 k) + (bi (!decide (0 = 0)))) := by simp [m_srN, m_srO, m_srG, bi, c_9, xpi, c_18, c_48, (eq_true c_59), c_69]
              have eO : (m_srO S O x0 x1 (k + 1)) = (va_up (m_srO S O x0 x1 k) k true) := by simp [m_srN, m_srO, m_srG, bi, c_9, xpi, c_18, c_48, (eq_true c_59), c_69]
              exact ih_32 H locs ls (by show va_P D vwCl (mW cI cZ X S (m_srO S O x0 x1 (k + 1)) (va_up V 0 0)) H; rw [eO]; exact hP) (by show va_D A (mW cI cZ X S (m_srO S O x0 x1 (k + 1)) (va_up V 0 0)); rw [eO]; exact hD) hS (by show lv_has ls 6 [(4, .int (nI (k + 1))), (3, .int (m_srN S O x0 x1 (k + 1))), (0, .ref (X 0)), (1, .int x0), (2, .int x1)]; rw [e3]; exact lv_sub hl [0, 1, 3, 4, 5] rfl)
            · refine lv_iconst (v := 1) hx hb dX5_setRisk_72 rfl ?_
              refine lv_goto (tgt := 77) hx hb dX5_setRisk_73 (by decide) ?_
              refine lv_istore (lv' := [(5, .int 1), (4, .int (nI k)), (3, .int (m_srN S O x0 x1 k)), (0, .ref (X 0)), (1, .int x0), (2, .int x1)]) hx hb dX5_setRisk_77 hl (by decide) rfl (fun ls hl => ?_)
              refine lv_iload_n hx hb dX5_setRisk_79 rfl (lv_at hl 2 rfl) ?_
              refine lv_iload hx hb dX5_setRisk_80 (lv_at hl 0 rfl) ?_
              refine z_sel_if_eq hx hb dX5_setRisk_82 dX5_setRisk_85 dX5_setRisk_86 dX5_setRisk_89 ?_
              refine lv_iadd hx hb dX5_setRisk_90 ?_
              refine lv_istore_n (lv' := [(3, .int ((m_srN S O x0 x1 k) + (bi (!decide (1 = 0))))), (5, .int 1), (4, .int (nI k)), (0, .ref (X 0)), (1, .int x0), (2, .int x1)]) hx hb dX5_setRisk_91 rfl hl (by decide) rfl (fun ls hl => ?_)
              refine lv_aload_n hx hb dX5_setRisk_92 rfl (lv_at hl 3 rfl) ?_
              refine va_get (D := D) (ci := 5) (v := .ref (X 10)) (C := RX5) (T := TX5) (N := 17) hx hb hts i5 hown hK hP 0 rfl rfl 12 (by decide) fl_37 (fun _ h9 => h9) rfl dX5_setRisk_93 ?_
              refine lv_iload hx hb dX5_setRisk_96 (lv_at hl 2 rfl) ?_
              refine lv_aload_n hx hb dX5_setRisk_98 rfl (lv_at hl 3 rfl) ?_
              refine va_get (D := D) (ci := 5) (v := .ref (X 10)) (C := RX5) (T := TX5) (N := 17) hx hb hts i5 hown hK hP 0 rfl rfl 12 (by decide) fl_37 (fun _ h9 => h9) rfl dX5_setRisk_99 ?_
              refine lv_iload hx hb dX5_setRisk_102 (lv_at hl 2 rfl) ?_
              refine z_zald (D := D) (j := k) (g := m_srO S O x0 x1 k) hx hb hK hP 10 1 rfl rfl (by omega) (by decide) dX5_setRisk_104 ?_
              refine z_if_ne (tgt := 113) hx hb dX5_setRisk_105 (by decide) (fun q => absurd (c_69.symm.trans q) (by decide)) (fun _ => ?_)
              refine lv_iload hx hb dX5_setRisk_108 (lv_at hl 1 rfl) ?_
              refine z_sel_if_eq hx hb dX5_setRisk_110 dX5_setRisk_113 dX5_setRisk_114 dX5_setRisk_117 ?_
              refine z_zast (D := D) (j := k) (b := !decide (1 = 0)) (g := m_srO S O x0 x1 k) hx hb hK hP hD hS 10 1 rfl rfl (by omega) (by decide) dX5_setRisk_118 (fun H locs hP hD hS => ?_)
              have hP : va_P D vwCl (mW cI cZ X S (va_up (m_srO S O x0 x1 k) k (!decide (1 = 0))) (va_up V 0 0)) H := hP
              have hD : va_D A (mW cI cZ X S (va_up (m_srO S O x0 x1 k) k (!decide (1 = 0))) (va_up V 0 0)) := hD
              refine lv_iinc (v := nI (k + 1)) (lv' := [(4, .int (nI (k + 1))), (3, .int ((m_srN S O x0 x1 k) + (bi (!decide (1 = 0))))), (5, .int 1), (0, .ref (X 0)), (1, .int x0), (2, .int x1)]) hx hb dX5_setRisk_119 hl (k := 2) rfl (nI_1 _) (by decide) rfl (fun ls hl => ?_)
              refine lv_goto (tgt := 32) hx hb dX5_setRisk_122 (by decide) ?_
              have e3 : (m_srN S O x0 x1 (k + 1)) = ((m_srN S O x0 x1 k) + (bi (!decide (1 = 0)))) := by simp [m_srN, m_srO, m_srG, bi, c_9, xpi, c_18, c_48, (eq_true c_59), c_69]
              have eO : (m_srO S O x0 x1 (k + 1)) = (va_up (m_srO S O x0 x1 k) k (!decide (1 = 0))) := by simp [m_srN, m_srO, m_srG, bi, c_9, xpi, c_18, c_48, (eq_true c_59), c_69]
              exact ih_32 H locs ls (by show va_P D vwCl (mW cI cZ X S (m_srO S O x0 x1 (k + 1)) (va_up V 0 0)) H; rw [eO]; exact hP) (by show va_D A (mW cI cZ X S (m_srO S O x0 x1 (k + 1)) (va_up V 0 0)); rw [eO]; exact hD) hS (by show lv_has ls 6 [(4, .int (nI (k + 1))), (3, .int (m_srN S O x0 x1 (k + 1))), (0, .ref (X 0)), (1, .int x0), (2, .int x1)]; rw [e3]; exact lv_sub hl [0, 1, 3, 4, 5] rfl)
    · refine lv_aload_n hx hb dX5_setRisk_21 rfl (lv_at hl 0 rfl) ?_
      refine lv_iconst (v := 1) hx hb dX5_setRisk_22 rfl ?_
      have hF := z_free hD hS hA
      refine z_callWi (va_runV (As := [.int 1]) (rest := []) ⟨hx, hb, hml, hown, hts⟩ (kX5_fails l D cI cZ X S O (va_up V 0 0) _ 1) (cwV 1 hts gX5_setRisk_X5_fails rfl rfl rfl (by decide +kernel) ⟨Nat.le_of_ble_eq_true rfl, Nat.le_of_ble_eq_true rfl⟩) (zW_preV 0 5 hK hP hD rfl rfl) rfl rfl hl.1 rfl (lv_room (Nat.le_of_ble_eq_true rfl)) dX5_setRisk_23 ⟨Nat.zero_le _, Nat.zero_le _⟩) hS hF (fun H locs hP hD hS => ?_)
      have eS : (if m_riOk x0 x1 = true then va_up S 4 (upd (S 4) (ix x0) x1) else S) = S := by simp [m_riOk, bx_uu, bi, c_9, xpi, c_18]
      have eO : (if m_riOk x0 x1 = true then m_srO S O x0 x1 n0 else O) = O := by simp [m_riOk, bx_uu, bi, c_9, xpi, c_18]
      have eV : (va_up V 0 (if m_riOk x0 x1 = true then 0 else 1)) = (va_up (va_up V 0 0) 0 1) := by simp [m_riOk, bx_uu, bi, c_9, xpi, c_18]
      exact z_wret hx hb hr hlocks (by rw [eS, eO, eV]; exact hP) hK (by rw [eS, eO, eV]; exact hD) hS (by simp [m_riOk, bx_uu, bi, c_9, xpi, c_18]) dX5_setRisk_26

set_option maxHeartbeats 4000000 in
set_option maxRecDepth 100000 in
theorem kX5_isIn (l : Launch) (D : va_G) (cI cZ : ClassId) (X : Nat → Nat) (S : Nat → Nat → Int32) (O : Nat → Bool) (V : Nat → Int32) (sz : Nat) (x0 : Int32) (x1 : Int32) : Met l yX5_isIn wsX5_isIn ({ frames := 3, cells := 0, slots := 0, locals := 70 } : Room) (zW D (tyl cI cZ) (mW cI cZ X S O V) sz [.ref (X 0), .int x0, .int x1]) (zQi D (tyl cI cZ) (mW cI cZ X S O (va_up V 0 (if m_spOk x0 x1 = true then 0 else 1))) (bi (m_spOk x0 x1 && m_be S x0 x1 8)) (va_A (mW cI cZ X S O V) sz)) 0 0 (va_A (mW cI cZ X S O V) sz) := by
  refine Met.ofW (cc := cX5_isIn) (maxL := 3) (ret := (some .boolean)) (by decide) rfl ?_
  intro p e s m args below meth c s₁ B hml hv
  obtain ⟨rfl, hsz, hP, hK, hD0⟩ := hv
  have hx := B.exec
  have hb := B.bytes
  have hr := B.returns
  have hts := atoms_spec (ws := wsX5_isIn) B.pre
  have hown : s.vm.findClass RX5 = some m.cls := findClass_of_methodNamed B.named
  have hlocks := B.notSynchronized
  subst hsz
  have hD := hD0.self (sz := s.heap.size)
  generalize hAe : va_A (mW cI cZ X S O V) s.heap.size = A at hD ⊢
  have hA : ∀ q : Nat, s.heap.size ≤ q → A q := fun q h => by rw [← hAe]; exact Or.inr h
  have hS : va_S A s.heap s.heap [] := va_S.rf
  have i5 : ∀ w ∈ u_ws RX5 TX5 17, w ∈ wsX5_isIn := by decide +kernel
  have fl_47 := hts (.fieldLink RX5 47 "SignOnHouseModel" "thrown" "I") (by decide +kernel)
  have hl := lv_entry ([.ref (X 0), .int x0, .int x1]) (n := 3) (Nat.le_of_ble_eq_true rfl)
  rw [lg_entry_eq]
  generalize (lg_sl ([.ref (X 0), .int x0, .int x1]) ++ List.replicate (3 - (lg_sl ([.ref (X 0), .int x0, .int x1])).length) Slot.unset).toArray = ls at hl ⊢
  have hl : lv_has ls 3 [(0, .ref (X 0)), (1, .int x0), (2, .int x1)] := hl
  refine lv_aload_n hx hb dX5_isIn_0 rfl (lv_at hl 0 rfl) ?_
  refine lv_iload_n hx hb dX5_isIn_1 rfl (lv_at hl 1 rfl) ?_
  refine z_callR (W.runS (As := [.int x0]) (rest := [.ref (X 0)]) ⟨hx, hb, hml, hown, hts⟩ (kX5_isGroup l x0) (va_cwS 1 hts gX5_isIn_X5_isGroup rfl rfl rfl (by decide +kernel) ⟨Nat.le_of_ble_eq_true rfl, Nat.le_of_ble_eq_true rfl⟩) zP_pre rfl rfl hl.1 rfl (lv_room (Nat.le_of_ble_eq_true rfl)) dX5_isIn_2 ⟨Nat.zero_le _, Nat.zero_le _⟩) ?_
  refine z_if_eq (tgt := 19) hx hb dX5_isIn_5 (by decide) (fun c_5 => ?_) (fun c_5 => ?_)
  · refine lv_iconst (v := 1) hx hb dX5_isIn_19 rfl ?_
    refine va_put (D := D) (ci := 5) (v := .int 1) (ty := .int) (C := RX5) (T := TX5) (N := 17) hx hb hts i5 tyX5 tyX5_ok nmX5 hown hK hP hD hS 0 rfl rfl 0 (by decide) fl_47 (fun _ h9 => h9) rfl (by decide +kernel) rfl rfl (Nat.le_of_ble_eq_true rfl) dX5_isIn_20 (fun H locs hP hD hS => ?_)
    have hP : va_P D vwCl (mW cI cZ X S O (va_up V 0 1)) H := hP
    have hD : va_D A (mW cI cZ X S O (va_up V 0 1)) := hD
    refine lv_aload_n hx hb dX5_isIn_23 rfl (lv_at hl 0 rfl) ?_
    refine va_get (D := D) (ci := 5) (v := .int 1) (C := RX5) (T := TX5) (N := 17) hx hb hts i5 hown hK hP 0 rfl rfl 0 (by decide) fl_47 (fun _ h9 => h9) rfl dX5_isIn_24 ?_
    refine lv_if_ne (tgt := 43) hx hb dX5_isIn_27 (by decide) (fun _ => ?_) (fun q => absurd q (by decide))
    refine lv_iconst (v := 0) hx hb dX5_isIn_43 rfl ?_
    have eV : (va_up V 0 (if m_spOk x0 x1 = true then 0 else 1)) = (va_up V 0 1) := by simp [m_spOk, bi, c_5]
    exact z_wzret hx hb hr hlocks (by rw [eV]; exact hP) hK (by rw [eV]; exact hD) hS (by simp [m_spOk, bi, c_5]) dX5_isIn_44
  · refine lv_iload_n hx hb dX5_isIn_8 rfl (lv_at hl 2 rfl) ?_
    refine z_callR (W.runS (As := [.int x1]) (rest := [.ref (X 0)]) ⟨hx, hb, hml, hown, hts⟩ (kX5_isPerson l x1) (va_cwS 1 hts gX5_isIn_X5_isPerson rfl rfl rfl (by decide +kernel) ⟨Nat.le_of_ble_eq_true rfl, Nat.le_of_ble_eq_true rfl⟩) zP_pre rfl rfl hl.1 rfl (lv_room (Nat.le_of_ble_eq_true rfl)) dX5_isIn_9 ⟨Nat.zero_le _, Nat.zero_le _⟩) ?_
    refine z_if_eq (tgt := 19) hx hb dX5_isIn_12 (by decide) (fun c_12 => ?_) (fun c_12 => ?_)
    · refine lv_iconst (v := 1) hx hb dX5_isIn_19 rfl ?_
      refine va_put (D := D) (ci := 5) (v := .int 1) (ty := .int) (C := RX5) (T := TX5) (N := 17) hx hb hts i5 tyX5 tyX5_ok nmX5 hown hK hP hD hS 0 rfl rfl 0 (by decide) fl_47 (fun _ h9 => h9) rfl (by decide +kernel) rfl rfl (Nat.le_of_ble_eq_true rfl) dX5_isIn_20 (fun H locs hP hD hS => ?_)
      have hP : va_P D vwCl (mW cI cZ X S O (va_up V 0 1)) H := hP
      have hD : va_D A (mW cI cZ X S O (va_up V 0 1)) := hD
      refine lv_aload_n hx hb dX5_isIn_23 rfl (lv_at hl 0 rfl) ?_
      refine va_get (D := D) (ci := 5) (v := .int 1) (C := RX5) (T := TX5) (N := 17) hx hb hts i5 hown hK hP 0 rfl rfl 0 (by decide) fl_47 (fun _ h9 => h9) rfl dX5_isIn_24 ?_
      refine lv_if_ne (tgt := 43) hx hb dX5_isIn_27 (by decide) (fun _ => ?_) (fun q => absurd q (by decide))
      refine lv_iconst (v := 0) hx hb dX5_isIn_43 rfl ?_
      have eV : (va_up V 0 (if m_spOk x0 x1 = true then 0 else 1)) = (va_up V 0 1) := by simp [m_spOk, bi, c_5, c_12]
      exact z_wzret hx hb hr hlocks (by rw [eV]; exact hP) hK (by rw [eV]; exact hD) hS (by simp [m_spOk, bi, c_5, c_12]) dX5_isIn_44
    · refine lv_iconst (v := 0) hx hb dX5_isIn_15 rfl ?_
      refine lv_goto (tgt := 20) hx hb dX5_isIn_16 (by decide) ?_
      refine va_put (D := D) (ci := 5) (v := .int 0) (ty := .int) (C := RX5) (T := TX5) (N := 17) hx hb hts i5 tyX5 tyX5_ok nmX5 hown hK hP hD hS 0 rfl rfl 0 (by decide) fl_47 (fun _ h9 => h9) rfl (by decide +kernel) rfl rfl (Nat.le_of_ble_eq_true rfl) dX5_isIn_20 (fun H locs hP hD hS => ?_)
      have hP : va_P D vwCl (mW cI cZ X S O (va_up V 0 0)) H := hP
      have hD : va_D A (mW cI cZ X S O (va_up V 0 0)) := hD
      refine lv_aload_n hx hb dX5_isIn_23 rfl (lv_at hl 0 rfl) ?_
      refine va_get (D := D) (ci := 5) (v := .int 0) (C := RX5) (T := TX5) (N := 17) hx hb hts i5 hown hK hP 0 rfl rfl 0 (by decide) fl_47 (fun _ h9 => h9) rfl dX5_isIn_24 ?_
      refine lv_if_ne (tgt := 43) hx hb dX5_isIn_27 (by decide) (fun q => absurd rfl q) (fun _ => ?_)
      refine lv_aload_n hx hb dX5_isIn_30 rfl (lv_at hl 0 rfl) ?_
      refine lv_iload_n hx hb dX5_isIn_31 rfl (lv_at hl 1 rfl) ?_
      refine lv_iload_n hx hb dX5_isIn_32 rfl (lv_at hl 2 rfl) ?_
      refine z_callR (W.runV (As := [.int x0, .int x1]) (rest := []) ⟨hx, hb, hml, hown, hts⟩ (kX5_belongs l D cI cZ X S O (va_up V 0 0) x0 x1) (cwV 2 hts gX5_isIn_X5_belongs rfl rfl rfl (by decide +kernel) ⟨Nat.le_of_ble_eq_true rfl, Nat.le_of_ble_eq_true rfl⟩) (zR_preV 0 5 hK hP rfl rfl) rfl rfl hl.1 rfl (lv_room (Nat.le_of_ble_eq_true rfl)) dX5_isIn_33 ⟨Nat.zero_le _, Nat.zero_le _⟩) ?_
      refine z_if_eq (tgt := 43) hx hb dX5_isIn_36 (by decide) (fun c_36 => ?_) (fun c_36 => ?_)
      · refine lv_iconst (v := 0) hx hb dX5_isIn_43 rfl ?_
        have eV : (va_up V 0 (if m_spOk x0 x1 = true then 0 else 1)) = (va_up V 0 0) := by simp [m_spOk, bi, c_5, c_12, c_36]
        exact z_wzret hx hb hr hlocks (by rw [eV]; exact hP) hK (by rw [eV]; exact hD) hS (by simp [m_spOk, bi, c_5, c_12, c_36]) dX5_isIn_44
      · refine lv_iconst (v := 1) hx hb dX5_isIn_39 rfl ?_
        refine lv_goto (tgt := 44) hx hb dX5_isIn_40 (by decide) ?_
        have eV : (va_up V 0 (if m_spOk x0 x1 = true then 0 else 1)) = (va_up V 0 0) := by simp [m_spOk, bi, c_5, c_12, c_36]
        exact z_wzret hx hb hr hlocks (by rw [eV]; exact hP) hK (by rw [eV]; exact hD) hS (by simp [m_spOk, bi, c_5, c_12, c_36]) dX5_isIn_44

set_option maxHeartbeats 4000000 in
set_option maxRecDepth 100000 in
theorem kX5_allows (l : Launch) (D : va_G) (cI cZ : ClassId) (X : Nat → Nat) (S : Nat → Nat → Int32) (O : Nat → Bool) (V : Nat → Int32) (sz : Nat) (x0 : Int32) (x1 : Int32) : Met l yX5_allows wsX5_allows ({ frames := 5, cells := 0, slots := 0, locals := 117 } : Room) (zW D (tyl cI cZ) (mW cI cZ X S O V) sz [.ref (X 0), .int x0, .int x1]) (zQi D (tyl cI cZ) (mW cI cZ X S O (va_up V 0 (if (m_in x0 0 9 && m_in x1 0 5) = true then 0 else 1))) (bi (m_in x0 0 9 && (m_in x1 0 5 && m_lets S V (ix x0) (ix x1)))) (va_A (mW cI cZ X S O V) sz)) 0 0 (va_A (mW cI cZ X S O V) sz) := by
  refine Met.ofW (cc := cX5_allows) (maxL := 3) (ret := (some .boolean)) (by decide) rfl ?_
  intro p e s m args below meth c s₁ B hml hv
  obtain ⟨rfl, hsz, hP, hK, hD0⟩ := hv
  have hx := B.exec
  have hb := B.bytes
  have hr := B.returns
  have hts := atoms_spec (ws := wsX5_allows) B.pre
  have hown : s.vm.findClass RX5 = some m.cls := findClass_of_methodNamed B.named
  have hlocks := B.notSynchronized
  subst hsz
  have hD := hD0.self (sz := s.heap.size)
  generalize hAe : va_A (mW cI cZ X S O V) s.heap.size = A at hD ⊢
  have hA : ∀ q : Nat, s.heap.size ≤ q → A q := fun q h => by rw [← hAe]; exact Or.inr h
  have hS : va_S A s.heap s.heap [] := va_S.rf
  have i5 : ∀ w ∈ u_ws RX5 TX5 17, w ∈ wsX5_allows := by decide +kernel
  have fl_47 := hts (.fieldLink RX5 47 "SignOnHouseModel" "thrown" "I") (by decide +kernel)
  have hl := lv_entry ([.ref (X 0), .int x0, .int x1]) (n := 3) (Nat.le_of_ble_eq_true rfl)
  rw [lg_entry_eq]
  generalize (lg_sl ([.ref (X 0), .int x0, .int x1]) ++ List.replicate (3 - (lg_sl ([.ref (X 0), .int x0, .int x1])).length) Slot.unset).toArray = ls at hl ⊢
  have hl : lv_has ls 3 [(0, .ref (X 0)), (1, .int x0), (2, .int x1)] := hl
  refine lv_aload_n hx hb dX5_allows_0 rfl (lv_at hl 0 rfl) ?_
  refine lv_iload_n hx hb dX5_allows_1 rfl (lv_at hl 1 rfl) ?_
  refine z_callR (W.runS (As := [.int x0]) (rest := [.ref (X 0)]) ⟨hx, hb, hml, hown, hts⟩ (kX5_isPerson l x0) (va_cwS 1 hts gX5_allows_X5_isPerson rfl rfl rfl (by decide +kernel) ⟨Nat.le_of_ble_eq_true rfl, Nat.le_of_ble_eq_true rfl⟩) zP_pre rfl rfl hl.1 rfl (lv_room (Nat.le_of_ble_eq_true rfl)) dX5_allows_2 ⟨Nat.zero_le _, Nat.zero_le _⟩) ?_
  refine z_if_eq (tgt := 19) hx hb dX5_allows_5 (by decide) (fun c_5 => ?_) (fun c_5 => ?_)
  · refine lv_iconst (v := 1) hx hb dX5_allows_19 rfl ?_
    refine va_put (D := D) (ci := 5) (v := .int 1) (ty := .int) (C := RX5) (T := TX5) (N := 17) hx hb hts i5 tyX5 tyX5_ok nmX5 hown hK hP hD hS 0 rfl rfl 0 (by decide) fl_47 (fun _ h9 => h9) rfl (by decide +kernel) rfl rfl (Nat.le_of_ble_eq_true rfl) dX5_allows_20 (fun H locs hP hD hS => ?_)
    have hP : va_P D vwCl (mW cI cZ X S O (va_up V 0 1)) H := hP
    have hD : va_D A (mW cI cZ X S O (va_up V 0 1)) := hD
    refine lv_aload_n hx hb dX5_allows_23 rfl (lv_at hl 0 rfl) ?_
    refine va_get (D := D) (ci := 5) (v := .int 1) (C := RX5) (T := TX5) (N := 17) hx hb hts i5 hown hK hP 0 rfl rfl 0 (by decide) fl_47 (fun _ h9 => h9) rfl dX5_allows_24 ?_
    refine lv_if_ne (tgt := 43) hx hb dX5_allows_27 (by decide) (fun _ => ?_) (fun q => absurd q (by decide))
    refine lv_iconst (v := 0) hx hb dX5_allows_43 rfl ?_
    have eV : (va_up V 0 (if (m_in x0 0 9 && m_in x1 0 5) = true then 0 else 1)) = (va_up V 0 1) := by simp [bi, c_5]
    exact z_wzret hx hb hr hlocks (by rw [eV]; exact hP) hK (by rw [eV]; exact hD) hS (by simp [bi, c_5]) dX5_allows_44
  · obtain ⟨pi, hpi, epi⟩ := m_in9 c_5
    have xpi : ix x0 = pi := ix_of epi (by omega)
    refine lv_iload_n hx hb dX5_allows_8 rfl (lv_at hl 2 rfl) ?_
    refine z_callR (W.runS (As := [.int x1]) (rest := [.ref (X 0)]) ⟨hx, hb, hml, hown, hts⟩ (kX5_isRole l x1) (va_cwS 1 hts gX5_allows_X5_isRole rfl rfl rfl (by decide +kernel) ⟨Nat.le_of_ble_eq_true rfl, Nat.le_of_ble_eq_true rfl⟩) zP_pre rfl rfl hl.1 rfl (lv_room (Nat.le_of_ble_eq_true rfl)) dX5_allows_9 ⟨Nat.zero_le _, Nat.zero_le _⟩) ?_
    refine z_if_eq (tgt := 19) hx hb dX5_allows_12 (by decide) (fun c_12 => ?_) (fun c_12 => ?_)
    · refine lv_iconst (v := 1) hx hb dX5_allows_19 rfl ?_
      refine va_put (D := D) (ci := 5) (v := .int 1) (ty := .int) (C := RX5) (T := TX5) (N := 17) hx hb hts i5 tyX5 tyX5_ok nmX5 hown hK hP hD hS 0 rfl rfl 0 (by decide) fl_47 (fun _ h9 => h9) rfl (by decide +kernel) rfl rfl (Nat.le_of_ble_eq_true rfl) dX5_allows_20 (fun H locs hP hD hS => ?_)
      have hP : va_P D vwCl (mW cI cZ X S O (va_up V 0 1)) H := hP
      have hD : va_D A (mW cI cZ X S O (va_up V 0 1)) := hD
      refine lv_aload_n hx hb dX5_allows_23 rfl (lv_at hl 0 rfl) ?_
      refine va_get (D := D) (ci := 5) (v := .int 1) (C := RX5) (T := TX5) (N := 17) hx hb hts i5 hown hK hP 0 rfl rfl 0 (by decide) fl_47 (fun _ h9 => h9) rfl dX5_allows_24 ?_
      refine lv_if_ne (tgt := 43) hx hb dX5_allows_27 (by decide) (fun _ => ?_) (fun q => absurd q (by decide))
      refine lv_iconst (v := 0) hx hb dX5_allows_43 rfl ?_
      have eV : (va_up V 0 (if (m_in x0 0 9 && m_in x1 0 5) = true then 0 else 1)) = (va_up V 0 1) := by simp [bi, c_5, xpi, c_12]
      exact z_wzret hx hb hr hlocks (by rw [eV]; exact hP) hK (by rw [eV]; exact hD) hS (by simp [bi, c_5, xpi, c_12]) dX5_allows_44
    · obtain ⟨ri, hri, eri⟩ := m_in5 c_12
      have xri : ix x1 = ri := ix_of eri (by omega)
      refine lv_iconst (v := 0) hx hb dX5_allows_15 rfl ?_
      refine lv_goto (tgt := 20) hx hb dX5_allows_16 (by decide) ?_
      refine va_put (D := D) (ci := 5) (v := .int 0) (ty := .int) (C := RX5) (T := TX5) (N := 17) hx hb hts i5 tyX5 tyX5_ok nmX5 hown hK hP hD hS 0 rfl rfl 0 (by decide) fl_47 (fun _ h9 => h9) rfl (by decide +kernel) rfl rfl (Nat.le_of_ble_eq_true rfl) dX5_allows_20 (fun H locs hP hD hS => ?_)
      have hP : va_P D vwCl (mW cI cZ X S O (va_up V 0 0)) H := hP
      have hD : va_D A (mW cI cZ X S O (va_up V 0 0)) := hD
      refine lv_aload_n hx hb dX5_allows_23 rfl (lv_at hl 0 rfl) ?_
      refine va_get (D := D) (ci := 5) (v := .int 0) (C := RX5) (T := TX5) (N := 17) hx hb hts i5 hown hK hP 0 rfl rfl 0 (by decide) fl_47 (fun _ h9 => h9) rfl dX5_allows_24 ?_
      refine lv_if_ne (tgt := 43) hx hb dX5_allows_27 (by decide) (fun q => absurd rfl q) (fun _ => ?_)
      refine lv_aload_n hx hb dX5_allows_30 rfl (lv_at hl 0 rfl) ?_
      refine lv_iload_n hx hb dX5_allows_31 rfl (lv_at hl 1 rfl) ?_
      refine z_top (nI pi) epi ?_
      refine lv_iload_n hx hb dX5_allows_32 rfl (lv_at hl 2 rfl) ?_
      refine z_top (nI ri) eri ?_
      refine z_callR (W.runV (As := [.int (nI pi), .int (nI ri)]) (rest := []) ⟨hx, hb, hml, hown, hts⟩ (kX5_lets l D cI cZ X S O (va_up V 0 0) pi ri (by omega) (by omega)) (cwV 2 hts gX5_allows_X5_lets rfl rfl rfl (by decide +kernel) ⟨Nat.le_of_ble_eq_true rfl, Nat.le_of_ble_eq_true rfl⟩) (zR_preV 0 5 hK hP rfl rfl) rfl rfl hl.1 rfl (lv_room (Nat.le_of_ble_eq_true rfl)) dX5_allows_33 ⟨Nat.zero_le _, Nat.zero_le _⟩) ?_
      refine z_top (bi (m_lets S V pi ri)) rfl ?_
      refine z_if_eq (tgt := 43) hx hb dX5_allows_36 (by decide) (fun c_36 => ?_) (fun c_36 => ?_)
      · refine lv_iconst (v := 0) hx hb dX5_allows_43 rfl ?_
        have eV : (va_up V 0 (if (m_in x0 0 9 && m_in x1 0 5) = true then 0 else 1)) = (va_up V 0 0) := by simp [bi, c_5, xpi, c_12, xri, c_36]
        exact z_wzret hx hb hr hlocks (by rw [eV]; exact hP) hK (by rw [eV]; exact hD) hS (by simp [bi, c_5, xpi, c_12, xri, c_36]) dX5_allows_44
      · refine lv_iconst (v := 1) hx hb dX5_allows_39 rfl ?_
        refine lv_goto (tgt := 44) hx hb dX5_allows_40 (by decide) ?_
        have eV : (va_up V 0 (if (m_in x0 0 9 && m_in x1 0 5) = true then 0 else 1)) = (va_up V 0 0) := by simp [bi, c_5, xpi, c_12, xri, c_36]
        exact z_wzret hx hb hr hlocks (by rw [eV]; exact hP) hK (by rw [eV]; exact hD) hS (by simp [bi, c_5, xpi, c_12, xri, c_36]) dX5_allows_44

set_option maxHeartbeats 4000000 in
set_option maxRecDepth 100000 in
theorem kX5_open (l : Launch) (D : va_G) (cI cZ : ClassId) (X : Nat → Nat) (S : Nat → Nat → Int32) (O : Nat → Bool) (V : Nat → Int32) (sz : Nat) (x0 : Int32) (n0 : Nat) (hn0 : n0 ≤ 30) (hct : V 2 = nI n0) : Met l yX5_open wsX5_open ({ frames := 2, cells := 0, slots := 0, locals := 42 } : Room) (zW D (tyl cI cZ) (mW cI cZ X S O V) sz [.ref (X 0), .int x0]) (zQi D (tyl cI cZ) (mW cI cZ X (if m_opK S V x0 = 0 then va_up (va_up (va_up (va_up S 6 (upd (S 6) n0 x0)) 7 (upd (S 7) n0 (V 3))) 8 (upd (S 8) n0 (V 1))) 9 (upd (S 9) n0 (V 1)) else S) O (if m_opK S V x0 = 0 then va_up (va_up V 0 0) 2 (V 2 + 1) else va_up V 0 (m_opK S V x0))) (if m_opK S V x0 = 0 then V 2 + 1 - 1 else 0) (va_A (mW cI cZ X S O V) sz)) 0 0 (va_A (mW cI cZ X S O V) sz) := by
  refine Met.ofW (cc := cX5_open) (maxL := 2) (ret := (some .int)) (by decide) rfl ?_
  intro p e s m args below meth c s₁ B hml hv
  obtain ⟨rfl, hsz, hP, hK, hD0⟩ := hv
  have hx := B.exec
  have hb := B.bytes
  have hr := B.returns
  have hts := atoms_spec (ws := wsX5_open) B.pre
  have hown : s.vm.findClass RX5 = some m.cls := findClass_of_methodNamed B.named
  have hlocks := B.notSynchronized
  subst hsz
  have hD := hD0.self (sz := s.heap.size)
  generalize hAe : va_A (mW cI cZ X S O V) s.heap.size = A at hD ⊢
  have hA : ∀ q : Nat, s.heap.size ≤ q → A q := fun q h => by rw [← hAe]; exact Or.inr h
  have hS : va_S A s.heap s.heap [] := va_S.rf
  have i5 : ∀ w ∈ u_ws RX5 TX5 17, w ∈ wsX5_open := by decide +kernel
  have fl_19 := hts (.fieldLink RX5 19 "SignOnHouseModel" "risk" "[I") (by decide +kernel)
  have fl_25 := hts (.fieldLink RX5 25 "SignOnHouseModel" "who" "[I") (by decide +kernel)
  have fl_28 := hts (.fieldLink RX5 28 "SignOnHouseModel" "signed" "[I") (by decide +kernel)
  have fl_31 := hts (.fieldLink RX5 31 "SignOnHouseModel" "since" "[I") (by decide +kernel)
  have fl_34 := hts (.fieldLink RX5 34 "SignOnHouseModel" "used" "[I") (by decide +kernel)
  have fl_47 := hts (.fieldLink RX5 47 "SignOnHouseModel" "thrown" "I") (by decide +kernel)
  have fl_82 := hts (.fieldLink RX5 82 "SignOnHouseModel" "now" "I") (by decide +kernel)
  have fl_85 := hts (.fieldLink RX5 85 "SignOnHouseModel" "key" "I") (by decide +kernel)
  have fl_94 := hts (.fieldLink RX5 94 "SignOnHouseModel" "sessions" "I") (by decide +kernel)
  have hl := lv_entry ([.ref (X 0), .int x0]) (n := 2) (Nat.le_of_ble_eq_true rfl)
  rw [lg_entry_eq]
  generalize (lg_sl ([.ref (X 0), .int x0]) ++ List.replicate (2 - (lg_sl ([.ref (X 0), .int x0])).length) Slot.unset).toArray = ls at hl ⊢
  have hl : lv_has ls 2 [(0, .ref (X 0)), (1, .int x0)] := hl
  refine lv_aload_n hx hb dX5_open_0 rfl (lv_at hl 0 rfl) ?_
  refine lv_iconst (v := 0) hx hb dX5_open_1 rfl ?_
  refine va_put (D := D) (ci := 5) (v := .int 0) (ty := .int) (C := RX5) (T := TX5) (N := 17) hx hb hts i5 tyX5 tyX5_ok nmX5 hown hK hP hD hS 0 rfl rfl 0 (by decide) fl_47 (fun _ h9 => h9) rfl (by decide +kernel) rfl rfl (Nat.le_of_ble_eq_true rfl) dX5_open_2 (fun H locs hP hD hS => ?_)
  have hP : va_P D vwCl (mW cI cZ X S O (va_up V 0 0)) H := hP
  have hD : va_D A (mW cI cZ X S O (va_up V 0 0)) := hD
  refine lv_iload_n hx hb dX5_open_5 rfl (lv_at hl 1 rfl) ?_
  refine z_callR (W.runS (As := [.int x0]) (rest := []) ⟨hx, hb, hml, hown, hts⟩ (kX5_isPerson l x0) (va_cwS 1 hts gX5_open_X5_isPerson rfl rfl rfl (by decide +kernel) ⟨Nat.le_of_ble_eq_true rfl, Nat.le_of_ble_eq_true rfl⟩) zP_pre rfl rfl hl.1 rfl (lv_room (Nat.le_of_ble_eq_true rfl)) dX5_open_6 ⟨Nat.zero_le _, Nat.zero_le _⟩) ?_
  refine z_if_ne (tgt := 18) hx hb dX5_open_9 (by decide) (fun c_9 => ?_) (fun c_9 => ?_)
  · obtain ⟨pi, hpi, epi⟩ := m_in9 c_9
    have xpi : ix x0 = pi := ix_of epi (by omega)
    refine lv_aload_n hx hb dX5_open_18 rfl (lv_at hl 0 rfl) ?_
    refine va_get (D := D) (ci := 5) (v := .ref (X 4)) (C := RX5) (T := TX5) (N := 17) hx hb hts i5 hown hK hP 0 rfl rfl 5 (by decide) fl_19 (fun _ h9 => h9) rfl dX5_open_19 ?_
    refine lv_iload_n hx hb dX5_open_22 rfl (lv_at hl 1 rfl) ?_
    refine z_top (nI pi) epi ?_
    refine z_iald (D := D) (j := pi) (f := S 4) hx hb hK hP 4 0 rfl rfl (by omega) (by decide) dX5_open_23 ?_
    refine lv_iconst (v := 3) hx hb dX5_open_24 rfl ?_
    refine lv_icmp_eq (tgt := 37) hx hb dX5_open_25 (by decide) (fun c_25 => ?_) (fun c_25 => ?_)
    · refine lv_aload_n hx hb dX5_open_37 rfl (lv_at hl 0 rfl) ?_
      refine lv_iconst (v := 2) hx hb dX5_open_38 rfl ?_
      have hF := z_free hD hS hA
      refine z_callWi (va_runV (As := [.int 2]) (rest := []) ⟨hx, hb, hml, hown, hts⟩ (kX5_fails l D cI cZ X S O (va_up V 0 0) _ 2) (cwV 1 hts gX5_open_X5_fails rfl rfl rfl (by decide +kernel) ⟨Nat.le_of_ble_eq_true rfl, Nat.le_of_ble_eq_true rfl⟩) (zW_preV 0 5 hK hP hD rfl rfl) rfl rfl hl.1 rfl (lv_room (Nat.le_of_ble_eq_true rfl)) dX5_open_39 ⟨Nat.zero_le _, Nat.zero_le _⟩) hS hF (fun H locs hP hD hS => ?_)
      have eS : (if m_opK S V x0 = 0 then va_up (va_up (va_up (va_up S 6 (upd (S 6) n0 x0)) 7 (upd (S 7) n0 (V 3))) 8 (upd (S 8) n0 (V 1))) 9 (upd (S 9) n0 (V 1)) else S) = S := by simp [m_opK, bx_uu, bi, c_9, xpi, (eq_true c_25)]
      have eV : (if m_opK S V x0 = 0 then va_up (va_up V 0 0) 2 (V 2 + 1) else va_up V 0 (m_opK S V x0)) = (va_up (va_up V 0 0) 0 2) := by simp [m_opK, bx_uu, bi, c_9, xpi, (eq_true c_25)]
      exact z_wret hx hb hr hlocks (by rw [eS, eV]; exact hP) hK (by rw [eS, eV]; exact hD) hS (by simp [m_opK, bx_uu, bi, c_9, xpi, (eq_true c_25)]) dX5_open_42
    · refine lv_aload_n hx hb dX5_open_28 rfl (lv_at hl 0 rfl) ?_
      refine va_get (D := D) (ci := 5) (v := .int (V 2)) (C := RX5) (T := TX5) (N := 17) hx hb hts i5 hown hK hP 0 rfl rfl 7 (by decide) fl_94 (fun _ h9 => h9) rfl dX5_open_29 ?_
      refine lv_bipush (v := 30) hx hb dX5_open_32 (by decide) ?_
      refine lv_icmp_ne (tgt := 43) hx hb dX5_open_34 (by decide) (fun c_34 => ?_) (fun c_34 => ?_)
      · have hn : n0 < 30 := by
          rcases Nat.lt_or_ge n0 30 with h | h
          · exact h
          · exact absurd (hct.trans (by rw [show n0 = 30 by omega]; rfl)) c_34
        refine lv_aload_n hx hb dX5_open_43 rfl (lv_at hl 0 rfl) ?_
        refine va_get (D := D) (ci := 5) (v := .ref (X 6)) (C := RX5) (T := TX5) (N := 17) hx hb hts i5 hown hK hP 0 rfl rfl 8 (by decide) fl_25 (fun _ h9 => h9) rfl dX5_open_44 ?_
        refine lv_aload_n hx hb dX5_open_47 rfl (lv_at hl 0 rfl) ?_
        refine va_get (D := D) (ci := 5) (v := .int (V 2)) (C := RX5) (T := TX5) (N := 17) hx hb hts i5 hown hK hP 0 rfl rfl 7 (by decide) fl_94 (fun _ h9 => h9) rfl dX5_open_48 ?_
        refine lv_iload_n hx hb dX5_open_51 rfl (lv_at hl 1 rfl) ?_
        refine z_top2 (nI n0) hct ?_
        refine z_iast (D := D) (j := n0) (f := S 6) hx hb hK hP hD hS 6 0 rfl rfl (by omega) (by decide) dX5_open_52 (fun H locs hP hD hS => ?_)
        have hP : va_P D vwCl (mW cI cZ X (va_up S 6 (upd (S 6) n0 x0)) O (va_up V 0 0)) H := hP
        have hD : va_D A (mW cI cZ X (va_up S 6 (upd (S 6) n0 x0)) O (va_up V 0 0)) := hD
        refine lv_aload_n hx hb dX5_open_53 rfl (lv_at hl 0 rfl) ?_
        refine va_get (D := D) (ci := 5) (v := .ref (X 7)) (C := RX5) (T := TX5) (N := 17) hx hb hts i5 hown hK hP 0 rfl rfl 9 (by decide) fl_28 (fun _ h9 => h9) rfl dX5_open_54 ?_
        refine lv_aload_n hx hb dX5_open_57 rfl (lv_at hl 0 rfl) ?_
        refine va_get (D := D) (ci := 5) (v := .int (V 2)) (C := RX5) (T := TX5) (N := 17) hx hb hts i5 hown hK hP 0 rfl rfl 7 (by decide) fl_94 (fun _ h9 => h9) rfl dX5_open_58 ?_
        refine lv_aload_n hx hb dX5_open_61 rfl (lv_at hl 0 rfl) ?_
        refine va_get (D := D) (ci := 5) (v := .int (V 3)) (C := RX5) (T := TX5) (N := 17) hx hb hts i5 hown hK hP 0 rfl rfl 13 (by decide) fl_85 (fun _ h9 => h9) rfl dX5_open_62 ?_
        refine z_top2 (nI n0) hct ?_
        refine z_iast (D := D) (j := n0) (f := S 7) hx hb hK hP hD hS 7 0 rfl rfl (by omega) (by decide) dX5_open_65 (fun H locs hP hD hS => ?_)
        have hP : va_P D vwCl (mW cI cZ X (va_up (va_up S 6 (upd (S 6) n0 x0)) 7 (upd (S 7) n0 (V 3))) O (va_up V 0 0)) H := hP
        have hD : va_D A (mW cI cZ X (va_up (va_up S 6 (upd (S 6) n0 x0)) 7 (upd (S 7) n0 (V 3))) O (va_up V 0 0)) := hD
        refine lv_aload_n hx hb dX5_open_66 rfl (lv_at hl 0 rfl) ?_
        refine va_get (D := D) (ci := 5) (v := .ref (X 8)) (C := RX5) (T := TX5) (N := 17) hx hb hts i5 hown hK hP 0 rfl rfl 10 (by decide) fl_31 (fun _ h9 => h9) rfl dX5_open_67 ?_
        refine lv_aload_n hx hb dX5_open_70 rfl (lv_at hl 0 rfl) ?_
        refine va_get (D := D) (ci := 5) (v := .int (V 2)) (C := RX5) (T := TX5) (N := 17) hx hb hts i5 hown hK hP 0 rfl rfl 7 (by decide) fl_94 (fun _ h9 => h9) rfl dX5_open_71 ?_
        refine lv_aload_n hx hb dX5_open_74 rfl (lv_at hl 0 rfl) ?_
        refine va_get (D := D) (ci := 5) (v := .int (V 1)) (C := RX5) (T := TX5) (N := 17) hx hb hts i5 hown hK hP 0 rfl rfl 1 (by decide) fl_82 (fun _ h9 => h9) rfl dX5_open_75 ?_
        refine z_top2 (nI n0) hct ?_
        refine z_iast (D := D) (j := n0) (f := S 8) hx hb hK hP hD hS 8 0 rfl rfl (by omega) (by decide) dX5_open_78 (fun H locs hP hD hS => ?_)
        have hP : va_P D vwCl (mW cI cZ X (va_up (va_up (va_up S 6 (upd (S 6) n0 x0)) 7 (upd (S 7) n0 (V 3))) 8 (upd (S 8) n0 (V 1))) O (va_up V 0 0)) H := hP
        have hD : va_D A (mW cI cZ X (va_up (va_up (va_up S 6 (upd (S 6) n0 x0)) 7 (upd (S 7) n0 (V 3))) 8 (upd (S 8) n0 (V 1))) O (va_up V 0 0)) := hD
        refine lv_aload_n hx hb dX5_open_79 rfl (lv_at hl 0 rfl) ?_
        refine va_get (D := D) (ci := 5) (v := .ref (X 9)) (C := RX5) (T := TX5) (N := 17) hx hb hts i5 hown hK hP 0 rfl rfl 11 (by decide) fl_34 (fun _ h9 => h9) rfl dX5_open_80 ?_
        refine lv_aload_n hx hb dX5_open_83 rfl (lv_at hl 0 rfl) ?_
        refine va_get (D := D) (ci := 5) (v := .int (V 2)) (C := RX5) (T := TX5) (N := 17) hx hb hts i5 hown hK hP 0 rfl rfl 7 (by decide) fl_94 (fun _ h9 => h9) rfl dX5_open_84 ?_
        refine lv_aload_n hx hb dX5_open_87 rfl (lv_at hl 0 rfl) ?_
        refine va_get (D := D) (ci := 5) (v := .int (V 1)) (C := RX5) (T := TX5) (N := 17) hx hb hts i5 hown hK hP 0 rfl rfl 1 (by decide) fl_82 (fun _ h9 => h9) rfl dX5_open_88 ?_
        refine z_top2 (nI n0) hct ?_
        refine z_iast (D := D) (j := n0) (f := S 9) hx hb hK hP hD hS 9 0 rfl rfl (by omega) (by decide) dX5_open_91 (fun H locs hP hD hS => ?_)
        have hP : va_P D vwCl (mW cI cZ X (va_up (va_up (va_up (va_up S 6 (upd (S 6) n0 x0)) 7 (upd (S 7) n0 (V 3))) 8 (upd (S 8) n0 (V 1))) 9 (upd (S 9) n0 (V 1))) O (va_up V 0 0)) H := hP
        have hD : va_D A (mW cI cZ X (va_up (va_up (va_up (va_up S 6 (upd (S 6) n0 x0)) 7 (upd (S 7) n0 (V 3))) 8 (upd (S 8) n0 (V 1))) 9 (upd (S 9) n0 (V 1))) O (va_up V 0 0)) := hD
        refine lv_aload_n hx hb dX5_open_92 rfl (lv_at hl 0 rfl) ?_
        refine lv_dup hx hb dX5_open_93 rfl ?_
        refine va_get (D := D) (ci := 5) (v := .int (V 2)) (C := RX5) (T := TX5) (N := 17) hx hb hts i5 hown hK hP 0 rfl rfl 7 (by decide) fl_94 (fun _ h9 => h9) rfl dX5_open_94 ?_
        refine lv_iconst (v := 1) hx hb dX5_open_97 rfl ?_
        refine lv_iadd hx hb dX5_open_98 ?_
        refine va_put (D := D) (ci := 5) (v := .int ((V 2) + 1)) (ty := .int) (C := RX5) (T := TX5) (N := 17) hx hb hts i5 tyX5 tyX5_ok nmX5 hown hK hP hD hS 0 rfl rfl 7 (by decide) fl_94 (fun _ h9 => h9) rfl (by decide +kernel) rfl rfl (Nat.le_of_ble_eq_true rfl) dX5_open_99 (fun H locs hP hD hS => ?_)
        have hP : va_P D vwCl (mW cI cZ X (va_up (va_up (va_up (va_up S 6 (upd (S 6) n0 x0)) 7 (upd (S 7) n0 (V 3))) 8 (upd (S 8) n0 (V 1))) 9 (upd (S 9) n0 (V 1))) O (va_up (va_up V 0 0) 2 ((V 2) + 1))) H := hP
        have hD : va_D A (mW cI cZ X (va_up (va_up (va_up (va_up S 6 (upd (S 6) n0 x0)) 7 (upd (S 7) n0 (V 3))) 8 (upd (S 8) n0 (V 1))) 9 (upd (S 9) n0 (V 1))) O (va_up (va_up V 0 0) 2 ((V 2) + 1))) := hD
        refine lv_aload_n hx hb dX5_open_102 rfl (lv_at hl 0 rfl) ?_
        refine va_get (D := D) (ci := 5) (v := .int ((V 2) + 1)) (C := RX5) (T := TX5) (N := 17) hx hb hts i5 hown hK hP 0 rfl rfl 7 (by decide) fl_94 (fun _ h9 => h9) rfl dX5_open_103 ?_
        refine lv_iconst (v := 1) hx hb dX5_open_106 rfl ?_
        refine lv_isub hx hb dX5_open_107 ?_
        have eS : (if m_opK S V x0 = 0 then va_up (va_up (va_up (va_up S 6 (upd (S 6) n0 x0)) 7 (upd (S 7) n0 (V 3))) 8 (upd (S 8) n0 (V 1))) 9 (upd (S 9) n0 (V 1)) else S) = (va_up (va_up (va_up (va_up S 6 (upd (S 6) n0 x0)) 7 (upd (S 7) n0 (V 3))) 8 (upd (S 8) n0 (V 1))) 9 (upd (S 9) n0 (V 1))) := by simp [m_opK, bx_uu, bi, c_9, xpi, c_25, c_34]
        have eV : (if m_opK S V x0 = 0 then va_up (va_up V 0 0) 2 (V 2 + 1) else va_up V 0 (m_opK S V x0)) = (va_up (va_up V 0 0) 2 ((V 2) + 1)) := by simp [m_opK, bx_uu, bi, c_9, xpi, c_25, c_34]
        exact z_wret hx hb hr hlocks (by rw [eS, eV]; exact hP) hK (by rw [eS, eV]; exact hD) hS (by simp [m_opK, bx_uu, bi, c_9, xpi, c_25, c_34]) dX5_open_108
      · refine lv_aload_n hx hb dX5_open_37 rfl (lv_at hl 0 rfl) ?_
        refine lv_iconst (v := 2) hx hb dX5_open_38 rfl ?_
        have hF := z_free hD hS hA
        refine z_callWi (va_runV (As := [.int 2]) (rest := []) ⟨hx, hb, hml, hown, hts⟩ (kX5_fails l D cI cZ X S O (va_up V 0 0) _ 2) (cwV 1 hts gX5_open_X5_fails rfl rfl rfl (by decide +kernel) ⟨Nat.le_of_ble_eq_true rfl, Nat.le_of_ble_eq_true rfl⟩) (zW_preV 0 5 hK hP hD rfl rfl) rfl rfl hl.1 rfl (lv_room (Nat.le_of_ble_eq_true rfl)) dX5_open_39 ⟨Nat.zero_le _, Nat.zero_le _⟩) hS hF (fun H locs hP hD hS => ?_)
        have eS : (if m_opK S V x0 = 0 then va_up (va_up (va_up (va_up S 6 (upd (S 6) n0 x0)) 7 (upd (S 7) n0 (V 3))) 8 (upd (S 8) n0 (V 1))) 9 (upd (S 9) n0 (V 1)) else S) = S := by simp [m_opK, bx_uu, bi, c_9, xpi, c_25, (eq_true c_34)]
        have eV : (if m_opK S V x0 = 0 then va_up (va_up V 0 0) 2 (V 2 + 1) else va_up V 0 (m_opK S V x0)) = (va_up (va_up V 0 0) 0 2) := by simp [m_opK, bx_uu, bi, c_9, xpi, c_25, (eq_true c_34)]
        exact z_wret hx hb hr hlocks (by rw [eS, eV]; exact hP) hK (by rw [eS, eV]; exact hD) hS (by simp [m_opK, bx_uu, bi, c_9, xpi, c_25, (eq_true c_34)]) dX5_open_42
  · refine lv_aload_n hx hb dX5_open_12 rfl (lv_at hl 0 rfl) ?_
    refine lv_iconst (v := 1) hx hb dX5_open_13 rfl ?_
    have hF := z_free hD hS hA
    refine z_callWi (va_runV (As := [.int 1]) (rest := []) ⟨hx, hb, hml, hown, hts⟩ (kX5_fails l D cI cZ X S O (va_up V 0 0) _ 1) (cwV 1 hts gX5_open_X5_fails rfl rfl rfl (by decide +kernel) ⟨Nat.le_of_ble_eq_true rfl, Nat.le_of_ble_eq_true rfl⟩) (zW_preV 0 5 hK hP hD rfl rfl) rfl rfl hl.1 rfl (lv_room (Nat.le_of_ble_eq_true rfl)) dX5_open_14 ⟨Nat.zero_le _, Nat.zero_le _⟩) hS hF (fun H locs hP hD hS => ?_)
    have eS : (if m_opK S V x0 = 0 then va_up (va_up (va_up (va_up S 6 (upd (S 6) n0 x0)) 7 (upd (S 7) n0 (V 3))) 8 (upd (S 8) n0 (V 1))) 9 (upd (S 9) n0 (V 1)) else S) = S := by simp [m_opK, bx_uu, bi, c_9]
    have eV : (if m_opK S V x0 = 0 then va_up (va_up V 0 0) 2 (V 2 + 1) else va_up V 0 (m_opK S V x0)) = (va_up (va_up V 0 0) 0 1) := by simp [m_opK, bx_uu, bi, c_9]
    exact z_wret hx hb hr hlocks (by rw [eS, eV]; exact hP) hK (by rw [eS, eV]; exact hD) hS (by simp [m_opK, bx_uu, bi, c_9]) dX5_open_17

set_option maxHeartbeats 4000000 in
set_option maxRecDepth 100000 in
theorem kX5_isSession (l : Launch) (D : va_G) (cI cZ : ClassId) (X : Nat → Nat) (S : Nat → Nat → Int32) (O : Nat → Bool) (V : Nat → Int32) (x0 : Int32) : Met l yX5_isSession wsX5_isSession ({ frames := 1, cells := 0, slots := 0, locals := 22 } : Room) (zR D (tyl cI cZ) (mW cI cZ X S O V) [.ref (X 0), .int x0]) (QcRead (bi (m_in x0 0 (V 2 - 1)))) 0 0 (fun _ => False) := by
  refine Met.ofW (cc := cX5_isSession) (maxL := 2) (ret := (some .boolean)) (by decide) rfl ?_
  intro p e s m args below meth c s₁ B hml hv
  obtain ⟨rfl, hP, hK⟩ := hv
  have hx := B.exec
  have hb := B.bytes
  have hr := B.returns
  have hts := atoms_spec (ws := wsX5_isSession) B.pre
  have hown : s.vm.findClass RX5 = some m.cls := findClass_of_methodNamed B.named
  have hlocks := B.notSynchronized
  have i5 : ∀ w ∈ u_ws RX5 TX5 17, w ∈ wsX5_isSession := by decide +kernel
  have fl_94 := hts (.fieldLink RX5 94 "SignOnHouseModel" "sessions" "I") (by decide +kernel)
  have hl := lv_entry ([.ref (X 0), .int x0]) (n := 2) (Nat.le_of_ble_eq_true rfl)
  rw [lg_entry_eq]
  generalize (lg_sl ([.ref (X 0), .int x0]) ++ List.replicate (2 - (lg_sl ([.ref (X 0), .int x0])).length) Slot.unset).toArray = ls at hl ⊢
  have hl : lv_has ls 2 [(0, .ref (X 0)), (1, .int x0)] := hl
  refine lv_iload_n hx hb dX5_isSession_0 rfl (lv_at hl 1 rfl) ?_
  refine lv_iconst (v := 0) hx hb dX5_isSession_1 rfl ?_
  refine lv_aload_n hx hb dX5_isSession_2 rfl (lv_at hl 0 rfl) ?_
  refine va_get (D := D) (ci := 5) (v := .int (V 2)) (C := RX5) (T := TX5) (N := 17) hx hb hts i5 hown hK hP 0 rfl rfl 7 (by decide) fl_94 (fun _ h9 => h9) rfl dX5_isSession_3 ?_
  refine lv_iconst (v := 1) hx hb dX5_isSession_6 rfl ?_
  refine lv_isub hx hb dX5_isSession_7 ?_
  refine z_callR (W.runS (As := [.int x0, .int 0, .int ((V 2) - 1)]) (rest := []) ⟨hx, hb, hml, hown, hts⟩ (kX5_in l x0 0 ((V 2) - 1)) (va_cwS 3 hts gX5_isSession_X5_in rfl rfl rfl (by decide +kernel) ⟨Nat.le_of_ble_eq_true rfl, Nat.le_of_ble_eq_true rfl⟩) zP_pre rfl rfl hl.1 rfl (lv_room (Nat.le_of_ble_eq_true rfl)) dX5_isSession_8 ⟨Nat.zero_le _, Nat.zero_le _⟩) ?_
  exact z_zret hx hb hr hlocks (by rfl) dX5_isSession_11

set_option maxHeartbeats 4000000 in
set_option maxRecDepth 100000 in
theorem kX5_close (l : Launch) (D : va_G) (cI cZ : ClassId) (X : Nat → Nat) (S : Nat → Nat → Int32) (O : Nat → Bool) (V : Nat → Int32) (sz : Nat) (x0 : Int32) (n0 : Nat) (hn0 : n0 ≤ 30) (hct : V 2 = nI n0) : Met l yX5_close wsX5_close ({ frames := 2, cells := 0, slots := 0, locals := 43 } : Room) (zW D (tyl cI cZ) (mW cI cZ X S O V) sz [.ref (X 0), .int x0]) (zQi D (tyl cI cZ) (mW cI cZ X S (if m_clK O V x0 = 0 then va_up O (ix x0) true else O) (va_up V 0 (m_clK O V x0))) (if m_clK O V x0 = 0 then V 1 - S 8 (ix x0) else 0) (va_A (mW cI cZ X S O V) sz)) 0 0 (va_A (mW cI cZ X S O V) sz) := by
  refine Met.ofW (cc := cX5_close) (maxL := 2) (ret := (some .int)) (by decide) rfl ?_
  intro p e s m args below meth c s₁ B hml hv
  obtain ⟨rfl, hsz, hP, hK, hD0⟩ := hv
  have hx := B.exec
  have hb := B.bytes
  have hr := B.returns
  have hts := atoms_spec (ws := wsX5_close) B.pre
  have hown : s.vm.findClass RX5 = some m.cls := findClass_of_methodNamed B.named
  have hlocks := B.notSynchronized
  subst hsz
  have hD := hD0.self (sz := s.heap.size)
  generalize hAe : va_A (mW cI cZ X S O V) s.heap.size = A at hD ⊢
  have hA : ∀ q : Nat, s.heap.size ≤ q → A q := fun q h => by rw [← hAe]; exact Or.inr h
  have hS : va_S A s.heap s.heap [] := va_S.rf
  have i5 : ∀ w ∈ u_ws RX5 TX5 17, w ∈ wsX5_close := by decide +kernel
  have fl_31 := hts (.fieldLink RX5 31 "SignOnHouseModel" "since" "[I") (by decide +kernel)
  have fl_37 := hts (.fieldLink RX5 37 "SignOnHouseModel" "over" "[Z") (by decide +kernel)
  have fl_47 := hts (.fieldLink RX5 47 "SignOnHouseModel" "thrown" "I") (by decide +kernel)
  have fl_82 := hts (.fieldLink RX5 82 "SignOnHouseModel" "now" "I") (by decide +kernel)
  have hl := lv_entry ([.ref (X 0), .int x0]) (n := 2) (Nat.le_of_ble_eq_true rfl)
  rw [lg_entry_eq]
  generalize (lg_sl ([.ref (X 0), .int x0]) ++ List.replicate (2 - (lg_sl ([.ref (X 0), .int x0])).length) Slot.unset).toArray = ls at hl ⊢
  have hl : lv_has ls 2 [(0, .ref (X 0)), (1, .int x0)] := hl
  refine lv_aload_n hx hb dX5_close_0 rfl (lv_at hl 0 rfl) ?_
  refine lv_iconst (v := 0) hx hb dX5_close_1 rfl ?_
  refine va_put (D := D) (ci := 5) (v := .int 0) (ty := .int) (C := RX5) (T := TX5) (N := 17) hx hb hts i5 tyX5 tyX5_ok nmX5 hown hK hP hD hS 0 rfl rfl 0 (by decide) fl_47 (fun _ h9 => h9) rfl (by decide +kernel) rfl rfl (Nat.le_of_ble_eq_true rfl) dX5_close_2 (fun H locs hP hD hS => ?_)
  have hP : va_P D vwCl (mW cI cZ X S O (va_up V 0 0)) H := hP
  have hD : va_D A (mW cI cZ X S O (va_up V 0 0)) := hD
  refine lv_aload_n hx hb dX5_close_5 rfl (lv_at hl 0 rfl) ?_
  refine lv_iload_n hx hb dX5_close_6 rfl (lv_at hl 1 rfl) ?_
  refine z_callR (W.runV (As := [.int x0]) (rest := []) ⟨hx, hb, hml, hown, hts⟩ (kX5_isSession l D cI cZ X S O (va_up V 0 0) x0) (cwV 1 hts gX5_close_X5_isSession rfl rfl rfl (by decide +kernel) ⟨Nat.le_of_ble_eq_true rfl, Nat.le_of_ble_eq_true rfl⟩) (zR_preV 0 5 hK hP rfl rfl) rfl rfl hl.1 rfl (lv_room (Nat.le_of_ble_eq_true rfl)) dX5_close_7 ⟨Nat.zero_le _, Nat.zero_le _⟩) ?_
  refine z_top (bi (m_in x0 0 (V 2 - 1))) rfl ?_
  refine z_if_ne (tgt := 19) hx hb dX5_close_10 (by decide) (fun c_10 => ?_) (fun c_10 => ?_)
  · obtain ⟨si, hsi, esi⟩ := m_inC c_10 hct hn0
    have xsi : ix x0 = si := ix_of esi (by omega)
    refine lv_aload_n hx hb dX5_close_19 rfl (lv_at hl 0 rfl) ?_
    refine va_get (D := D) (ci := 5) (v := .ref (X 10)) (C := RX5) (T := TX5) (N := 17) hx hb hts i5 hown hK hP 0 rfl rfl 12 (by decide) fl_37 (fun _ h9 => h9) rfl dX5_close_20 ?_
    refine lv_iload_n hx hb dX5_close_23 rfl (lv_at hl 1 rfl) ?_
    refine z_top (nI si) esi ?_
    refine z_zald (D := D) (j := si) (g := O) hx hb hK hP 10 1 rfl rfl (by omega) (by decide) dX5_close_24 ?_
    refine z_if_eq (tgt := 34) hx hb dX5_close_25 (by decide) (fun c_25 => ?_) (fun c_25 => ?_)
    · refine lv_aload_n hx hb dX5_close_34 rfl (lv_at hl 0 rfl) ?_
      refine va_get (D := D) (ci := 5) (v := .ref (X 10)) (C := RX5) (T := TX5) (N := 17) hx hb hts i5 hown hK hP 0 rfl rfl 12 (by decide) fl_37 (fun _ h9 => h9) rfl dX5_close_35 ?_
      refine lv_iload_n hx hb dX5_close_38 rfl (lv_at hl 1 rfl) ?_
      refine lv_iconst (v := 1) hx hb dX5_close_39 rfl ?_
      refine z_top2 (nI si) esi ?_
      refine z_zast (D := D) (j := si) (b := true) (g := O) hx hb hK hP hD hS 10 1 rfl rfl (by omega) (by decide) dX5_close_40 (fun H locs hP hD hS => ?_)
      have hP : va_P D vwCl (mW cI cZ X S (va_up O si true) (va_up V 0 0)) H := hP
      have hD : va_D A (mW cI cZ X S (va_up O si true) (va_up V 0 0)) := hD
      refine lv_aload_n hx hb dX5_close_41 rfl (lv_at hl 0 rfl) ?_
      refine va_get (D := D) (ci := 5) (v := .int (V 1)) (C := RX5) (T := TX5) (N := 17) hx hb hts i5 hown hK hP 0 rfl rfl 1 (by decide) fl_82 (fun _ h9 => h9) rfl dX5_close_42 ?_
      refine lv_aload_n hx hb dX5_close_45 rfl (lv_at hl 0 rfl) ?_
      refine va_get (D := D) (ci := 5) (v := .ref (X 8)) (C := RX5) (T := TX5) (N := 17) hx hb hts i5 hown hK hP 0 rfl rfl 10 (by decide) fl_31 (fun _ h9 => h9) rfl dX5_close_46 ?_
      refine lv_iload_n hx hb dX5_close_49 rfl (lv_at hl 1 rfl) ?_
      refine z_top (nI si) esi ?_
      refine z_iald (D := D) (j := si) (f := S 8) hx hb hK hP 8 0 rfl rfl (by omega) (by decide) dX5_close_50 ?_
      refine lv_isub hx hb dX5_close_51 ?_
      have eO : (if m_clK O V x0 = 0 then va_up O (ix x0) true else O) = (va_up O si true) := by simp [m_clK, bx_uu, bi, c_10, xsi, c_25]
      have eV : (va_up V 0 (m_clK O V x0)) = (va_up V 0 0) := by simp [m_clK, bx_uu, bi, c_10, xsi, c_25]
      exact z_wret hx hb hr hlocks (by rw [eO, eV]; exact hP) hK (by rw [eO, eV]; exact hD) hS (by simp [m_clK, bx_uu, bi, c_10, xsi, c_25]) dX5_close_52
    · refine lv_aload_n hx hb dX5_close_28 rfl (lv_at hl 0 rfl) ?_
      refine lv_iconst (v := 2) hx hb dX5_close_29 rfl ?_
      have hF := z_free hD hS hA
      refine z_callWi (va_runV (As := [.int 2]) (rest := []) ⟨hx, hb, hml, hown, hts⟩ (kX5_fails l D cI cZ X S O (va_up V 0 0) _ 2) (cwV 1 hts gX5_close_X5_fails rfl rfl rfl (by decide +kernel) ⟨Nat.le_of_ble_eq_true rfl, Nat.le_of_ble_eq_true rfl⟩) (zW_preV 0 5 hK hP hD rfl rfl) rfl rfl hl.1 rfl (lv_room (Nat.le_of_ble_eq_true rfl)) dX5_close_30 ⟨Nat.zero_le _, Nat.zero_le _⟩) hS hF (fun H locs hP hD hS => ?_)
      have eO : (if m_clK O V x0 = 0 then va_up O (ix x0) true else O) = O := by simp [m_clK, bx_uu, bi, c_10, xsi, c_25]
      have eV : (va_up V 0 (m_clK O V x0)) = (va_up (va_up V 0 0) 0 2) := by simp [m_clK, bx_uu, bi, c_10, xsi, c_25]
      exact z_wret hx hb hr hlocks (by rw [eO, eV]; exact hP) hK (by rw [eO, eV]; exact hD) hS (by simp [m_clK, bx_uu, bi, c_10, xsi, c_25]) dX5_close_33
  · refine lv_aload_n hx hb dX5_close_13 rfl (lv_at hl 0 rfl) ?_
    refine lv_iconst (v := 1) hx hb dX5_close_14 rfl ?_
    have hF := z_free hD hS hA
    refine z_callWi (va_runV (As := [.int 1]) (rest := []) ⟨hx, hb, hml, hown, hts⟩ (kX5_fails l D cI cZ X S O (va_up V 0 0) _ 1) (cwV 1 hts gX5_close_X5_fails rfl rfl rfl (by decide +kernel) ⟨Nat.le_of_ble_eq_true rfl, Nat.le_of_ble_eq_true rfl⟩) (zW_preV 0 5 hK hP hD rfl rfl) rfl rfl hl.1 rfl (lv_room (Nat.le_of_ble_eq_true rfl)) dX5_close_15 ⟨Nat.zero_le _, Nat.zero_le _⟩) hS hF (fun H locs hP hD hS => ?_)
    have eO : (if m_clK O V x0 = 0 then va_up O (ix x0) true else O) = O := by simp [m_clK, bx_uu, bi, c_10]
    have eV : (va_up V 0 (m_clK O V x0)) = (va_up (va_up V 0 0) 0 1) := by simp [m_clK, bx_uu, bi, c_10]
    exact z_wret hx hb hr hlocks (by rw [eO, eV]; exact hP) hK (by rw [eO, eV]; exact hD) hS (by simp [m_clK, bx_uu, bi, c_10]) dX5_close_18

set_option maxHeartbeats 4000000 in
set_option maxRecDepth 100000 in
theorem kX5_goesOn (l : Launch) (D : va_G) (cI cZ : ClassId) (X : Nat → Nat) (S : Nat → Nat → Int32) (O : Nat → Bool) (V : Nat → Int32) (sz : Nat) (x0 : Int32) (n0 : Nat) (hn0 : n0 ≤ 30) (hct : V 2 = nI n0) : Met l yX5_goesOn wsX5_goesOn ({ frames := 2, cells := 0, slots := 0, locals := 43 } : Room) (zW D (tyl cI cZ) (mW cI cZ X S O V) sz [.ref (X 0), .int x0]) (zQi D (tyl cI cZ) (mW cI cZ X S O (va_up V 0 (if m_in x0 0 (V 2 - 1) = true then 0 else 1))) (bi (m_in x0 0 (V 2 - 1) && !O (ix x0))) (va_A (mW cI cZ X S O V) sz)) 0 0 (va_A (mW cI cZ X S O V) sz) := by
  refine Met.ofW (cc := cX5_goesOn) (maxL := 2) (ret := (some .boolean)) (by decide) rfl ?_
  intro p e s m args below meth c s₁ B hml hv
  obtain ⟨rfl, hsz, hP, hK, hD0⟩ := hv
  have hx := B.exec
  have hb := B.bytes
  have hr := B.returns
  have hts := atoms_spec (ws := wsX5_goesOn) B.pre
  have hown : s.vm.findClass RX5 = some m.cls := findClass_of_methodNamed B.named
  have hlocks := B.notSynchronized
  subst hsz
  have hD := hD0.self (sz := s.heap.size)
  generalize hAe : va_A (mW cI cZ X S O V) s.heap.size = A at hD ⊢
  have hA : ∀ q : Nat, s.heap.size ≤ q → A q := fun q h => by rw [← hAe]; exact Or.inr h
  have hS : va_S A s.heap s.heap [] := va_S.rf
  have i5 : ∀ w ∈ u_ws RX5 TX5 17, w ∈ wsX5_goesOn := by decide +kernel
  have fl_37 := hts (.fieldLink RX5 37 "SignOnHouseModel" "over" "[Z") (by decide +kernel)
  have fl_47 := hts (.fieldLink RX5 47 "SignOnHouseModel" "thrown" "I") (by decide +kernel)
  have hl := lv_entry ([.ref (X 0), .int x0]) (n := 2) (Nat.le_of_ble_eq_true rfl)
  rw [lg_entry_eq]
  generalize (lg_sl ([.ref (X 0), .int x0]) ++ List.replicate (2 - (lg_sl ([.ref (X 0), .int x0])).length) Slot.unset).toArray = ls at hl ⊢
  have hl : lv_has ls 2 [(0, .ref (X 0)), (1, .int x0)] := hl
  refine lv_aload_n hx hb dX5_goesOn_0 rfl (lv_at hl 0 rfl) ?_
  refine lv_aload_n hx hb dX5_goesOn_1 rfl (lv_at hl 0 rfl) ?_
  refine lv_iload_n hx hb dX5_goesOn_2 rfl (lv_at hl 1 rfl) ?_
  refine z_callR (W.runV (As := [.int x0]) (rest := [.ref (X 0)]) ⟨hx, hb, hml, hown, hts⟩ (kX5_isSession l D cI cZ X S O V x0) (cwV 1 hts gX5_goesOn_X5_isSession rfl rfl rfl (by decide +kernel) ⟨Nat.le_of_ble_eq_true rfl, Nat.le_of_ble_eq_true rfl⟩) (zR_preV 0 5 hK hP rfl rfl) rfl rfl hl.1 rfl (lv_room (Nat.le_of_ble_eq_true rfl)) dX5_goesOn_3 ⟨Nat.zero_le _, Nat.zero_le _⟩) ?_
  refine z_if_eq (tgt := 13) hx hb dX5_goesOn_6 (by decide) (fun c_6 => ?_) (fun c_6 => ?_)
  · refine lv_iconst (v := 1) hx hb dX5_goesOn_13 rfl ?_
    refine va_put (D := D) (ci := 5) (v := .int 1) (ty := .int) (C := RX5) (T := TX5) (N := 17) hx hb hts i5 tyX5 tyX5_ok nmX5 hown hK hP hD hS 0 rfl rfl 0 (by decide) fl_47 (fun _ h9 => h9) rfl (by decide +kernel) rfl rfl (Nat.le_of_ble_eq_true rfl) dX5_goesOn_14 (fun H locs hP hD hS => ?_)
    have hP : va_P D vwCl (mW cI cZ X S O (va_up V 0 1)) H := hP
    have hD : va_D A (mW cI cZ X S O (va_up V 0 1)) := hD
    refine lv_aload_n hx hb dX5_goesOn_17 rfl (lv_at hl 0 rfl) ?_
    refine va_get (D := D) (ci := 5) (v := .int 1) (C := RX5) (T := TX5) (N := 17) hx hb hts i5 hown hK hP 0 rfl rfl 0 (by decide) fl_47 (fun _ h9 => h9) rfl dX5_goesOn_18 ?_
    refine lv_if_ne (tgt := 37) hx hb dX5_goesOn_21 (by decide) (fun _ => ?_) (fun q => absurd q (by decide))
    refine lv_iconst (v := 0) hx hb dX5_goesOn_37 rfl ?_
    have eV : (va_up V 0 (if m_in x0 0 (V 2 - 1) = true then 0 else 1)) = (va_up V 0 1) := by simp [bi, c_6]
    exact z_wzret hx hb hr hlocks (by rw [eV]; exact hP) hK (by rw [eV]; exact hD) hS (by simp [bi, c_6]) dX5_goesOn_38
  · obtain ⟨si, hsi, esi⟩ := m_inC c_6 hct hn0
    have xsi : ix x0 = si := ix_of esi (by omega)
    refine lv_iconst (v := 0) hx hb dX5_goesOn_9 rfl ?_
    refine lv_goto (tgt := 14) hx hb dX5_goesOn_10 (by decide) ?_
    refine va_put (D := D) (ci := 5) (v := .int 0) (ty := .int) (C := RX5) (T := TX5) (N := 17) hx hb hts i5 tyX5 tyX5_ok nmX5 hown hK hP hD hS 0 rfl rfl 0 (by decide) fl_47 (fun _ h9 => h9) rfl (by decide +kernel) rfl rfl (Nat.le_of_ble_eq_true rfl) dX5_goesOn_14 (fun H locs hP hD hS => ?_)
    have hP : va_P D vwCl (mW cI cZ X S O (va_up V 0 0)) H := hP
    have hD : va_D A (mW cI cZ X S O (va_up V 0 0)) := hD
    refine lv_aload_n hx hb dX5_goesOn_17 rfl (lv_at hl 0 rfl) ?_
    refine va_get (D := D) (ci := 5) (v := .int 0) (C := RX5) (T := TX5) (N := 17) hx hb hts i5 hown hK hP 0 rfl rfl 0 (by decide) fl_47 (fun _ h9 => h9) rfl dX5_goesOn_18 ?_
    refine lv_if_ne (tgt := 37) hx hb dX5_goesOn_21 (by decide) (fun q => absurd rfl q) (fun _ => ?_)
    refine lv_aload_n hx hb dX5_goesOn_24 rfl (lv_at hl 0 rfl) ?_
    refine va_get (D := D) (ci := 5) (v := .ref (X 10)) (C := RX5) (T := TX5) (N := 17) hx hb hts i5 hown hK hP 0 rfl rfl 12 (by decide) fl_37 (fun _ h9 => h9) rfl dX5_goesOn_25 ?_
    refine lv_iload_n hx hb dX5_goesOn_28 rfl (lv_at hl 1 rfl) ?_
    refine z_top (nI si) esi ?_
    refine z_zald (D := D) (j := si) (g := O) hx hb hK hP 10 1 rfl rfl (by omega) (by decide) dX5_goesOn_29 ?_
    refine z_if_ne (tgt := 37) hx hb dX5_goesOn_30 (by decide) (fun c_30 => ?_) (fun c_30 => ?_)
    · refine lv_iconst (v := 0) hx hb dX5_goesOn_37 rfl ?_
      have eV : (va_up V 0 (if m_in x0 0 (V 2 - 1) = true then 0 else 1)) = (va_up V 0 0) := by simp [bi, c_6, xsi, c_30]
      exact z_wzret hx hb hr hlocks (by rw [eV]; exact hP) hK (by rw [eV]; exact hD) hS (by simp [bi, c_6, xsi, c_30]) dX5_goesOn_38
    · refine lv_iconst (v := 1) hx hb dX5_goesOn_33 rfl ?_
      refine lv_goto (tgt := 38) hx hb dX5_goesOn_34 (by decide) ?_
      have eV : (va_up V 0 (if m_in x0 0 (V 2 - 1) = true then 0 else 1)) = (va_up V 0 0) := by simp [bi, c_6, xsi, c_30]
      exact z_wzret hx hb hr hlocks (by rw [eV]; exact hP) hK (by rw [eV]; exact hD) hS (by simp [bi, c_6, xsi, c_30]) dX5_goesOn_38

set_option maxHeartbeats 4000000 in
set_option maxRecDepth 100000 in
theorem kX5_changeKeys (l : Launch) (D : va_G) (cI cZ : ClassId) (X : Nat → Nat) (S : Nat → Nat → Int32) (O : Nat → Bool) (V : Nat → Int32) (sz : Nat) (x0 : Int32) (n0 : Nat) (hn0 : n0 ≤ 30) (hct : V 2 = nI n0) (hpe : ∀ j : Nat, j < n0 → vp_in (S 6 j) 10) : Met l yX5_changeKeys wsX5_changeKeys ({ frames := 3, cells := 0, slots := 0, locals := 65 } : Room) (zW D (tyl cI cZ) (mW cI cZ X S O V) sz [.ref (X 0), .int x0]) (zQi D (tyl cI cZ) (mW cI cZ X S (if m_in x0 0 300 = true then m_swO S O (m_ckV V x0) n0 else O) (if m_in x0 0 300 = true then m_ckV V x0 else va_up V 0 1)) (if m_in x0 0 300 = true then V 3 + 1 else 0) (va_A (mW cI cZ X S O V) sz)) 0 0 (va_A (mW cI cZ X S O V) sz) := by
  refine Met.ofW (cc := cX5_changeKeys) (maxL := 3) (ret := (some .int)) (by decide) rfl ?_
  intro p e s m args below meth c s₁ B hml hv
  obtain ⟨rfl, hsz, hP, hK, hD0⟩ := hv
  have hx := B.exec
  have hb := B.bytes
  have hr := B.returns
  have hts := atoms_spec (ws := wsX5_changeKeys) B.pre
  have hown : s.vm.findClass RX5 = some m.cls := findClass_of_methodNamed B.named
  have hlocks := B.notSynchronized
  subst hsz
  have hD := hD0.self (sz := s.heap.size)
  generalize hAe : va_A (mW cI cZ X S O V) s.heap.size = A at hD ⊢
  have hA : ∀ q : Nat, s.heap.size ≤ q → A q := fun q h => by rw [← hAe]; exact Or.inr h
  have hS : va_S A s.heap s.heap [] := va_S.rf
  have i5 : ∀ w ∈ u_ws RX5 TX5 17, w ∈ wsX5_changeKeys := by decide +kernel
  have fl_47 := hts (.fieldLink RX5 47 "SignOnHouseModel" "thrown" "I") (by decide +kernel)
  have fl_82 := hts (.fieldLink RX5 82 "SignOnHouseModel" "now" "I") (by decide +kernel)
  have fl_85 := hts (.fieldLink RX5 85 "SignOnHouseModel" "key" "I") (by decide +kernel)
  have fl_88 := hts (.fieldLink RX5 88 "SignOnHouseModel" "taken" "I") (by decide +kernel)
  have hl := lv_entry ([.ref (X 0), .int x0]) (n := 3) (Nat.le_of_ble_eq_true rfl)
  rw [lg_entry_eq]
  generalize (lg_sl ([.ref (X 0), .int x0]) ++ List.replicate (3 - (lg_sl ([.ref (X 0), .int x0])).length) Slot.unset).toArray = ls at hl ⊢
  have hl : lv_has ls 3 [(0, .ref (X 0)), (1, .int x0)] := hl
  refine lv_aload_n hx hb dX5_changeKeys_0 rfl (lv_at hl 0 rfl) ?_
  refine lv_iconst (v := 0) hx hb dX5_changeKeys_1 rfl ?_
  refine va_put (D := D) (ci := 5) (v := .int 0) (ty := .int) (C := RX5) (T := TX5) (N := 17) hx hb hts i5 tyX5 tyX5_ok nmX5 hown hK hP hD hS 0 rfl rfl 0 (by decide) fl_47 (fun _ h9 => h9) rfl (by decide +kernel) rfl rfl (Nat.le_of_ble_eq_true rfl) dX5_changeKeys_2 (fun H locs hP hD hS => ?_)
  have hP : va_P D vwCl (mW cI cZ X S O (va_up V 0 0)) H := hP
  have hD : va_D A (mW cI cZ X S O (va_up V 0 0)) := hD
  refine lv_iload_n hx hb dX5_changeKeys_5 rfl (lv_at hl 1 rfl) ?_
  refine lv_iconst (v := 0) hx hb dX5_changeKeys_6 rfl ?_
  refine lv_sipush (v := 300) hx hb dX5_changeKeys_7 (by decide) ?_
  refine z_callR (W.runS (As := [.int x0, .int 0, .int 300]) (rest := []) ⟨hx, hb, hml, hown, hts⟩ (kX5_in l x0 0 300) (va_cwS 3 hts gX5_changeKeys_X5_in rfl rfl rfl (by decide +kernel) ⟨Nat.le_of_ble_eq_true rfl, Nat.le_of_ble_eq_true rfl⟩) zP_pre rfl rfl hl.1 rfl (lv_room (Nat.le_of_ble_eq_true rfl)) dX5_changeKeys_10 ⟨Nat.zero_le _, Nat.zero_le _⟩) ?_
  refine z_if_ne (tgt := 22) hx hb dX5_changeKeys_13 (by decide) (fun c_13 => ?_) (fun c_13 => ?_)
  · refine lv_aload_n hx hb dX5_changeKeys_22 rfl (lv_at hl 0 rfl) ?_
    refine lv_dup hx hb dX5_changeKeys_23 rfl ?_
    refine va_get (D := D) (ci := 5) (v := .int (V 3)) (C := RX5) (T := TX5) (N := 17) hx hb hts i5 hown hK hP 0 rfl rfl 13 (by decide) fl_85 (fun _ h9 => h9) rfl dX5_changeKeys_24 ?_
    refine lv_iconst (v := 1) hx hb dX5_changeKeys_27 rfl ?_
    refine lv_iadd hx hb dX5_changeKeys_28 ?_
    refine va_put (D := D) (ci := 5) (v := .int ((V 3) + 1)) (ty := .int) (C := RX5) (T := TX5) (N := 17) hx hb hts i5 tyX5 tyX5_ok nmX5 hown hK hP hD hS 0 rfl rfl 13 (by decide) fl_85 (fun _ h9 => h9) rfl (by decide +kernel) rfl rfl (Nat.le_of_ble_eq_true rfl) dX5_changeKeys_29 (fun H locs hP hD hS => ?_)
    have hP : va_P D vwCl (mW cI cZ X S O (va_up (va_up V 0 0) 3 ((V 3) + 1))) H := hP
    have hD : va_D A (mW cI cZ X S O (va_up (va_up V 0 0) 3 ((V 3) + 1))) := hD
    refine lv_aload_n hx hb dX5_changeKeys_32 rfl (lv_at hl 0 rfl) ?_
    refine lv_aload_n hx hb dX5_changeKeys_33 rfl (lv_at hl 0 rfl) ?_
    refine va_get (D := D) (ci := 5) (v := .int (V 1)) (C := RX5) (T := TX5) (N := 17) hx hb hts i5 hown hK hP 0 rfl rfl 1 (by decide) fl_82 (fun _ h9 => h9) rfl dX5_changeKeys_34 ?_
    refine lv_iload_n hx hb dX5_changeKeys_37 rfl (lv_at hl 1 rfl) ?_
    refine lv_iadd hx hb dX5_changeKeys_38 ?_
    refine va_put (D := D) (ci := 5) (v := .int ((V 1) + x0)) (ty := .int) (C := RX5) (T := TX5) (N := 17) hx hb hts i5 tyX5 tyX5_ok nmX5 hown hK hP hD hS 0 rfl rfl 14 (by decide) fl_88 (fun _ h9 => h9) rfl (by decide +kernel) rfl rfl (Nat.le_of_ble_eq_true rfl) dX5_changeKeys_39 (fun H locs hP hD hS => ?_)
    have hP : va_P D vwCl (mW cI cZ X S O (va_up (va_up (va_up V 0 0) 3 ((V 3) + 1)) 4 ((V 1) + x0))) H := hP
    have hD : va_D A (mW cI cZ X S O (va_up (va_up (va_up V 0 0) 3 ((V 3) + 1)) 4 ((V 1) + x0))) := hD
    refine lv_aload_n hx hb dX5_changeKeys_42 rfl (lv_at hl 0 rfl) ?_
    have hF := z_free hD hS hA
    refine z_callWi (va_runV (As := []) (rest := []) ⟨hx, hb, hml, hown, hts⟩ (kX5_sweeps l D cI cZ X S O (va_up (va_up (va_up V 0 0) 3 ((V 3) + 1)) 4 ((V 1) + x0)) _ n0 hn0 hct hpe) (cwV 0 hts gX5_changeKeys_X5_sweeps rfl rfl rfl (by decide +kernel) ⟨Nat.le_of_ble_eq_true rfl, Nat.le_of_ble_eq_true rfl⟩) (zW_preV 0 5 hK hP hD rfl rfl) rfl rfl hl.1 rfl (lv_room (Nat.le_of_ble_eq_true rfl)) dX5_changeKeys_43 ⟨Nat.zero_le _, Nat.zero_le _⟩) hS hF (fun H locs hP hD hS => ?_)
    refine lv_istore_n (lv' := [(2, .int (m_swN S O (va_up (va_up (va_up V 0 0) 3 ((V 3) + 1)) 4 ((V 1) + x0)) n0)), (0, .ref (X 0)), (1, .int x0)]) hx hb dX5_changeKeys_46 rfl hl (by decide) rfl (fun ls hl => ?_)
    refine lv_aload_n hx hb dX5_changeKeys_47 rfl (lv_at hl 1 rfl) ?_
    refine va_get (D := D) (ci := 5) (v := .int ((V 3) + 1)) (C := RX5) (T := TX5) (N := 17) hx hb hts i5 hown hK hP 0 rfl rfl 13 (by decide) fl_85 (fun _ h9 => h9) rfl dX5_changeKeys_48 ?_
    have eO : (if m_in x0 0 300 = true then m_swO S O (m_ckV V x0) n0 else O) = (m_swO S O (va_up (va_up (va_up V 0 0) 3 ((V 3) + 1)) 4 ((V 1) + x0)) n0) := by simp [m_ckV, bx_uu, bi, c_13]
    have eV : (if m_in x0 0 300 = true then m_ckV V x0 else va_up V 0 1) = (va_up (va_up (va_up V 0 0) 3 ((V 3) + 1)) 4 ((V 1) + x0)) := by simp [m_ckV, bx_uu, bi, c_13]
    exact z_wret hx hb hr hlocks (by rw [eO, eV]; exact hP) hK (by rw [eO, eV]; exact hD) hS (by simp [m_ckV, bx_uu, bi, c_13]) dX5_changeKeys_51
  · refine lv_aload_n hx hb dX5_changeKeys_16 rfl (lv_at hl 0 rfl) ?_
    refine lv_iconst (v := 1) hx hb dX5_changeKeys_17 rfl ?_
    have hF := z_free hD hS hA
    refine z_callWi (va_runV (As := [.int 1]) (rest := []) ⟨hx, hb, hml, hown, hts⟩ (kX5_fails l D cI cZ X S O (va_up V 0 0) _ 1) (cwV 1 hts gX5_changeKeys_X5_fails rfl rfl rfl (by decide +kernel) ⟨Nat.le_of_ble_eq_true rfl, Nat.le_of_ble_eq_true rfl⟩) (zW_preV 0 5 hK hP hD rfl rfl) rfl rfl hl.1 rfl (lv_room (Nat.le_of_ble_eq_true rfl)) dX5_changeKeys_18 ⟨Nat.zero_le _, Nat.zero_le _⟩) hS hF (fun H locs hP hD hS => ?_)
    have eO : (if m_in x0 0 300 = true then m_swO S O (m_ckV V x0) n0 else O) = O := by simp [m_ckV, bx_uu, bi, c_13]
    have eV : (if m_in x0 0 300 = true then m_ckV V x0 else va_up V 0 1) = (va_up (va_up V 0 0) 0 1) := by simp [m_ckV, bx_uu, bi, c_13]
    exact z_wret hx hb hr hlocks (by rw [eO, eV]; exact hP) hK (by rw [eO, eV]; exact hD) hS (by simp [m_ckV, bx_uu, bi, c_13]) dX5_changeKeys_21

set_option maxHeartbeats 4000000 in
set_option maxRecDepth 100000 in
theorem kX5_isTaken (l : Launch) (D : va_G) (cI cZ : ClassId) (X : Nat → Nat) (S : Nat → Nat → Int32) (O : Nat → Bool) (V : Nat → Int32) (sz : Nat) (x0 : Int32) : Met l yX5_isTaken wsX5_isTaken ({ frames := 1, cells := 0, slots := 0, locals := 22 } : Room) (zW D (tyl cI cZ) (mW cI cZ X S O V) sz [.ref (X 0), .int x0]) (zQi D (tyl cI cZ) (mW cI cZ X S O (va_up V 0 (if m_in x0 0 (V 3) = true then 0 else 1))) (bi (m_in x0 0 (V 3) && m_isKey V x0)) (va_A (mW cI cZ X S O V) sz)) 0 0 (va_A (mW cI cZ X S O V) sz) := by
  refine Met.ofW (cc := cX5_isTaken) (maxL := 2) (ret := (some .boolean)) (by decide) rfl ?_
  intro p e s m args below meth c s₁ B hml hv
  obtain ⟨rfl, hsz, hP, hK, hD0⟩ := hv
  have hx := B.exec
  have hb := B.bytes
  have hr := B.returns
  have hts := atoms_spec (ws := wsX5_isTaken) B.pre
  have hown : s.vm.findClass RX5 = some m.cls := findClass_of_methodNamed B.named
  have hlocks := B.notSynchronized
  subst hsz
  have hD := hD0.self (sz := s.heap.size)
  generalize hAe : va_A (mW cI cZ X S O V) s.heap.size = A at hD ⊢
  have hA : ∀ q : Nat, s.heap.size ≤ q → A q := fun q h => by rw [← hAe]; exact Or.inr h
  have hS : va_S A s.heap s.heap [] := va_S.rf
  have i5 : ∀ w ∈ u_ws RX5 TX5 17, w ∈ wsX5_isTaken := by decide +kernel
  have fl_47 := hts (.fieldLink RX5 47 "SignOnHouseModel" "thrown" "I") (by decide +kernel)
  have fl_85 := hts (.fieldLink RX5 85 "SignOnHouseModel" "key" "I") (by decide +kernel)
  have hl := lv_entry ([.ref (X 0), .int x0]) (n := 2) (Nat.le_of_ble_eq_true rfl)
  rw [lg_entry_eq]
  generalize (lg_sl ([.ref (X 0), .int x0]) ++ List.replicate (2 - (lg_sl ([.ref (X 0), .int x0])).length) Slot.unset).toArray = ls at hl ⊢
  have hl : lv_has ls 2 [(0, .ref (X 0)), (1, .int x0)] := hl
  refine lv_aload_n hx hb dX5_isTaken_0 rfl (lv_at hl 0 rfl) ?_
  refine lv_iload_n hx hb dX5_isTaken_1 rfl (lv_at hl 1 rfl) ?_
  refine lv_iconst (v := 0) hx hb dX5_isTaken_2 rfl ?_
  refine lv_aload_n hx hb dX5_isTaken_3 rfl (lv_at hl 0 rfl) ?_
  refine va_get (D := D) (ci := 5) (v := .int (V 3)) (C := RX5) (T := TX5) (N := 17) hx hb hts i5 hown hK hP 0 rfl rfl 13 (by decide) fl_85 (fun _ h9 => h9) rfl dX5_isTaken_4 ?_
  refine z_callR (W.runS (As := [.int x0, .int 0, .int (V 3)]) (rest := [.ref (X 0)]) ⟨hx, hb, hml, hown, hts⟩ (kX5_in l x0 0 (V 3)) (va_cwS 3 hts gX5_isTaken_X5_in rfl rfl rfl (by decide +kernel) ⟨Nat.le_of_ble_eq_true rfl, Nat.le_of_ble_eq_true rfl⟩) zP_pre rfl rfl hl.1 rfl (lv_room (Nat.le_of_ble_eq_true rfl)) dX5_isTaken_7 ⟨Nat.zero_le _, Nat.zero_le _⟩) ?_
  refine z_if_eq (tgt := 17) hx hb dX5_isTaken_10 (by decide) (fun c_10 => ?_) (fun c_10 => ?_)
  · refine lv_iconst (v := 1) hx hb dX5_isTaken_17 rfl ?_
    refine va_put (D := D) (ci := 5) (v := .int 1) (ty := .int) (C := RX5) (T := TX5) (N := 17) hx hb hts i5 tyX5 tyX5_ok nmX5 hown hK hP hD hS 0 rfl rfl 0 (by decide) fl_47 (fun _ h9 => h9) rfl (by decide +kernel) rfl rfl (Nat.le_of_ble_eq_true rfl) dX5_isTaken_18 (fun H locs hP hD hS => ?_)
    have hP : va_P D vwCl (mW cI cZ X S O (va_up V 0 1)) H := hP
    have hD : va_D A (mW cI cZ X S O (va_up V 0 1)) := hD
    refine lv_aload_n hx hb dX5_isTaken_21 rfl (lv_at hl 0 rfl) ?_
    refine va_get (D := D) (ci := 5) (v := .int 1) (C := RX5) (T := TX5) (N := 17) hx hb hts i5 hown hK hP 0 rfl rfl 0 (by decide) fl_47 (fun _ h9 => h9) rfl dX5_isTaken_22 ?_
    refine lv_if_ne (tgt := 40) hx hb dX5_isTaken_25 (by decide) (fun _ => ?_) (fun q => absurd q (by decide))
    refine lv_iconst (v := 0) hx hb dX5_isTaken_40 rfl ?_
    have eV : (va_up V 0 (if m_in x0 0 (V 3) = true then 0 else 1)) = (va_up V 0 1) := by simp [bi, c_10]
    exact z_wzret hx hb hr hlocks (by rw [eV]; exact hP) hK (by rw [eV]; exact hD) hS (by simp [bi, c_10]) dX5_isTaken_41
  · refine lv_iconst (v := 0) hx hb dX5_isTaken_13 rfl ?_
    refine lv_goto (tgt := 18) hx hb dX5_isTaken_14 (by decide) ?_
    refine va_put (D := D) (ci := 5) (v := .int 0) (ty := .int) (C := RX5) (T := TX5) (N := 17) hx hb hts i5 tyX5 tyX5_ok nmX5 hown hK hP hD hS 0 rfl rfl 0 (by decide) fl_47 (fun _ h9 => h9) rfl (by decide +kernel) rfl rfl (Nat.le_of_ble_eq_true rfl) dX5_isTaken_18 (fun H locs hP hD hS => ?_)
    have hP : va_P D vwCl (mW cI cZ X S O (va_up V 0 0)) H := hP
    have hD : va_D A (mW cI cZ X S O (va_up V 0 0)) := hD
    refine lv_aload_n hx hb dX5_isTaken_21 rfl (lv_at hl 0 rfl) ?_
    refine va_get (D := D) (ci := 5) (v := .int 0) (C := RX5) (T := TX5) (N := 17) hx hb hts i5 hown hK hP 0 rfl rfl 0 (by decide) fl_47 (fun _ h9 => h9) rfl dX5_isTaken_22 ?_
    refine lv_if_ne (tgt := 40) hx hb dX5_isTaken_25 (by decide) (fun q => absurd rfl q) (fun _ => ?_)
    refine lv_aload_n hx hb dX5_isTaken_28 rfl (lv_at hl 0 rfl) ?_
    refine lv_iload_n hx hb dX5_isTaken_29 rfl (lv_at hl 1 rfl) ?_
    refine z_callR (W.runV (As := [.int x0]) (rest := []) ⟨hx, hb, hml, hown, hts⟩ (kX5_isKey l D cI cZ X S O (va_up V 0 0) x0) (cwV 1 hts gX5_isTaken_X5_isKey rfl rfl rfl (by decide +kernel) ⟨Nat.le_of_ble_eq_true rfl, Nat.le_of_ble_eq_true rfl⟩) (zR_preV 0 5 hK hP rfl rfl) rfl rfl hl.1 rfl (lv_room (Nat.le_of_ble_eq_true rfl)) dX5_isTaken_30 ⟨Nat.zero_le _, Nat.zero_le _⟩) ?_
    refine z_top (bi (m_isKey V x0)) rfl ?_
    refine z_if_eq (tgt := 40) hx hb dX5_isTaken_33 (by decide) (fun c_33 => ?_) (fun c_33 => ?_)
    · refine lv_iconst (v := 0) hx hb dX5_isTaken_40 rfl ?_
      have eV : (va_up V 0 (if m_in x0 0 (V 3) = true then 0 else 1)) = (va_up V 0 0) := by simp [bi, c_10, c_33]
      exact z_wzret hx hb hr hlocks (by rw [eV]; exact hP) hK (by rw [eV]; exact hD) hS (by simp [bi, c_10, c_33]) dX5_isTaken_41
    · refine lv_iconst (v := 1) hx hb dX5_isTaken_36 rfl ?_
      refine lv_goto (tgt := 41) hx hb dX5_isTaken_37 (by decide) ?_
      have eV : (va_up V 0 (if m_in x0 0 (V 3) = true then 0 else 1)) = (va_up V 0 0) := by simp [bi, c_10, c_33]
      exact z_wzret hx hb hr hlocks (by rw [eV]; exact hP) hK (by rw [eV]; exact hD) hS (by simp [bi, c_10, c_33]) dX5_isTaken_41

set_option maxHeartbeats 4000000 in
set_option maxRecDepth 100000 in
theorem kX5_pass (l : Launch) (D : va_G) (cI cZ : ClassId) (X : Nat → Nat) (S : Nat → Nat → Int32) (O : Nat → Bool) (V : Nat → Int32) (sz : Nat) (x0 : Int32) (n0 : Nat) (hn0 : n0 ≤ 30) (hct : V 2 = nI n0) (hpe : ∀ j : Nat, j < n0 → vp_in (S 6 j) 10) : Met l yX5_pass wsX5_pass ({ frames := 3, cells := 0, slots := 0, locals := 65 } : Room) (zW D (tyl cI cZ) (mW cI cZ X S O V) sz [.ref (X 0), .int x0]) (zQi D (tyl cI cZ) (mW cI cZ X S (if m_in x0 1 300 = true then m_swO S O (m_paV V x0) n0 else O) (if m_in x0 1 300 = true then m_paV V x0 else va_up V 0 1)) (if m_in x0 1 300 = true then m_swN S O (m_paV V x0) n0 else 0) (va_A (mW cI cZ X S O V) sz)) 0 0 (va_A (mW cI cZ X S O V) sz) := by
  refine Met.ofW (cc := cX5_pass) (maxL := 2) (ret := (some .int)) (by decide) rfl ?_
  intro p e s m args below meth c s₁ B hml hv
  obtain ⟨rfl, hsz, hP, hK, hD0⟩ := hv
  have hx := B.exec
  have hb := B.bytes
  have hr := B.returns
  have hts := atoms_spec (ws := wsX5_pass) B.pre
  have hown : s.vm.findClass RX5 = some m.cls := findClass_of_methodNamed B.named
  have hlocks := B.notSynchronized
  subst hsz
  have hD := hD0.self (sz := s.heap.size)
  generalize hAe : va_A (mW cI cZ X S O V) s.heap.size = A at hD ⊢
  have hA : ∀ q : Nat, s.heap.size ≤ q → A q := fun q h => by rw [← hAe]; exact Or.inr h
  have hS : va_S A s.heap s.heap [] := va_S.rf
  have i5 : ∀ w ∈ u_ws RX5 TX5 17, w ∈ wsX5_pass := by decide +kernel
  have fl_47 := hts (.fieldLink RX5 47 "SignOnHouseModel" "thrown" "I") (by decide +kernel)
  have fl_82 := hts (.fieldLink RX5 82 "SignOnHouseModel" "now" "I") (by decide +kernel)
  have hl := lv_entry ([.ref (X 0), .int x0]) (n := 2) (Nat.le_of_ble_eq_true rfl)
  rw [lg_entry_eq]
  generalize (lg_sl ([.ref (X 0), .int x0]) ++ List.replicate (2 - (lg_sl ([.ref (X 0), .int x0])).length) Slot.unset).toArray = ls at hl ⊢
  have hl : lv_has ls 2 [(0, .ref (X 0)), (1, .int x0)] := hl
  refine lv_aload_n hx hb dX5_pass_0 rfl (lv_at hl 0 rfl) ?_
  refine lv_iconst (v := 0) hx hb dX5_pass_1 rfl ?_
  refine va_put (D := D) (ci := 5) (v := .int 0) (ty := .int) (C := RX5) (T := TX5) (N := 17) hx hb hts i5 tyX5 tyX5_ok nmX5 hown hK hP hD hS 0 rfl rfl 0 (by decide) fl_47 (fun _ h9 => h9) rfl (by decide +kernel) rfl rfl (Nat.le_of_ble_eq_true rfl) dX5_pass_2 (fun H locs hP hD hS => ?_)
  have hP : va_P D vwCl (mW cI cZ X S O (va_up V 0 0)) H := hP
  have hD : va_D A (mW cI cZ X S O (va_up V 0 0)) := hD
  refine lv_iload_n hx hb dX5_pass_5 rfl (lv_at hl 1 rfl) ?_
  refine lv_iconst (v := 1) hx hb dX5_pass_6 rfl ?_
  refine lv_sipush (v := 300) hx hb dX5_pass_7 (by decide) ?_
  refine z_callR (W.runS (As := [.int x0, .int 1, .int 300]) (rest := []) ⟨hx, hb, hml, hown, hts⟩ (kX5_in l x0 1 300) (va_cwS 3 hts gX5_pass_X5_in rfl rfl rfl (by decide +kernel) ⟨Nat.le_of_ble_eq_true rfl, Nat.le_of_ble_eq_true rfl⟩) zP_pre rfl rfl hl.1 rfl (lv_room (Nat.le_of_ble_eq_true rfl)) dX5_pass_10 ⟨Nat.zero_le _, Nat.zero_le _⟩) ?_
  refine z_if_ne (tgt := 22) hx hb dX5_pass_13 (by decide) (fun c_13 => ?_) (fun c_13 => ?_)
  · refine lv_aload_n hx hb dX5_pass_22 rfl (lv_at hl 0 rfl) ?_
    refine lv_dup hx hb dX5_pass_23 rfl ?_
    refine va_get (D := D) (ci := 5) (v := .int (V 1)) (C := RX5) (T := TX5) (N := 17) hx hb hts i5 hown hK hP 0 rfl rfl 1 (by decide) fl_82 (fun _ h9 => h9) rfl dX5_pass_24 ?_
    refine lv_iload_n hx hb dX5_pass_27 rfl (lv_at hl 1 rfl) ?_
    refine lv_iadd hx hb dX5_pass_28 ?_
    refine va_put (D := D) (ci := 5) (v := .int ((V 1) + x0)) (ty := .int) (C := RX5) (T := TX5) (N := 17) hx hb hts i5 tyX5 tyX5_ok nmX5 hown hK hP hD hS 0 rfl rfl 1 (by decide) fl_82 (fun _ h9 => h9) rfl (by decide +kernel) rfl rfl (Nat.le_of_ble_eq_true rfl) dX5_pass_29 (fun H locs hP hD hS => ?_)
    have hP : va_P D vwCl (mW cI cZ X S O (va_up (va_up V 0 0) 1 ((V 1) + x0))) H := hP
    have hD : va_D A (mW cI cZ X S O (va_up (va_up V 0 0) 1 ((V 1) + x0))) := hD
    refine lv_aload_n hx hb dX5_pass_32 rfl (lv_at hl 0 rfl) ?_
    have hF := z_free hD hS hA
    refine z_callWi (va_runV (As := []) (rest := []) ⟨hx, hb, hml, hown, hts⟩ (kX5_sweeps l D cI cZ X S O (va_up (va_up V 0 0) 1 ((V 1) + x0)) _ n0 hn0 hct hpe) (cwV 0 hts gX5_pass_X5_sweeps rfl rfl rfl (by decide +kernel) ⟨Nat.le_of_ble_eq_true rfl, Nat.le_of_ble_eq_true rfl⟩) (zW_preV 0 5 hK hP hD rfl rfl) rfl rfl hl.1 rfl (lv_room (Nat.le_of_ble_eq_true rfl)) dX5_pass_33 ⟨Nat.zero_le _, Nat.zero_le _⟩) hS hF (fun H locs hP hD hS => ?_)
    have eO : (if m_in x0 1 300 = true then m_swO S O (m_paV V x0) n0 else O) = (m_swO S O (va_up (va_up V 0 0) 1 ((V 1) + x0)) n0) := by simp [m_paV, bx_uu, bi, c_13]
    have eV : (if m_in x0 1 300 = true then m_paV V x0 else va_up V 0 1) = (va_up (va_up V 0 0) 1 ((V 1) + x0)) := by simp [m_paV, bx_uu, bi, c_13]
    exact z_wret hx hb hr hlocks (by rw [eO, eV]; exact hP) hK (by rw [eO, eV]; exact hD) hS (by simp [m_paV, bx_uu, bi, c_13]) dX5_pass_36
  · refine lv_aload_n hx hb dX5_pass_16 rfl (lv_at hl 0 rfl) ?_
    refine lv_iconst (v := 1) hx hb dX5_pass_17 rfl ?_
    have hF := z_free hD hS hA
    refine z_callWi (va_runV (As := [.int 1]) (rest := []) ⟨hx, hb, hml, hown, hts⟩ (kX5_fails l D cI cZ X S O (va_up V 0 0) _ 1) (cwV 1 hts gX5_pass_X5_fails rfl rfl rfl (by decide +kernel) ⟨Nat.le_of_ble_eq_true rfl, Nat.le_of_ble_eq_true rfl⟩) (zW_preV 0 5 hK hP hD rfl rfl) rfl rfl hl.1 rfl (lv_room (Nat.le_of_ble_eq_true rfl)) dX5_pass_18 ⟨Nat.zero_le _, Nat.zero_le _⟩) hS hF (fun H locs hP hD hS => ?_)
    have eO : (if m_in x0 1 300 = true then m_swO S O (m_paV V x0) n0 else O) = O := by simp [m_paV, bx_uu, bi, c_13]
    have eV : (if m_in x0 1 300 = true then m_paV V x0 else va_up V 0 1) = (va_up (va_up V 0 0) 0 1) := by simp [m_paV, bx_uu, bi, c_13]
    exact z_wret hx hb hr hlocks (by rw [eO, eV]; exact hP) hK (by rw [eO, eV]; exact hD) hS (by simp [m_paV, bx_uu, bi, c_13]) dX5_pass_21

set_option maxHeartbeats 4000000 in
set_option maxRecDepth 100000 in
theorem kX5_now (l : Launch) (D : va_G) (cI cZ : ClassId) (X : Nat → Nat) (S : Nat → Nat → Int32) (O : Nat → Bool) (V : Nat → Int32) (sz : Nat)  : Met l yX5_now wsX5_now ({ frames := 0, cells := 0, slots := 0, locals := 0 } : Room) (zW D (tyl cI cZ) (mW cI cZ X S O V) sz [.ref (X 0)]) (zQi D (tyl cI cZ) (mW cI cZ X S O (va_up V 0 0)) (V 1) (va_A (mW cI cZ X S O V) sz)) 0 0 (va_A (mW cI cZ X S O V) sz) := by
  refine Met.ofW (cc := cX5_now) (maxL := 1) (ret := (some .int)) (by decide) rfl ?_
  intro p e s m args below meth c s₁ B hml hv
  obtain ⟨rfl, hsz, hP, hK, hD0⟩ := hv
  have hx := B.exec
  have hb := B.bytes
  have hr := B.returns
  have hts := atoms_spec (ws := wsX5_now) B.pre
  have hown : s.vm.findClass RX5 = some m.cls := findClass_of_methodNamed B.named
  have hlocks := B.notSynchronized
  subst hsz
  have hD := hD0.self (sz := s.heap.size)
  generalize hAe : va_A (mW cI cZ X S O V) s.heap.size = A at hD ⊢
  have hA : ∀ q : Nat, s.heap.size ≤ q → A q := fun q h => by rw [← hAe]; exact Or.inr h
  have hS : va_S A s.heap s.heap [] := va_S.rf
  have i5 : ∀ w ∈ u_ws RX5 TX5 17, w ∈ wsX5_now := by decide +kernel
  have fl_47 := hts (.fieldLink RX5 47 "SignOnHouseModel" "thrown" "I") (by decide +kernel)
  have fl_82 := hts (.fieldLink RX5 82 "SignOnHouseModel" "now" "I") (by decide +kernel)
  have hl := lv_entry ([.ref (X 0)]) (n := 1) (Nat.le_of_ble_eq_true rfl)
  rw [lg_entry_eq]
  generalize (lg_sl ([.ref (X 0)]) ++ List.replicate (1 - (lg_sl ([.ref (X 0)])).length) Slot.unset).toArray = ls at hl ⊢
  have hl : lv_has ls 1 [(0, .ref (X 0))] := hl
  refine lv_aload_n hx hb dX5_now_0 rfl (lv_at hl 0 rfl) ?_
  refine lv_iconst (v := 0) hx hb dX5_now_1 rfl ?_
  refine va_put (D := D) (ci := 5) (v := .int 0) (ty := .int) (C := RX5) (T := TX5) (N := 17) hx hb hts i5 tyX5 tyX5_ok nmX5 hown hK hP hD hS 0 rfl rfl 0 (by decide) fl_47 (fun _ h9 => h9) rfl (by decide +kernel) rfl rfl (Nat.le_of_ble_eq_true rfl) dX5_now_2 (fun H locs hP hD hS => ?_)
  have hP : va_P D vwCl (mW cI cZ X S O (va_up V 0 0)) H := hP
  have hD : va_D A (mW cI cZ X S O (va_up V 0 0)) := hD
  refine lv_aload_n hx hb dX5_now_5 rfl (lv_at hl 0 rfl) ?_
  refine va_get (D := D) (ci := 5) (v := .int (V 1)) (C := RX5) (T := TX5) (N := 17) hx hb hts i5 hown hK hP 0 rfl rfl 1 (by decide) fl_82 (fun _ h9 => h9) rfl dX5_now_6 ?_
  exact z_wret hx hb hr hlocks hP hK hD hS rfl dX5_now_9

set_option maxHeartbeats 4000000 in
set_option maxRecDepth 100000 in
theorem kX5_serves (l : Launch) (D : va_G) (cI cZ : ClassId) (X : Nat → Nat) (S : Nat → Nat → Int32) (O : Nat → Bool) (V : Nat → Int32) (pi : Nat) (ri : Nat) (hpi : pi < 10) (hri : ri < 6) : Met l yX5_serves wsX5_serves ({ frames := 4, cells := 0, slots := 0, locals := 95 } : Room) (zR D (tyl cI cZ) (mW cI cZ X S O V) [.ref (X 0), .int (nI pi), .int (nI ri)]) (QcRead (bi (m_serves S pi ri))) 0 0 (fun _ => False) := by
  refine Met.ofW (cc := cX5_serves) (maxL := 3) (ret := (some .boolean)) (by decide) rfl ?_
  intro p e s m args below meth c s₁ B hml hv
  obtain ⟨rfl, hP, hK⟩ := hv
  have hx := B.exec
  have hb := B.bytes
  have hr := B.returns
  have hts := atoms_spec (ws := wsX5_serves) B.pre
  have hown : s.vm.findClass RX5 = some m.cls := findClass_of_methodNamed B.named
  have hlocks := B.notSynchronized
  have i5 : ∀ w ∈ u_ws RX5 TX5 17, w ∈ wsX5_serves := by decide +kernel
  have fl_19 := hts (.fieldLink RX5 19 "SignOnHouseModel" "risk" "[I") (by decide +kernel)
  have hl := lv_entry ([.ref (X 0), .int (nI pi), .int (nI ri)]) (n := 3) (Nat.le_of_ble_eq_true rfl)
  rw [lg_entry_eq]
  generalize (lg_sl ([.ref (X 0), .int (nI pi), .int (nI ri)]) ++ List.replicate (3 - (lg_sl ([.ref (X 0), .int (nI pi), .int (nI ri)])).length) Slot.unset).toArray = ls at hl ⊢
  have hl : lv_has ls 3 [(0, .ref (X 0)), (1, .int (nI pi)), (2, .int (nI ri))] := hl
  refine lv_aload_n hx hb dX5_serves_0 rfl (lv_at hl 0 rfl) ?_
  refine va_get (D := D) (ci := 5) (v := .ref (X 4)) (C := RX5) (T := TX5) (N := 17) hx hb hts i5 hown hK hP 0 rfl rfl 5 (by decide) fl_19 (fun _ h9 => h9) rfl dX5_serves_1 ?_
  refine lv_iload_n hx hb dX5_serves_4 rfl (lv_at hl 1 rfl) ?_
  refine z_iald (D := D) (j := pi) (f := S 4) hx hb hK hP 4 0 rfl rfl (by omega) (by decide) dX5_serves_5 ?_
  refine lv_iconst (v := 3) hx hb dX5_serves_6 rfl ?_
  refine lv_icmp_ge (tgt := 24) hx hb dX5_serves_7 (by decide) (fun c_7 => ?_) (fun c_7 => ?_)
  · refine lv_iconst (v := 0) hx hb dX5_serves_24 rfl ?_
    exact z_zret hx hb hr hlocks (by simp [m_serves, bi, c_7]) dX5_serves_25
  · refine lv_aload_n hx hb dX5_serves_10 rfl (lv_at hl 0 rfl) ?_
    refine lv_iload_n hx hb dX5_serves_11 rfl (lv_at hl 1 rfl) ?_
    refine lv_iload_n hx hb dX5_serves_12 rfl (lv_at hl 2 rfl) ?_
    refine lv_iconst (v := 1) hx hb dX5_serves_13 rfl ?_
    refine z_callR (W.runV (As := [.int (nI pi), .int (nI ri), .int 1]) (rest := []) ⟨hx, hb, hml, hown, hts⟩ (kX5_finds l D cI cZ X S O V (nI pi) ri 1 (by omega)) (cwV 3 hts gX5_serves_X5_finds rfl rfl rfl (by decide +kernel) ⟨Nat.le_of_ble_eq_true rfl, Nat.le_of_ble_eq_true rfl⟩) (zR_preV 0 5 hK hP rfl rfl) rfl rfl hl.1 rfl (lv_room (Nat.le_of_ble_eq_true rfl)) dX5_serves_14 ⟨Nat.zero_le _, Nat.zero_le _⟩) ?_
    refine z_if_eq (tgt := 24) hx hb dX5_serves_17 (by decide) (fun c_17 => ?_) (fun c_17 => ?_)
    · refine lv_iconst (v := 0) hx hb dX5_serves_24 rfl ?_
      exact z_zret hx hb hr hlocks (by simp [m_serves, bi, c_7, c_17]) dX5_serves_25
    · refine lv_iconst (v := 1) hx hb dX5_serves_20 rfl ?_
      refine lv_goto (tgt := 25) hx hb dX5_serves_21 (by decide) ?_
      exact z_zret hx hb hr hlocks (by simp [m_serves, bi, c_7, c_17]) dX5_serves_25

set_option maxHeartbeats 4000000 in
set_option maxRecDepth 100000 in
theorem kX5_breakGlass (l : Launch) (D : va_G) (cI cZ : ClassId) (X : Nat → Nat) (S : Nat → Nat → Int32) (O : Nat → Bool) (V : Nat → Int32) (sz : Nat) (x0 : Int32) (x1 : Int32) (x2 : Int32) (x3 : Int32) : Met l yX5_breakGlass wsX5_breakGlass ({ frames := 5, cells := 0, slots := 0, locals := 117 } : Room) (zW D (tyl cI cZ) (mW cI cZ X S O V) sz [.ref (X 0), .int x0, .int x1, .int x2, .int x3]) (zQi D (tyl cI cZ) (mW cI cZ X (if m_bgK S x0 x1 x2 x3 = 0 then va_up S 5 (upd (S 5) (6 * ix x0 + ix x1) (V 1 + 60)) else S) O (va_up V 0 (m_bgK S x0 x1 x2 x3))) (if m_bgK S x0 x1 x2 x3 = 0 then V 1 + 60 else 0) (va_A (mW cI cZ X S O V) sz)) 0 0 (va_A (mW cI cZ X S O V) sz) := by
  refine Met.ofW (cc := cX5_breakGlass) (maxL := 5) (ret := (some .int)) (by decide) rfl ?_
  intro p e s m args below meth c s₁ B hml hv
  obtain ⟨rfl, hsz, hP, hK, hD0⟩ := hv
  have hx := B.exec
  have hb := B.bytes
  have hr := B.returns
  have hts := atoms_spec (ws := wsX5_breakGlass) B.pre
  have hown : s.vm.findClass RX5 = some m.cls := findClass_of_methodNamed B.named
  have hlocks := B.notSynchronized
  subst hsz
  have hD := hD0.self (sz := s.heap.size)
  generalize hAe : va_A (mW cI cZ X S O V) s.heap.size = A at hD ⊢
  have hA : ∀ q : Nat, s.heap.size ≤ q → A q := fun q h => by rw [← hAe]; exact Or.inr h
  have hS : va_S A s.heap s.heap [] := va_S.rf
  have i5 : ∀ w ∈ u_ws RX5 TX5 17, w ∈ wsX5_breakGlass := by decide +kernel
  have fl_22 := hts (.fieldLink RX5 22 "SignOnHouseModel" "glass" "[I") (by decide +kernel)
  have fl_47 := hts (.fieldLink RX5 47 "SignOnHouseModel" "thrown" "I") (by decide +kernel)
  have fl_82 := hts (.fieldLink RX5 82 "SignOnHouseModel" "now" "I") (by decide +kernel)
  have hl := lv_entry ([.ref (X 0), .int x0, .int x1, .int x2, .int x3]) (n := 5) (Nat.le_of_ble_eq_true rfl)
  rw [lg_entry_eq]
  generalize (lg_sl ([.ref (X 0), .int x0, .int x1, .int x2, .int x3]) ++ List.replicate (5 - (lg_sl ([.ref (X 0), .int x0, .int x1, .int x2, .int x3])).length) Slot.unset).toArray = ls at hl ⊢
  have hl : lv_has ls 5 [(0, .ref (X 0)), (1, .int x0), (2, .int x1), (3, .int x2), (4, .int x3)] := hl
  refine lv_aload_n hx hb dX5_breakGlass_0 rfl (lv_at hl 0 rfl) ?_
  refine lv_iconst (v := 0) hx hb dX5_breakGlass_1 rfl ?_
  refine va_put (D := D) (ci := 5) (v := .int 0) (ty := .int) (C := RX5) (T := TX5) (N := 17) hx hb hts i5 tyX5 tyX5_ok nmX5 hown hK hP hD hS 0 rfl rfl 0 (by decide) fl_47 (fun _ h9 => h9) rfl (by decide +kernel) rfl rfl (Nat.le_of_ble_eq_true rfl) dX5_breakGlass_2 (fun H locs hP hD hS => ?_)
  have hP : va_P D vwCl (mW cI cZ X S O (va_up V 0 0)) H := hP
  have hD : va_D A (mW cI cZ X S O (va_up V 0 0)) := hD
  refine lv_iload_n hx hb dX5_breakGlass_5 rfl (lv_at hl 1 rfl) ?_
  refine z_callR (W.runS (As := [.int x0]) (rest := []) ⟨hx, hb, hml, hown, hts⟩ (kX5_isPerson l x0) (va_cwS 1 hts gX5_breakGlass_X5_isPerson rfl rfl rfl (by decide +kernel) ⟨Nat.le_of_ble_eq_true rfl, Nat.le_of_ble_eq_true rfl⟩) zP_pre rfl rfl hl.1 rfl (lv_room (Nat.le_of_ble_eq_true rfl)) dX5_breakGlass_6 ⟨Nat.zero_le _, Nat.zero_le _⟩) ?_
  refine z_if_eq (tgt := 51) hx hb dX5_breakGlass_9 (by decide) (fun c_9 => ?_) (fun c_9 => ?_)
  · refine lv_aload_n hx hb dX5_breakGlass_51 rfl (lv_at hl 0 rfl) ?_
    refine lv_iconst (v := 1) hx hb dX5_breakGlass_52 rfl ?_
    have hF := z_free hD hS hA
    refine z_callWi (va_runV (As := [.int 1]) (rest := []) ⟨hx, hb, hml, hown, hts⟩ (kX5_fails l D cI cZ X S O (va_up V 0 0) _ 1) (cwV 1 hts gX5_breakGlass_X5_fails rfl rfl rfl (by decide +kernel) ⟨Nat.le_of_ble_eq_true rfl, Nat.le_of_ble_eq_true rfl⟩) (zW_preV 0 5 hK hP hD rfl rfl) rfl rfl hl.1 rfl (lv_room (Nat.le_of_ble_eq_true rfl)) dX5_breakGlass_53 ⟨Nat.zero_le _, Nat.zero_le _⟩) hS hF (fun H locs hP hD hS => ?_)
    have eS : (if m_bgK S x0 x1 x2 x3 = 0 then va_up S 5 (upd (S 5) (6 * ix x0 + ix x1) (V 1 + 60)) else S) = S := by simp [m_bgK, m_bgOk, bx_uu, bi, c_9]
    have eV : (va_up V 0 (m_bgK S x0 x1 x2 x3)) = (va_up (va_up V 0 0) 0 1) := by simp [m_bgK, m_bgOk, bx_uu, bi, c_9]
    exact z_wret hx hb hr hlocks (by rw [eS, eV]; exact hP) hK (by rw [eS, eV]; exact hD) hS (by simp [m_bgK, m_bgOk, bx_uu, bi, c_9]) dX5_breakGlass_56
  · obtain ⟨pi, hpi, epi⟩ := m_in9 c_9
    have xpi : ix x0 = pi := ix_of epi (by omega)
    refine lv_iload_n hx hb dX5_breakGlass_12 rfl (lv_at hl 2 rfl) ?_
    refine z_callR (W.runS (As := [.int x1]) (rest := []) ⟨hx, hb, hml, hown, hts⟩ (kX5_isRole l x1) (va_cwS 1 hts gX5_breakGlass_X5_isRole rfl rfl rfl (by decide +kernel) ⟨Nat.le_of_ble_eq_true rfl, Nat.le_of_ble_eq_true rfl⟩) zP_pre rfl rfl hl.1 rfl (lv_room (Nat.le_of_ble_eq_true rfl)) dX5_breakGlass_13 ⟨Nat.zero_le _, Nat.zero_le _⟩) ?_
    refine z_if_eq (tgt := 51) hx hb dX5_breakGlass_16 (by decide) (fun c_16 => ?_) (fun c_16 => ?_)
    · refine lv_aload_n hx hb dX5_breakGlass_51 rfl (lv_at hl 0 rfl) ?_
      refine lv_iconst (v := 1) hx hb dX5_breakGlass_52 rfl ?_
      have hF := z_free hD hS hA
      refine z_callWi (va_runV (As := [.int 1]) (rest := []) ⟨hx, hb, hml, hown, hts⟩ (kX5_fails l D cI cZ X S O (va_up V 0 0) _ 1) (cwV 1 hts gX5_breakGlass_X5_fails rfl rfl rfl (by decide +kernel) ⟨Nat.le_of_ble_eq_true rfl, Nat.le_of_ble_eq_true rfl⟩) (zW_preV 0 5 hK hP hD rfl rfl) rfl rfl hl.1 rfl (lv_room (Nat.le_of_ble_eq_true rfl)) dX5_breakGlass_53 ⟨Nat.zero_le _, Nat.zero_le _⟩) hS hF (fun H locs hP hD hS => ?_)
      have eS : (if m_bgK S x0 x1 x2 x3 = 0 then va_up S 5 (upd (S 5) (6 * ix x0 + ix x1) (V 1 + 60)) else S) = S := by simp [m_bgK, m_bgOk, bx_uu, bi, c_9, xpi, c_16]
      have eV : (va_up V 0 (m_bgK S x0 x1 x2 x3)) = (va_up (va_up V 0 0) 0 1) := by simp [m_bgK, m_bgOk, bx_uu, bi, c_9, xpi, c_16]
      exact z_wret hx hb hr hlocks (by rw [eS, eV]; exact hP) hK (by rw [eS, eV]; exact hD) hS (by simp [m_bgK, m_bgOk, bx_uu, bi, c_9, xpi, c_16]) dX5_breakGlass_56
    · obtain ⟨ri, hri, eri⟩ := m_in5 c_16
      have xri : ix x1 = ri := ix_of eri (by omega)
      refine lv_iload_n hx hb dX5_breakGlass_19 rfl (lv_at hl 3 rfl) ?_
      refine z_callR (W.runS (As := [.int x2]) (rest := []) ⟨hx, hb, hml, hown, hts⟩ (kX5_isPerson l x2) (va_cwS 1 hts gX5_breakGlass_X5_isPerson rfl rfl rfl (by decide +kernel) ⟨Nat.le_of_ble_eq_true rfl, Nat.le_of_ble_eq_true rfl⟩) zP_pre rfl rfl hl.1 rfl (lv_room (Nat.le_of_ble_eq_true rfl)) dX5_breakGlass_20 ⟨Nat.zero_le _, Nat.zero_le _⟩) ?_
      refine z_if_eq (tgt := 51) hx hb dX5_breakGlass_23 (by decide) (fun c_23 => ?_) (fun c_23 => ?_)
      · refine lv_aload_n hx hb dX5_breakGlass_51 rfl (lv_at hl 0 rfl) ?_
        refine lv_iconst (v := 1) hx hb dX5_breakGlass_52 rfl ?_
        have hF := z_free hD hS hA
        refine z_callWi (va_runV (As := [.int 1]) (rest := []) ⟨hx, hb, hml, hown, hts⟩ (kX5_fails l D cI cZ X S O (va_up V 0 0) _ 1) (cwV 1 hts gX5_breakGlass_X5_fails rfl rfl rfl (by decide +kernel) ⟨Nat.le_of_ble_eq_true rfl, Nat.le_of_ble_eq_true rfl⟩) (zW_preV 0 5 hK hP hD rfl rfl) rfl rfl hl.1 rfl (lv_room (Nat.le_of_ble_eq_true rfl)) dX5_breakGlass_53 ⟨Nat.zero_le _, Nat.zero_le _⟩) hS hF (fun H locs hP hD hS => ?_)
        have eS : (if m_bgK S x0 x1 x2 x3 = 0 then va_up S 5 (upd (S 5) (6 * ix x0 + ix x1) (V 1 + 60)) else S) = S := by simp [m_bgK, m_bgOk, bx_uu, bi, c_9, xpi, c_16, xri, c_23]
        have eV : (va_up V 0 (m_bgK S x0 x1 x2 x3)) = (va_up (va_up V 0 0) 0 1) := by simp [m_bgK, m_bgOk, bx_uu, bi, c_9, xpi, c_16, xri, c_23]
        exact z_wret hx hb hr hlocks (by rw [eS, eV]; exact hP) hK (by rw [eS, eV]; exact hD) hS (by simp [m_bgK, m_bgOk, bx_uu, bi, c_9, xpi, c_16, xri, c_23]) dX5_breakGlass_56
      · obtain ⟨oi, hoi, eoi⟩ := m_in9 c_23
        have xoi : ix x2 = oi := ix_of eoi (by omega)
        refine lv_iload hx hb dX5_breakGlass_26 (lv_at hl 4 rfl) ?_
        refine z_callR (W.runS (As := [.int x3]) (rest := []) ⟨hx, hb, hml, hown, hts⟩ (kX5_isPerson l x3) (va_cwS 1 hts gX5_breakGlass_X5_isPerson rfl rfl rfl (by decide +kernel) ⟨Nat.le_of_ble_eq_true rfl, Nat.le_of_ble_eq_true rfl⟩) zP_pre rfl rfl hl.1 rfl (lv_room (Nat.le_of_ble_eq_true rfl)) dX5_breakGlass_28 ⟨Nat.zero_le _, Nat.zero_le _⟩) ?_
        refine z_if_eq (tgt := 51) hx hb dX5_breakGlass_31 (by decide) (fun c_31 => ?_) (fun c_31 => ?_)
        · refine lv_aload_n hx hb dX5_breakGlass_51 rfl (lv_at hl 0 rfl) ?_
          refine lv_iconst (v := 1) hx hb dX5_breakGlass_52 rfl ?_
          have hF := z_free hD hS hA
          refine z_callWi (va_runV (As := [.int 1]) (rest := []) ⟨hx, hb, hml, hown, hts⟩ (kX5_fails l D cI cZ X S O (va_up V 0 0) _ 1) (cwV 1 hts gX5_breakGlass_X5_fails rfl rfl rfl (by decide +kernel) ⟨Nat.le_of_ble_eq_true rfl, Nat.le_of_ble_eq_true rfl⟩) (zW_preV 0 5 hK hP hD rfl rfl) rfl rfl hl.1 rfl (lv_room (Nat.le_of_ble_eq_true rfl)) dX5_breakGlass_53 ⟨Nat.zero_le _, Nat.zero_le _⟩) hS hF (fun H locs hP hD hS => ?_)
          have eS : (if m_bgK S x0 x1 x2 x3 = 0 then va_up S 5 (upd (S 5) (6 * ix x0 + ix x1) (V 1 + 60)) else S) = S := by simp [m_bgK, m_bgOk, bx_uu, bi, c_9, xpi, c_16, xri, c_23, xoi, c_31]
          have eV : (va_up V 0 (m_bgK S x0 x1 x2 x3)) = (va_up (va_up V 0 0) 0 1) := by simp [m_bgK, m_bgOk, bx_uu, bi, c_9, xpi, c_16, xri, c_23, xoi, c_31]
          exact z_wret hx hb hr hlocks (by rw [eS, eV]; exact hP) hK (by rw [eS, eV]; exact hD) hS (by simp [m_bgK, m_bgOk, bx_uu, bi, c_9, xpi, c_16, xri, c_23, xoi, c_31]) dX5_breakGlass_56
        · obtain ⟨ti, hti, eti⟩ := m_in9 c_31
          have xti : ix x3 = ti := ix_of eti (by omega)
          refine lv_iload_n hx hb dX5_breakGlass_34 rfl (lv_at hl 1 rfl) ?_
          refine lv_iload_n hx hb dX5_breakGlass_35 rfl (lv_at hl 3 rfl) ?_
          refine lv_icmp_eq (tgt := 51) hx hb dX5_breakGlass_36 (by decide) (fun c_36 => ?_) (fun c_36 => ?_)
          · refine lv_aload_n hx hb dX5_breakGlass_51 rfl (lv_at hl 0 rfl) ?_
            refine lv_iconst (v := 1) hx hb dX5_breakGlass_52 rfl ?_
            have hF := z_free hD hS hA
            refine z_callWi (va_runV (As := [.int 1]) (rest := []) ⟨hx, hb, hml, hown, hts⟩ (kX5_fails l D cI cZ X S O (va_up V 0 0) _ 1) (cwV 1 hts gX5_breakGlass_X5_fails rfl rfl rfl (by decide +kernel) ⟨Nat.le_of_ble_eq_true rfl, Nat.le_of_ble_eq_true rfl⟩) (zW_preV 0 5 hK hP hD rfl rfl) rfl rfl hl.1 rfl (lv_room (Nat.le_of_ble_eq_true rfl)) dX5_breakGlass_53 ⟨Nat.zero_le _, Nat.zero_le _⟩) hS hF (fun H locs hP hD hS => ?_)
            have eS : (if m_bgK S x0 x1 x2 x3 = 0 then va_up S 5 (upd (S 5) (6 * ix x0 + ix x1) (V 1 + 60)) else S) = S := by simp [m_bgK, m_bgOk, bx_uu, bi, c_9, xpi, c_16, xri, c_23, xoi, c_31, xti, (eq_true c_36)]
            have eV : (va_up V 0 (m_bgK S x0 x1 x2 x3)) = (va_up (va_up V 0 0) 0 1) := by simp [m_bgK, m_bgOk, bx_uu, bi, c_9, xpi, c_16, xri, c_23, xoi, c_31, xti, (eq_true c_36)]
            exact z_wret hx hb hr hlocks (by rw [eS, eV]; exact hP) hK (by rw [eS, eV]; exact hD) hS (by simp [m_bgK, m_bgOk, bx_uu, bi, c_9, xpi, c_16, xri, c_23, xoi, c_31, xti, (eq_true c_36)]) dX5_breakGlass_56
          · refine lv_iload_n hx hb dX5_breakGlass_39 rfl (lv_at hl 1 rfl) ?_
            refine lv_iload hx hb dX5_breakGlass_40 (lv_at hl 4 rfl) ?_
            refine lv_icmp_eq (tgt := 51) hx hb dX5_breakGlass_42 (by decide) (fun c_42 => ?_) (fun c_42 => ?_)
            · refine lv_aload_n hx hb dX5_breakGlass_51 rfl (lv_at hl 0 rfl) ?_
              refine lv_iconst (v := 1) hx hb dX5_breakGlass_52 rfl ?_
              have hF := z_free hD hS hA
              refine z_callWi (va_runV (As := [.int 1]) (rest := []) ⟨hx, hb, hml, hown, hts⟩ (kX5_fails l D cI cZ X S O (va_up V 0 0) _ 1) (cwV 1 hts gX5_breakGlass_X5_fails rfl rfl rfl (by decide +kernel) ⟨Nat.le_of_ble_eq_true rfl, Nat.le_of_ble_eq_true rfl⟩) (zW_preV 0 5 hK hP hD rfl rfl) rfl rfl hl.1 rfl (lv_room (Nat.le_of_ble_eq_true rfl)) dX5_breakGlass_53 ⟨Nat.zero_le _, Nat.zero_le _⟩) hS hF (fun H locs hP hD hS => ?_)
              have eS : (if m_bgK S x0 x1 x2 x3 = 0 then va_up S 5 (upd (S 5) (6 * ix x0 + ix x1) (V 1 + 60)) else S) = S := by simp [m_bgK, m_bgOk, bx_uu, bi, c_9, xpi, c_16, xri, c_23, xoi, c_31, xti, c_36, (eq_true c_42)]
              have eV : (va_up V 0 (m_bgK S x0 x1 x2 x3)) = (va_up (va_up V 0 0) 0 1) := by simp [m_bgK, m_bgOk, bx_uu, bi, c_9, xpi, c_16, xri, c_23, xoi, c_31, xti, c_36, (eq_true c_42)]
              exact z_wret hx hb hr hlocks (by rw [eS, eV]; exact hP) hK (by rw [eS, eV]; exact hD) hS (by simp [m_bgK, m_bgOk, bx_uu, bi, c_9, xpi, c_16, xri, c_23, xoi, c_31, xti, c_36, (eq_true c_42)]) dX5_breakGlass_56
            · refine lv_iload_n hx hb dX5_breakGlass_45 rfl (lv_at hl 3 rfl) ?_
              refine lv_iload hx hb dX5_breakGlass_46 (lv_at hl 4 rfl) ?_
              refine lv_icmp_ne (tgt := 57) hx hb dX5_breakGlass_48 (by decide) (fun c_48 => ?_) (fun c_48 => ?_)
              · refine lv_aload_n hx hb dX5_breakGlass_57 rfl (lv_at hl 0 rfl) ?_
                refine lv_iload_n hx hb dX5_breakGlass_58 rfl (lv_at hl 3 rfl) ?_
                refine z_top (nI oi) eoi ?_
                refine lv_iload_n hx hb dX5_breakGlass_59 rfl (lv_at hl 2 rfl) ?_
                refine z_top (nI ri) eri ?_
                refine z_callR (W.runV (As := [.int (nI oi), .int (nI ri)]) (rest := []) ⟨hx, hb, hml, hown, hts⟩ (kX5_serves l D cI cZ X S O (va_up V 0 0) oi ri (by omega) (by omega)) (cwV 2 hts gX5_breakGlass_X5_serves rfl rfl rfl (by decide +kernel) ⟨Nat.le_of_ble_eq_true rfl, Nat.le_of_ble_eq_true rfl⟩) (zR_preV 0 5 hK hP rfl rfl) rfl rfl hl.1 rfl (lv_room (Nat.le_of_ble_eq_true rfl)) dX5_breakGlass_60 ⟨Nat.zero_le _, Nat.zero_le _⟩) ?_
                refine z_if_eq (tgt := 76) hx hb dX5_breakGlass_63 (by decide) (fun c_63 => ?_) (fun c_63 => ?_)
                · refine lv_aload_n hx hb dX5_breakGlass_76 rfl (lv_at hl 0 rfl) ?_
                  refine lv_iconst (v := 2) hx hb dX5_breakGlass_77 rfl ?_
                  have hF := z_free hD hS hA
                  refine z_callWi (va_runV (As := [.int 2]) (rest := []) ⟨hx, hb, hml, hown, hts⟩ (kX5_fails l D cI cZ X S O (va_up V 0 0) _ 2) (cwV 1 hts gX5_breakGlass_X5_fails rfl rfl rfl (by decide +kernel) ⟨Nat.le_of_ble_eq_true rfl, Nat.le_of_ble_eq_true rfl⟩) (zW_preV 0 5 hK hP hD rfl rfl) rfl rfl hl.1 rfl (lv_room (Nat.le_of_ble_eq_true rfl)) dX5_breakGlass_78 ⟨Nat.zero_le _, Nat.zero_le _⟩) hS hF (fun H locs hP hD hS => ?_)
                  have eS : (if m_bgK S x0 x1 x2 x3 = 0 then va_up S 5 (upd (S 5) (6 * ix x0 + ix x1) (V 1 + 60)) else S) = S := by simp [m_bgK, m_bgOk, bx_uu, bi, c_9, xpi, c_16, xri, c_23, xoi, c_31, xti, c_36, c_42, c_48, c_63]
                  have eV : (va_up V 0 (m_bgK S x0 x1 x2 x3)) = (va_up (va_up V 0 0) 0 2) := by simp [m_bgK, m_bgOk, bx_uu, bi, c_9, xpi, c_16, xri, c_23, xoi, c_31, xti, c_36, c_42, c_48, c_63]
                  exact z_wret hx hb hr hlocks (by rw [eS, eV]; exact hP) hK (by rw [eS, eV]; exact hD) hS (by simp [m_bgK, m_bgOk, bx_uu, bi, c_9, xpi, c_16, xri, c_23, xoi, c_31, xti, c_36, c_42, c_48, c_63]) dX5_breakGlass_81
                · refine lv_aload_n hx hb dX5_breakGlass_66 rfl (lv_at hl 0 rfl) ?_
                  refine lv_iload hx hb dX5_breakGlass_67 (lv_at hl 4 rfl) ?_
                  refine z_top (nI ti) eti ?_
                  refine lv_iload_n hx hb dX5_breakGlass_69 rfl (lv_at hl 2 rfl) ?_
                  refine z_top (nI ri) eri ?_
                  refine z_callR (W.runV (As := [.int (nI ti), .int (nI ri)]) (rest := []) ⟨hx, hb, hml, hown, hts⟩ (kX5_serves l D cI cZ X S O (va_up V 0 0) ti ri (by omega) (by omega)) (cwV 2 hts gX5_breakGlass_X5_serves rfl rfl rfl (by decide +kernel) ⟨Nat.le_of_ble_eq_true rfl, Nat.le_of_ble_eq_true rfl⟩) (zR_preV 0 5 hK hP rfl rfl) rfl rfl hl.1 rfl (lv_room (Nat.le_of_ble_eq_true rfl)) dX5_breakGlass_70 ⟨Nat.zero_le _, Nat.zero_le _⟩) ?_
                  refine z_if_ne (tgt := 82) hx hb dX5_breakGlass_73 (by decide) (fun c_73 => ?_) (fun c_73 => ?_)
                  · refine lv_aload_n hx hb dX5_breakGlass_82 rfl (lv_at hl 0 rfl) ?_
                    refine va_get (D := D) (ci := 5) (v := .ref (X 5)) (C := RX5) (T := TX5) (N := 17) hx hb hts i5 hown hK hP 0 rfl rfl 6 (by decide) fl_22 (fun _ h9 => h9) rfl dX5_breakGlass_83 ?_
                    refine lv_bipush (v := 6) hx hb dX5_breakGlass_86 (by decide) ?_
                    refine lv_iload_n hx hb dX5_breakGlass_88 rfl (lv_at hl 1 rfl) ?_
                    refine lv_imul hx hb dX5_breakGlass_89 ?_
                    refine lv_iload_n hx hb dX5_breakGlass_90 rfl (lv_at hl 2 rfl) ?_
                    refine lv_iadd hx hb dX5_breakGlass_91 ?_
                    refine z_top (nI (6 * pi + ri)) (by rw [epi, eri]; simp only [show (60 : Int32) = nI 60 from rfl, show (6 : Int32) = nI 6 from rfl, pk_mul, nI_add]) ?_
                    refine lv_aload_n hx hb dX5_breakGlass_92 rfl (lv_at hl 0 rfl) ?_
                    refine va_get (D := D) (ci := 5) (v := .int (V 1)) (C := RX5) (T := TX5) (N := 17) hx hb hts i5 hown hK hP 0 rfl rfl 1 (by decide) fl_82 (fun _ h9 => h9) rfl dX5_breakGlass_93 ?_
                    refine lv_bipush (v := 60) hx hb dX5_breakGlass_96 (by decide) ?_
                    refine lv_iadd hx hb dX5_breakGlass_98 ?_
                    refine z_iast (D := D) (j := 6 * pi + ri) (f := S 5) hx hb hK hP hD hS 5 0 rfl rfl (by omega) (by decide) dX5_breakGlass_99 (fun H locs hP hD hS => ?_)
                    have hP : va_P D vwCl (mW cI cZ X (va_up S 5 (upd (S 5) (6 * pi + ri) ((V 1) + 60))) O (va_up V 0 0)) H := hP
                    have hD : va_D A (mW cI cZ X (va_up S 5 (upd (S 5) (6 * pi + ri) ((V 1) + 60))) O (va_up V 0 0)) := hD
                    refine lv_aload_n hx hb dX5_breakGlass_100 rfl (lv_at hl 0 rfl) ?_
                    refine va_get (D := D) (ci := 5) (v := .int (V 1)) (C := RX5) (T := TX5) (N := 17) hx hb hts i5 hown hK hP 0 rfl rfl 1 (by decide) fl_82 (fun _ h9 => h9) rfl dX5_breakGlass_101 ?_
                    refine lv_bipush (v := 60) hx hb dX5_breakGlass_104 (by decide) ?_
                    refine lv_iadd hx hb dX5_breakGlass_106 ?_
                    have eS : (if m_bgK S x0 x1 x2 x3 = 0 then va_up S 5 (upd (S 5) (6 * ix x0 + ix x1) (V 1 + 60)) else S) = (va_up S 5 (upd (S 5) (6 * pi + ri) ((V 1) + 60))) := by simp [m_bgK, m_bgOk, bx_uu, bi, c_9, xpi, c_16, xri, c_23, xoi, c_31, xti, c_36, c_42, c_48, c_63, c_73]
                    have eV : (va_up V 0 (m_bgK S x0 x1 x2 x3)) = (va_up V 0 0) := by simp [m_bgK, m_bgOk, bx_uu, bi, c_9, xpi, c_16, xri, c_23, xoi, c_31, xti, c_36, c_42, c_48, c_63, c_73]
                    exact z_wret hx hb hr hlocks (by rw [eS, eV]; exact hP) hK (by rw [eS, eV]; exact hD) hS (by simp [m_bgK, m_bgOk, bx_uu, bi, c_9, xpi, c_16, xri, c_23, xoi, c_31, xti, c_36, c_42, c_48, c_63, c_73]) dX5_breakGlass_107
                  · refine lv_aload_n hx hb dX5_breakGlass_76 rfl (lv_at hl 0 rfl) ?_
                    refine lv_iconst (v := 2) hx hb dX5_breakGlass_77 rfl ?_
                    have hF := z_free hD hS hA
                    refine z_callWi (va_runV (As := [.int 2]) (rest := []) ⟨hx, hb, hml, hown, hts⟩ (kX5_fails l D cI cZ X S O (va_up V 0 0) _ 2) (cwV 1 hts gX5_breakGlass_X5_fails rfl rfl rfl (by decide +kernel) ⟨Nat.le_of_ble_eq_true rfl, Nat.le_of_ble_eq_true rfl⟩) (zW_preV 0 5 hK hP hD rfl rfl) rfl rfl hl.1 rfl (lv_room (Nat.le_of_ble_eq_true rfl)) dX5_breakGlass_78 ⟨Nat.zero_le _, Nat.zero_le _⟩) hS hF (fun H locs hP hD hS => ?_)
                    have eS : (if m_bgK S x0 x1 x2 x3 = 0 then va_up S 5 (upd (S 5) (6 * ix x0 + ix x1) (V 1 + 60)) else S) = S := by simp [m_bgK, m_bgOk, bx_uu, bi, c_9, xpi, c_16, xri, c_23, xoi, c_31, xti, c_36, c_42, c_48, c_63, c_73]
                    have eV : (va_up V 0 (m_bgK S x0 x1 x2 x3)) = (va_up (va_up V 0 0) 0 2) := by simp [m_bgK, m_bgOk, bx_uu, bi, c_9, xpi, c_16, xri, c_23, xoi, c_31, xti, c_36, c_42, c_48, c_63, c_73]
                    exact z_wret hx hb hr hlocks (by rw [eS, eV]; exact hP) hK (by rw [eS, eV]; exact hD) hS (by simp [m_bgK, m_bgOk, bx_uu, bi, c_9, xpi, c_16, xri, c_23, xoi, c_31, xti, c_36, c_42, c_48, c_63, c_73]) dX5_breakGlass_81
              · refine lv_aload_n hx hb dX5_breakGlass_51 rfl (lv_at hl 0 rfl) ?_
                refine lv_iconst (v := 1) hx hb dX5_breakGlass_52 rfl ?_
                have hF := z_free hD hS hA
                refine z_callWi (va_runV (As := [.int 1]) (rest := []) ⟨hx, hb, hml, hown, hts⟩ (kX5_fails l D cI cZ X S O (va_up V 0 0) _ 1) (cwV 1 hts gX5_breakGlass_X5_fails rfl rfl rfl (by decide +kernel) ⟨Nat.le_of_ble_eq_true rfl, Nat.le_of_ble_eq_true rfl⟩) (zW_preV 0 5 hK hP hD rfl rfl) rfl rfl hl.1 rfl (lv_room (Nat.le_of_ble_eq_true rfl)) dX5_breakGlass_53 ⟨Nat.zero_le _, Nat.zero_le _⟩) hS hF (fun H locs hP hD hS => ?_)
                have eS : (if m_bgK S x0 x1 x2 x3 = 0 then va_up S 5 (upd (S 5) (6 * ix x0 + ix x1) (V 1 + 60)) else S) = S := by simp [m_bgK, m_bgOk, bx_uu, bi, c_9, xpi, c_16, xri, c_23, xoi, c_31, xti, c_36, c_42, (eq_true c_48)]
                have eV : (va_up V 0 (m_bgK S x0 x1 x2 x3)) = (va_up (va_up V 0 0) 0 1) := by simp [m_bgK, m_bgOk, bx_uu, bi, c_9, xpi, c_16, xri, c_23, xoi, c_31, xti, c_36, c_42, (eq_true c_48)]
                exact z_wret hx hb hr hlocks (by rw [eS, eV]; exact hP) hK (by rw [eS, eV]; exact hD) hS (by simp [m_bgK, m_bgOk, bx_uu, bi, c_9, xpi, c_16, xri, c_23, xoi, c_31, xti, c_36, c_42, (eq_true c_48)]) dX5_breakGlass_56
