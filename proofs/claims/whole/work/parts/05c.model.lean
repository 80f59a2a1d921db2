set_option maxHeartbeats 4000000 in
set_option maxRecDepth 100000 in
theorem kX5_keeps (l : Launch) (D : va_G) (cI cZ : ClassId) (X : Nat → Nat) (S : Nat → Nat → Int32) (O : Nat → Bool) (V : Nat → Int32) (ai : Nat) (ti : Nat) (hai : ai < 4) (hti : ti < 240) : Met l yX5_keeps wsX5_keeps ({ frames := 0, cells := 0, slots := 0, locals := 0 } : Room) (zR D (tyl cI cZ) (mW cI cZ X S O V) [.ref (X 0), .int (nI ai), .int (nI ti)]) (QcRead (bi (m_keeps S V ai ti))) 0 0 (fun _ => False) := by
  refine Met.ofW (cc := cX5_keeps) (maxL := 3) (ret := (some .boolean)) (by decide) rfl ?_
  intro p e s m args below meth c s₁ B hml hv
  obtain ⟨rfl, hP, hK⟩ := hv
  have hx := B.exec
  have hb := B.bytes
  have hr := B.returns
  have hts := atoms_spec (ws := wsX5_keeps) B.pre
  have hown : s.vm.findClass RX5 = some m.cls := findClass_of_methodNamed B.named
  have hlocks := B.notSynchronized
  have i5 : ∀ w ∈ u_ws RX5 TX5 17, w ∈ wsX5_keeps := by decide +kernel
  have fl_41 := hts (.fieldLink RX5 41 "SignOnHouseModel" "cache" "[I") (by decide +kernel)
  have fl_44 := hts (.fieldLink RX5 44 "SignOnHouseModel" "kept" "[I") (by decide +kernel)
  have fl_82 := hts (.fieldLink RX5 82 "SignOnHouseModel" "now" "I") (by decide +kernel)
  have hl := lv_entry ([.ref (X 0), .int (nI ai), .int (nI ti)]) (n := 3) (Nat.le_of_ble_eq_true rfl)
  rw [lg_entry_eq]
  generalize (lg_sl ([.ref (X 0), .int (nI ai), .int (nI ti)]) ++ List.replicate (3 - (lg_sl ([.ref (X 0), .int (nI ai), .int (nI ti)])).length) Slot.unset).toArray = ls at hl ⊢
  have hl : lv_has ls 3 [(0, .ref (X 0)), (1, .int (nI ai)), (2, .int (nI ti))] := hl
  refine lv_aload_n hx hb dX5_keeps_0 rfl (lv_at hl 0 rfl) ?_
  refine va_get (D := D) (ci := 5) (v := .ref (X 12)) (C := RX5) (T := TX5) (N := 17) hx hb hts i5 hown hK hP 0 rfl rfl 16 (by decide) fl_44 (fun _ h9 => h9) rfl dX5_keeps_1 ?_
  refine lv_iload_n hx hb dX5_keeps_4 rfl (lv_at hl 2 rfl) ?_
  refine z_iald (D := D) (j := ti) (f := S 12) hx hb hK hP 12 0 rfl rfl (by omega) (by decide) dX5_keeps_5 ?_
  refine lv_iconst (v := (-1)) hx hb dX5_keeps_6 rfl ?_
  refine lv_icmp_eq (tgt := 36) hx hb dX5_keeps_7 (by decide) (fun c_7 => ?_) (fun c_7 => ?_)
  · refine lv_iconst (v := 0) hx hb dX5_keeps_36 rfl ?_
    exact z_zret hx hb hr hlocks (by simp [m_keeps, bi, (eq_true c_7)]) dX5_keeps_37
  · refine lv_aload_n hx hb dX5_keeps_10 rfl (lv_at hl 0 rfl) ?_
    refine va_get (D := D) (ci := 5) (v := .int (V 1)) (C := RX5) (T := TX5) (N := 17) hx hb hts i5 hown hK hP 0 rfl rfl 1 (by decide) fl_82 (fun _ h9 => h9) rfl dX5_keeps_11 ?_
    refine lv_aload_n hx hb dX5_keeps_14 rfl (lv_at hl 0 rfl) ?_
    refine va_get (D := D) (ci := 5) (v := .ref (X 12)) (C := RX5) (T := TX5) (N := 17) hx hb hts i5 hown hK hP 0 rfl rfl 16 (by decide) fl_44 (fun _ h9 => h9) rfl dX5_keeps_15 ?_
    refine lv_iload_n hx hb dX5_keeps_18 rfl (lv_at hl 2 rfl) ?_
    refine z_iald (D := D) (j := ti) (f := S 12) hx hb hK hP 12 0 rfl rfl (by omega) (by decide) dX5_keeps_19 ?_
    refine lv_iconst (v := 2) hx hb dX5_keeps_20 rfl ?_
    refine lv_idiv hx hb dX5_keeps_21 (by decide) ?_
    refine lv_isub hx hb dX5_keeps_22 ?_
    refine lv_aload_n hx hb dX5_keeps_23 rfl (lv_at hl 0 rfl) ?_
    refine va_get (D := D) (ci := 5) (v := .ref (X 11)) (C := RX5) (T := TX5) (N := 17) hx hb hts i5 hown hK hP 0 rfl rfl 15 (by decide) fl_41 (fun _ h9 => h9) rfl dX5_keeps_24 ?_
    refine lv_iload_n hx hb dX5_keeps_27 rfl (lv_at hl 1 rfl) ?_
    refine z_iald (D := D) (j := ai) (f := S 11) hx hb hK hP 11 0 rfl rfl (by omega) (by decide) dX5_keeps_28 ?_
    refine z_sel_icmp_ge hx hb dX5_keeps_29 dX5_keeps_32 dX5_keeps_33 dX5_keeps_36 ?_
    exact z_zret hx hb hr hlocks (by simp [m_keeps, bi, c_7]) dX5_keeps_37

set_option maxHeartbeats 4000000 in
set_option maxRecDepth 100000 in
theorem kX5_drops (l : Launch) (D : va_G) (cI cZ : ClassId) (X : Nat → Nat) (S : Nat → Nat → Int32) (O : Nat → Bool) (V : Nat → Int32) (sz : Nat) (ai : Nat) (hai : ai < 4) : Met l yX5_drops wsX5_drops ({ frames := 1, cells := 0, slots := 0, locals := 22 } : Room) (zW D (tyl cI cZ) (mW cI cZ X S O V) sz [.ref (X 0), .int (nI ai)]) (zQv D (tyl cI cZ) (mW cI cZ X (m_drS S V ai 60) O V) (va_A (mW cI cZ X S O V) sz)) 0 0 (va_A (mW cI cZ X S O V) sz) := by
  refine Met.ofW (cc := cX5_drops) (maxL := 3) (ret := none) (by decide) rfl ?_
  intro p e s m args below meth c s₁ B hml hv
  obtain ⟨rfl, hsz, hP, hK, hD0⟩ := hv
  have hx := B.exec
  have hb := B.bytes
  have hr := B.returns
  have hts := atoms_spec (ws := wsX5_drops) B.pre
  have hown : s.vm.findClass RX5 = some m.cls := findClass_of_methodNamed B.named
  have hlocks := B.notSynchronized
  subst hsz
  have hD := hD0.self (sz := s.heap.size)
  generalize hAe : va_A (mW cI cZ X S O V) s.heap.size = A at hD ⊢
  have hA : ∀ q : Nat, s.heap.size ≤ q → A q := fun q h => by rw [← hAe]; exact Or.inr h
  have hS : va_S A s.heap s.heap [] := va_S.rf
  have i5 : ∀ w ∈ u_ws RX5 TX5 17, w ∈ wsX5_drops := by decide +kernel
  have fl_44 := hts (.fieldLink RX5 44 "SignOnHouseModel" "kept" "[I") (by decide +kernel)
  have hl := lv_entry ([.ref (X 0), .int (nI ai)]) (n := 3) (Nat.le_of_ble_eq_true rfl)
  rw [lg_entry_eq]
  generalize (lg_sl ([.ref (X 0), .int (nI ai)]) ++ List.replicate (3 - (lg_sl ([.ref (X 0), .int (nI ai)])).length) Slot.unset).toArray = ls at hl ⊢
  have hl : lv_has ls 3 [(0, .ref (X 0)), (1, .int (nI ai))] := hl
  refine lv_bipush (v := 60) hx hb dX5_drops_0 (by decide) ?_
  refine lv_iload_n hx hb dX5_drops_2 rfl (lv_at hl 1 rfl) ?_
  refine lv_imul hx hb dX5_drops_3 ?_
  refine z_top (nI (60 * ai)) (by simp only [show (60 : Int32) = nI 60 from rfl, show (6 : Int32) = nI 6 from rfl, pk_mul, nI_add]) ?_
  refine lv_istore_n (lv' := [(2, .int (nI (60 * ai))), (0, .ref (X 0)), (1, .int (nI ai))]) hx hb dX5_drops_4 rfl hl (by decide) rfl (fun ls hl => ?_)
  refine z_loopW (N := 60) (nL := 3) (Lc := (fun k => [(2, .int (nI (60 * ai + k))), (0, .ref (X 0)), (1, .int (nI ai))])) (Wd := fun k => mW cI cZ X (m_drS S V ai k) O V) (lv_sub hl [0, 1, 2] rfl) hP hD hS (fun H locs ls hP hD hS hl => ?_) (fun k H locs ls hk hP hD hS hl ih => ?_)
  · have hP : va_P D vwCl (mW cI cZ X (m_drS S V ai 60) O V) H := hP
    have hD : va_D A (mW cI cZ X (m_drS S V ai 60) O V) := hD
    have hl : lv_has ls 3 [(2, .int (nI (60 * ai + 60))), (0, .ref (X 0)), (1, .int (nI ai))] := hl
    refine lv_iload_n hx hb dX5_drops_5 rfl (lv_at hl 0 rfl) ?_
    refine lv_bipush (v := 60) hx hb dX5_drops_6 (by decide) ?_
    refine lv_iload_n hx hb dX5_drops_8 rfl (lv_at hl 2 rfl) ?_
    refine lv_imul hx hb dX5_drops_9 ?_
    refine z_top (nI (60 * ai)) (by simp only [show (60 : Int32) = nI 60 from rfl, show (6 : Int32) = nI 6 from rfl, pk_mul, nI_add]) ?_
    refine lv_bipush (v := 60) hx hb dX5_drops_10 (by decide) ?_
    refine lv_iadd hx hb dX5_drops_12 ?_
    refine z_top (nI (60 * ai + 60)) (by simp only [show (60 : Int32) = nI 60 from rfl, show (6 : Int32) = nI 6 from rfl, pk_mul, nI_add]) ?_
    refine z_ge_t (tgt := 47) (nI_le (by omega) (by omega)) hx hb dX5_drops_13 (by decide) ?_
    exact z_wvret hx hb hr hlocks hP hK hD hS dX5_drops_47
  · have hP : va_P D vwCl (mW cI cZ X (m_drS S V ai k) O V) H := hP
    have hD : va_D A (mW cI cZ X (m_drS S V ai k) O V) := hD
    have hl : lv_has ls 3 [(2, .int (nI (60 * ai + k))), (0, .ref (X 0)), (1, .int (nI ai))] := hl
    have ih_5 := ih
    refine lv_iload_n hx hb dX5_drops_5 rfl (lv_at hl 0 rfl) ?_
    refine lv_bipush (v := 60) hx hb dX5_drops_6 (by decide) ?_
    refine lv_iload_n hx hb dX5_drops_8 rfl (lv_at hl 2 rfl) ?_
    refine lv_imul hx hb dX5_drops_9 ?_
    refine z_top (nI (60 * ai)) (by simp only [show (60 : Int32) = nI 60 from rfl, show (6 : Int32) = nI 6 from rfl, pk_mul, nI_add]) ?_
    refine lv_bipush (v := 60) hx hb dX5_drops_10 (by decide) ?_
    refine lv_iadd hx hb dX5_drops_12 ?_
    refine z_top (nI (60 * ai + 60)) (by simp only [show (60 : Int32) = nI 60 from rfl, show (6 : Int32) = nI 6 from rfl, pk_mul, nI_add]) ?_
    refine z_ge_f (tgt := 47) (nI_ge (by omega) (by omega)) hx hb dX5_drops_13 (by decide) ?_
    refine lv_aload_n hx hb dX5_drops_16 rfl (lv_at hl 1 rfl) ?_
    refine va_get (D := D) (ci := 5) (v := .ref (X 12)) (C := RX5) (T := TX5) (N := 17) hx hb hts i5 hown hK hP 0 rfl rfl 16 (by decide) fl_44 (fun _ h9 => h9) rfl dX5_drops_17 ?_
    refine lv_iload_n hx hb dX5_drops_20 rfl (lv_at hl 0 rfl) ?_
    refine lv_aload_n hx hb dX5_drops_21 rfl (lv_at hl 1 rfl) ?_
    refine lv_iload_n hx hb dX5_drops_22 rfl (lv_at hl 2 rfl) ?_
    refine lv_iload_n hx hb dX5_drops_23 rfl (lv_at hl 0 rfl) ?_
    refine z_callR (W.runV (As := [.int (nI ai), .int (nI (60 * ai + k))]) (rest := [.int (nI (60 * ai + k)), .ref (X 12)]) ⟨hx, hb, hml, hown, hts⟩ (kX5_keeps l D cI cZ X (m_drS S V ai k) O V ai (60 * ai + k) (by omega) (by omega)) (cwV 2 hts gX5_drops_X5_keeps rfl rfl rfl (by decide +kernel) ⟨Nat.le_of_ble_eq_true rfl, Nat.le_of_ble_eq_true rfl⟩) (zR_preV 0 5 hK hP rfl rfl) rfl rfl hl.1 rfl (lv_room (Nat.le_of_ble_eq_true rfl)) dX5_drops_24 ⟨Nat.zero_le _, Nat.zero_le _⟩) ?_
    refine z_if_eq (tgt := 39) hx hb dX5_drops_27 (by decide) (fun c_27 => ?_) (fun c_27 => ?_)
    · refine lv_iconst (v := (-1)) hx hb dX5_drops_39 rfl ?_
      refine z_iast (D := D) (j := 60 * ai + k) (f := (m_drS S V ai k) 12) hx hb hK hP hD hS 12 0 rfl rfl (by omega) (by decide) dX5_drops_40 (fun H locs hP hD hS => ?_)
      have hP : va_P D vwCl (mW cI cZ X (va_up (m_drS S V ai k) 12 (upd ((m_drS S V ai k) 12) (60 * ai + k) (-1))) O V) H := hP
      have hD : va_D A (mW cI cZ X (va_up (m_drS S V ai k) 12 (upd ((m_drS S V ai k) 12) (60 * ai + k) (-1))) O V) := hD
      refine lv_iinc (v := nI (60 * ai + k + 1)) (lv' := [(2, .int (nI (60 * ai + k + 1))), (0, .ref (X 0)), (1, .int (nI ai))]) hx hb dX5_drops_41 hl (k := 0) rfl (nI_1 _) (by decide) rfl (fun ls hl => ?_)
      refine lv_goto (tgt := 5) hx hb dX5_drops_44 (by decide) ?_
      have eS : (m_drS S V ai (k + 1)) = (va_up (m_drS S V ai k) 12 (upd ((m_drS S V ai k) 12) (60 * ai + k) (-1))) := by simp [m_drS, bi, c_27]
      exact ih_5 H locs ls (by show va_P D vwCl (mW cI cZ X (m_drS S V ai (k + 1)) O V) H; rw [eS]; exact hP) (by show va_D A (mW cI cZ X (m_drS S V ai (k + 1)) O V); rw [eS]; exact hD) hS (by show lv_has ls 3 [(2, .int (nI (60 * ai + (k + 1)))), (0, .ref (X 0)), (1, .int (nI ai))]; exact lv_sub hl [0, 1, 2] rfl)
    · refine lv_aload_n hx hb dX5_drops_30 rfl (lv_at hl 1 rfl) ?_
      refine va_get (D := D) (ci := 5) (v := .ref (X 12)) (C := RX5) (T := TX5) (N := 17) hx hb hts i5 hown hK hP 0 rfl rfl 16 (by decide) fl_44 (fun _ h9 => h9) rfl dX5_drops_31 ?_
      refine lv_iload_n hx hb dX5_drops_34 rfl (lv_at hl 0 rfl) ?_
      refine z_iald (D := D) (j := 60 * ai + k) (f := (m_drS S V ai k) 12) hx hb hK hP 12 0 rfl rfl (by omega) (by decide) dX5_drops_35 ?_
      refine lv_goto (tgt := 40) hx hb dX5_drops_36 (by decide) ?_
      refine z_iast (D := D) (j := 60 * ai + k) (f := (m_drS S V ai k) 12) hx hb hK hP hD hS 12 0 rfl rfl (by omega) (by decide) dX5_drops_40 (fun H locs hP hD hS => ?_)
      have hP : va_P D vwCl (mW cI cZ X (va_up (m_drS S V ai k) 12 (upd ((m_drS S V ai k) 12) (60 * ai + k) (((m_drS S V ai k) 12) (60 * ai + k)))) O V) H := hP
      have hD : va_D A (mW cI cZ X (va_up (m_drS S V ai k) 12 (upd ((m_drS S V ai k) 12) (60 * ai + k) (((m_drS S V ai k) 12) (60 * ai + k)))) O V) := hD
      refine lv_iinc (v := nI (60 * ai + k + 1)) (lv' := [(2, .int (nI (60 * ai + k + 1))), (0, .ref (X 0)), (1, .int (nI ai))]) hx hb dX5_drops_41 hl (k := 0) rfl (nI_1 _) (by decide) rfl (fun ls hl => ?_)
      refine lv_goto (tgt := 5) hx hb dX5_drops_44 (by decide) ?_
      have eS : (m_drS S V ai (k + 1)) = (va_up (m_drS S V ai k) 12 (upd ((m_drS S V ai k) 12) (60 * ai + k) (((m_drS S V ai k) 12) (60 * ai + k)))) := by simp [m_drS, bi, c_27]
      exact ih_5 H locs ls (by show va_P D vwCl (mW cI cZ X (m_drS S V ai (k + 1)) O V) H; rw [eS]; exact hP) (by show va_D A (mW cI cZ X (m_drS S V ai (k + 1)) O V); rw [eS]; exact hD) hS (by show lv_has ls 3 [(2, .int (nI (60 * ai + (k + 1)))), (0, .ref (X 0)), (1, .int (nI ai))]; exact lv_sub hl [0, 1, 2] rfl)

set_option maxHeartbeats 4000000 in
set_option maxRecDepth 100000 in
theorem kX5_setCache (l : Launch) (D : va_G) (cI cZ : ClassId) (X : Nat → Nat) (S : Nat → Nat → Int32) (O : Nat → Bool) (V : Nat → Int32) (sz : Nat) (x0 : Int32) (x1 : Int32) : Met l yX5_setCache wsX5_setCache ({ frames := 2, cells := 0, slots := 0, locals := 44 } : Room) (zW D (tyl cI cZ) (mW cI cZ X S O V) sz [.ref (X 0), .int x0, .int x1]) (zQi D (tyl cI cZ) (mW cI cZ X (if m_scOk x0 x1 = true then m_scS S (va_up V 0 0) (ix x0) x1 else S) O (va_up V 0 (if m_scOk x0 x1 = true then 0 else 1))) (if m_scOk x0 x1 = true then S 11 (ix x0) else 0) (va_A (mW cI cZ X S O V) sz)) 0 0 (va_A (mW cI cZ X S O V) sz) := by
  refine Met.ofW (cc := cX5_setCache) (maxL := 4) (ret := (some .int)) (by decide) rfl ?_
  intro p e s m args below meth c s₁ B hml hv
  obtain ⟨rfl, hsz, hP, hK, hD0⟩ := hv
  have hx := B.exec
  have hb := B.bytes
  have hr := B.returns
  have hts := atoms_spec (ws := wsX5_setCache) B.pre
  have hown : s.vm.findClass RX5 = some m.cls := findClass_of_methodNamed B.named
  have hlocks := B.notSynchronized
  subst hsz
  have hD := hD0.self (sz := s.heap.size)
  generalize hAe : va_A (mW cI cZ X S O V) s.heap.size = A at hD ⊢
  have hA : ∀ q : Nat, s.heap.size ≤ q → A q := fun q h => by rw [← hAe]; exact Or.inr h
  have hS : va_S A s.heap s.heap [] := va_S.rf
  have i5 : ∀ w ∈ u_ws RX5 TX5 17, w ∈ wsX5_setCache := by decide +kernel
  have fl_41 := hts (.fieldLink RX5 41 "SignOnHouseModel" "cache" "[I") (by decide +kernel)
  have fl_47 := hts (.fieldLink RX5 47 "SignOnHouseModel" "thrown" "I") (by decide +kernel)
  have hl := lv_entry ([.ref (X 0), .int x0, .int x1]) (n := 4) (Nat.le_of_ble_eq_true rfl)
  rw [lg_entry_eq]
  generalize (lg_sl ([.ref (X 0), .int x0, .int x1]) ++ List.replicate (4 - (lg_sl ([.ref (X 0), .int x0, .int x1])).length) Slot.unset).toArray = ls at hl ⊢
  have hl : lv_has ls 4 [(0, .ref (X 0)), (1, .int x0), (2, .int x1)] := hl
  refine lv_aload_n hx hb dX5_setCache_0 rfl (lv_at hl 0 rfl) ?_
  refine lv_iconst (v := 0) hx hb dX5_setCache_1 rfl ?_
  refine va_put (D := D) (ci := 5) (v := .int 0) (ty := .int) (C := RX5) (T := TX5) (N := 17) hx hb hts i5 tyX5 tyX5_ok nmX5 hown hK hP hD hS 0 rfl rfl 0 (by decide) fl_47 (fun _ h9 => h9) rfl (by decide +kernel) rfl rfl (Nat.le_of_ble_eq_true rfl) dX5_setCache_2 (fun H locs hP hD hS => ?_)
  have hP : va_P D vwCl (mW cI cZ X S O (va_up V 0 0)) H := hP
  have hD : va_D A (mW cI cZ X S O (va_up V 0 0)) := hD
  refine lv_iload_n hx hb dX5_setCache_5 rfl (lv_at hl 1 rfl) ?_
  refine z_callR (W.runS (As := [.int x0]) (rest := []) ⟨hx, hb, hml, hown, hts⟩ (kX5_isApp l x0) (va_cwS 1 hts gX5_setCache_X5_isApp rfl rfl rfl (by decide +kernel) ⟨Nat.le_of_ble_eq_true rfl, Nat.le_of_ble_eq_true rfl⟩) zP_pre rfl rfl hl.1 rfl (lv_room (Nat.le_of_ble_eq_true rfl)) dX5_setCache_6 ⟨Nat.zero_le _, Nat.zero_le _⟩) ?_
  refine z_if_eq (tgt := 22) hx hb dX5_setCache_9 (by decide) (fun c_9 => ?_) (fun c_9 => ?_)
  · refine lv_aload_n hx hb dX5_setCache_22 rfl (lv_at hl 0 rfl) ?_
    refine lv_iconst (v := 1) hx hb dX5_setCache_23 rfl ?_
    have hF := z_free hD hS hA
    refine z_callWi (va_runV (As := [.int 1]) (rest := []) ⟨hx, hb, hml, hown, hts⟩ (kX5_fails l D cI cZ X S O (va_up V 0 0) _ 1) (cwV 1 hts gX5_setCache_X5_fails rfl rfl rfl (by decide +kernel) ⟨Nat.le_of_ble_eq_true rfl, Nat.le_of_ble_eq_true rfl⟩) (zW_preV 0 5 hK hP hD rfl rfl) rfl rfl hl.1 rfl (lv_room (Nat.le_of_ble_eq_true rfl)) dX5_setCache_24 ⟨Nat.zero_le _, Nat.zero_le _⟩) hS hF (fun H locs hP hD hS => ?_)
    have eS : (if m_scOk x0 x1 = true then m_scS S (va_up V 0 0) (ix x0) x1 else S) = S := by simp [m_scOk, m_scS, bx_uu, bi, c_9]
    have eV : (va_up V 0 (if m_scOk x0 x1 = true then 0 else 1)) = (va_up (va_up V 0 0) 0 1) := by simp [m_scOk, m_scS, bx_uu, bi, c_9]
    exact z_wret hx hb hr hlocks (by rw [eS, eV]; exact hP) hK (by rw [eS, eV]; exact hD) hS (by simp [m_scOk, m_scS, bx_uu, bi, c_9]) dX5_setCache_27
  · obtain ⟨ai, hai, eai⟩ := m_in3 c_9
    have xai : ix x0 = ai := ix_of eai (by omega)
    refine lv_iload_n hx hb dX5_setCache_12 rfl (lv_at hl 2 rfl) ?_
    refine lv_iconst (v := 0) hx hb dX5_setCache_13 rfl ?_
    refine lv_bipush (v := 60) hx hb dX5_setCache_14 (by decide) ?_
    refine z_callR (W.runS (As := [.int x1, .int 0, .int 60]) (rest := []) ⟨hx, hb, hml, hown, hts⟩ (kX5_in l x1 0 60) (va_cwS 3 hts gX5_setCache_X5_in rfl rfl rfl (by decide +kernel) ⟨Nat.le_of_ble_eq_true rfl, Nat.le_of_ble_eq_true rfl⟩) zP_pre rfl rfl hl.1 rfl (lv_room (Nat.le_of_ble_eq_true rfl)) dX5_setCache_16 ⟨Nat.zero_le _, Nat.zero_le _⟩) ?_
    refine z_if_ne (tgt := 28) hx hb dX5_setCache_19 (by decide) (fun c_19 => ?_) (fun c_19 => ?_)
    · refine lv_aload_n hx hb dX5_setCache_28 rfl (lv_at hl 0 rfl) ?_
      refine va_get (D := D) (ci := 5) (v := .ref (X 11)) (C := RX5) (T := TX5) (N := 17) hx hb hts i5 hown hK hP 0 rfl rfl 15 (by decide) fl_41 (fun _ h9 => h9) rfl dX5_setCache_29 ?_
      refine lv_iload_n hx hb dX5_setCache_32 rfl (lv_at hl 1 rfl) ?_
      refine z_top (nI ai) eai ?_
      refine z_iald (D := D) (j := ai) (f := S 11) hx hb hK hP 11 0 rfl rfl (by omega) (by decide) dX5_setCache_33 ?_
      refine lv_istore_n (lv' := [(3, .int (S 11 ai)), (0, .ref (X 0)), (1, .int x0), (2, .int x1)]) hx hb dX5_setCache_34 rfl hl (by decide) rfl (fun ls hl => ?_)
      refine lv_aload_n hx hb dX5_setCache_35 rfl (lv_at hl 1 rfl) ?_
      refine lv_iload_n hx hb dX5_setCache_36 rfl (lv_at hl 2 rfl) ?_
      refine z_top (nI ai) eai ?_
      have hF := z_free hD hS hA
      refine z_callWv (va_runV (As := [.int (nI ai)]) (rest := []) ⟨hx, hb, hml, hown, hts⟩ (kX5_drops l D cI cZ X S O (va_up V 0 0) _ ai (by omega)) (cwV 1 hts gX5_setCache_X5_drops rfl rfl rfl (by decide +kernel) ⟨Nat.le_of_ble_eq_true rfl, Nat.le_of_ble_eq_true rfl⟩) (zW_preV 0 5 hK hP hD rfl rfl) rfl rfl hl.1 rfl (lv_room (Nat.le_of_ble_eq_true rfl)) dX5_setCache_37 ⟨Nat.zero_le _, Nat.zero_le _⟩) hS hF (fun H locs hP hD hS => ?_)
      obtain ⟨S1, hS1⟩ : ∃ z, z = m_drS S (va_up V 0 0) ai 60 := ⟨_, rfl⟩
      rw [← hS1] at hP hD
      refine lv_aload_n hx hb dX5_setCache_40 rfl (lv_at hl 1 rfl) ?_
      refine va_get (D := D) (ci := 5) (v := .ref (X 11)) (C := RX5) (T := TX5) (N := 17) hx hb hts i5 hown hK hP 0 rfl rfl 15 (by decide) fl_41 (fun _ h9 => h9) rfl dX5_setCache_41 ?_
      refine lv_iload_n hx hb dX5_setCache_44 rfl (lv_at hl 2 rfl) ?_
      refine lv_iload_n hx hb dX5_setCache_45 rfl (lv_at hl 3 rfl) ?_
      refine z_top2 (nI ai) eai ?_
      refine z_iast (D := D) (j := ai) (f := S1 11) hx hb hK hP hD hS 11 0 rfl rfl (by omega) (by decide) dX5_setCache_46 (fun H locs hP hD hS => ?_)
      have hP : va_P D vwCl (mW cI cZ X (va_up S1 11 (upd (S1 11) ai x1)) O (va_up V 0 0)) H := hP
      have hD : va_D A (mW cI cZ X (va_up S1 11 (upd (S1 11) ai x1)) O (va_up V 0 0)) := hD
      refine lv_aload_n hx hb dX5_setCache_47 rfl (lv_at hl 1 rfl) ?_
      refine lv_iload_n hx hb dX5_setCache_48 rfl (lv_at hl 2 rfl) ?_
      refine z_top (nI ai) eai ?_
      have hF := z_free hD hS hA
      refine z_callWv (va_runV (As := [.int (nI ai)]) (rest := []) ⟨hx, hb, hml, hown, hts⟩ (kX5_drops l D cI cZ X (va_up S1 11 (upd (S1 11) ai x1)) O (va_up V 0 0) _ ai (by omega)) (cwV 1 hts gX5_setCache_X5_drops rfl rfl rfl (by decide +kernel) ⟨Nat.le_of_ble_eq_true rfl, Nat.le_of_ble_eq_true rfl⟩) (zW_preV 0 5 hK hP hD rfl rfl) rfl rfl hl.1 rfl (lv_room (Nat.le_of_ble_eq_true rfl)) dX5_setCache_49 ⟨Nat.zero_le _, Nat.zero_le _⟩) hS hF (fun H locs hP hD hS => ?_)
      refine lv_iload_n hx hb dX5_setCache_52 rfl (lv_at hl 0 rfl) ?_
      have eS : (if m_scOk x0 x1 = true then m_scS S (va_up V 0 0) (ix x0) x1 else S) = (m_drS (va_up S1 11 (upd (S1 11) ai x1)) (va_up V 0 0) ai 60) := by simp [m_scOk, m_scS, bx_uu, bi, c_9, xai, c_19, hS1]
      have eV : (va_up V 0 (if m_scOk x0 x1 = true then 0 else 1)) = (va_up V 0 0) := by simp [m_scOk, m_scS, bx_uu, bi, c_9, xai, c_19, hS1]
      exact z_wret hx hb hr hlocks (by rw [eS, eV]; exact hP) hK (by rw [eS, eV]; exact hD) hS (by simp [m_scOk, m_scS, bx_uu, bi, c_9, xai, c_19, hS1]) dX5_setCache_53
    · refine lv_aload_n hx hb dX5_setCache_22 rfl (lv_at hl 0 rfl) ?_
      refine lv_iconst (v := 1) hx hb dX5_setCache_23 rfl ?_
      have hF := z_free hD hS hA
      refine z_callWi (va_runV (As := [.int 1]) (rest := []) ⟨hx, hb, hml, hown, hts⟩ (kX5_fails l D cI cZ X S O (va_up V 0 0) _ 1) (cwV 1 hts gX5_setCache_X5_fails rfl rfl rfl (by decide +kernel) ⟨Nat.le_of_ble_eq_true rfl, Nat.le_of_ble_eq_true rfl⟩) (zW_preV 0 5 hK hP hD rfl rfl) rfl rfl hl.1 rfl (lv_room (Nat.le_of_ble_eq_true rfl)) dX5_setCache_24 ⟨Nat.zero_le _, Nat.zero_le _⟩) hS hF (fun H locs hP hD hS => ?_)
      have eS : (if m_scOk x0 x1 = true then m_scS S (va_up V 0 0) (ix x0) x1 else S) = S := by simp [m_scOk, m_scS, bx_uu, bi, c_9, xai, c_19]
      have eV : (va_up V 0 (if m_scOk x0 x1 = true then 0 else 1)) = (va_up (va_up V 0 0) 0 1) := by simp [m_scOk, m_scS, bx_uu, bi, c_9, xai, c_19]
      exact z_wret hx hb hr hlocks (by rw [eS, eV]; exact hP) hK (by rw [eS, eV]; exact hD) hS (by simp [m_scOk, m_scS, bx_uu, bi, c_9, xai, c_19]) dX5_setCache_27

set_option maxHeartbeats 4000000 in
set_option maxRecDepth 100000 in
theorem kX5_decide (l : Launch) (D : va_G) (cI cZ : ClassId) (X : Nat → Nat) (S : Nat → Nat → Int32) (O : Nat → Bool) (V : Nat → Int32) (sz : Nat) (x0 : Int32) (x1 : Int32) (x2 : Int32) (n0 : Nat) (hn0 : n0 ≤ 30) (hct : V 2 = nI n0) (hpe : ∀ j : Nat, j < n0 → vp_in (S 6 j) 10) : Met l yX5_decide wsX5_decide ({ frames := 5, cells := 0, slots := 0, locals := 117 } : Room) (zW D (tyl cI cZ) (mW cI cZ X S O V) sz [.ref (X 0), .int x0, .int x1, .int x2]) (zQi D (tyl cI cZ) (mW cI cZ X (if m_deK V x0 x1 x2 = 0 then (if O (ix x1) = true then S else m_deS S V (ix x0) (ix x1) (ix x2)) else S) O (va_up V 0 (m_deK V x0 x1 x2))) (if m_deK V x0 x1 x2 = 0 then (if O (ix x1) = true then 2 else m_deR S V (ix x0) (ix x1) (ix x2)) else 0) (va_A (mW cI cZ X S O V) sz)) 0 0 (va_A (mW cI cZ X S O V) sz) := by
  refine Met.ofW (cc := cX5_decide) (maxL := 5) (ret := (some .int)) (by decide) rfl ?_
  intro p e s m args below meth c s₁ B hml hv
  obtain ⟨rfl, hsz, hP, hK, hD0⟩ := hv
  have hx := B.exec
  have hb := B.bytes
  have hr := B.returns
  have hts := atoms_spec (ws := wsX5_decide) B.pre
  have hown : s.vm.findClass RX5 = some m.cls := findClass_of_methodNamed B.named
  have hlocks := B.notSynchronized
  subst hsz
  have hD := hD0.self (sz := s.heap.size)
  generalize hAe : va_A (mW cI cZ X S O V) s.heap.size = A at hD ⊢
  have hA : ∀ q : Nat, s.heap.size ≤ q → A q := fun q h => by rw [← hAe]; exact Or.inr h
  have hS : va_S A s.heap s.heap [] := va_S.rf
  have i5 : ∀ w ∈ u_ws RX5 TX5 17, w ∈ wsX5_decide := by decide +kernel
  have fl_25 := hts (.fieldLink RX5 25 "SignOnHouseModel" "who" "[I") (by decide +kernel)
  have fl_34 := hts (.fieldLink RX5 34 "SignOnHouseModel" "used" "[I") (by decide +kernel)
  have fl_37 := hts (.fieldLink RX5 37 "SignOnHouseModel" "over" "[Z") (by decide +kernel)
  have fl_44 := hts (.fieldLink RX5 44 "SignOnHouseModel" "kept" "[I") (by decide +kernel)
  have fl_47 := hts (.fieldLink RX5 47 "SignOnHouseModel" "thrown" "I") (by decide +kernel)
  have fl_82 := hts (.fieldLink RX5 82 "SignOnHouseModel" "now" "I") (by decide +kernel)
  have hl := lv_entry ([.ref (X 0), .int x0, .int x1, .int x2]) (n := 5) (Nat.le_of_ble_eq_true rfl)
  rw [lg_entry_eq]
  generalize (lg_sl ([.ref (X 0), .int x0, .int x1, .int x2]) ++ List.replicate (5 - (lg_sl ([.ref (X 0), .int x0, .int x1, .int x2])).length) Slot.unset).toArray = ls at hl ⊢
  have hl : lv_has ls 5 [(0, .ref (X 0)), (1, .int x0), (2, .int x1), (3, .int x2)] := hl
  refine lv_aload_n hx hb dX5_decide_0 rfl (lv_at hl 0 rfl) ?_
  refine lv_iconst (v := 0) hx hb dX5_decide_1 rfl ?_
  refine va_put (D := D) (ci := 5) (v := .int 0) (ty := .int) (C := RX5) (T := TX5) (N := 17) hx hb hts i5 tyX5 tyX5_ok nmX5 hown hK hP hD hS 0 rfl rfl 0 (by decide) fl_47 (fun _ h9 => h9) rfl (by decide +kernel) rfl rfl (Nat.le_of_ble_eq_true rfl) dX5_decide_2 (fun H locs hP hD hS => ?_)
  have hP : va_P D vwCl (mW cI cZ X S O (va_up V 0 0)) H := hP
  have hD : va_D A (mW cI cZ X S O (va_up V 0 0)) := hD
  refine lv_iload_n hx hb dX5_decide_5 rfl (lv_at hl 1 rfl) ?_
  refine z_callR (W.runS (As := [.int x0]) (rest := []) ⟨hx, hb, hml, hown, hts⟩ (kX5_isApp l x0) (va_cwS 1 hts gX5_decide_X5_isApp rfl rfl rfl (by decide +kernel) ⟨Nat.le_of_ble_eq_true rfl, Nat.le_of_ble_eq_true rfl⟩) zP_pre rfl rfl hl.1 rfl (lv_room (Nat.le_of_ble_eq_true rfl)) dX5_decide_6 ⟨Nat.zero_le _, Nat.zero_le _⟩) ?_
  refine z_if_eq (tgt := 19) hx hb dX5_decide_9 (by decide) (fun c_9 => ?_) (fun c_9 => ?_)
  · refine lv_aload_n hx hb dX5_decide_19 rfl (lv_at hl 0 rfl) ?_
    refine lv_iconst (v := 1) hx hb dX5_decide_20 rfl ?_
    have hF := z_free hD hS hA
    refine z_callWi (va_runV (As := [.int 1]) (rest := []) ⟨hx, hb, hml, hown, hts⟩ (kX5_fails l D cI cZ X S O (va_up V 0 0) _ 1) (cwV 1 hts gX5_decide_X5_fails rfl rfl rfl (by decide +kernel) ⟨Nat.le_of_ble_eq_true rfl, Nat.le_of_ble_eq_true rfl⟩) (zW_preV 0 5 hK hP hD rfl rfl) rfl rfl hl.1 rfl (lv_room (Nat.le_of_ble_eq_true rfl)) dX5_decide_21 ⟨Nat.zero_le _, Nat.zero_le _⟩) hS hF (fun H locs hP hD hS => ?_)
    have eS : (if m_deK V x0 x1 x2 = 0 then (if O (ix x1) = true then S else m_deS S V (ix x0) (ix x1) (ix x2)) else S) = S := by simp [m_deK, m_deR, m_deS, bx_uu, bi, c_9] <;> rfl
    have eV : (va_up V 0 (m_deK V x0 x1 x2)) = (va_up (va_up V 0 0) 0 1) := by simp [m_deK, m_deR, m_deS, bx_uu, bi, c_9] <;> rfl
    exact z_wret hx hb hr hlocks (by rw [eS, eV]; exact hP) hK (by rw [eS, eV]; exact hD) hS (by simp [m_deK, m_deR, m_deS, bx_uu, bi, c_9] <;> rfl) dX5_decide_24
  · obtain ⟨ai, hai, eai⟩ := m_in3 c_9
    have xai : ix x0 = ai := ix_of eai (by omega)
    refine lv_iload_n hx hb dX5_decide_12 rfl (lv_at hl 3 rfl) ?_
    refine z_callR (W.runS (As := [.int x2]) (rest := []) ⟨hx, hb, hml, hown, hts⟩ (kX5_isRole l x2) (va_cwS 1 hts gX5_decide_X5_isRole rfl rfl rfl (by decide +kernel) ⟨Nat.le_of_ble_eq_true rfl, Nat.le_of_ble_eq_true rfl⟩) zP_pre rfl rfl hl.1 rfl (lv_room (Nat.le_of_ble_eq_true rfl)) dX5_decide_13 ⟨Nat.zero_le _, Nat.zero_le _⟩) ?_
    refine z_if_ne (tgt := 25) hx hb dX5_decide_16 (by decide) (fun c_16 => ?_) (fun c_16 => ?_)
    · obtain ⟨ri, hri, eri⟩ := m_in5 c_16
      have xri : ix x2 = ri := ix_of eri (by omega)
      refine lv_aload_n hx hb dX5_decide_25 rfl (lv_at hl 0 rfl) ?_
      refine lv_iload_n hx hb dX5_decide_26 rfl (lv_at hl 2 rfl) ?_
      refine z_callR (W.runV (As := [.int x1]) (rest := []) ⟨hx, hb, hml, hown, hts⟩ (kX5_isSession l D cI cZ X S O (va_up V 0 0) x1) (cwV 1 hts gX5_decide_X5_isSession rfl rfl rfl (by decide +kernel) ⟨Nat.le_of_ble_eq_true rfl, Nat.le_of_ble_eq_true rfl⟩) (zR_preV 0 5 hK hP rfl rfl) rfl rfl hl.1 rfl (lv_room (Nat.le_of_ble_eq_true rfl)) dX5_decide_27 ⟨Nat.zero_le _, Nat.zero_le _⟩) ?_
      refine z_top (bi (m_in x1 0 (V 2 - 1))) rfl ?_
      refine z_if_ne (tgt := 39) hx hb dX5_decide_30 (by decide) (fun c_30 => ?_) (fun c_30 => ?_)
      · obtain ⟨si, hsi, esi⟩ := m_inC c_30 hct hn0
        have xsi : ix x1 = si := ix_of esi (by omega)
        obtain ⟨wi, hwi, ewi⟩ := vp_in_of (hpe si hsi) (by decide)
        have xwi : ix (S 6 si) = wi := ix_of ewi (by omega)
        have xat : m_deAt S ai si ri = 60 * ai + 6 * wi + ri := by rw [m_deAt, xwi]
        refine lv_aload_n hx hb dX5_decide_39 rfl (lv_at hl 0 rfl) ?_
        refine va_get (D := D) (ci := 5) (v := .ref (X 10)) (C := RX5) (T := TX5) (N := 17) hx hb hts i5 hown hK hP 0 rfl rfl 12 (by decide) fl_37 (fun _ h9 => h9) rfl dX5_decide_40 ?_
        refine lv_iload_n hx hb dX5_decide_43 rfl (lv_at hl 2 rfl) ?_
        refine z_top (nI si) esi ?_
        refine z_zald (D := D) (j := si) (g := O) hx hb hK hP 10 1 rfl rfl (by omega) (by decide) dX5_decide_44 ?_
        refine z_if_eq (tgt := 50) hx hb dX5_decide_45 (by decide) (fun c_45 => ?_) (fun c_45 => ?_)
        · refine lv_aload_n hx hb dX5_decide_50 rfl (lv_at hl 0 rfl) ?_
          refine va_get (D := D) (ci := 5) (v := .ref (X 9)) (C := RX5) (T := TX5) (N := 17) hx hb hts i5 hown hK hP 0 rfl rfl 11 (by decide) fl_34 (fun _ h9 => h9) rfl dX5_decide_51 ?_
          refine lv_iload_n hx hb dX5_decide_54 rfl (lv_at hl 2 rfl) ?_
          refine lv_aload_n hx hb dX5_decide_55 rfl (lv_at hl 0 rfl) ?_
          refine va_get (D := D) (ci := 5) (v := .int (V 1)) (C := RX5) (T := TX5) (N := 17) hx hb hts i5 hown hK hP 0 rfl rfl 1 (by decide) fl_82 (fun _ h9 => h9) rfl dX5_decide_56 ?_
          refine z_top2 (nI si) esi ?_
          refine z_iast (D := D) (j := si) (f := S 9) hx hb hK hP hD hS 9 0 rfl rfl (by omega) (by decide) dX5_decide_59 (fun H locs hP hD hS => ?_)
          have hP : va_P D vwCl (mW cI cZ X (va_up S 9 (upd (S 9) si (V 1))) O (va_up V 0 0)) H := hP
          have hD : va_D A (mW cI cZ X (va_up S 9 (upd (S 9) si (V 1))) O (va_up V 0 0)) := hD
          refine lv_bipush (v := 60) hx hb dX5_decide_60 (by decide) ?_
          refine lv_iload_n hx hb dX5_decide_62 rfl (lv_at hl 1 rfl) ?_
          refine lv_imul hx hb dX5_decide_63 ?_
          refine lv_bipush (v := 6) hx hb dX5_decide_64 (by decide) ?_
          refine lv_aload_n hx hb dX5_decide_66 rfl (lv_at hl 0 rfl) ?_
          refine va_get (D := D) (ci := 5) (v := .ref (X 6)) (C := RX5) (T := TX5) (N := 17) hx hb hts i5 hown hK hP 0 rfl rfl 8 (by decide) fl_25 (fun _ h9 => h9) rfl dX5_decide_67 ?_
          refine lv_iload_n hx hb dX5_decide_70 rfl (lv_at hl 2 rfl) ?_
          refine z_top (nI si) esi ?_
          refine z_iald (D := D) (j := si) (f := S 6) hx hb hK hP 6 0 rfl rfl (by omega) (by decide) dX5_decide_71 ?_
          refine lv_imul hx hb dX5_decide_72 ?_
          refine lv_iadd hx hb dX5_decide_73 ?_
          refine lv_iload_n hx hb dX5_decide_74 rfl (lv_at hl 3 rfl) ?_
          refine lv_iadd hx hb dX5_decide_75 ?_
          refine z_top (nI (60 * ai + 6 * wi + ri)) (by rw [eai, ewi, eri]; simp only [show (60 : Int32) = nI 60 from rfl, show (6 : Int32) = nI 6 from rfl, pk_mul, nI_add]) ?_
          refine lv_istore (lv' := [(4, .int (nI (60 * ai + 6 * wi + ri))), (0, .ref (X 0)), (1, .int x0), (2, .int x1), (3, .int x2)]) hx hb dX5_decide_76 hl (by decide) rfl (fun ls hl => ?_)
          refine lv_aload_n hx hb dX5_decide_78 rfl (lv_at hl 1 rfl) ?_
          refine lv_iload_n hx hb dX5_decide_79 rfl (lv_at hl 2 rfl) ?_
          refine z_top (nI ai) eai ?_
          refine lv_iload hx hb dX5_decide_80 (lv_at hl 0 rfl) ?_
          refine z_callR (W.runV (As := [.int (nI ai), .int (nI (60 * ai + 6 * wi + ri))]) (rest := []) ⟨hx, hb, hml, hown, hts⟩ (kX5_keeps l D cI cZ X (va_up S 9 (upd (S 9) si (V 1))) O (va_up V 0 0) ai (60 * ai + 6 * wi + ri) (by omega) (by omega)) (cwV 2 hts gX5_decide_X5_keeps rfl rfl rfl (by decide +kernel) ⟨Nat.le_of_ble_eq_true rfl, Nat.le_of_ble_eq_true rfl⟩) (zR_preV 0 5 hK hP rfl rfl) rfl rfl hl.1 rfl (lv_room (Nat.le_of_ble_eq_true rfl)) dX5_decide_82 ⟨Nat.zero_le _, Nat.zero_le _⟩) ?_
          refine z_top (bi (m_keeps (m_deS1 S V si) V ai (60 * ai + 6 * wi + ri))) rfl ?_
          refine z_if_ne (tgt := 121) hx hb dX5_decide_85 (by decide) (fun c_85 => ?_) (fun c_85 => ?_)
          · refine lv_iconst (v := 1) hx hb dX5_decide_121 rfl ?_
            refine lv_aload_n hx hb dX5_decide_122 rfl (lv_at hl 1 rfl) ?_
            refine va_get (D := D) (ci := 5) (v := .ref (X 12)) (C := RX5) (T := TX5) (N := 17) hx hb hts i5 hown hK hP 0 rfl rfl 16 (by decide) fl_44 (fun _ h9 => h9) rfl dX5_decide_123 ?_
            refine lv_iload hx hb dX5_decide_126 (lv_at hl 0 rfl) ?_
            refine z_iald (D := D) (j := 60 * ai + 6 * wi + ri) (f := S 12) hx hb hK hP 12 0 rfl rfl (by omega) (by decide) dX5_decide_128 ?_
            refine lv_iconst (v := 2) hx hb dX5_decide_129 rfl ?_
            refine lv_irem hx hb dX5_decide_130 (by decide) ?_
            refine lv_isub hx hb dX5_decide_131 ?_
            have eS : (if m_deK V x0 x1 x2 = 0 then (if O (ix x1) = true then S else m_deS S V (ix x0) (ix x1) (ix x2)) else S) = (va_up S 9 (upd (S 9) si (V 1))) := by simp [m_deK, m_deR, m_deS, bx_uu, bi, c_9, xai, c_16, xri, c_30, xsi, xwi, xat, c_45, c_85] <;> rfl
            have eV : (va_up V 0 (m_deK V x0 x1 x2)) = (va_up V 0 0) := by simp [m_deK, m_deR, m_deS, bx_uu, bi, c_9, xai, c_16, xri, c_30, xsi, xwi, xat, c_45, c_85] <;> rfl
            exact z_wret hx hb hr hlocks (by rw [eS, eV]; exact hP) hK (by rw [eS, eV]; exact hD) hS (by simp [m_deK, m_deR, m_deS, bx_uu, bi, c_9, xai, c_16, xri, c_30, xsi, xwi, xat, c_45, c_85] <;> rfl) dX5_decide_132
          · refine lv_aload_n hx hb dX5_decide_88 rfl (lv_at hl 1 rfl) ?_
            refine va_get (D := D) (ci := 5) (v := .ref (X 12)) (C := RX5) (T := TX5) (N := 17) hx hb hts i5 hown hK hP 0 rfl rfl 16 (by decide) fl_44 (fun _ h9 => h9) rfl dX5_decide_89 ?_
            refine lv_iload hx hb dX5_decide_92 (lv_at hl 0 rfl) ?_
            refine lv_iconst (v := 2) hx hb dX5_decide_94 rfl ?_
            refine lv_aload_n hx hb dX5_decide_95 rfl (lv_at hl 1 rfl) ?_
            refine va_get (D := D) (ci := 5) (v := .int (V 1)) (C := RX5) (T := TX5) (N := 17) hx hb hts i5 hown hK hP 0 rfl rfl 1 (by decide) fl_82 (fun _ h9 => h9) rfl dX5_decide_96 ?_
            refine lv_imul hx hb dX5_decide_99 ?_
            refine lv_aload_n hx hb dX5_decide_100 rfl (lv_at hl 1 rfl) ?_
            refine lv_aload_n hx hb dX5_decide_101 rfl (lv_at hl 1 rfl) ?_
            refine va_get (D := D) (ci := 5) (v := .ref (X 6)) (C := RX5) (T := TX5) (N := 17) hx hb hts i5 hown hK hP 0 rfl rfl 8 (by decide) fl_25 (fun _ h9 => h9) rfl dX5_decide_102 ?_
            refine lv_iload_n hx hb dX5_decide_105 rfl (lv_at hl 3 rfl) ?_
            refine z_top (nI si) esi ?_
            refine z_iald (D := D) (j := si) (f := S 6) hx hb hK hP 6 0 rfl rfl (by omega) (by decide) dX5_decide_106 ?_
            refine z_top (nI wi) ewi ?_
            refine lv_iload_n hx hb dX5_decide_107 rfl (lv_at hl 4 rfl) ?_
            refine z_top (nI ri) eri ?_
            refine z_callR (W.runV (As := [.int (nI wi), .int (nI ri)]) (rest := [.int (2 * (V 1)), .int (nI (60 * ai + 6 * wi + ri)), .ref (X 12)]) ⟨hx, hb, hml, hown, hts⟩ (kX5_lets l D cI cZ X (va_up S 9 (upd (S 9) si (V 1))) O (va_up V 0 0) wi ri (by omega) (by omega)) (cwV 2 hts gX5_decide_X5_lets rfl rfl rfl (by decide +kernel) ⟨Nat.le_of_ble_eq_true rfl, Nat.le_of_ble_eq_true rfl⟩) (zR_preV 0 5 hK hP rfl rfl) rfl rfl hl.1 rfl (lv_room (Nat.le_of_ble_eq_true rfl)) dX5_decide_108 ⟨Nat.zero_le _, Nat.zero_le _⟩) ?_
            refine z_top (bi (m_lets (m_deS1 S V si) V wi ri)) rfl ?_
            refine z_if_eq (tgt := 118) hx hb dX5_decide_111 (by decide) (fun c_111 => ?_) (fun c_111 => ?_)
            · refine lv_iconst (v := 0) hx hb dX5_decide_118 rfl ?_
              refine lv_iadd hx hb dX5_decide_119 ?_
              refine z_iast (D := D) (j := 60 * ai + 6 * wi + ri) (f := S 12) hx hb hK hP hD hS 12 0 rfl rfl (by omega) (by decide) dX5_decide_120 (fun H locs hP hD hS => ?_)
              have hP : va_P D vwCl (mW cI cZ X (va_up (va_up S 9 (upd (S 9) si (V 1))) 12 (upd (S 12) (60 * ai + 6 * wi + ri) ((2 * (V 1)) + 0))) O (va_up V 0 0)) H := hP
              have hD : va_D A (mW cI cZ X (va_up (va_up S 9 (upd (S 9) si (V 1))) 12 (upd (S 12) (60 * ai + 6 * wi + ri) ((2 * (V 1)) + 0))) O (va_up V 0 0)) := hD
              refine lv_iconst (v := 1) hx hb dX5_decide_121 rfl ?_
              refine lv_aload_n hx hb dX5_decide_122 rfl (lv_at hl 1 rfl) ?_
              refine va_get (D := D) (ci := 5) (v := .ref (X 12)) (C := RX5) (T := TX5) (N := 17) hx hb hts i5 hown hK hP 0 rfl rfl 16 (by decide) fl_44 (fun _ h9 => h9) rfl dX5_decide_123 ?_
              refine lv_iload hx hb dX5_decide_126 (lv_at hl 0 rfl) ?_
              refine z_iald (D := D) (j := 60 * ai + 6 * wi + ri) (f := upd (S 12) (60 * ai + 6 * wi + ri) ((2 * (V 1)) + 0)) hx hb hK hP 12 0 rfl rfl (by omega) (by decide) dX5_decide_128 ?_
              refine lv_iconst (v := 2) hx hb dX5_decide_129 rfl ?_
              refine lv_irem hx hb dX5_decide_130 (by decide) ?_
              refine lv_isub hx hb dX5_decide_131 ?_
              have eS : (if m_deK V x0 x1 x2 = 0 then (if O (ix x1) = true then S else m_deS S V (ix x0) (ix x1) (ix x2)) else S) = (va_up (va_up S 9 (upd (S 9) si (V 1))) 12 (upd (S 12) (60 * ai + 6 * wi + ri) ((2 * (V 1)) + 0))) := by simp [m_deK, m_deR, m_deS, bx_uu, bi, c_9, xai, c_16, xri, c_30, xsi, xwi, xat, c_45, c_85, c_111] <;> rfl
              have eV : (va_up V 0 (m_deK V x0 x1 x2)) = (va_up V 0 0) := by simp [m_deK, m_deR, m_deS, bx_uu, bi, c_9, xai, c_16, xri, c_30, xsi, xwi, xat, c_45, c_85, c_111] <;> rfl
              exact z_wret hx hb hr hlocks (by rw [eS, eV]; exact hP) hK (by rw [eS, eV]; exact hD) hS (by simp [m_deK, m_deR, m_deS, bx_uu, bi, c_9, xai, c_16, xri, c_30, xsi, xwi, xat, c_45, c_85, c_111] <;> rfl) dX5_decide_132
            · refine lv_iconst (v := 1) hx hb dX5_decide_114 rfl ?_
              refine lv_goto (tgt := 119) hx hb dX5_decide_115 (by decide) ?_
              refine lv_iadd hx hb dX5_decide_119 ?_
              refine z_iast (D := D) (j := 60 * ai + 6 * wi + ri) (f := S 12) hx hb hK hP hD hS 12 0 rfl rfl (by omega) (by decide) dX5_decide_120 (fun H locs hP hD hS => ?_)
              have hP : va_P D vwCl (mW cI cZ X (va_up (va_up S 9 (upd (S 9) si (V 1))) 12 (upd (S 12) (60 * ai + 6 * wi + ri) ((2 * (V 1)) + 1))) O (va_up V 0 0)) H := hP
              have hD : va_D A (mW cI cZ X (va_up (va_up S 9 (upd (S 9) si (V 1))) 12 (upd (S 12) (60 * ai + 6 * wi + ri) ((2 * (V 1)) + 1))) O (va_up V 0 0)) := hD
              refine lv_iconst (v := 1) hx hb dX5_decide_121 rfl ?_
              refine lv_aload_n hx hb dX5_decide_122 rfl (lv_at hl 1 rfl) ?_
              refine va_get (D := D) (ci := 5) (v := .ref (X 12)) (C := RX5) (T := TX5) (N := 17) hx hb hts i5 hown hK hP 0 rfl rfl 16 (by decide) fl_44 (fun _ h9 => h9) rfl dX5_decide_123 ?_
              refine lv_iload hx hb dX5_decide_126 (lv_at hl 0 rfl) ?_
              refine z_iald (D := D) (j := 60 * ai + 6 * wi + ri) (f := upd (S 12) (60 * ai + 6 * wi + ri) ((2 * (V 1)) + 1)) hx hb hK hP 12 0 rfl rfl (by omega) (by decide) dX5_decide_128 ?_
              refine lv_iconst (v := 2) hx hb dX5_decide_129 rfl ?_
              refine lv_irem hx hb dX5_decide_130 (by decide) ?_
              refine lv_isub hx hb dX5_decide_131 ?_
              have eS : (if m_deK V x0 x1 x2 = 0 then (if O (ix x1) = true then S else m_deS S V (ix x0) (ix x1) (ix x2)) else S) = (va_up (va_up S 9 (upd (S 9) si (V 1))) 12 (upd (S 12) (60 * ai + 6 * wi + ri) ((2 * (V 1)) + 1))) := by simp [m_deK, m_deR, m_deS, bx_uu, bi, c_9, xai, c_16, xri, c_30, xsi, xwi, xat, c_45, c_85, c_111] <;> rfl
              have eV : (va_up V 0 (m_deK V x0 x1 x2)) = (va_up V 0 0) := by simp [m_deK, m_deR, m_deS, bx_uu, bi, c_9, xai, c_16, xri, c_30, xsi, xwi, xat, c_45, c_85, c_111] <;> rfl
              exact z_wret hx hb hr hlocks (by rw [eS, eV]; exact hP) hK (by rw [eS, eV]; exact hD) hS (by simp [m_deK, m_deR, m_deS, bx_uu, bi, c_9, xai, c_16, xri, c_30, xsi, xwi, xat, c_45, c_85, c_111] <;> rfl) dX5_decide_132
        · refine lv_iconst (v := 2) hx hb dX5_decide_48 rfl ?_
          have eS : (if m_deK V x0 x1 x2 = 0 then (if O (ix x1) = true then S else m_deS S V (ix x0) (ix x1) (ix x2)) else S) = S := by simp [m_deK, m_deR, m_deS, bx_uu, bi, c_9, xai, c_16, xri, c_30, xsi, xwi, xat, c_45] <;> rfl
          have eV : (va_up V 0 (m_deK V x0 x1 x2)) = (va_up V 0 0) := by simp [m_deK, m_deR, m_deS, bx_uu, bi, c_9, xai, c_16, xri, c_30, xsi, xwi, xat, c_45] <;> rfl
          exact z_wret hx hb hr hlocks (by rw [eS, eV]; exact hP) hK (by rw [eS, eV]; exact hD) hS (by simp [m_deK, m_deR, m_deS, bx_uu, bi, c_9, xai, c_16, xri, c_30, xsi, xwi, xat, c_45] <;> rfl) dX5_decide_49
      · refine lv_aload_n hx hb dX5_decide_33 rfl (lv_at hl 0 rfl) ?_
        refine lv_iconst (v := 2) hx hb dX5_decide_34 rfl ?_
        have hF := z_free hD hS hA
        refine z_callWi (va_runV (As := [.int 2]) (rest := []) ⟨hx, hb, hml, hown, hts⟩ (kX5_fails l D cI cZ X S O (va_up V 0 0) _ 2) (cwV 1 hts gX5_decide_X5_fails rfl rfl rfl (by decide +kernel) ⟨Nat.le_of_ble_eq_true rfl, Nat.le_of_ble_eq_true rfl⟩) (zW_preV 0 5 hK hP hD rfl rfl) rfl rfl hl.1 rfl (lv_room (Nat.le_of_ble_eq_true rfl)) dX5_decide_35 ⟨Nat.zero_le _, Nat.zero_le _⟩) hS hF (fun H locs hP hD hS => ?_)
        have eS : (if m_deK V x0 x1 x2 = 0 then (if O (ix x1) = true then S else m_deS S V (ix x0) (ix x1) (ix x2)) else S) = S := by simp [m_deK, m_deR, m_deS, bx_uu, bi, c_9, xai, c_16, xri, c_30] <;> rfl
        have eV : (va_up V 0 (m_deK V x0 x1 x2)) = (va_up (va_up V 0 0) 0 2) := by simp [m_deK, m_deR, m_deS, bx_uu, bi, c_9, xai, c_16, xri, c_30] <;> rfl
        exact z_wret hx hb hr hlocks (by rw [eS, eV]; exact hP) hK (by rw [eS, eV]; exact hD) hS (by simp [m_deK, m_deR, m_deS, bx_uu, bi, c_9, xai, c_16, xri, c_30] <;> rfl) dX5_decide_38
    · refine lv_aload_n hx hb dX5_decide_19 rfl (lv_at hl 0 rfl) ?_
      refine lv_iconst (v := 1) hx hb dX5_decide_20 rfl ?_
      have hF := z_free hD hS hA
      refine z_callWi (va_runV (As := [.int 1]) (rest := []) ⟨hx, hb, hml, hown, hts⟩ (kX5_fails l D cI cZ X S O (va_up V 0 0) _ 1) (cwV 1 hts gX5_decide_X5_fails rfl rfl rfl (by decide +kernel) ⟨Nat.le_of_ble_eq_true rfl, Nat.le_of_ble_eq_true rfl⟩) (zW_preV 0 5 hK hP hD rfl rfl) rfl rfl hl.1 rfl (lv_room (Nat.le_of_ble_eq_true rfl)) dX5_decide_21 ⟨Nat.zero_le _, Nat.zero_le _⟩) hS hF (fun H locs hP hD hS => ?_)
      have eS : (if m_deK V x0 x1 x2 = 0 then (if O (ix x1) = true then S else m_deS S V (ix x0) (ix x1) (ix x2)) else S) = S := by simp [m_deK, m_deR, m_deS, bx_uu, bi, c_9, xai, c_16] <;> rfl
      have eV : (va_up V 0 (m_deK V x0 x1 x2)) = (va_up (va_up V 0 0) 0 1) := by simp [m_deK, m_deR, m_deS, bx_uu, bi, c_9, xai, c_16] <;> rfl
      exact z_wret hx hb hr hlocks (by rw [eS, eV]; exact hP) hK (by rw [eS, eV]; exact hD) hS (by simp [m_deK, m_deR, m_deS, bx_uu, bi, c_9, xai, c_16] <;> rfl) dX5_decide_24

set_option maxHeartbeats 4000000 in
set_option maxRecDepth 100000 in
theorem kX5_forget (l : Launch) (D : va_G) (cI cZ : ClassId) (X : Nat → Nat) (S : Nat → Nat → Int32) (O : Nat → Bool) (V : Nat → Int32) (sz : Nat) (x0 : Int32) (x1 : Int32) : Met l yX5_forget wsX5_forget ({ frames := 2, cells := 0, slots := 0, locals := 42 } : Room) (zW D (tyl cI cZ) (mW cI cZ X S O V) sz [.ref (X 0), .int x0, .int x1]) (zQi D (tyl cI cZ) (mW cI cZ X (if m_foOk x0 x1 = true then m_foS S (ix x0) (ix x1) 6 else S) O (va_up V 0 (if m_foOk x0 x1 = true then 0 else 1))) (if m_foOk x0 x1 = true then m_foN S (va_up V 0 0) (ix x0) (ix x1) 6 else 0) (va_A (mW cI cZ X S O V) sz)) 0 0 (va_A (mW cI cZ X S O V) sz) := by
  refine Met.ofW (cc := cX5_forget) (maxL := 6) (ret := (some .int)) (by decide) rfl ?_
  intro p e s m args below meth c s₁ B hml hv
  obtain ⟨rfl, hsz, hP, hK, hD0⟩ := hv
  have hx := B.exec
  have hb := B.bytes
  have hr := B.returns
  have hts := atoms_spec (ws := wsX5_forget) B.pre
  have hown : s.vm.findClass RX5 = some m.cls := findClass_of_methodNamed B.named
  have hlocks := B.notSynchronized
  subst hsz
  have hD := hD0.self (sz := s.heap.size)
  generalize hAe : va_A (mW cI cZ X S O V) s.heap.size = A at hD ⊢
  have hA : ∀ q : Nat, s.heap.size ≤ q → A q := fun q h => by rw [← hAe]; exact Or.inr h
  have hS : va_S A s.heap s.heap [] := va_S.rf
  have i5 : ∀ w ∈ u_ws RX5 TX5 17, w ∈ wsX5_forget := by decide +kernel
  have fl_44 := hts (.fieldLink RX5 44 "SignOnHouseModel" "kept" "[I") (by decide +kernel)
  have fl_47 := hts (.fieldLink RX5 47 "SignOnHouseModel" "thrown" "I") (by decide +kernel)
  have hl := lv_entry ([.ref (X 0), .int x0, .int x1]) (n := 6) (Nat.le_of_ble_eq_true rfl)
  rw [lg_entry_eq]
  generalize (lg_sl ([.ref (X 0), .int x0, .int x1]) ++ List.replicate (6 - (lg_sl ([.ref (X 0), .int x0, .int x1])).length) Slot.unset).toArray = ls at hl ⊢
  have hl : lv_has ls 6 [(0, .ref (X 0)), (1, .int x0), (2, .int x1)] := hl
  refine lv_aload_n hx hb dX5_forget_0 rfl (lv_at hl 0 rfl) ?_
  refine lv_iconst (v := 0) hx hb dX5_forget_1 rfl ?_
  refine va_put (D := D) (ci := 5) (v := .int 0) (ty := .int) (C := RX5) (T := TX5) (N := 17) hx hb hts i5 tyX5 tyX5_ok nmX5 hown hK hP hD hS 0 rfl rfl 0 (by decide) fl_47 (fun _ h9 => h9) rfl (by decide +kernel) rfl rfl (Nat.le_of_ble_eq_true rfl) dX5_forget_2 (fun H locs hP hD hS => ?_)
  have hP : va_P D vwCl (mW cI cZ X S O (va_up V 0 0)) H := hP
  have hD : va_D A (mW cI cZ X S O (va_up V 0 0)) := hD
  refine lv_iload_n hx hb dX5_forget_5 rfl (lv_at hl 1 rfl) ?_
  refine z_callR (W.runS (As := [.int x0]) (rest := []) ⟨hx, hb, hml, hown, hts⟩ (kX5_isApp l x0) (va_cwS 1 hts gX5_forget_X5_isApp rfl rfl rfl (by decide +kernel) ⟨Nat.le_of_ble_eq_true rfl, Nat.le_of_ble_eq_true rfl⟩) zP_pre rfl rfl hl.1 rfl (lv_room (Nat.le_of_ble_eq_true rfl)) dX5_forget_6 ⟨Nat.zero_le _, Nat.zero_le _⟩) ?_
  refine z_if_eq (tgt := 19) hx hb dX5_forget_9 (by decide) (fun c_9 => ?_) (fun c_9 => ?_)
  · refine lv_aload_n hx hb dX5_forget_19 rfl (lv_at hl 0 rfl) ?_
    refine lv_iconst (v := 1) hx hb dX5_forget_20 rfl ?_
    have hF := z_free hD hS hA
    refine z_callWi (va_runV (As := [.int 1]) (rest := []) ⟨hx, hb, hml, hown, hts⟩ (kX5_fails l D cI cZ X S O (va_up V 0 0) _ 1) (cwV 1 hts gX5_forget_X5_fails rfl rfl rfl (by decide +kernel) ⟨Nat.le_of_ble_eq_true rfl, Nat.le_of_ble_eq_true rfl⟩) (zW_preV 0 5 hK hP hD rfl rfl) rfl rfl hl.1 rfl (lv_room (Nat.le_of_ble_eq_true rfl)) dX5_forget_21 ⟨Nat.zero_le _, Nat.zero_le _⟩) hS hF (fun H locs hP hD hS => ?_)
    have eS : (if m_foOk x0 x1 = true then m_foS S (ix x0) (ix x1) 6 else S) = S := by simp [m_foOk, bx_uu, bi, c_9]
    have eV : (va_up V 0 (if m_foOk x0 x1 = true then 0 else 1)) = (va_up (va_up V 0 0) 0 1) := by simp [m_foOk, bx_uu, bi, c_9]
    exact z_wret hx hb hr hlocks (by rw [eS, eV]; exact hP) hK (by rw [eS, eV]; exact hD) hS (by simp [m_foOk, bx_uu, bi, c_9]) dX5_forget_24
  · obtain ⟨ai, hai, eai⟩ := m_in3 c_9
    have xai : ix x0 = ai := ix_of eai (by omega)
    refine lv_iload_n hx hb dX5_forget_12 rfl (lv_at hl 2 rfl) ?_
    refine z_callR (W.runS (As := [.int x1]) (rest := []) ⟨hx, hb, hml, hown, hts⟩ (kX5_isPerson l x1) (va_cwS 1 hts gX5_forget_X5_isPerson rfl rfl rfl (by decide +kernel) ⟨Nat.le_of_ble_eq_true rfl, Nat.le_of_ble_eq_true rfl⟩) zP_pre rfl rfl hl.1 rfl (lv_room (Nat.le_of_ble_eq_true rfl)) dX5_forget_13 ⟨Nat.zero_le _, Nat.zero_le _⟩) ?_
    refine z_if_ne (tgt := 25) hx hb dX5_forget_16 (by decide) (fun c_16 => ?_) (fun c_16 => ?_)
    · obtain ⟨pi, hpi, epi⟩ := m_in9 c_16
      have xpi : ix x1 = pi := ix_of epi (by omega)
      refine lv_iconst (v := 0) hx hb dX5_forget_25 rfl ?_
      refine lv_istore_n (lv' := [(3, .int 0), (0, .ref (X 0)), (1, .int x0), (2, .int x1)]) hx hb dX5_forget_26 rfl hl (by decide) rfl (fun ls hl => ?_)
      refine lv_iconst (v := nI 0) hx hb dX5_forget_27 rfl ?_
      refine lv_istore (lv' := [(4, .int (nI 0)), (3, .int 0), (0, .ref (X 0)), (1, .int x0), (2, .int x1)]) hx hb dX5_forget_28 hl (by decide) rfl (fun ls hl => ?_)
      refine z_loopW (N := 6) (nL := 6) (Lc := (fun k => [(4, .int (nI k)), (3, .int (m_foN S (va_up V 0 0) ai pi k)), (0, .ref (X 0)), (1, .int x0), (2, .int x1)])) (Wd := fun k => mW cI cZ X (m_foS S ai pi k) O (va_up V 0 0)) (lv_sub hl [0, 1, 2, 3, 4] rfl) hP hD hS (fun H locs ls hP hD hS hl => ?_) (fun k H locs ls hk hP hD hS hl ih => ?_)
      · have hP : va_P D vwCl (mW cI cZ X (m_foS S ai pi 6) O (va_up V 0 0)) H := hP
        have hD : va_D A (mW cI cZ X (m_foS S ai pi 6) O (va_up V 0 0)) := hD
        have hl : lv_has ls 6 [(4, .int (nI 6)), (3, .int (m_foN S (va_up V 0 0) ai pi 6)), (0, .ref (X 0)), (1, .int x0), (2, .int x1)] := hl
        refine lv_iload hx hb dX5_forget_30 (lv_at hl 0 rfl) ?_
        refine lv_bipush (v := nI 6) hx hb dX5_forget_32 (by decide) ?_
        refine z_ge_t (tgt := 83) (nI_le (by omega) (by omega)) hx hb dX5_forget_34 (by decide) ?_
        refine lv_iload_n hx hb dX5_forget_83 rfl (lv_at hl 1 rfl) ?_
        have eS : (if m_foOk x0 x1 = true then m_foS S (ix x0) (ix x1) 6 else S) = (m_foS S ai pi 6) := by simp [m_foOk, bx_uu, bi, c_9, xai, c_16, xpi]
        have eV : (va_up V 0 (if m_foOk x0 x1 = true then 0 else 1)) = (va_up V 0 0) := by simp [m_foOk, bx_uu, bi, c_9, xai, c_16, xpi]
        exact z_wret hx hb hr hlocks (by rw [eS, eV]; exact hP) hK (by rw [eS, eV]; exact hD) hS (by simp [m_foOk, bx_uu, bi, c_9, xai, c_16, xpi]) dX5_forget_84
      · have hP : va_P D vwCl (mW cI cZ X (m_foS S ai pi k) O (va_up V 0 0)) H := hP
        have hD : va_D A (mW cI cZ X (m_foS S ai pi k) O (va_up V 0 0)) := hD
        have hl : lv_has ls 6 [(4, .int (nI k)), (3, .int (m_foN S (va_up V 0 0) ai pi k)), (0, .ref (X 0)), (1, .int x0), (2, .int x1)] := hl
        have ih_30 := ih
        refine lv_iload hx hb dX5_forget_30 (lv_at hl 0 rfl) ?_
        refine lv_bipush (v := nI 6) hx hb dX5_forget_32 (by decide) ?_
        refine z_ge_f (tgt := 83) (nI_ge (by omega) (by omega)) hx hb dX5_forget_34 (by decide) ?_
        refine lv_bipush (v := 60) hx hb dX5_forget_37 (by decide) ?_
        refine lv_iload_n hx hb dX5_forget_39 rfl (lv_at hl 3 rfl) ?_
        refine lv_imul hx hb dX5_forget_40 ?_
        refine lv_bipush (v := 6) hx hb dX5_forget_41 (by decide) ?_
        refine lv_iload_n hx hb dX5_forget_43 rfl (lv_at hl 4 rfl) ?_
        refine lv_imul hx hb dX5_forget_44 ?_
        refine lv_iadd hx hb dX5_forget_45 ?_
        refine lv_iload hx hb dX5_forget_46 (lv_at hl 0 rfl) ?_
        refine lv_iadd hx hb dX5_forget_48 ?_
        refine z_top (nI (60 * ai + 6 * pi + k)) (by rw [eai, epi]; simp only [show (60 : Int32) = nI 60 from rfl, show (6 : Int32) = nI 6 from rfl, pk_mul, nI_add]) ?_
        refine lv_istore (lv' := [(5, .int (nI (60 * ai + 6 * pi + k))), (4, .int (nI k)), (3, .int (m_foN S (va_up V 0 0) ai pi k)), (0, .ref (X 0)), (1, .int x0), (2, .int x1)]) hx hb dX5_forget_49 hl (by decide) rfl (fun ls hl => ?_)
        refine lv_iload_n hx hb dX5_forget_51 rfl (lv_at hl 2 rfl) ?_
        refine lv_aload_n hx hb dX5_forget_52 rfl (lv_at hl 3 rfl) ?_
        refine lv_iload_n hx hb dX5_forget_53 rfl (lv_at hl 4 rfl) ?_
        refine z_top (nI ai) eai ?_
        refine lv_iload hx hb dX5_forget_54 (lv_at hl 0 rfl) ?_
        refine z_callR (W.runV (As := [.int (nI ai), .int (nI (60 * ai + 6 * pi + k))]) (rest := [.int (m_foN S (va_up V 0 0) ai pi k)]) ⟨hx, hb, hml, hown, hts⟩ (kX5_keeps l D cI cZ X (m_foS S ai pi k) O (va_up V 0 0) ai (60 * ai + 6 * pi + k) (by omega) (by omega)) (cwV 2 hts gX5_forget_X5_keeps rfl rfl rfl (by decide +kernel) ⟨Nat.le_of_ble_eq_true rfl, Nat.le_of_ble_eq_true rfl⟩) (zR_preV 0 5 hK hP rfl rfl) rfl rfl hl.1 rfl (lv_room (Nat.le_of_ble_eq_true rfl)) dX5_forget_56 ⟨Nat.zero_le _, Nat.zero_le _⟩) ?_
        refine z_if_eq (tgt := 66) hx hb dX5_forget_59 (by decide) (fun c_59 => ?_) (fun c_59 => ?_)
        · refine lv_iconst (v := 0) hx hb dX5_forget_66 rfl ?_
          refine lv_iadd hx hb dX5_forget_67 ?_
          refine lv_istore_n (lv' := [(3, .int ((m_foN S (va_up V 0 0) ai pi k) + 0)), (5, .int (nI (60 * ai + 6 * pi + k))), (4, .int (nI k)), (0, .ref (X 0)), (1, .int x0), (2, .int x1)]) hx hb dX5_forget_68 rfl hl (by decide) rfl (fun ls hl => ?_)
          refine lv_aload_n hx hb dX5_forget_69 rfl (lv_at hl 3 rfl) ?_
          refine va_get (D := D) (ci := 5) (v := .ref (X 12)) (C := RX5) (T := TX5) (N := 17) hx hb hts i5 hown hK hP 0 rfl rfl 16 (by decide) fl_44 (fun _ h9 => h9) rfl dX5_forget_70 ?_
          refine lv_iload hx hb dX5_forget_73 (lv_at hl 1 rfl) ?_
          refine lv_iconst (v := (-1)) hx hb dX5_forget_75 rfl ?_
          refine z_iast (D := D) (j := 60 * ai + 6 * pi + k) (f := (m_foS S ai pi k) 12) hx hb hK hP hD hS 12 0 rfl rfl (by omega) (by decide) dX5_forget_76 (fun H locs hP hD hS => ?_)
          have hP : va_P D vwCl (mW cI cZ X (va_up (m_foS S ai pi k) 12 (upd ((m_foS S ai pi k) 12) (60 * ai + 6 * pi + k) (-1))) O (va_up V 0 0)) H := hP
          have hD : va_D A (mW cI cZ X (va_up (m_foS S ai pi k) 12 (upd ((m_foS S ai pi k) 12) (60 * ai + 6 * pi + k) (-1))) O (va_up V 0 0)) := hD
          refine lv_iinc (v := nI (k + 1)) (lv' := [(4, .int (nI (k + 1))), (3, .int ((m_foN S (va_up V 0 0) ai pi k) + 0)), (5, .int (nI (60 * ai + 6 * pi + k))), (0, .ref (X 0)), (1, .int x0), (2, .int x1)]) hx hb dX5_forget_77 hl (k := 2) rfl (nI_1 _) (by decide) rfl (fun ls hl => ?_)
          refine lv_goto (tgt := 30) hx hb dX5_forget_80 (by decide) ?_
          have e3 : (m_foN S (va_up V 0 0) ai pi (k + 1)) = ((m_foN S (va_up V 0 0) ai pi k) + 0) := by simp [m_foN, m_foS, c_9, xai, c_16, xpi, c_59]
          have eS : (m_foS S ai pi (k + 1)) = (va_up (m_foS S ai pi k) 12 (upd ((m_foS S ai pi k) 12) (60 * ai + 6 * pi + k) (-1))) := by simp [m_foS]
          exact ih_30 H locs ls (by show va_P D vwCl (mW cI cZ X (m_foS S ai pi (k + 1)) O (va_up V 0 0)) H; rw [eS]; exact hP) (by show va_D A (mW cI cZ X (m_foS S ai pi (k + 1)) O (va_up V 0 0)); rw [eS]; exact hD) hS (by show lv_has ls 6 [(4, .int (nI (k + 1))), (3, .int (m_foN S (va_up V 0 0) ai pi (k + 1))), (0, .ref (X 0)), (1, .int x0), (2, .int x1)]; rw [e3]; exact lv_sub hl [0, 1, 3, 4, 5] rfl)
        · refine lv_iconst (v := 1) hx hb dX5_forget_62 rfl ?_
          refine lv_goto (tgt := 67) hx hb dX5_forget_63 (by decide) ?_
          refine lv_iadd hx hb dX5_forget_67 ?_
          refine lv_istore_n (lv' := [(3, .int ((m_foN S (va_up V 0 0) ai pi k) + 1)), (5, .int (nI (60 * ai + 6 * pi + k))), (4, .int (nI k)), (0, .ref (X 0)), (1, .int x0), (2, .int x1)]) hx hb dX5_forget_68 rfl hl (by decide) rfl (fun ls hl => ?_)
          refine lv_aload_n hx hb dX5_forget_69 rfl (lv_at hl 3 rfl) ?_
          refine va_get (D := D) (ci := 5) (v := .ref (X 12)) (C := RX5) (T := TX5) (N := 17) hx hb hts i5 hown hK hP 0 rfl rfl 16 (by decide) fl_44 (fun _ h9 => h9) rfl dX5_forget_70 ?_
          refine lv_iload hx hb dX5_forget_73 (lv_at hl 1 rfl) ?_
          refine lv_iconst (v := (-1)) hx hb dX5_forget_75 rfl ?_
          refine z_iast (D := D) (j := 60 * ai + 6 * pi + k) (f := (m_foS S ai pi k) 12) hx hb hK hP hD hS 12 0 rfl rfl (by omega) (by decide) dX5_forget_76 (fun H locs hP hD hS => ?_)
          have hP : va_P D vwCl (mW cI cZ X (va_up (m_foS S ai pi k) 12 (upd ((m_foS S ai pi k) 12) (60 * ai + 6 * pi + k) (-1))) O (va_up V 0 0)) H := hP
          have hD : va_D A (mW cI cZ X (va_up (m_foS S ai pi k) 12 (upd ((m_foS S ai pi k) 12) (60 * ai + 6 * pi + k) (-1))) O (va_up V 0 0)) := hD
          refine lv_iinc (v := nI (k + 1)) (lv' := [(4, .int (nI (k + 1))), (3, .int ((m_foN S (va_up V 0 0) ai pi k) + 1)), (5, .int (nI (60 * ai + 6 * pi + k))), (0, .ref (X 0)), (1, .int x0), (2, .int x1)]) hx hb dX5_forget_77 hl (k := 2) rfl (nI_1 _) (by decide) rfl (fun ls hl => ?_)
          refine lv_goto (tgt := 30) hx hb dX5_forget_80 (by decide) ?_
          have e3 : (m_foN S (va_up V 0 0) ai pi (k + 1)) = ((m_foN S (va_up V 0 0) ai pi k) + 1) := by simp [m_foN, m_foS, c_9, xai, c_16, xpi, c_59]
          have eS : (m_foS S ai pi (k + 1)) = (va_up (m_foS S ai pi k) 12 (upd ((m_foS S ai pi k) 12) (60 * ai + 6 * pi + k) (-1))) := by simp [m_foS]
          exact ih_30 H locs ls (by show va_P D vwCl (mW cI cZ X (m_foS S ai pi (k + 1)) O (va_up V 0 0)) H; rw [eS]; exact hP) (by show va_D A (mW cI cZ X (m_foS S ai pi (k + 1)) O (va_up V 0 0)); rw [eS]; exact hD) hS (by show lv_has ls 6 [(4, .int (nI (k + 1))), (3, .int (m_foN S (va_up V 0 0) ai pi (k + 1))), (0, .ref (X 0)), (1, .int x0), (2, .int x1)]; rw [e3]; exact lv_sub hl [0, 1, 3, 4, 5] rfl)
    · refine lv_aload_n hx hb dX5_forget_19 rfl (lv_at hl 0 rfl) ?_
      refine lv_iconst (v := 1) hx hb dX5_forget_20 rfl ?_
      have hF := z_free hD hS hA
      refine z_callWi (va_runV (As := [.int 1]) (rest := []) ⟨hx, hb, hml, hown, hts⟩ (kX5_fails l D cI cZ X S O (va_up V 0 0) _ 1) (cwV 1 hts gX5_forget_X5_fails rfl rfl rfl (by decide +kernel) ⟨Nat.le_of_ble_eq_true rfl, Nat.le_of_ble_eq_true rfl⟩) (zW_preV 0 5 hK hP hD rfl rfl) rfl rfl hl.1 rfl (lv_room (Nat.le_of_ble_eq_true rfl)) dX5_forget_21 ⟨Nat.zero_le _, Nat.zero_le _⟩) hS hF (fun H locs hP hD hS => ?_)
      have eS : (if m_foOk x0 x1 = true then m_foS S (ix x0) (ix x1) 6 else S) = S := by simp [m_foOk, bx_uu, bi, c_9, xai, c_16]
      have eV : (va_up V 0 (if m_foOk x0 x1 = true then 0 else 1)) = (va_up (va_up V 0 0) 0 1) := by simp [m_foOk, bx_uu, bi, c_9, xai, c_16]
      exact z_wret hx hb hr hlocks (by rw [eS, eV]; exact hP) hK (by rw [eS, eV]; exact hD) hS (by simp [m_foOk, bx_uu, bi, c_9, xai, c_16]) dX5_forget_24

set_option maxHeartbeats 4000000 in
set_option maxRecDepth 100000 in
theorem kX5_stale (l : Launch) (D : va_G) (cI cZ : ClassId) (X : Nat → Nat) (S : Nat → Nat → Int32) (O : Nat → Bool) (V : Nat → Int32) (sz : Nat) (x0 : Int32) : Met l yX5_stale wsX5_stale ({ frames := 5, cells := 0, slots := 0, locals := 117 } : Room) (zW D (tyl cI cZ) (mW cI cZ X S O V) sz [.ref (X 0), .int x0]) (zQi D (tyl cI cZ) (mW cI cZ X S O (va_up V 0 (if m_in x0 0 3 = true then 0 else 1))) (if m_in x0 0 3 = true then m_stN S (va_up V 0 0) (ix x0) 60 else 0) (va_A (mW cI cZ X S O V) sz)) 0 0 (va_A (mW cI cZ X S O V) sz) := by
  refine Met.ofW (cc := cX5_stale) (maxL := 5) (ret := (some .int)) (by decide) rfl ?_
  intro p e s m args below meth c s₁ B hml hv
  obtain ⟨rfl, hsz, hP, hK, hD0⟩ := hv
  have hx := B.exec
  have hb := B.bytes
  have hr := B.returns
  have hts := atoms_spec (ws := wsX5_stale) B.pre
  have hown : s.vm.findClass RX5 = some m.cls := findClass_of_methodNamed B.named
  have hlocks := B.notSynchronized
  subst hsz
  have hD := hD0.self (sz := s.heap.size)
  generalize hAe : va_A (mW cI cZ X S O V) s.heap.size = A at hD ⊢
  have hA : ∀ q : Nat, s.heap.size ≤ q → A q := fun q h => by rw [← hAe]; exact Or.inr h
  have hS : va_S A s.heap s.heap [] := va_S.rf
  have i5 : ∀ w ∈ u_ws RX5 TX5 17, w ∈ wsX5_stale := by decide +kernel
  have fl_44 := hts (.fieldLink RX5 44 "SignOnHouseModel" "kept" "[I") (by decide +kernel)
  have fl_47 := hts (.fieldLink RX5 47 "SignOnHouseModel" "thrown" "I") (by decide +kernel)
  have hl := lv_entry ([.ref (X 0), .int x0]) (n := 5) (Nat.le_of_ble_eq_true rfl)
  rw [lg_entry_eq]
  generalize (lg_sl ([.ref (X 0), .int x0]) ++ List.replicate (5 - (lg_sl ([.ref (X 0), .int x0])).length) Slot.unset).toArray = ls at hl ⊢
  have hl : lv_has ls 5 [(0, .ref (X 0)), (1, .int x0)] := hl
  refine lv_aload_n hx hb dX5_stale_0 rfl (lv_at hl 0 rfl) ?_
  refine lv_iconst (v := 0) hx hb dX5_stale_1 rfl ?_
  refine va_put (D := D) (ci := 5) (v := .int 0) (ty := .int) (C := RX5) (T := TX5) (N := 17) hx hb hts i5 tyX5 tyX5_ok nmX5 hown hK hP hD hS 0 rfl rfl 0 (by decide) fl_47 (fun _ h9 => h9) rfl (by decide +kernel) rfl rfl (Nat.le_of_ble_eq_true rfl) dX5_stale_2 (fun H locs hP hD hS => ?_)
  have hP : va_P D vwCl (mW cI cZ X S O (va_up V 0 0)) H := hP
  have hD : va_D A (mW cI cZ X S O (va_up V 0 0)) := hD
  refine lv_iload_n hx hb dX5_stale_5 rfl (lv_at hl 1 rfl) ?_
  refine z_callR (W.runS (As := [.int x0]) (rest := []) ⟨hx, hb, hml, hown, hts⟩ (kX5_isApp l x0) (va_cwS 1 hts gX5_stale_X5_isApp rfl rfl rfl (by decide +kernel) ⟨Nat.le_of_ble_eq_true rfl, Nat.le_of_ble_eq_true rfl⟩) zP_pre rfl rfl hl.1 rfl (lv_room (Nat.le_of_ble_eq_true rfl)) dX5_stale_6 ⟨Nat.zero_le _, Nat.zero_le _⟩) ?_
  refine z_if_ne (tgt := 18) hx hb dX5_stale_9 (by decide) (fun c_9 => ?_) (fun c_9 => ?_)
  · obtain ⟨ai, hai, eai⟩ := m_in3 c_9
    have xai : ix x0 = ai := ix_of eai (by omega)
    refine lv_iconst (v := 0) hx hb dX5_stale_18 rfl ?_
    refine lv_istore_n (lv' := [(2, .int 0), (0, .ref (X 0)), (1, .int x0)]) hx hb dX5_stale_19 rfl hl (by decide) rfl (fun ls hl => ?_)
    refine lv_iconst (v := nI 0) hx hb dX5_stale_20 rfl ?_
    refine lv_istore_n (lv' := [(3, .int (nI 0)), (2, .int 0), (0, .ref (X 0)), (1, .int x0)]) hx hb dX5_stale_21 rfl hl (by decide) rfl (fun ls hl => ?_)
    refine z_loop (N := 60) (nL := 5) (Lc := (fun k => [(3, .int (nI k)), (2, .int (m_stN S (va_up V 0 0) ai k)), (0, .ref (X 0)), (1, .int x0)])) (lv_sub hl [0, 1, 2, 3] rfl) (fun ls hl => ?_) (fun k ls hk hl ih => ?_)
    · have hl : lv_has ls 5 [(3, .int (nI 60)), (2, .int (m_stN S (va_up V 0 0) ai 60)), (0, .ref (X 0)), (1, .int x0)] := hl
      refine lv_iload_n hx hb dX5_stale_22 rfl (lv_at hl 0 rfl) ?_
      refine lv_bipush (v := nI 60) hx hb dX5_stale_23 (by decide) ?_
      refine z_ge_t (tgt := 93) (nI_le (by omega) (by omega)) hx hb dX5_stale_25 (by decide) ?_
      refine lv_iload_n hx hb dX5_stale_93 rfl (lv_at hl 1 rfl) ?_
      have eV : (va_up V 0 (if m_in x0 0 3 = true then 0 else 1)) = (va_up V 0 0) := by simp [bx_uu, bi, c_9, xai]
      exact z_wret hx hb hr hlocks (by rw [eV]; exact hP) hK (by rw [eV]; exact hD) hS (by simp [bx_uu, bi, c_9, xai]) dX5_stale_94
    · have hl : lv_has ls 5 [(3, .int (nI k)), (2, .int (m_stN S (va_up V 0 0) ai k)), (0, .ref (X 0)), (1, .int x0)] := hl
      have ih_22 := ih
      refine lv_iload_n hx hb dX5_stale_22 rfl (lv_at hl 0 rfl) ?_
      refine lv_bipush (v := nI 60) hx hb dX5_stale_23 (by decide) ?_
      refine z_ge_f (tgt := 93) (nI_ge (by omega) (by omega)) hx hb dX5_stale_25 (by decide) ?_
      refine lv_bipush (v := 60) hx hb dX5_stale_28 (by decide) ?_
      refine lv_iload_n hx hb dX5_stale_30 rfl (lv_at hl 3 rfl) ?_
      refine lv_imul hx hb dX5_stale_31 ?_
      refine lv_iload_n hx hb dX5_stale_32 rfl (lv_at hl 0 rfl) ?_
      refine lv_iadd hx hb dX5_stale_33 ?_
      refine z_top (nI (60 * ai + k)) (by rw [eai]; simp only [show (60 : Int32) = nI 60 from rfl, show (6 : Int32) = nI 6 from rfl, pk_mul, nI_add]) ?_
      refine lv_istore (lv' := [(4, .int (nI (60 * ai + k))), (3, .int (nI k)), (2, .int (m_stN S (va_up V 0 0) ai k)), (0, .ref (X 0)), (1, .int x0)]) hx hb dX5_stale_34 hl (by decide) rfl (fun ls hl => ?_)
      refine lv_iload_n hx hb dX5_stale_36 rfl (lv_at hl 2 rfl) ?_
      refine lv_aload_n hx hb dX5_stale_37 rfl (lv_at hl 3 rfl) ?_
      refine lv_iload_n hx hb dX5_stale_38 rfl (lv_at hl 4 rfl) ?_
      refine z_top (nI ai) eai ?_
      refine lv_iload hx hb dX5_stale_39 (lv_at hl 0 rfl) ?_
      refine z_callR (W.runV (As := [.int (nI ai), .int (nI (60 * ai + k))]) (rest := [.int (m_stN S (va_up V 0 0) ai k)]) ⟨hx, hb, hml, hown, hts⟩ (kX5_keeps l D cI cZ X S O (va_up V 0 0) ai (60 * ai + k) (by omega) (by omega)) (cwV 2 hts gX5_stale_X5_keeps rfl rfl rfl (by decide +kernel) ⟨Nat.le_of_ble_eq_true rfl, Nat.le_of_ble_eq_true rfl⟩) (zR_preV 0 5 hK hP rfl rfl) rfl rfl hl.1 rfl (lv_room (Nat.le_of_ble_eq_true rfl)) dX5_stale_41 ⟨Nat.zero_le _, Nat.zero_le _⟩) ?_
      refine z_if_eq (tgt := 84) hx hb dX5_stale_44 (by decide) (fun c_44 => ?_) (fun c_44 => ?_)
      · refine lv_iconst (v := 0) hx hb dX5_stale_84 rfl ?_
        refine lv_iadd hx hb dX5_stale_85 ?_
        refine lv_istore_n (lv' := [(2, .int ((m_stN S (va_up V 0 0) ai k) + 0)), (4, .int (nI (60 * ai + k))), (3, .int (nI k)), (0, .ref (X 0)), (1, .int x0)]) hx hb dX5_stale_86 rfl hl (by decide) rfl (fun ls hl => ?_)
        refine lv_iinc (v := nI (k + 1)) (lv' := [(3, .int (nI (k + 1))), (2, .int ((m_stN S (va_up V 0 0) ai k) + 0)), (4, .int (nI (60 * ai + k))), (0, .ref (X 0)), (1, .int x0)]) hx hb dX5_stale_87 hl (k := 2) rfl (nI_1 _) (by decide) rfl (fun ls hl => ?_)
        refine lv_goto (tgt := 22) hx hb dX5_stale_90 (by decide) ?_
        have e2 : (m_stN S (va_up V 0 0) ai (k + 1)) = ((m_stN S (va_up V 0 0) ai k) + 0) := by simp [m_stN, m_st1, bi, c_9, xai, c_44]
        exact ih_22 ls (by show lv_has ls 5 [(3, .int (nI (k + 1))), (2, .int (m_stN S (va_up V 0 0) ai (k + 1))), (0, .ref (X 0)), (1, .int x0)]; rw [e2]; exact lv_sub hl [0, 1, 3, 4] rfl)
      · refine lv_aload_n hx hb dX5_stale_47 rfl (lv_at hl 3 rfl) ?_
        refine va_get (D := D) (ci := 5) (v := .ref (X 12)) (C := RX5) (T := TX5) (N := 17) hx hb hts i5 hown hK hP 0 rfl rfl 16 (by decide) fl_44 (fun _ h9 => h9) rfl dX5_stale_48 ?_
        refine lv_iload hx hb dX5_stale_51 (lv_at hl 0 rfl) ?_
        refine z_iald (D := D) (j := 60 * ai + k) (f := S 12) hx hb hK hP 12 0 rfl rfl (by omega) (by decide) dX5_stale_53 ?_
        refine lv_iconst (v := 2) hx hb dX5_stale_54 rfl ?_
        refine lv_irem hx hb dX5_stale_55 (by decide) ?_
        refine lv_iconst (v := 1) hx hb dX5_stale_56 rfl ?_
        refine z_sel_icmp_ne hx hb dX5_stale_57 dX5_stale_60 dX5_stale_61 dX5_stale_64 ?_
        refine lv_aload_n hx hb dX5_stale_65 rfl (lv_at hl 3 rfl) ?_
        refine lv_iload_n hx hb dX5_stale_66 rfl (lv_at hl 1 rfl) ?_
        refine lv_bipush (v := 6) hx hb dX5_stale_67 (by decide) ?_
        refine lv_idiv hx hb dX5_stale_69 (by decide) ?_
        refine z_top (nI (k / 6)) (by rw [show (6 : Int32) = nI 6 from rfl]; exact pk_div (by omega) (by decide) (by decide)) ?_
        refine lv_iload_n hx hb dX5_stale_70 rfl (lv_at hl 1 rfl) ?_
        refine lv_bipush (v := 6) hx hb dX5_stale_71 (by decide) ?_
        refine lv_irem hx hb dX5_stale_73 (by decide) ?_
        refine z_top (nI (k % 6)) (by rw [show (6 : Int32) = nI 6 from rfl]; exact pk_rem (by omega) (by decide) (by decide)) ?_
        refine z_callR (W.runV (As := [.int (nI (k / 6)), .int (nI (k % 6))]) (rest := [.int (bi (decide ((S 12 (60 * ai + k)) - (S 12 (60 * ai + k)) / 2 * 2 = 1))), .int (m_stN S (va_up V 0 0) ai k)]) ⟨hx, hb, hml, hown, hts⟩ (kX5_lets l D cI cZ X S O (va_up V 0 0) (k / 6) (k % 6) (by omega) (by omega)) (cwV 2 hts gX5_stale_X5_lets rfl rfl rfl (by decide +kernel) ⟨Nat.le_of_ble_eq_true rfl, Nat.le_of_ble_eq_true rfl⟩) (zR_preV 0 5 hK hP rfl rfl) rfl rfl hl.1 rfl (lv_room (Nat.le_of_ble_eq_true rfl)) dX5_stale_74 ⟨Nat.zero_le _, Nat.zero_le _⟩) ?_
        refine z_sel_icmp_eq hx hb dX5_stale_77 dX5_stale_80 dX5_stale_81 dX5_stale_84 ?_
        refine lv_iadd hx hb dX5_stale_85 ?_
        refine lv_istore_n (lv' := [(2, .int ((m_stN S (va_up V 0 0) ai k) + (bi (!decide (bi (decide ((S 12 (60 * ai + k)) - (S 12 (60 * ai + k)) / 2 * 2 = 1)) = bi (m_lets S (va_up V 0 0) (k / 6) (k % 6))))))), (4, .int (nI (60 * ai + k))), (3, .int (nI k)), (0, .ref (X 0)), (1, .int x0)]) hx hb dX5_stale_86 rfl hl (by decide) rfl (fun ls hl => ?_)
        refine lv_iinc (v := nI (k + 1)) (lv' := [(3, .int (nI (k + 1))), (2, .int ((m_stN S (va_up V 0 0) ai k) + (bi (!decide (bi (decide ((S 12 (60 * ai + k)) - (S 12 (60 * ai + k)) / 2 * 2 = 1)) = bi (m_lets S (va_up V 0 0) (k / 6) (k % 6))))))), (4, .int (nI (60 * ai + k))), (0, .ref (X 0)), (1, .int x0)]) hx hb dX5_stale_87 hl (k := 2) rfl (nI_1 _) (by decide) rfl (fun ls hl => ?_)
        refine lv_goto (tgt := 22) hx hb dX5_stale_90 (by decide) ?_
        have e2 : (m_stN S (va_up V 0 0) ai (k + 1)) = ((m_stN S (va_up V 0 0) ai k) + (bi (!decide (bi (decide ((S 12 (60 * ai + k)) - (S 12 (60 * ai + k)) / 2 * 2 = 1)) = bi (m_lets S (va_up V 0 0) (k / 6) (k % 6)))))) := by simp [m_stN, m_st1, bi, c_9, xai, c_44]
        exact ih_22 ls (by show lv_has ls 5 [(3, .int (nI (k + 1))), (2, .int (m_stN S (va_up V 0 0) ai (k + 1))), (0, .ref (X 0)), (1, .int x0)]; rw [e2]; exact lv_sub hl [0, 1, 3, 4] rfl)
  · refine lv_aload_n hx hb dX5_stale_12 rfl (lv_at hl 0 rfl) ?_
    refine lv_iconst (v := 1) hx hb dX5_stale_13 rfl ?_
    have hF := z_free hD hS hA
    refine z_callWi (va_runV (As := [.int 1]) (rest := []) ⟨hx, hb, hml, hown, hts⟩ (kX5_fails l D cI cZ X S O (va_up V 0 0) _ 1) (cwV 1 hts gX5_stale_X5_fails rfl rfl rfl (by decide +kernel) ⟨Nat.le_of_ble_eq_true rfl, Nat.le_of_ble_eq_true rfl⟩) (zW_preV 0 5 hK hP hD rfl rfl) rfl rfl hl.1 rfl (lv_room (Nat.le_of_ble_eq_true rfl)) dX5_stale_14 ⟨Nat.zero_le _, Nat.zero_le _⟩) hS hF (fun H locs hP hD hS => ?_)
    have eV : (va_up V 0 (if m_in x0 0 3 = true then 0 else 1)) = (va_up (va_up V 0 0) 0 1) := by simp [bx_uu, bi, c_9]
    exact z_wret hx hb hr hlocks (by rw [eV]; exact hP) hK (by rw [eV]; exact hD) hS (by simp [bx_uu, bi, c_9]) dX5_stale_17
