set_option maxHeartbeats 4000000 in
set_option maxRecDepth 100000 in
theorem kX5_thrown (l : Launch) (D : va_G) (cI cZ : ClassId) (X : Nat → Nat) (S : Nat → Nat → Int32) (O : Nat → Bool) (V : Nat → Int32)  : Met l yX5_thrown wsX5_thrown ({ frames := 0, cells := 0, slots := 0, locals := 0 } : Room) (zR D (tyl cI cZ) (mW cI cZ X S O V) [.ref (X 0)]) (QcRead (V 0)) 0 0 (fun _ => False) := by
  refine Met.ofW (cc := cX5_thrown) (maxL := 1) (ret := (some .int)) (by decide) rfl ?_
  intro p e s m args below meth c s₁ B hml hv
  obtain ⟨rfl, hP, hK⟩ := hv
  have hx := B.exec
  have hb := B.bytes
  have hr := B.returns
  have hts := atoms_spec (ws := wsX5_thrown) B.pre
  have hown : s.vm.findClass RX5 = some m.cls := findClass_of_methodNamed B.named
  have hlocks := B.notSynchronized
  have i5 : ∀ w ∈ u_ws RX5 TX5 17, w ∈ wsX5_thrown := by decide +kernel
  have fl_47 := hts (.fieldLink RX5 47 "SignOnHouseModel" "thrown" "I") (by decide +kernel)
  have hl := lv_entry ([.ref (X 0)]) (n := 1) (Nat.le_of_ble_eq_true rfl)
  rw [lg_entry_eq]
  generalize (lg_sl ([.ref (X 0)]) ++ List.replicate (1 - (lg_sl ([.ref (X 0)])).length) Slot.unset).toArray = ls at hl ⊢
  have hl : lv_has ls 1 [(0, .ref (X 0))] := hl
  refine lv_aload_n hx hb dX5_thrown_0 rfl (lv_at hl 0 rfl) ?_
  refine va_get (D := D) (ci := 5) (v := .int (V 0)) (C := RX5) (T := TX5) (N := 17) hx hb hts i5 hown hK hP 0 rfl rfl 0 (by decide) fl_47 (fun _ h9 => h9) rfl dX5_thrown_1 ?_
  exact z_ret hx hb hr hlocks rfl dX5_thrown_4

set_option maxHeartbeats 4000000 in
set_option maxRecDepth 100000 in
theorem kX5_fails (l : Launch) (D : va_G) (cI cZ : ClassId) (X : Nat → Nat) (S : Nat → Nat → Int32) (O : Nat → Bool) (V : Nat → Int32) (sz : Nat) (x0 : Int32) : Met l yX5_fails wsX5_fails ({ frames := 0, cells := 0, slots := 0, locals := 0 } : Room) (zW D (tyl cI cZ) (mW cI cZ X S O V) sz [.ref (X 0), .int x0]) (zQi D (tyl cI cZ) (mW cI cZ X S O (va_up V 0 x0)) 0 (va_A (mW cI cZ X S O V) sz)) 0 0 (va_A (mW cI cZ X S O V) sz) := by
  refine Met.ofW (cc := cX5_fails) (maxL := 2) (ret := (some .int)) (by decide) rfl ?_
  intro p e s m args below meth c s₁ B hml hv
  obtain ⟨rfl, hsz, hP, hK, hD0⟩ := hv
  have hx := B.exec
  have hb := B.bytes
  have hr := B.returns
  have hts := atoms_spec (ws := wsX5_fails) B.pre
  have hown : s.vm.findClass RX5 = some m.cls := findClass_of_methodNamed B.named
  have hlocks := B.notSynchronized
  subst hsz
  have hD := hD0.self (sz := s.heap.size)
  generalize hAe : va_A (mW cI cZ X S O V) s.heap.size = A at hD ⊢
  have hA : ∀ q : Nat, s.heap.size ≤ q → A q := fun q h => by rw [← hAe]; exact Or.inr h
  have hS : va_S A s.heap s.heap [] := va_S.rf
  have i5 : ∀ w ∈ u_ws RX5 TX5 17, w ∈ wsX5_fails := by decide +kernel
  have fl_47 := hts (.fieldLink RX5 47 "SignOnHouseModel" "thrown" "I") (by decide +kernel)
  have hl := lv_entry ([.ref (X 0), .int x0]) (n := 2) (Nat.le_of_ble_eq_true rfl)
  rw [lg_entry_eq]
  generalize (lg_sl ([.ref (X 0), .int x0]) ++ List.replicate (2 - (lg_sl ([.ref (X 0), .int x0])).length) Slot.unset).toArray = ls at hl ⊢
  have hl : lv_has ls 2 [(0, .ref (X 0)), (1, .int x0)] := hl
  refine lv_aload_n hx hb dX5_fails_0 rfl (lv_at hl 0 rfl) ?_
  refine lv_iload_n hx hb dX5_fails_1 rfl (lv_at hl 1 rfl) ?_
  refine va_put (D := D) (ci := 5) (v := .int x0) (ty := .int) (C := RX5) (T := TX5) (N := 17) hx hb hts i5 tyX5 tyX5_ok nmX5 hown hK hP hD hS 0 rfl rfl 0 (by decide) fl_47 (fun _ h9 => h9) rfl (by decide +kernel) rfl rfl (Nat.le_of_ble_eq_true rfl) dX5_fails_2 (fun H locs hP hD hS => ?_)
  have hP : va_P D vwCl (mW cI cZ X S O (va_up V 0 x0)) H := hP
  have hD : va_D A (mW cI cZ X S O (va_up V 0 x0)) := hD
  refine lv_iconst (v := 0) hx hb dX5_fails_5 rfl ?_
  exact z_wret hx hb hr hlocks hP hK hD hS rfl dX5_fails_6

set_option maxHeartbeats 4000000 in
set_option maxRecDepth 100000 in
theorem kX5_in (l : Launch) (x0 : Int32) (x1 : Int32) (x2 : Int32) : Met l yX5_in wsX5_in ({ frames := 0, cells := 0, slots := 0, locals := 0 } : Room) (zP [.int x0, .int x1, .int x2]) (QcRead (bi (m_in x0 x1 x2))) 0 0 (fun _ => False) := by
  refine Met.ofW (cc := cX5_in) (maxL := 3) (ret := (some .boolean)) (by decide) rfl ?_
  intro p e s m args below meth c s₁ B hml hv
  obtain rfl := hv
  have hx := B.exec
  have hb := B.bytes
  have hr := B.returns
  have hts := atoms_spec (ws := wsX5_in) B.pre
  have hown : s.vm.findClass RX5 = some m.cls := findClass_of_methodNamed B.named
  have hlocks := B.notSynchronized
  have hl := lv_entry ([.int x0, .int x1, .int x2]) (n := 3) (Nat.le_of_ble_eq_true rfl)
  rw [lg_entry_eq]
  generalize (lg_sl ([.int x0, .int x1, .int x2]) ++ List.replicate (3 - (lg_sl ([.int x0, .int x1, .int x2])).length) Slot.unset).toArray = ls at hl ⊢
  have hl : lv_has ls 3 [(0, .int x0), (1, .int x1), (2, .int x2)] := hl
  refine lv_iload_n hx hb dX5_in_0 rfl (lv_at hl 0 rfl) ?_
  refine lv_iload_n hx hb dX5_in_1 rfl (lv_at hl 1 rfl) ?_
  refine lv_icmp_lt (tgt := 14) hx hb dX5_in_2 (by decide) (fun c_2 => ?_) (fun c_2 => ?_)
  · refine lv_iconst (v := 0) hx hb dX5_in_14 rfl ?_
    exact z_zret hx hb hr hlocks (by simp [m_in, bi, c_2]) dX5_in_15
  · refine lv_iload_n hx hb dX5_in_5 rfl (lv_at hl 0 rfl) ?_
    refine lv_iload_n hx hb dX5_in_6 rfl (lv_at hl 2 rfl) ?_
    refine z_sel_icmp_gt hx hb dX5_in_7 dX5_in_10 dX5_in_11 dX5_in_14 ?_
    exact z_zret hx hb hr hlocks (by simp [m_in, bi, c_2]) dX5_in_15

set_option maxHeartbeats 4000000 in
set_option maxRecDepth 100000 in
theorem kX5_isPerson (l : Launch) (x0 : Int32) : Met l yX5_isPerson wsX5_isPerson ({ frames := 1, cells := 0, slots := 0, locals := 22 } : Room) (zP [.int x0]) (QcRead (bi (m_in x0 0 9))) 0 0 (fun _ => False) := by
  refine Met.ofW (cc := cX5_isPerson) (maxL := 1) (ret := (some .boolean)) (by decide) rfl ?_
  intro p e s m args below meth c s₁ B hml hv
  obtain rfl := hv
  have hx := B.exec
  have hb := B.bytes
  have hr := B.returns
  have hts := atoms_spec (ws := wsX5_isPerson) B.pre
  have hown : s.vm.findClass RX5 = some m.cls := findClass_of_methodNamed B.named
  have hlocks := B.notSynchronized
  have hl := lv_entry ([.int x0]) (n := 1) (Nat.le_of_ble_eq_true rfl)
  rw [lg_entry_eq]
  generalize (lg_sl ([.int x0]) ++ List.replicate (1 - (lg_sl ([.int x0])).length) Slot.unset).toArray = ls at hl ⊢
  have hl : lv_has ls 1 [(0, .int x0)] := hl
  refine lv_iload_n hx hb dX5_isPerson_0 rfl (lv_at hl 0 rfl) ?_
  refine lv_iconst (v := 0) hx hb dX5_isPerson_1 rfl ?_
  refine lv_bipush (v := 9) hx hb dX5_isPerson_2 (by decide) ?_
  refine z_callR (W.runS (As := [.int x0, .int 0, .int 9]) (rest := []) ⟨hx, hb, hml, hown, hts⟩ (kX5_in l x0 0 9) (va_cwS 3 hts gX5_isPerson_X5_in rfl rfl rfl (by decide +kernel) ⟨Nat.le_of_ble_eq_true rfl, Nat.le_of_ble_eq_true rfl⟩) zP_pre rfl rfl hl.1 rfl (lv_room (Nat.le_of_ble_eq_true rfl)) dX5_isPerson_4 ⟨Nat.zero_le _, Nat.zero_le _⟩) ?_
  exact z_zret hx hb hr hlocks rfl dX5_isPerson_7

set_option maxHeartbeats 4000000 in
set_option maxRecDepth 100000 in
theorem kX5_isGroup (l : Launch) (x0 : Int32) : Met l yX5_isGroup wsX5_isGroup ({ frames := 1, cells := 0, slots := 0, locals := 22 } : Room) (zP [.int x0]) (QcRead (bi (m_in x0 0 7))) 0 0 (fun _ => False) := by
  refine Met.ofW (cc := cX5_isGroup) (maxL := 1) (ret := (some .boolean)) (by decide) rfl ?_
  intro p e s m args below meth c s₁ B hml hv
  obtain rfl := hv
  have hx := B.exec
  have hb := B.bytes
  have hr := B.returns
  have hts := atoms_spec (ws := wsX5_isGroup) B.pre
  have hown : s.vm.findClass RX5 = some m.cls := findClass_of_methodNamed B.named
  have hlocks := B.notSynchronized
  have hl := lv_entry ([.int x0]) (n := 1) (Nat.le_of_ble_eq_true rfl)
  rw [lg_entry_eq]
  generalize (lg_sl ([.int x0]) ++ List.replicate (1 - (lg_sl ([.int x0])).length) Slot.unset).toArray = ls at hl ⊢
  have hl : lv_has ls 1 [(0, .int x0)] := hl
  refine lv_iload_n hx hb dX5_isGroup_0 rfl (lv_at hl 0 rfl) ?_
  refine lv_iconst (v := 0) hx hb dX5_isGroup_1 rfl ?_
  refine lv_bipush (v := 7) hx hb dX5_isGroup_2 (by decide) ?_
  refine z_callR (W.runS (As := [.int x0, .int 0, .int 7]) (rest := []) ⟨hx, hb, hml, hown, hts⟩ (kX5_in l x0 0 7) (va_cwS 3 hts gX5_isGroup_X5_in rfl rfl rfl (by decide +kernel) ⟨Nat.le_of_ble_eq_true rfl, Nat.le_of_ble_eq_true rfl⟩) zP_pre rfl rfl hl.1 rfl (lv_room (Nat.le_of_ble_eq_true rfl)) dX5_isGroup_4 ⟨Nat.zero_le _, Nat.zero_le _⟩) ?_
  exact z_zret hx hb hr hlocks rfl dX5_isGroup_7

set_option maxHeartbeats 4000000 in
set_option maxRecDepth 100000 in
theorem kX5_isRole (l : Launch) (x0 : Int32) : Met l yX5_isRole wsX5_isRole ({ frames := 1, cells := 0, slots := 0, locals := 22 } : Room) (zP [.int x0]) (QcRead (bi (m_in x0 0 5))) 0 0 (fun _ => False) := by
  refine Met.ofW (cc := cX5_isRole) (maxL := 1) (ret := (some .boolean)) (by decide) rfl ?_
  intro p e s m args below meth c s₁ B hml hv
  obtain rfl := hv
  have hx := B.exec
  have hb := B.bytes
  have hr := B.returns
  have hts := atoms_spec (ws := wsX5_isRole) B.pre
  have hown : s.vm.findClass RX5 = some m.cls := findClass_of_methodNamed B.named
  have hlocks := B.notSynchronized
  have hl := lv_entry ([.int x0]) (n := 1) (Nat.le_of_ble_eq_true rfl)
  rw [lg_entry_eq]
  generalize (lg_sl ([.int x0]) ++ List.replicate (1 - (lg_sl ([.int x0])).length) Slot.unset).toArray = ls at hl ⊢
  have hl : lv_has ls 1 [(0, .int x0)] := hl
  refine lv_iload_n hx hb dX5_isRole_0 rfl (lv_at hl 0 rfl) ?_
  refine lv_iconst (v := 0) hx hb dX5_isRole_1 rfl ?_
  refine lv_iconst (v := 5) hx hb dX5_isRole_2 rfl ?_
  refine z_callR (W.runS (As := [.int x0, .int 0, .int 5]) (rest := []) ⟨hx, hb, hml, hown, hts⟩ (kX5_in l x0 0 5) (va_cwS 3 hts gX5_isRole_X5_in rfl rfl rfl (by decide +kernel) ⟨Nat.le_of_ble_eq_true rfl, Nat.le_of_ble_eq_true rfl⟩) zP_pre rfl rfl hl.1 rfl (lv_room (Nat.le_of_ble_eq_true rfl)) dX5_isRole_3 ⟨Nat.zero_le _, Nat.zero_le _⟩) ?_
  exact z_zret hx hb hr hlocks rfl dX5_isRole_6

set_option maxHeartbeats 4000000 in
set_option maxRecDepth 100000 in
theorem kX5_isApp (l : Launch) (x0 : Int32) : Met l yX5_isApp wsX5_isApp ({ frames := 1, cells := 0, slots := 0, locals := 22 } : Room) (zP [.int x0]) (QcRead (bi (m_in x0 0 3))) 0 0 (fun _ => False) := by
  refine Met.ofW (cc := cX5_isApp) (maxL := 1) (ret := (some .boolean)) (by decide) rfl ?_
  intro p e s m args below meth c s₁ B hml hv
  obtain rfl := hv
  have hx := B.exec
  have hb := B.bytes
  have hr := B.returns
  have hts := atoms_spec (ws := wsX5_isApp) B.pre
  have hown : s.vm.findClass RX5 = some m.cls := findClass_of_methodNamed B.named
  have hlocks := B.notSynchronized
  have hl := lv_entry ([.int x0]) (n := 1) (Nat.le_of_ble_eq_true rfl)
  rw [lg_entry_eq]
  generalize (lg_sl ([.int x0]) ++ List.replicate (1 - (lg_sl ([.int x0])).length) Slot.unset).toArray = ls at hl ⊢
  have hl : lv_has ls 1 [(0, .int x0)] := hl
  refine lv_iload_n hx hb dX5_isApp_0 rfl (lv_at hl 0 rfl) ?_
  refine lv_iconst (v := 0) hx hb dX5_isApp_1 rfl ?_
  refine lv_iconst (v := 3) hx hb dX5_isApp_2 rfl ?_
  refine z_callR (W.runS (As := [.int x0, .int 0, .int 3]) (rest := []) ⟨hx, hb, hml, hown, hts⟩ (kX5_in l x0 0 3) (va_cwS 3 hts gX5_isApp_X5_in rfl rfl rfl (by decide +kernel) ⟨Nat.le_of_ble_eq_true rfl, Nat.le_of_ble_eq_true rfl⟩) zP_pre rfl rfl hl.1 rfl (lv_room (Nat.le_of_ble_eq_true rfl)) dX5_isApp_3 ⟨Nat.zero_le _, Nat.zero_le _⟩) ?_
  exact z_zret hx hb hr hlocks rfl dX5_isApp_6

set_option maxHeartbeats 4000000 in
set_option maxRecDepth 100000 in
theorem kX5_has (l : Launch) (x0 : Int32) (x1 : Int32) : Met l yX5_has wsX5_has ({ frames := 0, cells := 0, slots := 0, locals := 0 } : Room) (zP [.int x0, .int x1]) (QcRead (bi (hasB x0 x1))) 0 0 (fun _ => False) := by
  refine Met.ofW (cc := cX5_has) (maxL := 2) (ret := (some .boolean)) (by decide) rfl ?_
  intro p e s m args below meth c s₁ B hml hv
  obtain rfl := hv
  have hx := B.exec
  have hb := B.bytes
  have hr := B.returns
  have hts := atoms_spec (ws := wsX5_has) B.pre
  have hown : s.vm.findClass RX5 = some m.cls := findClass_of_methodNamed B.named
  have hlocks := B.notSynchronized
  have hl := lv_entry ([.int x0, .int x1]) (n := 2) (Nat.le_of_ble_eq_true rfl)
  rw [lg_entry_eq]
  generalize (lg_sl ([.int x0, .int x1]) ++ List.replicate (2 - (lg_sl ([.int x0, .int x1])).length) Slot.unset).toArray = ls at hl ⊢
  have hl : lv_has ls 2 [(0, .int x0), (1, .int x1)] := hl
  refine lv_iload_n hx hb dX5_has_0 rfl (lv_at hl 0 rfl) ?_
  refine lv_iload_n hx hb dX5_has_1 rfl (lv_at hl 1 rfl) ?_
  refine lv_ishr hx hb dX5_has_2 ?_
  refine lv_iconst (v := 1) hx hb dX5_has_3 rfl ?_
  refine lv_iand hx hb dX5_has_4 ?_
  refine lv_iconst (v := 1) hx hb dX5_has_5 rfl ?_
  refine z_sel_icmp_ne hx hb dX5_has_6 dX5_has_9 dX5_has_10 dX5_has_13 ?_
  exact z_zret hx hb hr hlocks (by rfl) dX5_has_14

set_option maxHeartbeats 4000000 in
set_option maxRecDepth 100000 in
theorem kX5_within (l : Launch) (D : va_G) (cI cZ : ClassId) (X : Nat → Nat) (S : Nat → Nat → Int32) (O : Nat → Bool) (V : Nat → Int32) (x0 : Int32) : Met l yX5_within wsX5_within ({ frames := 1, cells := 0, slots := 0, locals := 21 } : Room) (zR D (tyl cI cZ) (mW cI cZ X S O V) [.ref (X 0), .int x0]) (QcRead (m_wr S x0 8)) 0 0 (fun _ => False) := by
  refine Met.ofW (cc := cX5_within) (maxL := 5) (ret := (some .int)) (by decide) rfl ?_
  intro p e s m args below meth c s₁ B hml hv
  obtain ⟨rfl, hP, hK⟩ := hv
  have hx := B.exec
  have hb := B.bytes
  have hr := B.returns
  have hts := atoms_spec (ws := wsX5_within) B.pre
  have hown : s.vm.findClass RX5 = some m.cls := findClass_of_methodNamed B.named
  have hlocks := B.notSynchronized
  have i5 : ∀ w ∈ u_ws RX5 TX5 17, w ∈ wsX5_within := by decide +kernel
  have fl_13 := hts (.fieldLink RX5 13 "SignOnHouseModel" "groups" "[I") (by decide +kernel)
  have hl := lv_entry ([.ref (X 0), .int x0]) (n := 5) (Nat.le_of_ble_eq_true rfl)
  rw [lg_entry_eq]
  generalize (lg_sl ([.ref (X 0), .int x0]) ++ List.replicate (5 - (lg_sl ([.ref (X 0), .int x0])).length) Slot.unset).toArray = ls at hl ⊢
  have hl : lv_has ls 5 [(0, .ref (X 0)), (1, .int x0)] := hl
  refine lv_iconst (v := 1) hx hb dX5_within_0 rfl ?_
  refine lv_iload_n hx hb dX5_within_1 rfl (lv_at hl 1 rfl) ?_
  refine lv_ishl hx hb dX5_within_2 ?_
  refine lv_istore_n (lv' := [(2, .int (1 <<< (x0 &&& 31))), (0, .ref (X 0)), (1, .int x0)]) hx hb dX5_within_3 rfl hl (by decide) rfl (fun ls hl => ?_)
  refine lv_iconst (v := nI 0) hx hb dX5_within_4 rfl ?_
  refine lv_istore_n (lv' := [(3, .int (nI 0)), (2, .int (1 <<< (x0 &&& 31))), (0, .ref (X 0)), (1, .int x0)]) hx hb dX5_within_5 rfl hl (by decide) rfl (fun ls hl => ?_)
  refine z_loop (N := 8) (nL := 5) (Lc := (fun q => [(3, .int (nI q)), (2, .int (m_wr S x0 q)), (0, .ref (X 0)), (1, .int x0)])) (lv_sub hl [0, 1, 2, 3] rfl) (fun ls hl => ?_) (fun q ls hq hl ih => ?_)
  · have hl : lv_has ls 5 [(3, .int (nI 8)), (2, .int (m_wr S x0 8)), (0, .ref (X 0)), (1, .int x0)] := hl
    refine lv_iload_n hx hb dX5_within_6 rfl (lv_at hl 0 rfl) ?_
    refine lv_bipush (v := nI 8) hx hb dX5_within_7 (by decide) ?_
    refine z_ge_t (tgt := 57) (nI_le (by omega) (by omega)) hx hb dX5_within_9 (by decide) ?_
    refine lv_iload_n hx hb dX5_within_57 rfl (lv_at hl 1 rfl) ?_
    exact z_ret hx hb hr hlocks rfl dX5_within_58
  · have hl : lv_has ls 5 [(3, .int (nI q)), (2, .int (m_wr S x0 q)), (0, .ref (X 0)), (1, .int x0)] := hl
    have ih_6 := ih
    refine lv_iload_n hx hb dX5_within_6 rfl (lv_at hl 0 rfl) ?_
    refine lv_bipush (v := nI 8) hx hb dX5_within_7 (by decide) ?_
    refine z_ge_f (tgt := 57) (nI_ge (by omega) (by omega)) hx hb dX5_within_9 (by decide) ?_
    refine lv_iconst (v := nI 0) hx hb dX5_within_12 rfl ?_
    refine lv_istore (lv' := [(4, .int (nI 0)), (3, .int (nI q)), (2, .int (m_wr S x0 q)), (0, .ref (X 0)), (1, .int x0)]) hx hb dX5_within_13 hl (by decide) rfl (fun ls hl => ?_)
    refine z_loop (N := 8) (nL := 5) (Lc := (fun k => [(4, .int (nI k)), (3, .int (nI q)), (2, .int (m_wiA S (m_wr S x0 q) k)), (0, .ref (X 0)), (1, .int x0)])) (lv_sub hl [0, 1, 2, 3, 4] rfl) (fun ls hl => ?_) (fun k ls hk hl ih => ?_)
    · have hl : lv_has ls 5 [(4, .int (nI 8)), (3, .int (nI q)), (2, .int (m_wiA S (m_wr S x0 q) 8)), (0, .ref (X 0)), (1, .int x0)] := hl
      refine lv_iload hx hb dX5_within_15 (lv_at hl 0 rfl) ?_
      refine lv_bipush (v := nI 8) hx hb dX5_within_17 (by decide) ?_
      refine z_ge_t (tgt := 51) (nI_le (by omega) (by omega)) hx hb dX5_within_19 (by decide) ?_
      refine lv_iinc (v := nI (q + 1)) (lv' := [(3, .int (nI (q + 1))), (4, .int (nI 8)), (2, .int (m_wiA S (m_wr S x0 q) 8)), (0, .ref (X 0)), (1, .int x0)]) hx hb dX5_within_51 hl (k := 1) rfl (nI_1 _) (by decide) rfl (fun ls hl => ?_)
      refine lv_goto (tgt := 6) hx hb dX5_within_54 (by decide) ?_
      have e2 : (m_wr S x0 (q + 1)) = (m_wiA S (m_wr S x0 q) 8) := by rfl
      exact ih_6 ls (by show lv_has ls 5 [(3, .int (nI (q + 1))), (2, .int (m_wr S x0 (q + 1))), (0, .ref (X 0)), (1, .int x0)]; rw [e2]; exact lv_sub hl [0, 2, 3, 4] rfl)
    · have hl : lv_has ls 5 [(4, .int (nI k)), (3, .int (nI q)), (2, .int (m_wiA S (m_wr S x0 q) k)), (0, .ref (X 0)), (1, .int x0)] := hl
      have ih_15 := ih
      refine lv_iload hx hb dX5_within_15 (lv_at hl 0 rfl) ?_
      refine lv_bipush (v := nI 8) hx hb dX5_within_17 (by decide) ?_
      refine z_ge_f (tgt := 51) (nI_ge (by omega) (by omega)) hx hb dX5_within_19 (by decide) ?_
      refine lv_iload_n hx hb dX5_within_22 rfl (lv_at hl 2 rfl) ?_
      refine lv_iload_n hx hb dX5_within_23 rfl (lv_at hl 2 rfl) ?_
      refine lv_iload hx hb dX5_within_24 (lv_at hl 0 rfl) ?_
      refine z_callR (W.runS (As := [.int (m_wiA S (m_wr S x0 q) k), .int (nI k)]) (rest := [.int (m_wiA S (m_wr S x0 q) k)]) ⟨hx, hb, hml, hown, hts⟩ (kX5_has l (m_wiA S (m_wr S x0 q) k) (nI k)) (va_cwS 2 hts gX5_within_X5_has rfl rfl rfl (by decide +kernel) ⟨Nat.le_of_ble_eq_true rfl, Nat.le_of_ble_eq_true rfl⟩) zP_pre rfl rfl hl.1 rfl (lv_room (Nat.le_of_ble_eq_true rfl)) dX5_within_26 ⟨Nat.zero_le _, Nat.zero_le _⟩) ?_
      refine z_if_eq (tgt := 42) hx hb dX5_within_29 (by decide) (fun c_29 => ?_) (fun c_29 => ?_)
      · refine lv_iconst (v := 0) hx hb dX5_within_42 rfl ?_
        refine lv_ior hx hb dX5_within_43 ?_
        refine lv_istore_n (lv' := [(2, .int ((m_wiA S (m_wr S x0 q) k) ||| 0)), (4, .int (nI k)), (3, .int (nI q)), (0, .ref (X 0)), (1, .int x0)]) hx hb dX5_within_44 rfl hl (by decide) rfl (fun ls hl => ?_)
        refine lv_iinc (v := nI (k + 1)) (lv' := [(4, .int (nI (k + 1))), (2, .int ((m_wiA S (m_wr S x0 q) k) ||| 0)), (3, .int (nI q)), (0, .ref (X 0)), (1, .int x0)]) hx hb dX5_within_45 hl (k := 1) rfl (nI_1 _) (by decide) rfl (fun ls hl => ?_)
        refine lv_goto (tgt := 15) hx hb dX5_within_48 (by decide) ?_
        have e2 : (m_wiA S (m_wr S x0 q) (k + 1)) = ((m_wiA S (m_wr S x0 q) k) ||| 0) := by simp [m_wiA, c_29]
        exact ih_15 ls (by show lv_has ls 5 [(4, .int (nI (k + 1))), (3, .int (nI q)), (2, .int (m_wiA S (m_wr S x0 q) (k + 1))), (0, .ref (X 0)), (1, .int x0)]; rw [e2]; exact lv_sub hl [0, 2, 1, 3, 4] rfl)
      · refine lv_aload_n hx hb dX5_within_32 rfl (lv_at hl 3 rfl) ?_
        refine va_get (D := D) (ci := 5) (v := .ref (X 2)) (C := RX5) (T := TX5) (N := 17) hx hb hts i5 hown hK hP 0 rfl rfl 3 (by decide) fl_13 (fun _ h9 => h9) rfl dX5_within_33 ?_
        refine lv_iload hx hb dX5_within_36 (lv_at hl 0 rfl) ?_
        refine z_iald (D := D) (j := k) (f := S 2) hx hb hK hP 2 0 rfl rfl (by omega) (by decide) dX5_within_38 ?_
        refine lv_goto (tgt := 43) hx hb dX5_within_39 (by decide) ?_
        refine lv_ior hx hb dX5_within_43 ?_
        refine lv_istore_n (lv' := [(2, .int ((m_wiA S (m_wr S x0 q) k) ||| (S 2 k))), (4, .int (nI k)), (3, .int (nI q)), (0, .ref (X 0)), (1, .int x0)]) hx hb dX5_within_44 rfl hl (by decide) rfl (fun ls hl => ?_)
        refine lv_iinc (v := nI (k + 1)) (lv' := [(4, .int (nI (k + 1))), (2, .int ((m_wiA S (m_wr S x0 q) k) ||| (S 2 k))), (3, .int (nI q)), (0, .ref (X 0)), (1, .int x0)]) hx hb dX5_within_45 hl (k := 1) rfl (nI_1 _) (by decide) rfl (fun ls hl => ?_)
        refine lv_goto (tgt := 15) hx hb dX5_within_48 (by decide) ?_
        have e2 : (m_wiA S (m_wr S x0 q) (k + 1)) = ((m_wiA S (m_wr S x0 q) k) ||| (S 2 k)) := by simp [m_wiA, c_29]
        exact ih_15 ls (by show lv_has ls 5 [(4, .int (nI (k + 1))), (3, .int (nI q)), (2, .int (m_wiA S (m_wr S x0 q) (k + 1))), (0, .ref (X 0)), (1, .int x0)]; rw [e2]; exact lv_sub hl [0, 2, 1, 3, 4] rfl)

set_option maxHeartbeats 4000000 in
set_option maxRecDepth 100000 in
theorem kX5_belongs (l : Launch) (D : va_G) (cI cZ : ClassId) (X : Nat → Nat) (S : Nat → Nat → Int32) (O : Nat → Bool) (V : Nat → Int32) (x0 : Int32) (x1 : Int32) : Met l yX5_belongs wsX5_belongs ({ frames := 2, cells := 0, slots := 0, locals := 45 } : Room) (zR D (tyl cI cZ) (mW cI cZ X S O V) [.ref (X 0), .int x0, .int x1]) (QcRead (bi (m_be S x0 x1 8))) 0 0 (fun _ => False) := by
  refine Met.ofW (cc := cX5_belongs) (maxL := 6) (ret := (some .boolean)) (by decide) rfl ?_
  intro p e s m args below meth c s₁ B hml hv
  obtain ⟨rfl, hP, hK⟩ := hv
  have hx := B.exec
  have hb := B.bytes
  have hr := B.returns
  have hts := atoms_spec (ws := wsX5_belongs) B.pre
  have hown : s.vm.findClass RX5 = some m.cls := findClass_of_methodNamed B.named
  have hlocks := B.notSynchronized
  have i5 : ∀ w ∈ u_ws RX5 TX5 17, w ∈ wsX5_belongs := by decide +kernel
  have fl_7 := hts (.fieldLink RX5 7 "SignOnHouseModel" "people" "[I") (by decide +kernel)
  have hl := lv_entry ([.ref (X 0), .int x0, .int x1]) (n := 6) (Nat.le_of_ble_eq_true rfl)
  rw [lg_entry_eq]
  generalize (lg_sl ([.ref (X 0), .int x0, .int x1]) ++ List.replicate (6 - (lg_sl ([.ref (X 0), .int x0, .int x1])).length) Slot.unset).toArray = ls at hl ⊢
  have hl : lv_has ls 6 [(0, .ref (X 0)), (1, .int x0), (2, .int x1)] := hl
  refine lv_aload_n hx hb dX5_belongs_0 rfl (lv_at hl 0 rfl) ?_
  refine lv_iload_n hx hb dX5_belongs_1 rfl (lv_at hl 1 rfl) ?_
  refine z_callR (W.runV (As := [.int x0]) (rest := []) ⟨hx, hb, hml, hown, hts⟩ (kX5_within l D cI cZ X S O V x0) (cwV 1 hts gX5_belongs_X5_within rfl rfl rfl (by decide +kernel) ⟨Nat.le_of_ble_eq_true rfl, Nat.le_of_ble_eq_true rfl⟩) (zR_preV 0 5 hK hP rfl rfl) rfl rfl hl.1 rfl (lv_room (Nat.le_of_ble_eq_true rfl)) dX5_belongs_2 ⟨Nat.zero_le _, Nat.zero_le _⟩) ?_
  refine lv_istore_n (lv' := [(3, .int (m_wr S x0 8)), (0, .ref (X 0)), (1, .int x0), (2, .int x1)]) hx hb dX5_belongs_5 rfl hl (by decide) rfl (fun ls hl => ?_)
  refine lv_iconst (v := 0) hx hb dX5_belongs_6 rfl ?_
  refine lv_istore (lv' := [(4, .int 0), (3, .int (m_wr S x0 8)), (0, .ref (X 0)), (1, .int x0), (2, .int x1)]) hx hb dX5_belongs_7 hl (by decide) rfl (fun ls hl => ?_)
  refine lv_iconst (v := nI 0) hx hb dX5_belongs_9 rfl ?_
  refine lv_istore (lv' := [(5, .int (nI 0)), (4, .int 0), (3, .int (m_wr S x0 8)), (0, .ref (X 0)), (1, .int x0), (2, .int x1)]) hx hb dX5_belongs_10 hl (by decide) rfl (fun ls hl => ?_)
  refine z_loop (N := 8) (nL := 6) (Lc := (fun k => [(5, .int (nI k)), (4, .int (bi (m_be S x0 x1 k))), (3, .int (m_wr S x0 8)), (0, .ref (X 0)), (1, .int x0), (2, .int x1)])) (lv_sub hl [0, 1, 2, 3, 4, 5] rfl) (fun ls hl => ?_) (fun k ls hk hl ih => ?_)
  · have hl : lv_has ls 6 [(5, .int (nI 8)), (4, .int (bi (m_be S x0 x1 8))), (3, .int (m_wr S x0 8)), (0, .ref (X 0)), (1, .int x0), (2, .int x1)] := hl
    refine lv_iload hx hb dX5_belongs_12 (lv_at hl 0 rfl) ?_
    refine lv_bipush (v := nI 8) hx hb dX5_belongs_14 (by decide) ?_
    refine z_ge_t (tgt := 60) (nI_le (by omega) (by omega)) hx hb dX5_belongs_16 (by decide) ?_
    refine lv_iload hx hb dX5_belongs_60 (lv_at hl 1 rfl) ?_
    exact z_zret hx hb hr hlocks rfl dX5_belongs_62
  · have hl : lv_has ls 6 [(5, .int (nI k)), (4, .int (bi (m_be S x0 x1 k))), (3, .int (m_wr S x0 8)), (0, .ref (X 0)), (1, .int x0), (2, .int x1)] := hl
    have ih_12 := ih
    refine lv_iload hx hb dX5_belongs_12 (lv_at hl 0 rfl) ?_
    refine lv_bipush (v := nI 8) hx hb dX5_belongs_14 (by decide) ?_
    refine z_ge_f (tgt := 60) (nI_ge (by omega) (by omega)) hx hb dX5_belongs_16 (by decide) ?_
    refine lv_iload hx hb dX5_belongs_19 (lv_at hl 1 rfl) ?_
    refine z_if_ne (tgt := 47) hx hb dX5_belongs_21 (by decide) (fun c_21 => ?_) (fun c_21 => ?_)
    · refine lv_iconst (v := 1) hx hb dX5_belongs_47 rfl ?_
      refine lv_goto (tgt := 52) hx hb dX5_belongs_48 (by decide) ?_
      refine lv_istore (lv' := [(4, .int 1), (5, .int (nI k)), (3, .int (m_wr S x0 8)), (0, .ref (X 0)), (1, .int x0), (2, .int x1)]) hx hb dX5_belongs_52 hl (by decide) rfl (fun ls hl => ?_)
      refine lv_iinc (v := nI (k + 1)) (lv' := [(5, .int (nI (k + 1))), (4, .int 1), (3, .int (m_wr S x0 8)), (0, .ref (X 0)), (1, .int x0), (2, .int x1)]) hx hb dX5_belongs_54 hl (k := 1) rfl (nI_1 _) (by decide) rfl (fun ls hl => ?_)
      refine lv_goto (tgt := 12) hx hb dX5_belongs_57 (by decide) ?_
      have e4 : (bi (m_be S x0 x1 (k + 1))) = 1 := by simp [m_be, bi, c_21]
      exact ih_12 ls (by show lv_has ls 6 [(5, .int (nI (k + 1))), (4, .int (bi (m_be S x0 x1 (k + 1)))), (3, .int (m_wr S x0 8)), (0, .ref (X 0)), (1, .int x0), (2, .int x1)]; rw [e4]; exact lv_sub hl [0, 1, 2, 3, 4, 5] rfl)
    · refine lv_iload_n hx hb dX5_belongs_24 rfl (lv_at hl 2 rfl) ?_
      refine lv_iload hx hb dX5_belongs_25 (lv_at hl 0 rfl) ?_
      refine z_callR (W.runS (As := [.int (m_wr S x0 8), .int (nI k)]) (rest := []) ⟨hx, hb, hml, hown, hts⟩ (kX5_has l (m_wr S x0 8) (nI k)) (va_cwS 2 hts gX5_belongs_X5_has rfl rfl rfl (by decide +kernel) ⟨Nat.le_of_ble_eq_true rfl, Nat.le_of_ble_eq_true rfl⟩) zP_pre rfl rfl hl.1 rfl (lv_room (Nat.le_of_ble_eq_true rfl)) dX5_belongs_27 ⟨Nat.zero_le _, Nat.zero_le _⟩) ?_
      refine z_if_eq (tgt := 51) hx hb dX5_belongs_30 (by decide) (fun c_30 => ?_) (fun c_30 => ?_)
      · refine lv_iconst (v := 0) hx hb dX5_belongs_51 rfl ?_
        refine lv_istore (lv' := [(4, .int 0), (5, .int (nI k)), (3, .int (m_wr S x0 8)), (0, .ref (X 0)), (1, .int x0), (2, .int x1)]) hx hb dX5_belongs_52 hl (by decide) rfl (fun ls hl => ?_)
        refine lv_iinc (v := nI (k + 1)) (lv' := [(5, .int (nI (k + 1))), (4, .int 0), (3, .int (m_wr S x0 8)), (0, .ref (X 0)), (1, .int x0), (2, .int x1)]) hx hb dX5_belongs_54 hl (k := 1) rfl (nI_1 _) (by decide) rfl (fun ls hl => ?_)
        refine lv_goto (tgt := 12) hx hb dX5_belongs_57 (by decide) ?_
        have e4 : (bi (m_be S x0 x1 (k + 1))) = 0 := by simp [m_be, bi, c_21, c_30]
        exact ih_12 ls (by show lv_has ls 6 [(5, .int (nI (k + 1))), (4, .int (bi (m_be S x0 x1 (k + 1)))), (3, .int (m_wr S x0 8)), (0, .ref (X 0)), (1, .int x0), (2, .int x1)]; rw [e4]; exact lv_sub hl [0, 1, 2, 3, 4, 5] rfl)
      · refine lv_aload_n hx hb dX5_belongs_33 rfl (lv_at hl 3 rfl) ?_
        refine va_get (D := D) (ci := 5) (v := .ref (X 1)) (C := RX5) (T := TX5) (N := 17) hx hb hts i5 hown hK hP 0 rfl rfl 2 (by decide) fl_7 (fun _ h9 => h9) rfl dX5_belongs_34 ?_
        refine lv_iload hx hb dX5_belongs_37 (lv_at hl 0 rfl) ?_
        refine z_iald (D := D) (j := k) (f := S 1) hx hb hK hP 1 0 rfl rfl (by omega) (by decide) dX5_belongs_39 ?_
        refine lv_iload_n hx hb dX5_belongs_40 rfl (lv_at hl 5 rfl) ?_
        refine z_callR (W.runS (As := [.int (S 1 k), .int x1]) (rest := []) ⟨hx, hb, hml, hown, hts⟩ (kX5_has l (S 1 k) x1) (va_cwS 2 hts gX5_belongs_X5_has rfl rfl rfl (by decide +kernel) ⟨Nat.le_of_ble_eq_true rfl, Nat.le_of_ble_eq_true rfl⟩) zP_pre rfl rfl hl.1 rfl (lv_room (Nat.le_of_ble_eq_true rfl)) dX5_belongs_41 ⟨Nat.zero_le _, Nat.zero_le _⟩) ?_
        refine z_if_eq (tgt := 51) hx hb dX5_belongs_44 (by decide) (fun c_44 => ?_) (fun c_44 => ?_)
        · refine lv_iconst (v := 0) hx hb dX5_belongs_51 rfl ?_
          refine lv_istore (lv' := [(4, .int 0), (5, .int (nI k)), (3, .int (m_wr S x0 8)), (0, .ref (X 0)), (1, .int x0), (2, .int x1)]) hx hb dX5_belongs_52 hl (by decide) rfl (fun ls hl => ?_)
          refine lv_iinc (v := nI (k + 1)) (lv' := [(5, .int (nI (k + 1))), (4, .int 0), (3, .int (m_wr S x0 8)), (0, .ref (X 0)), (1, .int x0), (2, .int x1)]) hx hb dX5_belongs_54 hl (k := 1) rfl (nI_1 _) (by decide) rfl (fun ls hl => ?_)
          refine lv_goto (tgt := 12) hx hb dX5_belongs_57 (by decide) ?_
          have e4 : (bi (m_be S x0 x1 (k + 1))) = 0 := by simp [m_be, bi, c_21, c_30, c_44]
          exact ih_12 ls (by show lv_has ls 6 [(5, .int (nI (k + 1))), (4, .int (bi (m_be S x0 x1 (k + 1)))), (3, .int (m_wr S x0 8)), (0, .ref (X 0)), (1, .int x0), (2, .int x1)]; rw [e4]; exact lv_sub hl [0, 1, 2, 3, 4, 5] rfl)
        · refine lv_iconst (v := 1) hx hb dX5_belongs_47 rfl ?_
          refine lv_goto (tgt := 52) hx hb dX5_belongs_48 (by decide) ?_
          refine lv_istore (lv' := [(4, .int 1), (5, .int (nI k)), (3, .int (m_wr S x0 8)), (0, .ref (X 0)), (1, .int x0), (2, .int x1)]) hx hb dX5_belongs_52 hl (by decide) rfl (fun ls hl => ?_)
          refine lv_iinc (v := nI (k + 1)) (lv' := [(5, .int (nI (k + 1))), (4, .int 1), (3, .int (m_wr S x0 8)), (0, .ref (X 0)), (1, .int x0), (2, .int x1)]) hx hb dX5_belongs_54 hl (k := 1) rfl (nI_1 _) (by decide) rfl (fun ls hl => ?_)
          refine lv_goto (tgt := 12) hx hb dX5_belongs_57 (by decide) ?_
          have e4 : (bi (m_be S x0 x1 (k + 1))) = 1 := by simp [m_be, bi, c_21, c_30, c_44]
          exact ih_12 ls (by show lv_has ls 6 [(5, .int (nI (k + 1))), (4, .int (bi (m_be S x0 x1 (k + 1)))), (3, .int (m_wr S x0 8)), (0, .ref (X 0)), (1, .int x0), (2, .int x1)]; rw [e4]; exact lv_sub hl [0, 1, 2, 3, 4, 5] rfl)

set_option maxHeartbeats 4000000 in
set_option maxRecDepth 100000 in
theorem kX5_finds (l : Launch) (D : va_G) (cI cZ : ClassId) (X : Nat → Nat) (S : Nat → Nat → Int32) (O : Nat → Bool) (V : Nat → Int32) (x0 : Int32) (ri : Nat) (x1 : Int32) (hri : ri < 6) : Met l yX5_finds wsX5_finds ({ frames := 3, cells := 0, slots := 0, locals := 70 } : Room) (zR D (tyl cI cZ) (mW cI cZ X S O V) [.ref (X 0), .int x0, .int (nI ri), .int x1]) (QcRead (bi (m_fi S x0 ri x1 8))) 0 0 (fun _ => False) := by
  refine Met.ofW (cc := cX5_finds) (maxL := 6) (ret := (some .boolean)) (by decide) rfl ?_
  intro p e s m args below meth c s₁ B hml hv
  obtain ⟨rfl, hP, hK⟩ := hv
  have hx := B.exec
  have hb := B.bytes
  have hr := B.returns
  have hts := atoms_spec (ws := wsX5_finds) B.pre
  have hown : s.vm.findClass RX5 = some m.cls := findClass_of_methodNamed B.named
  have hlocks := B.notSynchronized
  have i5 : ∀ w ∈ u_ws RX5 TX5 17, w ∈ wsX5_finds := by decide +kernel
  have fl_16 := hts (.fieldLink RX5 16 "SignOnHouseModel" "roles" "[I") (by decide +kernel)
  have hl := lv_entry ([.ref (X 0), .int x0, .int (nI ri), .int x1]) (n := 6) (Nat.le_of_ble_eq_true rfl)
  rw [lg_entry_eq]
  generalize (lg_sl ([.ref (X 0), .int x0, .int (nI ri), .int x1]) ++ List.replicate (6 - (lg_sl ([.ref (X 0), .int x0, .int (nI ri), .int x1])).length) Slot.unset).toArray = ls at hl ⊢
  have hl : lv_has ls 6 [(0, .ref (X 0)), (1, .int x0), (2, .int (nI ri)), (3, .int x1)] := hl
  refine lv_iconst (v := 0) hx hb dX5_finds_0 rfl ?_
  refine lv_istore (lv' := [(4, .int 0), (0, .ref (X 0)), (1, .int x0), (2, .int (nI ri)), (3, .int x1)]) hx hb dX5_finds_1 hl (by decide) rfl (fun ls hl => ?_)
  refine lv_iconst (v := nI 0) hx hb dX5_finds_3 rfl ?_
  refine lv_istore (lv' := [(5, .int (nI 0)), (4, .int 0), (0, .ref (X 0)), (1, .int x0), (2, .int (nI ri)), (3, .int x1)]) hx hb dX5_finds_4 hl (by decide) rfl (fun ls hl => ?_)
  refine z_loop (N := 8) (nL := 6) (Lc := (fun k => [(5, .int (nI k)), (4, .int (bi (m_fi S x0 ri x1 k))), (0, .ref (X 0)), (1, .int x0), (2, .int (nI ri)), (3, .int x1)])) (lv_sub hl [0, 1, 2, 3, 4, 5] rfl) (fun ls hl => ?_) (fun k ls hk hl ih => ?_)
  · have hl : lv_has ls 6 [(5, .int (nI 8)), (4, .int (bi (m_fi S x0 ri x1 8))), (0, .ref (X 0)), (1, .int x0), (2, .int (nI ri)), (3, .int x1)] := hl
    refine lv_iload hx hb dX5_finds_6 (lv_at hl 0 rfl) ?_
    refine lv_bipush (v := nI 8) hx hb dX5_finds_8 (by decide) ?_
    refine z_ge_t (tgt := 57) (nI_le (by omega) (by omega)) hx hb dX5_finds_10 (by decide) ?_
    refine lv_iload hx hb dX5_finds_57 (lv_at hl 1 rfl) ?_
    exact z_zret hx hb hr hlocks rfl dX5_finds_59
  · have hl : lv_has ls 6 [(5, .int (nI k)), (4, .int (bi (m_fi S x0 ri x1 k))), (0, .ref (X 0)), (1, .int x0), (2, .int (nI ri)), (3, .int x1)] := hl
    have ih_6 := ih
    refine lv_iload hx hb dX5_finds_6 (lv_at hl 0 rfl) ?_
    refine lv_bipush (v := nI 8) hx hb dX5_finds_8 (by decide) ?_
    refine z_ge_f (tgt := 57) (nI_ge (by omega) (by omega)) hx hb dX5_finds_10 (by decide) ?_
    refine lv_iload hx hb dX5_finds_13 (lv_at hl 1 rfl) ?_
    refine z_if_ne (tgt := 44) hx hb dX5_finds_15 (by decide) (fun c_15 => ?_) (fun c_15 => ?_)
    · refine lv_iconst (v := 1) hx hb dX5_finds_44 rfl ?_
      refine lv_goto (tgt := 49) hx hb dX5_finds_45 (by decide) ?_
      refine lv_istore (lv' := [(4, .int 1), (5, .int (nI k)), (0, .ref (X 0)), (1, .int x0), (2, .int (nI ri)), (3, .int x1)]) hx hb dX5_finds_49 hl (by decide) rfl (fun ls hl => ?_)
      refine lv_iinc (v := nI (k + 1)) (lv' := [(5, .int (nI (k + 1))), (4, .int 1), (0, .ref (X 0)), (1, .int x0), (2, .int (nI ri)), (3, .int x1)]) hx hb dX5_finds_51 hl (k := 1) rfl (nI_1 _) (by decide) rfl (fun ls hl => ?_)
      refine lv_goto (tgt := 6) hx hb dX5_finds_54 (by decide) ?_
      have e4 : (bi (m_fi S x0 ri x1 (k + 1))) = 1 := by simp [m_fi, bi, c_15]
      exact ih_6 ls (by show lv_has ls 6 [(5, .int (nI (k + 1))), (4, .int (bi (m_fi S x0 ri x1 (k + 1)))), (0, .ref (X 0)), (1, .int x0), (2, .int (nI ri)), (3, .int x1)]; rw [e4]; exact lv_sub hl [0, 1, 2, 3, 4, 5] rfl)
    · refine lv_aload_n hx hb dX5_finds_18 rfl (lv_at hl 2 rfl) ?_
      refine va_get (D := D) (ci := 5) (v := .ref (X 3)) (C := RX5) (T := TX5) (N := 17) hx hb hts i5 hown hK hP 0 rfl rfl 4 (by decide) fl_16 (fun _ h9 => h9) rfl dX5_finds_19 ?_
      refine lv_bipush (v := 6) hx hb dX5_finds_22 (by decide) ?_
      refine lv_iload hx hb dX5_finds_24 (lv_at hl 0 rfl) ?_
      refine lv_imul hx hb dX5_finds_26 ?_
      refine lv_iload_n hx hb dX5_finds_27 rfl (lv_at hl 4 rfl) ?_
      refine lv_iadd hx hb dX5_finds_28 ?_
      refine z_top (nI (6 * k + ri)) (by simp only [show (6 : Int32) = nI 6 from rfl, pk_mul, nI_add]) ?_
      refine z_iald (D := D) (j := 6 * k + ri) (f := S 3) hx hb hK hP 3 0 rfl rfl (by omega) (by decide) dX5_finds_29 ?_
      refine lv_iload_n hx hb dX5_finds_30 rfl (lv_at hl 5 rfl) ?_
      refine lv_icmp_ne (tgt := 48) hx hb dX5_finds_31 (by decide) (fun c_31 => ?_) (fun c_31 => ?_)
      · refine lv_iconst (v := 0) hx hb dX5_finds_48 rfl ?_
        refine lv_istore (lv' := [(4, .int 0), (5, .int (nI k)), (0, .ref (X 0)), (1, .int x0), (2, .int (nI ri)), (3, .int x1)]) hx hb dX5_finds_49 hl (by decide) rfl (fun ls hl => ?_)
        refine lv_iinc (v := nI (k + 1)) (lv' := [(5, .int (nI (k + 1))), (4, .int 0), (0, .ref (X 0)), (1, .int x0), (2, .int (nI ri)), (3, .int x1)]) hx hb dX5_finds_51 hl (k := 1) rfl (nI_1 _) (by decide) rfl (fun ls hl => ?_)
        refine lv_goto (tgt := 6) hx hb dX5_finds_54 (by decide) ?_
        have e4 : (bi (m_fi S x0 ri x1 (k + 1))) = 0 := by simp [m_fi, bi, c_15, c_31]
        exact ih_6 ls (by show lv_has ls 6 [(5, .int (nI (k + 1))), (4, .int (bi (m_fi S x0 ri x1 (k + 1)))), (0, .ref (X 0)), (1, .int x0), (2, .int (nI ri)), (3, .int x1)]; rw [e4]; exact lv_sub hl [0, 1, 2, 3, 4, 5] rfl)
      · refine lv_aload_n hx hb dX5_finds_34 rfl (lv_at hl 2 rfl) ?_
        refine lv_iload hx hb dX5_finds_35 (lv_at hl 0 rfl) ?_
        refine lv_iload_n hx hb dX5_finds_37 rfl (lv_at hl 3 rfl) ?_
        refine z_callR (W.runV (As := [.int (nI k), .int x0]) (rest := []) ⟨hx, hb, hml, hown, hts⟩ (kX5_belongs l D cI cZ X S O V (nI k) x0) (cwV 2 hts gX5_finds_X5_belongs rfl rfl rfl (by decide +kernel) ⟨Nat.le_of_ble_eq_true rfl, Nat.le_of_ble_eq_true rfl⟩) (zR_preV 0 5 hK hP rfl rfl) rfl rfl hl.1 rfl (lv_room (Nat.le_of_ble_eq_true rfl)) dX5_finds_38 ⟨Nat.zero_le _, Nat.zero_le _⟩) ?_
        refine z_if_eq (tgt := 48) hx hb dX5_finds_41 (by decide) (fun c_41 => ?_) (fun c_41 => ?_)
        · refine lv_iconst (v := 0) hx hb dX5_finds_48 rfl ?_
          refine lv_istore (lv' := [(4, .int 0), (5, .int (nI k)), (0, .ref (X 0)), (1, .int x0), (2, .int (nI ri)), (3, .int x1)]) hx hb dX5_finds_49 hl (by decide) rfl (fun ls hl => ?_)
          refine lv_iinc (v := nI (k + 1)) (lv' := [(5, .int (nI (k + 1))), (4, .int 0), (0, .ref (X 0)), (1, .int x0), (2, .int (nI ri)), (3, .int x1)]) hx hb dX5_finds_51 hl (k := 1) rfl (nI_1 _) (by decide) rfl (fun ls hl => ?_)
          refine lv_goto (tgt := 6) hx hb dX5_finds_54 (by decide) ?_
          have e4 : (bi (m_fi S x0 ri x1 (k + 1))) = 0 := by simp [m_fi, bi, c_15, (eq_true c_31), c_41]
          exact ih_6 ls (by show lv_has ls 6 [(5, .int (nI (k + 1))), (4, .int (bi (m_fi S x0 ri x1 (k + 1)))), (0, .ref (X 0)), (1, .int x0), (2, .int (nI ri)), (3, .int x1)]; rw [e4]; exact lv_sub hl [0, 1, 2, 3, 4, 5] rfl)
        · refine lv_iconst (v := 1) hx hb dX5_finds_44 rfl ?_
          refine lv_goto (tgt := 49) hx hb dX5_finds_45 (by decide) ?_
          refine lv_istore (lv' := [(4, .int 1), (5, .int (nI k)), (0, .ref (X 0)), (1, .int x0), (2, .int (nI ri)), (3, .int x1)]) hx hb dX5_finds_49 hl (by decide) rfl (fun ls hl => ?_)
          refine lv_iinc (v := nI (k + 1)) (lv' := [(5, .int (nI (k + 1))), (4, .int 1), (0, .ref (X 0)), (1, .int x0), (2, .int (nI ri)), (3, .int x1)]) hx hb dX5_finds_51 hl (k := 1) rfl (nI_1 _) (by decide) rfl (fun ls hl => ?_)
          refine lv_goto (tgt := 6) hx hb dX5_finds_54 (by decide) ?_
          have e4 : (bi (m_fi S x0 ri x1 (k + 1))) = 1 := by simp [m_fi, bi, c_15, (eq_true c_31), c_41]
          exact ih_6 ls (by show lv_has ls 6 [(5, .int (nI (k + 1))), (4, .int (bi (m_fi S x0 ri x1 (k + 1)))), (0, .ref (X 0)), (1, .int x0), (2, .int (nI ri)), (3, .int x1)]; rw [e4]; exact lv_sub hl [0, 1, 2, 3, 4, 5] rfl)

set_option maxHeartbeats 4000000 in
set_option maxRecDepth 100000 in
theorem kX5_lets (l : Launch) (D : va_G) (cI cZ : ClassId) (X : Nat → Nat) (S : Nat → Nat → Int32) (O : Nat → Bool) (V : Nat → Int32) (pi : Nat) (ri : Nat) (hpi : pi < 10) (hri : ri < 6) : Met l yX5_lets wsX5_lets ({ frames := 4, cells := 0, slots := 0, locals := 95 } : Room) (zR D (tyl cI cZ) (mW cI cZ X S O V) [.ref (X 0), .int (nI pi), .int (nI ri)]) (QcRead (bi (m_lets S V pi ri))) 0 0 (fun _ => False) := by
  refine Met.ofW (cc := cX5_lets) (maxL := 3) (ret := (some .boolean)) (by decide) rfl ?_
  intro p e s m args below meth c s₁ B hml hv
  obtain ⟨rfl, hP, hK⟩ := hv
  have hx := B.exec
  have hb := B.bytes
  have hr := B.returns
  have hts := atoms_spec (ws := wsX5_lets) B.pre
  have hown : s.vm.findClass RX5 = some m.cls := findClass_of_methodNamed B.named
  have hlocks := B.notSynchronized
  have i5 : ∀ w ∈ u_ws RX5 TX5 17, w ∈ wsX5_lets := by decide +kernel
  have fl_19 := hts (.fieldLink RX5 19 "SignOnHouseModel" "risk" "[I") (by decide +kernel)
  have fl_22 := hts (.fieldLink RX5 22 "SignOnHouseModel" "glass" "[I") (by decide +kernel)
  have fl_82 := hts (.fieldLink RX5 82 "SignOnHouseModel" "now" "I") (by decide +kernel)
  have hl := lv_entry ([.ref (X 0), .int (nI pi), .int (nI ri)]) (n := 3) (Nat.le_of_ble_eq_true rfl)
  rw [lg_entry_eq]
  generalize (lg_sl ([.ref (X 0), .int (nI pi), .int (nI ri)]) ++ List.replicate (3 - (lg_sl ([.ref (X 0), .int (nI pi), .int (nI ri)])).length) Slot.unset).toArray = ls at hl ⊢
  have hl : lv_has ls 3 [(0, .ref (X 0)), (1, .int (nI pi)), (2, .int (nI ri))] := hl
  refine lv_aload_n hx hb dX5_lets_0 rfl (lv_at hl 0 rfl) ?_
  refine va_get (D := D) (ci := 5) (v := .ref (X 4)) (C := RX5) (T := TX5) (N := 17) hx hb hts i5 hown hK hP 0 rfl rfl 5 (by decide) fl_19 (fun _ h9 => h9) rfl dX5_lets_1 ?_
  refine lv_iload_n hx hb dX5_lets_4 rfl (lv_at hl 1 rfl) ?_
  refine z_iald (D := D) (j := pi) (f := S 4) hx hb hK hP 4 0 rfl rfl (by omega) (by decide) dX5_lets_5 ?_
  refine lv_iconst (v := 3) hx hb dX5_lets_6 rfl ?_
  refine lv_icmp_ge (tgt := 52) hx hb dX5_lets_7 (by decide) (fun c_7 => ?_) (fun c_7 => ?_)
  · refine lv_iconst (v := 0) hx hb dX5_lets_52 rfl ?_
    exact z_zret hx hb hr hlocks (by simp [m_lets, bi, c_7]) dX5_lets_53
  · refine lv_aload_n hx hb dX5_lets_10 rfl (lv_at hl 0 rfl) ?_
    refine lv_iload_n hx hb dX5_lets_11 rfl (lv_at hl 1 rfl) ?_
    refine lv_iload_n hx hb dX5_lets_12 rfl (lv_at hl 2 rfl) ?_
    refine lv_iconst (v := 1) hx hb dX5_lets_13 rfl ?_
    refine z_callR (W.runV (As := [.int (nI pi), .int (nI ri), .int 1]) (rest := []) ⟨hx, hb, hml, hown, hts⟩ (kX5_finds l D cI cZ X S O V (nI pi) ri 1 (by omega)) (cwV 3 hts gX5_lets_X5_finds rfl rfl rfl (by decide +kernel) ⟨Nat.le_of_ble_eq_true rfl, Nat.le_of_ble_eq_true rfl⟩) (zR_preV 0 5 hK hP rfl rfl) rfl rfl hl.1 rfl (lv_room (Nat.le_of_ble_eq_true rfl)) dX5_lets_14 ⟨Nat.zero_le _, Nat.zero_le _⟩) ?_
    refine z_if_eq (tgt := 30) hx hb dX5_lets_17 (by decide) (fun c_17 => ?_) (fun c_17 => ?_)
    · refine lv_aload_n hx hb dX5_lets_30 rfl (lv_at hl 0 rfl) ?_
      refine va_get (D := D) (ci := 5) (v := .ref (X 5)) (C := RX5) (T := TX5) (N := 17) hx hb hts i5 hown hK hP 0 rfl rfl 6 (by decide) fl_22 (fun _ h9 => h9) rfl dX5_lets_31 ?_
      refine lv_bipush (v := 6) hx hb dX5_lets_34 (by decide) ?_
      refine lv_iload_n hx hb dX5_lets_36 rfl (lv_at hl 1 rfl) ?_
      refine lv_imul hx hb dX5_lets_37 ?_
      refine lv_iload_n hx hb dX5_lets_38 rfl (lv_at hl 2 rfl) ?_
      refine lv_iadd hx hb dX5_lets_39 ?_
      refine z_top (nI (6 * pi + ri)) (by simp only [show (6 : Int32) = nI 6 from rfl, pk_mul, nI_add]) ?_
      refine z_iald (D := D) (j := 6 * pi + ri) (f := S 5) hx hb hK hP 5 0 rfl rfl (by omega) (by decide) dX5_lets_40 ?_
      refine lv_aload_n hx hb dX5_lets_41 rfl (lv_at hl 0 rfl) ?_
      refine va_get (D := D) (ci := 5) (v := .int (V 1)) (C := RX5) (T := TX5) (N := 17) hx hb hts i5 hown hK hP 0 rfl rfl 1 (by decide) fl_82 (fun _ h9 => h9) rfl dX5_lets_42 ?_
      refine z_sel_icmp_le hx hb dX5_lets_45 dX5_lets_48 dX5_lets_49 dX5_lets_52 ?_
      exact z_zret hx hb hr hlocks (by simp [m_lets, bi, c_7, c_17]) dX5_lets_53
    · refine lv_aload_n hx hb dX5_lets_20 rfl (lv_at hl 0 rfl) ?_
      refine lv_iload_n hx hb dX5_lets_21 rfl (lv_at hl 1 rfl) ?_
      refine lv_iload_n hx hb dX5_lets_22 rfl (lv_at hl 2 rfl) ?_
      refine lv_iconst (v := 2) hx hb dX5_lets_23 rfl ?_
      refine z_callR (W.runV (As := [.int (nI pi), .int (nI ri), .int 2]) (rest := []) ⟨hx, hb, hml, hown, hts⟩ (kX5_finds l D cI cZ X S O V (nI pi) ri 2 (by omega)) (cwV 3 hts gX5_lets_X5_finds rfl rfl rfl (by decide +kernel) ⟨Nat.le_of_ble_eq_true rfl, Nat.le_of_ble_eq_true rfl⟩) (zR_preV 0 5 hK hP rfl rfl) rfl rfl hl.1 rfl (lv_room (Nat.le_of_ble_eq_true rfl)) dX5_lets_24 ⟨Nat.zero_le _, Nat.zero_le _⟩) ?_
      refine z_if_eq (tgt := 48) hx hb dX5_lets_27 (by decide) (fun c_27 => ?_) (fun c_27 => ?_)
      · refine lv_iconst (v := 1) hx hb dX5_lets_48 rfl ?_
        refine lv_goto (tgt := 53) hx hb dX5_lets_49 (by decide) ?_
        exact z_zret hx hb hr hlocks (by simp [m_lets, bi, c_7, c_17, c_27]) dX5_lets_53
      · refine lv_aload_n hx hb dX5_lets_30 rfl (lv_at hl 0 rfl) ?_
        refine va_get (D := D) (ci := 5) (v := .ref (X 5)) (C := RX5) (T := TX5) (N := 17) hx hb hts i5 hown hK hP 0 rfl rfl 6 (by decide) fl_22 (fun _ h9 => h9) rfl dX5_lets_31 ?_
        refine lv_bipush (v := 6) hx hb dX5_lets_34 (by decide) ?_
        refine lv_iload_n hx hb dX5_lets_36 rfl (lv_at hl 1 rfl) ?_
        refine lv_imul hx hb dX5_lets_37 ?_
        refine lv_iload_n hx hb dX5_lets_38 rfl (lv_at hl 2 rfl) ?_
        refine lv_iadd hx hb dX5_lets_39 ?_
        refine z_top (nI (6 * pi + ri)) (by simp only [show (6 : Int32) = nI 6 from rfl, pk_mul, nI_add]) ?_
        refine z_iald (D := D) (j := 6 * pi + ri) (f := S 5) hx hb hK hP 5 0 rfl rfl (by omega) (by decide) dX5_lets_40 ?_
        refine lv_aload_n hx hb dX5_lets_41 rfl (lv_at hl 0 rfl) ?_
        refine va_get (D := D) (ci := 5) (v := .int (V 1)) (C := RX5) (T := TX5) (N := 17) hx hb hts i5 hown hK hP 0 rfl rfl 1 (by decide) fl_82 (fun _ h9 => h9) rfl dX5_lets_42 ?_
        refine z_sel_icmp_le hx hb dX5_lets_45 dX5_lets_48 dX5_lets_49 dX5_lets_52 ?_
        exact z_zret hx hb hr hlocks (by simp [m_lets, bi, c_7, c_17, c_27]) dX5_lets_53

set_option maxHeartbeats 4000000 in
set_option maxRecDepth 100000 in
theorem kX5_isKey (l : Launch) (D : va_G) (cI cZ : ClassId) (X : Nat → Nat) (S : Nat → Nat → Int32) (O : Nat → Bool) (V : Nat → Int32) (x0 : Int32) : Met l yX5_isKey wsX5_isKey ({ frames := 0, cells := 0, slots := 0, locals := 0 } : Room) (zR D (tyl cI cZ) (mW cI cZ X S O V) [.ref (X 0), .int x0]) (QcRead (bi (m_isKey V x0))) 0 0 (fun _ => False) := by
  refine Met.ofW (cc := cX5_isKey) (maxL := 2) (ret := (some .boolean)) (by decide) rfl ?_
  intro p e s m args below meth c s₁ B hml hv
  obtain ⟨rfl, hP, hK⟩ := hv
  have hx := B.exec
  have hb := B.bytes
  have hr := B.returns
  have hts := atoms_spec (ws := wsX5_isKey) B.pre
  have hown : s.vm.findClass RX5 = some m.cls := findClass_of_methodNamed B.named
  have hlocks := B.notSynchronized
  have i5 : ∀ w ∈ u_ws RX5 TX5 17, w ∈ wsX5_isKey := by decide +kernel
  have fl_82 := hts (.fieldLink RX5 82 "SignOnHouseModel" "now" "I") (by decide +kernel)
  have fl_85 := hts (.fieldLink RX5 85 "SignOnHouseModel" "key" "I") (by decide +kernel)
  have fl_88 := hts (.fieldLink RX5 88 "SignOnHouseModel" "taken" "I") (by decide +kernel)
  have hl := lv_entry ([.ref (X 0), .int x0]) (n := 2) (Nat.le_of_ble_eq_true rfl)
  rw [lg_entry_eq]
  generalize (lg_sl ([.ref (X 0), .int x0]) ++ List.replicate (2 - (lg_sl ([.ref (X 0), .int x0])).length) Slot.unset).toArray = ls at hl ⊢
  have hl : lv_has ls 2 [(0, .ref (X 0)), (1, .int x0)] := hl
  refine lv_iload_n hx hb dX5_isKey_0 rfl (lv_at hl 1 rfl) ?_
  refine lv_aload_n hx hb dX5_isKey_1 rfl (lv_at hl 0 rfl) ?_
  refine va_get (D := D) (ci := 5) (v := .int (V 3)) (C := RX5) (T := TX5) (N := 17) hx hb hts i5 hown hK hP 0 rfl rfl 13 (by decide) fl_85 (fun _ h9 => h9) rfl dX5_isKey_2 ?_
  refine lv_icmp_eq (tgt := 29) hx hb dX5_isKey_5 (by decide) (fun c_5 => ?_) (fun c_5 => ?_)
  · refine lv_iconst (v := 1) hx hb dX5_isKey_29 rfl ?_
    refine lv_goto (tgt := 34) hx hb dX5_isKey_30 (by decide) ?_
    exact z_zret hx hb hr hlocks (by simp [m_isKey, bi, (eq_true c_5)]) dX5_isKey_34
  · refine lv_iload_n hx hb dX5_isKey_8 rfl (lv_at hl 1 rfl) ?_
    refine lv_aload_n hx hb dX5_isKey_9 rfl (lv_at hl 0 rfl) ?_
    refine va_get (D := D) (ci := 5) (v := .int (V 3)) (C := RX5) (T := TX5) (N := 17) hx hb hts i5 hown hK hP 0 rfl rfl 13 (by decide) fl_85 (fun _ h9 => h9) rfl dX5_isKey_10 ?_
    refine lv_iconst (v := 1) hx hb dX5_isKey_13 rfl ?_
    refine lv_isub hx hb dX5_isKey_14 ?_
    refine lv_icmp_ne (tgt := 33) hx hb dX5_isKey_15 (by decide) (fun c_15 => ?_) (fun c_15 => ?_)
    · refine lv_iconst (v := 0) hx hb dX5_isKey_33 rfl ?_
      exact z_zret hx hb hr hlocks (by simp [m_isKey, bi, c_5, c_15]) dX5_isKey_34
    · refine lv_aload_n hx hb dX5_isKey_18 rfl (lv_at hl 0 rfl) ?_
      refine va_get (D := D) (ci := 5) (v := .int (V 1)) (C := RX5) (T := TX5) (N := 17) hx hb hts i5 hown hK hP 0 rfl rfl 1 (by decide) fl_82 (fun _ h9 => h9) rfl dX5_isKey_19 ?_
      refine lv_aload_n hx hb dX5_isKey_22 rfl (lv_at hl 0 rfl) ?_
      refine va_get (D := D) (ci := 5) (v := .int (V 4)) (C := RX5) (T := TX5) (N := 17) hx hb hts i5 hown hK hP 0 rfl rfl 14 (by decide) fl_88 (fun _ h9 => h9) rfl dX5_isKey_23 ?_
      refine z_sel_icmp_ge hx hb dX5_isKey_26 dX5_isKey_29 dX5_isKey_30 dX5_isKey_33 ?_
      exact z_zret hx hb hr hlocks (by simp [m_isKey, bi, c_5, (eq_true c_15)]) dX5_isKey_34

set_option maxHeartbeats 4000000 in
set_option maxRecDepth 100000 in
theorem kX5_ends (l : Launch) (D : va_G) (cI cZ : ClassId) (X : Nat → Nat) (S : Nat → Nat → Int32) (O : Nat → Bool) (V : Nat → Int32) (si : Nat) (hsi : si < 30) (hwi : vp_in (S 6 si) 10) : Met l yX5_ends wsX5_ends ({ frames := 1, cells := 0, slots := 0, locals := 21 } : Room) (zR D (tyl cI cZ) (mW cI cZ X S O V) [.ref (X 0), .int (nI si)]) (QcRead (bi (m_ends S V si))) 0 0 (fun _ => False) := by
  refine Met.ofW (cc := cX5_ends) (maxL := 2) (ret := (some .boolean)) (by decide) rfl ?_
  intro p e s m args below meth c s₁ B hml hv
  obtain ⟨rfl, hP, hK⟩ := hv
  have hx := B.exec
  have hb := B.bytes
  have hr := B.returns
  have hts := atoms_spec (ws := wsX5_ends) B.pre
  have hown : s.vm.findClass RX5 = some m.cls := findClass_of_methodNamed B.named
  have hlocks := B.notSynchronized
  have i5 : ∀ w ∈ u_ws RX5 TX5 17, w ∈ wsX5_ends := by decide +kernel
  have fl_19 := hts (.fieldLink RX5 19 "SignOnHouseModel" "risk" "[I") (by decide +kernel)
  have fl_25 := hts (.fieldLink RX5 25 "SignOnHouseModel" "who" "[I") (by decide +kernel)
  have fl_28 := hts (.fieldLink RX5 28 "SignOnHouseModel" "signed" "[I") (by decide +kernel)
  have fl_31 := hts (.fieldLink RX5 31 "SignOnHouseModel" "since" "[I") (by decide +kernel)
  have fl_34 := hts (.fieldLink RX5 34 "SignOnHouseModel" "used" "[I") (by decide +kernel)
  have fl_82 := hts (.fieldLink RX5 82 "SignOnHouseModel" "now" "I") (by decide +kernel)
  have hl := lv_entry ([.ref (X 0), .int (nI si)]) (n := 2) (Nat.le_of_ble_eq_true rfl)
  rw [lg_entry_eq]
  generalize (lg_sl ([.ref (X 0), .int (nI si)]) ++ List.replicate (2 - (lg_sl ([.ref (X 0), .int (nI si)])).length) Slot.unset).toArray = ls at hl ⊢
  have hl : lv_has ls 2 [(0, .ref (X 0)), (1, .int (nI si))] := hl
  refine lv_aload_n hx hb dX5_ends_0 rfl (lv_at hl 0 rfl) ?_
  refine va_get (D := D) (ci := 5) (v := .int (V 1)) (C := RX5) (T := TX5) (N := 17) hx hb hts i5 hown hK hP 0 rfl rfl 1 (by decide) fl_82 (fun _ h9 => h9) rfl dX5_ends_1 ?_
  refine lv_aload_n hx hb dX5_ends_4 rfl (lv_at hl 0 rfl) ?_
  refine va_get (D := D) (ci := 5) (v := .ref (X 9)) (C := RX5) (T := TX5) (N := 17) hx hb hts i5 hown hK hP 0 rfl rfl 11 (by decide) fl_34 (fun _ h9 => h9) rfl dX5_ends_5 ?_
  refine lv_iload_n hx hb dX5_ends_8 rfl (lv_at hl 1 rfl) ?_
  refine z_iald (D := D) (j := si) (f := S 9) hx hb hK hP 9 0 rfl rfl (by omega) (by decide) dX5_ends_9 ?_
  refine lv_isub hx hb dX5_ends_10 ?_
  refine lv_bipush (v := 30) hx hb dX5_ends_11 (by decide) ?_
  refine lv_icmp_ge (tgt := 61) hx hb dX5_ends_13 (by decide) (fun c_13 => ?_) (fun c_13 => ?_)
  · refine lv_iconst (v := 1) hx hb dX5_ends_61 rfl ?_
    refine lv_goto (tgt := 66) hx hb dX5_ends_62 (by decide) ?_
    exact z_zret hx hb hr hlocks (by simp [m_ends, bi, c_13]) dX5_ends_66
  · refine lv_aload_n hx hb dX5_ends_16 rfl (lv_at hl 0 rfl) ?_
    refine va_get (D := D) (ci := 5) (v := .int (V 1)) (C := RX5) (T := TX5) (N := 17) hx hb hts i5 hown hK hP 0 rfl rfl 1 (by decide) fl_82 (fun _ h9 => h9) rfl dX5_ends_17 ?_
    refine lv_aload_n hx hb dX5_ends_20 rfl (lv_at hl 0 rfl) ?_
    refine va_get (D := D) (ci := 5) (v := .ref (X 8)) (C := RX5) (T := TX5) (N := 17) hx hb hts i5 hown hK hP 0 rfl rfl 10 (by decide) fl_31 (fun _ h9 => h9) rfl dX5_ends_21 ?_
    refine lv_iload_n hx hb dX5_ends_24 rfl (lv_at hl 1 rfl) ?_
    refine z_iald (D := D) (j := si) (f := S 8) hx hb hK hP 8 0 rfl rfl (by omega) (by decide) dX5_ends_25 ?_
    refine lv_isub hx hb dX5_ends_26 ?_
    refine lv_sipush (v := 240) hx hb dX5_ends_27 (by decide) ?_
    refine lv_bipush (v := 60) hx hb dX5_ends_30 (by decide) ?_
    refine lv_aload_n hx hb dX5_ends_32 rfl (lv_at hl 0 rfl) ?_
    refine va_get (D := D) (ci := 5) (v := .ref (X 4)) (C := RX5) (T := TX5) (N := 17) hx hb hts i5 hown hK hP 0 rfl rfl 5 (by decide) fl_19 (fun _ h9 => h9) rfl dX5_ends_33 ?_
    refine lv_aload_n hx hb dX5_ends_36 rfl (lv_at hl 0 rfl) ?_
    refine va_get (D := D) (ci := 5) (v := .ref (X 6)) (C := RX5) (T := TX5) (N := 17) hx hb hts i5 hown hK hP 0 rfl rfl 8 (by decide) fl_25 (fun _ h9 => h9) rfl dX5_ends_37 ?_
    refine lv_iload_n hx hb dX5_ends_40 rfl (lv_at hl 1 rfl) ?_
    refine z_iald (D := D) (j := si) (f := S 6) hx hb hK hP 6 0 rfl rfl (by omega) (by decide) dX5_ends_41 ?_
    refine va_iald (D := D) (f := S 4) hx hb hK hP 4 0 rfl rfl hwi dX5_ends_42 ?_
    refine lv_imul hx hb dX5_ends_43 ?_
    refine lv_isub hx hb dX5_ends_44 ?_
    refine lv_icmp_ge (tgt := 61) hx hb dX5_ends_45 (by decide) (fun c_45 => ?_) (fun c_45 => ?_)
    · refine lv_iconst (v := 1) hx hb dX5_ends_61 rfl ?_
      refine lv_goto (tgt := 66) hx hb dX5_ends_62 (by decide) ?_
      exact z_zret hx hb hr hlocks (by simp [m_ends, bi, c_13, c_45]) dX5_ends_66
    · refine lv_aload_n hx hb dX5_ends_48 rfl (lv_at hl 0 rfl) ?_
      refine lv_aload_n hx hb dX5_ends_49 rfl (lv_at hl 0 rfl) ?_
      refine va_get (D := D) (ci := 5) (v := .ref (X 7)) (C := RX5) (T := TX5) (N := 17) hx hb hts i5 hown hK hP 0 rfl rfl 9 (by decide) fl_28 (fun _ h9 => h9) rfl dX5_ends_50 ?_
      refine lv_iload_n hx hb dX5_ends_53 rfl (lv_at hl 1 rfl) ?_
      refine z_iald (D := D) (j := si) (f := S 7) hx hb hK hP 7 0 rfl rfl (by omega) (by decide) dX5_ends_54 ?_
      refine z_callR (W.runV (As := [.int (S 7 si)]) (rest := []) ⟨hx, hb, hml, hown, hts⟩ (kX5_isKey l D cI cZ X S O V (S 7 si)) (cwV 1 hts gX5_ends_X5_isKey rfl rfl rfl (by decide +kernel) ⟨Nat.le_of_ble_eq_true rfl, Nat.le_of_ble_eq_true rfl⟩) (zR_preV 0 5 hK hP rfl rfl) rfl rfl hl.1 rfl (lv_room (Nat.le_of_ble_eq_true rfl)) dX5_ends_55 ⟨Nat.zero_le _, Nat.zero_le _⟩) ?_
      refine z_if_ne (tgt := 65) hx hb dX5_ends_58 (by decide) (fun c_58 => ?_) (fun c_58 => ?_)
      · refine lv_iconst (v := 0) hx hb dX5_ends_65 rfl ?_
        exact z_zret hx hb hr hlocks (by simp [m_ends, bi, c_13, c_45, c_58]) dX5_ends_66
      · refine lv_iconst (v := 1) hx hb dX5_ends_61 rfl ?_
        refine lv_goto (tgt := 66) hx hb dX5_ends_62 (by decide) ?_
        exact z_zret hx hb hr hlocks (by simp [m_ends, bi, c_13, c_45, c_58]) dX5_ends_66

set_option maxHeartbeats 4000000 in
set_option maxRecDepth 100000 in
theorem kX5_sweeps (l : Launch) (D : va_G) (cI cZ : ClassId) (X : Nat → Nat) (S : Nat → Nat → Int32) (O : Nat → Bool) (V : Nat → Int32) (sz : Nat) (n0 : Nat) (hn0 : n0 ≤ 30) (hct : V 2 = nI n0) (hpe : ∀ j : Nat, j < n0 → vp_in (S 6 j) 10) : Met l yX5_sweeps wsX5_sweeps ({ frames := 2, cells := 0, slots := 0, locals := 42 } : Room) (zW D (tyl cI cZ) (mW cI cZ X S O V) sz [.ref (X 0)]) (zQi D (tyl cI cZ) (mW cI cZ X S (m_swO S O V n0) V) (m_swN S O V n0) (va_A (mW cI cZ X S O V) sz)) 0 0 (va_A (mW cI cZ X S O V) sz) := by
  refine Met.ofW (cc := cX5_sweeps) (maxL := 4) (ret := (some .int)) (by decide) rfl ?_
  intro p e s m args below meth c s₁ B hml hv
  obtain ⟨rfl, hsz, hP, hK, hD0⟩ := hv
  have hx := B.exec
  have hb := B.bytes
  have hr := B.returns
  have hts := atoms_spec (ws := wsX5_sweeps) B.pre
  have hown : s.vm.findClass RX5 = some m.cls := findClass_of_methodNamed B.named
  have hlocks := B.notSynchronized
  subst hsz
  have hD := hD0.self (sz := s.heap.size)
  generalize hAe : va_A (mW cI cZ X S O V) s.heap.size = A at hD ⊢
  have hA : ∀ q : Nat, s.heap.size ≤ q → A q := fun q h => by rw [← hAe]; exact Or.inr h
  have hS : va_S A s.heap s.heap [] := va_S.rf
  have i5 : ∀ w ∈ u_ws RX5 TX5 17, w ∈ wsX5_sweeps := by decide +kernel
  have fl_37 := hts (.fieldLink RX5 37 "SignOnHouseModel" "over" "[Z") (by decide +kernel)
  have fl_94 := hts (.fieldLink RX5 94 "SignOnHouseModel" "sessions" "I") (by decide +kernel)
  have hl := lv_entry ([.ref (X 0)]) (n := 4) (Nat.le_of_ble_eq_true rfl)
  rw [lg_entry_eq]
  generalize (lg_sl ([.ref (X 0)]) ++ List.replicate (4 - (lg_sl ([.ref (X 0)])).length) Slot.unset).toArray = ls at hl ⊢
  have hl : lv_has ls 4 [(0, .ref (X 0))] := hl
  refine lv_iconst (v := 0) hx hb dX5_sweeps_0 rfl ?_
  refine lv_istore_n (lv' := [(1, .int 0), (0, .ref (X 0))]) hx hb dX5_sweeps_1 rfl hl (by decide) rfl (fun ls hl => ?_)
  refine lv_iconst (v := nI 0) hx hb dX5_sweeps_2 rfl ?_
  refine lv_istore_n (lv' := [(2, .int (nI 0)), (1, .int 0), (0, .ref (X 0))]) hx hb dX5_sweeps_3 rfl hl (by decide) rfl (fun ls hl => ?_)
  refine z_loopW (N := n0) (nL := 4) (Lc := (fun k => [(2, .int (nI k)), (1, .int (m_swN S O V k)), (0, .ref (X 0))])) (Wd := fun k => mW cI cZ X S (m_swO S O V k) V) (lv_sub hl [0, 1, 2] rfl) hP hD hS (fun H locs ls hP hD hS hl => ?_) (fun k H locs ls hk hP hD hS hl ih => ?_)
  · have hP : va_P D vwCl (mW cI cZ X S (m_swO S O V n0) V) H := hP
    have hD : va_D A (mW cI cZ X S (m_swO S O V n0) V) := hD
    have hl : lv_has ls 4 [(2, .int (nI n0)), (1, .int (m_swN S O V n0)), (0, .ref (X 0))] := hl
    refine lv_iload_n hx hb dX5_sweeps_4 rfl (lv_at hl 0 rfl) ?_
    refine lv_aload_n hx hb dX5_sweeps_5 rfl (lv_at hl 2 rfl) ?_
    refine va_get (D := D) (ci := 5) (v := .int (V 2)) (C := RX5) (T := TX5) (N := 17) hx hb hts i5 hown hK hP 0 rfl rfl 7 (by decide) fl_94 (fun _ h9 => h9) rfl dX5_sweeps_6 ?_
    refine z_top (nI n0) hct ?_
    refine z_ge_t (tgt := 77) (nI_le (by omega) (by omega)) hx hb dX5_sweeps_9 (by decide) ?_
    refine lv_iload_n hx hb dX5_sweeps_77 rfl (lv_at hl 1 rfl) ?_
    exact z_wret hx hb hr hlocks hP hK hD hS rfl dX5_sweeps_78
  · have hP : va_P D vwCl (mW cI cZ X S (m_swO S O V k) V) H := hP
    have hD : va_D A (mW cI cZ X S (m_swO S O V k) V) := hD
    have hl : lv_has ls 4 [(2, .int (nI k)), (1, .int (m_swN S O V k)), (0, .ref (X 0))] := hl
    have ih_4 := ih
    refine lv_iload_n hx hb dX5_sweeps_4 rfl (lv_at hl 0 rfl) ?_
    refine lv_aload_n hx hb dX5_sweeps_5 rfl (lv_at hl 2 rfl) ?_
    refine va_get (D := D) (ci := 5) (v := .int (V 2)) (C := RX5) (T := TX5) (N := 17) hx hb hts i5 hown hK hP 0 rfl rfl 7 (by decide) fl_94 (fun _ h9 => h9) rfl dX5_sweeps_6 ?_
    refine z_top (nI n0) hct ?_
    refine z_ge_f (tgt := 77) (nI_ge (by omega) (by omega)) hx hb dX5_sweeps_9 (by decide) ?_
    refine lv_aload_n hx hb dX5_sweeps_12 rfl (lv_at hl 2 rfl) ?_
    refine va_get (D := D) (ci := 5) (v := .ref (X 10)) (C := RX5) (T := TX5) (N := 17) hx hb hts i5 hown hK hP 0 rfl rfl 12 (by decide) fl_37 (fun _ h9 => h9) rfl dX5_sweeps_13 ?_
    refine lv_iload_n hx hb dX5_sweeps_16 rfl (lv_at hl 0 rfl) ?_
    refine z_zald (D := D) (j := k) (g := m_swO S O V k) hx hb hK hP 10 1 rfl rfl (by omega) (by decide) dX5_sweeps_17 ?_
    refine z_if_ne (tgt := 33) hx hb dX5_sweeps_18 (by decide) (fun c_18 => ?_) (fun c_18 => ?_)
    · refine lv_iconst (v := 0) hx hb dX5_sweeps_33 rfl ?_
      refine lv_istore_n (lv' := [(3, .int 0), (2, .int (nI k)), (1, .int (m_swN S O V k)), (0, .ref (X 0))]) hx hb dX5_sweeps_34 rfl hl (by decide) rfl (fun ls hl => ?_)
      refine lv_iload_n hx hb dX5_sweeps_35 rfl (lv_at hl 2 rfl) ?_
      refine lv_iload_n hx hb dX5_sweeps_36 rfl (lv_at hl 0 rfl) ?_
      refine z_sel_if_eq hx hb dX5_sweeps_37 dX5_sweeps_40 dX5_sweeps_41 dX5_sweeps_44 ?_
      refine lv_iadd hx hb dX5_sweeps_45 ?_
      refine lv_istore_n (lv' := [(1, .int ((m_swN S O V k) + (bi (!decide (0 = 0))))), (3, .int 0), (2, .int (nI k)), (0, .ref (X 0))]) hx hb dX5_sweeps_46 rfl hl (by decide) rfl (fun ls hl => ?_)
      refine lv_aload_n hx hb dX5_sweeps_47 rfl (lv_at hl 3 rfl) ?_
      refine va_get (D := D) (ci := 5) (v := .ref (X 10)) (C := RX5) (T := TX5) (N := 17) hx hb hts i5 hown hK hP 0 rfl rfl 12 (by decide) fl_37 (fun _ h9 => h9) rfl dX5_sweeps_48 ?_
      refine lv_iload_n hx hb dX5_sweeps_51 rfl (lv_at hl 2 rfl) ?_
      refine lv_aload_n hx hb dX5_sweeps_52 rfl (lv_at hl 3 rfl) ?_
      refine va_get (D := D) (ci := 5) (v := .ref (X 10)) (C := RX5) (T := TX5) (N := 17) hx hb hts i5 hown hK hP 0 rfl rfl 12 (by decide) fl_37 (fun _ h9 => h9) rfl dX5_sweeps_53 ?_
      refine lv_iload_n hx hb dX5_sweeps_56 rfl (lv_at hl 2 rfl) ?_
      refine z_zald (D := D) (j := k) (g := m_swO S O V k) hx hb hK hP 10 1 rfl rfl (by omega) (by decide) dX5_sweeps_57 ?_
      refine z_if_ne (tgt := 65) hx hb dX5_sweeps_58 (by decide) (fun _ => ?_) (fun q => absurd (c_18.symm.trans q) (by decide))
      refine lv_iconst (v := 1) hx hb dX5_sweeps_65 rfl ?_
      refine lv_goto (tgt := 70) hx hb dX5_sweeps_66 (by decide) ?_
      refine z_zast (D := D) (j := k) (b := true) (g := m_swO S O V k) hx hb hK hP hD hS 10 1 rfl rfl (by omega) (by decide) dX5_sweeps_70 (fun H locs hP hD hS => ?_)
      have hP : va_P D vwCl (mW cI cZ X S (va_up (m_swO S O V k) k true) V) H := hP
      have hD : va_D A (mW cI cZ X S (va_up (m_swO S O V k) k true) V) := hD
      refine lv_iinc (v := nI (k + 1)) (lv' := [(2, .int (nI (k + 1))), (1, .int ((m_swN S O V k) + (bi (!decide (0 = 0))))), (3, .int 0), (0, .ref (X 0))]) hx hb dX5_sweeps_71 hl (k := 2) rfl (nI_1 _) (by decide) rfl (fun ls hl => ?_)
      refine lv_goto (tgt := 4) hx hb dX5_sweeps_74 (by decide) ?_
      have e1 : (m_swN S O V (k + 1)) = ((m_swN S O V k) + (bi (!decide (0 = 0)))) := by simp [m_swN, m_swO, bi, c_18]
      have eO : (m_swO S O V (k + 1)) = (va_up (m_swO S O V k) k true) := by simp [m_swN, m_swO, bi, c_18]
      exact ih_4 H locs ls (by show va_P D vwCl (mW cI cZ X S (m_swO S O V (k + 1)) V) H; rw [eO]; exact hP) (by show va_D A (mW cI cZ X S (m_swO S O V (k + 1)) V); rw [eO]; exact hD) hS (by show lv_has ls 4 [(2, .int (nI (k + 1))), (1, .int (m_swN S O V (k + 1))), (0, .ref (X 0))]; rw [e1]; exact lv_sub hl [0, 1, 3] rfl)
    · refine lv_aload_n hx hb dX5_sweeps_21 rfl (lv_at hl 2 rfl) ?_
      refine lv_iload_n hx hb dX5_sweeps_22 rfl (lv_at hl 0 rfl) ?_
      refine z_callR (W.runV (As := [.int (nI k)]) (rest := []) ⟨hx, hb, hml, hown, hts⟩ (kX5_ends l D cI cZ X S (m_swO S O V k) V k (by omega) (hpe k hk)) (cwV 1 hts gX5_sweeps_X5_ends rfl rfl rfl (by decide +kernel) ⟨Nat.le_of_ble_eq_true rfl, Nat.le_of_ble_eq_true rfl⟩) (zR_preV 0 5 hK hP rfl rfl) rfl rfl hl.1 rfl (lv_room (Nat.le_of_ble_eq_true rfl)) dX5_sweeps_23 ⟨Nat.zero_le _, Nat.zero_le _⟩) ?_
      refine z_if_eq (tgt := 33) hx hb dX5_sweeps_26 (by decide) (fun c_26 => ?_) (fun c_26 => ?_)
      · refine lv_iconst (v := 0) hx hb dX5_sweeps_33 rfl ?_
        refine lv_istore_n (lv' := [(3, .int 0), (2, .int (nI k)), (1, .int (m_swN S O V k)), (0, .ref (X 0))]) hx hb dX5_sweeps_34 rfl hl (by decide) rfl (fun ls hl => ?_)
        refine lv_iload_n hx hb dX5_sweeps_35 rfl (lv_at hl 2 rfl) ?_
        refine lv_iload_n hx hb dX5_sweeps_36 rfl (lv_at hl 0 rfl) ?_
        refine z_sel_if_eq hx hb dX5_sweeps_37 dX5_sweeps_40 dX5_sweeps_41 dX5_sweeps_44 ?_
        refine lv_iadd hx hb dX5_sweeps_45 ?_
        refine lv_istore_n (lv' := [(1, .int ((m_swN S O V k) + (bi (!decide (0 = 0))))), (3, .int 0), (2, .int (nI k)), (0, .ref (X 0))]) hx hb dX5_sweeps_46 rfl hl (by decide) rfl (fun ls hl => ?_)
        refine lv_aload_n hx hb dX5_sweeps_47 rfl (lv_at hl 3 rfl) ?_
        refine va_get (D := D) (ci := 5) (v := .ref (X 10)) (C := RX5) (T := TX5) (N := 17) hx hb hts i5 hown hK hP 0 rfl rfl 12 (by decide) fl_37 (fun _ h9 => h9) rfl dX5_sweeps_48 ?_
        refine lv_iload_n hx hb dX5_sweeps_51 rfl (lv_at hl 2 rfl) ?_
        refine lv_aload_n hx hb dX5_sweeps_52 rfl (lv_at hl 3 rfl) ?_
        refine va_get (D := D) (ci := 5) (v := .ref (X 10)) (C := RX5) (T := TX5) (N := 17) hx hb hts i5 hown hK hP 0 rfl rfl 12 (by decide) fl_37 (fun _ h9 => h9) rfl dX5_sweeps_53 ?_
        refine lv_iload_n hx hb dX5_sweeps_56 rfl (lv_at hl 2 rfl) ?_
        refine z_zald (D := D) (j := k) (g := m_swO S O V k) hx hb hK hP 10 1 rfl rfl (by omega) (by decide) dX5_sweeps_57 ?_
        refine z_if_ne (tgt := 65) hx hb dX5_sweeps_58 (by decide) (fun q => absurd (c_18.symm.trans q) (by decide)) (fun _ => ?_)
        refine lv_iload_n hx hb dX5_sweeps_61 rfl (lv_at hl 1 rfl) ?_
        refine z_sel_if_eq hx hb dX5_sweeps_62 dX5_sweeps_65 dX5_sweeps_66 dX5_sweeps_69 ?_
        refine z_zast (D := D) (j := k) (b := !decide (0 = 0)) (g := m_swO S O V k) hx hb hK hP hD hS 10 1 rfl rfl (by omega) (by decide) dX5_sweeps_70 (fun H locs hP hD hS => ?_)
        have hP : va_P D vwCl (mW cI cZ X S (va_up (m_swO S O V k) k (!decide (0 = 0))) V) H := hP
        have hD : va_D A (mW cI cZ X S (va_up (m_swO S O V k) k (!decide (0 = 0))) V) := hD
        refine lv_iinc (v := nI (k + 1)) (lv' := [(2, .int (nI (k + 1))), (1, .int ((m_swN S O V k) + (bi (!decide (0 = 0))))), (3, .int 0), (0, .ref (X 0))]) hx hb dX5_sweeps_71 hl (k := 2) rfl (nI_1 _) (by decide) rfl (fun ls hl => ?_)
        refine lv_goto (tgt := 4) hx hb dX5_sweeps_74 (by decide) ?_
        have e1 : (m_swN S O V (k + 1)) = ((m_swN S O V k) + (bi (!decide (0 = 0)))) := by simp [m_swN, m_swO, bi, c_18, c_26]
        have eO : (m_swO S O V (k + 1)) = (va_up (m_swO S O V k) k (!decide (0 = 0))) := by simp [m_swN, m_swO, bi, c_18, c_26]
        exact ih_4 H locs ls (by show va_P D vwCl (mW cI cZ X S (m_swO S O V (k + 1)) V) H; rw [eO]; exact hP) (by show va_D A (mW cI cZ X S (m_swO S O V (k + 1)) V); rw [eO]; exact hD) hS (by show lv_has ls 4 [(2, .int (nI (k + 1))), (1, .int (m_swN S O V (k + 1))), (0, .ref (X 0))]; rw [e1]; exact lv_sub hl [0, 1, 3] rfl)
      · refine lv_iconst (v := 1) hx hb dX5_sweeps_29 rfl ?_
        refine lv_goto (tgt := 34) hx hb dX5_sweeps_30 (by decide) ?_
        refine lv_istore_n (lv' := [(3, .int 1), (2, .int (nI k)), (1, .int (m_swN S O V k)), (0, .ref (X 0))]) hx hb dX5_sweeps_34 rfl hl (by decide) rfl (fun ls hl => ?_)
        refine lv_iload_n hx hb dX5_sweeps_35 rfl (lv_at hl 2 rfl) ?_
        refine lv_iload_n hx hb dX5_sweeps_36 rfl (lv_at hl 0 rfl) ?_
        refine z_sel_if_eq hx hb dX5_sweeps_37 dX5_sweeps_40 dX5_sweeps_41 dX5_sweeps_44 ?_
        refine lv_iadd hx hb dX5_sweeps_45 ?_
        refine lv_istore_n (lv' := [(1, .int ((m_swN S O V k) + (bi (!decide (1 = 0))))), (3, .int 1), (2, .int (nI k)), (0, .ref (X 0))]) hx hb dX5_sweeps_46 rfl hl (by decide) rfl (fun ls hl => ?_)
        refine lv_aload_n hx hb dX5_sweeps_47 rfl (lv_at hl 3 rfl) ?_
        refine va_get (D := D) (ci := 5) (v := .ref (X 10)) (C := RX5) (T := TX5) (N := 17) hx hb hts i5 hown hK hP 0 rfl rfl 12 (by decide) fl_37 (fun _ h9 => h9) rfl dX5_sweeps_48 ?_
        refine lv_iload_n hx hb dX5_sweeps_51 rfl (lv_at hl 2 rfl) ?_
        refine lv_aload_n hx hb dX5_sweeps_52 rfl (lv_at hl 3 rfl) ?_
        refine va_get (D := D) (ci := 5) (v := .ref (X 10)) (C := RX5) (T := TX5) (N := 17) hx hb hts i5 hown hK hP 0 rfl rfl 12 (by decide) fl_37 (fun _ h9 => h9) rfl dX5_sweeps_53 ?_
        refine lv_iload_n hx hb dX5_sweeps_56 rfl (lv_at hl 2 rfl) ?_
        refine z_zald (D := D) (j := k) (g := m_swO S O V k) hx hb hK hP 10 1 rfl rfl (by omega) (by decide) dX5_sweeps_57 ?_
        refine z_if_ne (tgt := 65) hx hb dX5_sweeps_58 (by decide) (fun q => absurd (c_18.symm.trans q) (by decide)) (fun _ => ?_)
        refine lv_iload_n hx hb dX5_sweeps_61 rfl (lv_at hl 1 rfl) ?_
        refine z_sel_if_eq hx hb dX5_sweeps_62 dX5_sweeps_65 dX5_sweeps_66 dX5_sweeps_69 ?_
        refine z_zast (D := D) (j := k) (b := !decide (1 = 0)) (g := m_swO S O V k) hx hb hK hP hD hS 10 1 rfl rfl (by omega) (by decide) dX5_sweeps_70 (fun H locs hP hD hS => ?_)
        have hP : va_P D vwCl (mW cI cZ X S (va_up (m_swO S O V k) k (!decide (1 = 0))) V) H := hP
        have hD : va_D A (mW cI cZ X S (va_up (m_swO S O V k) k (!decide (1 = 0))) V) := hD
        refine lv_iinc (v := nI (k + 1)) (lv' := [(2, .int (nI (k + 1))), (1, .int ((m_swN S O V k) + (bi (!decide (1 = 0))))), (3, .int 1), (0, .ref (X 0))]) hx hb dX5_sweeps_71 hl (k := 2) rfl (nI_1 _) (by decide) rfl (fun ls hl => ?_)
        refine lv_goto (tgt := 4) hx hb dX5_sweeps_74 (by decide) ?_
        have e1 : (m_swN S O V (k + 1)) = ((m_swN S O V k) + (bi (!decide (1 = 0)))) := by simp [m_swN, m_swO, bi, c_18, c_26]
        have eO : (m_swO S O V (k + 1)) = (va_up (m_swO S O V k) k (!decide (1 = 0))) := by simp [m_swN, m_swO, bi, c_18, c_26]
        exact ih_4 H locs ls (by show va_P D vwCl (mW cI cZ X S (m_swO S O V (k + 1)) V) H; rw [eO]; exact hP) (by show va_D A (mW cI cZ X S (m_swO S O V (k + 1)) V); rw [eO]; exact hD) hS (by show lv_has ls 4 [(2, .int (nI (k + 1))), (1, .int (m_swN S O V (k + 1))), (0, .ref (X 0))]; rw [e1]; exact lv_sub hl [0, 1, 3] rfl)
