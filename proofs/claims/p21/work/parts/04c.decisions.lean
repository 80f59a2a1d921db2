set_option maxHeartbeats 4000000 in
set_option maxRecDepth 100000 in
theorem kX0_cacheOf (l : Launch) (D : va_G) (cI cZ : ClassId) (X : Nat → Nat) (S : Nat → Nat → Int32) (O : Nat → Bool) (V : Nat → Int32) (ai : Nat) (hai : ai < 4) : Met l yX0_cacheOf wsX0_cacheOf ({ frames := 0, cells := 0, slots := 0, locals := 0 } : Room) (zR D (tyl cI cZ) (hW cI cZ X S O V) [.ref (X 4), .int (nI ai)]) (QcRead (S 16 ai)) 0 0 (fun _ => False) := by
  refine Met.ofW (cc := cX0_cacheOf) (maxL := 2) (ret := (some .int)) (by decide) rfl ?_
  intro p e s m args below meth c s₁ B hml hv
  obtain ⟨rfl, hP, hK⟩ := hv
  have hx := B.exec
  have hb := B.bytes
  have hr := B.returns
  have hts := atoms_spec (ws := wsX0_cacheOf) B.pre
  have hown : s.vm.findClass RX0 = some m.cls := findClass_of_methodNamed B.named
  have hlocks := B.notSynchronized
  have i0 : ∀ w ∈ u_ws RX0 TX0 3, w ∈ wsX0_cacheOf := by decide +kernel
  have fl_9 := hts (.fieldLink RX0 9 "SignOnHouse$Decisions" "caches" "[I") (by decide +kernel)
  have hl := lv_entry ([.ref (X 4), .int (nI ai)]) (n := 2) (Nat.le_of_ble_eq_true rfl)
  rw [lg_entry_eq]
  generalize (lg_sl ([.ref (X 4), .int (nI ai)]) ++ List.replicate (2 - (lg_sl ([.ref (X 4), .int (nI ai)])).length) Slot.unset).toArray = ls at hl ⊢
  have hl : lv_has ls 2 [(0, .ref (X 4)), (1, .int (nI ai))] := hl
  refine lv_aload_n hx hb dX0_cacheOf_0 rfl (lv_at hl 0 rfl) ?_
  refine va_get (D := D) (ci := 0) (v := .ref (X 16)) (C := RX0) (T := TX0) (N := 3) hx hb hts i0 hown hK hP 4 rfl rfl 0 (by decide) fl_9 (fun _ h9 => h9) rfl dX0_cacheOf_1 ?_
  refine lv_iload_n hx hb dX0_cacheOf_4 rfl (lv_at hl 1 rfl) ?_
  refine z_iald (D := D) (j := ai) (f := S 16) hx hb hK hP 16 0 rfl rfl (by omega) (by decide) dX0_cacheOf_5 ?_
  exact z_ret hx hb hr hlocks rfl dX0_cacheOf_6

set_option maxHeartbeats 4000000 in
set_option maxRecDepth 100000 in
theorem kX0_allowCache (l : Launch) (D : va_G) (cI cZ : ClassId) (X : Nat → Nat) (S : Nat → Nat → Int32) (O : Nat → Bool) (V : Nat → Int32) (sz : Nat) (ai : Nat) (x0 : Int32) (hai : ai < 4) : Met l yX0_allowCache wsX0_allowCache ({ frames := 0, cells := 0, slots := 0, locals := 0 } : Room) (zW D (tyl cI cZ) (hW cI cZ X S O V) sz [.ref (X 4), .int (nI ai), .int x0]) (zQv D (tyl cI cZ) (hW cI cZ X (va_up S 16 (upd (S 16) ai x0)) O V) (va_A (hW cI cZ X S O V) sz)) 0 0 (va_A (hW cI cZ X S O V) sz) := by
  refine Met.ofW (cc := cX0_allowCache) (maxL := 3) (ret := none) (by decide) rfl ?_
  intro p e s m args below meth c s₁ B hml hv
  obtain ⟨rfl, hsz, hP, hK, hD0⟩ := hv
  have hx := B.exec
  have hb := B.bytes
  have hr := B.returns
  have hts := atoms_spec (ws := wsX0_allowCache) B.pre
  have hown : s.vm.findClass RX0 = some m.cls := findClass_of_methodNamed B.named
  have hlocks := B.notSynchronized
  subst hsz
  have hD := hD0.self (sz := s.heap.size)
  generalize hAe : va_A (hW cI cZ X S O V) s.heap.size = A at hD ⊢
  have hA : ∀ q : Nat, s.heap.size ≤ q → A q := fun q h => by rw [← hAe]; exact Or.inr h
  have hS : va_S A s.heap s.heap [] := va_S.rf
  have i0 : ∀ w ∈ u_ws RX0 TX0 3, w ∈ wsX0_allowCache := by decide +kernel
  have fl_9 := hts (.fieldLink RX0 9 "SignOnHouse$Decisions" "caches" "[I") (by decide +kernel)
  have hl := lv_entry ([.ref (X 4), .int (nI ai), .int x0]) (n := 3) (Nat.le_of_ble_eq_true rfl)
  rw [lg_entry_eq]
  generalize (lg_sl ([.ref (X 4), .int (nI ai), .int x0]) ++ List.replicate (3 - (lg_sl ([.ref (X 4), .int (nI ai), .int x0])).length) Slot.unset).toArray = ls at hl ⊢
  have hl : lv_has ls 3 [(0, .ref (X 4)), (1, .int (nI ai)), (2, .int x0)] := hl
  refine lv_aload_n hx hb dX0_allowCache_0 rfl (lv_at hl 0 rfl) ?_
  refine va_get (D := D) (ci := 0) (v := .ref (X 16)) (C := RX0) (T := TX0) (N := 3) hx hb hts i0 hown hK hP 4 rfl rfl 0 (by decide) fl_9 (fun _ h9 => h9) rfl dX0_allowCache_1 ?_
  refine lv_iload_n hx hb dX0_allowCache_4 rfl (lv_at hl 1 rfl) ?_
  refine lv_iload_n hx hb dX0_allowCache_5 rfl (lv_at hl 2 rfl) ?_
  refine z_iast (D := D) (j := ai) (f := S 16) hx hb hK hP hD hS 16 0 rfl rfl (by omega) (by decide) dX0_allowCache_6 (fun H locs hP hD hS => ?_)
  have hP : va_P D vwCl (hW cI cZ X (va_up S 16 (upd (S 16) ai x0)) O V) H := hP
  have hD : va_D A (hW cI cZ X (va_up S 16 (upd (S 16) ai x0)) O V) := hD
  exact z_wvret hx hb hr hlocks hP hK hD hS dX0_allowCache_7

set_option maxHeartbeats 4000000 in
set_option maxRecDepth 100000 in
theorem kX0_place (l : Launch) (ai : Nat) (pi : Nat) (ri : Nat) : Met l yX0_place wsX0_place ({ frames := 0, cells := 0, slots := 0, locals := 0 } : Room) (zP [.int (nI ai), .int (nI pi), .int (nI ri)]) (QcRead (nI (ai * 60 + pi * 6 + ri))) 0 0 (fun _ => False) := by
  refine Met.ofW (cc := cX0_place) (maxL := 3) (ret := (some .int)) (by decide) rfl ?_
  intro p e s m args below meth c s₁ B hml hv
  obtain rfl := hv
  have hx := B.exec
  have hb := B.bytes
  have hr := B.returns
  have hts := atoms_spec (ws := wsX0_place) B.pre
  have hown : s.vm.findClass RX0 = some m.cls := findClass_of_methodNamed B.named
  have hlocks := B.notSynchronized
  have hl := lv_entry ([.int (nI ai), .int (nI pi), .int (nI ri)]) (n := 3) (Nat.le_of_ble_eq_true rfl)
  rw [lg_entry_eq]
  generalize (lg_sl ([.int (nI ai), .int (nI pi), .int (nI ri)]) ++ List.replicate (3 - (lg_sl ([.int (nI ai), .int (nI pi), .int (nI ri)])).length) Slot.unset).toArray = ls at hl ⊢
  have hl : lv_has ls 3 [(0, .int (nI ai)), (1, .int (nI pi)), (2, .int (nI ri))] := hl
  refine lv_iload_n hx hb dX0_place_0 rfl (lv_at hl 0 rfl) ?_
  refine lv_bipush (v := 60) hx hb dX0_place_1 (by decide) ?_
  refine lv_imul hx hb dX0_place_3 ?_
  refine lv_iload_n hx hb dX0_place_4 rfl (lv_at hl 1 rfl) ?_
  refine lv_bipush (v := 6) hx hb dX0_place_5 (by decide) ?_
  refine lv_imul hx hb dX0_place_7 ?_
  refine lv_iadd hx hb dX0_place_8 ?_
  refine lv_iload_n hx hb dX0_place_9 rfl (lv_at hl 2 rfl) ?_
  refine lv_iadd hx hb dX0_place_10 ?_
  exact z_ret hx hb hr hlocks (by simp only [show (60 : Int32) = nI 60 from rfl, show (6 : Int32) = nI 6 from rfl, pk_mul, nI_add]) dX0_place_11

set_option maxHeartbeats 4000000 in
set_option maxRecDepth 100000 in
theorem kX0_areKept (l : Launch) (D : va_G) (cI cZ : ClassId) (X : Nat → Nat) (S : Nat → Nat → Int32) (O : Nat → Bool) (V : Nat → Int32) (ai : Nat) (pi : Nat) (ri : Nat) (hai : ai < 4) (hpi : pi < 10) (hri : ri < 6) : Met l yX0_areKept wsX0_areKept ({ frames := 1, cells := 0, slots := 0, locals := 22 } : Room) (zR D (tyl cI cZ) (hW cI cZ X S O V) [.ref (X 4), .int (nI ai), .int (nI pi), .int (nI ri)]) (QcRead (bi (!decide (S 17 (ai * 60 + pi * 6 + ri) = (-1))))) 0 0 (fun _ => False) := by
  refine Met.ofW (cc := cX0_areKept) (maxL := 4) (ret := (some .boolean)) (by decide) rfl ?_
  intro p e s m args below meth c s₁ B hml hv
  obtain ⟨rfl, hP, hK⟩ := hv
  have hx := B.exec
  have hb := B.bytes
  have hr := B.returns
  have hts := atoms_spec (ws := wsX0_areKept) B.pre
  have hown : s.vm.findClass RX0 = some m.cls := findClass_of_methodNamed B.named
  have hlocks := B.notSynchronized
  have i0 : ∀ w ∈ u_ws RX0 TX0 3, w ∈ wsX0_areKept := by decide +kernel
  have fl_15 := hts (.fieldLink RX0 15 "SignOnHouse$Decisions" "answers" "[I") (by decide +kernel)
  have hl := lv_entry ([.ref (X 4), .int (nI ai), .int (nI pi), .int (nI ri)]) (n := 4) (Nat.le_of_ble_eq_true rfl)
  rw [lg_entry_eq]
  generalize (lg_sl ([.ref (X 4), .int (nI ai), .int (nI pi), .int (nI ri)]) ++ List.replicate (4 - (lg_sl ([.ref (X 4), .int (nI ai), .int (nI pi), .int (nI ri)])).length) Slot.unset).toArray = ls at hl ⊢
  have hl : lv_has ls 4 [(0, .ref (X 4)), (1, .int (nI ai)), (2, .int (nI pi)), (3, .int (nI ri))] := hl
  refine lv_aload_n hx hb dX0_areKept_0 rfl (lv_at hl 0 rfl) ?_
  refine va_get (D := D) (ci := 0) (v := .ref (X 17)) (C := RX0) (T := TX0) (N := 3) hx hb hts i0 hown hK hP 4 rfl rfl 1 (by decide) fl_15 (fun _ h9 => h9) rfl dX0_areKept_1 ?_
  refine lv_iload_n hx hb dX0_areKept_4 rfl (lv_at hl 1 rfl) ?_
  refine lv_iload_n hx hb dX0_areKept_5 rfl (lv_at hl 2 rfl) ?_
  refine lv_iload_n hx hb dX0_areKept_6 rfl (lv_at hl 3 rfl) ?_
  refine z_callR (W.runS (As := [.int (nI ai), .int (nI pi), .int (nI ri)]) (rest := [.ref (X 17)]) ⟨hx, hb, hml, hown, hts⟩ (kX0_place l ai pi ri) (va_cwS 3 hts gX0_areKept_X0_place rfl rfl rfl (by decide +kernel) ⟨Nat.le_of_ble_eq_true rfl, Nat.le_of_ble_eq_true rfl⟩) zP_pre rfl rfl hl.1 rfl (lv_room (Nat.le_of_ble_eq_true rfl)) dX0_areKept_7 ⟨Nat.zero_le _, Nat.zero_le _⟩) ?_
  refine z_iald (D := D) (j := (ai * 60 + pi * 6 + ri)) (f := S 17) hx hb hK hP 17 0 rfl rfl (by omega) (by decide) dX0_areKept_10 ?_
  refine lv_iconst (v := (-1)) hx hb dX0_areKept_11 rfl ?_
  refine z_sel_icmp_eq hx hb dX0_areKept_12 dX0_areKept_15 dX0_areKept_16 dX0_areKept_19 ?_
  exact z_zret hx hb hr hlocks rfl dX0_areKept_20

set_option maxHeartbeats 4000000 in
set_option maxRecDepth 100000 in
theorem kX0_answer (l : Launch) (D : va_G) (cI cZ : ClassId) (X : Nat → Nat) (S : Nat → Nat → Int32) (O : Nat → Bool) (V : Nat → Int32) (ai : Nat) (pi : Nat) (ri : Nat) (hai : ai < 4) (hpi : pi < 10) (hri : ri < 6) : Met l yX0_answer wsX0_answer ({ frames := 1, cells := 0, slots := 0, locals := 22 } : Room) (zR D (tyl cI cZ) (hW cI cZ X S O V) [.ref (X 4), .int (nI ai), .int (nI pi), .int (nI ri)]) (QcRead (S 17 (ai * 60 + pi * 6 + ri))) 0 0 (fun _ => False) := by
  refine Met.ofW (cc := cX0_answer) (maxL := 4) (ret := (some .int)) (by decide) rfl ?_
  intro p e s m args below meth c s₁ B hml hv
  obtain ⟨rfl, hP, hK⟩ := hv
  have hx := B.exec
  have hb := B.bytes
  have hr := B.returns
  have hts := atoms_spec (ws := wsX0_answer) B.pre
  have hown : s.vm.findClass RX0 = some m.cls := findClass_of_methodNamed B.named
  have hlocks := B.notSynchronized
  have i0 : ∀ w ∈ u_ws RX0 TX0 3, w ∈ wsX0_answer := by decide +kernel
  have fl_15 := hts (.fieldLink RX0 15 "SignOnHouse$Decisions" "answers" "[I") (by decide +kernel)
  have hl := lv_entry ([.ref (X 4), .int (nI ai), .int (nI pi), .int (nI ri)]) (n := 4) (Nat.le_of_ble_eq_true rfl)
  rw [lg_entry_eq]
  generalize (lg_sl ([.ref (X 4), .int (nI ai), .int (nI pi), .int (nI ri)]) ++ List.replicate (4 - (lg_sl ([.ref (X 4), .int (nI ai), .int (nI pi), .int (nI ri)])).length) Slot.unset).toArray = ls at hl ⊢
  have hl : lv_has ls 4 [(0, .ref (X 4)), (1, .int (nI ai)), (2, .int (nI pi)), (3, .int (nI ri))] := hl
  refine lv_aload_n hx hb dX0_answer_0 rfl (lv_at hl 0 rfl) ?_
  refine va_get (D := D) (ci := 0) (v := .ref (X 17)) (C := RX0) (T := TX0) (N := 3) hx hb hts i0 hown hK hP 4 rfl rfl 1 (by decide) fl_15 (fun _ h9 => h9) rfl dX0_answer_1 ?_
  refine lv_iload_n hx hb dX0_answer_4 rfl (lv_at hl 1 rfl) ?_
  refine lv_iload_n hx hb dX0_answer_5 rfl (lv_at hl 2 rfl) ?_
  refine lv_iload_n hx hb dX0_answer_6 rfl (lv_at hl 3 rfl) ?_
  refine z_callR (W.runS (As := [.int (nI ai), .int (nI pi), .int (nI ri)]) (rest := [.ref (X 17)]) ⟨hx, hb, hml, hown, hts⟩ (kX0_place l ai pi ri) (va_cwS 3 hts gX0_answer_X0_place rfl rfl rfl (by decide +kernel) ⟨Nat.le_of_ble_eq_true rfl, Nat.le_of_ble_eq_true rfl⟩) zP_pre rfl rfl hl.1 rfl (lv_room (Nat.le_of_ble_eq_true rfl)) dX0_answer_7 ⟨Nat.zero_le _, Nat.zero_le _⟩) ?_
  refine z_iald (D := D) (j := (ai * 60 + pi * 6 + ri)) (f := S 17) hx hb hK hP 17 0 rfl rfl (by omega) (by decide) dX0_answer_10 ?_
  exact z_ret hx hb hr hlocks rfl dX0_answer_11

set_option maxHeartbeats 4000000 in
set_option maxRecDepth 100000 in
theorem kX0_keep (l : Launch) (D : va_G) (cI cZ : ClassId) (X : Nat → Nat) (S : Nat → Nat → Int32) (O : Nat → Bool) (V : Nat → Int32) (sz : Nat) (ai : Nat) (pi : Nat) (ri : Nat) (x0 : Int32) (x1 : Int32) (hai : ai < 4) (hpi : pi < 10) (hri : ri < 6) : Met l yX0_keep wsX0_keep ({ frames := 1, cells := 0, slots := 0, locals := 22 } : Room) (zW D (tyl cI cZ) (hW cI cZ X S O V) sz [.ref (X 4), .int (nI ai), .int (nI pi), .int (nI ri), .int x0, .int x1]) (zQv D (tyl cI cZ) (hW cI cZ X (c_keep S ai pi ri x0 x1) O V) (va_A (hW cI cZ X S O V) sz)) 0 0 (va_A (hW cI cZ X S O V) sz) := by
  refine Met.ofW (cc := cX0_keep) (maxL := 6) (ret := none) (by decide) rfl ?_
  intro p e s m args below meth c s₁ B hml hv
  obtain ⟨rfl, hsz, hP, hK, hD0⟩ := hv
  have hx := B.exec
  have hb := B.bytes
  have hr := B.returns
  have hts := atoms_spec (ws := wsX0_keep) B.pre
  have hown : s.vm.findClass RX0 = some m.cls := findClass_of_methodNamed B.named
  have hlocks := B.notSynchronized
  subst hsz
  have hD := hD0.self (sz := s.heap.size)
  generalize hAe : va_A (hW cI cZ X S O V) s.heap.size = A at hD ⊢
  have hA : ∀ q : Nat, s.heap.size ≤ q → A q := fun q h => by rw [← hAe]; exact Or.inr h
  have hS : va_S A s.heap s.heap [] := va_S.rf
  have i0 : ∀ w ∈ u_ws RX0 TX0 3, w ∈ wsX0_keep := by decide +kernel
  have fl_9 := hts (.fieldLink RX0 9 "SignOnHouse$Decisions" "caches" "[I") (by decide +kernel)
  have fl_15 := hts (.fieldLink RX0 15 "SignOnHouse$Decisions" "answers" "[I") (by decide +kernel)
  have fl_18 := hts (.fieldLink RX0 18 "SignOnHouse$Decisions" "keptSince" "[I") (by decide +kernel)
  have hl := lv_entry ([.ref (X 4), .int (nI ai), .int (nI pi), .int (nI ri), .int x0, .int x1]) (n := 6) (Nat.le_of_ble_eq_true rfl)
  rw [lg_entry_eq]
  generalize (lg_sl ([.ref (X 4), .int (nI ai), .int (nI pi), .int (nI ri), .int x0, .int x1]) ++ List.replicate (6 - (lg_sl ([.ref (X 4), .int (nI ai), .int (nI pi), .int (nI ri), .int x0, .int x1])).length) Slot.unset).toArray = ls at hl ⊢
  have hl : lv_has ls 6 [(0, .ref (X 4)), (1, .int (nI ai)), (2, .int (nI pi)), (3, .int (nI ri)), (4, .int x0), (5, .int x1)] := hl
  refine lv_aload_n hx hb dX0_keep_0 rfl (lv_at hl 0 rfl) ?_
  refine va_get (D := D) (ci := 0) (v := .ref (X 16)) (C := RX0) (T := TX0) (N := 3) hx hb hts i0 hown hK hP 4 rfl rfl 0 (by decide) fl_9 (fun _ h9 => h9) rfl dX0_keep_1 ?_
  refine lv_iload_n hx hb dX0_keep_4 rfl (lv_at hl 1 rfl) ?_
  refine z_iald (D := D) (j := ai) (f := S 16) hx hb hK hP 16 0 rfl rfl (by omega) (by decide) dX0_keep_5 ?_
  refine lv_if_ne (tgt := 10) hx hb dX0_keep_6 (by decide) (fun c_6 => ?_) (fun c_6 => ?_)
  · refine lv_aload_n hx hb dX0_keep_10 rfl (lv_at hl 0 rfl) ?_
    refine va_get (D := D) (ci := 0) (v := .ref (X 17)) (C := RX0) (T := TX0) (N := 3) hx hb hts i0 hown hK hP 4 rfl rfl 1 (by decide) fl_15 (fun _ h9 => h9) rfl dX0_keep_11 ?_
    refine lv_iload_n hx hb dX0_keep_14 rfl (lv_at hl 1 rfl) ?_
    refine lv_iload_n hx hb dX0_keep_15 rfl (lv_at hl 2 rfl) ?_
    refine lv_iload_n hx hb dX0_keep_16 rfl (lv_at hl 3 rfl) ?_
    refine z_callR (W.runS (As := [.int (nI ai), .int (nI pi), .int (nI ri)]) (rest := [.ref (X 17)]) ⟨hx, hb, hml, hown, hts⟩ (kX0_place l ai pi ri) (va_cwS 3 hts gX0_keep_X0_place rfl rfl rfl (by decide +kernel) ⟨Nat.le_of_ble_eq_true rfl, Nat.le_of_ble_eq_true rfl⟩) zP_pre rfl rfl hl.1 rfl (lv_room (Nat.le_of_ble_eq_true rfl)) dX0_keep_17 ⟨Nat.zero_le _, Nat.zero_le _⟩) ?_
    refine lv_iload hx hb dX0_keep_20 (lv_at hl 4 rfl) ?_
    refine z_iast (D := D) (j := (ai * 60 + pi * 6 + ri)) (f := S 17) hx hb hK hP hD hS 17 0 rfl rfl (by omega) (by decide) dX0_keep_22 (fun H locs hP hD hS => ?_)
    have hP : va_P D vwCl (hW cI cZ X (va_up S 17 (upd (S 17) (ai * 60 + pi * 6 + ri) x0)) O V) H := hP
    have hD : va_D A (hW cI cZ X (va_up S 17 (upd (S 17) (ai * 60 + pi * 6 + ri) x0)) O V) := hD
    refine lv_aload_n hx hb dX0_keep_23 rfl (lv_at hl 0 rfl) ?_
    refine va_get (D := D) (ci := 0) (v := .ref (X 18)) (C := RX0) (T := TX0) (N := 3) hx hb hts i0 hown hK hP 4 rfl rfl 2 (by decide) fl_18 (fun _ h9 => h9) rfl dX0_keep_24 ?_
    refine lv_iload_n hx hb dX0_keep_27 rfl (lv_at hl 1 rfl) ?_
    refine lv_iload_n hx hb dX0_keep_28 rfl (lv_at hl 2 rfl) ?_
    refine lv_iload_n hx hb dX0_keep_29 rfl (lv_at hl 3 rfl) ?_
    refine z_callR (W.runS (As := [.int (nI ai), .int (nI pi), .int (nI ri)]) (rest := [.ref (X 18)]) ⟨hx, hb, hml, hown, hts⟩ (kX0_place l ai pi ri) (va_cwS 3 hts gX0_keep_X0_place rfl rfl rfl (by decide +kernel) ⟨Nat.le_of_ble_eq_true rfl, Nat.le_of_ble_eq_true rfl⟩) zP_pre rfl rfl hl.1 rfl (lv_room (Nat.le_of_ble_eq_true rfl)) dX0_keep_30 ⟨Nat.zero_le _, Nat.zero_le _⟩) ?_
    refine lv_iload hx hb dX0_keep_33 (lv_at hl 5 rfl) ?_
    refine z_iast (D := D) (j := (ai * 60 + pi * 6 + ri)) (f := S 18) hx hb hK hP hD hS 18 0 rfl rfl (by omega) (by decide) dX0_keep_35 (fun H locs hP hD hS => ?_)
    have hP : va_P D vwCl (hW cI cZ X (va_up (va_up S 17 (upd (S 17) (ai * 60 + pi * 6 + ri) x0)) 18 (upd (S 18) (ai * 60 + pi * 6 + ri) x1)) O V) H := hP
    have hD : va_D A (hW cI cZ X (va_up (va_up S 17 (upd (S 17) (ai * 60 + pi * 6 + ri) x0)) 18 (upd (S 18) (ai * 60 + pi * 6 + ri) x1)) O V) := hD
    have eS : (c_keep S ai pi ri x0 x1) = (va_up (va_up S 17 (upd (S 17) (ai * 60 + pi * 6 + ri) x0)) 18 (upd (S 18) (ai * 60 + pi * 6 + ri) x1)) := by simp [c_keep, bi, c_6]
    exact z_wvret hx hb hr hlocks (by rw [eS]; exact hP) hK (by rw [eS]; exact hD) hS dX0_keep_36
  · have eS : (c_keep S ai pi ri x0 x1) = S := by simp [c_keep, bi, (eq_true c_6)]
    exact z_wvret hx hb hr hlocks (by rw [eS]; exact hP) hK (by rw [eS]; exact hD) hS dX0_keep_9

set_option maxHeartbeats 4000000 in
set_option maxRecDepth 100000 in
theorem kX0_dropAllOf (l : Launch) (D : va_G) (cI cZ : ClassId) (X : Nat → Nat) (S : Nat → Nat → Int32) (O : Nat → Bool) (V : Nat → Int32) (sz : Nat) (ai : Nat) (pi : Nat) (hai : ai < 4) (hpi : pi < 10) : Met l yX0_dropAllOf wsX0_dropAllOf ({ frames := 2, cells := 0, slots := 0, locals := 45 } : Room) (zW D (tyl cI cZ) (hW cI cZ X S O V) sz [.ref (X 4), .int (nI ai), .int (nI pi)]) (zQi D (tyl cI cZ) (hW cI cZ X (c_daS S ai pi 6) O V) (c_daN S ai pi 6) (va_A (hW cI cZ X S O V) sz)) 0 0 (va_A (hW cI cZ X S O V) sz) := by
  refine Met.ofW (cc := cX0_dropAllOf) (maxL := 5) (ret := (some .int)) (by decide) rfl ?_
  intro p e s m args below meth c s₁ B hml hv
  obtain ⟨rfl, hsz, hP, hK, hD0⟩ := hv
  have hx := B.exec
  have hb := B.bytes
  have hr := B.returns
  have hts := atoms_spec (ws := wsX0_dropAllOf) B.pre
  have hown : s.vm.findClass RX0 = some m.cls := findClass_of_methodNamed B.named
  have hlocks := B.notSynchronized
  subst hsz
  have hD := hD0.self (sz := s.heap.size)
  generalize hAe : va_A (hW cI cZ X S O V) s.heap.size = A at hD ⊢
  have hA : ∀ q : Nat, s.heap.size ≤ q → A q := fun q h => by rw [← hAe]; exact Or.inr h
  have hS : va_S A s.heap s.heap [] := va_S.rf
  have i0 : ∀ w ∈ u_ws RX0 TX0 3, w ∈ wsX0_dropAllOf := by decide +kernel
  have fl_15 := hts (.fieldLink RX0 15 "SignOnHouse$Decisions" "answers" "[I") (by decide +kernel)
  have hl := lv_entry ([.ref (X 4), .int (nI ai), .int (nI pi)]) (n := 5) (Nat.le_of_ble_eq_true rfl)
  rw [lg_entry_eq]
  generalize (lg_sl ([.ref (X 4), .int (nI ai), .int (nI pi)]) ++ List.replicate (5 - (lg_sl ([.ref (X 4), .int (nI ai), .int (nI pi)])).length) Slot.unset).toArray = ls at hl ⊢
  have hl : lv_has ls 5 [(0, .ref (X 4)), (1, .int (nI ai)), (2, .int (nI pi))] := hl
  refine lv_iconst (v := 0) hx hb dX0_dropAllOf_0 rfl ?_
  refine lv_istore_n (lv' := [(3, .int 0), (0, .ref (X 4)), (1, .int (nI ai)), (2, .int (nI pi))]) hx hb dX0_dropAllOf_1 rfl hl (by decide) rfl (fun ls hl => ?_)
  refine lv_iconst (v := nI 0) hx hb dX0_dropAllOf_2 rfl ?_
  refine lv_istore (lv' := [(4, .int (nI 0)), (3, .int 0), (0, .ref (X 4)), (1, .int (nI ai)), (2, .int (nI pi))]) hx hb dX0_dropAllOf_3 hl (by decide) rfl (fun ls hl => ?_)
  refine z_loopW (N := 6) (nL := 5) (Lc := (fun k => [(4, .int (nI k)), (3, .int (c_daN S ai pi k)), (0, .ref (X 4)), (1, .int (nI ai)), (2, .int (nI pi))])) (Wd := fun k => hW cI cZ X (c_daS S ai pi k) O V) (lv_sub hl [0, 1, 2, 3, 4] rfl) hP hD hS (fun H locs ls hP hD hS hl => ?_) (fun k H locs ls hk hP hD hS hl ih => ?_)
  · have hP : va_P D vwCl (hW cI cZ X (c_daS S ai pi 6) O V) H := hP
    have hD : va_D A (hW cI cZ X (c_daS S ai pi 6) O V) := hD
    have hl : lv_has ls 5 [(4, .int (nI 6)), (3, .int (c_daN S ai pi 6)), (0, .ref (X 4)), (1, .int (nI ai)), (2, .int (nI pi))] := hl
    refine lv_iload hx hb dX0_dropAllOf_5 (lv_at hl 0 rfl) ?_
    refine lv_bipush (v := nI 6) hx hb dX0_dropAllOf_7 (by decide) ?_
    refine z_ge_t (tgt := 45) (nI_le (by omega) (by omega)) hx hb dX0_dropAllOf_9 (by decide) ?_
    refine lv_iload_n hx hb dX0_dropAllOf_45 rfl (lv_at hl 1 rfl) ?_
    exact z_wret hx hb hr hlocks hP hK hD hS rfl dX0_dropAllOf_46
  · have hP : va_P D vwCl (hW cI cZ X (c_daS S ai pi k) O V) H := hP
    have hD : va_D A (hW cI cZ X (c_daS S ai pi k) O V) := hD
    have hl : lv_has ls 5 [(4, .int (nI k)), (3, .int (c_daN S ai pi k)), (0, .ref (X 4)), (1, .int (nI ai)), (2, .int (nI pi))] := hl
    have ih_5 := ih
    refine lv_iload hx hb dX0_dropAllOf_5 (lv_at hl 0 rfl) ?_
    refine lv_bipush (v := nI 6) hx hb dX0_dropAllOf_7 (by decide) ?_
    refine z_ge_f (tgt := 45) (nI_ge (by omega) (by omega)) hx hb dX0_dropAllOf_9 (by decide) ?_
    refine lv_aload_n hx hb dX0_dropAllOf_12 rfl (lv_at hl 2 rfl) ?_
    refine lv_iload_n hx hb dX0_dropAllOf_13 rfl (lv_at hl 3 rfl) ?_
    refine lv_iload_n hx hb dX0_dropAllOf_14 rfl (lv_at hl 4 rfl) ?_
    refine lv_iload hx hb dX0_dropAllOf_15 (lv_at hl 0 rfl) ?_
    refine z_callR (W.runV (As := [.int (nI ai), .int (nI pi), .int (nI k)]) (rest := []) ⟨hx, hb, hml, hown, hts⟩ (kX0_areKept l D cI cZ X (c_daS S ai pi k) O V ai pi k (by omega) (by omega) (by omega)) (cwV 3 hts gX0_dropAllOf_X0_areKept rfl rfl rfl (by decide +kernel) ⟨Nat.le_of_ble_eq_true rfl, Nat.le_of_ble_eq_true rfl⟩) (zR_preV 4 0 hK hP rfl rfl) rfl rfl hl.1 rfl (lv_room (Nat.le_of_ble_eq_true rfl)) dX0_dropAllOf_17 ⟨Nat.zero_le _, Nat.zero_le _⟩) ?_
    refine z_if_eq (tgt := 39) hx hb dX0_dropAllOf_20 (by decide) (fun c_20 => ?_) (fun c_20 => ?_)
    · refine lv_iinc (v := nI (k + 1)) (lv' := [(4, .int (nI (k + 1))), (3, .int (c_daN S ai pi k)), (0, .ref (X 4)), (1, .int (nI ai)), (2, .int (nI pi))]) hx hb dX0_dropAllOf_39 hl (k := 0) rfl (nI_1 _) (by decide) rfl (fun ls hl => ?_)
      refine lv_goto (tgt := 5) hx hb dX0_dropAllOf_42 (by decide) ?_
      have e3 : (c_daN S ai pi (k + 1)) = (c_daN S ai pi k) := by simp [c_daN, c_daS, bi, (eq_true (nd_f c_20))]
      have eS : (c_daS S ai pi (k + 1)) = (c_daS S ai pi k) := by simp [c_daN, c_daS, bi, (eq_true (nd_f c_20))]
      exact ih_5 H locs ls (by show va_P D vwCl (hW cI cZ X (c_daS S ai pi (k + 1)) O V) H; rw [eS]; exact hP) (by show va_D A (hW cI cZ X (c_daS S ai pi (k + 1)) O V); rw [eS]; exact hD) hS (by show lv_has ls 5 [(4, .int (nI (k + 1))), (3, .int (c_daN S ai pi (k + 1))), (0, .ref (X 4)), (1, .int (nI ai)), (2, .int (nI pi))]; rw [e3]; exact lv_sub hl [0, 1, 2, 3, 4] rfl)
    · refine lv_aload_n hx hb dX0_dropAllOf_23 rfl (lv_at hl 2 rfl) ?_
      refine va_get (D := D) (ci := 0) (v := .ref (X 17)) (C := RX0) (T := TX0) (N := 3) hx hb hts i0 hown hK hP 4 rfl rfl 1 (by decide) fl_15 (fun _ h9 => h9) rfl dX0_dropAllOf_24 ?_
      refine lv_iload_n hx hb dX0_dropAllOf_27 rfl (lv_at hl 3 rfl) ?_
      refine lv_iload_n hx hb dX0_dropAllOf_28 rfl (lv_at hl 4 rfl) ?_
      refine lv_iload hx hb dX0_dropAllOf_29 (lv_at hl 0 rfl) ?_
      refine z_callR (W.runS (As := [.int (nI ai), .int (nI pi), .int (nI k)]) (rest := [.ref (X 17)]) ⟨hx, hb, hml, hown, hts⟩ (kX0_place l ai pi k) (va_cwS 3 hts gX0_dropAllOf_X0_place rfl rfl rfl (by decide +kernel) ⟨Nat.le_of_ble_eq_true rfl, Nat.le_of_ble_eq_true rfl⟩) zP_pre rfl rfl hl.1 rfl (lv_room (Nat.le_of_ble_eq_true rfl)) dX0_dropAllOf_31 ⟨Nat.zero_le _, Nat.zero_le _⟩) ?_
      refine lv_iconst (v := (-1)) hx hb dX0_dropAllOf_34 rfl ?_
      refine z_iast (D := D) (j := (ai * 60 + pi * 6 + k)) (f := (c_daS S ai pi k) 17) hx hb hK hP hD hS 17 0 rfl rfl (by omega) (by decide) dX0_dropAllOf_35 (fun H locs hP hD hS => ?_)
      have hP : va_P D vwCl (hW cI cZ X (va_up (c_daS S ai pi k) 17 (upd ((c_daS S ai pi k) 17) (ai * 60 + pi * 6 + k) (-1))) O V) H := hP
      have hD : va_D A (hW cI cZ X (va_up (c_daS S ai pi k) 17 (upd ((c_daS S ai pi k) 17) (ai * 60 + pi * 6 + k) (-1))) O V) := hD
      refine lv_iinc (v := c_daN S ai pi k + 1) (lv' := [(3, .int (c_daN S ai pi k + 1)), (4, .int (nI k)), (0, .ref (X 4)), (1, .int (nI ai)), (2, .int (nI pi))]) hx hb dX0_dropAllOf_36 hl (k := 1) rfl rfl (by decide) rfl (fun ls hl => ?_)
      refine lv_iinc (v := nI (k + 1)) (lv' := [(4, .int (nI (k + 1))), (3, .int (c_daN S ai pi k + 1)), (0, .ref (X 4)), (1, .int (nI ai)), (2, .int (nI pi))]) hx hb dX0_dropAllOf_39 hl (k := 1) rfl (nI_1 _) (by decide) rfl (fun ls hl => ?_)
      refine lv_goto (tgt := 5) hx hb dX0_dropAllOf_42 (by decide) ?_
      have e3 : (c_daN S ai pi (k + 1)) = (c_daN S ai pi k + 1) := by simp [c_daN, c_daS, bi, (nd_t c_20)]
      have eS : (c_daS S ai pi (k + 1)) = (va_up (c_daS S ai pi k) 17 (upd ((c_daS S ai pi k) 17) (ai * 60 + pi * 6 + k) (-1))) := by simp [c_daN, c_daS, bi, (nd_t c_20)]
      exact ih_5 H locs ls (by show va_P D vwCl (hW cI cZ X (c_daS S ai pi (k + 1)) O V) H; rw [eS]; exact hP) (by show va_D A (hW cI cZ X (c_daS S ai pi (k + 1)) O V); rw [eS]; exact hD) hS (by show lv_has ls 5 [(4, .int (nI (k + 1))), (3, .int (c_daN S ai pi (k + 1))), (0, .ref (X 4)), (1, .int (nI ai)), (2, .int (nI pi))]; rw [e3]; exact lv_sub hl [0, 1, 2, 3, 4] rfl)

set_option maxHeartbeats 4000000 in
set_option maxRecDepth 100000 in
theorem kX0_dropDue (l : Launch) (D : va_G) (cI cZ : ClassId) (X : Nat → Nat) (S : Nat → Nat → Int32) (O : Nat → Bool) (V : Nat → Int32) (sz : Nat) (ai : Nat) (x0 : Int32) (hai : ai < 4) : Met l yX0_dropDue wsX0_dropDue ({ frames := 1, cells := 0, slots := 0, locals := 22 } : Room) (zW D (tyl cI cZ) (hW cI cZ X S O V) sz [.ref (X 4), .int (nI ai), .int x0]) (zQv D (tyl cI cZ) (hW cI cZ X (c_ddS S ai x0 60) O V) (va_A (hW cI cZ X S O V) sz)) 0 0 (va_A (hW cI cZ X S O V) sz) := by
  refine Met.ofW (cc := cX0_dropDue) (maxL := 5) (ret := none) (by decide) rfl ?_
  intro p e s m args below meth c s₁ B hml hv
  obtain ⟨rfl, hsz, hP, hK, hD0⟩ := hv
  have hx := B.exec
  have hb := B.bytes
  have hr := B.returns
  have hts := atoms_spec (ws := wsX0_dropDue) B.pre
  have hown : s.vm.findClass RX0 = some m.cls := findClass_of_methodNamed B.named
  have hlocks := B.notSynchronized
  subst hsz
  have hD := hD0.self (sz := s.heap.size)
  generalize hAe : va_A (hW cI cZ X S O V) s.heap.size = A at hD ⊢
  have hA : ∀ q : Nat, s.heap.size ≤ q → A q := fun q h => by rw [← hAe]; exact Or.inr h
  have hS : va_S A s.heap s.heap [] := va_S.rf
  have i0 : ∀ w ∈ u_ws RX0 TX0 3, w ∈ wsX0_dropDue := by decide +kernel
  have fl_9 := hts (.fieldLink RX0 9 "SignOnHouse$Decisions" "caches" "[I") (by decide +kernel)
  have fl_15 := hts (.fieldLink RX0 15 "SignOnHouse$Decisions" "answers" "[I") (by decide +kernel)
  have fl_18 := hts (.fieldLink RX0 18 "SignOnHouse$Decisions" "keptSince" "[I") (by decide +kernel)
  have hl := lv_entry ([.ref (X 4), .int (nI ai), .int x0]) (n := 5) (Nat.le_of_ble_eq_true rfl)
  rw [lg_entry_eq]
  generalize (lg_sl ([.ref (X 4), .int (nI ai), .int x0]) ++ List.replicate (5 - (lg_sl ([.ref (X 4), .int (nI ai), .int x0])).length) Slot.unset).toArray = ls at hl ⊢
  have hl : lv_has ls 5 [(0, .ref (X 4)), (1, .int (nI ai)), (2, .int x0)] := hl
  refine lv_iload_n hx hb dX0_dropDue_0 rfl (lv_at hl 1 rfl) ?_
  refine lv_iconst (v := nI 0) hx hb dX0_dropDue_1 rfl ?_
  refine lv_iconst (v := nI 0) hx hb dX0_dropDue_2 rfl ?_
  refine z_callR (W.runS (As := [.int (nI ai), .int (nI 0), .int (nI 0)]) (rest := []) ⟨hx, hb, hml, hown, hts⟩ (kX0_place l ai 0 0) (va_cwS 3 hts gX0_dropDue_X0_place rfl rfl rfl (by decide +kernel) ⟨Nat.le_of_ble_eq_true rfl, Nat.le_of_ble_eq_true rfl⟩) zP_pre rfl rfl hl.1 rfl (lv_room (Nat.le_of_ble_eq_true rfl)) dX0_dropDue_3 ⟨Nat.zero_le _, Nat.zero_le _⟩) ?_
  refine z_top (nI (ai * 60)) (by rw [show ai * 60 + 0 * 6 + 0 = ai * 60 by omega]) ?_
  refine lv_istore_n (lv' := [(3, .int (nI (ai * 60))), (0, .ref (X 4)), (1, .int (nI ai)), (2, .int x0)]) hx hb dX0_dropDue_6 rfl hl (by decide) rfl (fun ls hl => ?_)
  refine lv_iload_n hx hb dX0_dropDue_7 rfl (lv_at hl 0 rfl) ?_
  refine lv_istore (lv' := [(4, .int (nI (ai * 60))), (3, .int (nI (ai * 60))), (0, .ref (X 4)), (1, .int (nI ai)), (2, .int x0)]) hx hb dX0_dropDue_8 hl (by decide) rfl (fun ls hl => ?_)
  refine z_loopW (N := 60) (nL := 5) (Lc := (fun k => [(4, .int (nI (ai * 60 + k))), (3, .int (nI (ai * 60))), (0, .ref (X 4)), (1, .int (nI ai)), (2, .int x0)])) (Wd := fun k => hW cI cZ X (c_ddS S ai x0 k) O V) (lv_sub hl [0, 1, 2, 3, 4] rfl) hP hD hS (fun H locs ls hP hD hS hl => ?_) (fun k H locs ls hk hP hD hS hl ih => ?_)
  · have hP : va_P D vwCl (hW cI cZ X (c_ddS S ai x0 60) O V) H := hP
    have hD : va_D A (hW cI cZ X (c_ddS S ai x0 60) O V) := hD
    have hl : lv_has ls 5 [(4, .int (nI (ai * 60 + 60))), (3, .int (nI (ai * 60))), (0, .ref (X 4)), (1, .int (nI ai)), (2, .int x0)] := hl
    refine lv_iload hx hb dX0_dropDue_10 (lv_at hl 0 rfl) ?_
    refine lv_iload_n hx hb dX0_dropDue_12 rfl (lv_at hl 1 rfl) ?_
    refine lv_bipush (v := 60) hx hb dX0_dropDue_13 (by decide) ?_
    refine lv_iadd hx hb dX0_dropDue_15 ?_
    refine z_top (nI (ai * 60 + 60)) (by rw [show (60 : Int32) = nI 60 from rfl, nI_add]) ?_
    refine z_ge_t (tgt := 51) (nI_le (by omega) (by omega)) hx hb dX0_dropDue_16 (by decide) ?_
    exact z_wvret hx hb hr hlocks hP hK hD hS dX0_dropDue_51
  · have hP : va_P D vwCl (hW cI cZ X (c_ddS S ai x0 k) O V) H := hP
    have hD : va_D A (hW cI cZ X (c_ddS S ai x0 k) O V) := hD
    have hl : lv_has ls 5 [(4, .int (nI (ai * 60 + k))), (3, .int (nI (ai * 60))), (0, .ref (X 4)), (1, .int (nI ai)), (2, .int x0)] := hl
    have ih_10 := ih
    refine lv_iload hx hb dX0_dropDue_10 (lv_at hl 0 rfl) ?_
    refine lv_iload_n hx hb dX0_dropDue_12 rfl (lv_at hl 1 rfl) ?_
    refine lv_bipush (v := 60) hx hb dX0_dropDue_13 (by decide) ?_
    refine lv_iadd hx hb dX0_dropDue_15 ?_
    refine z_top (nI (ai * 60 + 60)) (by rw [show (60 : Int32) = nI 60 from rfl, nI_add]) ?_
    refine z_ge_f (tgt := 51) (nI_ge (by omega) (by omega)) hx hb dX0_dropDue_16 (by decide) ?_
    refine lv_iload_n hx hb dX0_dropDue_19 rfl (lv_at hl 4 rfl) ?_
    refine lv_aload_n hx hb dX0_dropDue_20 rfl (lv_at hl 2 rfl) ?_
    refine va_get (D := D) (ci := 0) (v := .ref (X 18)) (C := RX0) (T := TX0) (N := 3) hx hb hts i0 hown hK hP 4 rfl rfl 2 (by decide) fl_18 (fun _ h9 => h9) rfl dX0_dropDue_21 ?_
    refine lv_iload hx hb dX0_dropDue_24 (lv_at hl 0 rfl) ?_
    refine z_iald (D := D) (j := ai * 60 + k) (f := (c_ddS S ai x0 k) 18) hx hb hK hP 18 0 rfl rfl (by omega) (by decide) dX0_dropDue_26 ?_
    refine lv_isub hx hb dX0_dropDue_27 ?_
    refine lv_aload_n hx hb dX0_dropDue_28 rfl (lv_at hl 2 rfl) ?_
    refine va_get (D := D) (ci := 0) (v := .ref (X 16)) (C := RX0) (T := TX0) (N := 3) hx hb hts i0 hown hK hP 4 rfl rfl 0 (by decide) fl_9 (fun _ h9 => h9) rfl dX0_dropDue_29 ?_
    refine lv_iload_n hx hb dX0_dropDue_32 rfl (lv_at hl 3 rfl) ?_
    refine z_iald (D := D) (j := ai) (f := (c_ddS S ai x0 k) 16) hx hb hK hP 16 0 rfl rfl (by omega) (by decide) dX0_dropDue_33 ?_
    refine lv_icmp_lt (tgt := 45) hx hb dX0_dropDue_34 (by decide) (fun c_34 => ?_) (fun c_34 => ?_)
    · refine lv_iinc (v := nI (ai * 60 + k + 1)) (lv' := [(4, .int (nI (ai * 60 + k + 1))), (3, .int (nI (ai * 60))), (0, .ref (X 4)), (1, .int (nI ai)), (2, .int x0)]) hx hb dX0_dropDue_45 hl (k := 0) rfl (nI_1 _) (by decide) rfl (fun ls hl => ?_)
      refine lv_goto (tgt := 10) hx hb dX0_dropDue_48 (by decide) ?_
      have eS : (c_ddS S ai x0 (k + 1)) = (c_ddS S ai x0 k) := by simp [c_ddS, bi, c_34]
      exact ih_10 H locs ls (by show va_P D vwCl (hW cI cZ X (c_ddS S ai x0 (k + 1)) O V) H; rw [eS]; exact hP) (by show va_D A (hW cI cZ X (c_ddS S ai x0 (k + 1)) O V); rw [eS]; exact hD) hS (by show lv_has ls 5 [(4, .int (nI (ai * 60 + (k + 1)))), (3, .int (nI (ai * 60))), (0, .ref (X 4)), (1, .int (nI ai)), (2, .int x0)]; exact lv_sub hl [0, 1, 2, 3, 4] rfl)
    · refine lv_aload_n hx hb dX0_dropDue_37 rfl (lv_at hl 2 rfl) ?_
      refine va_get (D := D) (ci := 0) (v := .ref (X 17)) (C := RX0) (T := TX0) (N := 3) hx hb hts i0 hown hK hP 4 rfl rfl 1 (by decide) fl_15 (fun _ h9 => h9) rfl dX0_dropDue_38 ?_
      refine lv_iload hx hb dX0_dropDue_41 (lv_at hl 0 rfl) ?_
      refine lv_iconst (v := (-1)) hx hb dX0_dropDue_43 rfl ?_
      refine z_iast (D := D) (j := ai * 60 + k) (f := (c_ddS S ai x0 k) 17) hx hb hK hP hD hS 17 0 rfl rfl (by omega) (by decide) dX0_dropDue_44 (fun H locs hP hD hS => ?_)
      have hP : va_P D vwCl (hW cI cZ X (va_up (c_ddS S ai x0 k) 17 (upd ((c_ddS S ai x0 k) 17) (ai * 60 + k) (-1))) O V) H := hP
      have hD : va_D A (hW cI cZ X (va_up (c_ddS S ai x0 k) 17 (upd ((c_ddS S ai x0 k) 17) (ai * 60 + k) (-1))) O V) := hD
      refine lv_iinc (v := nI (ai * 60 + k + 1)) (lv' := [(4, .int (nI (ai * 60 + k + 1))), (3, .int (nI (ai * 60))), (0, .ref (X 4)), (1, .int (nI ai)), (2, .int x0)]) hx hb dX0_dropDue_45 hl (k := 0) rfl (nI_1 _) (by decide) rfl (fun ls hl => ?_)
      refine lv_goto (tgt := 10) hx hb dX0_dropDue_48 (by decide) ?_
      have eS : (c_ddS S ai x0 (k + 1)) = (va_up (c_ddS S ai x0 k) 17 (upd ((c_ddS S ai x0 k) 17) (ai * 60 + k) (-1))) := by simp [c_ddS, bi, c_34]
      exact ih_10 H locs ls (by show va_P D vwCl (hW cI cZ X (c_ddS S ai x0 (k + 1)) O V) H; rw [eS]; exact hP) (by show va_D A (hW cI cZ X (c_ddS S ai x0 (k + 1)) O V); rw [eS]; exact hD) hS (by show lv_has ls 5 [(4, .int (nI (ai * 60 + (k + 1)))), (3, .int (nI (ai * 60))), (0, .ref (X 4)), (1, .int (nI ai)), (2, .int x0)]; exact lv_sub hl [0, 1, 2, 3, 4] rfl)

set_option maxHeartbeats 4000000 in
set_option maxRecDepth 100000 in
theorem kX0_dropDueOfAll (l : Launch) (D : va_G) (cI cZ : ClassId) (X : Nat → Nat) (S : Nat → Nat → Int32) (O : Nat → Bool) (V : Nat → Int32) (sz : Nat) (x0 : Int32) : Met l yX0_dropDueOfAll wsX0_dropDueOfAll ({ frames := 2, cells := 0, slots := 0, locals := 46 } : Room) (zW D (tyl cI cZ) (hW cI cZ X S O V) sz [.ref (X 4), .int x0]) (zQv D (tyl cI cZ) (hW cI cZ X (c_doS S x0 4) O V) (va_A (hW cI cZ X S O V) sz)) 0 0 (va_A (hW cI cZ X S O V) sz) := by
  refine Met.ofW (cc := cX0_dropDueOfAll) (maxL := 3) (ret := none) (by decide) rfl ?_
  intro p e s m args below meth c s₁ B hml hv
  obtain ⟨rfl, hsz, hP, hK, hD0⟩ := hv
  have hx := B.exec
  have hb := B.bytes
  have hr := B.returns
  have hts := atoms_spec (ws := wsX0_dropDueOfAll) B.pre
  have hown : s.vm.findClass RX0 = some m.cls := findClass_of_methodNamed B.named
  have hlocks := B.notSynchronized
  subst hsz
  have hD := hD0.self (sz := s.heap.size)
  generalize hAe : va_A (hW cI cZ X S O V) s.heap.size = A at hD ⊢
  have hA : ∀ q : Nat, s.heap.size ≤ q → A q := fun q h => by rw [← hAe]; exact Or.inr h
  have hS : va_S A s.heap s.heap [] := va_S.rf
  have hl := lv_entry ([.ref (X 4), .int x0]) (n := 3) (Nat.le_of_ble_eq_true rfl)
  rw [lg_entry_eq]
  generalize (lg_sl ([.ref (X 4), .int x0]) ++ List.replicate (3 - (lg_sl ([.ref (X 4), .int x0])).length) Slot.unset).toArray = ls at hl ⊢
  have hl : lv_has ls 3 [(0, .ref (X 4)), (1, .int x0)] := hl
  refine lv_iconst (v := nI 0) hx hb dX0_dropDueOfAll_0 rfl ?_
  refine lv_istore_n (lv' := [(2, .int (nI 0)), (0, .ref (X 4)), (1, .int x0)]) hx hb dX0_dropDueOfAll_1 rfl hl (by decide) rfl (fun ls hl => ?_)
  refine z_loopW (N := 4) (nL := 3) (Lc := (fun k => [(2, .int (nI k)), (0, .ref (X 4)), (1, .int x0)])) (Wd := fun k => hW cI cZ X (c_doS S x0 k) O V) (lv_sub hl [0, 1, 2] rfl) hP hD hS (fun H locs ls hP hD hS hl => ?_) (fun k H locs ls hk hP hD hS hl ih => ?_)
  · have hP : va_P D vwCl (hW cI cZ X (c_doS S x0 4) O V) H := hP
    have hD : va_D A (hW cI cZ X (c_doS S x0 4) O V) := hD
    have hl : lv_has ls 3 [(2, .int (nI 4)), (0, .ref (X 4)), (1, .int x0)] := hl
    refine lv_iload_n hx hb dX0_dropDueOfAll_2 rfl (lv_at hl 0 rfl) ?_
    refine lv_iconst (v := nI 4) hx hb dX0_dropDueOfAll_3 rfl ?_
    refine z_ge_t (tgt := 19) (nI_le (by omega) (by omega)) hx hb dX0_dropDueOfAll_4 (by decide) ?_
    exact z_wvret hx hb hr hlocks hP hK hD hS dX0_dropDueOfAll_19
  · have hP : va_P D vwCl (hW cI cZ X (c_doS S x0 k) O V) H := hP
    have hD : va_D A (hW cI cZ X (c_doS S x0 k) O V) := hD
    have hl : lv_has ls 3 [(2, .int (nI k)), (0, .ref (X 4)), (1, .int x0)] := hl
    have ih_2 := ih
    refine lv_iload_n hx hb dX0_dropDueOfAll_2 rfl (lv_at hl 0 rfl) ?_
    refine lv_iconst (v := nI 4) hx hb dX0_dropDueOfAll_3 rfl ?_
    refine z_ge_f (tgt := 19) (nI_ge (by omega) (by omega)) hx hb dX0_dropDueOfAll_4 (by decide) ?_
    refine lv_aload_n hx hb dX0_dropDueOfAll_7 rfl (lv_at hl 1 rfl) ?_
    refine lv_iload_n hx hb dX0_dropDueOfAll_8 rfl (lv_at hl 0 rfl) ?_
    refine lv_iload_n hx hb dX0_dropDueOfAll_9 rfl (lv_at hl 2 rfl) ?_
    have hF := z_free hD hS hA
    refine z_callWv (va_runV (As := [.int (nI k), .int x0]) (rest := []) ⟨hx, hb, hml, hown, hts⟩ (kX0_dropDue l D cI cZ X (c_doS S x0 k) O V _ k x0 (by omega)) (cwV 2 hts gX0_dropDueOfAll_X0_dropDue rfl rfl rfl (by decide +kernel) ⟨Nat.le_of_ble_eq_true rfl, Nat.le_of_ble_eq_true rfl⟩) (zW_preV 4 0 hK hP hD rfl rfl) rfl rfl hl.1 rfl (lv_room (Nat.le_of_ble_eq_true rfl)) dX0_dropDueOfAll_10 ⟨Nat.zero_le _, Nat.zero_le _⟩) hS hF (fun H locs hP hD hS => ?_)
    refine lv_iinc (v := nI (k + 1)) (lv' := [(2, .int (nI (k + 1))), (0, .ref (X 4)), (1, .int x0)]) hx hb dX0_dropDueOfAll_13 hl (k := 0) rfl (nI_1 _) (by decide) rfl (fun ls hl => ?_)
    refine lv_goto (tgt := 2) hx hb dX0_dropDueOfAll_16 (by decide) ?_
    have eS : (c_doS S x0 (k + 1)) = (c_ddS (c_doS S x0 k) k x0 60) := by rfl
    exact ih_2 H locs ls (by show va_P D vwCl (hW cI cZ X (c_doS S x0 (k + 1)) O V) H; rw [eS]; exact hP) (by show va_D A (hW cI cZ X (c_doS S x0 (k + 1)) O V); rw [eS]; exact hD) hS (by show lv_has ls 3 [(2, .int (nI (k + 1))), (0, .ref (X 4)), (1, .int x0)]; exact lv_sub hl [0, 1, 2] rfl)
