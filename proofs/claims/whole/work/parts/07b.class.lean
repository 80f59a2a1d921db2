set_option maxHeartbeats 4000000 in
set_option maxRecDepth 100000 in
theorem kX4_changeKeys (l : Launch) (hl0 : l.stackTraces = false) (D : va_G) (cI cZ : ClassId) (X : Nat → Nat) (S : Nat → Nat → Int32) (O : Nat → Bool) (V : Nat → Int32) (sz : Nat) (x0 : Int32) (n0 : Nat) (hn0 : n0 ≤ 30) (hct : V 1 = nI n0) (hpe : ∀ j : Nat, j < n0 → vp_in (S 11 j) 10) : vx_Met l yX4_changeKeys wsX4_changeKeys ({ frames := 6, cells := 1, slots := 6, locals := 90 } : Room) (zT D (tyl cI cZ) (hW cI cZ X S O V) sz [.ref (X 0), .int x0]) (zTi D (tyl cI cZ) (hW cI cZ X S (c_edO S O (c_ckV V x0) (V 0) n0) (c_ckV V x0)) (c_ckK x0) (V 2 + 1) (va_A (hW cI cZ X S O V) sz)) (zXC D (tyl cI cZ) (hW cI cZ X S O V) (va_A (hW cI cZ X S O V) sz) (fun E => ((c_ckK x0) = 1 ∧ E = "java/lang/IllegalArgumentException"))) 1 6 (va_A (hW cI cZ X S O V) sz) := by
  refine vx_ofW (cc := cX4_changeKeys) (maxL := 2) (ret := (some .int)) (by decide) rfl ?_
  intro p e s m args below meth c s₁ B hml htb hv
  obtain ⟨rfl, hsz, hP, hK, hD0, hZ⟩ := hv
  have hx := B.exec
  have hb := B.bytes
  have hr := B.returns
  have hts := atoms_spec (ws := wsX4_changeKeys) B.pre
  have hown : s.vm.findClass RX4 = some m.cls := findClass_of_methodNamed B.named
  have hlocks := B.notSynchronized
  subst hsz
  have hD := hD0.self (sz := s.heap.size)
  generalize hAe : va_A (hW cI cZ X S O V) s.heap.size = A at hD hZ ⊢
  have hA : ∀ q : Nat, s.heap.size ≤ q → A q := fun q h => by rw [← hAe]; exact Or.inr h
  have hS : va_S A s.heap s.heap [] := va_S.rf
  have i4 : ∀ w ∈ u_ws RX4 TX4 7, w ∈ wsX4_changeKeys := by decide +kernel
  have fl_19 := hts (.fieldLink RX4 19 "SignOnHouse" "sessions" "LSignOnHouse$Sessions;") (by decide +kernel)
  have fl_26 := hts (.fieldLink RX4 26 "SignOnHouse" "keys" "LSignOnHouse$Keys;") (by decide +kernel)
  have fl_37 := hts (.fieldLink RX4 37 "SignOnHouse" "risks" "[I") (by decide +kernel)
  have fl_44 := hts (.fieldLink RX4 44 "SignOnHouse" "minute" "I") (by decide +kernel)
  have xk52 := hts (.classLink RX4 52 "java/lang/IllegalArgumentException") (by decide +kernel)
  have xi52 := hts (.initialized "java/lang/IllegalArgumentException") (by decide +kernel)
  have xa52 : ∀ w ∈ (vx_atS RX4 56 "java/lang/IllegalArgumentException" xnames).filter goodWord, w ∈ wsX4_changeKeys := by decide +kernel
  have hl := lv_entry ([.ref (X 0), .int x0]) (n := 2) (Nat.le_of_ble_eq_true rfl)
  rw [lg_entry_eq]
  generalize (lg_sl ([.ref (X 0), .int x0]) ++ List.replicate (2 - (lg_sl ([.ref (X 0), .int x0])).length) Slot.unset).toArray = ls at hl ⊢
  have hl : lv_has ls 2 [(0, .ref (X 0)), (1, .int x0)] := hl
  refine lv_iload_n hx hb dX4_changeKeys_0 rfl (lv_at hl 1 rfl) ?_
  refine lv_if_lt (tgt := 11) hx hb dX4_changeKeys_1 (by decide) (fun c_1 => ?_) (fun c_1 => ?_)
  · exact z_throw (cls := "java/lang/IllegalArgumentException") (text := "minutes is out of range") (ik := 52) (is := 142) (ic := 56) hx hb hl0 hown zxI_fit xk52 xi52 (fun w hw => hts w (xa52 w hw)) zxI_bad zxI_ot hZ (by decide +kernel) hS (by rw [hml]; exact hl.1) dX4_changeKeys_11 dX4_changeKeys_14 dX4_changeKeys_15 dX4_changeKeys_17 dX4_changeKeys_20 htb (by decide) (by decide) (by decide) (by decide) hlocks hP hK hD ⟨by simp [c_ckK, c_1], rfl⟩
  · refine lv_iload_n hx hb dX4_changeKeys_4 rfl (lv_at hl 1 rfl) ?_
    refine lv_sipush (v := 300) hx hb dX4_changeKeys_5 (by decide) ?_
    refine lv_icmp_le (tgt := 21) hx hb dX4_changeKeys_8 (by decide) (fun c_8 => ?_) (fun c_8 => ?_)
    · refine lv_aload_n hx hb dX4_changeKeys_21 rfl (lv_at hl 0 rfl) ?_
      refine va_get (D := D) (ci := 4) (v := .ref (X 3)) (C := RX4) (T := TX4) (N := 7) hx hb hts i4 hown hK hP 0 rfl rfl 2 (by decide) fl_26 (fun _ h9 => h9) rfl dX4_changeKeys_22 ?_
      refine lv_aload_n hx hb dX4_changeKeys_25 rfl (lv_at hl 0 rfl) ?_
      refine va_get (D := D) (ci := 4) (v := .int (V 0)) (C := RX4) (T := TX4) (N := 7) hx hb hts i4 hown hK hP 0 rfl rfl 6 (by decide) fl_44 (fun _ h9 => h9) rfl dX4_changeKeys_26 ?_
      refine lv_iload_n hx hb dX4_changeKeys_29 rfl (lv_at hl 1 rfl) ?_
      refine lv_iadd hx hb dX4_changeKeys_30 ?_
      have hF := z_free hD hS hA
      refine z_callWv (va_runV (As := [.int ((V 0) + x0)]) (rest := []) ⟨hx, hb, hml, hown, hts⟩ (kX2_signWithNext l D cI cZ X S O V _ ((V 0) + x0)) (cwV 1 hts gX4_changeKeys_X2_signWithNext rfl rfl rfl (by decide +kernel) ⟨Nat.le_of_ble_eq_true rfl, Nat.le_of_ble_eq_true rfl⟩) (zW_preV 3 2 hK hP hD rfl rfl) rfl rfl hl.1 rfl (lv_room (Nat.le_of_ble_eq_true rfl)) dX4_changeKeys_31 ⟨Nat.zero_le _, Nat.zero_le _⟩) hS hF (fun H locs hP hD hS => ?_)
      refine lv_aload_n hx hb dX4_changeKeys_34 rfl (lv_at hl 0 rfl) ?_
      refine va_get (D := D) (ci := 4) (v := .ref (X 2)) (C := RX4) (T := TX4) (N := 7) hx hb hts i4 hown hK hP 0 rfl rfl 1 (by decide) fl_19 (fun _ h9 => h9) rfl dX4_changeKeys_35 ?_
      refine lv_aload_n hx hb dX4_changeKeys_38 rfl (lv_at hl 0 rfl) ?_
      refine va_get (D := D) (ci := 4) (v := .int ((va_up (va_up V 2 (V 2 + 1)) 3 ((V 0) + x0)) 0)) (C := RX4) (T := TX4) (N := 7) hx hb hts i4 hown hK hP 0 rfl rfl 6 (by decide) fl_44 (fun _ h9 => h9) rfl dX4_changeKeys_39 ?_
      refine lv_aload_n hx hb dX4_changeKeys_42 rfl (lv_at hl 0 rfl) ?_
      refine va_get (D := D) (ci := 4) (v := .ref (X 5)) (C := RX4) (T := TX4) (N := 7) hx hb hts i4 hown hK hP 0 rfl rfl 4 (by decide) fl_37 (fun _ h9 => h9) rfl dX4_changeKeys_43 ?_
      refine lv_aload_n hx hb dX4_changeKeys_46 rfl (lv_at hl 0 rfl) ?_
      refine va_get (D := D) (ci := 4) (v := .ref (X 3)) (C := RX4) (T := TX4) (N := 7) hx hb hts i4 hown hK hP 0 rfl rfl 2 (by decide) fl_26 (fun _ h9 => h9) rfl dX4_changeKeys_47 ?_
      have hF := z_free hD hS hA
      refine z_callWi (va_runV (As := [.int ((va_up (va_up V 2 (V 2 + 1)) 3 ((V 0) + x0)) 0), .ref (X 5), .ref (X 3)]) (rest := []) ⟨hx, hb, hml, hown, hts⟩ (kX3_endDue l D cI cZ X S O (va_up (va_up V 2 (V 2 + 1)) 3 ((V 0) + x0)) _ ((va_up (va_up V 2 (V 2 + 1)) 3 ((V 0) + x0)) 0) n0 hn0 hct hpe) (cwV 3 hts gX4_changeKeys_X3_endDue rfl rfl rfl (by decide +kernel) ⟨Nat.le_of_ble_eq_true rfl, Nat.le_of_ble_eq_true rfl⟩) (zW_preV 2 3 hK hP hD rfl rfl) rfl rfl hl.1 rfl (lv_room (Nat.le_of_ble_eq_true rfl)) dX4_changeKeys_50 ⟨Nat.zero_le _, Nat.zero_le _⟩) hS hF (fun H locs hP hD hS => ?_)
      refine lv_pop hx hb dX4_changeKeys_53 rfl ?_
      refine lv_aload_n hx hb dX4_changeKeys_54 rfl (lv_at hl 0 rfl) ?_
      refine va_get (D := D) (ci := 4) (v := .ref (X 3)) (C := RX4) (T := TX4) (N := 7) hx hb hts i4 hown hK hP 0 rfl rfl 2 (by decide) fl_26 (fun _ h9 => h9) rfl dX4_changeKeys_55 ?_
      refine z_callR (W.runV (As := []) (rest := []) ⟨hx, hb, hml, hown, hts⟩ (kX2_signing l D cI cZ X S (c_edO S O (va_up (va_up V 2 (V 2 + 1)) 3 ((V 0) + x0)) ((va_up (va_up V 2 (V 2 + 1)) 3 ((V 0) + x0)) 0) n0) (va_up (va_up V 2 (V 2 + 1)) 3 ((V 0) + x0)) ) (cwV 0 hts gX4_changeKeys_X2_signing rfl rfl rfl (by decide +kernel) ⟨Nat.le_of_ble_eq_true rfl, Nat.le_of_ble_eq_true rfl⟩) (zR_preV 3 2 hK hP rfl rfl) rfl rfl hl.1 rfl (lv_room (Nat.le_of_ble_eq_true rfl)) dX4_changeKeys_58 ⟨Nat.zero_le _, Nat.zero_le _⟩) ?_
      have eO : (c_edO S O (c_ckV V x0) (V 0) n0) = (c_edO S O (va_up (va_up V 2 (V 2 + 1)) 3 ((V 0) + x0)) ((va_up (va_up V 2 (V 2 + 1)) 3 ((V 0) + x0)) 0) n0) := by rfl
      have eV : (c_ckV V x0) = (va_up (va_up V 2 (V 2 + 1)) 3 ((V 0) + x0)) := by rfl
      exact z_tret hx hb hr hlocks (by rw [eO, eV]; exact hP) hK (by rw [eO, eV]; exact hD) hS (by simp [c_ckK, c_1, c_8]) (by rfl) dX4_changeKeys_61
    · exact z_throw (cls := "java/lang/IllegalArgumentException") (text := "minutes is out of range") (ik := 52) (is := 142) (ic := 56) hx hb hl0 hown zxI_fit xk52 xi52 (fun w hw => hts w (xa52 w hw)) zxI_bad zxI_ot hZ (by decide +kernel) hS (by rw [hml]; exact hl.1) dX4_changeKeys_11 dX4_changeKeys_14 dX4_changeKeys_15 dX4_changeKeys_17 dX4_changeKeys_20 htb (by decide) (by decide) (by decide) (by decide) hlocks hP hK hD ⟨by simp [c_ckK, c_1, c_8], rfl⟩

set_option maxHeartbeats 4000000 in
set_option maxRecDepth 100000 in
theorem kX4_isTaken (l : Launch) (hl0 : l.stackTraces = false) (D : va_G) (cI cZ : ClassId) (X : Nat → Nat) (S : Nat → Nat → Int32) (O : Nat → Bool) (V : Nat → Int32) (sz : Nat) (x0 : Int32) : vx_Met l yX4_isTaken wsX4_isTaken ({ frames := 6, cells := 1, slots := 6, locals := 90 } : Room) (zT D (tyl cI cZ) (hW cI cZ X S O V) sz [.ref (X 0), .int x0]) (zTi D (tyl cI cZ) (hW cI cZ X S O V) (c_itK V x0) (bi (c_takes V x0 (V 0))) (va_A (hW cI cZ X S O V) sz)) (zXC D (tyl cI cZ) (hW cI cZ X S O V) (va_A (hW cI cZ X S O V) sz) (fun E => ((c_itK V x0) = 1 ∧ E = "java/lang/IllegalArgumentException"))) 1 6 (va_A (hW cI cZ X S O V) sz) := by
  refine vx_ofW (cc := cX4_isTaken) (maxL := 2) (ret := (some .boolean)) (by decide) rfl ?_
  intro p e s m args below meth c s₁ B hml htb hv
  obtain ⟨rfl, hsz, hP, hK, hD0, hZ⟩ := hv
  have hx := B.exec
  have hb := B.bytes
  have hr := B.returns
  have hts := atoms_spec (ws := wsX4_isTaken) B.pre
  have hown : s.vm.findClass RX4 = some m.cls := findClass_of_methodNamed B.named
  have hlocks := B.notSynchronized
  subst hsz
  have hD := hD0.self (sz := s.heap.size)
  generalize hAe : va_A (hW cI cZ X S O V) s.heap.size = A at hD hZ ⊢
  have hA : ∀ q : Nat, s.heap.size ≤ q → A q := fun q h => by rw [← hAe]; exact Or.inr h
  have hS : va_S A s.heap s.heap [] := va_S.rf
  have i4 : ∀ w ∈ u_ws RX4 TX4 7, w ∈ wsX4_isTaken := by decide +kernel
  have fl_26 := hts (.fieldLink RX4 26 "SignOnHouse" "keys" "LSignOnHouse$Keys;") (by decide +kernel)
  have fl_44 := hts (.fieldLink RX4 44 "SignOnHouse" "minute" "I") (by decide +kernel)
  have xk52 := hts (.classLink RX4 52 "java/lang/IllegalArgumentException") (by decide +kernel)
  have xi52 := hts (.initialized "java/lang/IllegalArgumentException") (by decide +kernel)
  have xa52 : ∀ w ∈ (vx_atS RX4 56 "java/lang/IllegalArgumentException" xnames).filter goodWord, w ∈ wsX4_isTaken := by decide +kernel
  have hl := lv_entry ([.ref (X 0), .int x0]) (n := 2) (Nat.le_of_ble_eq_true rfl)
  rw [lg_entry_eq]
  generalize (lg_sl ([.ref (X 0), .int x0]) ++ List.replicate (2 - (lg_sl ([.ref (X 0), .int x0])).length) Slot.unset).toArray = ls at hl ⊢
  have hl : lv_has ls 2 [(0, .ref (X 0)), (1, .int x0)] := hl
  refine lv_iload_n hx hb dX4_isTaken_0 rfl (lv_at hl 1 rfl) ?_
  refine lv_if_lt (tgt := 15) hx hb dX4_isTaken_1 (by decide) (fun c_1 => ?_) (fun c_1 => ?_)
  · exact z_throw (cls := "java/lang/IllegalArgumentException") (text := "there is no such key") (ik := 52) (is := 151) (ic := 56) hx hb hl0 hown zxI_fit xk52 xi52 (fun w hw => hts w (xa52 w hw)) zxI_bad zxI_ot hZ (by decide +kernel) hS (by rw [hml]; exact hl.1) dX4_isTaken_15 dX4_isTaken_18 dX4_isTaken_19 dX4_isTaken_21 dX4_isTaken_24 htb (by decide) (by decide) (by decide) (by decide) hlocks hP hK hD ⟨by simp [c_itK, c_1], rfl⟩
  · refine lv_iload_n hx hb dX4_isTaken_4 rfl (lv_at hl 1 rfl) ?_
    refine lv_aload_n hx hb dX4_isTaken_5 rfl (lv_at hl 0 rfl) ?_
    refine va_get (D := D) (ci := 4) (v := .ref (X 3)) (C := RX4) (T := TX4) (N := 7) hx hb hts i4 hown hK hP 0 rfl rfl 2 (by decide) fl_26 (fun _ h9 => h9) rfl dX4_isTaken_6 ?_
    refine z_callR (W.runV (As := []) (rest := [.int x0]) ⟨hx, hb, hml, hown, hts⟩ (kX2_signing l D cI cZ X S O V ) (cwV 0 hts gX4_isTaken_X2_signing rfl rfl rfl (by decide +kernel) ⟨Nat.le_of_ble_eq_true rfl, Nat.le_of_ble_eq_true rfl⟩) (zR_preV 3 2 hK hP rfl rfl) rfl rfl hl.1 rfl (lv_room (Nat.le_of_ble_eq_true rfl)) dX4_isTaken_9 ⟨Nat.zero_le _, Nat.zero_le _⟩) ?_
    refine lv_icmp_le (tgt := 25) hx hb dX4_isTaken_12 (by decide) (fun c_12 => ?_) (fun c_12 => ?_)
    · refine lv_aload_n hx hb dX4_isTaken_25 rfl (lv_at hl 0 rfl) ?_
      refine va_get (D := D) (ci := 4) (v := .ref (X 3)) (C := RX4) (T := TX4) (N := 7) hx hb hts i4 hown hK hP 0 rfl rfl 2 (by decide) fl_26 (fun _ h9 => h9) rfl dX4_isTaken_26 ?_
      refine lv_iload_n hx hb dX4_isTaken_29 rfl (lv_at hl 1 rfl) ?_
      refine lv_aload_n hx hb dX4_isTaken_30 rfl (lv_at hl 0 rfl) ?_
      refine va_get (D := D) (ci := 4) (v := .int (V 0)) (C := RX4) (T := TX4) (N := 7) hx hb hts i4 hown hK hP 0 rfl rfl 6 (by decide) fl_44 (fun _ h9 => h9) rfl dX4_isTaken_31 ?_
      refine z_callR (W.runV (As := [.int x0, .int (V 0)]) (rest := []) ⟨hx, hb, hml, hown, hts⟩ (kX2_takes l D cI cZ X S O V x0 (V 0)) (cwV 2 hts gX4_isTaken_X2_takes rfl rfl rfl (by decide +kernel) ⟨Nat.le_of_ble_eq_true rfl, Nat.le_of_ble_eq_true rfl⟩) (zR_preV 3 2 hK hP rfl rfl) rfl rfl hl.1 rfl (lv_room (Nat.le_of_ble_eq_true rfl)) dX4_isTaken_34 ⟨Nat.zero_le _, Nat.zero_le _⟩) ?_
      exact z_tzret hx hb hr hlocks hP hK hD hS (by simp [c_itK, c_1, c_12]) rfl dX4_isTaken_37
    · exact z_throw (cls := "java/lang/IllegalArgumentException") (text := "there is no such key") (ik := 52) (is := 151) (ic := 56) hx hb hl0 hown zxI_fit xk52 xi52 (fun w hw => hts w (xa52 w hw)) zxI_bad zxI_ot hZ (by decide +kernel) hS (by rw [hml]; exact hl.1) dX4_isTaken_15 dX4_isTaken_18 dX4_isTaken_19 dX4_isTaken_21 dX4_isTaken_24 htb (by decide) (by decide) (by decide) (by decide) hlocks hP hK hD ⟨by simp [c_itK, c_1, c_12], rfl⟩

set_option maxHeartbeats 4000000 in
set_option maxRecDepth 100000 in
theorem kX4_pass (l : Launch) (hl0 : l.stackTraces = false) (D : va_G) (cI cZ : ClassId) (X : Nat → Nat) (S : Nat → Nat → Int32) (O : Nat → Bool) (V : Nat → Int32) (sz : Nat) (x0 : Int32) (n0 : Nat) (hn0 : n0 ≤ 30) (hct : V 1 = nI n0) (hpe : ∀ j : Nat, j < n0 → vp_in (S 11 j) 10) : vx_Met l yX4_pass wsX4_pass ({ frames := 6, cells := 1, slots := 6, locals := 90 } : Room) (zT D (tyl cI cZ) (hW cI cZ X S O V) sz [.ref (X 0), .int x0]) (zTi D (tyl cI cZ) (hW cI cZ X (c_doS S (V 0 + x0) 4) (c_edO (c_doS S (V 0 + x0) 4) O (c_paV V x0) (V 0 + x0) n0) (c_paV V x0)) (c_paK x0) (c_edN (c_doS S (V 0 + x0) 4) O (c_paV V x0) (V 0 + x0) n0) (va_A (hW cI cZ X S O V) sz)) (zXC D (tyl cI cZ) (hW cI cZ X S O V) (va_A (hW cI cZ X S O V) sz) (fun E => ((c_paK x0) = 1 ∧ E = "java/lang/IllegalArgumentException"))) 1 6 (va_A (hW cI cZ X S O V) sz) := by
  refine vx_ofW (cc := cX4_pass) (maxL := 2) (ret := (some .int)) (by decide) rfl ?_
  intro p e s m args below meth c s₁ B hml htb hv
  obtain ⟨rfl, hsz, hP, hK, hD0, hZ⟩ := hv
  have hx := B.exec
  have hb := B.bytes
  have hr := B.returns
  have hts := atoms_spec (ws := wsX4_pass) B.pre
  have hown : s.vm.findClass RX4 = some m.cls := findClass_of_methodNamed B.named
  have hlocks := B.notSynchronized
  subst hsz
  have hD := hD0.self (sz := s.heap.size)
  generalize hAe : va_A (hW cI cZ X S O V) s.heap.size = A at hD hZ ⊢
  have hA : ∀ q : Nat, s.heap.size ≤ q → A q := fun q h => by rw [← hAe]; exact Or.inr h
  have hS : va_S A s.heap s.heap [] := va_S.rf
  have i4 : ∀ w ∈ u_ws RX4 TX4 7, w ∈ wsX4_pass := by decide +kernel
  have fl_19 := hts (.fieldLink RX4 19 "SignOnHouse" "sessions" "LSignOnHouse$Sessions;") (by decide +kernel)
  have fl_26 := hts (.fieldLink RX4 26 "SignOnHouse" "keys" "LSignOnHouse$Keys;") (by decide +kernel)
  have fl_33 := hts (.fieldLink RX4 33 "SignOnHouse" "decisions" "LSignOnHouse$Decisions;") (by decide +kernel)
  have fl_37 := hts (.fieldLink RX4 37 "SignOnHouse" "risks" "[I") (by decide +kernel)
  have fl_44 := hts (.fieldLink RX4 44 "SignOnHouse" "minute" "I") (by decide +kernel)
  have xk52 := hts (.classLink RX4 52 "java/lang/IllegalArgumentException") (by decide +kernel)
  have xi52 := hts (.initialized "java/lang/IllegalArgumentException") (by decide +kernel)
  have xa52 : ∀ w ∈ (vx_atS RX4 56 "java/lang/IllegalArgumentException" xnames).filter goodWord, w ∈ wsX4_pass := by decide +kernel
  have hl := lv_entry ([.ref (X 0), .int x0]) (n := 2) (Nat.le_of_ble_eq_true rfl)
  rw [lg_entry_eq]
  generalize (lg_sl ([.ref (X 0), .int x0]) ++ List.replicate (2 - (lg_sl ([.ref (X 0), .int x0])).length) Slot.unset).toArray = ls at hl ⊢
  have hl : lv_has ls 2 [(0, .ref (X 0)), (1, .int x0)] := hl
  refine lv_iload_n hx hb dX4_pass_0 rfl (lv_at hl 1 rfl) ?_
  refine lv_iconst (v := 1) hx hb dX4_pass_1 rfl ?_
  refine lv_icmp_lt (tgt := 12) hx hb dX4_pass_2 (by decide) (fun c_2 => ?_) (fun c_2 => ?_)
  · exact z_throw (cls := "java/lang/IllegalArgumentException") (text := "minutes is out of range") (ik := 52) (is := 142) (ic := 56) hx hb hl0 hown zxI_fit xk52 xi52 (fun w hw => hts w (xa52 w hw)) zxI_bad zxI_ot hZ (by decide +kernel) hS (by rw [hml]; exact hl.1) dX4_pass_12 dX4_pass_15 dX4_pass_16 dX4_pass_18 dX4_pass_21 htb (by decide) (by decide) (by decide) (by decide) hlocks hP hK hD ⟨by simp [c_paK, c_2], rfl⟩
  · refine lv_iload_n hx hb dX4_pass_5 rfl (lv_at hl 1 rfl) ?_
    refine lv_sipush (v := 300) hx hb dX4_pass_6 (by decide) ?_
    refine lv_icmp_le (tgt := 22) hx hb dX4_pass_9 (by decide) (fun c_9 => ?_) (fun c_9 => ?_)
    · refine lv_aload_n hx hb dX4_pass_22 rfl (lv_at hl 0 rfl) ?_
      refine lv_dup hx hb dX4_pass_23 rfl ?_
      refine va_get (D := D) (ci := 4) (v := .int (V 0)) (C := RX4) (T := TX4) (N := 7) hx hb hts i4 hown hK hP 0 rfl rfl 6 (by decide) fl_44 (fun _ h9 => h9) rfl dX4_pass_24 ?_
      refine lv_iload_n hx hb dX4_pass_27 rfl (lv_at hl 1 rfl) ?_
      refine lv_iadd hx hb dX4_pass_28 ?_
      refine va_put (D := D) (ci := 4) (v := .int ((V 0) + x0)) (ty := .int) (C := RX4) (T := TX4) (N := 7) hx hb hts i4 tyX4 tyX4_ok nmX4 hown hK hP hD hS 0 rfl rfl 6 (by decide) fl_44 (fun _ h9 => h9) rfl (by decide +kernel) rfl rfl (Nat.le_of_ble_eq_true rfl) dX4_pass_29 (fun H locs hP hD hS => ?_)
      have hP : va_P D vwCl (hW cI cZ X S O (va_up V 0 ((V 0) + x0))) H := hP
      have hD : va_D A (hW cI cZ X S O (va_up V 0 ((V 0) + x0))) := hD
      refine lv_aload_n hx hb dX4_pass_32 rfl (lv_at hl 0 rfl) ?_
      refine va_get (D := D) (ci := 4) (v := .ref (X 4)) (C := RX4) (T := TX4) (N := 7) hx hb hts i4 hown hK hP 0 rfl rfl 3 (by decide) fl_33 (fun _ h9 => h9) rfl dX4_pass_33 ?_
      refine lv_aload_n hx hb dX4_pass_36 rfl (lv_at hl 0 rfl) ?_
      refine va_get (D := D) (ci := 4) (v := .int ((V 0) + x0)) (C := RX4) (T := TX4) (N := 7) hx hb hts i4 hown hK hP 0 rfl rfl 6 (by decide) fl_44 (fun _ h9 => h9) rfl dX4_pass_37 ?_
      have hF := z_free hD hS hA
      refine z_callWv (va_runV (As := [.int ((V 0) + x0)]) (rest := []) ⟨hx, hb, hml, hown, hts⟩ (kX0_dropDueOfAll l D cI cZ X S O (va_up V 0 ((V 0) + x0)) _ ((V 0) + x0)) (cwV 1 hts gX4_pass_X0_dropDueOfAll rfl rfl rfl (by decide +kernel) ⟨Nat.le_of_ble_eq_true rfl, Nat.le_of_ble_eq_true rfl⟩) (zW_preV 4 0 hK hP hD rfl rfl) rfl rfl hl.1 rfl (lv_room (Nat.le_of_ble_eq_true rfl)) dX4_pass_40 ⟨Nat.zero_le _, Nat.zero_le _⟩) hS hF (fun H locs hP hD hS => ?_)
      obtain ⟨S1, hS1⟩ : ∃ z, z = c_doS S ((V 0) + x0) 4 := ⟨_, rfl⟩
      rw [← hS1] at hP hD
      refine lv_aload_n hx hb dX4_pass_43 rfl (lv_at hl 0 rfl) ?_
      refine va_get (D := D) (ci := 4) (v := .ref (X 2)) (C := RX4) (T := TX4) (N := 7) hx hb hts i4 hown hK hP 0 rfl rfl 1 (by decide) fl_19 (fun _ h9 => h9) rfl dX4_pass_44 ?_
      refine lv_aload_n hx hb dX4_pass_47 rfl (lv_at hl 0 rfl) ?_
      refine va_get (D := D) (ci := 4) (v := .int ((V 0) + x0)) (C := RX4) (T := TX4) (N := 7) hx hb hts i4 hown hK hP 0 rfl rfl 6 (by decide) fl_44 (fun _ h9 => h9) rfl dX4_pass_48 ?_
      refine lv_aload_n hx hb dX4_pass_51 rfl (lv_at hl 0 rfl) ?_
      refine va_get (D := D) (ci := 4) (v := .ref (X 5)) (C := RX4) (T := TX4) (N := 7) hx hb hts i4 hown hK hP 0 rfl rfl 4 (by decide) fl_37 (fun _ h9 => h9) rfl dX4_pass_52 ?_
      refine lv_aload_n hx hb dX4_pass_55 rfl (lv_at hl 0 rfl) ?_
      refine va_get (D := D) (ci := 4) (v := .ref (X 3)) (C := RX4) (T := TX4) (N := 7) hx hb hts i4 hown hK hP 0 rfl rfl 2 (by decide) fl_26 (fun _ h9 => h9) rfl dX4_pass_56 ?_
      have hF := z_free hD hS hA
      refine z_callWi (va_runV (As := [.int ((V 0) + x0), .ref (X 5), .ref (X 3)]) (rest := []) ⟨hx, hb, hml, hown, hts⟩ (kX3_endDue l D cI cZ X S1 O (va_up V 0 ((V 0) + x0)) _ ((V 0) + x0) n0 hn0 hct (fun j hj => by rw [hS1, c_doS_ne _ _ _ _ (by decide)]; exact hpe j hj)) (cwV 3 hts gX4_pass_X3_endDue rfl rfl rfl (by decide +kernel) ⟨Nat.le_of_ble_eq_true rfl, Nat.le_of_ble_eq_true rfl⟩) (zW_preV 2 3 hK hP hD rfl rfl) rfl rfl hl.1 rfl (lv_room (Nat.le_of_ble_eq_true rfl)) dX4_pass_59 ⟨Nat.zero_le _, Nat.zero_le _⟩) hS hF (fun H locs hP hD hS => ?_)
      have eO : (c_edO (c_doS S (V 0 + x0) 4) O (c_paV V x0) (V 0 + x0) n0) = (c_edO S1 O (va_up V 0 ((V 0) + x0)) ((V 0) + x0) n0) := by first | (rw [hS1]; done) | (rw [hS1]; rfl) | rfl
      have eV : (c_paV V x0) = (va_up V 0 ((V 0) + x0)) := by first | (rw [hS1]; done) | (rw [hS1]; rfl) | rfl
      have eS : (c_doS S (V 0 + x0) 4) = S1 := by first | (rw [hS1]; done) | (rw [hS1]; rfl) | rfl
      exact z_tret hx hb hr hlocks (by rw [eO, eV, eS]; exact hP) hK (by rw [eO, eV, eS]; exact hD) hS (by simp [c_paK, c_2, c_9, hS1]) (by rw [hS1]; rfl) dX4_pass_62
    · exact z_throw (cls := "java/lang/IllegalArgumentException") (text := "minutes is out of range") (ik := 52) (is := 142) (ic := 56) hx hb hl0 hown zxI_fit xk52 xi52 (fun w hw => hts w (xa52 w hw)) zxI_bad zxI_ot hZ (by decide +kernel) hS (by rw [hml]; exact hl.1) dX4_pass_12 dX4_pass_15 dX4_pass_16 dX4_pass_18 dX4_pass_21 htb (by decide) (by decide) (by decide) (by decide) hlocks hP hK hD ⟨by simp [c_paK, c_2, c_9], rfl⟩

set_option maxHeartbeats 4000000 in
set_option maxRecDepth 100000 in
theorem kX4_breakGlass (l : Launch) (hl0 : l.stackTraces = false) (D : va_G) (cI cZ : ClassId) (X : Nat → Nat) (S : Nat → Nat → Int32) (O : Nat → Bool) (V : Nat → Int32) (sz : Nat) (x0 : Int32) (x1 : Int32) (x2 : Int32) (x3 : Int32) : vx_Met l yX4_breakGlass wsX4_breakGlass ({ frames := 6, cells := 1, slots := 6, locals := 111 } : Room) (zT D (tyl cI cZ) (hW cI cZ X S O V) sz [.ref (X 0), .int x0, .int x1, .int x2, .int x3]) (zTi D (tyl cI cZ) (hW cI cZ X (va_up S 6 (upd (S 6) (ix x0 * 6 + ix x1) (V 0 + 60))) O V) (c_bgK S x0 x1 x2 x3) (V 0 + 60) (va_A (hW cI cZ X S O V) sz)) (zXC D (tyl cI cZ) (hW cI cZ X S O V) (va_A (hW cI cZ X S O V) sz) (fun E => ((c_bgK S x0 x1 x2 x3) = 1 ∧ E = "java/lang/IllegalArgumentException") ∨ ((c_bgK S x0 x1 x2 x3) = 2 ∧ E = "java/lang/IllegalStateException"))) 1 6 (va_A (hW cI cZ X S O V) sz) := by
  refine vx_ofW (cc := cX4_breakGlass) (maxL := 6) (ret := (some .int)) (by decide) rfl ?_
  intro p e s m args below meth c s₁ B hml htb hv
  obtain ⟨rfl, hsz, hP, hK, hD0, hZ⟩ := hv
  have hx := B.exec
  have hb := B.bytes
  have hr := B.returns
  have hts := atoms_spec (ws := wsX4_breakGlass) B.pre
  have hown : s.vm.findClass RX4 = some m.cls := findClass_of_methodNamed B.named
  have hlocks := B.notSynchronized
  subst hsz
  have hD := hD0.self (sz := s.heap.size)
  generalize hAe : va_A (hW cI cZ X S O V) s.heap.size = A at hD hZ ⊢
  have hA : ∀ q : Nat, s.heap.size ≤ q → A q := fun q h => by rw [← hAe]; exact Or.inr h
  have hS : va_S A s.heap s.heap [] := va_S.rf
  have i4 : ∀ w ∈ u_ws RX4 TX4 7, w ∈ wsX4_breakGlass := by decide +kernel
  have fl_41 := hts (.fieldLink RX4 41 "SignOnHouse" "glassEnds" "[I") (by decide +kernel)
  have fl_44 := hts (.fieldLink RX4 44 "SignOnHouse" "minute" "I") (by decide +kernel)
  have xk52 := hts (.classLink RX4 52 "java/lang/IllegalArgumentException") (by decide +kernel)
  have xi52 := hts (.initialized "java/lang/IllegalArgumentException") (by decide +kernel)
  have xa52 : ∀ w ∈ (vx_atS RX4 56 "java/lang/IllegalArgumentException" xnames).filter goodWord, w ∈ wsX4_breakGlass := by decide +kernel
  have xk70 := hts (.classLink RX4 70 "java/lang/IllegalStateException") (by decide +kernel)
  have xi70 := hts (.initialized "java/lang/IllegalStateException") (by decide +kernel)
  have xa70 : ∀ w ∈ (vx_atS RX4 74 "java/lang/IllegalStateException" xnames).filter goodWord, w ∈ wsX4_breakGlass := by decide +kernel
  have hl := lv_entry ([.ref (X 0), .int x0, .int x1, .int x2, .int x3]) (n := 6) (Nat.le_of_ble_eq_true rfl)
  rw [lg_entry_eq]
  generalize (lg_sl ([.ref (X 0), .int x0, .int x1, .int x2, .int x3]) ++ List.replicate (6 - (lg_sl ([.ref (X 0), .int x0, .int x1, .int x2, .int x3])).length) Slot.unset).toArray = ls at hl ⊢
  have hl : lv_has ls 6 [(0, .ref (X 0)), (1, .int x0), (2, .int x1), (3, .int x2), (4, .int x3)] := hl
  refine lv_iload_n hx hb dX4_breakGlass_0 rfl (lv_at hl 1 rfl) ?_
  refine lv_bipush (v := 10) hx hb dX4_breakGlass_1 (by decide) ?_
  refine z_callR (W.runS (As := [.int x0, .int 10]) (rest := []) ⟨hx, hb, hml, hown, hts⟩ (kX4_isOutside l x0 10) (va_cwS 2 hts gX4_breakGlass_X4_isOutside rfl rfl rfl (by decide +kernel) ⟨Nat.le_of_ble_eq_true rfl, Nat.le_of_ble_eq_true rfl⟩) zP_pre rfl rfl hl.1 rfl (lv_room (Nat.le_of_ble_eq_true rfl)) dX4_breakGlass_3 ⟨Nat.zero_le _, Nat.zero_le _⟩) ?_
  refine z_if_ne (tgt := 18) hx hb dX4_breakGlass_6 (by decide) (fun c_6 => ?_) (fun c_6 => ?_)
  · exact z_throw (cls := "java/lang/IllegalArgumentException") (text := "person or role is out of range") (ik := 52) (is := 95) (ic := 56) hx hb hl0 hown zxI_fit xk52 xi52 (fun w hw => hts w (xa52 w hw)) zxI_bad zxI_ot hZ (by decide +kernel) hS (by rw [hml]; exact hl.1) dX4_breakGlass_18 dX4_breakGlass_21 dX4_breakGlass_22 dX4_breakGlass_24 dX4_breakGlass_27 htb (by decide) (by decide) (by decide) (by decide) hlocks hP hK hD (Or.inl ⟨by simp [c_bgK, c_6], rfl⟩)
  · obtain ⟨pi, hpi, epi⟩ := c_out10 c_6
    have xpi : ix x0 = pi := ix_of epi (by omega)
    refine lv_iload_n hx hb dX4_breakGlass_9 rfl (lv_at hl 2 rfl) ?_
    refine lv_bipush (v := 6) hx hb dX4_breakGlass_10 (by decide) ?_
    refine z_callR (W.runS (As := [.int x1, .int 6]) (rest := []) ⟨hx, hb, hml, hown, hts⟩ (kX4_isOutside l x1 6) (va_cwS 2 hts gX4_breakGlass_X4_isOutside rfl rfl rfl (by decide +kernel) ⟨Nat.le_of_ble_eq_true rfl, Nat.le_of_ble_eq_true rfl⟩) zP_pre rfl rfl hl.1 rfl (lv_room (Nat.le_of_ble_eq_true rfl)) dX4_breakGlass_12 ⟨Nat.zero_le _, Nat.zero_le _⟩) ?_
    refine z_if_eq (tgt := 28) hx hb dX4_breakGlass_15 (by decide) (fun c_15 => ?_) (fun c_15 => ?_)
    · obtain ⟨ri, hri, eri⟩ := c_out6 c_15
      have xri : ix x1 = ri := ix_of eri (by omega)
      refine lv_iload_n hx hb dX4_breakGlass_28 rfl (lv_at hl 3 rfl) ?_
      refine lv_bipush (v := 10) hx hb dX4_breakGlass_29 (by decide) ?_
      refine z_callR (W.runS (As := [.int x2, .int 10]) (rest := []) ⟨hx, hb, hml, hown, hts⟩ (kX4_isOutside l x2 10) (va_cwS 2 hts gX4_breakGlass_X4_isOutside rfl rfl rfl (by decide +kernel) ⟨Nat.le_of_ble_eq_true rfl, Nat.le_of_ble_eq_true rfl⟩) zP_pre rfl rfl hl.1 rfl (lv_room (Nat.le_of_ble_eq_true rfl)) dX4_breakGlass_31 ⟨Nat.zero_le _, Nat.zero_le _⟩) ?_
      refine z_if_ne (tgt := 47) hx hb dX4_breakGlass_34 (by decide) (fun c_34 => ?_) (fun c_34 => ?_)
      · exact z_throw (cls := "java/lang/IllegalArgumentException") (text := "a witness is out of range") (ik := 52) (is := 159) (ic := 56) hx hb hl0 hown zxI_fit xk52 xi52 (fun w hw => hts w (xa52 w hw)) zxI_bad zxI_ot hZ (by decide +kernel) hS (by rw [hml]; exact hl.1) dX4_breakGlass_47 dX4_breakGlass_50 dX4_breakGlass_51 dX4_breakGlass_53 dX4_breakGlass_56 htb (by decide) (by decide) (by decide) (by decide) hlocks hP hK hD (Or.inl ⟨by simp [c_bgK, c_6, xpi, c_15, xri, c_34], rfl⟩)
      · obtain ⟨oi, hoi, eoi⟩ := c_out10 c_34
        have xoi : ix x2 = oi := ix_of eoi (by omega)
        refine lv_iload hx hb dX4_breakGlass_37 (lv_at hl 4 rfl) ?_
        refine lv_bipush (v := 10) hx hb dX4_breakGlass_39 (by decide) ?_
        refine z_callR (W.runS (As := [.int x3, .int 10]) (rest := []) ⟨hx, hb, hml, hown, hts⟩ (kX4_isOutside l x3 10) (va_cwS 2 hts gX4_breakGlass_X4_isOutside rfl rfl rfl (by decide +kernel) ⟨Nat.le_of_ble_eq_true rfl, Nat.le_of_ble_eq_true rfl⟩) zP_pre rfl rfl hl.1 rfl (lv_room (Nat.le_of_ble_eq_true rfl)) dX4_breakGlass_41 ⟨Nat.zero_le _, Nat.zero_le _⟩) ?_
        refine z_if_eq (tgt := 57) hx hb dX4_breakGlass_44 (by decide) (fun c_44 => ?_) (fun c_44 => ?_)
        · obtain ⟨ti, hti, eti⟩ := c_out10 c_44
          have xti : ix x3 = ti := ix_of eti (by omega)
          refine lv_iload_n hx hb dX4_breakGlass_57 rfl (lv_at hl 1 rfl) ?_
          refine lv_iload_n hx hb dX4_breakGlass_58 rfl (lv_at hl 3 rfl) ?_
          refine lv_icmp_eq (tgt := 74) hx hb dX4_breakGlass_59 (by decide) (fun c_59 => ?_) (fun c_59 => ?_)
          · exact z_throw (cls := "java/lang/IllegalArgumentException") (text := "two of the three people are the same") (ik := 52) (is := 161) (ic := 56) hx hb hl0 hown zxI_fit xk52 xi52 (fun w hw => hts w (xa52 w hw)) zxI_bad zxI_ot hZ (by decide +kernel) hS (by rw [hml]; exact hl.1) dX4_breakGlass_74 dX4_breakGlass_77 dX4_breakGlass_78 dX4_breakGlass_80 dX4_breakGlass_83 htb (by decide) (by decide) (by decide) (by decide) hlocks hP hK hD (Or.inl ⟨by simp [c_bgK, c_6, xpi, c_15, xri, c_34, xoi, c_44, xti, (eq_true c_59)], rfl⟩)
          · refine lv_iload_n hx hb dX4_breakGlass_62 rfl (lv_at hl 1 rfl) ?_
            refine lv_iload hx hb dX4_breakGlass_63 (lv_at hl 4 rfl) ?_
            refine lv_icmp_eq (tgt := 74) hx hb dX4_breakGlass_65 (by decide) (fun c_65 => ?_) (fun c_65 => ?_)
            · exact z_throw (cls := "java/lang/IllegalArgumentException") (text := "two of the three people are the same") (ik := 52) (is := 161) (ic := 56) hx hb hl0 hown zxI_fit xk52 xi52 (fun w hw => hts w (xa52 w hw)) zxI_bad zxI_ot hZ (by decide +kernel) hS (by rw [hml]; exact hl.1) dX4_breakGlass_74 dX4_breakGlass_77 dX4_breakGlass_78 dX4_breakGlass_80 dX4_breakGlass_83 htb (by decide) (by decide) (by decide) (by decide) hlocks hP hK hD (Or.inl ⟨by simp [c_bgK, c_6, xpi, c_15, xri, c_34, xoi, c_44, xti, c_59, (eq_true c_65)], rfl⟩)
            · refine lv_iload_n hx hb dX4_breakGlass_68 rfl (lv_at hl 3 rfl) ?_
              refine lv_iload hx hb dX4_breakGlass_69 (lv_at hl 4 rfl) ?_
              refine lv_icmp_ne (tgt := 84) hx hb dX4_breakGlass_71 (by decide) (fun c_71 => ?_) (fun c_71 => ?_)
              · refine lv_aload_n hx hb dX4_breakGlass_84 rfl (lv_at hl 0 rfl) ?_
                refine lv_iload_n hx hb dX4_breakGlass_85 rfl (lv_at hl 3 rfl) ?_
                refine z_top (nI oi) eoi ?_
                refine lv_iload_n hx hb dX4_breakGlass_86 rfl (lv_at hl 2 rfl) ?_
                refine z_top (nI ri) eri ?_
                refine z_callR (W.runV (As := [.int (nI oi), .int (nI ri)]) (rest := []) ⟨hx, hb, hml, hown, hts⟩ (kX4_servesAsWitness l D cI cZ X S O V oi ri (by omega) (by omega)) (cwV 2 hts gX4_breakGlass_X4_servesAsWitness rfl rfl rfl (by decide +kernel) ⟨Nat.le_of_ble_eq_true rfl, Nat.le_of_ble_eq_true rfl⟩) (zR_preV 0 4 hK hP rfl rfl) rfl rfl hl.1 rfl (lv_room (Nat.le_of_ble_eq_true rfl)) dX4_breakGlass_87 ⟨Nat.zero_le _, Nat.zero_le _⟩) ?_
                refine z_if_eq (tgt := 103) hx hb dX4_breakGlass_90 (by decide) (fun c_90 => ?_) (fun c_90 => ?_)
                · exact z_throw (cls := "java/lang/IllegalStateException") (text := "a witness does not serve") (ik := 70) (is := 166) (ic := 74) hx hb hl0 hown zxS_fit xk70 xi70 (fun w hw => hts w (xa70 w hw)) zxS_bad zxS_ot hZ (by decide +kernel) hS (by rw [hml]; exact hl.1) dX4_breakGlass_103 dX4_breakGlass_106 dX4_breakGlass_107 dX4_breakGlass_109 dX4_breakGlass_112 htb (by decide) (by decide) (by decide) (by decide) hlocks hP hK hD (Or.inr ⟨by simp [c_bgK, c_6, xpi, c_15, xri, c_34, xoi, c_44, xti, c_59, c_65, c_71, c_90], rfl⟩)
                · refine lv_aload_n hx hb dX4_breakGlass_93 rfl (lv_at hl 0 rfl) ?_
                  refine lv_iload hx hb dX4_breakGlass_94 (lv_at hl 4 rfl) ?_
                  refine z_top (nI ti) eti ?_
                  refine lv_iload_n hx hb dX4_breakGlass_96 rfl (lv_at hl 2 rfl) ?_
                  refine z_top (nI ri) eri ?_
                  refine z_callR (W.runV (As := [.int (nI ti), .int (nI ri)]) (rest := []) ⟨hx, hb, hml, hown, hts⟩ (kX4_servesAsWitness l D cI cZ X S O V ti ri (by omega) (by omega)) (cwV 2 hts gX4_breakGlass_X4_servesAsWitness rfl rfl rfl (by decide +kernel) ⟨Nat.le_of_ble_eq_true rfl, Nat.le_of_ble_eq_true rfl⟩) (zR_preV 0 4 hK hP rfl rfl) rfl rfl hl.1 rfl (lv_room (Nat.le_of_ble_eq_true rfl)) dX4_breakGlass_97 ⟨Nat.zero_le _, Nat.zero_le _⟩) ?_
                  refine z_if_ne (tgt := 113) hx hb dX4_breakGlass_100 (by decide) (fun c_100 => ?_) (fun c_100 => ?_)
                  · refine lv_aload_n hx hb dX4_breakGlass_113 rfl (lv_at hl 0 rfl) ?_
                    refine va_get (D := D) (ci := 4) (v := .int (V 0)) (C := RX4) (T := TX4) (N := 7) hx hb hts i4 hown hK hP 0 rfl rfl 6 (by decide) fl_44 (fun _ h9 => h9) rfl dX4_breakGlass_114 ?_
                    refine lv_bipush (v := 60) hx hb dX4_breakGlass_117 (by decide) ?_
                    refine lv_iadd hx hb dX4_breakGlass_119 ?_
                    refine lv_istore (lv' := [(5, .int ((V 0) + 60)), (0, .ref (X 0)), (1, .int x0), (2, .int x1), (3, .int x2), (4, .int x3)]) hx hb dX4_breakGlass_120 hl (by decide) rfl (fun ls hl => ?_)
                    refine lv_aload_n hx hb dX4_breakGlass_122 rfl (lv_at hl 1 rfl) ?_
                    refine va_get (D := D) (ci := 4) (v := .ref (X 6)) (C := RX4) (T := TX4) (N := 7) hx hb hts i4 hown hK hP 0 rfl rfl 5 (by decide) fl_41 (fun _ h9 => h9) rfl dX4_breakGlass_123 ?_
                    refine lv_iload_n hx hb dX4_breakGlass_126 rfl (lv_at hl 2 rfl) ?_
                    refine lv_bipush (v := 6) hx hb dX4_breakGlass_127 (by decide) ?_
                    refine lv_imul hx hb dX4_breakGlass_129 ?_
                    refine lv_iload_n hx hb dX4_breakGlass_130 rfl (lv_at hl 3 rfl) ?_
                    refine lv_iadd hx hb dX4_breakGlass_131 ?_
                    refine z_top (nI (pi * 6 + ri)) (by rw [epi, eri]; simp only [show (60 : Int32) = nI 60 from rfl, show (6 : Int32) = nI 6 from rfl, pk_mul, nI_add]) ?_
                    refine lv_iload hx hb dX4_breakGlass_132 (lv_at hl 0 rfl) ?_
                    refine z_iast (D := D) (j := pi * 6 + ri) (f := S 6) hx hb hK hP hD hS 6 0 rfl rfl (by omega) (by decide) dX4_breakGlass_134 (fun H locs hP hD hS => ?_)
                    have hP : va_P D vwCl (hW cI cZ X (va_up S 6 (upd (S 6) (pi * 6 + ri) ((V 0) + 60))) O V) H := hP
                    have hD : va_D A (hW cI cZ X (va_up S 6 (upd (S 6) (pi * 6 + ri) ((V 0) + 60))) O V) := hD
                    refine lv_iload hx hb dX4_breakGlass_135 (lv_at hl 0 rfl) ?_
                    have eS : (va_up S 6 (upd (S 6) (ix x0 * 6 + ix x1) (V 0 + 60))) = (va_up S 6 (upd (S 6) (pi * 6 + ri) ((V 0) + 60))) := by simp [c_bgK, bi, c_6, xpi, c_15, xri, c_34, xoi, c_44, xti, c_59, c_65, c_71, c_90, c_100]
                    exact z_tret hx hb hr hlocks (by rw [eS]; exact hP) hK (by rw [eS]; exact hD) hS (by simp [c_bgK, c_6, xpi, c_15, xri, c_34, xoi, c_44, xti, c_59, c_65, c_71, c_90, c_100]) (by simp [c_bgK, bi, c_6, xpi, c_15, xri, c_34, xoi, c_44, xti, c_59, c_65, c_71, c_90, c_100]) dX4_breakGlass_137
                  · exact z_throw (cls := "java/lang/IllegalStateException") (text := "a witness does not serve") (ik := 70) (is := 166) (ic := 74) hx hb hl0 hown zxS_fit xk70 xi70 (fun w hw => hts w (xa70 w hw)) zxS_bad zxS_ot hZ (by decide +kernel) hS (by rw [hml]; exact hl.1) dX4_breakGlass_103 dX4_breakGlass_106 dX4_breakGlass_107 dX4_breakGlass_109 dX4_breakGlass_112 htb (by decide) (by decide) (by decide) (by decide) hlocks hP hK hD (Or.inr ⟨by simp [c_bgK, c_6, xpi, c_15, xri, c_34, xoi, c_44, xti, c_59, c_65, c_71, c_90, c_100], rfl⟩)
              · exact z_throw (cls := "java/lang/IllegalArgumentException") (text := "two of the three people are the same") (ik := 52) (is := 161) (ic := 56) hx hb hl0 hown zxI_fit xk52 xi52 (fun w hw => hts w (xa52 w hw)) zxI_bad zxI_ot hZ (by decide +kernel) hS (by rw [hml]; exact hl.1) dX4_breakGlass_74 dX4_breakGlass_77 dX4_breakGlass_78 dX4_breakGlass_80 dX4_breakGlass_83 htb (by decide) (by decide) (by decide) (by decide) hlocks hP hK hD (Or.inl ⟨by simp [c_bgK, c_6, xpi, c_15, xri, c_34, xoi, c_44, xti, c_59, c_65, (eq_true c_71)], rfl⟩)
        · exact z_throw (cls := "java/lang/IllegalArgumentException") (text := "a witness is out of range") (ik := 52) (is := 159) (ic := 56) hx hb hl0 hown zxI_fit xk52 xi52 (fun w hw => hts w (xa52 w hw)) zxI_bad zxI_ot hZ (by decide +kernel) hS (by rw [hml]; exact hl.1) dX4_breakGlass_47 dX4_breakGlass_50 dX4_breakGlass_51 dX4_breakGlass_53 dX4_breakGlass_56 htb (by decide) (by decide) (by decide) (by decide) hlocks hP hK hD (Or.inl ⟨by simp [c_bgK, c_6, xpi, c_15, xri, c_34, xoi, c_44], rfl⟩)
    · exact z_throw (cls := "java/lang/IllegalArgumentException") (text := "person or role is out of range") (ik := 52) (is := 95) (ic := 56) hx hb hl0 hown zxI_fit xk52 xi52 (fun w hw => hts w (xa52 w hw)) zxI_bad zxI_ot hZ (by decide +kernel) hS (by rw [hml]; exact hl.1) dX4_breakGlass_18 dX4_breakGlass_21 dX4_breakGlass_22 dX4_breakGlass_24 dX4_breakGlass_27 htb (by decide) (by decide) (by decide) (by decide) hlocks hP hK hD (Or.inl ⟨by simp [c_bgK, c_6, xpi, c_15], rfl⟩)

set_option maxHeartbeats 4000000 in
set_option maxRecDepth 100000 in
theorem kX4_setCache (l : Launch) (hl0 : l.stackTraces = false) (D : va_G) (cI cZ : ClassId) (X : Nat → Nat) (S : Nat → Nat → Int32) (O : Nat → Bool) (V : Nat → Int32) (sz : Nat) (x0 : Int32) (x1 : Int32) : vx_Met l yX4_setCache wsX4_setCache ({ frames := 6, cells := 1, slots := 6, locals := 90 } : Room) (zT D (tyl cI cZ) (hW cI cZ X S O V) sz [.ref (X 0), .int x0, .int x1]) (zTi D (tyl cI cZ) (hW cI cZ X (c_scS S V (ix x0) x1) O V) (c_scK x0 x1) (S 16 (ix x0)) (va_A (hW cI cZ X S O V) sz)) (zXC D (tyl cI cZ) (hW cI cZ X S O V) (va_A (hW cI cZ X S O V) sz) (fun E => ((c_scK x0 x1) = 1 ∧ E = "java/lang/IllegalArgumentException"))) 1 6 (va_A (hW cI cZ X S O V) sz) := by
  refine vx_ofW (cc := cX4_setCache) (maxL := 4) (ret := (some .int)) (by decide) rfl ?_
  intro p e s m args below meth c s₁ B hml htb hv
  obtain ⟨rfl, hsz, hP, hK, hD0, hZ⟩ := hv
  have hx := B.exec
  have hb := B.bytes
  have hr := B.returns
  have hts := atoms_spec (ws := wsX4_setCache) B.pre
  have hown : s.vm.findClass RX4 = some m.cls := findClass_of_methodNamed B.named
  have hlocks := B.notSynchronized
  subst hsz
  have hD := hD0.self (sz := s.heap.size)
  generalize hAe : va_A (hW cI cZ X S O V) s.heap.size = A at hD hZ ⊢
  have hA : ∀ q : Nat, s.heap.size ≤ q → A q := fun q h => by rw [← hAe]; exact Or.inr h
  have hS : va_S A s.heap s.heap [] := va_S.rf
  have i4 : ∀ w ∈ u_ws RX4 TX4 7, w ∈ wsX4_setCache := by decide +kernel
  have fl_33 := hts (.fieldLink RX4 33 "SignOnHouse" "decisions" "LSignOnHouse$Decisions;") (by decide +kernel)
  have fl_44 := hts (.fieldLink RX4 44 "SignOnHouse" "minute" "I") (by decide +kernel)
  have xk52 := hts (.classLink RX4 52 "java/lang/IllegalArgumentException") (by decide +kernel)
  have xi52 := hts (.initialized "java/lang/IllegalArgumentException") (by decide +kernel)
  have xa52 : ∀ w ∈ (vx_atS RX4 56 "java/lang/IllegalArgumentException" xnames).filter goodWord, w ∈ wsX4_setCache := by decide +kernel
  have hl := lv_entry ([.ref (X 0), .int x0, .int x1]) (n := 4) (Nat.le_of_ble_eq_true rfl)
  rw [lg_entry_eq]
  generalize (lg_sl ([.ref (X 0), .int x0, .int x1]) ++ List.replicate (4 - (lg_sl ([.ref (X 0), .int x0, .int x1])).length) Slot.unset).toArray = ls at hl ⊢
  have hl : lv_has ls 4 [(0, .ref (X 0)), (1, .int x0), (2, .int x1)] := hl
  refine lv_iload_n hx hb dX4_setCache_0 rfl (lv_at hl 1 rfl) ?_
  refine lv_iconst (v := 4) hx hb dX4_setCache_1 rfl ?_
  refine z_callR (W.runS (As := [.int x0, .int 4]) (rest := []) ⟨hx, hb, hml, hown, hts⟩ (kX4_isOutside l x0 4) (va_cwS 2 hts gX4_setCache_X4_isOutside rfl rfl rfl (by decide +kernel) ⟨Nat.le_of_ble_eq_true rfl, Nat.le_of_ble_eq_true rfl⟩) zP_pre rfl rfl hl.1 rfl (lv_room (Nat.le_of_ble_eq_true rfl)) dX4_setCache_2 ⟨Nat.zero_le _, Nat.zero_le _⟩) ?_
  refine z_if_ne (tgt := 18) hx hb dX4_setCache_5 (by decide) (fun c_5 => ?_) (fun c_5 => ?_)
  · exact z_throw (cls := "java/lang/IllegalArgumentException") (text := "app or minutes is out of range") (ik := 52) (is := 168) (ic := 56) hx hb hl0 hown zxI_fit xk52 xi52 (fun w hw => hts w (xa52 w hw)) zxI_bad zxI_ot hZ (by decide +kernel) hS (by rw [hml]; exact hl.1) dX4_setCache_18 dX4_setCache_21 dX4_setCache_22 dX4_setCache_24 dX4_setCache_27 htb (by decide) (by decide) (by decide) (by decide) hlocks hP hK hD ⟨by simp [c_scK, c_5], rfl⟩
  · obtain ⟨ai, hai, eai⟩ := c_out4 c_5
    have xai : ix x0 = ai := ix_of eai (by omega)
    refine lv_iload_n hx hb dX4_setCache_8 rfl (lv_at hl 2 rfl) ?_
    refine lv_if_lt (tgt := 18) hx hb dX4_setCache_9 (by decide) (fun c_9 => ?_) (fun c_9 => ?_)
    · exact z_throw (cls := "java/lang/IllegalArgumentException") (text := "app or minutes is out of range") (ik := 52) (is := 168) (ic := 56) hx hb hl0 hown zxI_fit xk52 xi52 (fun w hw => hts w (xa52 w hw)) zxI_bad zxI_ot hZ (by decide +kernel) hS (by rw [hml]; exact hl.1) dX4_setCache_18 dX4_setCache_21 dX4_setCache_22 dX4_setCache_24 dX4_setCache_27 htb (by decide) (by decide) (by decide) (by decide) hlocks hP hK hD ⟨by simp [c_scK, c_5, xai, c_9], rfl⟩
    · refine lv_iload_n hx hb dX4_setCache_12 rfl (lv_at hl 2 rfl) ?_
      refine lv_bipush (v := 60) hx hb dX4_setCache_13 (by decide) ?_
      refine lv_icmp_le (tgt := 28) hx hb dX4_setCache_15 (by decide) (fun c_15 => ?_) (fun c_15 => ?_)
      · refine lv_aload_n hx hb dX4_setCache_28 rfl (lv_at hl 0 rfl) ?_
        refine va_get (D := D) (ci := 4) (v := .ref (X 4)) (C := RX4) (T := TX4) (N := 7) hx hb hts i4 hown hK hP 0 rfl rfl 3 (by decide) fl_33 (fun _ h9 => h9) rfl dX4_setCache_29 ?_
        refine lv_iload_n hx hb dX4_setCache_32 rfl (lv_at hl 1 rfl) ?_
        refine z_top (nI ai) eai ?_
        refine z_callR (W.runV (As := [.int (nI ai)]) (rest := []) ⟨hx, hb, hml, hown, hts⟩ (kX0_cacheOf l D cI cZ X S O V ai (by omega)) (cwV 1 hts gX4_setCache_X0_cacheOf rfl rfl rfl (by decide +kernel) ⟨Nat.le_of_ble_eq_true rfl, Nat.le_of_ble_eq_true rfl⟩) (zR_preV 4 0 hK hP rfl rfl) rfl rfl hl.1 rfl (lv_room (Nat.le_of_ble_eq_true rfl)) dX4_setCache_33 ⟨Nat.zero_le _, Nat.zero_le _⟩) ?_
        refine lv_istore_n (lv' := [(3, .int (S 16 ai)), (0, .ref (X 0)), (1, .int x0), (2, .int x1)]) hx hb dX4_setCache_36 rfl hl (by decide) rfl (fun ls hl => ?_)
        refine lv_aload_n hx hb dX4_setCache_37 rfl (lv_at hl 1 rfl) ?_
        refine va_get (D := D) (ci := 4) (v := .ref (X 4)) (C := RX4) (T := TX4) (N := 7) hx hb hts i4 hown hK hP 0 rfl rfl 3 (by decide) fl_33 (fun _ h9 => h9) rfl dX4_setCache_38 ?_
        refine lv_iload_n hx hb dX4_setCache_41 rfl (lv_at hl 2 rfl) ?_
        refine z_top (nI ai) eai ?_
        refine lv_iload_n hx hb dX4_setCache_42 rfl (lv_at hl 3 rfl) ?_
        have hF := z_free hD hS hA
        refine z_callWv (va_runV (As := [.int (nI ai), .int x1]) (rest := []) ⟨hx, hb, hml, hown, hts⟩ (kX0_allowCache l D cI cZ X S O V _ ai x1 (by omega)) (cwV 2 hts gX4_setCache_X0_allowCache rfl rfl rfl (by decide +kernel) ⟨Nat.le_of_ble_eq_true rfl, Nat.le_of_ble_eq_true rfl⟩) (zW_preV 4 0 hK hP hD rfl rfl) rfl rfl hl.1 rfl (lv_room (Nat.le_of_ble_eq_true rfl)) dX4_setCache_43 ⟨Nat.zero_le _, Nat.zero_le _⟩) hS hF (fun H locs hP hD hS => ?_)
        refine lv_aload_n hx hb dX4_setCache_46 rfl (lv_at hl 1 rfl) ?_
        refine va_get (D := D) (ci := 4) (v := .ref (X 4)) (C := RX4) (T := TX4) (N := 7) hx hb hts i4 hown hK hP 0 rfl rfl 3 (by decide) fl_33 (fun _ h9 => h9) rfl dX4_setCache_47 ?_
        refine lv_iload_n hx hb dX4_setCache_50 rfl (lv_at hl 2 rfl) ?_
        refine z_top (nI ai) eai ?_
        refine lv_aload_n hx hb dX4_setCache_51 rfl (lv_at hl 1 rfl) ?_
        refine va_get (D := D) (ci := 4) (v := .int (V 0)) (C := RX4) (T := TX4) (N := 7) hx hb hts i4 hown hK hP 0 rfl rfl 6 (by decide) fl_44 (fun _ h9 => h9) rfl dX4_setCache_52 ?_
        have hF := z_free hD hS hA
        refine z_callWv (va_runV (As := [.int (nI ai), .int (V 0)]) (rest := []) ⟨hx, hb, hml, hown, hts⟩ (kX0_dropDue l D cI cZ X (va_up S 16 (upd (S 16) ai x1)) O V _ ai (V 0) (by omega)) (cwV 2 hts gX4_setCache_X0_dropDue rfl rfl rfl (by decide +kernel) ⟨Nat.le_of_ble_eq_true rfl, Nat.le_of_ble_eq_true rfl⟩) (zW_preV 4 0 hK hP hD rfl rfl) rfl rfl hl.1 rfl (lv_room (Nat.le_of_ble_eq_true rfl)) dX4_setCache_55 ⟨Nat.zero_le _, Nat.zero_le _⟩) hS hF (fun H locs hP hD hS => ?_)
        refine lv_iload_n hx hb dX4_setCache_58 rfl (lv_at hl 0 rfl) ?_
        have eS : (c_scS S V (ix x0) x1) = (c_ddS (va_up S 16 (upd (S 16) ai x1)) ai (V 0) 60) := by rw [xai]; rfl
        exact z_tret hx hb hr hlocks (by rw [eS]; exact hP) hK (by rw [eS]; exact hD) hS (by simp [c_scK, c_5, xai, c_9, c_15]) (by rw [xai]) dX4_setCache_59
      · exact z_throw (cls := "java/lang/IllegalArgumentException") (text := "app or minutes is out of range") (ik := 52) (is := 168) (ic := 56) hx hb hl0 hown zxI_fit xk52 xi52 (fun w hw => hts w (xa52 w hw)) zxI_bad zxI_ot hZ (by decide +kernel) hS (by rw [hml]; exact hl.1) dX4_setCache_18 dX4_setCache_21 dX4_setCache_22 dX4_setCache_24 dX4_setCache_27 htb (by decide) (by decide) (by decide) (by decide) hlocks hP hK hD ⟨by simp [c_scK, c_5, xai, c_9, c_15], rfl⟩

set_option maxHeartbeats 4000000 in
set_option maxRecDepth 100000 in
theorem kX4_decide (l : Launch) (hl0 : l.stackTraces = false) (D : va_G) (cI cZ : ClassId) (X : Nat → Nat) (S : Nat → Nat → Int32) (O : Nat → Bool) (V : Nat → Int32) (sz : Nat) (x0 : Int32) (x1 : Int32) (x2 : Int32) (n0 : Nat) (hn0 : n0 ≤ 30) (hct : V 1 = nI n0) (hpe : ∀ j : Nat, j < n0 → vp_in (S 11 j) 10) : vx_Met l yX4_decide wsX4_decide ({ frames := 6, cells := 1, slots := 6, locals := 136 } : Room) (zT D (tyl cI cZ) (hW cI cZ X S O V) sz [.ref (X 0), .int x0, .int x1, .int x2]) (zTi D (tyl cI cZ) (hW cI cZ X (if O (ix x1) = true then S else c_appS (c_deS1 S V (ix x1)) V (ix x0) (ix (S 11 (ix x1))) (ix x2)) O V) (c_deK V x0 x1 x2) (if O (ix x1) = true then 2 else c_appR (c_deS1 S V (ix x1)) V (ix x0) (ix (S 11 (ix x1))) (ix x2)) (va_A (hW cI cZ X S O V) sz)) (zXC D (tyl cI cZ) (hW cI cZ X S O V) (va_A (hW cI cZ X S O V) sz) (fun E => ((c_deK V x0 x1 x2) = 1 ∧ E = "java/lang/IllegalArgumentException") ∨ ((c_deK V x0 x1 x2) = 2 ∧ E = "java/lang/IndexOutOfBoundsException"))) 1 6 (va_A (hW cI cZ X S O V) sz) := by
  refine vx_ofW (cc := cX4_decide) (maxL := 4) (ret := (some .int)) (by decide) rfl ?_
  intro p e s m args below meth c s₁ B hml htb hv
  obtain ⟨rfl, hsz, hP, hK, hD0, hZ⟩ := hv
  have hx := B.exec
  have hb := B.bytes
  have hr := B.returns
  have hts := atoms_spec (ws := wsX4_decide) B.pre
  have hown : s.vm.findClass RX4 = some m.cls := findClass_of_methodNamed B.named
  have hlocks := B.notSynchronized
  subst hsz
  have hD := hD0.self (sz := s.heap.size)
  generalize hAe : va_A (hW cI cZ X S O V) s.heap.size = A at hD hZ ⊢
  have hA : ∀ q : Nat, s.heap.size ≤ q → A q := fun q h => by rw [← hAe]; exact Or.inr h
  have hS : va_S A s.heap s.heap [] := va_S.rf
  have i4 : ∀ w ∈ u_ws RX4 TX4 7, w ∈ wsX4_decide := by decide +kernel
  have fl_19 := hts (.fieldLink RX4 19 "SignOnHouse" "sessions" "LSignOnHouse$Sessions;") (by decide +kernel)
  have fl_44 := hts (.fieldLink RX4 44 "SignOnHouse" "minute" "I") (by decide +kernel)
  have xk52 := hts (.classLink RX4 52 "java/lang/IllegalArgumentException") (by decide +kernel)
  have xi52 := hts (.initialized "java/lang/IllegalArgumentException") (by decide +kernel)
  have xa52 : ∀ w ∈ (vx_atS RX4 56 "java/lang/IllegalArgumentException" xnames).filter goodWord, w ∈ wsX4_decide := by decide +kernel
  have xk125 := hts (.classLink RX4 125 "java/lang/IndexOutOfBoundsException") (by decide +kernel)
  have xi125 := hts (.initialized "java/lang/IndexOutOfBoundsException") (by decide +kernel)
  have xa125 : ∀ w ∈ (vx_atS RX4 129 "java/lang/IndexOutOfBoundsException" xnames).filter goodWord, w ∈ wsX4_decide := by decide +kernel
  have hl := lv_entry ([.ref (X 0), .int x0, .int x1, .int x2]) (n := 4) (Nat.le_of_ble_eq_true rfl)
  rw [lg_entry_eq]
  generalize (lg_sl ([.ref (X 0), .int x0, .int x1, .int x2]) ++ List.replicate (4 - (lg_sl ([.ref (X 0), .int x0, .int x1, .int x2])).length) Slot.unset).toArray = ls at hl ⊢
  have hl : lv_has ls 4 [(0, .ref (X 0)), (1, .int x0), (2, .int x1), (3, .int x2)] := hl
  refine lv_iload_n hx hb dX4_decide_0 rfl (lv_at hl 1 rfl) ?_
  refine lv_iconst (v := 4) hx hb dX4_decide_1 rfl ?_
  refine z_callR (W.runS (As := [.int x0, .int 4]) (rest := []) ⟨hx, hb, hml, hown, hts⟩ (kX4_isOutside l x0 4) (va_cwS 2 hts gX4_decide_X4_isOutside rfl rfl rfl (by decide +kernel) ⟨Nat.le_of_ble_eq_true rfl, Nat.le_of_ble_eq_true rfl⟩) zP_pre rfl rfl hl.1 rfl (lv_room (Nat.le_of_ble_eq_true rfl)) dX4_decide_2 ⟨Nat.zero_le _, Nat.zero_le _⟩) ?_
  refine z_if_ne (tgt := 17) hx hb dX4_decide_5 (by decide) (fun c_5 => ?_) (fun c_5 => ?_)
  · exact z_throw (cls := "java/lang/IllegalArgumentException") (text := "app or role is out of range") (ik := 52) (is := 180) (ic := 56) hx hb hl0 hown zxI_fit xk52 xi52 (fun w hw => hts w (xa52 w hw)) zxI_bad zxI_ot hZ (by decide +kernel) hS (by rw [hml]; exact hl.1) dX4_decide_17 dX4_decide_20 dX4_decide_21 dX4_decide_23 dX4_decide_26 htb (by decide) (by decide) (by decide) (by decide) hlocks hP hK hD (Or.inl ⟨by simp [c_deK, c_5], rfl⟩)
  · obtain ⟨ai, hai, eai⟩ := c_out4 c_5
    have xai : ix x0 = ai := ix_of eai (by omega)
    refine lv_iload_n hx hb dX4_decide_8 rfl (lv_at hl 3 rfl) ?_
    refine lv_bipush (v := 6) hx hb dX4_decide_9 (by decide) ?_
    refine z_callR (W.runS (As := [.int x2, .int 6]) (rest := []) ⟨hx, hb, hml, hown, hts⟩ (kX4_isOutside l x2 6) (va_cwS 2 hts gX4_decide_X4_isOutside rfl rfl rfl (by decide +kernel) ⟨Nat.le_of_ble_eq_true rfl, Nat.le_of_ble_eq_true rfl⟩) zP_pre rfl rfl hl.1 rfl (lv_room (Nat.le_of_ble_eq_true rfl)) dX4_decide_11 ⟨Nat.zero_le _, Nat.zero_le _⟩) ?_
    refine z_if_eq (tgt := 27) hx hb dX4_decide_14 (by decide) (fun c_14 => ?_) (fun c_14 => ?_)
    · obtain ⟨ri, hri, eri⟩ := c_out6 c_14
      have xri : ix x2 = ri := ix_of eri (by omega)
      refine lv_aload_n hx hb dX4_decide_27 rfl (lv_at hl 0 rfl) ?_
      refine va_get (D := D) (ci := 4) (v := .ref (X 2)) (C := RX4) (T := TX4) (N := 7) hx hb hts i4 hown hK hP 0 rfl rfl 1 (by decide) fl_19 (fun _ h9 => h9) rfl dX4_decide_28 ?_
      refine lv_iload_n hx hb dX4_decide_31 rfl (lv_at hl 2 rfl) ?_
      refine z_callR (W.runV (As := [.int x1]) (rest := []) ⟨hx, hb, hml, hown, hts⟩ (kX3_has l D cI cZ X S O V x1) (cwV 1 hts gX4_decide_X3_has rfl rfl rfl (by decide +kernel) ⟨Nat.le_of_ble_eq_true rfl, Nat.le_of_ble_eq_true rfl⟩) (zR_preV 2 3 hK hP rfl rfl) rfl rfl hl.1 rfl (lv_room (Nat.le_of_ble_eq_true rfl)) dX4_decide_32 ⟨Nat.zero_le _, Nat.zero_le _⟩) ?_
      refine z_if_ne (tgt := 48) hx hb dX4_decide_35 (by decide) (fun c_35 => ?_) (fun c_35 => ?_)
      · obtain ⟨si, hsi, esi⟩ := c_hasN c_35 hct hn0
        have xsi : ix x1 = si := ix_of esi (by omega)
        obtain ⟨pi, hpi, epi⟩ := vp_in_of (hpe si hsi) (by decide)
        have xpi : ix (S 11 si) = pi := ix_of epi (by omega)
        refine lv_aload_n hx hb dX4_decide_48 rfl (lv_at hl 0 rfl) ?_
        refine va_get (D := D) (ci := 4) (v := .ref (X 2)) (C := RX4) (T := TX4) (N := 7) hx hb hts i4 hown hK hP 0 rfl rfl 1 (by decide) fl_19 (fun _ h9 => h9) rfl dX4_decide_49 ?_
        refine lv_iload_n hx hb dX4_decide_52 rfl (lv_at hl 2 rfl) ?_
        refine z_top (nI si) esi ?_
        refine z_callR (W.runV (As := [.int (nI si)]) (rest := []) ⟨hx, hb, hml, hown, hts⟩ (kX3_isOver l D cI cZ X S O V si (by omega)) (cwV 1 hts gX4_decide_X3_isOver rfl rfl rfl (by decide +kernel) ⟨Nat.le_of_ble_eq_true rfl, Nat.le_of_ble_eq_true rfl⟩) (zR_preV 2 3 hK hP rfl rfl) rfl rfl hl.1 rfl (lv_room (Nat.le_of_ble_eq_true rfl)) dX4_decide_53 ⟨Nat.zero_le _, Nat.zero_le _⟩) ?_
        refine z_if_eq (tgt := 61) hx hb dX4_decide_56 (by decide) (fun c_56 => ?_) (fun c_56 => ?_)
        · refine lv_aload_n hx hb dX4_decide_61 rfl (lv_at hl 0 rfl) ?_
          refine va_get (D := D) (ci := 4) (v := .ref (X 2)) (C := RX4) (T := TX4) (N := 7) hx hb hts i4 hown hK hP 0 rfl rfl 1 (by decide) fl_19 (fun _ h9 => h9) rfl dX4_decide_62 ?_
          refine lv_iload_n hx hb dX4_decide_65 rfl (lv_at hl 2 rfl) ?_
          refine z_top (nI si) esi ?_
          refine lv_aload_n hx hb dX4_decide_66 rfl (lv_at hl 0 rfl) ?_
          refine va_get (D := D) (ci := 4) (v := .int (V 0)) (C := RX4) (T := TX4) (N := 7) hx hb hts i4 hown hK hP 0 rfl rfl 6 (by decide) fl_44 (fun _ h9 => h9) rfl dX4_decide_67 ?_
          have hF := z_free hD hS hA
          refine z_callWv (va_runV (As := [.int (nI si), .int (V 0)]) (rest := []) ⟨hx, hb, hml, hown, hts⟩ (kX3_use l D cI cZ X S O V _ si (V 0) (by omega)) (cwV 2 hts gX4_decide_X3_use rfl rfl rfl (by decide +kernel) ⟨Nat.le_of_ble_eq_true rfl, Nat.le_of_ble_eq_true rfl⟩) (zW_preV 2 3 hK hP hD rfl rfl) rfl rfl hl.1 rfl (lv_room (Nat.le_of_ble_eq_true rfl)) dX4_decide_70 ⟨Nat.zero_le _, Nat.zero_le _⟩) hS hF (fun H locs hP hD hS => ?_)
          refine lv_aload_n hx hb dX4_decide_73 rfl (lv_at hl 0 rfl) ?_
          refine lv_iload_n hx hb dX4_decide_74 rfl (lv_at hl 1 rfl) ?_
          refine z_top (nI ai) eai ?_
          refine lv_aload_n hx hb dX4_decide_75 rfl (lv_at hl 0 rfl) ?_
          refine va_get (D := D) (ci := 4) (v := .ref (X 2)) (C := RX4) (T := TX4) (N := 7) hx hb hts i4 hown hK hP 0 rfl rfl 1 (by decide) fl_19 (fun _ h9 => h9) rfl dX4_decide_76 ?_
          refine lv_iload_n hx hb dX4_decide_79 rfl (lv_at hl 2 rfl) ?_
          refine z_top (nI si) esi ?_
          refine z_callR (W.runV (As := [.int (nI si)]) (rest := [.int (nI ai), .ref (X 0)]) ⟨hx, hb, hml, hown, hts⟩ (kX3_personOf l D cI cZ X (va_up S 14 (upd (S 14) si (V 0))) O V si (by omega)) (cwV 1 hts gX4_decide_X3_personOf rfl rfl rfl (by decide +kernel) ⟨Nat.le_of_ble_eq_true rfl, Nat.le_of_ble_eq_true rfl⟩) (zR_preV 2 3 hK hP rfl rfl) rfl rfl hl.1 rfl (lv_room (Nat.le_of_ble_eq_true rfl)) dX4_decide_80 ⟨Nat.zero_le _, Nat.zero_le _⟩) ?_
          refine z_top (S 11 si) rfl ?_
          refine z_top (nI pi) epi ?_
          refine lv_iload_n hx hb dX4_decide_83 rfl (lv_at hl 3 rfl) ?_
          refine z_top (nI ri) eri ?_
          have hF := z_free hD hS hA
          refine z_callWi (va_runV (As := [.int (nI ai), .int (nI pi), .int (nI ri)]) (rest := []) ⟨hx, hb, hml, hown, hts⟩ (kX4_answerOfApp l D cI cZ X (va_up S 14 (upd (S 14) si (V 0))) O V _ ai pi ri (by omega) (by omega) (by omega)) (cwV 3 hts gX4_decide_X4_answerOfApp rfl rfl rfl (by decide +kernel) ⟨Nat.le_of_ble_eq_true rfl, Nat.le_of_ble_eq_true rfl⟩) (zW_preV 0 4 hK hP hD rfl rfl) rfl rfl hl.1 rfl (lv_room (Nat.le_of_ble_eq_true rfl)) dX4_decide_84 ⟨Nat.zero_le _, Nat.zero_le _⟩) hS hF (fun H locs hP hD hS => ?_)
          have eS : (if O (ix x1) = true then S else c_appS (c_deS1 S V (ix x1)) V (ix x0) (ix (S 11 (ix x1))) (ix x2)) = (c_appS (va_up S 14 (upd (S 14) si (V 0))) V ai pi ri) := by simp [c_5, xai, c_14, xri, c_35, xsi, xpi, c_56] <;> rfl
          exact z_tret hx hb hr hlocks (by rw [eS]; exact hP) hK (by rw [eS]; exact hD) hS (by simp [c_deK, c_5, xai, c_14, xri, c_35, xsi, xpi, c_56]) (by simp [c_5, xai, c_14, xri, c_35, xsi, xpi, c_56] <;> rfl) dX4_decide_87
        · refine lv_iconst (v := 2) hx hb dX4_decide_59 rfl ?_
          have eS : (if O (ix x1) = true then S else c_appS (c_deS1 S V (ix x1)) V (ix x0) (ix (S 11 (ix x1))) (ix x2)) = S := by simp [c_5, xai, c_14, xri, c_35, xsi, xpi, c_56] <;> rfl
          exact z_tret hx hb hr hlocks (by rw [eS]; exact hP) hK (by rw [eS]; exact hD) hS (by simp [c_deK, c_5, xai, c_14, xri, c_35, xsi, xpi, c_56]) (by simp [c_5, xai, c_14, xri, c_35, xsi, xpi, c_56] <;> rfl) dX4_decide_60
      · exact z_throw (cls := "java/lang/IndexOutOfBoundsException") (text := "there is no such session") (ik := 125) (is := 127) (ic := 129) hx hb hl0 hown zxB_fit xk125 xi125 (fun w hw => hts w (xa125 w hw)) zxB_bad zxB_ot hZ (by decide +kernel) hS (by rw [hml]; exact hl.1) dX4_decide_38 dX4_decide_41 dX4_decide_42 dX4_decide_44 dX4_decide_47 htb (by decide) (by decide) (by decide) (by decide) hlocks hP hK hD (Or.inr ⟨by simp [c_deK, c_5, xai, c_14, xri, c_35], rfl⟩)
    · exact z_throw (cls := "java/lang/IllegalArgumentException") (text := "app or role is out of range") (ik := 52) (is := 180) (ic := 56) hx hb hl0 hown zxI_fit xk52 xi52 (fun w hw => hts w (xa52 w hw)) zxI_bad zxI_ot hZ (by decide +kernel) hS (by rw [hml]; exact hl.1) dX4_decide_17 dX4_decide_20 dX4_decide_21 dX4_decide_23 dX4_decide_26 htb (by decide) (by decide) (by decide) (by decide) hlocks hP hK hD (Or.inl ⟨by simp [c_deK, c_5, xai, c_14], rfl⟩)

set_option maxHeartbeats 4000000 in
set_option maxRecDepth 100000 in
theorem kX4_forget (l : Launch) (hl0 : l.stackTraces = false) (D : va_G) (cI cZ : ClassId) (X : Nat → Nat) (S : Nat → Nat → Int32) (O : Nat → Bool) (V : Nat → Int32) (sz : Nat) (x0 : Int32) (x1 : Int32) : vx_Met l yX4_forget wsX4_forget ({ frames := 6, cells := 1, slots := 6, locals := 90 } : Room) (zT D (tyl cI cZ) (hW cI cZ X S O V) sz [.ref (X 0), .int x0, .int x1]) (zTi D (tyl cI cZ) (hW cI cZ X (c_daS S (ix x0) (ix x1) 6) O V) (c_foK x0 x1) (c_daN S (ix x0) (ix x1) 6) (va_A (hW cI cZ X S O V) sz)) (zXC D (tyl cI cZ) (hW cI cZ X S O V) (va_A (hW cI cZ X S O V) sz) (fun E => ((c_foK x0 x1) = 1 ∧ E = "java/lang/IllegalArgumentException"))) 1 6 (va_A (hW cI cZ X S O V) sz) := by
  refine vx_ofW (cc := cX4_forget) (maxL := 3) (ret := (some .int)) (by decide) rfl ?_
  intro p e s m args below meth c s₁ B hml htb hv
  obtain ⟨rfl, hsz, hP, hK, hD0, hZ⟩ := hv
  have hx := B.exec
  have hb := B.bytes
  have hr := B.returns
  have hts := atoms_spec (ws := wsX4_forget) B.pre
  have hown : s.vm.findClass RX4 = some m.cls := findClass_of_methodNamed B.named
  have hlocks := B.notSynchronized
  subst hsz
  have hD := hD0.self (sz := s.heap.size)
  generalize hAe : va_A (hW cI cZ X S O V) s.heap.size = A at hD hZ ⊢
  have hA : ∀ q : Nat, s.heap.size ≤ q → A q := fun q h => by rw [← hAe]; exact Or.inr h
  have hS : va_S A s.heap s.heap [] := va_S.rf
  have i4 : ∀ w ∈ u_ws RX4 TX4 7, w ∈ wsX4_forget := by decide +kernel
  have fl_33 := hts (.fieldLink RX4 33 "SignOnHouse" "decisions" "LSignOnHouse$Decisions;") (by decide +kernel)
  have xk52 := hts (.classLink RX4 52 "java/lang/IllegalArgumentException") (by decide +kernel)
  have xi52 := hts (.initialized "java/lang/IllegalArgumentException") (by decide +kernel)
  have xa52 : ∀ w ∈ (vx_atS RX4 56 "java/lang/IllegalArgumentException" xnames).filter goodWord, w ∈ wsX4_forget := by decide +kernel
  have hl := lv_entry ([.ref (X 0), .int x0, .int x1]) (n := 3) (Nat.le_of_ble_eq_true rfl)
  rw [lg_entry_eq]
  generalize (lg_sl ([.ref (X 0), .int x0, .int x1]) ++ List.replicate (3 - (lg_sl ([.ref (X 0), .int x0, .int x1])).length) Slot.unset).toArray = ls at hl ⊢
  have hl : lv_has ls 3 [(0, .ref (X 0)), (1, .int x0), (2, .int x1)] := hl
  refine lv_iload_n hx hb dX4_forget_0 rfl (lv_at hl 1 rfl) ?_
  refine lv_iconst (v := 4) hx hb dX4_forget_1 rfl ?_
  refine z_callR (W.runS (As := [.int x0, .int 4]) (rest := []) ⟨hx, hb, hml, hown, hts⟩ (kX4_isOutside l x0 4) (va_cwS 2 hts gX4_forget_X4_isOutside rfl rfl rfl (by decide +kernel) ⟨Nat.le_of_ble_eq_true rfl, Nat.le_of_ble_eq_true rfl⟩) zP_pre rfl rfl hl.1 rfl (lv_room (Nat.le_of_ble_eq_true rfl)) dX4_forget_2 ⟨Nat.zero_le _, Nat.zero_le _⟩) ?_
  refine z_if_ne (tgt := 17) hx hb dX4_forget_5 (by decide) (fun c_5 => ?_) (fun c_5 => ?_)
  · exact z_throw (cls := "java/lang/IllegalArgumentException") (text := "app or person is out of range") (ik := 52) (is := 191) (ic := 56) hx hb hl0 hown zxI_fit xk52 xi52 (fun w hw => hts w (xa52 w hw)) zxI_bad zxI_ot hZ (by decide +kernel) hS (by rw [hml]; exact hl.1) dX4_forget_17 dX4_forget_20 dX4_forget_21 dX4_forget_23 dX4_forget_26 htb (by decide) (by decide) (by decide) (by decide) hlocks hP hK hD ⟨by simp [c_foK, c_5], rfl⟩
  · obtain ⟨ai, hai, eai⟩ := c_out4 c_5
    have xai : ix x0 = ai := ix_of eai (by omega)
    refine lv_iload_n hx hb dX4_forget_8 rfl (lv_at hl 2 rfl) ?_
    refine lv_bipush (v := 10) hx hb dX4_forget_9 (by decide) ?_
    refine z_callR (W.runS (As := [.int x1, .int 10]) (rest := []) ⟨hx, hb, hml, hown, hts⟩ (kX4_isOutside l x1 10) (va_cwS 2 hts gX4_forget_X4_isOutside rfl rfl rfl (by decide +kernel) ⟨Nat.le_of_ble_eq_true rfl, Nat.le_of_ble_eq_true rfl⟩) zP_pre rfl rfl hl.1 rfl (lv_room (Nat.le_of_ble_eq_true rfl)) dX4_forget_11 ⟨Nat.zero_le _, Nat.zero_le _⟩) ?_
    refine z_if_eq (tgt := 27) hx hb dX4_forget_14 (by decide) (fun c_14 => ?_) (fun c_14 => ?_)
    · obtain ⟨pi, hpi, epi⟩ := c_out10 c_14
      have xpi : ix x1 = pi := ix_of epi (by omega)
      refine lv_aload_n hx hb dX4_forget_27 rfl (lv_at hl 0 rfl) ?_
      refine va_get (D := D) (ci := 4) (v := .ref (X 4)) (C := RX4) (T := TX4) (N := 7) hx hb hts i4 hown hK hP 0 rfl rfl 3 (by decide) fl_33 (fun _ h9 => h9) rfl dX4_forget_28 ?_
      refine lv_iload_n hx hb dX4_forget_31 rfl (lv_at hl 1 rfl) ?_
      refine z_top (nI ai) eai ?_
      refine lv_iload_n hx hb dX4_forget_32 rfl (lv_at hl 2 rfl) ?_
      refine z_top (nI pi) epi ?_
      have hF := z_free hD hS hA
      refine z_callWi (va_runV (As := [.int (nI ai), .int (nI pi)]) (rest := []) ⟨hx, hb, hml, hown, hts⟩ (kX0_dropAllOf l D cI cZ X S O V _ ai pi (by omega) (by omega)) (cwV 2 hts gX4_forget_X0_dropAllOf rfl rfl rfl (by decide +kernel) ⟨Nat.le_of_ble_eq_true rfl, Nat.le_of_ble_eq_true rfl⟩) (zW_preV 4 0 hK hP hD rfl rfl) rfl rfl hl.1 rfl (lv_room (Nat.le_of_ble_eq_true rfl)) dX4_forget_33 ⟨Nat.zero_le _, Nat.zero_le _⟩) hS hF (fun H locs hP hD hS => ?_)
      have eS : (c_daS S (ix x0) (ix x1) 6) = (c_daS S ai pi 6) := by rw [xai, xpi]
      exact z_tret hx hb hr hlocks (by rw [eS]; exact hP) hK (by rw [eS]; exact hD) hS (by simp [c_foK, c_5, xai, c_14, xpi]) (by rw [xai, xpi]) dX4_forget_36
    · exact z_throw (cls := "java/lang/IllegalArgumentException") (text := "app or person is out of range") (ik := 52) (is := 191) (ic := 56) hx hb hl0 hown zxI_fit xk52 xi52 (fun w hw => hts w (xa52 w hw)) zxI_bad zxI_ot hZ (by decide +kernel) hS (by rw [hml]; exact hl.1) dX4_forget_17 dX4_forget_20 dX4_forget_21 dX4_forget_23 dX4_forget_26 htb (by decide) (by decide) (by decide) (by decide) hlocks hP hK hD ⟨by simp [c_foK, c_5, xai, c_14], rfl⟩

set_option maxHeartbeats 4000000 in
set_option maxRecDepth 100000 in
theorem kX4_stale (l : Launch) (hl0 : l.stackTraces = false) (D : va_G) (cI cZ : ClassId) (X : Nat → Nat) (S : Nat → Nat → Int32) (O : Nat → Bool) (V : Nat → Int32) (sz : Nat) (x0 : Int32) : vx_Met l yX4_stale wsX4_stale ({ frames := 6, cells := 1, slots := 6, locals := 135 } : Room) (zT D (tyl cI cZ) (hW cI cZ X S O V) sz [.ref (X 0), .int x0]) (zTi D (tyl cI cZ) (hW cI cZ X S O V) (c_stK x0) (c_stO S V (ix x0) 10) (va_A (hW cI cZ X S O V) sz)) (zXC D (tyl cI cZ) (hW cI cZ X S O V) (va_A (hW cI cZ X S O V) sz) (fun E => ((c_stK x0) = 1 ∧ E = "java/lang/IllegalArgumentException"))) 1 6 (va_A (hW cI cZ X S O V) sz) := by
  refine vx_ofW (cc := cX4_stale) (maxL := 5) (ret := (some .int)) (by decide) rfl ?_
  intro p e s m args below meth c s₁ B hml htb hv
  obtain ⟨rfl, hsz, hP, hK, hD0, hZ⟩ := hv
  have hx := B.exec
  have hb := B.bytes
  have hr := B.returns
  have hts := atoms_spec (ws := wsX4_stale) B.pre
  have hown : s.vm.findClass RX4 = some m.cls := findClass_of_methodNamed B.named
  have hlocks := B.notSynchronized
  subst hsz
  have hD := hD0.self (sz := s.heap.size)
  generalize hAe : va_A (hW cI cZ X S O V) s.heap.size = A at hD hZ ⊢
  have hA : ∀ q : Nat, s.heap.size ≤ q → A q := fun q h => by rw [← hAe]; exact Or.inr h
  have hS : va_S A s.heap s.heap [] := va_S.rf
  have xk52 := hts (.classLink RX4 52 "java/lang/IllegalArgumentException") (by decide +kernel)
  have xi52 := hts (.initialized "java/lang/IllegalArgumentException") (by decide +kernel)
  have xa52 : ∀ w ∈ (vx_atS RX4 56 "java/lang/IllegalArgumentException" xnames).filter goodWord, w ∈ wsX4_stale := by decide +kernel
  have hl := lv_entry ([.ref (X 0), .int x0]) (n := 5) (Nat.le_of_ble_eq_true rfl)
  rw [lg_entry_eq]
  generalize (lg_sl ([.ref (X 0), .int x0]) ++ List.replicate (5 - (lg_sl ([.ref (X 0), .int x0])).length) Slot.unset).toArray = ls at hl ⊢
  have hl : lv_has ls 5 [(0, .ref (X 0)), (1, .int x0)] := hl
  refine lv_iload_n hx hb dX4_stale_0 rfl (lv_at hl 1 rfl) ?_
  refine lv_iconst (v := 4) hx hb dX4_stale_1 rfl ?_
  refine z_callR (W.runS (As := [.int x0, .int 4]) (rest := []) ⟨hx, hb, hml, hown, hts⟩ (kX4_isOutside l x0 4) (va_cwS 2 hts gX4_stale_X4_isOutside rfl rfl rfl (by decide +kernel) ⟨Nat.le_of_ble_eq_true rfl, Nat.le_of_ble_eq_true rfl⟩) zP_pre rfl rfl hl.1 rfl (lv_room (Nat.le_of_ble_eq_true rfl)) dX4_stale_2 ⟨Nat.zero_le _, Nat.zero_le _⟩) ?_
  refine z_if_eq (tgt := 18) hx hb dX4_stale_5 (by decide) (fun c_5 => ?_) (fun c_5 => ?_)
  · obtain ⟨ai, hai, eai⟩ := c_out4 c_5
    have xai : ix x0 = ai := ix_of eai (by omega)
    refine lv_iconst (v := 0) hx hb dX4_stale_18 rfl ?_
    refine lv_istore_n (lv' := [(2, .int 0), (0, .ref (X 0)), (1, .int x0)]) hx hb dX4_stale_19 rfl hl (by decide) rfl (fun ls hl => ?_)
    refine lv_iconst (v := nI 0) hx hb dX4_stale_20 rfl ?_
    refine lv_istore_n (lv' := [(3, .int (nI 0)), (2, .int 0), (0, .ref (X 0)), (1, .int x0)]) hx hb dX4_stale_21 rfl hl (by decide) rfl (fun ls hl => ?_)
    refine z_loop (N := 10) (nL := 5) (Lc := (fun q => [(3, .int (nI q)), (2, .int (c_stO S V ai q)), (0, .ref (X 0)), (1, .int x0)])) (lv_sub hl [0, 1, 2, 3] rfl) (fun ls hl => ?_) (fun q ls hq hl ih => ?_)
    · have hl : lv_has ls 5 [(3, .int (nI 10)), (2, .int (c_stO S V ai 10)), (0, .ref (X 0)), (1, .int x0)] := hl
      refine lv_iload_n hx hb dX4_stale_22 rfl (lv_at hl 0 rfl) ?_
      refine lv_bipush (v := nI 10) hx hb dX4_stale_23 (by decide) ?_
      refine z_ge_t (tgt := 64) (nI_le (by omega) (by omega)) hx hb dX4_stale_25 (by decide) ?_
      refine lv_iload_n hx hb dX4_stale_64 rfl (lv_at hl 1 rfl) ?_
      exact z_tret hx hb hr hlocks hP hK hD hS (by simp [c_stK, c_5, xai]) (by rw [xai]) dX4_stale_65
    · have hl : lv_has ls 5 [(3, .int (nI q)), (2, .int (c_stO S V ai q)), (0, .ref (X 0)), (1, .int x0)] := hl
      have ih_22 := ih
      refine lv_iload_n hx hb dX4_stale_22 rfl (lv_at hl 0 rfl) ?_
      refine lv_bipush (v := nI 10) hx hb dX4_stale_23 (by decide) ?_
      refine z_ge_f (tgt := 64) (nI_ge (by omega) (by omega)) hx hb dX4_stale_25 (by decide) ?_
      refine lv_iconst (v := nI 0) hx hb dX4_stale_28 rfl ?_
      refine lv_istore (lv' := [(4, .int (nI 0)), (3, .int (nI q)), (2, .int (c_stO S V ai q)), (0, .ref (X 0)), (1, .int x0)]) hx hb dX4_stale_29 hl (by decide) rfl (fun ls hl => ?_)
      refine z_loop (N := 6) (nL := 5) (Lc := (fun k => [(4, .int (nI k)), (3, .int (nI q)), (2, .int (c_stI S V ai (c_stO S V ai q) q k)), (0, .ref (X 0)), (1, .int x0)])) (lv_sub hl [0, 1, 2, 3, 4] rfl) (fun ls hl => ?_) (fun k ls hk hl ih => ?_)
      · have hl : lv_has ls 5 [(4, .int (nI 6)), (3, .int (nI q)), (2, .int (c_stI S V ai (c_stO S V ai q) q 6)), (0, .ref (X 0)), (1, .int x0)] := hl
        refine lv_iload hx hb dX4_stale_31 (lv_at hl 0 rfl) ?_
        refine lv_bipush (v := nI 6) hx hb dX4_stale_33 (by decide) ?_
        refine z_ge_t (tgt := 58) (nI_le (by omega) (by omega)) hx hb dX4_stale_35 (by decide) ?_
        refine lv_iinc (v := nI (q + 1)) (lv' := [(3, .int (nI (q + 1))), (4, .int (nI 6)), (2, .int (c_stI S V ai (c_stO S V ai q) q 6)), (0, .ref (X 0)), (1, .int x0)]) hx hb dX4_stale_58 hl (k := 1) rfl (nI_1 _) (by decide) rfl (fun ls hl => ?_)
        refine lv_goto (tgt := 22) hx hb dX4_stale_61 (by decide) ?_
        have e2 : (c_stO S V ai (q + 1)) = (c_stI S V ai (c_stO S V ai q) q 6) := by rfl
        exact ih_22 ls (by show lv_has ls 5 [(3, .int (nI (q + 1))), (2, .int (c_stO S V ai (q + 1))), (0, .ref (X 0)), (1, .int x0)]; rw [e2]; exact lv_sub hl [0, 2, 3, 4] rfl)
      · have hl : lv_has ls 5 [(4, .int (nI k)), (3, .int (nI q)), (2, .int (c_stI S V ai (c_stO S V ai q) q k)), (0, .ref (X 0)), (1, .int x0)] := hl
        have ih_31 := ih
        refine lv_iload hx hb dX4_stale_31 (lv_at hl 0 rfl) ?_
        refine lv_bipush (v := nI 6) hx hb dX4_stale_33 (by decide) ?_
        refine z_ge_f (tgt := 58) (nI_ge (by omega) (by omega)) hx hb dX4_stale_35 (by decide) ?_
        refine lv_aload_n hx hb dX4_stale_38 rfl (lv_at hl 3 rfl) ?_
        refine lv_iload_n hx hb dX4_stale_39 rfl (lv_at hl 4 rfl) ?_
        refine z_top (nI ai) eai ?_
        refine lv_iload_n hx hb dX4_stale_40 rfl (lv_at hl 1 rfl) ?_
        refine lv_iload hx hb dX4_stale_41 (lv_at hl 0 rfl) ?_
        refine z_callR (W.runV (As := [.int (nI ai), .int (nI q), .int (nI k)]) (rest := []) ⟨hx, hb, hml, hown, hts⟩ (kX4_isStale l D cI cZ X S O V ai q k (by omega) (by omega) (by omega)) (cwV 3 hts gX4_stale_X4_isStale rfl rfl rfl (by decide +kernel) ⟨Nat.le_of_ble_eq_true rfl, Nat.le_of_ble_eq_true rfl⟩) (zR_preV 0 4 hK hP rfl rfl) rfl rfl hl.1 rfl (lv_room (Nat.le_of_ble_eq_true rfl)) dX4_stale_43 ⟨Nat.zero_le _, Nat.zero_le _⟩) ?_
        refine z_if_eq (tgt := 52) hx hb dX4_stale_46 (by decide) (fun c_46 => ?_) (fun c_46 => ?_)
        · refine lv_iinc (v := nI (k + 1)) (lv' := [(4, .int (nI (k + 1))), (3, .int (nI q)), (2, .int (c_stI S V ai (c_stO S V ai q) q k)), (0, .ref (X 0)), (1, .int x0)]) hx hb dX4_stale_52 hl (k := 0) rfl (nI_1 _) (by decide) rfl (fun ls hl => ?_)
          refine lv_goto (tgt := 31) hx hb dX4_stale_55 (by decide) ?_
          have e2 : (c_stI S V ai (c_stO S V ai q) q (k + 1)) = (c_stI S V ai (c_stO S V ai q) q k) := by simp [c_stI, c_5, xai, c_46]
          exact ih_31 ls (by show lv_has ls 5 [(4, .int (nI (k + 1))), (3, .int (nI q)), (2, .int (c_stI S V ai (c_stO S V ai q) q (k + 1))), (0, .ref (X 0)), (1, .int x0)]; rw [e2]; exact lv_sub hl [0, 1, 2, 3, 4] rfl)
        · refine lv_iinc (v := c_stI S V ai (c_stO S V ai q) q k + 1) (lv' := [(2, .int (c_stI S V ai (c_stO S V ai q) q k + 1)), (4, .int (nI k)), (3, .int (nI q)), (0, .ref (X 0)), (1, .int x0)]) hx hb dX4_stale_49 hl (k := 2) rfl rfl (by decide) rfl (fun ls hl => ?_)
          refine lv_iinc (v := nI (k + 1)) (lv' := [(4, .int (nI (k + 1))), (2, .int (c_stI S V ai (c_stO S V ai q) q k + 1)), (3, .int (nI q)), (0, .ref (X 0)), (1, .int x0)]) hx hb dX4_stale_52 hl (k := 1) rfl (nI_1 _) (by decide) rfl (fun ls hl => ?_)
          refine lv_goto (tgt := 31) hx hb dX4_stale_55 (by decide) ?_
          have e2 : (c_stI S V ai (c_stO S V ai q) q (k + 1)) = (c_stI S V ai (c_stO S V ai q) q k + 1) := by simp [c_stI, c_5, xai, c_46]
          exact ih_31 ls (by show lv_has ls 5 [(4, .int (nI (k + 1))), (3, .int (nI q)), (2, .int (c_stI S V ai (c_stO S V ai q) q (k + 1))), (0, .ref (X 0)), (1, .int x0)]; rw [e2]; exact lv_sub hl [0, 2, 1, 3, 4] rfl)
  · exact z_throw (cls := "java/lang/IllegalArgumentException") (text := "app is out of range") (ik := 52) (is := 196) (ic := 56) hx hb hl0 hown zxI_fit xk52 xi52 (fun w hw => hts w (xa52 w hw)) zxI_bad zxI_ot hZ (by decide +kernel) hS (by rw [hml]; exact hl.1) dX4_stale_8 dX4_stale_11 dX4_stale_12 dX4_stale_14 dX4_stale_17 htb (by decide) (by decide) (by decide) (by decide) hlocks hP hK hD ⟨by simp [c_stK, c_5], rfl⟩
