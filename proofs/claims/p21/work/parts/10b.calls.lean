set_option maxHeartbeats 4000000 in
set_option maxRecDepth 100000 in
theorem kL_calls_0 (l : Launch) (hl0 : l.stackTraces = false) (D : va_G) (cI cZ : ClassId) (X : Nat → Nat) (S : Nat → Nat → Int32) (O : Nat → Bool) (V : Nat → Int32) (sz : Nat) (x0 : Int32) (x1 : Int32) (b0 : Bool) (d0 : Int32) : Met l yL_calls wsL_calls ({ frames := 7, cells := 1, slots := 6, locals := 136 } : Room) (zL D (tyl cI cZ) (hW cI cZ X S O V) sz [.ref (X 0), .int 0, .int x0, .int x1, .int (bi b0), .int d0]) (zQi D (tyl cI cZ) (hW cI cZ X (if c_sgK S x0 x1 b0 = 0 then va_up S 8 (upd (S 8) (ix x1) (c_changed (S 8 (ix x1)) (nI (ix x0)) b0)) else S) O V) (l_thr (c_sgK S x0 x1 b0) (bi (hasB (S 8 (ix x1)) (nI (ix x0))))) (va_A (hW cI cZ X S O V) sz)) 1 6 (va_A (hW cI cZ X S O V) sz) := by
  refine z_ofWH (cc := cL_calls) (maxL := 7) (ret := (some .int)) (by decide) rfl ?_
  intro p e s m args below meth c s₁ B hml hv
  obtain ⟨rfl, hsz, hP, hK, hD0, hZ, hY⟩ := hv
  have hx := B.exec
  have hb := B.bytes
  have hr := B.returns
  have hts := atoms_spec (ws := wsL_calls) B.pre
  have hown : s.vm.findClass RL = some m.cls := findClass_of_methodNamed B.named
  have hlocks := B.notSynchronized
  subst hsz
  have hD := hD0.self (sz := s.heap.size)
  generalize hAe : va_A (hW cI cZ X S O V) s.heap.size = A at hD hZ ⊢
  have hA : ∀ q : Nat, s.heap.size ≤ q → A q := fun q h => by rw [← hAe]; exact Or.inr h
  have hS : va_S A s.heap s.heap [] := va_S.rf
  have htab := vx_table (x := yL_calls) B (hts (.codeWith yL_calls cL_calls 7 (some .int) [(0, 68, 69, 27), (0, 68, 74, 29)]) List.mem_cons_self)
  have xl27 := hts (.classLink RL 27 "java/lang/IllegalArgumentException") (by decide +kernel)
  have xl29 := hts (.classLink RL 29 "java/lang/IllegalStateException") (by decide +kernel)
  have hl := lv_entry ([.ref (X 0), .int 0, .int x0, .int x1, .int (bi b0), .int d0]) (n := 7) (Nat.le_of_ble_eq_true rfl)
  rw [lg_entry_eq]
  generalize (lg_sl ([.ref (X 0), .int 0, .int x0, .int x1, .int (bi b0), .int d0]) ++ List.replicate (7 - (lg_sl ([.ref (X 0), .int 0, .int x0, .int x1, .int (bi b0), .int d0])).length) Slot.unset).toArray = ls at hl ⊢
  have hl : lv_has ls 7 [(0, .ref (X 0)), (1, .int 0), (2, .int x0), (3, .int x1), (4, .int (bi b0)), (5, .int d0)] := hl
  refine lv_iload_n hx hb dL_calls_0 rfl (lv_at hl 1 rfl) ?_
  refine lv_if_ne (tgt := 32) hx hb dL_calls_1 (by decide) (fun q => absurd rfl q) (fun _ => ?_)
  refine lv_aload_n hx hb dL_calls_4 rfl (lv_at hl 0 rfl) ?_
  refine lv_iload_n hx hb dL_calls_5 rfl (lv_at hl 2 rfl) ?_
  refine lv_iload_n hx hb dL_calls_6 rfl (lv_at hl 3 rfl) ?_
  refine lv_iload hx hb dL_calls_7 (lv_at hl 4 rfl) ?_
  refine lv_iconst (v := 1) hx hb dL_calls_9 rfl ?_
  refine z_sel_icmp_ne hx hb dL_calls_10 dL_calls_13 dL_calls_14 dL_calls_17 ?_
  refine z_top (bi b0) (congrArg bi (bi_is b0)) ?_
  have hFc := z_free hD hS hA
  refine vx_calli (vx_runV (As := [.int x0, .int x1, .int (bi b0)]) (rest := []) ⟨hx, hb, hml, hown, hts⟩ (kX4_setGroup l hl0 D cI cZ X S O V _ x0 x1 b0) (cwV 3 hts gL_calls_X4_setGroup rfl rfl rfl (by decide +kernel) ⟨Nat.le_of_ble_eq_true rfl, Nat.le_of_ble_eq_true rfl⟩) (zT_preV 0 4 hK hP hD (fun U hU hW => zX_narrow (zX_warm hW hU hZ) hFc) rfl rfl) rfl rfl hl.1 rfl (lv_room (Nat.le_of_ble_eq_true rfl)) dL_calls_18 ⟨Nat.le_of_ble_eq_true rfl, Nat.le_of_ble_eq_true rfl⟩) hS (fun q _ h => hFc q h) hFc (fun q _ h => hFc q h) (fun E ce q9 u t H1 locs1 ht hvm _ hBX hz1 hk1 hS1 hq9 hcv hcl => ?_) (fun r u t H1 locs1 ht hvm hw hB hz1 hk1 hS1 => ?_)
  · obtain ⟨hE, hP1, -, hD1⟩ := hBX
    rw [ht] at hP1
    have hP := hP1
    have hD := hD1.weaken (fun _ q _ h => hFc q.1 h)
    rcases hE with ⟨hk, rfl⟩ | ⟨hk, rfl⟩
    · refine vx_catch (own := RL) (name := "java/lang/IllegalArgumentException") hown [] ⟨0, 68, 69, 27⟩ [⟨0, 68, 74, 29⟩] (by rw [htab]; rfl) (fun z hz => nomatch hz) (by decide) (by decide) xl27 (va_Nw.use rfl (hZ.2.2.1 _ (List.mem_of_getElem? (i := 0) rfl))) hq9 hcv hcl ?_
      refine lv_astore (lv' := [(6, .ref q9), (0, .ref (X 0)), (1, .int 0), (2, .int x0), (3, .int x1), (4, .int (bi b0)), (5, .int d0)]) hx hb dL_calls_69 hl (by decide) rfl (fun ls hl => ?_)
      refine lv_bipush (v := (-2)) hx hb dL_calls_71 (by decide) ?_
      have hne : ¬ (c_sgK S x0 x1 b0) = 0 := by rw [hk]; decide
      have eS : (if c_sgK S x0 x1 b0 = 0 then va_up S 8 (upd (S 8) (ix x1) (c_changed (S 8 (ix x1)) (nI (ix x0)) b0)) else S) = S := if_neg hne
      exact z_wret hx hb hr hlocks (by rw [eS]; exact hP) hK (by rw [eS]; exact hD) hS1 (by rw [l_thr, hk]; rfl) dL_calls_73
    · refine vx_catch (own := RL) (name := "java/lang/IllegalStateException") hown [⟨0, 68, 69, 27⟩] ⟨0, 68, 74, 29⟩ [] (by rw [htab]; rfl) (fun z hz => by rw [List.mem_singleton.mp hz]; exact Or.inr ⟨by decide, _, xl27, hY⟩) (by decide) (by decide) xl29 (va_Nw.use rfl (hZ.2.2.1 _ (List.mem_of_getElem? (i := 1) rfl))) hq9 hcv hcl ?_
      refine lv_astore (lv' := [(6, .ref q9), (0, .ref (X 0)), (1, .int 0), (2, .int x0), (3, .int x1), (4, .int (bi b0)), (5, .int d0)]) hx hb dL_calls_74 hl (by decide) rfl (fun ls hl => ?_)
      refine lv_bipush (v := (-3)) hx hb dL_calls_76 (by decide) ?_
      have hne : ¬ (c_sgK S x0 x1 b0) = 0 := by rw [hk]; decide
      have eS : (if c_sgK S x0 x1 b0 = 0 then va_up S 8 (upd (S 8) (ix x1) (c_changed (S 8 (ix x1)) (nI (ix x0)) b0)) else S) = S := if_neg hne
      exact z_wret hx hb hr hlocks (by rw [eS]; exact hP) hK (by rw [eS]; exact hD) hS1 (by rw [l_thr, hk]; rfl) dL_calls_78
  · obtain ⟨hk, hw⟩ := hw
    subst hw
    obtain ⟨hP1, -, hD1⟩ := hB
    rw [ht] at hP1
    have hP := hP1
    have hD := hD1.weaken (fun _ q _ h => hFc q.1 h)
    have hS := hS1
    have eS : (if c_sgK S x0 x1 b0 = 0 then va_up S 8 (upd (S 8) (ix x1) (c_changed (S 8 (ix x1)) (nI (ix x0)) b0)) else S) = va_up S 8 (upd (S 8) (ix x1) (c_changed (S 8 (ix x1)) (nI (ix x0)) b0)) := if_pos hk
    have eR : l_thr (c_sgK S x0 x1 b0) (bi (hasB (S 8 (ix x1)) (nI (ix x0)))) = bi (hasB (S 8 (ix x1)) (nI (ix x0))) := if_pos hk
    refine z_if_eq (tgt := 28) hx hb dL_calls_21 (by decide) (fun cb => ?_) (fun cb => ?_)
    · refine lv_iconst (v := 0) hx hb dL_calls_28 rfl ?_
      refine lv_goto (tgt := 68) hx hb dL_calls_29 (by decide) ?_
      exact z_wret hx hb hr hlocks (by rw [eS]; exact hP) hK (by rw [eS]; exact hD) hS (by rw [eR, cb]; rfl) dL_calls_68
    · refine lv_iconst (v := 1) hx hb dL_calls_24 rfl ?_
      refine lv_goto (tgt := 68) hx hb dL_calls_25 (by decide) ?_
      exact z_wret hx hb hr hlocks (by rw [eS]; exact hP) hK (by rw [eS]; exact hD) hS (by rw [eR, cb]; rfl) dL_calls_68

set_option maxHeartbeats 4000000 in
set_option maxRecDepth 100000 in
theorem kL_calls_1 (l : Launch) (hl0 : l.stackTraces = false) (D : va_G) (cI cZ : ClassId) (X : Nat → Nat) (S : Nat → Nat → Int32) (O : Nat → Bool) (V : Nat → Int32) (sz : Nat) (x0 : Int32) (n0 : Nat) (hn0 : n0 ≤ 30) (hct : V 1 = nI n0) (d0 : Int32) (d1 : Int32) (d2 : Int32) : Met l yL_calls wsL_calls ({ frames := 7, cells := 1, slots := 6, locals := 136 } : Room) (zL D (tyl cI cZ) (hW cI cZ X S O V) sz [.ref (X 0), .int 1, .int x0, .int d0, .int d1, .int d2]) (zQi D (tyl cI cZ) (hW cI cZ X (if c_opK S V x0 = 0 then va_up (va_up (va_up (va_up S 11 (upd (S 11) n0 x0)) 12 (upd (S 12) n0 (V 2))) 13 (upd (S 13) n0 (V 0))) 14 (upd (S 14) n0 (V 0)) else S) O (if c_opK S V x0 = 0 then va_up V 1 (V 1 + 1) else V)) (l_thr (c_opK S V x0) (nI n0)) (va_A (hW cI cZ X S O V) sz)) 1 6 (va_A (hW cI cZ X S O V) sz) := by
  refine z_ofWH (cc := cL_calls) (maxL := 7) (ret := (some .int)) (by decide) rfl ?_
  intro p e s m args below meth c s₁ B hml hv
  obtain ⟨rfl, hsz, hP, hK, hD0, hZ, hY⟩ := hv
  have hx := B.exec
  have hb := B.bytes
  have hr := B.returns
  have hts := atoms_spec (ws := wsL_calls) B.pre
  have hown : s.vm.findClass RL = some m.cls := findClass_of_methodNamed B.named
  have hlocks := B.notSynchronized
  subst hsz
  have hD := hD0.self (sz := s.heap.size)
  generalize hAe : va_A (hW cI cZ X S O V) s.heap.size = A at hD hZ ⊢
  have hA : ∀ q : Nat, s.heap.size ≤ q → A q := fun q h => by rw [← hAe]; exact Or.inr h
  have hS : va_S A s.heap s.heap [] := va_S.rf
  have htab := vx_table (x := yL_calls) B (hts (.codeWith yL_calls cL_calls 7 (some .int) [(0, 68, 69, 27), (0, 68, 74, 29)]) List.mem_cons_self)
  have xl27 := hts (.classLink RL 27 "java/lang/IllegalArgumentException") (by decide +kernel)
  have xl29 := hts (.classLink RL 29 "java/lang/IllegalStateException") (by decide +kernel)
  have hl := lv_entry ([.ref (X 0), .int 1, .int x0, .int d0, .int d1, .int d2]) (n := 7) (Nat.le_of_ble_eq_true rfl)
  rw [lg_entry_eq]
  generalize (lg_sl ([.ref (X 0), .int 1, .int x0, .int d0, .int d1, .int d2]) ++ List.replicate (7 - (lg_sl ([.ref (X 0), .int 1, .int x0, .int d0, .int d1, .int d2])).length) Slot.unset).toArray = ls at hl ⊢
  have hl : lv_has ls 7 [(0, .ref (X 0)), (1, .int 1), (2, .int x0), (3, .int d0), (4, .int d1), (5, .int d2)] := hl
  refine lv_iload_n hx hb dL_calls_0 rfl (lv_at hl 1 rfl) ?_
  refine lv_if_ne (tgt := 32) hx hb dL_calls_1 (by decide) (fun _ => ?_) (fun q => absurd q (by decide))
  refine lv_iload_n hx hb dL_calls_32 rfl (lv_at hl 1 rfl) ?_
  refine lv_iconst (v := 1) hx hb dL_calls_33 rfl ?_
  refine lv_icmp_ne (tgt := 45) hx hb dL_calls_34 (by decide) (fun q => absurd rfl q) (fun _ => ?_)
  refine lv_aload_n hx hb dL_calls_37 rfl (lv_at hl 0 rfl) ?_
  refine lv_iload_n hx hb dL_calls_38 rfl (lv_at hl 2 rfl) ?_
  have hFc := z_free hD hS hA
  refine vx_calli (vx_runV (As := [.int x0]) (rest := []) ⟨hx, hb, hml, hown, hts⟩ (kX4_open l hl0 D cI cZ X S O V _ x0 n0 hn0 hct) (cwV 1 hts gL_calls_X4_open rfl rfl rfl (by decide +kernel) ⟨Nat.le_of_ble_eq_true rfl, Nat.le_of_ble_eq_true rfl⟩) (zT_preV 0 4 hK hP hD (fun U hU hW => zX_narrow (zX_warm hW hU hZ) hFc) rfl rfl) rfl rfl hl.1 rfl (lv_room (Nat.le_of_ble_eq_true rfl)) dL_calls_39 ⟨Nat.le_of_ble_eq_true rfl, Nat.le_of_ble_eq_true rfl⟩) hS (fun q _ h => hFc q h) hFc (fun q _ h => hFc q h) (fun E ce q9 u t H1 locs1 ht hvm _ hBX hz1 hk1 hS1 hq9 hcv hcl => ?_) (fun r u t H1 locs1 ht hvm hw hB hz1 hk1 hS1 => ?_)
  · obtain ⟨hE, hP1, -, hD1⟩ := hBX
    rw [ht] at hP1
    have hP := hP1
    have hD := hD1.weaken (fun _ q _ h => hFc q.1 h)
    rcases hE with ⟨hk, rfl⟩ | ⟨hk, rfl⟩
    · refine vx_catch (own := RL) (name := "java/lang/IllegalArgumentException") hown [] ⟨0, 68, 69, 27⟩ [⟨0, 68, 74, 29⟩] (by rw [htab]; rfl) (fun z hz => nomatch hz) (by decide) (by decide) xl27 (va_Nw.use rfl (hZ.2.2.1 _ (List.mem_of_getElem? (i := 0) rfl))) hq9 hcv hcl ?_
      refine lv_astore (lv' := [(6, .ref q9), (0, .ref (X 0)), (1, .int 1), (2, .int x0), (3, .int d0), (4, .int d1), (5, .int d2)]) hx hb dL_calls_69 hl (by decide) rfl (fun ls hl => ?_)
      refine lv_bipush (v := (-2)) hx hb dL_calls_71 (by decide) ?_
      have hne : ¬ (c_opK S V x0) = 0 := by rw [hk]; decide
      have eS : (if c_opK S V x0 = 0 then va_up (va_up (va_up (va_up S 11 (upd (S 11) n0 x0)) 12 (upd (S 12) n0 (V 2))) 13 (upd (S 13) n0 (V 0))) 14 (upd (S 14) n0 (V 0)) else S) = S := if_neg hne
      have eV : (if c_opK S V x0 = 0 then va_up V 1 (V 1 + 1) else V) = V := if_neg hne
      exact z_wret hx hb hr hlocks (by rw [eS, eV]; exact hP) hK (by rw [eS, eV]; exact hD) hS1 (by rw [l_thr, hk]; rfl) dL_calls_73
    · refine vx_catch (own := RL) (name := "java/lang/IllegalStateException") hown [⟨0, 68, 69, 27⟩] ⟨0, 68, 74, 29⟩ [] (by rw [htab]; rfl) (fun z hz => by rw [List.mem_singleton.mp hz]; exact Or.inr ⟨by decide, _, xl27, hY⟩) (by decide) (by decide) xl29 (va_Nw.use rfl (hZ.2.2.1 _ (List.mem_of_getElem? (i := 1) rfl))) hq9 hcv hcl ?_
      refine lv_astore (lv' := [(6, .ref q9), (0, .ref (X 0)), (1, .int 1), (2, .int x0), (3, .int d0), (4, .int d1), (5, .int d2)]) hx hb dL_calls_74 hl (by decide) rfl (fun ls hl => ?_)
      refine lv_bipush (v := (-3)) hx hb dL_calls_76 (by decide) ?_
      have hne : ¬ (c_opK S V x0) = 0 := by rw [hk]; decide
      have eS : (if c_opK S V x0 = 0 then va_up (va_up (va_up (va_up S 11 (upd (S 11) n0 x0)) 12 (upd (S 12) n0 (V 2))) 13 (upd (S 13) n0 (V 0))) 14 (upd (S 14) n0 (V 0)) else S) = S := if_neg hne
      have eV : (if c_opK S V x0 = 0 then va_up V 1 (V 1 + 1) else V) = V := if_neg hne
      exact z_wret hx hb hr hlocks (by rw [eS, eV]; exact hP) hK (by rw [eS, eV]; exact hD) hS1 (by rw [l_thr, hk]; rfl) dL_calls_78
  · obtain ⟨hk, hw⟩ := hw
    subst hw
    obtain ⟨hP1, -, hD1⟩ := hB
    rw [ht] at hP1
    have hP := hP1
    have hD := hD1.weaken (fun _ q _ h => hFc q.1 h)
    have hS := hS1
    have eS : (if c_opK S V x0 = 0 then va_up (va_up (va_up (va_up S 11 (upd (S 11) n0 x0)) 12 (upd (S 12) n0 (V 2))) 13 (upd (S 13) n0 (V 0))) 14 (upd (S 14) n0 (V 0)) else S) = va_up (va_up (va_up (va_up S 11 (upd (S 11) n0 x0)) 12 (upd (S 12) n0 (V 2))) 13 (upd (S 13) n0 (V 0))) 14 (upd (S 14) n0 (V 0)) := if_pos hk
    have eV : (if c_opK S V x0 = 0 then va_up V 1 (V 1 + 1) else V) = va_up V 1 (V 1 + 1) := if_pos hk
    have eR : l_thr (c_opK S V x0) (nI n0) = nI n0 := if_pos hk
    refine lv_goto (tgt := 68) hx hb dL_calls_42 (by decide) ?_
    exact z_wret hx hb hr hlocks (by rw [eS, eV]; exact hP) hK (by rw [eS, eV]; exact hD) hS eR.symm dL_calls_68

set_option maxHeartbeats 4000000 in
set_option maxRecDepth 100000 in
theorem kL_calls_2 (l : Launch) (hl0 : l.stackTraces = false) (D : va_G) (cI cZ : ClassId) (X : Nat → Nat) (S : Nat → Nat → Int32) (O : Nat → Bool) (V : Nat → Int32) (sz : Nat) (x0 : Int32) (n0 : Nat) (hn0 : n0 ≤ 30) (hct : V 1 = nI n0) (hno : ¬ c_clK O V x0 = 1) (d0 : Int32) (d1 : Int32) (d2 : Int32) : Met l yL_calls wsL_calls ({ frames := 7, cells := 1, slots := 6, locals := 136 } : Room) (zL D (tyl cI cZ) (hW cI cZ X S O V) sz [.ref (X 0), .int 2, .int x0, .int d0, .int d1, .int d2]) (zQi D (tyl cI cZ) (hW cI cZ X S (if c_clK O V x0 = 0 then va_up O (ix x0) true else O) V) (l_thr (c_clK O V x0) (V 0 - S 13 (ix x0))) (va_A (hW cI cZ X S O V) sz)) 1 6 (va_A (hW cI cZ X S O V) sz) := by
  refine z_ofWH (cc := cL_calls) (maxL := 7) (ret := (some .int)) (by decide) rfl ?_
  intro p e s m args below meth c s₁ B hml hv
  obtain ⟨rfl, hsz, hP, hK, hD0, hZ, hY⟩ := hv
  have hx := B.exec
  have hb := B.bytes
  have hr := B.returns
  have hts := atoms_spec (ws := wsL_calls) B.pre
  have hown : s.vm.findClass RL = some m.cls := findClass_of_methodNamed B.named
  have hlocks := B.notSynchronized
  subst hsz
  have hD := hD0.self (sz := s.heap.size)
  generalize hAe : va_A (hW cI cZ X S O V) s.heap.size = A at hD hZ ⊢
  have hA : ∀ q : Nat, s.heap.size ≤ q → A q := fun q h => by rw [← hAe]; exact Or.inr h
  have hS : va_S A s.heap s.heap [] := va_S.rf
  have htab := vx_table (x := yL_calls) B (hts (.codeWith yL_calls cL_calls 7 (some .int) [(0, 68, 69, 27), (0, 68, 74, 29)]) List.mem_cons_self)
  have xl27 := hts (.classLink RL 27 "java/lang/IllegalArgumentException") (by decide +kernel)
  have xl29 := hts (.classLink RL 29 "java/lang/IllegalStateException") (by decide +kernel)
  have hl := lv_entry ([.ref (X 0), .int 2, .int x0, .int d0, .int d1, .int d2]) (n := 7) (Nat.le_of_ble_eq_true rfl)
  rw [lg_entry_eq]
  generalize (lg_sl ([.ref (X 0), .int 2, .int x0, .int d0, .int d1, .int d2]) ++ List.replicate (7 - (lg_sl ([.ref (X 0), .int 2, .int x0, .int d0, .int d1, .int d2])).length) Slot.unset).toArray = ls at hl ⊢
  have hl : lv_has ls 7 [(0, .ref (X 0)), (1, .int 2), (2, .int x0), (3, .int d0), (4, .int d1), (5, .int d2)] := hl
  refine lv_iload_n hx hb dL_calls_0 rfl (lv_at hl 1 rfl) ?_
  refine lv_if_ne (tgt := 32) hx hb dL_calls_1 (by decide) (fun _ => ?_) (fun q => absurd q (by decide))
  refine lv_iload_n hx hb dL_calls_32 rfl (lv_at hl 1 rfl) ?_
  refine lv_iconst (v := 1) hx hb dL_calls_33 rfl ?_
  refine lv_icmp_ne (tgt := 45) hx hb dL_calls_34 (by decide) (fun _ => ?_) (fun q => absurd q (by decide))
  refine lv_iload_n hx hb dL_calls_45 rfl (lv_at hl 1 rfl) ?_
  refine lv_iconst (v := 2) hx hb dL_calls_46 rfl ?_
  refine lv_icmp_ne (tgt := 58) hx hb dL_calls_47 (by decide) (fun q => absurd rfl q) (fun _ => ?_)
  refine lv_aload_n hx hb dL_calls_50 rfl (lv_at hl 0 rfl) ?_
  refine lv_iload_n hx hb dL_calls_51 rfl (lv_at hl 2 rfl) ?_
  have hFc := z_free hD hS hA
  refine vx_calli (vx_runV (As := [.int x0]) (rest := []) ⟨hx, hb, hml, hown, hts⟩ (kX4_close l hl0 D cI cZ X S O V _ x0 n0 hn0 hct) (cwV 1 hts gL_calls_X4_close rfl rfl rfl (by decide +kernel) ⟨Nat.le_of_ble_eq_true rfl, Nat.le_of_ble_eq_true rfl⟩) (zT_preV 0 4 hK hP hD (fun U hU hW => zX_narrow (zX_warm hW hU hZ) hFc) rfl rfl) rfl rfl hl.1 rfl (lv_room (Nat.le_of_ble_eq_true rfl)) dL_calls_52 ⟨Nat.le_of_ble_eq_true rfl, Nat.le_of_ble_eq_true rfl⟩) hS (fun q _ h => hFc q h) hFc (fun q _ h => hFc q h) (fun E ce q9 u t H1 locs1 ht hvm _ hBX hz1 hk1 hS1 hq9 hcv hcl => ?_) (fun r u t H1 locs1 ht hvm hw hB hz1 hk1 hS1 => ?_)
  · obtain ⟨hE, hP1, -, hD1⟩ := hBX
    rw [ht] at hP1
    have hP := hP1
    have hD := hD1.weaken (fun _ q _ h => hFc q.1 h)
    rcases hE with ⟨hk, rfl⟩ | ⟨hk, rfl⟩
    · exact absurd hk hno
    · refine vx_catch (own := RL) (name := "java/lang/IllegalStateException") hown [⟨0, 68, 69, 27⟩] ⟨0, 68, 74, 29⟩ [] (by rw [htab]; rfl) (fun z hz => by rw [List.mem_singleton.mp hz]; exact Or.inr ⟨by decide, _, xl27, hY⟩) (by decide) (by decide) xl29 (va_Nw.use rfl (hZ.2.2.1 _ (List.mem_of_getElem? (i := 1) rfl))) hq9 hcv hcl ?_
      refine lv_astore (lv' := [(6, .ref q9), (0, .ref (X 0)), (1, .int 2), (2, .int x0), (3, .int d0), (4, .int d1), (5, .int d2)]) hx hb dL_calls_74 hl (by decide) rfl (fun ls hl => ?_)
      refine lv_bipush (v := (-3)) hx hb dL_calls_76 (by decide) ?_
      have hne : ¬ (c_clK O V x0) = 0 := by rw [hk]; decide
      have eO : (if c_clK O V x0 = 0 then va_up O (ix x0) true else O) = O := if_neg hne
      exact z_wret hx hb hr hlocks (by rw [eO]; exact hP) hK (by rw [eO]; exact hD) hS1 (by rw [l_thr, hk]; rfl) dL_calls_78
  · obtain ⟨hk, hw⟩ := hw
    subst hw
    obtain ⟨hP1, -, hD1⟩ := hB
    rw [ht] at hP1
    have hP := hP1
    have hD := hD1.weaken (fun _ q _ h => hFc q.1 h)
    have hS := hS1
    have eO : (if c_clK O V x0 = 0 then va_up O (ix x0) true else O) = va_up O (ix x0) true := if_pos hk
    have eR : l_thr (c_clK O V x0) (V 0 - S 13 (ix x0)) = V 0 - S 13 (ix x0) := if_pos hk
    refine lv_goto (tgt := 68) hx hb dL_calls_55 (by decide) ?_
    exact z_wret hx hb hr hlocks (by rw [eO]; exact hP) hK (by rw [eO]; exact hD) hS eR.symm dL_calls_68

set_option maxHeartbeats 4000000 in
set_option maxRecDepth 100000 in
theorem kL_calls_3 (l : Launch) (hl0 : l.stackTraces = false) (D : va_G) (cI cZ : ClassId) (X : Nat → Nat) (S : Nat → Nat → Int32) (O : Nat → Bool) (V : Nat → Int32) (sz : Nat) (x0 : Int32) (x1 : Int32) (x2 : Int32) (x3 : Int32) : Met l yL_calls wsL_calls ({ frames := 7, cells := 1, slots := 6, locals := 136 } : Room) (zL D (tyl cI cZ) (hW cI cZ X S O V) sz [.ref (X 0), .int 3, .int x0, .int x1, .int x2, .int x3]) (zQi D (tyl cI cZ) (hW cI cZ X (if c_bgK S x0 x1 x2 x3 = 0 then va_up S 6 (upd (S 6) (ix x0 * 6 + ix x1) (V 0 + 60)) else S) O V) (l_thr (c_bgK S x0 x1 x2 x3) (V 0 + 60)) (va_A (hW cI cZ X S O V) sz)) 1 6 (va_A (hW cI cZ X S O V) sz) := by
  refine z_ofWH (cc := cL_calls) (maxL := 7) (ret := (some .int)) (by decide) rfl ?_
  intro p e s m args below meth c s₁ B hml hv
  obtain ⟨rfl, hsz, hP, hK, hD0, hZ, hY⟩ := hv
  have hx := B.exec
  have hb := B.bytes
  have hr := B.returns
  have hts := atoms_spec (ws := wsL_calls) B.pre
  have hown : s.vm.findClass RL = some m.cls := findClass_of_methodNamed B.named
  have hlocks := B.notSynchronized
  subst hsz
  have hD := hD0.self (sz := s.heap.size)
  generalize hAe : va_A (hW cI cZ X S O V) s.heap.size = A at hD hZ ⊢
  have hA : ∀ q : Nat, s.heap.size ≤ q → A q := fun q h => by rw [← hAe]; exact Or.inr h
  have hS : va_S A s.heap s.heap [] := va_S.rf
  have htab := vx_table (x := yL_calls) B (hts (.codeWith yL_calls cL_calls 7 (some .int) [(0, 68, 69, 27), (0, 68, 74, 29)]) List.mem_cons_self)
  have xl27 := hts (.classLink RL 27 "java/lang/IllegalArgumentException") (by decide +kernel)
  have xl29 := hts (.classLink RL 29 "java/lang/IllegalStateException") (by decide +kernel)
  have hl := lv_entry ([.ref (X 0), .int 3, .int x0, .int x1, .int x2, .int x3]) (n := 7) (Nat.le_of_ble_eq_true rfl)
  rw [lg_entry_eq]
  generalize (lg_sl ([.ref (X 0), .int 3, .int x0, .int x1, .int x2, .int x3]) ++ List.replicate (7 - (lg_sl ([.ref (X 0), .int 3, .int x0, .int x1, .int x2, .int x3])).length) Slot.unset).toArray = ls at hl ⊢
  have hl : lv_has ls 7 [(0, .ref (X 0)), (1, .int 3), (2, .int x0), (3, .int x1), (4, .int x2), (5, .int x3)] := hl
  refine lv_iload_n hx hb dL_calls_0 rfl (lv_at hl 1 rfl) ?_
  refine lv_if_ne (tgt := 32) hx hb dL_calls_1 (by decide) (fun _ => ?_) (fun q => absurd q (by decide))
  refine lv_iload_n hx hb dL_calls_32 rfl (lv_at hl 1 rfl) ?_
  refine lv_iconst (v := 1) hx hb dL_calls_33 rfl ?_
  refine lv_icmp_ne (tgt := 45) hx hb dL_calls_34 (by decide) (fun _ => ?_) (fun q => absurd q (by decide))
  refine lv_iload_n hx hb dL_calls_45 rfl (lv_at hl 1 rfl) ?_
  refine lv_iconst (v := 2) hx hb dL_calls_46 rfl ?_
  refine lv_icmp_ne (tgt := 58) hx hb dL_calls_47 (by decide) (fun _ => ?_) (fun q => absurd q (by decide))
  refine lv_aload_n hx hb dL_calls_58 rfl (lv_at hl 0 rfl) ?_
  refine lv_iload_n hx hb dL_calls_59 rfl (lv_at hl 2 rfl) ?_
  refine lv_iload_n hx hb dL_calls_60 rfl (lv_at hl 3 rfl) ?_
  refine lv_iload hx hb dL_calls_61 (lv_at hl 4 rfl) ?_
  refine lv_iload hx hb dL_calls_63 (lv_at hl 5 rfl) ?_
  have hFc := z_free hD hS hA
  refine vx_calli (vx_runV (As := [.int x0, .int x1, .int x2, .int x3]) (rest := []) ⟨hx, hb, hml, hown, hts⟩ (kX4_breakGlass l hl0 D cI cZ X S O V _ x0 x1 x2 x3) (cwV 4 hts gL_calls_X4_breakGlass rfl rfl rfl (by decide +kernel) ⟨Nat.le_of_ble_eq_true rfl, Nat.le_of_ble_eq_true rfl⟩) (zT_preV 0 4 hK hP hD (fun U hU hW => zX_narrow (zX_warm hW hU hZ) hFc) rfl rfl) rfl rfl hl.1 rfl (lv_room (Nat.le_of_ble_eq_true rfl)) dL_calls_65 ⟨Nat.le_of_ble_eq_true rfl, Nat.le_of_ble_eq_true rfl⟩) hS (fun q _ h => hFc q h) hFc (fun q _ h => hFc q h) (fun E ce q9 u t H1 locs1 ht hvm _ hBX hz1 hk1 hS1 hq9 hcv hcl => ?_) (fun r u t H1 locs1 ht hvm hw hB hz1 hk1 hS1 => ?_)
  · obtain ⟨hE, hP1, -, hD1⟩ := hBX
    rw [ht] at hP1
    have hP := hP1
    have hD := hD1.weaken (fun _ q _ h => hFc q.1 h)
    rcases hE with ⟨hk, rfl⟩ | ⟨hk, rfl⟩
    · refine vx_catch (own := RL) (name := "java/lang/IllegalArgumentException") hown [] ⟨0, 68, 69, 27⟩ [⟨0, 68, 74, 29⟩] (by rw [htab]; rfl) (fun z hz => nomatch hz) (by decide) (by decide) xl27 (va_Nw.use rfl (hZ.2.2.1 _ (List.mem_of_getElem? (i := 0) rfl))) hq9 hcv hcl ?_
      refine lv_astore (lv' := [(6, .ref q9), (0, .ref (X 0)), (1, .int 3), (2, .int x0), (3, .int x1), (4, .int x2), (5, .int x3)]) hx hb dL_calls_69 hl (by decide) rfl (fun ls hl => ?_)
      refine lv_bipush (v := (-2)) hx hb dL_calls_71 (by decide) ?_
      have hne : ¬ (c_bgK S x0 x1 x2 x3) = 0 := by rw [hk]; decide
      have eS : (if c_bgK S x0 x1 x2 x3 = 0 then va_up S 6 (upd (S 6) (ix x0 * 6 + ix x1) (V 0 + 60)) else S) = S := if_neg hne
      exact z_wret hx hb hr hlocks (by rw [eS]; exact hP) hK (by rw [eS]; exact hD) hS1 (by rw [l_thr, hk]; rfl) dL_calls_73
    · refine vx_catch (own := RL) (name := "java/lang/IllegalStateException") hown [⟨0, 68, 69, 27⟩] ⟨0, 68, 74, 29⟩ [] (by rw [htab]; rfl) (fun z hz => by rw [List.mem_singleton.mp hz]; exact Or.inr ⟨by decide, _, xl27, hY⟩) (by decide) (by decide) xl29 (va_Nw.use rfl (hZ.2.2.1 _ (List.mem_of_getElem? (i := 1) rfl))) hq9 hcv hcl ?_
      refine lv_astore (lv' := [(6, .ref q9), (0, .ref (X 0)), (1, .int 3), (2, .int x0), (3, .int x1), (4, .int x2), (5, .int x3)]) hx hb dL_calls_74 hl (by decide) rfl (fun ls hl => ?_)
      refine lv_bipush (v := (-3)) hx hb dL_calls_76 (by decide) ?_
      have hne : ¬ (c_bgK S x0 x1 x2 x3) = 0 := by rw [hk]; decide
      have eS : (if c_bgK S x0 x1 x2 x3 = 0 then va_up S 6 (upd (S 6) (ix x0 * 6 + ix x1) (V 0 + 60)) else S) = S := if_neg hne
      exact z_wret hx hb hr hlocks (by rw [eS]; exact hP) hK (by rw [eS]; exact hD) hS1 (by rw [l_thr, hk]; rfl) dL_calls_78
  · obtain ⟨hk, hw⟩ := hw
    subst hw
    obtain ⟨hP1, -, hD1⟩ := hB
    rw [ht] at hP1
    have hP := hP1
    have hD := hD1.weaken (fun _ q _ h => hFc q.1 h)
    have hS := hS1
    have eS : (if c_bgK S x0 x1 x2 x3 = 0 then va_up S 6 (upd (S 6) (ix x0 * 6 + ix x1) (V 0 + 60)) else S) = va_up S 6 (upd (S 6) (ix x0 * 6 + ix x1) (V 0 + 60)) := if_pos hk
    have eR : l_thr (c_bgK S x0 x1 x2 x3) (V 0 + 60) = V 0 + 60 := if_pos hk
    exact z_wret hx hb hr hlocks (by rw [eS]; exact hP) hK (by rw [eS]; exact hD) hS eR.symm dL_calls_68
