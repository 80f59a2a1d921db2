set_option maxHeartbeats 4000000 in
set_option maxRecDepth 100000 in
theorem kL_setPerson (l : Launch) (hl0 : l.stackTraces = false) (D : va_G) (cI cZ cJ : ClassId) (X : Nat → Nat) (S : Nat → Nat → Int32) (O : Nat → Bool) (V : Nat → Int32) (o : Nat) (g : Nat → Int64) (sz : Nat) (x0 : Int32) (x1 : Int32) (b0 : Bool) : Met l yL_setPerson wsL_setPerson ({ frames := 7, cells := 1, slots := 6, locals := 113 } : Room) (zL D (tyx cI cZ cJ) (oW cJ o g (hW cI cZ X S O V)) sz [.ref (X 0), .int x0, .int x1, .int (bi b0), .ref o]) (zQi D (tyx cI cZ cJ) (oW cJ o (if c_spK x0 x1 = 0 then vp_updL g 0 (if (hasB (S 7 (ix x1)) (nI (ix x0))) = true then 1 else 0) else g) (hW cI cZ X (if c_spK x0 x1 = 0 then va_up S 7 (upd (S 7) (ix x1) (c_changed (S 7 (ix x1)) (nI (ix x0)) b0)) else S) O V)) (c_spK x0 x1) (va_A (oW cJ o g (hW cI cZ X S O V)) sz)) 1 6 (va_A (oW cJ o g (hW cI cZ X S O V)) sz) := by
  refine z_ofWH (cc := cL_setPerson) (maxL := 6) (ret := (some .int)) (by decide) rfl ?_
  intro p e s m args below meth c s₁ B hml hv
  obtain ⟨rfl, hsz, hP, hK, hD0, hZ, hY⟩ := hv
  have hx := B.exec
  have hb := B.bytes
  have hr := B.returns
  have hts := atoms_spec (ws := wsL_setPerson) B.pre
  have hown : s.vm.findClass RL = some m.cls := findClass_of_methodNamed B.named
  have hlocks := B.notSynchronized
  subst hsz
  have hD := hD0.self (sz := s.heap.size)
  generalize hAe : va_A (oW cJ o g (hW cI cZ X S O V)) s.heap.size = A at hD hZ ⊢
  have hA : ∀ q : Nat, s.heap.size ≤ q → A q := fun q h => by rw [← hAe]; exact Or.inr h
  have hS : va_S A s.heap s.heap [] := va_S.rf
  have htab := vx_table (x := yL_setPerson) B (hts (.codeWith yL_setPerson cL_setPerson 6 (some .int) [(0, 19, 22, 13)]) List.mem_cons_self)
  have xl13 := hts (.classLink RL 13 "java/lang/IllegalArgumentException") (by decide +kernel)
  have hl := lv_entry ([.ref (X 0), .int x0, .int x1, .int (bi b0), .ref o]) (n := 6) (Nat.le_of_ble_eq_true rfl)
  rw [lg_entry_eq]
  generalize (lg_sl ([.ref (X 0), .int x0, .int x1, .int (bi b0), .ref o]) ++ List.replicate (6 - (lg_sl ([.ref (X 0), .int x0, .int x1, .int (bi b0), .ref o])).length) Slot.unset).toArray = ls at hl ⊢
  have hl : lv_has ls 6 [(0, .ref (X 0)), (1, .int x0), (2, .int x1), (3, .int (bi b0)), (4, .ref o)] := hl
  refine lv_aload hx hb dL_setPerson_0 (lv_at hl 4 rfl) ?_
  refine lv_iconst (v := nI 0) hx hb dL_setPerson_2 rfl ?_
  refine lv_aload_n hx hb dL_setPerson_3 rfl (lv_at hl 0 rfl) ?_
  refine lv_iload_n hx hb dL_setPerson_4 rfl (lv_at hl 1 rfl) ?_
  refine lv_iload_n hx hb dL_setPerson_5 rfl (lv_at hl 2 rfl) ?_
  refine lv_iload_n hx hb dL_setPerson_6 rfl (lv_at hl 3 rfl) ?_
  have hPc := hP.sub (ws' := hW cI cZ X S O V) [1, 2, 3, 4, 5, 6, 7, 8, 9, 10, 11, 12, 13, 14, 15, 16, 17, 18, 19] rfl
  have hDc := hD.sub (ws' := hW cI cZ X S O V) [1, 2, 3, 4, 5, 6, 7, 8, 9, 10, 11, 12, 13, 14, 15, 16, 17, 18, 19] (by decide) rfl
  have hKc : va_K D vwCl (tyl cI cZ) s := hK.sub [0, 1] rfl
  have hFc := va_free (wc := hW cI cZ X S O V) hD hS hA [1, 2, 3, 4, 5, 6, 7, 8, 9, 10, 11, 12, 13, 14, 15, 16, 17, 18, 19] rfl
  refine vx_calli (vx_runV (As := [.int x0, .int x1, .int (bi b0)]) (rest := [.int (nI 0), .ref o]) ⟨hx, hb, hml, hown, hts⟩ (kX4_setPerson l hl0 D cI cZ X S O V _ x0 x1 b0) (cwV 3 hts gL_setPerson_X4_setPerson rfl rfl rfl (by decide +kernel) ⟨Nat.le_of_ble_eq_true rfl, Nat.le_of_ble_eq_true rfl⟩) (zT_preV 0 4 hKc hPc hDc (fun U hU hW => zX_narrow (zX_warm hW hU hZ) hFc) rfl rfl) rfl rfl hl.1 rfl (lv_room (Nat.le_of_ble_eq_true rfl)) dL_setPerson_7 ⟨Nat.le_of_ble_eq_true rfl, Nat.le_of_ble_eq_true rfl⟩) hS (fun q _ h => hFc q h) hFc (fun q _ h => hFc q h) (fun E ce q9 u t H1 locs1 ht hvm _ hBX hz1 hk1 hS1 hq9 hcv hcl => ?_) (fun r u t H1 locs1 ht hvm hw hB hz1 hk1 hS1 => ?_)
  · obtain ⟨hE, hP1, -, hD1⟩ := hBX
    rw [ht] at hP1
    obtain ⟨hP, hD⟩ := va_join (wr := [(o, .inl (cJ, 1, .inr (.inl g)))]) (w1 := hW cI cZ X S O V) hP hD [1, 2, 3, 4, 5, 6, 7, 8, 9, 10, 11, 12, 13, 14, 15, 16, 17, 18, 19] [0] rfl rfl (by decide) (by decide) hk1 hFc hP1 hD1
    have hP : va_P D vwCl (oW cJ o g (hW cI cZ X S O V)) H1 := hP
    have hD : va_D A (oW cJ o g (hW cI cZ X S O V)) := hD
    obtain ⟨hk, rfl⟩ := hE
    refine vx_catch (own := RL) (name := "java/lang/IllegalArgumentException") hown [] ⟨0, 19, 22, 13⟩ [] (by rw [htab]; rfl) (fun z hz => nomatch hz) (by decide) (by decide) xl13 (va_Nw.use rfl (hZ.2.2.1 _ (List.mem_of_getElem? (i := 0) rfl))) hq9 hcv hcl ?_
    refine lv_astore (lv' := [(5, .ref q9), (0, .ref (X 0)), (1, .int x0), (2, .int x1), (3, .int (bi b0)), (4, .ref o)]) hx hb dL_setPerson_22 hl (by decide) rfl (fun ls hl => ?_)
    refine lv_iconst (v := 1) hx hb dL_setPerson_24 rfl ?_
    have hne : ¬ (c_spK x0 x1) = 0 := by rw [hk]; decide
    have eG : (if c_spK x0 x1 = 0 then vp_updL g 0 (if (hasB (S 7 (ix x1)) (nI (ix x0))) = true then 1 else 0) else g) = g := if_neg hne
    have eS : (if c_spK x0 x1 = 0 then va_up S 7 (upd (S 7) (ix x1) (c_changed (S 7 (ix x1)) (nI (ix x0)) b0)) else S) = S := if_neg hne
    exact z_wret hx hb hr hlocks (by rw [eG, eS]; exact hP) hK (by rw [eG, eS]; exact hD) hS1 hk.symm dL_setPerson_25
  · obtain ⟨hk, hw⟩ := hw
    subst hw
    obtain ⟨hP1, -, hD1⟩ := hB
    rw [ht] at hP1
    obtain ⟨hP, hD⟩ := va_join (wr := [(o, .inl (cJ, 1, .inr (.inl g)))]) (w1 := hW cI cZ X (va_up S 7 (upd (S 7) (ix x1) (c_changed (S 7 (ix x1)) (nI (ix x0)) b0))) O V) hP hD [1, 2, 3, 4, 5, 6, 7, 8, 9, 10, 11, 12, 13, 14, 15, 16, 17, 18, 19] [0] rfl rfl (by decide) (by decide) hk1 hFc hP1 hD1
    have hP : va_P D vwCl (oW cJ o g (hW cI cZ X (va_up S 7 (upd (S 7) (ix x1) (c_changed (S 7 (ix x1)) (nI (ix x0)) b0))) O V)) H1 := hP
    have hD : va_D A (oW cJ o g (hW cI cZ X (va_up S 7 (upd (S 7) (ix x1) (c_changed (S 7 (ix x1)) (nI (ix x0)) b0))) O V)) := hD
    have hS := hS1
    refine z_if_eq (tgt := 17) hx hb dL_setPerson_10 (by decide) (fun cb => ?_) (fun cb => ?_)
    · refine lv_lconst (v := 0) hx hb dL_setPerson_17 rfl ?_
      refine z_last (D := D) (j := 0) (x := 0) (f := g) hx hb hK hP hD hS 0 2 rfl rfl (by decide) (by decide) dL_setPerson_18 (fun H locs hP hD hS => ?_)
      have hP : va_P D vwCl (oW cJ o (vp_updL g 0 0) (hW cI cZ X (va_up S 7 (upd (S 7) (ix x1) (c_changed (S 7 (ix x1)) (nI (ix x0)) b0))) O V)) H := hP
      have hD : va_D A (oW cJ o (vp_updL g 0 0) (hW cI cZ X (va_up S 7 (upd (S 7) (ix x1) (c_changed (S 7 (ix x1)) (nI (ix x0)) b0))) O V)) := hD
      refine lv_goto (tgt := 26) hx hb dL_setPerson_19 (by decide) ?_
      refine lv_iconst (v := 0) hx hb dL_setPerson_26 rfl ?_
      have eG : (if c_spK x0 x1 = 0 then vp_updL g 0 (if (hasB (S 7 (ix x1)) (nI (ix x0))) = true then 1 else 0) else g) = vp_updL g 0 0 := by rw [if_pos hk, if_neg (by rw [cb]; decide)]
      have eS : (if c_spK x0 x1 = 0 then va_up S 7 (upd (S 7) (ix x1) (c_changed (S 7 (ix x1)) (nI (ix x0)) b0)) else S) = va_up S 7 (upd (S 7) (ix x1) (c_changed (S 7 (ix x1)) (nI (ix x0)) b0)) := if_pos hk
      exact z_wret hx hb hr hlocks (by rw [eG, eS]; exact hP) hK (by rw [eG, eS]; exact hD) hS hk.symm dL_setPerson_27
    · refine lv_lconst (v := 1) hx hb dL_setPerson_13 rfl ?_
      refine lv_goto (tgt := 18) hx hb dL_setPerson_14 (by decide) ?_
      refine z_last (D := D) (j := 0) (x := 1) (f := g) hx hb hK hP hD hS 0 2 rfl rfl (by decide) (by decide) dL_setPerson_18 (fun H locs hP hD hS => ?_)
      have hP : va_P D vwCl (oW cJ o (vp_updL g 0 1) (hW cI cZ X (va_up S 7 (upd (S 7) (ix x1) (c_changed (S 7 (ix x1)) (nI (ix x0)) b0))) O V)) H := hP
      have hD : va_D A (oW cJ o (vp_updL g 0 1) (hW cI cZ X (va_up S 7 (upd (S 7) (ix x1) (c_changed (S 7 (ix x1)) (nI (ix x0)) b0))) O V)) := hD
      refine lv_goto (tgt := 26) hx hb dL_setPerson_19 (by decide) ?_
      refine lv_iconst (v := 0) hx hb dL_setPerson_26 rfl ?_
      have eG : (if c_spK x0 x1 = 0 then vp_updL g 0 (if (hasB (S 7 (ix x1)) (nI (ix x0))) = true then 1 else 0) else g) = vp_updL g 0 1 := by rw [if_pos hk, if_pos cb]
      have eS : (if c_spK x0 x1 = 0 then va_up S 7 (upd (S 7) (ix x1) (c_changed (S 7 (ix x1)) (nI (ix x0)) b0)) else S) = va_up S 7 (upd (S 7) (ix x1) (c_changed (S 7 (ix x1)) (nI (ix x0)) b0)) := if_pos hk
      exact z_wret hx hb hr hlocks (by rw [eG, eS]; exact hP) hK (by rw [eG, eS]; exact hD) hS hk.symm dL_setPerson_27

set_option maxHeartbeats 4000000 in
set_option maxRecDepth 100000 in
theorem kL_setGroup (l : Launch) (hl0 : l.stackTraces = false) (D : va_G) (cI cZ cJ : ClassId) (X : Nat → Nat) (S : Nat → Nat → Int32) (O : Nat → Bool) (V : Nat → Int32) (o : Nat) (g : Nat → Int64) (sz : Nat) (x0 : Int32) (x1 : Int32) (b0 : Bool) : Met l yL_setGroup wsL_setGroup ({ frames := 7, cells := 1, slots := 6, locals := 113 } : Room) (zL D (tyx cI cZ cJ) (oW cJ o g (hW cI cZ X S O V)) sz [.ref (X 0), .int x0, .int x1, .int (bi b0), .ref o]) (zQi D (tyx cI cZ cJ) (oW cJ o (if c_sgK S x0 x1 b0 = 0 then vp_updL g 0 (if (hasB (S 8 (ix x1)) (nI (ix x0))) = true then 1 else 0) else g) (hW cI cZ X (if c_sgK S x0 x1 b0 = 0 then va_up S 8 (upd (S 8) (ix x1) (c_changed (S 8 (ix x1)) (nI (ix x0)) b0)) else S) O V)) (c_sgK S x0 x1 b0) (va_A (oW cJ o g (hW cI cZ X S O V)) sz)) 1 6 (va_A (oW cJ o g (hW cI cZ X S O V)) sz) := by
  refine z_ofWH (cc := cL_setGroup) (maxL := 6) (ret := (some .int)) (by decide) rfl ?_
  intro p e s m args below meth c s₁ B hml hv
  obtain ⟨rfl, hsz, hP, hK, hD0, hZ, hY⟩ := hv
  have hx := B.exec
  have hb := B.bytes
  have hr := B.returns
  have hts := atoms_spec (ws := wsL_setGroup) B.pre
  have hown : s.vm.findClass RL = some m.cls := findClass_of_methodNamed B.named
  have hlocks := B.notSynchronized
  subst hsz
  have hD := hD0.self (sz := s.heap.size)
  generalize hAe : va_A (oW cJ o g (hW cI cZ X S O V)) s.heap.size = A at hD hZ ⊢
  have hA : ∀ q : Nat, s.heap.size ≤ q → A q := fun q h => by rw [← hAe]; exact Or.inr h
  have hS : va_S A s.heap s.heap [] := va_S.rf
  have htab := vx_table (x := yL_setGroup) B (hts (.codeWith yL_setGroup cL_setGroup 6 (some .int) [(0, 19, 22, 13), (0, 19, 26, 18)]) List.mem_cons_self)
  have xl13 := hts (.classLink RL 13 "java/lang/IllegalArgumentException") (by decide +kernel)
  have xl18 := hts (.classLink RL 18 "java/lang/IllegalStateException") (by decide +kernel)
  have hl := lv_entry ([.ref (X 0), .int x0, .int x1, .int (bi b0), .ref o]) (n := 6) (Nat.le_of_ble_eq_true rfl)
  rw [lg_entry_eq]
  generalize (lg_sl ([.ref (X 0), .int x0, .int x1, .int (bi b0), .ref o]) ++ List.replicate (6 - (lg_sl ([.ref (X 0), .int x0, .int x1, .int (bi b0), .ref o])).length) Slot.unset).toArray = ls at hl ⊢
  have hl : lv_has ls 6 [(0, .ref (X 0)), (1, .int x0), (2, .int x1), (3, .int (bi b0)), (4, .ref o)] := hl
  refine lv_aload hx hb dL_setGroup_0 (lv_at hl 4 rfl) ?_
  refine lv_iconst (v := nI 0) hx hb dL_setGroup_2 rfl ?_
  refine lv_aload_n hx hb dL_setGroup_3 rfl (lv_at hl 0 rfl) ?_
  refine lv_iload_n hx hb dL_setGroup_4 rfl (lv_at hl 1 rfl) ?_
  refine lv_iload_n hx hb dL_setGroup_5 rfl (lv_at hl 2 rfl) ?_
  refine lv_iload_n hx hb dL_setGroup_6 rfl (lv_at hl 3 rfl) ?_
  have hPc := hP.sub (ws' := hW cI cZ X S O V) [1, 2, 3, 4, 5, 6, 7, 8, 9, 10, 11, 12, 13, 14, 15, 16, 17, 18, 19] rfl
  have hDc := hD.sub (ws' := hW cI cZ X S O V) [1, 2, 3, 4, 5, 6, 7, 8, 9, 10, 11, 12, 13, 14, 15, 16, 17, 18, 19] (by decide) rfl
  have hKc : va_K D vwCl (tyl cI cZ) s := hK.sub [0, 1] rfl
  have hFc := va_free (wc := hW cI cZ X S O V) hD hS hA [1, 2, 3, 4, 5, 6, 7, 8, 9, 10, 11, 12, 13, 14, 15, 16, 17, 18, 19] rfl
  refine vx_calli (vx_runV (As := [.int x0, .int x1, .int (bi b0)]) (rest := [.int (nI 0), .ref o]) ⟨hx, hb, hml, hown, hts⟩ (kX4_setGroup l hl0 D cI cZ X S O V _ x0 x1 b0) (cwV 3 hts gL_setGroup_X4_setGroup rfl rfl rfl (by decide +kernel) ⟨Nat.le_of_ble_eq_true rfl, Nat.le_of_ble_eq_true rfl⟩) (zT_preV 0 4 hKc hPc hDc (fun U hU hW => zX_narrow (zX_warm hW hU hZ) hFc) rfl rfl) rfl rfl hl.1 rfl (lv_room (Nat.le_of_ble_eq_true rfl)) dL_setGroup_7 ⟨Nat.le_of_ble_eq_true rfl, Nat.le_of_ble_eq_true rfl⟩) hS (fun q _ h => hFc q h) hFc (fun q _ h => hFc q h) (fun E ce q9 u t H1 locs1 ht hvm _ hBX hz1 hk1 hS1 hq9 hcv hcl => ?_) (fun r u t H1 locs1 ht hvm hw hB hz1 hk1 hS1 => ?_)
  · obtain ⟨hE, hP1, -, hD1⟩ := hBX
    rw [ht] at hP1
    obtain ⟨hP, hD⟩ := va_join (wr := [(o, .inl (cJ, 1, .inr (.inl g)))]) (w1 := hW cI cZ X S O V) hP hD [1, 2, 3, 4, 5, 6, 7, 8, 9, 10, 11, 12, 13, 14, 15, 16, 17, 18, 19] [0] rfl rfl (by decide) (by decide) hk1 hFc hP1 hD1
    have hP : va_P D vwCl (oW cJ o g (hW cI cZ X S O V)) H1 := hP
    have hD : va_D A (oW cJ o g (hW cI cZ X S O V)) := hD
    rcases hE with ⟨hk, rfl⟩ | ⟨hk, rfl⟩
    · refine vx_catch (own := RL) (name := "java/lang/IllegalArgumentException") hown [] ⟨0, 19, 22, 13⟩ [⟨0, 19, 26, 18⟩] (by rw [htab]; rfl) (fun z hz => nomatch hz) (by decide) (by decide) xl13 (va_Nw.use rfl (hZ.2.2.1 _ (List.mem_of_getElem? (i := 0) rfl))) hq9 hcv hcl ?_
      refine lv_astore (lv' := [(5, .ref q9), (0, .ref (X 0)), (1, .int x0), (2, .int x1), (3, .int (bi b0)), (4, .ref o)]) hx hb dL_setGroup_22 hl (by decide) rfl (fun ls hl => ?_)
      refine lv_iconst (v := 1) hx hb dL_setGroup_24 rfl ?_
      have hne : ¬ (c_sgK S x0 x1 b0) = 0 := by rw [hk]; decide
      have eG : (if c_sgK S x0 x1 b0 = 0 then vp_updL g 0 (if (hasB (S 8 (ix x1)) (nI (ix x0))) = true then 1 else 0) else g) = g := if_neg hne
      have eS : (if c_sgK S x0 x1 b0 = 0 then va_up S 8 (upd (S 8) (ix x1) (c_changed (S 8 (ix x1)) (nI (ix x0)) b0)) else S) = S := if_neg hne
      exact z_wret hx hb hr hlocks (by rw [eG, eS]; exact hP) hK (by rw [eG, eS]; exact hD) hS1 hk.symm dL_setGroup_25
    · refine vx_catch (own := RL) (name := "java/lang/IllegalStateException") hown [⟨0, 19, 22, 13⟩] ⟨0, 19, 26, 18⟩ [] (by rw [htab]; rfl) (fun z hz => by rw [List.mem_singleton.mp hz]; exact Or.inr ⟨by decide, _, xl13, hY.1⟩) (by decide) (by decide) xl18 (va_Nw.use rfl (hZ.2.2.1 _ (List.mem_of_getElem? (i := 1) rfl))) hq9 hcv hcl ?_
      refine lv_astore (lv' := [(5, .ref q9), (0, .ref (X 0)), (1, .int x0), (2, .int x1), (3, .int (bi b0)), (4, .ref o)]) hx hb dL_setGroup_26 hl (by decide) rfl (fun ls hl => ?_)
      refine lv_iconst (v := 2) hx hb dL_setGroup_28 rfl ?_
      have hne : ¬ (c_sgK S x0 x1 b0) = 0 := by rw [hk]; decide
      have eG : (if c_sgK S x0 x1 b0 = 0 then vp_updL g 0 (if (hasB (S 8 (ix x1)) (nI (ix x0))) = true then 1 else 0) else g) = g := if_neg hne
      have eS : (if c_sgK S x0 x1 b0 = 0 then va_up S 8 (upd (S 8) (ix x1) (c_changed (S 8 (ix x1)) (nI (ix x0)) b0)) else S) = S := if_neg hne
      exact z_wret hx hb hr hlocks (by rw [eG, eS]; exact hP) hK (by rw [eG, eS]; exact hD) hS1 hk.symm dL_setGroup_29
  · obtain ⟨hk, hw⟩ := hw
    subst hw
    obtain ⟨hP1, -, hD1⟩ := hB
    rw [ht] at hP1
    obtain ⟨hP, hD⟩ := va_join (wr := [(o, .inl (cJ, 1, .inr (.inl g)))]) (w1 := hW cI cZ X (va_up S 8 (upd (S 8) (ix x1) (c_changed (S 8 (ix x1)) (nI (ix x0)) b0))) O V) hP hD [1, 2, 3, 4, 5, 6, 7, 8, 9, 10, 11, 12, 13, 14, 15, 16, 17, 18, 19] [0] rfl rfl (by decide) (by decide) hk1 hFc hP1 hD1
    have hP : va_P D vwCl (oW cJ o g (hW cI cZ X (va_up S 8 (upd (S 8) (ix x1) (c_changed (S 8 (ix x1)) (nI (ix x0)) b0))) O V)) H1 := hP
    have hD : va_D A (oW cJ o g (hW cI cZ X (va_up S 8 (upd (S 8) (ix x1) (c_changed (S 8 (ix x1)) (nI (ix x0)) b0))) O V)) := hD
    have hS := hS1
    refine z_if_eq (tgt := 17) hx hb dL_setGroup_10 (by decide) (fun cb => ?_) (fun cb => ?_)
    · refine lv_lconst (v := 0) hx hb dL_setGroup_17 rfl ?_
      refine z_last (D := D) (j := 0) (x := 0) (f := g) hx hb hK hP hD hS 0 2 rfl rfl (by decide) (by decide) dL_setGroup_18 (fun H locs hP hD hS => ?_)
      have hP : va_P D vwCl (oW cJ o (vp_updL g 0 0) (hW cI cZ X (va_up S 8 (upd (S 8) (ix x1) (c_changed (S 8 (ix x1)) (nI (ix x0)) b0))) O V)) H := hP
      have hD : va_D A (oW cJ o (vp_updL g 0 0) (hW cI cZ X (va_up S 8 (upd (S 8) (ix x1) (c_changed (S 8 (ix x1)) (nI (ix x0)) b0))) O V)) := hD
      refine lv_goto (tgt := 30) hx hb dL_setGroup_19 (by decide) ?_
      refine lv_iconst (v := 0) hx hb dL_setGroup_30 rfl ?_
      have eG : (if c_sgK S x0 x1 b0 = 0 then vp_updL g 0 (if (hasB (S 8 (ix x1)) (nI (ix x0))) = true then 1 else 0) else g) = vp_updL g 0 0 := by rw [if_pos hk, if_neg (by rw [cb]; decide)]
      have eS : (if c_sgK S x0 x1 b0 = 0 then va_up S 8 (upd (S 8) (ix x1) (c_changed (S 8 (ix x1)) (nI (ix x0)) b0)) else S) = va_up S 8 (upd (S 8) (ix x1) (c_changed (S 8 (ix x1)) (nI (ix x0)) b0)) := if_pos hk
      exact z_wret hx hb hr hlocks (by rw [eG, eS]; exact hP) hK (by rw [eG, eS]; exact hD) hS hk.symm dL_setGroup_31
    · refine lv_lconst (v := 1) hx hb dL_setGroup_13 rfl ?_
      refine lv_goto (tgt := 18) hx hb dL_setGroup_14 (by decide) ?_
      refine z_last (D := D) (j := 0) (x := 1) (f := g) hx hb hK hP hD hS 0 2 rfl rfl (by decide) (by decide) dL_setGroup_18 (fun H locs hP hD hS => ?_)
      have hP : va_P D vwCl (oW cJ o (vp_updL g 0 1) (hW cI cZ X (va_up S 8 (upd (S 8) (ix x1) (c_changed (S 8 (ix x1)) (nI (ix x0)) b0))) O V)) H := hP
      have hD : va_D A (oW cJ o (vp_updL g 0 1) (hW cI cZ X (va_up S 8 (upd (S 8) (ix x1) (c_changed (S 8 (ix x1)) (nI (ix x0)) b0))) O V)) := hD
      refine lv_goto (tgt := 30) hx hb dL_setGroup_19 (by decide) ?_
      refine lv_iconst (v := 0) hx hb dL_setGroup_30 rfl ?_
      have eG : (if c_sgK S x0 x1 b0 = 0 then vp_updL g 0 (if (hasB (S 8 (ix x1)) (nI (ix x0))) = true then 1 else 0) else g) = vp_updL g 0 1 := by rw [if_pos hk, if_pos cb]
      have eS : (if c_sgK S x0 x1 b0 = 0 then va_up S 8 (upd (S 8) (ix x1) (c_changed (S 8 (ix x1)) (nI (ix x0)) b0)) else S) = va_up S 8 (upd (S 8) (ix x1) (c_changed (S 8 (ix x1)) (nI (ix x0)) b0)) := if_pos hk
      exact z_wret hx hb hr hlocks (by rw [eG, eS]; exact hP) hK (by rw [eG, eS]; exact hD) hS hk.symm dL_setGroup_31

set_option maxHeartbeats 4000000 in
set_option maxRecDepth 100000 in
theorem kL_setRole (l : Launch) (hl0 : l.stackTraces = false) (D : va_G) (cI cZ cJ : ClassId) (X : Nat → Nat) (S : Nat → Nat → Int32) (O : Nat → Bool) (V : Nat → Int32) (o : Nat) (g : Nat → Int64) (sz : Nat) (x0 : Int32) (x1 : Int32) (x2 : Int32) : Met l yL_setRole wsL_setRole ({ frames := 7, cells := 1, slots := 6, locals := 113 } : Room) (zL D (tyx cI cZ cJ) (oW cJ o g (hW cI cZ X S O V)) sz [.ref (X 0), .int x0, .int x1, .int x2, .ref o]) (zQi D (tyx cI cZ cJ) (oW cJ o (if c_srK x0 x1 x2 = 0 then vp_updL g 0 (c_roleOf S (ix x0) (ix x1)).toInt64 else g) (hW cI cZ X (if c_srK x0 x1 x2 = 0 then va_up (va_up S 9 (upd (S 9) (ix x1) (c_changed (S 9 (ix x1)) (nI (ix x0)) (decide (x2 = 1))))) 10 (upd (S 10) (ix x1) (c_changed (S 10 (ix x1)) (nI (ix x0)) (decide (x2 = 2)))) else S) O V)) (c_srK x0 x1 x2) (va_A (oW cJ o g (hW cI cZ X S O V)) sz)) 1 6 (va_A (oW cJ o g (hW cI cZ X S O V)) sz) := by
  refine z_ofWH (cc := cL_setRole) (maxL := 6) (ret := (some .int)) (by decide) rfl ?_
  intro p e s m args below meth c s₁ B hml hv
  obtain ⟨rfl, hsz, hP, hK, hD0, hZ, hY⟩ := hv
  have hx := B.exec
  have hb := B.bytes
  have hr := B.returns
  have hts := atoms_spec (ws := wsL_setRole) B.pre
  have hown : s.vm.findClass RL = some m.cls := findClass_of_methodNamed B.named
  have hlocks := B.notSynchronized
  subst hsz
  have hD := hD0.self (sz := s.heap.size)
  generalize hAe : va_A (oW cJ o g (hW cI cZ X S O V)) s.heap.size = A at hD hZ ⊢
  have hA : ∀ q : Nat, s.heap.size ≤ q → A q := fun q h => by rw [← hAe]; exact Or.inr h
  have hS : va_S A s.heap s.heap [] := va_S.rf
  have htab := vx_table (x := yL_setRole) B (hts (.codeWith yL_setRole cL_setRole 6 (some .int) [(0, 12, 15, 13)]) List.mem_cons_self)
  have xl13 := hts (.classLink RL 13 "java/lang/IllegalArgumentException") (by decide +kernel)
  have hl := lv_entry ([.ref (X 0), .int x0, .int x1, .int x2, .ref o]) (n := 6) (Nat.le_of_ble_eq_true rfl)
  rw [lg_entry_eq]
  generalize (lg_sl ([.ref (X 0), .int x0, .int x1, .int x2, .ref o]) ++ List.replicate (6 - (lg_sl ([.ref (X 0), .int x0, .int x1, .int x2, .ref o])).length) Slot.unset).toArray = ls at hl ⊢
  have hl : lv_has ls 6 [(0, .ref (X 0)), (1, .int x0), (2, .int x1), (3, .int x2), (4, .ref o)] := hl
  refine lv_aload hx hb dL_setRole_0 (lv_at hl 4 rfl) ?_
  refine lv_iconst (v := nI 0) hx hb dL_setRole_2 rfl ?_
  refine lv_aload_n hx hb dL_setRole_3 rfl (lv_at hl 0 rfl) ?_
  refine lv_iload_n hx hb dL_setRole_4 rfl (lv_at hl 1 rfl) ?_
  refine lv_iload_n hx hb dL_setRole_5 rfl (lv_at hl 2 rfl) ?_
  refine lv_iload_n hx hb dL_setRole_6 rfl (lv_at hl 3 rfl) ?_
  have hPc := hP.sub (ws' := hW cI cZ X S O V) [1, 2, 3, 4, 5, 6, 7, 8, 9, 10, 11, 12, 13, 14, 15, 16, 17, 18, 19] rfl
  have hDc := hD.sub (ws' := hW cI cZ X S O V) [1, 2, 3, 4, 5, 6, 7, 8, 9, 10, 11, 12, 13, 14, 15, 16, 17, 18, 19] (by decide) rfl
  have hKc : va_K D vwCl (tyl cI cZ) s := hK.sub [0, 1] rfl
  have hFc := va_free (wc := hW cI cZ X S O V) hD hS hA [1, 2, 3, 4, 5, 6, 7, 8, 9, 10, 11, 12, 13, 14, 15, 16, 17, 18, 19] rfl
  refine vx_calli (vx_runV (As := [.int x0, .int x1, .int x2]) (rest := [.int (nI 0), .ref o]) ⟨hx, hb, hml, hown, hts⟩ (kX4_setRole l hl0 D cI cZ X S O V _ x0 x1 x2) (cwV 3 hts gL_setRole_X4_setRole rfl rfl rfl (by decide +kernel) ⟨Nat.le_of_ble_eq_true rfl, Nat.le_of_ble_eq_true rfl⟩) (zT_preV 0 4 hKc hPc hDc (fun U hU hW => zX_narrow (zX_warm hW hU hZ) hFc) rfl rfl) rfl rfl hl.1 rfl (lv_room (Nat.le_of_ble_eq_true rfl)) dL_setRole_7 ⟨Nat.le_of_ble_eq_true rfl, Nat.le_of_ble_eq_true rfl⟩) hS (fun q _ h => hFc q h) hFc (fun q _ h => hFc q h) (fun E ce q9 u t H1 locs1 ht hvm _ hBX hz1 hk1 hS1 hq9 hcv hcl => ?_) (fun r u t H1 locs1 ht hvm hw hB hz1 hk1 hS1 => ?_)
  · obtain ⟨hE, hP1, -, hD1⟩ := hBX
    rw [ht] at hP1
    obtain ⟨hP, hD⟩ := va_join (wr := [(o, .inl (cJ, 1, .inr (.inl g)))]) (w1 := hW cI cZ X S O V) hP hD [1, 2, 3, 4, 5, 6, 7, 8, 9, 10, 11, 12, 13, 14, 15, 16, 17, 18, 19] [0] rfl rfl (by decide) (by decide) hk1 hFc hP1 hD1
    have hP : va_P D vwCl (oW cJ o g (hW cI cZ X S O V)) H1 := hP
    have hD : va_D A (oW cJ o g (hW cI cZ X S O V)) := hD
    obtain ⟨hk, rfl⟩ := hE
    refine vx_catch (own := RL) (name := "java/lang/IllegalArgumentException") hown [] ⟨0, 12, 15, 13⟩ [] (by rw [htab]; rfl) (fun z hz => nomatch hz) (by decide) (by decide) xl13 (va_Nw.use rfl (hZ.2.2.1 _ (List.mem_of_getElem? (i := 0) rfl))) hq9 hcv hcl ?_
    refine lv_astore (lv' := [(5, .ref q9), (0, .ref (X 0)), (1, .int x0), (2, .int x1), (3, .int x2), (4, .ref o)]) hx hb dL_setRole_15 hl (by decide) rfl (fun ls hl => ?_)
    refine lv_iconst (v := 1) hx hb dL_setRole_17 rfl ?_
    have hne : ¬ (c_srK x0 x1 x2) = 0 := by rw [hk]; decide
    have eG : (if c_srK x0 x1 x2 = 0 then vp_updL g 0 (c_roleOf S (ix x0) (ix x1)).toInt64 else g) = g := if_neg hne
    have eS : (if c_srK x0 x1 x2 = 0 then va_up (va_up S 9 (upd (S 9) (ix x1) (c_changed (S 9 (ix x1)) (nI (ix x0)) (decide (x2 = 1))))) 10 (upd (S 10) (ix x1) (c_changed (S 10 (ix x1)) (nI (ix x0)) (decide (x2 = 2)))) else S) = S := if_neg hne
    exact z_wret hx hb hr hlocks (by rw [eG, eS]; exact hP) hK (by rw [eG, eS]; exact hD) hS1 hk.symm dL_setRole_18
  · obtain ⟨hk, hw⟩ := hw
    subst hw
    obtain ⟨hP1, -, hD1⟩ := hB
    rw [ht] at hP1
    obtain ⟨hP, hD⟩ := va_join (wr := [(o, .inl (cJ, 1, .inr (.inl g)))]) (w1 := hW cI cZ X (va_up (va_up S 9 (upd (S 9) (ix x1) (c_changed (S 9 (ix x1)) (nI (ix x0)) (decide (x2 = 1))))) 10 (upd (S 10) (ix x1) (c_changed (S 10 (ix x1)) (nI (ix x0)) (decide (x2 = 2))))) O V) hP hD [1, 2, 3, 4, 5, 6, 7, 8, 9, 10, 11, 12, 13, 14, 15, 16, 17, 18, 19] [0] rfl rfl (by decide) (by decide) hk1 hFc hP1 hD1
    have hP : va_P D vwCl (oW cJ o g (hW cI cZ X (va_up (va_up S 9 (upd (S 9) (ix x1) (c_changed (S 9 (ix x1)) (nI (ix x0)) (decide (x2 = 1))))) 10 (upd (S 10) (ix x1) (c_changed (S 10 (ix x1)) (nI (ix x0)) (decide (x2 = 2))))) O V)) H1 := hP
    have hD : va_D A (oW cJ o g (hW cI cZ X (va_up (va_up S 9 (upd (S 9) (ix x1) (c_changed (S 9 (ix x1)) (nI (ix x0)) (decide (x2 = 1))))) 10 (upd (S 10) (ix x1) (c_changed (S 10 (ix x1)) (nI (ix x0)) (decide (x2 = 2))))) O V)) := hD
    have hS := hS1
    refine lv_i2l (v := (c_roleOf S (ix x0) (ix x1)).toInt64) hx hb dL_setRole_10 rfl ?_
    refine z_last (D := D) (j := 0) (x := (c_roleOf S (ix x0) (ix x1)).toInt64) (f := g) hx hb hK hP hD hS 0 2 rfl rfl (by decide) (by decide) dL_setRole_11 (fun H locs hP hD hS => ?_)
    have hP : va_P D vwCl (oW cJ o (vp_updL g 0 (c_roleOf S (ix x0) (ix x1)).toInt64) (hW cI cZ X (va_up (va_up S 9 (upd (S 9) (ix x1) (c_changed (S 9 (ix x1)) (nI (ix x0)) (decide (x2 = 1))))) 10 (upd (S 10) (ix x1) (c_changed (S 10 (ix x1)) (nI (ix x0)) (decide (x2 = 2))))) O V)) H := hP
    have hD : va_D A (oW cJ o (vp_updL g 0 (c_roleOf S (ix x0) (ix x1)).toInt64) (hW cI cZ X (va_up (va_up S 9 (upd (S 9) (ix x1) (c_changed (S 9 (ix x1)) (nI (ix x0)) (decide (x2 = 1))))) 10 (upd (S 10) (ix x1) (c_changed (S 10 (ix x1)) (nI (ix x0)) (decide (x2 = 2))))) O V)) := hD
    refine lv_goto (tgt := 19) hx hb dL_setRole_12 (by decide) ?_
    refine lv_iconst (v := 0) hx hb dL_setRole_19 rfl ?_
    have eG : (if c_srK x0 x1 x2 = 0 then vp_updL g 0 (c_roleOf S (ix x0) (ix x1)).toInt64 else g) = vp_updL g 0 (c_roleOf S (ix x0) (ix x1)).toInt64 := by rw [if_pos hk]
    have eS : (if c_srK x0 x1 x2 = 0 then va_up (va_up S 9 (upd (S 9) (ix x1) (c_changed (S 9 (ix x1)) (nI (ix x0)) (decide (x2 = 1))))) 10 (upd (S 10) (ix x1) (c_changed (S 10 (ix x1)) (nI (ix x0)) (decide (x2 = 2)))) else S) = va_up (va_up S 9 (upd (S 9) (ix x1) (c_changed (S 9 (ix x1)) (nI (ix x0)) (decide (x2 = 1))))) 10 (upd (S 10) (ix x1) (c_changed (S 10 (ix x1)) (nI (ix x0)) (decide (x2 = 2)))) := if_pos hk
    exact z_wret hx hb hr hlocks (by rw [eG, eS]; exact hP) hK (by rw [eG, eS]; exact hD) hS hk.symm dL_setRole_20

set_option maxHeartbeats 4000000 in
set_option maxRecDepth 100000 in
theorem kL_setRisk (l : Launch) (hl0 : l.stackTraces = false) (D : va_G) (cI cZ cJ : ClassId) (X : Nat → Nat) (S : Nat → Nat → Int32) (O : Nat → Bool) (V : Nat → Int32) (o : Nat) (g : Nat → Int64) (sz : Nat) (x0 : Int32) (x1 : Int32) (n0 : Nat) (hn0 : n0 ≤ 30) (hct : V 1 = nI n0) : Met l yL_setRisk wsL_setRisk ({ frames := 7, cells := 1, slots := 6, locals := 113 } : Room) (zL D (tyx cI cZ cJ) (oW cJ o g (hW cI cZ X S O V)) sz [.ref (X 0), .int x0, .int x1, .ref o]) (zQi D (tyx cI cZ cJ) (oW cJ o (if c_riK x0 x1 = 0 then vp_updL g 0 (if x1 ≤ S 5 (ix x0) then 0 else c_eaN (c_riS S x0 x1) O (nI (ix x0)) n0).toInt64 else g) (hW cI cZ X (if c_riK x0 x1 = 0 then c_riS S x0 x1 else S) (if c_riK x0 x1 = 0 then if x1 ≤ S 5 (ix x0) then O else c_eaO (c_riS S x0 x1) O (nI (ix x0)) n0 else O) V)) (c_riK x0 x1) (va_A (oW cJ o g (hW cI cZ X S O V)) sz)) 1 6 (va_A (oW cJ o g (hW cI cZ X S O V)) sz) := by
  refine z_ofWH (cc := cL_setRisk) (maxL := 5) (ret := (some .int)) (by decide) rfl ?_
  intro p e s m args below meth c s₁ B hml hv
  obtain ⟨rfl, hsz, hP, hK, hD0, hZ, hY⟩ := hv
  have hx := B.exec
  have hb := B.bytes
  have hr := B.returns
  have hts := atoms_spec (ws := wsL_setRisk) B.pre
  have hown : s.vm.findClass RL = some m.cls := findClass_of_methodNamed B.named
  have hlocks := B.notSynchronized
  subst hsz
  have hD := hD0.self (sz := s.heap.size)
  generalize hAe : va_A (oW cJ o g (hW cI cZ X S O V)) s.heap.size = A at hD hZ ⊢
  have hA : ∀ q : Nat, s.heap.size ≤ q → A q := fun q h => by rw [← hAe]; exact Or.inr h
  have hS : va_S A s.heap s.heap [] := va_S.rf
  have htab := vx_table (x := yL_setRisk) B (hts (.codeWith yL_setRisk cL_setRisk 5 (some .int) [(0, 10, 13, 13)]) List.mem_cons_self)
  have xl13 := hts (.classLink RL 13 "java/lang/IllegalArgumentException") (by decide +kernel)
  have hl := lv_entry ([.ref (X 0), .int x0, .int x1, .ref o]) (n := 5) (Nat.le_of_ble_eq_true rfl)
  rw [lg_entry_eq]
  generalize (lg_sl ([.ref (X 0), .int x0, .int x1, .ref o]) ++ List.replicate (5 - (lg_sl ([.ref (X 0), .int x0, .int x1, .ref o])).length) Slot.unset).toArray = ls at hl ⊢
  have hl : lv_has ls 5 [(0, .ref (X 0)), (1, .int x0), (2, .int x1), (3, .ref o)] := hl
  refine lv_aload_n hx hb dL_setRisk_0 rfl (lv_at hl 3 rfl) ?_
  refine lv_iconst (v := nI 0) hx hb dL_setRisk_1 rfl ?_
  refine lv_aload_n hx hb dL_setRisk_2 rfl (lv_at hl 0 rfl) ?_
  refine lv_iload_n hx hb dL_setRisk_3 rfl (lv_at hl 1 rfl) ?_
  refine lv_iload_n hx hb dL_setRisk_4 rfl (lv_at hl 2 rfl) ?_
  have hPc := hP.sub (ws' := hW cI cZ X S O V) [1, 2, 3, 4, 5, 6, 7, 8, 9, 10, 11, 12, 13, 14, 15, 16, 17, 18, 19] rfl
  have hDc := hD.sub (ws' := hW cI cZ X S O V) [1, 2, 3, 4, 5, 6, 7, 8, 9, 10, 11, 12, 13, 14, 15, 16, 17, 18, 19] (by decide) rfl
  have hKc : va_K D vwCl (tyl cI cZ) s := hK.sub [0, 1] rfl
  have hFc := va_free (wc := hW cI cZ X S O V) hD hS hA [1, 2, 3, 4, 5, 6, 7, 8, 9, 10, 11, 12, 13, 14, 15, 16, 17, 18, 19] rfl
  refine vx_calli (vx_runV (As := [.int x0, .int x1]) (rest := [.int (nI 0), .ref o]) ⟨hx, hb, hml, hown, hts⟩ (kX4_setRisk l hl0 D cI cZ X S O V _ x0 x1 n0 hn0 hct) (cwV 2 hts gL_setRisk_X4_setRisk rfl rfl rfl (by decide +kernel) ⟨Nat.le_of_ble_eq_true rfl, Nat.le_of_ble_eq_true rfl⟩) (zT_preV 0 4 hKc hPc hDc (fun U hU hW => zX_narrow (zX_warm hW hU hZ) hFc) rfl rfl) rfl rfl hl.1 rfl (lv_room (Nat.le_of_ble_eq_true rfl)) dL_setRisk_5 ⟨Nat.le_of_ble_eq_true rfl, Nat.le_of_ble_eq_true rfl⟩) hS (fun q _ h => hFc q h) hFc (fun q _ h => hFc q h) (fun E ce q9 u t H1 locs1 ht hvm _ hBX hz1 hk1 hS1 hq9 hcv hcl => ?_) (fun r u t H1 locs1 ht hvm hw hB hz1 hk1 hS1 => ?_)
  · obtain ⟨hE, hP1, -, hD1⟩ := hBX
    rw [ht] at hP1
    obtain ⟨hP, hD⟩ := va_join (wr := [(o, .inl (cJ, 1, .inr (.inl g)))]) (w1 := hW cI cZ X S O V) hP hD [1, 2, 3, 4, 5, 6, 7, 8, 9, 10, 11, 12, 13, 14, 15, 16, 17, 18, 19] [0] rfl rfl (by decide) (by decide) hk1 hFc hP1 hD1
    have hP : va_P D vwCl (oW cJ o g (hW cI cZ X S O V)) H1 := hP
    have hD : va_D A (oW cJ o g (hW cI cZ X S O V)) := hD
    obtain ⟨hk, rfl⟩ := hE
    refine vx_catch (own := RL) (name := "java/lang/IllegalArgumentException") hown [] ⟨0, 10, 13, 13⟩ [] (by rw [htab]; rfl) (fun z hz => nomatch hz) (by decide) (by decide) xl13 (va_Nw.use rfl (hZ.2.2.1 _ (List.mem_of_getElem? (i := 0) rfl))) hq9 hcv hcl ?_
    refine lv_astore (lv' := [(4, .ref q9), (0, .ref (X 0)), (1, .int x0), (2, .int x1), (3, .ref o)]) hx hb dL_setRisk_13 hl (by decide) rfl (fun ls hl => ?_)
    refine lv_iconst (v := 1) hx hb dL_setRisk_15 rfl ?_
    have hne : ¬ (c_riK x0 x1) = 0 := by rw [hk]; decide
    have eG : (if c_riK x0 x1 = 0 then vp_updL g 0 (if x1 ≤ S 5 (ix x0) then 0 else c_eaN (c_riS S x0 x1) O (nI (ix x0)) n0).toInt64 else g) = g := if_neg hne
    have eS : (if c_riK x0 x1 = 0 then c_riS S x0 x1 else S) = S := if_neg hne
    have eO : (if c_riK x0 x1 = 0 then if x1 ≤ S 5 (ix x0) then O else c_eaO (c_riS S x0 x1) O (nI (ix x0)) n0 else O) = O := if_neg hne
    exact z_wret hx hb hr hlocks (by rw [eG, eS, eO]; exact hP) hK (by rw [eG, eS, eO]; exact hD) hS1 hk.symm dL_setRisk_16
  · obtain ⟨hk, hw⟩ := hw
    subst hw
    obtain ⟨hP1, -, hD1⟩ := hB
    rw [ht] at hP1
    obtain ⟨hP, hD⟩ := va_join (wr := [(o, .inl (cJ, 1, .inr (.inl g)))]) (w1 := hW cI cZ X (c_riS S x0 x1) (if x1 ≤ S 5 (ix x0) then O else c_eaO (c_riS S x0 x1) O (nI (ix x0)) n0) V) hP hD [1, 2, 3, 4, 5, 6, 7, 8, 9, 10, 11, 12, 13, 14, 15, 16, 17, 18, 19] [0] rfl rfl (by decide) (by decide) hk1 hFc hP1 hD1
    have hP : va_P D vwCl (oW cJ o g (hW cI cZ X (c_riS S x0 x1) (if x1 ≤ S 5 (ix x0) then O else c_eaO (c_riS S x0 x1) O (nI (ix x0)) n0) V)) H1 := hP
    have hD : va_D A (oW cJ o g (hW cI cZ X (c_riS S x0 x1) (if x1 ≤ S 5 (ix x0) then O else c_eaO (c_riS S x0 x1) O (nI (ix x0)) n0) V)) := hD
    have hS := hS1
    refine lv_i2l (v := (if x1 ≤ S 5 (ix x0) then 0 else c_eaN (c_riS S x0 x1) O (nI (ix x0)) n0).toInt64) hx hb dL_setRisk_8 rfl ?_
    refine z_last (D := D) (j := 0) (x := (if x1 ≤ S 5 (ix x0) then 0 else c_eaN (c_riS S x0 x1) O (nI (ix x0)) n0).toInt64) (f := g) hx hb hK hP hD hS 0 2 rfl rfl (by decide) (by decide) dL_setRisk_9 (fun H locs hP hD hS => ?_)
    have hP : va_P D vwCl (oW cJ o (vp_updL g 0 (if x1 ≤ S 5 (ix x0) then 0 else c_eaN (c_riS S x0 x1) O (nI (ix x0)) n0).toInt64) (hW cI cZ X (c_riS S x0 x1) (if x1 ≤ S 5 (ix x0) then O else c_eaO (c_riS S x0 x1) O (nI (ix x0)) n0) V)) H := hP
    have hD : va_D A (oW cJ o (vp_updL g 0 (if x1 ≤ S 5 (ix x0) then 0 else c_eaN (c_riS S x0 x1) O (nI (ix x0)) n0).toInt64) (hW cI cZ X (c_riS S x0 x1) (if x1 ≤ S 5 (ix x0) then O else c_eaO (c_riS S x0 x1) O (nI (ix x0)) n0) V)) := hD
    refine lv_goto (tgt := 17) hx hb dL_setRisk_10 (by decide) ?_
    refine lv_iconst (v := 0) hx hb dL_setRisk_17 rfl ?_
    have eG : (if c_riK x0 x1 = 0 then vp_updL g 0 (if x1 ≤ S 5 (ix x0) then 0 else c_eaN (c_riS S x0 x1) O (nI (ix x0)) n0).toInt64 else g) = vp_updL g 0 (if x1 ≤ S 5 (ix x0) then 0 else c_eaN (c_riS S x0 x1) O (nI (ix x0)) n0).toInt64 := by rw [if_pos hk]
    have eS : (if c_riK x0 x1 = 0 then c_riS S x0 x1 else S) = c_riS S x0 x1 := if_pos hk
    have eO : (if c_riK x0 x1 = 0 then if x1 ≤ S 5 (ix x0) then O else c_eaO (c_riS S x0 x1) O (nI (ix x0)) n0 else O) = if x1 ≤ S 5 (ix x0) then O else c_eaO (c_riS S x0 x1) O (nI (ix x0)) n0 := if_pos hk
    exact z_wret hx hb hr hlocks (by rw [eG, eS, eO]; exact hP) hK (by rw [eG, eS, eO]; exact hD) hS hk.symm dL_setRisk_18

set_option maxHeartbeats 4000000 in
set_option maxRecDepth 100000 in
theorem kL_isIn (l : Launch) (hl0 : l.stackTraces = false) (D : va_G) (cI cZ cJ : ClassId) (X : Nat → Nat) (S : Nat → Nat → Int32) (O : Nat → Bool) (V : Nat → Int32) (o : Nat) (g : Nat → Int64) (sz : Nat) (x0 : Int32) (x1 : Int32) : Met l yL_isIn wsL_isIn ({ frames := 7, cells := 1, slots := 6, locals := 112 } : Room) (zL D (tyx cI cZ cJ) (oW cJ o g (hW cI cZ X S O V)) sz [.ref (X 0), .int x0, .int x1, .ref o]) (zQi D (tyx cI cZ cJ) (oW cJ o (if c_spK x0 x1 = 0 then vp_updL g 0 (if (hasB (c_allA S (S 7 (ix x1)) 8) (nI (ix x0))) = true then 1 else 0) else g) (hW cI cZ X S O V)) (c_spK x0 x1) (va_A (oW cJ o g (hW cI cZ X S O V)) sz)) 1 6 (va_A (oW cJ o g (hW cI cZ X S O V)) sz) := by
  refine z_ofWH (cc := cL_isIn) (maxL := 5) (ret := (some .int)) (by decide) rfl ?_
  intro p e s m args below meth c s₁ B hml hv
  obtain ⟨rfl, hsz, hP, hK, hD0, hZ, hY⟩ := hv
  have hx := B.exec
  have hb := B.bytes
  have hr := B.returns
  have hts := atoms_spec (ws := wsL_isIn) B.pre
  have hown : s.vm.findClass RL = some m.cls := findClass_of_methodNamed B.named
  have hlocks := B.notSynchronized
  subst hsz
  have hD := hD0.self (sz := s.heap.size)
  generalize hAe : va_A (oW cJ o g (hW cI cZ X S O V)) s.heap.size = A at hD hZ ⊢
  have hA : ∀ q : Nat, s.heap.size ≤ q → A q := fun q h => by rw [← hAe]; exact Or.inr h
  have hS : va_S A s.heap s.heap [] := va_S.rf
  have htab := vx_table (x := yL_isIn) B (hts (.codeWith yL_isIn cL_isIn 5 (some .int) [(0, 17, 20, 13)]) List.mem_cons_self)
  have xl13 := hts (.classLink RL 13 "java/lang/IllegalArgumentException") (by decide +kernel)
  have hl := lv_entry ([.ref (X 0), .int x0, .int x1, .ref o]) (n := 5) (Nat.le_of_ble_eq_true rfl)
  rw [lg_entry_eq]
  generalize (lg_sl ([.ref (X 0), .int x0, .int x1, .ref o]) ++ List.replicate (5 - (lg_sl ([.ref (X 0), .int x0, .int x1, .ref o])).length) Slot.unset).toArray = ls at hl ⊢
  have hl : lv_has ls 5 [(0, .ref (X 0)), (1, .int x0), (2, .int x1), (3, .ref o)] := hl
  refine lv_aload_n hx hb dL_isIn_0 rfl (lv_at hl 3 rfl) ?_
  refine lv_iconst (v := nI 0) hx hb dL_isIn_1 rfl ?_
  refine lv_aload_n hx hb dL_isIn_2 rfl (lv_at hl 0 rfl) ?_
  refine lv_iload_n hx hb dL_isIn_3 rfl (lv_at hl 1 rfl) ?_
  refine lv_iload_n hx hb dL_isIn_4 rfl (lv_at hl 2 rfl) ?_
  have hPc := hP.sub (ws' := hW cI cZ X S O V) [1, 2, 3, 4, 5, 6, 7, 8, 9, 10, 11, 12, 13, 14, 15, 16, 17, 18, 19] rfl
  have hDc := hD.sub (ws' := hW cI cZ X S O V) [1, 2, 3, 4, 5, 6, 7, 8, 9, 10, 11, 12, 13, 14, 15, 16, 17, 18, 19] (by decide) rfl
  have hKc : va_K D vwCl (tyl cI cZ) s := hK.sub [0, 1] rfl
  have hFc := va_free (wc := hW cI cZ X S O V) hD hS hA [1, 2, 3, 4, 5, 6, 7, 8, 9, 10, 11, 12, 13, 14, 15, 16, 17, 18, 19] rfl
  refine vx_calli (vx_runV (As := [.int x0, .int x1]) (rest := [.int (nI 0), .ref o]) ⟨hx, hb, hml, hown, hts⟩ (kX4_isIn l hl0 D cI cZ X S O V _ x0 x1) (cwV 2 hts gL_isIn_X4_isIn rfl rfl rfl (by decide +kernel) ⟨Nat.le_of_ble_eq_true rfl, Nat.le_of_ble_eq_true rfl⟩) (zT_preV 0 4 hKc hPc hDc (fun U hU hW => zX_narrow (zX_warm hW hU hZ) hFc) rfl rfl) rfl rfl hl.1 rfl (lv_room (Nat.le_of_ble_eq_true rfl)) dL_isIn_5 ⟨Nat.le_of_ble_eq_true rfl, Nat.le_of_ble_eq_true rfl⟩) hS (fun q _ h => hFc q h) hFc (fun q _ h => hFc q h) (fun E ce q9 u t H1 locs1 ht hvm _ hBX hz1 hk1 hS1 hq9 hcv hcl => ?_) (fun r u t H1 locs1 ht hvm hw hB hz1 hk1 hS1 => ?_)
  · obtain ⟨hE, hP1, -, hD1⟩ := hBX
    rw [ht] at hP1
    obtain ⟨hP, hD⟩ := va_join (wr := [(o, .inl (cJ, 1, .inr (.inl g)))]) (w1 := hW cI cZ X S O V) hP hD [1, 2, 3, 4, 5, 6, 7, 8, 9, 10, 11, 12, 13, 14, 15, 16, 17, 18, 19] [0] rfl rfl (by decide) (by decide) hk1 hFc hP1 hD1
    have hP : va_P D vwCl (oW cJ o g (hW cI cZ X S O V)) H1 := hP
    have hD : va_D A (oW cJ o g (hW cI cZ X S O V)) := hD
    obtain ⟨hk, rfl⟩ := hE
    refine vx_catch (own := RL) (name := "java/lang/IllegalArgumentException") hown [] ⟨0, 17, 20, 13⟩ [] (by rw [htab]; rfl) (fun z hz => nomatch hz) (by decide) (by decide) xl13 (va_Nw.use rfl (hZ.2.2.1 _ (List.mem_of_getElem? (i := 0) rfl))) hq9 hcv hcl ?_
    refine lv_astore (lv' := [(4, .ref q9), (0, .ref (X 0)), (1, .int x0), (2, .int x1), (3, .ref o)]) hx hb dL_isIn_20 hl (by decide) rfl (fun ls hl => ?_)
    refine lv_iconst (v := 1) hx hb dL_isIn_22 rfl ?_
    have hne : ¬ (c_spK x0 x1) = 0 := by rw [hk]; decide
    have eG : (if c_spK x0 x1 = 0 then vp_updL g 0 (if (hasB (c_allA S (S 7 (ix x1)) 8) (nI (ix x0))) = true then 1 else 0) else g) = g := if_neg hne
    exact z_wret hx hb hr hlocks (by rw [eG]; exact hP) hK (by rw [eG]; exact hD) hS1 hk.symm dL_isIn_23
  · obtain ⟨hk, hw⟩ := hw
    subst hw
    obtain ⟨hP1, -, hD1⟩ := hB
    rw [ht] at hP1
    obtain ⟨hP, hD⟩ := va_join (wr := [(o, .inl (cJ, 1, .inr (.inl g)))]) (w1 := hW cI cZ X S O V) hP hD [1, 2, 3, 4, 5, 6, 7, 8, 9, 10, 11, 12, 13, 14, 15, 16, 17, 18, 19] [0] rfl rfl (by decide) (by decide) hk1 hFc hP1 hD1
    have hP : va_P D vwCl (oW cJ o g (hW cI cZ X S O V)) H1 := hP
    have hD : va_D A (oW cJ o g (hW cI cZ X S O V)) := hD
    have hS := hS1
    refine z_if_eq (tgt := 15) hx hb dL_isIn_8 (by decide) (fun cb => ?_) (fun cb => ?_)
    · refine lv_lconst (v := 0) hx hb dL_isIn_15 rfl ?_
      refine z_last (D := D) (j := 0) (x := 0) (f := g) hx hb hK hP hD hS 0 2 rfl rfl (by decide) (by decide) dL_isIn_16 (fun H locs hP hD hS => ?_)
      have hP : va_P D vwCl (oW cJ o (vp_updL g 0 0) (hW cI cZ X S O V)) H := hP
      have hD : va_D A (oW cJ o (vp_updL g 0 0) (hW cI cZ X S O V)) := hD
      refine lv_goto (tgt := 24) hx hb dL_isIn_17 (by decide) ?_
      refine lv_iconst (v := 0) hx hb dL_isIn_24 rfl ?_
      have eG : (if c_spK x0 x1 = 0 then vp_updL g 0 (if (hasB (c_allA S (S 7 (ix x1)) 8) (nI (ix x0))) = true then 1 else 0) else g) = vp_updL g 0 0 := by rw [if_pos hk, if_neg (by rw [cb]; decide)]
      exact z_wret hx hb hr hlocks (by rw [eG]; exact hP) hK (by rw [eG]; exact hD) hS hk.symm dL_isIn_25
    · refine lv_lconst (v := 1) hx hb dL_isIn_11 rfl ?_
      refine lv_goto (tgt := 16) hx hb dL_isIn_12 (by decide) ?_
      refine z_last (D := D) (j := 0) (x := 1) (f := g) hx hb hK hP hD hS 0 2 rfl rfl (by decide) (by decide) dL_isIn_16 (fun H locs hP hD hS => ?_)
      have hP : va_P D vwCl (oW cJ o (vp_updL g 0 1) (hW cI cZ X S O V)) H := hP
      have hD : va_D A (oW cJ o (vp_updL g 0 1) (hW cI cZ X S O V)) := hD
      refine lv_goto (tgt := 24) hx hb dL_isIn_17 (by decide) ?_
      refine lv_iconst (v := 0) hx hb dL_isIn_24 rfl ?_
      have eG : (if c_spK x0 x1 = 0 then vp_updL g 0 (if (hasB (c_allA S (S 7 (ix x1)) 8) (nI (ix x0))) = true then 1 else 0) else g) = vp_updL g 0 1 := by rw [if_pos hk, if_pos cb]
      exact z_wret hx hb hr hlocks (by rw [eG]; exact hP) hK (by rw [eG]; exact hD) hS hk.symm dL_isIn_25

set_option maxHeartbeats 4000000 in
set_option maxRecDepth 100000 in
theorem kL_allows (l : Launch) (hl0 : l.stackTraces = false) (D : va_G) (cI cZ cJ : ClassId) (X : Nat → Nat) (S : Nat → Nat → Int32) (O : Nat → Bool) (V : Nat → Int32) (o : Nat) (g : Nat → Int64) (sz : Nat) (x0 : Int32) (x1 : Int32) : Met l yL_allows wsL_allows ({ frames := 7, cells := 1, slots := 6, locals := 134 } : Room) (zL D (tyx cI cZ cJ) (oW cJ o g (hW cI cZ X S O V)) sz [.ref (X 0), .int x0, .int x1, .ref o]) (zQi D (tyx cI cZ cJ) (oW cJ o (if c_alK x0 x1 = 0 then vp_updL g 0 (if (decide (c_house S V (ix x0) (ix x1) = 0)) = true then 1 else 0) else g) (hW cI cZ X S O V)) (c_alK x0 x1) (va_A (oW cJ o g (hW cI cZ X S O V)) sz)) 1 6 (va_A (oW cJ o g (hW cI cZ X S O V)) sz) := by
  refine z_ofWH (cc := cL_allows) (maxL := 5) (ret := (some .int)) (by decide) rfl ?_
  intro p e s m args below meth c s₁ B hml hv
  obtain ⟨rfl, hsz, hP, hK, hD0, hZ, hY⟩ := hv
  have hx := B.exec
  have hb := B.bytes
  have hr := B.returns
  have hts := atoms_spec (ws := wsL_allows) B.pre
  have hown : s.vm.findClass RL = some m.cls := findClass_of_methodNamed B.named
  have hlocks := B.notSynchronized
  subst hsz
  have hD := hD0.self (sz := s.heap.size)
  generalize hAe : va_A (oW cJ o g (hW cI cZ X S O V)) s.heap.size = A at hD hZ ⊢
  have hA : ∀ q : Nat, s.heap.size ≤ q → A q := fun q h => by rw [← hAe]; exact Or.inr h
  have hS : va_S A s.heap s.heap [] := va_S.rf
  have htab := vx_table (x := yL_allows) B (hts (.codeWith yL_allows cL_allows 5 (some .int) [(0, 17, 20, 13)]) List.mem_cons_self)
  have xl13 := hts (.classLink RL 13 "java/lang/IllegalArgumentException") (by decide +kernel)
  have hl := lv_entry ([.ref (X 0), .int x0, .int x1, .ref o]) (n := 5) (Nat.le_of_ble_eq_true rfl)
  rw [lg_entry_eq]
  generalize (lg_sl ([.ref (X 0), .int x0, .int x1, .ref o]) ++ List.replicate (5 - (lg_sl ([.ref (X 0), .int x0, .int x1, .ref o])).length) Slot.unset).toArray = ls at hl ⊢
  have hl : lv_has ls 5 [(0, .ref (X 0)), (1, .int x0), (2, .int x1), (3, .ref o)] := hl
  refine lv_aload_n hx hb dL_allows_0 rfl (lv_at hl 3 rfl) ?_
  refine lv_iconst (v := nI 0) hx hb dL_allows_1 rfl ?_
  refine lv_aload_n hx hb dL_allows_2 rfl (lv_at hl 0 rfl) ?_
  refine lv_iload_n hx hb dL_allows_3 rfl (lv_at hl 1 rfl) ?_
  refine lv_iload_n hx hb dL_allows_4 rfl (lv_at hl 2 rfl) ?_
  have hPc := hP.sub (ws' := hW cI cZ X S O V) [1, 2, 3, 4, 5, 6, 7, 8, 9, 10, 11, 12, 13, 14, 15, 16, 17, 18, 19] rfl
  have hDc := hD.sub (ws' := hW cI cZ X S O V) [1, 2, 3, 4, 5, 6, 7, 8, 9, 10, 11, 12, 13, 14, 15, 16, 17, 18, 19] (by decide) rfl
  have hKc : va_K D vwCl (tyl cI cZ) s := hK.sub [0, 1] rfl
  have hFc := va_free (wc := hW cI cZ X S O V) hD hS hA [1, 2, 3, 4, 5, 6, 7, 8, 9, 10, 11, 12, 13, 14, 15, 16, 17, 18, 19] rfl
  refine vx_calli (vx_runV (As := [.int x0, .int x1]) (rest := [.int (nI 0), .ref o]) ⟨hx, hb, hml, hown, hts⟩ (kX4_allows l hl0 D cI cZ X S O V _ x0 x1) (cwV 2 hts gL_allows_X4_allows rfl rfl rfl (by decide +kernel) ⟨Nat.le_of_ble_eq_true rfl, Nat.le_of_ble_eq_true rfl⟩) (zT_preV 0 4 hKc hPc hDc (fun U hU hW => zX_narrow (zX_warm hW hU hZ) hFc) rfl rfl) rfl rfl hl.1 rfl (lv_room (Nat.le_of_ble_eq_true rfl)) dL_allows_5 ⟨Nat.le_of_ble_eq_true rfl, Nat.le_of_ble_eq_true rfl⟩) hS (fun q _ h => hFc q h) hFc (fun q _ h => hFc q h) (fun E ce q9 u t H1 locs1 ht hvm _ hBX hz1 hk1 hS1 hq9 hcv hcl => ?_) (fun r u t H1 locs1 ht hvm hw hB hz1 hk1 hS1 => ?_)
  · obtain ⟨hE, hP1, -, hD1⟩ := hBX
    rw [ht] at hP1
    obtain ⟨hP, hD⟩ := va_join (wr := [(o, .inl (cJ, 1, .inr (.inl g)))]) (w1 := hW cI cZ X S O V) hP hD [1, 2, 3, 4, 5, 6, 7, 8, 9, 10, 11, 12, 13, 14, 15, 16, 17, 18, 19] [0] rfl rfl (by decide) (by decide) hk1 hFc hP1 hD1
    have hP : va_P D vwCl (oW cJ o g (hW cI cZ X S O V)) H1 := hP
    have hD : va_D A (oW cJ o g (hW cI cZ X S O V)) := hD
    obtain ⟨hk, rfl⟩ := hE
    refine vx_catch (own := RL) (name := "java/lang/IllegalArgumentException") hown [] ⟨0, 17, 20, 13⟩ [] (by rw [htab]; rfl) (fun z hz => nomatch hz) (by decide) (by decide) xl13 (va_Nw.use rfl (hZ.2.2.1 _ (List.mem_of_getElem? (i := 0) rfl))) hq9 hcv hcl ?_
    refine lv_astore (lv' := [(4, .ref q9), (0, .ref (X 0)), (1, .int x0), (2, .int x1), (3, .ref o)]) hx hb dL_allows_20 hl (by decide) rfl (fun ls hl => ?_)
    refine lv_iconst (v := 1) hx hb dL_allows_22 rfl ?_
    have hne : ¬ (c_alK x0 x1) = 0 := by rw [hk]; decide
    have eG : (if c_alK x0 x1 = 0 then vp_updL g 0 (if (decide (c_house S V (ix x0) (ix x1) = 0)) = true then 1 else 0) else g) = g := if_neg hne
    exact z_wret hx hb hr hlocks (by rw [eG]; exact hP) hK (by rw [eG]; exact hD) hS1 hk.symm dL_allows_23
  · obtain ⟨hk, hw⟩ := hw
    subst hw
    obtain ⟨hP1, -, hD1⟩ := hB
    rw [ht] at hP1
    obtain ⟨hP, hD⟩ := va_join (wr := [(o, .inl (cJ, 1, .inr (.inl g)))]) (w1 := hW cI cZ X S O V) hP hD [1, 2, 3, 4, 5, 6, 7, 8, 9, 10, 11, 12, 13, 14, 15, 16, 17, 18, 19] [0] rfl rfl (by decide) (by decide) hk1 hFc hP1 hD1
    have hP : va_P D vwCl (oW cJ o g (hW cI cZ X S O V)) H1 := hP
    have hD : va_D A (oW cJ o g (hW cI cZ X S O V)) := hD
    have hS := hS1
    refine z_if_eq (tgt := 15) hx hb dL_allows_8 (by decide) (fun cb => ?_) (fun cb => ?_)
    · refine lv_lconst (v := 0) hx hb dL_allows_15 rfl ?_
      refine z_last (D := D) (j := 0) (x := 0) (f := g) hx hb hK hP hD hS 0 2 rfl rfl (by decide) (by decide) dL_allows_16 (fun H locs hP hD hS => ?_)
      have hP : va_P D vwCl (oW cJ o (vp_updL g 0 0) (hW cI cZ X S O V)) H := hP
      have hD : va_D A (oW cJ o (vp_updL g 0 0) (hW cI cZ X S O V)) := hD
      refine lv_goto (tgt := 24) hx hb dL_allows_17 (by decide) ?_
      refine lv_iconst (v := 0) hx hb dL_allows_24 rfl ?_
      have eG : (if c_alK x0 x1 = 0 then vp_updL g 0 (if (decide (c_house S V (ix x0) (ix x1) = 0)) = true then 1 else 0) else g) = vp_updL g 0 0 := by rw [if_pos hk, if_neg (by rw [cb]; decide)]
      exact z_wret hx hb hr hlocks (by rw [eG]; exact hP) hK (by rw [eG]; exact hD) hS hk.symm dL_allows_25
    · refine lv_lconst (v := 1) hx hb dL_allows_11 rfl ?_
      refine lv_goto (tgt := 16) hx hb dL_allows_12 (by decide) ?_
      refine z_last (D := D) (j := 0) (x := 1) (f := g) hx hb hK hP hD hS 0 2 rfl rfl (by decide) (by decide) dL_allows_16 (fun H locs hP hD hS => ?_)
      have hP : va_P D vwCl (oW cJ o (vp_updL g 0 1) (hW cI cZ X S O V)) H := hP
      have hD : va_D A (oW cJ o (vp_updL g 0 1) (hW cI cZ X S O V)) := hD
      refine lv_goto (tgt := 24) hx hb dL_allows_17 (by decide) ?_
      refine lv_iconst (v := 0) hx hb dL_allows_24 rfl ?_
      have eG : (if c_alK x0 x1 = 0 then vp_updL g 0 (if (decide (c_house S V (ix x0) (ix x1) = 0)) = true then 1 else 0) else g) = vp_updL g 0 1 := by rw [if_pos hk, if_pos cb]
      exact z_wret hx hb hr hlocks (by rw [eG]; exact hP) hK (by rw [eG]; exact hD) hS hk.symm dL_allows_25

set_option maxHeartbeats 4000000 in
set_option maxRecDepth 100000 in
theorem kL_open (l : Launch) (hl0 : l.stackTraces = false) (D : va_G) (cI cZ cJ : ClassId) (X : Nat → Nat) (S : Nat → Nat → Int32) (O : Nat → Bool) (V : Nat → Int32) (o : Nat) (g : Nat → Int64) (sz : Nat) (x0 : Int32) (n0 : Nat) (hn0 : n0 ≤ 30) (hct : V 1 = nI n0) : Met l yL_open wsL_open ({ frames := 7, cells := 1, slots := 6, locals := 111 } : Room) (zL D (tyx cI cZ cJ) (oW cJ o g (hW cI cZ X S O V)) sz [.ref (X 0), .int x0, .ref o]) (zQi D (tyx cI cZ cJ) (oW cJ o (if c_opK S V x0 = 0 then vp_updL g 0 (nI n0).toInt64 else g) (hW cI cZ X (if c_opK S V x0 = 0 then va_up (va_up (va_up (va_up S 11 (upd (S 11) n0 x0)) 12 (upd (S 12) n0 (V 2))) 13 (upd (S 13) n0 (V 0))) 14 (upd (S 14) n0 (V 0)) else S) O (if c_opK S V x0 = 0 then va_up V 1 (V 1 + 1) else V))) (c_opK S V x0) (va_A (oW cJ o g (hW cI cZ X S O V)) sz)) 1 6 (va_A (oW cJ o g (hW cI cZ X S O V)) sz) := by
  refine z_ofWH (cc := cL_open) (maxL := 4) (ret := (some .int)) (by decide) rfl ?_
  intro p e s m args below meth c s₁ B hml hv
  obtain ⟨rfl, hsz, hP, hK, hD0, hZ, hY⟩ := hv
  have hx := B.exec
  have hb := B.bytes
  have hr := B.returns
  have hts := atoms_spec (ws := wsL_open) B.pre
  have hown : s.vm.findClass RL = some m.cls := findClass_of_methodNamed B.named
  have hlocks := B.notSynchronized
  subst hsz
  have hD := hD0.self (sz := s.heap.size)
  generalize hAe : va_A (oW cJ o g (hW cI cZ X S O V)) s.heap.size = A at hD hZ ⊢
  have hA : ∀ q : Nat, s.heap.size ≤ q → A q := fun q h => by rw [← hAe]; exact Or.inr h
  have hS : va_S A s.heap s.heap [] := va_S.rf
  have htab := vx_table (x := yL_open) B (hts (.codeWith yL_open cL_open 4 (some .int) [(0, 9, 12, 13), (0, 9, 15, 18)]) List.mem_cons_self)
  have xl13 := hts (.classLink RL 13 "java/lang/IllegalArgumentException") (by decide +kernel)
  have xl18 := hts (.classLink RL 18 "java/lang/IllegalStateException") (by decide +kernel)
  have hl := lv_entry ([.ref (X 0), .int x0, .ref o]) (n := 4) (Nat.le_of_ble_eq_true rfl)
  rw [lg_entry_eq]
  generalize (lg_sl ([.ref (X 0), .int x0, .ref o]) ++ List.replicate (4 - (lg_sl ([.ref (X 0), .int x0, .ref o])).length) Slot.unset).toArray = ls at hl ⊢
  have hl : lv_has ls 4 [(0, .ref (X 0)), (1, .int x0), (2, .ref o)] := hl
  refine lv_aload_n hx hb dL_open_0 rfl (lv_at hl 2 rfl) ?_
  refine lv_iconst (v := nI 0) hx hb dL_open_1 rfl ?_
  refine lv_aload_n hx hb dL_open_2 rfl (lv_at hl 0 rfl) ?_
  refine lv_iload_n hx hb dL_open_3 rfl (lv_at hl 1 rfl) ?_
  have hPc := hP.sub (ws' := hW cI cZ X S O V) [1, 2, 3, 4, 5, 6, 7, 8, 9, 10, 11, 12, 13, 14, 15, 16, 17, 18, 19] rfl
  have hDc := hD.sub (ws' := hW cI cZ X S O V) [1, 2, 3, 4, 5, 6, 7, 8, 9, 10, 11, 12, 13, 14, 15, 16, 17, 18, 19] (by decide) rfl
  have hKc : va_K D vwCl (tyl cI cZ) s := hK.sub [0, 1] rfl
  have hFc := va_free (wc := hW cI cZ X S O V) hD hS hA [1, 2, 3, 4, 5, 6, 7, 8, 9, 10, 11, 12, 13, 14, 15, 16, 17, 18, 19] rfl
  refine vx_calli (vx_runV (As := [.int x0]) (rest := [.int (nI 0), .ref o]) ⟨hx, hb, hml, hown, hts⟩ (kX4_open l hl0 D cI cZ X S O V _ x0 n0 hn0 hct) (cwV 1 hts gL_open_X4_open rfl rfl rfl (by decide +kernel) ⟨Nat.le_of_ble_eq_true rfl, Nat.le_of_ble_eq_true rfl⟩) (zT_preV 0 4 hKc hPc hDc (fun U hU hW => zX_narrow (zX_warm hW hU hZ) hFc) rfl rfl) rfl rfl hl.1 rfl (lv_room (Nat.le_of_ble_eq_true rfl)) dL_open_4 ⟨Nat.le_of_ble_eq_true rfl, Nat.le_of_ble_eq_true rfl⟩) hS (fun q _ h => hFc q h) hFc (fun q _ h => hFc q h) (fun E ce q9 u t H1 locs1 ht hvm _ hBX hz1 hk1 hS1 hq9 hcv hcl => ?_) (fun r u t H1 locs1 ht hvm hw hB hz1 hk1 hS1 => ?_)
  · obtain ⟨hE, hP1, -, hD1⟩ := hBX
    rw [ht] at hP1
    obtain ⟨hP, hD⟩ := va_join (wr := [(o, .inl (cJ, 1, .inr (.inl g)))]) (w1 := hW cI cZ X S O V) hP hD [1, 2, 3, 4, 5, 6, 7, 8, 9, 10, 11, 12, 13, 14, 15, 16, 17, 18, 19] [0] rfl rfl (by decide) (by decide) hk1 hFc hP1 hD1
    have hP : va_P D vwCl (oW cJ o g (hW cI cZ X S O V)) H1 := hP
    have hD : va_D A (oW cJ o g (hW cI cZ X S O V)) := hD
    rcases hE with ⟨hk, rfl⟩ | ⟨hk, rfl⟩
    · refine vx_catch (own := RL) (name := "java/lang/IllegalArgumentException") hown [] ⟨0, 9, 12, 13⟩ [⟨0, 9, 15, 18⟩] (by rw [htab]; rfl) (fun z hz => nomatch hz) (by decide) (by decide) xl13 (va_Nw.use rfl (hZ.2.2.1 _ (List.mem_of_getElem? (i := 0) rfl))) hq9 hcv hcl ?_
      refine lv_astore_n (lv' := [(3, .ref q9), (0, .ref (X 0)), (1, .int x0), (2, .ref o)]) hx hb dL_open_12 rfl hl (by decide) rfl (fun ls hl => ?_)
      refine lv_iconst (v := 1) hx hb dL_open_13 rfl ?_
      have hne : ¬ (c_opK S V x0) = 0 := by rw [hk]; decide
      have eG : (if c_opK S V x0 = 0 then vp_updL g 0 (nI n0).toInt64 else g) = g := if_neg hne
      have eS : (if c_opK S V x0 = 0 then va_up (va_up (va_up (va_up S 11 (upd (S 11) n0 x0)) 12 (upd (S 12) n0 (V 2))) 13 (upd (S 13) n0 (V 0))) 14 (upd (S 14) n0 (V 0)) else S) = S := if_neg hne
      have eV : (if c_opK S V x0 = 0 then va_up V 1 (V 1 + 1) else V) = V := if_neg hne
      exact z_wret hx hb hr hlocks (by rw [eG, eS, eV]; exact hP) hK (by rw [eG, eS, eV]; exact hD) hS1 hk.symm dL_open_14
    · refine vx_catch (own := RL) (name := "java/lang/IllegalStateException") hown [⟨0, 9, 12, 13⟩] ⟨0, 9, 15, 18⟩ [] (by rw [htab]; rfl) (fun z hz => by rw [List.mem_singleton.mp hz]; exact Or.inr ⟨by decide, _, xl13, hY.1⟩) (by decide) (by decide) xl18 (va_Nw.use rfl (hZ.2.2.1 _ (List.mem_of_getElem? (i := 1) rfl))) hq9 hcv hcl ?_
      refine lv_astore_n (lv' := [(3, .ref q9), (0, .ref (X 0)), (1, .int x0), (2, .ref o)]) hx hb dL_open_15 rfl hl (by decide) rfl (fun ls hl => ?_)
      refine lv_iconst (v := 2) hx hb dL_open_16 rfl ?_
      have hne : ¬ (c_opK S V x0) = 0 := by rw [hk]; decide
      have eG : (if c_opK S V x0 = 0 then vp_updL g 0 (nI n0).toInt64 else g) = g := if_neg hne
      have eS : (if c_opK S V x0 = 0 then va_up (va_up (va_up (va_up S 11 (upd (S 11) n0 x0)) 12 (upd (S 12) n0 (V 2))) 13 (upd (S 13) n0 (V 0))) 14 (upd (S 14) n0 (V 0)) else S) = S := if_neg hne
      have eV : (if c_opK S V x0 = 0 then va_up V 1 (V 1 + 1) else V) = V := if_neg hne
      exact z_wret hx hb hr hlocks (by rw [eG, eS, eV]; exact hP) hK (by rw [eG, eS, eV]; exact hD) hS1 hk.symm dL_open_17
  · obtain ⟨hk, hw⟩ := hw
    subst hw
    obtain ⟨hP1, -, hD1⟩ := hB
    rw [ht] at hP1
    obtain ⟨hP, hD⟩ := va_join (wr := [(o, .inl (cJ, 1, .inr (.inl g)))]) (w1 := hW cI cZ X (va_up (va_up (va_up (va_up S 11 (upd (S 11) n0 x0)) 12 (upd (S 12) n0 (V 2))) 13 (upd (S 13) n0 (V 0))) 14 (upd (S 14) n0 (V 0))) O (va_up V 1 (V 1 + 1))) hP hD [1, 2, 3, 4, 5, 6, 7, 8, 9, 10, 11, 12, 13, 14, 15, 16, 17, 18, 19] [0] rfl rfl (by decide) (by decide) hk1 hFc hP1 hD1
    have hP : va_P D vwCl (oW cJ o g (hW cI cZ X (va_up (va_up (va_up (va_up S 11 (upd (S 11) n0 x0)) 12 (upd (S 12) n0 (V 2))) 13 (upd (S 13) n0 (V 0))) 14 (upd (S 14) n0 (V 0))) O (va_up V 1 (V 1 + 1)))) H1 := hP
    have hD : va_D A (oW cJ o g (hW cI cZ X (va_up (va_up (va_up (va_up S 11 (upd (S 11) n0 x0)) 12 (upd (S 12) n0 (V 2))) 13 (upd (S 13) n0 (V 0))) 14 (upd (S 14) n0 (V 0))) O (va_up V 1 (V 1 + 1)))) := hD
    have hS := hS1
    refine lv_i2l (v := (nI n0).toInt64) hx hb dL_open_7 rfl ?_
    refine z_last (D := D) (j := 0) (x := (nI n0).toInt64) (f := g) hx hb hK hP hD hS 0 2 rfl rfl (by decide) (by decide) dL_open_8 (fun H locs hP hD hS => ?_)
    have hP : va_P D vwCl (oW cJ o (vp_updL g 0 (nI n0).toInt64) (hW cI cZ X (va_up (va_up (va_up (va_up S 11 (upd (S 11) n0 x0)) 12 (upd (S 12) n0 (V 2))) 13 (upd (S 13) n0 (V 0))) 14 (upd (S 14) n0 (V 0))) O (va_up V 1 (V 1 + 1)))) H := hP
    have hD : va_D A (oW cJ o (vp_updL g 0 (nI n0).toInt64) (hW cI cZ X (va_up (va_up (va_up (va_up S 11 (upd (S 11) n0 x0)) 12 (upd (S 12) n0 (V 2))) 13 (upd (S 13) n0 (V 0))) 14 (upd (S 14) n0 (V 0))) O (va_up V 1 (V 1 + 1)))) := hD
    refine lv_goto (tgt := 18) hx hb dL_open_9 (by decide) ?_
    refine lv_iconst (v := 0) hx hb dL_open_18 rfl ?_
    have eG : (if c_opK S V x0 = 0 then vp_updL g 0 (nI n0).toInt64 else g) = vp_updL g 0 (nI n0).toInt64 := by rw [if_pos hk]
    have eS : (if c_opK S V x0 = 0 then va_up (va_up (va_up (va_up S 11 (upd (S 11) n0 x0)) 12 (upd (S 12) n0 (V 2))) 13 (upd (S 13) n0 (V 0))) 14 (upd (S 14) n0 (V 0)) else S) = va_up (va_up (va_up (va_up S 11 (upd (S 11) n0 x0)) 12 (upd (S 12) n0 (V 2))) 13 (upd (S 13) n0 (V 0))) 14 (upd (S 14) n0 (V 0)) := if_pos hk
    have eV : (if c_opK S V x0 = 0 then va_up V 1 (V 1 + 1) else V) = va_up V 1 (V 1 + 1) := if_pos hk
    exact z_wret hx hb hr hlocks (by rw [eG, eS, eV]; exact hP) hK (by rw [eG, eS, eV]; exact hD) hS hk.symm dL_open_19

set_option maxHeartbeats 4000000 in
set_option maxRecDepth 100000 in
theorem kL_close (l : Launch) (hl0 : l.stackTraces = false) (D : va_G) (cI cZ cJ : ClassId) (X : Nat → Nat) (S : Nat → Nat → Int32) (O : Nat → Bool) (V : Nat → Int32) (o : Nat) (g : Nat → Int64) (sz : Nat) (x0 : Int32) (n0 : Nat) (hn0 : n0 ≤ 30) (hct : V 1 = nI n0) : Met l yL_close wsL_close ({ frames := 7, cells := 1, slots := 6, locals := 111 } : Room) (zL D (tyx cI cZ cJ) (oW cJ o g (hW cI cZ X S O V)) sz [.ref (X 0), .int x0, .ref o]) (zQi D (tyx cI cZ cJ) (oW cJ o (if c_clK O V x0 = 0 then vp_updL g 0 (V 0 - S 13 (ix x0)).toInt64 else g) (hW cI cZ X S (if c_clK O V x0 = 0 then va_up O (ix x0) true else O) V)) (c_clK O V x0) (va_A (oW cJ o g (hW cI cZ X S O V)) sz)) 1 6 (va_A (oW cJ o g (hW cI cZ X S O V)) sz) := by
  refine z_ofWH (cc := cL_close) (maxL := 4) (ret := (some .int)) (by decide) rfl ?_
  intro p e s m args below meth c s₁ B hml hv
  obtain ⟨rfl, hsz, hP, hK, hD0, hZ, hY⟩ := hv
  have hx := B.exec
  have hb := B.bytes
  have hr := B.returns
  have hts := atoms_spec (ws := wsL_close) B.pre
  have hown : s.vm.findClass RL = some m.cls := findClass_of_methodNamed B.named
  have hlocks := B.notSynchronized
  subst hsz
  have hD := hD0.self (sz := s.heap.size)
  generalize hAe : va_A (oW cJ o g (hW cI cZ X S O V)) s.heap.size = A at hD hZ ⊢
  have hA : ∀ q : Nat, s.heap.size ≤ q → A q := fun q h => by rw [← hAe]; exact Or.inr h
  have hS : va_S A s.heap s.heap [] := va_S.rf
  have htab := vx_table (x := yL_close) B (hts (.codeWith yL_close cL_close 4 (some .int) [(0, 9, 12, 42), (0, 9, 15, 18)]) List.mem_cons_self)
  have xl42 := hts (.classLink RL 42 "java/lang/IndexOutOfBoundsException") (by decide +kernel)
  have xl18 := hts (.classLink RL 18 "java/lang/IllegalStateException") (by decide +kernel)
  have hl := lv_entry ([.ref (X 0), .int x0, .ref o]) (n := 4) (Nat.le_of_ble_eq_true rfl)
  rw [lg_entry_eq]
  generalize (lg_sl ([.ref (X 0), .int x0, .ref o]) ++ List.replicate (4 - (lg_sl ([.ref (X 0), .int x0, .ref o])).length) Slot.unset).toArray = ls at hl ⊢
  have hl : lv_has ls 4 [(0, .ref (X 0)), (1, .int x0), (2, .ref o)] := hl
  refine lv_aload_n hx hb dL_close_0 rfl (lv_at hl 2 rfl) ?_
  refine lv_iconst (v := nI 0) hx hb dL_close_1 rfl ?_
  refine lv_aload_n hx hb dL_close_2 rfl (lv_at hl 0 rfl) ?_
  refine lv_iload_n hx hb dL_close_3 rfl (lv_at hl 1 rfl) ?_
  have hPc := hP.sub (ws' := hW cI cZ X S O V) [1, 2, 3, 4, 5, 6, 7, 8, 9, 10, 11, 12, 13, 14, 15, 16, 17, 18, 19] rfl
  have hDc := hD.sub (ws' := hW cI cZ X S O V) [1, 2, 3, 4, 5, 6, 7, 8, 9, 10, 11, 12, 13, 14, 15, 16, 17, 18, 19] (by decide) rfl
  have hKc : va_K D vwCl (tyl cI cZ) s := hK.sub [0, 1] rfl
  have hFc := va_free (wc := hW cI cZ X S O V) hD hS hA [1, 2, 3, 4, 5, 6, 7, 8, 9, 10, 11, 12, 13, 14, 15, 16, 17, 18, 19] rfl
  refine vx_calli (vx_runV (As := [.int x0]) (rest := [.int (nI 0), .ref o]) ⟨hx, hb, hml, hown, hts⟩ (kX4_close l hl0 D cI cZ X S O V _ x0 n0 hn0 hct) (cwV 1 hts gL_close_X4_close rfl rfl rfl (by decide +kernel) ⟨Nat.le_of_ble_eq_true rfl, Nat.le_of_ble_eq_true rfl⟩) (zT_preV 0 4 hKc hPc hDc (fun U hU hW => zX_narrow (zX_warm hW hU hZ) hFc) rfl rfl) rfl rfl hl.1 rfl (lv_room (Nat.le_of_ble_eq_true rfl)) dL_close_4 ⟨Nat.le_of_ble_eq_true rfl, Nat.le_of_ble_eq_true rfl⟩) hS (fun q _ h => hFc q h) hFc (fun q _ h => hFc q h) (fun E ce q9 u t H1 locs1 ht hvm _ hBX hz1 hk1 hS1 hq9 hcv hcl => ?_) (fun r u t H1 locs1 ht hvm hw hB hz1 hk1 hS1 => ?_)
  · obtain ⟨hE, hP1, -, hD1⟩ := hBX
    rw [ht] at hP1
    obtain ⟨hP, hD⟩ := va_join (wr := [(o, .inl (cJ, 1, .inr (.inl g)))]) (w1 := hW cI cZ X S O V) hP hD [1, 2, 3, 4, 5, 6, 7, 8, 9, 10, 11, 12, 13, 14, 15, 16, 17, 18, 19] [0] rfl rfl (by decide) (by decide) hk1 hFc hP1 hD1
    have hP : va_P D vwCl (oW cJ o g (hW cI cZ X S O V)) H1 := hP
    have hD : va_D A (oW cJ o g (hW cI cZ X S O V)) := hD
    rcases hE with ⟨hk, rfl⟩ | ⟨hk, rfl⟩
    · refine vx_catch (own := RL) (name := "java/lang/IndexOutOfBoundsException") hown [] ⟨0, 9, 12, 42⟩ [⟨0, 9, 15, 18⟩] (by rw [htab]; rfl) (fun z hz => nomatch hz) (by decide) (by decide) xl42 (va_Nw.use rfl (hZ.2.2.1 _ (List.mem_of_getElem? (i := 2) rfl))) hq9 hcv hcl ?_
      refine lv_astore_n (lv' := [(3, .ref q9), (0, .ref (X 0)), (1, .int x0), (2, .ref o)]) hx hb dL_close_12 rfl hl (by decide) rfl (fun ls hl => ?_)
      refine lv_iconst (v := 1) hx hb dL_close_13 rfl ?_
      have hne : ¬ (c_clK O V x0) = 0 := by rw [hk]; decide
      have eG : (if c_clK O V x0 = 0 then vp_updL g 0 (V 0 - S 13 (ix x0)).toInt64 else g) = g := if_neg hne
      have eO : (if c_clK O V x0 = 0 then va_up O (ix x0) true else O) = O := if_neg hne
      exact z_wret hx hb hr hlocks (by rw [eG, eO]; exact hP) hK (by rw [eG, eO]; exact hD) hS1 hk.symm dL_close_14
    · refine vx_catch (own := RL) (name := "java/lang/IllegalStateException") hown [⟨0, 9, 12, 42⟩] ⟨0, 9, 15, 18⟩ [] (by rw [htab]; rfl) (fun z hz => by rw [List.mem_singleton.mp hz]; exact Or.inr ⟨by decide, _, xl42, hY.2.2⟩) (by decide) (by decide) xl18 (va_Nw.use rfl (hZ.2.2.1 _ (List.mem_of_getElem? (i := 1) rfl))) hq9 hcv hcl ?_
      refine lv_astore_n (lv' := [(3, .ref q9), (0, .ref (X 0)), (1, .int x0), (2, .ref o)]) hx hb dL_close_15 rfl hl (by decide) rfl (fun ls hl => ?_)
      refine lv_iconst (v := 2) hx hb dL_close_16 rfl ?_
      have hne : ¬ (c_clK O V x0) = 0 := by rw [hk]; decide
      have eG : (if c_clK O V x0 = 0 then vp_updL g 0 (V 0 - S 13 (ix x0)).toInt64 else g) = g := if_neg hne
      have eO : (if c_clK O V x0 = 0 then va_up O (ix x0) true else O) = O := if_neg hne
      exact z_wret hx hb hr hlocks (by rw [eG, eO]; exact hP) hK (by rw [eG, eO]; exact hD) hS1 hk.symm dL_close_17
  · obtain ⟨hk, hw⟩ := hw
    subst hw
    obtain ⟨hP1, -, hD1⟩ := hB
    rw [ht] at hP1
    obtain ⟨hP, hD⟩ := va_join (wr := [(o, .inl (cJ, 1, .inr (.inl g)))]) (w1 := hW cI cZ X S (va_up O (ix x0) true) V) hP hD [1, 2, 3, 4, 5, 6, 7, 8, 9, 10, 11, 12, 13, 14, 15, 16, 17, 18, 19] [0] rfl rfl (by decide) (by decide) hk1 hFc hP1 hD1
    have hP : va_P D vwCl (oW cJ o g (hW cI cZ X S (va_up O (ix x0) true) V)) H1 := hP
    have hD : va_D A (oW cJ o g (hW cI cZ X S (va_up O (ix x0) true) V)) := hD
    have hS := hS1
    refine lv_i2l (v := (V 0 - S 13 (ix x0)).toInt64) hx hb dL_close_7 rfl ?_
    refine z_last (D := D) (j := 0) (x := (V 0 - S 13 (ix x0)).toInt64) (f := g) hx hb hK hP hD hS 0 2 rfl rfl (by decide) (by decide) dL_close_8 (fun H locs hP hD hS => ?_)
    have hP : va_P D vwCl (oW cJ o (vp_updL g 0 (V 0 - S 13 (ix x0)).toInt64) (hW cI cZ X S (va_up O (ix x0) true) V)) H := hP
    have hD : va_D A (oW cJ o (vp_updL g 0 (V 0 - S 13 (ix x0)).toInt64) (hW cI cZ X S (va_up O (ix x0) true) V)) := hD
    refine lv_goto (tgt := 18) hx hb dL_close_9 (by decide) ?_
    refine lv_iconst (v := 0) hx hb dL_close_18 rfl ?_
    have eG : (if c_clK O V x0 = 0 then vp_updL g 0 (V 0 - S 13 (ix x0)).toInt64 else g) = vp_updL g 0 (V 0 - S 13 (ix x0)).toInt64 := by rw [if_pos hk]
    have eO : (if c_clK O V x0 = 0 then va_up O (ix x0) true else O) = va_up O (ix x0) true := if_pos hk
    exact z_wret hx hb hr hlocks (by rw [eG, eO]; exact hP) hK (by rw [eG, eO]; exact hD) hS hk.symm dL_close_19

set_option maxHeartbeats 4000000 in
set_option maxRecDepth 100000 in
theorem kL_goesOn (l : Launch) (hl0 : l.stackTraces = false) (D : va_G) (cI cZ cJ : ClassId) (X : Nat → Nat) (S : Nat → Nat → Int32) (O : Nat → Bool) (V : Nat → Int32) (o : Nat) (g : Nat → Int64) (sz : Nat) (x0 : Int32) (n0 : Nat) (hn0 : n0 ≤ 30) (hct : V 1 = nI n0) : Met l yL_goesOn wsL_goesOn ({ frames := 7, cells := 1, slots := 6, locals := 111 } : Room) (zL D (tyx cI cZ cJ) (oW cJ o g (hW cI cZ X S O V)) sz [.ref (X 0), .int x0, .ref o]) (zQi D (tyx cI cZ cJ) (oW cJ o (if c_goK V x0 = 0 then vp_updL g 0 (if (!O (ix x0)) = true then 1 else 0) else g) (hW cI cZ X S O V)) (c_goK V x0) (va_A (oW cJ o g (hW cI cZ X S O V)) sz)) 1 6 (va_A (oW cJ o g (hW cI cZ X S O V)) sz) := by
  refine z_ofWH (cc := cL_goesOn) (maxL := 4) (ret := (some .int)) (by decide) rfl ?_
  intro p e s m args below meth c s₁ B hml hv
  obtain ⟨rfl, hsz, hP, hK, hD0, hZ, hY⟩ := hv
  have hx := B.exec
  have hb := B.bytes
  have hr := B.returns
  have hts := atoms_spec (ws := wsL_goesOn) B.pre
  have hown : s.vm.findClass RL = some m.cls := findClass_of_methodNamed B.named
  have hlocks := B.notSynchronized
  subst hsz
  have hD := hD0.self (sz := s.heap.size)
  generalize hAe : va_A (oW cJ o g (hW cI cZ X S O V)) s.heap.size = A at hD hZ ⊢
  have hA : ∀ q : Nat, s.heap.size ≤ q → A q := fun q h => by rw [← hAe]; exact Or.inr h
  have hS : va_S A s.heap s.heap [] := va_S.rf
  have htab := vx_table (x := yL_goesOn) B (hts (.codeWith yL_goesOn cL_goesOn 4 (some .int) [(0, 16, 19, 42)]) List.mem_cons_self)
  have xl42 := hts (.classLink RL 42 "java/lang/IndexOutOfBoundsException") (by decide +kernel)
  have hl := lv_entry ([.ref (X 0), .int x0, .ref o]) (n := 4) (Nat.le_of_ble_eq_true rfl)
  rw [lg_entry_eq]
  generalize (lg_sl ([.ref (X 0), .int x0, .ref o]) ++ List.replicate (4 - (lg_sl ([.ref (X 0), .int x0, .ref o])).length) Slot.unset).toArray = ls at hl ⊢
  have hl : lv_has ls 4 [(0, .ref (X 0)), (1, .int x0), (2, .ref o)] := hl
  refine lv_aload_n hx hb dL_goesOn_0 rfl (lv_at hl 2 rfl) ?_
  refine lv_iconst (v := nI 0) hx hb dL_goesOn_1 rfl ?_
  refine lv_aload_n hx hb dL_goesOn_2 rfl (lv_at hl 0 rfl) ?_
  refine lv_iload_n hx hb dL_goesOn_3 rfl (lv_at hl 1 rfl) ?_
  have hPc := hP.sub (ws' := hW cI cZ X S O V) [1, 2, 3, 4, 5, 6, 7, 8, 9, 10, 11, 12, 13, 14, 15, 16, 17, 18, 19] rfl
  have hDc := hD.sub (ws' := hW cI cZ X S O V) [1, 2, 3, 4, 5, 6, 7, 8, 9, 10, 11, 12, 13, 14, 15, 16, 17, 18, 19] (by decide) rfl
  have hKc : va_K D vwCl (tyl cI cZ) s := hK.sub [0, 1] rfl
  have hFc := va_free (wc := hW cI cZ X S O V) hD hS hA [1, 2, 3, 4, 5, 6, 7, 8, 9, 10, 11, 12, 13, 14, 15, 16, 17, 18, 19] rfl
  refine vx_calli (vx_runV (As := [.int x0]) (rest := [.int (nI 0), .ref o]) ⟨hx, hb, hml, hown, hts⟩ (kX4_goesOn l hl0 D cI cZ X S O V _ x0 n0 hn0 hct) (cwV 1 hts gL_goesOn_X4_goesOn rfl rfl rfl (by decide +kernel) ⟨Nat.le_of_ble_eq_true rfl, Nat.le_of_ble_eq_true rfl⟩) (zT_preV 0 4 hKc hPc hDc (fun U hU hW => zX_narrow (zX_warm hW hU hZ) hFc) rfl rfl) rfl rfl hl.1 rfl (lv_room (Nat.le_of_ble_eq_true rfl)) dL_goesOn_4 ⟨Nat.le_of_ble_eq_true rfl, Nat.le_of_ble_eq_true rfl⟩) hS (fun q _ h => hFc q h) hFc (fun q _ h => hFc q h) (fun E ce q9 u t H1 locs1 ht hvm _ hBX hz1 hk1 hS1 hq9 hcv hcl => ?_) (fun r u t H1 locs1 ht hvm hw hB hz1 hk1 hS1 => ?_)
  · obtain ⟨hE, hP1, -, hD1⟩ := hBX
    rw [ht] at hP1
    obtain ⟨hP, hD⟩ := va_join (wr := [(o, .inl (cJ, 1, .inr (.inl g)))]) (w1 := hW cI cZ X S O V) hP hD [1, 2, 3, 4, 5, 6, 7, 8, 9, 10, 11, 12, 13, 14, 15, 16, 17, 18, 19] [0] rfl rfl (by decide) (by decide) hk1 hFc hP1 hD1
    have hP : va_P D vwCl (oW cJ o g (hW cI cZ X S O V)) H1 := hP
    have hD : va_D A (oW cJ o g (hW cI cZ X S O V)) := hD
    obtain ⟨hk, rfl⟩ := hE
    refine vx_catch (own := RL) (name := "java/lang/IndexOutOfBoundsException") hown [] ⟨0, 16, 19, 42⟩ [] (by rw [htab]; rfl) (fun z hz => nomatch hz) (by decide) (by decide) xl42 (va_Nw.use rfl (hZ.2.2.1 _ (List.mem_of_getElem? (i := 2) rfl))) hq9 hcv hcl ?_
    refine lv_astore_n (lv' := [(3, .ref q9), (0, .ref (X 0)), (1, .int x0), (2, .ref o)]) hx hb dL_goesOn_19 rfl hl (by decide) rfl (fun ls hl => ?_)
    refine lv_iconst (v := 1) hx hb dL_goesOn_20 rfl ?_
    have hne : ¬ (c_goK V x0) = 0 := by rw [hk]; decide
    have eG : (if c_goK V x0 = 0 then vp_updL g 0 (if (!O (ix x0)) = true then 1 else 0) else g) = g := if_neg hne
    exact z_wret hx hb hr hlocks (by rw [eG]; exact hP) hK (by rw [eG]; exact hD) hS1 hk.symm dL_goesOn_21
  · obtain ⟨hk, hw⟩ := hw
    subst hw
    obtain ⟨hP1, -, hD1⟩ := hB
    rw [ht] at hP1
    obtain ⟨hP, hD⟩ := va_join (wr := [(o, .inl (cJ, 1, .inr (.inl g)))]) (w1 := hW cI cZ X S O V) hP hD [1, 2, 3, 4, 5, 6, 7, 8, 9, 10, 11, 12, 13, 14, 15, 16, 17, 18, 19] [0] rfl rfl (by decide) (by decide) hk1 hFc hP1 hD1
    have hP : va_P D vwCl (oW cJ o g (hW cI cZ X S O V)) H1 := hP
    have hD : va_D A (oW cJ o g (hW cI cZ X S O V)) := hD
    have hS := hS1
    refine z_if_eq (tgt := 14) hx hb dL_goesOn_7 (by decide) (fun cb => ?_) (fun cb => ?_)
    · refine lv_lconst (v := 0) hx hb dL_goesOn_14 rfl ?_
      refine z_last (D := D) (j := 0) (x := 0) (f := g) hx hb hK hP hD hS 0 2 rfl rfl (by decide) (by decide) dL_goesOn_15 (fun H locs hP hD hS => ?_)
      have hP : va_P D vwCl (oW cJ o (vp_updL g 0 0) (hW cI cZ X S O V)) H := hP
      have hD : va_D A (oW cJ o (vp_updL g 0 0) (hW cI cZ X S O V)) := hD
      refine lv_goto (tgt := 22) hx hb dL_goesOn_16 (by decide) ?_
      refine lv_iconst (v := 0) hx hb dL_goesOn_22 rfl ?_
      have eG : (if c_goK V x0 = 0 then vp_updL g 0 (if (!O (ix x0)) = true then 1 else 0) else g) = vp_updL g 0 0 := by rw [if_pos hk, if_neg (by rw [cb]; decide)]
      exact z_wret hx hb hr hlocks (by rw [eG]; exact hP) hK (by rw [eG]; exact hD) hS hk.symm dL_goesOn_23
    · refine lv_lconst (v := 1) hx hb dL_goesOn_10 rfl ?_
      refine lv_goto (tgt := 15) hx hb dL_goesOn_11 (by decide) ?_
      refine z_last (D := D) (j := 0) (x := 1) (f := g) hx hb hK hP hD hS 0 2 rfl rfl (by decide) (by decide) dL_goesOn_15 (fun H locs hP hD hS => ?_)
      have hP : va_P D vwCl (oW cJ o (vp_updL g 0 1) (hW cI cZ X S O V)) H := hP
      have hD : va_D A (oW cJ o (vp_updL g 0 1) (hW cI cZ X S O V)) := hD
      refine lv_goto (tgt := 22) hx hb dL_goesOn_16 (by decide) ?_
      refine lv_iconst (v := 0) hx hb dL_goesOn_22 rfl ?_
      have eG : (if c_goK V x0 = 0 then vp_updL g 0 (if (!O (ix x0)) = true then 1 else 0) else g) = vp_updL g 0 1 := by rw [if_pos hk, if_pos cb]
      exact z_wret hx hb hr hlocks (by rw [eG]; exact hP) hK (by rw [eG]; exact hD) hS hk.symm dL_goesOn_23

set_option maxHeartbeats 4000000 in
set_option maxRecDepth 100000 in
theorem kL_changeKeys (l : Launch) (hl0 : l.stackTraces = false) (D : va_G) (cI cZ cJ : ClassId) (X : Nat → Nat) (S : Nat → Nat → Int32) (O : Nat → Bool) (V : Nat → Int32) (o : Nat) (g : Nat → Int64) (sz : Nat) (x0 : Int32) (n0 : Nat) (hn0 : n0 ≤ 30) (hct : V 1 = nI n0) (hpe : ∀ j : Nat, j < n0 → vp_in (S 11 j) 10) : Met l yL_changeKeys wsL_changeKeys ({ frames := 7, cells := 1, slots := 6, locals := 111 } : Room) (zL D (tyx cI cZ cJ) (oW cJ o g (hW cI cZ X S O V)) sz [.ref (X 0), .int x0, .ref o]) (zQi D (tyx cI cZ cJ) (oW cJ o (if c_ckK x0 = 0 then vp_updL g 0 (V 2 + 1).toInt64 else g) (hW cI cZ X S (if c_ckK x0 = 0 then c_edO S O (c_ckV V x0) (V 0) n0 else O) (if c_ckK x0 = 0 then c_ckV V x0 else V))) (c_ckK x0) (va_A (oW cJ o g (hW cI cZ X S O V)) sz)) 1 6 (va_A (oW cJ o g (hW cI cZ X S O V)) sz) := by
  refine z_ofWH (cc := cL_changeKeys) (maxL := 4) (ret := (some .int)) (by decide) rfl ?_
  intro p e s m args below meth c s₁ B hml hv
  obtain ⟨rfl, hsz, hP, hK, hD0, hZ, hY⟩ := hv
  have hx := B.exec
  have hb := B.bytes
  have hr := B.returns
  have hts := atoms_spec (ws := wsL_changeKeys) B.pre
  have hown : s.vm.findClass RL = some m.cls := findClass_of_methodNamed B.named
  have hlocks := B.notSynchronized
  subst hsz
  have hD := hD0.self (sz := s.heap.size)
  generalize hAe : va_A (oW cJ o g (hW cI cZ X S O V)) s.heap.size = A at hD hZ ⊢
  have hA : ∀ q : Nat, s.heap.size ≤ q → A q := fun q h => by rw [← hAe]; exact Or.inr h
  have hS : va_S A s.heap s.heap [] := va_S.rf
  have htab := vx_table (x := yL_changeKeys) B (hts (.codeWith yL_changeKeys cL_changeKeys 4 (some .int) [(0, 9, 12, 13)]) List.mem_cons_self)
  have xl13 := hts (.classLink RL 13 "java/lang/IllegalArgumentException") (by decide +kernel)
  have hl := lv_entry ([.ref (X 0), .int x0, .ref o]) (n := 4) (Nat.le_of_ble_eq_true rfl)
  rw [lg_entry_eq]
  generalize (lg_sl ([.ref (X 0), .int x0, .ref o]) ++ List.replicate (4 - (lg_sl ([.ref (X 0), .int x0, .ref o])).length) Slot.unset).toArray = ls at hl ⊢
  have hl : lv_has ls 4 [(0, .ref (X 0)), (1, .int x0), (2, .ref o)] := hl
  refine lv_aload_n hx hb dL_changeKeys_0 rfl (lv_at hl 2 rfl) ?_
  refine lv_iconst (v := nI 0) hx hb dL_changeKeys_1 rfl ?_
  refine lv_aload_n hx hb dL_changeKeys_2 rfl (lv_at hl 0 rfl) ?_
  refine lv_iload_n hx hb dL_changeKeys_3 rfl (lv_at hl 1 rfl) ?_
  have hPc := hP.sub (ws' := hW cI cZ X S O V) [1, 2, 3, 4, 5, 6, 7, 8, 9, 10, 11, 12, 13, 14, 15, 16, 17, 18, 19] rfl
  have hDc := hD.sub (ws' := hW cI cZ X S O V) [1, 2, 3, 4, 5, 6, 7, 8, 9, 10, 11, 12, 13, 14, 15, 16, 17, 18, 19] (by decide) rfl
  have hKc : va_K D vwCl (tyl cI cZ) s := hK.sub [0, 1] rfl
  have hFc := va_free (wc := hW cI cZ X S O V) hD hS hA [1, 2, 3, 4, 5, 6, 7, 8, 9, 10, 11, 12, 13, 14, 15, 16, 17, 18, 19] rfl
  refine vx_calli (vx_runV (As := [.int x0]) (rest := [.int (nI 0), .ref o]) ⟨hx, hb, hml, hown, hts⟩ (kX4_changeKeys l hl0 D cI cZ X S O V _ x0 n0 hn0 hct hpe) (cwV 1 hts gL_changeKeys_X4_changeKeys rfl rfl rfl (by decide +kernel) ⟨Nat.le_of_ble_eq_true rfl, Nat.le_of_ble_eq_true rfl⟩) (zT_preV 0 4 hKc hPc hDc (fun U hU hW => zX_narrow (zX_warm hW hU hZ) hFc) rfl rfl) rfl rfl hl.1 rfl (lv_room (Nat.le_of_ble_eq_true rfl)) dL_changeKeys_4 ⟨Nat.le_of_ble_eq_true rfl, Nat.le_of_ble_eq_true rfl⟩) hS (fun q _ h => hFc q h) hFc (fun q _ h => hFc q h) (fun E ce q9 u t H1 locs1 ht hvm _ hBX hz1 hk1 hS1 hq9 hcv hcl => ?_) (fun r u t H1 locs1 ht hvm hw hB hz1 hk1 hS1 => ?_)
  · obtain ⟨hE, hP1, -, hD1⟩ := hBX
    rw [ht] at hP1
    obtain ⟨hP, hD⟩ := va_join (wr := [(o, .inl (cJ, 1, .inr (.inl g)))]) (w1 := hW cI cZ X S O V) hP hD [1, 2, 3, 4, 5, 6, 7, 8, 9, 10, 11, 12, 13, 14, 15, 16, 17, 18, 19] [0] rfl rfl (by decide) (by decide) hk1 hFc hP1 hD1
    have hP : va_P D vwCl (oW cJ o g (hW cI cZ X S O V)) H1 := hP
    have hD : va_D A (oW cJ o g (hW cI cZ X S O V)) := hD
    obtain ⟨hk, rfl⟩ := hE
    refine vx_catch (own := RL) (name := "java/lang/IllegalArgumentException") hown [] ⟨0, 9, 12, 13⟩ [] (by rw [htab]; rfl) (fun z hz => nomatch hz) (by decide) (by decide) xl13 (va_Nw.use rfl (hZ.2.2.1 _ (List.mem_of_getElem? (i := 0) rfl))) hq9 hcv hcl ?_
    refine lv_astore_n (lv' := [(3, .ref q9), (0, .ref (X 0)), (1, .int x0), (2, .ref o)]) hx hb dL_changeKeys_12 rfl hl (by decide) rfl (fun ls hl => ?_)
    refine lv_iconst (v := 1) hx hb dL_changeKeys_13 rfl ?_
    have hne : ¬ (c_ckK x0) = 0 := by rw [hk]; decide
    have eG : (if c_ckK x0 = 0 then vp_updL g 0 (V 2 + 1).toInt64 else g) = g := if_neg hne
    have eO : (if c_ckK x0 = 0 then c_edO S O (c_ckV V x0) (V 0) n0 else O) = O := if_neg hne
    have eV : (if c_ckK x0 = 0 then c_ckV V x0 else V) = V := if_neg hne
    exact z_wret hx hb hr hlocks (by rw [eG, eO, eV]; exact hP) hK (by rw [eG, eO, eV]; exact hD) hS1 hk.symm dL_changeKeys_14
  · obtain ⟨hk, hw⟩ := hw
    subst hw
    obtain ⟨hP1, -, hD1⟩ := hB
    rw [ht] at hP1
    obtain ⟨hP, hD⟩ := va_join (wr := [(o, .inl (cJ, 1, .inr (.inl g)))]) (w1 := hW cI cZ X S (c_edO S O (c_ckV V x0) (V 0) n0) (c_ckV V x0)) hP hD [1, 2, 3, 4, 5, 6, 7, 8, 9, 10, 11, 12, 13, 14, 15, 16, 17, 18, 19] [0] rfl rfl (by decide) (by decide) hk1 hFc hP1 hD1
    have hP : va_P D vwCl (oW cJ o g (hW cI cZ X S (c_edO S O (c_ckV V x0) (V 0) n0) (c_ckV V x0))) H1 := hP
    have hD : va_D A (oW cJ o g (hW cI cZ X S (c_edO S O (c_ckV V x0) (V 0) n0) (c_ckV V x0))) := hD
    have hS := hS1
    refine lv_i2l (v := (V 2 + 1).toInt64) hx hb dL_changeKeys_7 rfl ?_
    refine z_last (D := D) (j := 0) (x := (V 2 + 1).toInt64) (f := g) hx hb hK hP hD hS 0 2 rfl rfl (by decide) (by decide) dL_changeKeys_8 (fun H locs hP hD hS => ?_)
    have hP : va_P D vwCl (oW cJ o (vp_updL g 0 (V 2 + 1).toInt64) (hW cI cZ X S (c_edO S O (c_ckV V x0) (V 0) n0) (c_ckV V x0))) H := hP
    have hD : va_D A (oW cJ o (vp_updL g 0 (V 2 + 1).toInt64) (hW cI cZ X S (c_edO S O (c_ckV V x0) (V 0) n0) (c_ckV V x0))) := hD
    refine lv_goto (tgt := 15) hx hb dL_changeKeys_9 (by decide) ?_
    refine lv_iconst (v := 0) hx hb dL_changeKeys_15 rfl ?_
    have eG : (if c_ckK x0 = 0 then vp_updL g 0 (V 2 + 1).toInt64 else g) = vp_updL g 0 (V 2 + 1).toInt64 := by rw [if_pos hk]
    have eO : (if c_ckK x0 = 0 then c_edO S O (c_ckV V x0) (V 0) n0 else O) = c_edO S O (c_ckV V x0) (V 0) n0 := if_pos hk
    have eV : (if c_ckK x0 = 0 then c_ckV V x0 else V) = c_ckV V x0 := if_pos hk
    exact z_wret hx hb hr hlocks (by rw [eG, eO, eV]; exact hP) hK (by rw [eG, eO, eV]; exact hD) hS hk.symm dL_changeKeys_16

set_option maxHeartbeats 4000000 in
set_option maxRecDepth 100000 in
theorem kL_isTaken (l : Launch) (hl0 : l.stackTraces = false) (D : va_G) (cI cZ cJ : ClassId) (X : Nat → Nat) (S : Nat → Nat → Int32) (O : Nat → Bool) (V : Nat → Int32) (o : Nat) (g : Nat → Int64) (sz : Nat) (x0 : Int32) : Met l yL_isTaken wsL_isTaken ({ frames := 7, cells := 1, slots := 6, locals := 111 } : Room) (zL D (tyx cI cZ cJ) (oW cJ o g (hW cI cZ X S O V)) sz [.ref (X 0), .int x0, .ref o]) (zQi D (tyx cI cZ cJ) (oW cJ o (if c_itK V x0 = 0 then vp_updL g 0 (if (c_takes V x0 (V 0)) = true then 1 else 0) else g) (hW cI cZ X S O V)) (c_itK V x0) (va_A (oW cJ o g (hW cI cZ X S O V)) sz)) 1 6 (va_A (oW cJ o g (hW cI cZ X S O V)) sz) := by
  refine z_ofWH (cc := cL_isTaken) (maxL := 4) (ret := (some .int)) (by decide) rfl ?_
  intro p e s m args below meth c s₁ B hml hv
  obtain ⟨rfl, hsz, hP, hK, hD0, hZ, hY⟩ := hv
  have hx := B.exec
  have hb := B.bytes
  have hr := B.returns
  have hts := atoms_spec (ws := wsL_isTaken) B.pre
  have hown : s.vm.findClass RL = some m.cls := findClass_of_methodNamed B.named
  have hlocks := B.notSynchronized
  subst hsz
  have hD := hD0.self (sz := s.heap.size)
  generalize hAe : va_A (oW cJ o g (hW cI cZ X S O V)) s.heap.size = A at hD hZ ⊢
  have hA : ∀ q : Nat, s.heap.size ≤ q → A q := fun q h => by rw [← hAe]; exact Or.inr h
  have hS : va_S A s.heap s.heap [] := va_S.rf
  have htab := vx_table (x := yL_isTaken) B (hts (.codeWith yL_isTaken cL_isTaken 4 (some .int) [(0, 16, 19, 13)]) List.mem_cons_self)
  have xl13 := hts (.classLink RL 13 "java/lang/IllegalArgumentException") (by decide +kernel)
  have hl := lv_entry ([.ref (X 0), .int x0, .ref o]) (n := 4) (Nat.le_of_ble_eq_true rfl)
  rw [lg_entry_eq]
  generalize (lg_sl ([.ref (X 0), .int x0, .ref o]) ++ List.replicate (4 - (lg_sl ([.ref (X 0), .int x0, .ref o])).length) Slot.unset).toArray = ls at hl ⊢
  have hl : lv_has ls 4 [(0, .ref (X 0)), (1, .int x0), (2, .ref o)] := hl
  refine lv_aload_n hx hb dL_isTaken_0 rfl (lv_at hl 2 rfl) ?_
  refine lv_iconst (v := nI 0) hx hb dL_isTaken_1 rfl ?_
  refine lv_aload_n hx hb dL_isTaken_2 rfl (lv_at hl 0 rfl) ?_
  refine lv_iload_n hx hb dL_isTaken_3 rfl (lv_at hl 1 rfl) ?_
  have hPc := hP.sub (ws' := hW cI cZ X S O V) [1, 2, 3, 4, 5, 6, 7, 8, 9, 10, 11, 12, 13, 14, 15, 16, 17, 18, 19] rfl
  have hDc := hD.sub (ws' := hW cI cZ X S O V) [1, 2, 3, 4, 5, 6, 7, 8, 9, 10, 11, 12, 13, 14, 15, 16, 17, 18, 19] (by decide) rfl
  have hKc : va_K D vwCl (tyl cI cZ) s := hK.sub [0, 1] rfl
  have hFc := va_free (wc := hW cI cZ X S O V) hD hS hA [1, 2, 3, 4, 5, 6, 7, 8, 9, 10, 11, 12, 13, 14, 15, 16, 17, 18, 19] rfl
  refine vx_calli (vx_runV (As := [.int x0]) (rest := [.int (nI 0), .ref o]) ⟨hx, hb, hml, hown, hts⟩ (kX4_isTaken l hl0 D cI cZ X S O V _ x0) (cwV 1 hts gL_isTaken_X4_isTaken rfl rfl rfl (by decide +kernel) ⟨Nat.le_of_ble_eq_true rfl, Nat.le_of_ble_eq_true rfl⟩) (zT_preV 0 4 hKc hPc hDc (fun U hU hW => zX_narrow (zX_warm hW hU hZ) hFc) rfl rfl) rfl rfl hl.1 rfl (lv_room (Nat.le_of_ble_eq_true rfl)) dL_isTaken_4 ⟨Nat.le_of_ble_eq_true rfl, Nat.le_of_ble_eq_true rfl⟩) hS (fun q _ h => hFc q h) hFc (fun q _ h => hFc q h) (fun E ce q9 u t H1 locs1 ht hvm _ hBX hz1 hk1 hS1 hq9 hcv hcl => ?_) (fun r u t H1 locs1 ht hvm hw hB hz1 hk1 hS1 => ?_)
  · obtain ⟨hE, hP1, -, hD1⟩ := hBX
    rw [ht] at hP1
    obtain ⟨hP, hD⟩ := va_join (wr := [(o, .inl (cJ, 1, .inr (.inl g)))]) (w1 := hW cI cZ X S O V) hP hD [1, 2, 3, 4, 5, 6, 7, 8, 9, 10, 11, 12, 13, 14, 15, 16, 17, 18, 19] [0] rfl rfl (by decide) (by decide) hk1 hFc hP1 hD1
    have hP : va_P D vwCl (oW cJ o g (hW cI cZ X S O V)) H1 := hP
    have hD : va_D A (oW cJ o g (hW cI cZ X S O V)) := hD
    obtain ⟨hk, rfl⟩ := hE
    refine vx_catch (own := RL) (name := "java/lang/IllegalArgumentException") hown [] ⟨0, 16, 19, 13⟩ [] (by rw [htab]; rfl) (fun z hz => nomatch hz) (by decide) (by decide) xl13 (va_Nw.use rfl (hZ.2.2.1 _ (List.mem_of_getElem? (i := 0) rfl))) hq9 hcv hcl ?_
    refine lv_astore_n (lv' := [(3, .ref q9), (0, .ref (X 0)), (1, .int x0), (2, .ref o)]) hx hb dL_isTaken_19 rfl hl (by decide) rfl (fun ls hl => ?_)
    refine lv_iconst (v := 1) hx hb dL_isTaken_20 rfl ?_
    have hne : ¬ (c_itK V x0) = 0 := by rw [hk]; decide
    have eG : (if c_itK V x0 = 0 then vp_updL g 0 (if (c_takes V x0 (V 0)) = true then 1 else 0) else g) = g := if_neg hne
    exact z_wret hx hb hr hlocks (by rw [eG]; exact hP) hK (by rw [eG]; exact hD) hS1 hk.symm dL_isTaken_21
  · obtain ⟨hk, hw⟩ := hw
    subst hw
    obtain ⟨hP1, -, hD1⟩ := hB
    rw [ht] at hP1
    obtain ⟨hP, hD⟩ := va_join (wr := [(o, .inl (cJ, 1, .inr (.inl g)))]) (w1 := hW cI cZ X S O V) hP hD [1, 2, 3, 4, 5, 6, 7, 8, 9, 10, 11, 12, 13, 14, 15, 16, 17, 18, 19] [0] rfl rfl (by decide) (by decide) hk1 hFc hP1 hD1
    have hP : va_P D vwCl (oW cJ o g (hW cI cZ X S O V)) H1 := hP
    have hD : va_D A (oW cJ o g (hW cI cZ X S O V)) := hD
    have hS := hS1
    refine z_if_eq (tgt := 14) hx hb dL_isTaken_7 (by decide) (fun cb => ?_) (fun cb => ?_)
    · refine lv_lconst (v := 0) hx hb dL_isTaken_14 rfl ?_
      refine z_last (D := D) (j := 0) (x := 0) (f := g) hx hb hK hP hD hS 0 2 rfl rfl (by decide) (by decide) dL_isTaken_15 (fun H locs hP hD hS => ?_)
      have hP : va_P D vwCl (oW cJ o (vp_updL g 0 0) (hW cI cZ X S O V)) H := hP
      have hD : va_D A (oW cJ o (vp_updL g 0 0) (hW cI cZ X S O V)) := hD
      refine lv_goto (tgt := 22) hx hb dL_isTaken_16 (by decide) ?_
      refine lv_iconst (v := 0) hx hb dL_isTaken_22 rfl ?_
      have eG : (if c_itK V x0 = 0 then vp_updL g 0 (if (c_takes V x0 (V 0)) = true then 1 else 0) else g) = vp_updL g 0 0 := by rw [if_pos hk, if_neg (by rw [cb]; decide)]
      exact z_wret hx hb hr hlocks (by rw [eG]; exact hP) hK (by rw [eG]; exact hD) hS hk.symm dL_isTaken_23
    · refine lv_lconst (v := 1) hx hb dL_isTaken_10 rfl ?_
      refine lv_goto (tgt := 15) hx hb dL_isTaken_11 (by decide) ?_
      refine z_last (D := D) (j := 0) (x := 1) (f := g) hx hb hK hP hD hS 0 2 rfl rfl (by decide) (by decide) dL_isTaken_15 (fun H locs hP hD hS => ?_)
      have hP : va_P D vwCl (oW cJ o (vp_updL g 0 1) (hW cI cZ X S O V)) H := hP
      have hD : va_D A (oW cJ o (vp_updL g 0 1) (hW cI cZ X S O V)) := hD
      refine lv_goto (tgt := 22) hx hb dL_isTaken_16 (by decide) ?_
      refine lv_iconst (v := 0) hx hb dL_isTaken_22 rfl ?_
      have eG : (if c_itK V x0 = 0 then vp_updL g 0 (if (c_takes V x0 (V 0)) = true then 1 else 0) else g) = vp_updL g 0 1 := by rw [if_pos hk, if_pos cb]
      exact z_wret hx hb hr hlocks (by rw [eG]; exact hP) hK (by rw [eG]; exact hD) hS hk.symm dL_isTaken_23

set_option maxHeartbeats 4000000 in
set_option maxRecDepth 100000 in
theorem kL_pass (l : Launch) (hl0 : l.stackTraces = false) (D : va_G) (cI cZ cJ : ClassId) (X : Nat → Nat) (S : Nat → Nat → Int32) (O : Nat → Bool) (V : Nat → Int32) (o : Nat) (g : Nat → Int64) (sz : Nat) (x0 : Int32) (n0 : Nat) (hn0 : n0 ≤ 30) (hct : V 1 = nI n0) (hpe : ∀ j : Nat, j < n0 → vp_in (S 11 j) 10) : Met l yL_pass wsL_pass ({ frames := 7, cells := 1, slots := 6, locals := 111 } : Room) (zL D (tyx cI cZ cJ) (oW cJ o g (hW cI cZ X S O V)) sz [.ref (X 0), .int x0, .ref o]) (zQi D (tyx cI cZ cJ) (oW cJ o (if c_paK x0 = 0 then vp_updL g 0 (c_edN (c_doS S (V 0 + x0) 4) O (c_paV V x0) (V 0 + x0) n0).toInt64 else g) (hW cI cZ X (if c_paK x0 = 0 then c_doS S (V 0 + x0) 4 else S) (if c_paK x0 = 0 then c_edO (c_doS S (V 0 + x0) 4) O (c_paV V x0) (V 0 + x0) n0 else O) (if c_paK x0 = 0 then c_paV V x0 else V))) (c_paK x0) (va_A (oW cJ o g (hW cI cZ X S O V)) sz)) 1 6 (va_A (oW cJ o g (hW cI cZ X S O V)) sz) := by
  refine z_ofWH (cc := cL_pass) (maxL := 4) (ret := (some .int)) (by decide) rfl ?_
  intro p e s m args below meth c s₁ B hml hv
  obtain ⟨rfl, hsz, hP, hK, hD0, hZ, hY⟩ := hv
  have hx := B.exec
  have hb := B.bytes
  have hr := B.returns
  have hts := atoms_spec (ws := wsL_pass) B.pre
  have hown : s.vm.findClass RL = some m.cls := findClass_of_methodNamed B.named
  have hlocks := B.notSynchronized
  subst hsz
  have hD := hD0.self (sz := s.heap.size)
  generalize hAe : va_A (oW cJ o g (hW cI cZ X S O V)) s.heap.size = A at hD hZ ⊢
  have hA : ∀ q : Nat, s.heap.size ≤ q → A q := fun q h => by rw [← hAe]; exact Or.inr h
  have hS : va_S A s.heap s.heap [] := va_S.rf
  have htab := vx_table (x := yL_pass) B (hts (.codeWith yL_pass cL_pass 4 (some .int) [(0, 9, 12, 13)]) List.mem_cons_self)
  have xl13 := hts (.classLink RL 13 "java/lang/IllegalArgumentException") (by decide +kernel)
  have hl := lv_entry ([.ref (X 0), .int x0, .ref o]) (n := 4) (Nat.le_of_ble_eq_true rfl)
  rw [lg_entry_eq]
  generalize (lg_sl ([.ref (X 0), .int x0, .ref o]) ++ List.replicate (4 - (lg_sl ([.ref (X 0), .int x0, .ref o])).length) Slot.unset).toArray = ls at hl ⊢
  have hl : lv_has ls 4 [(0, .ref (X 0)), (1, .int x0), (2, .ref o)] := hl
  refine lv_aload_n hx hb dL_pass_0 rfl (lv_at hl 2 rfl) ?_
  refine lv_iconst (v := nI 0) hx hb dL_pass_1 rfl ?_
  refine lv_aload_n hx hb dL_pass_2 rfl (lv_at hl 0 rfl) ?_
  refine lv_iload_n hx hb dL_pass_3 rfl (lv_at hl 1 rfl) ?_
  have hPc := hP.sub (ws' := hW cI cZ X S O V) [1, 2, 3, 4, 5, 6, 7, 8, 9, 10, 11, 12, 13, 14, 15, 16, 17, 18, 19] rfl
  have hDc := hD.sub (ws' := hW cI cZ X S O V) [1, 2, 3, 4, 5, 6, 7, 8, 9, 10, 11, 12, 13, 14, 15, 16, 17, 18, 19] (by decide) rfl
  have hKc : va_K D vwCl (tyl cI cZ) s := hK.sub [0, 1] rfl
  have hFc := va_free (wc := hW cI cZ X S O V) hD hS hA [1, 2, 3, 4, 5, 6, 7, 8, 9, 10, 11, 12, 13, 14, 15, 16, 17, 18, 19] rfl
  refine vx_calli (vx_runV (As := [.int x0]) (rest := [.int (nI 0), .ref o]) ⟨hx, hb, hml, hown, hts⟩ (kX4_pass l hl0 D cI cZ X S O V _ x0 n0 hn0 hct hpe) (cwV 1 hts gL_pass_X4_pass rfl rfl rfl (by decide +kernel) ⟨Nat.le_of_ble_eq_true rfl, Nat.le_of_ble_eq_true rfl⟩) (zT_preV 0 4 hKc hPc hDc (fun U hU hW => zX_narrow (zX_warm hW hU hZ) hFc) rfl rfl) rfl rfl hl.1 rfl (lv_room (Nat.le_of_ble_eq_true rfl)) dL_pass_4 ⟨Nat.le_of_ble_eq_true rfl, Nat.le_of_ble_eq_true rfl⟩) hS (fun q _ h => hFc q h) hFc (fun q _ h => hFc q h) (fun E ce q9 u t H1 locs1 ht hvm _ hBX hz1 hk1 hS1 hq9 hcv hcl => ?_) (fun r u t H1 locs1 ht hvm hw hB hz1 hk1 hS1 => ?_)
  · obtain ⟨hE, hP1, -, hD1⟩ := hBX
    rw [ht] at hP1
    obtain ⟨hP, hD⟩ := va_join (wr := [(o, .inl (cJ, 1, .inr (.inl g)))]) (w1 := hW cI cZ X S O V) hP hD [1, 2, 3, 4, 5, 6, 7, 8, 9, 10, 11, 12, 13, 14, 15, 16, 17, 18, 19] [0] rfl rfl (by decide) (by decide) hk1 hFc hP1 hD1
    have hP : va_P D vwCl (oW cJ o g (hW cI cZ X S O V)) H1 := hP
    have hD : va_D A (oW cJ o g (hW cI cZ X S O V)) := hD
    obtain ⟨hk, rfl⟩ := hE
    refine vx_catch (own := RL) (name := "java/lang/IllegalArgumentException") hown [] ⟨0, 9, 12, 13⟩ [] (by rw [htab]; rfl) (fun z hz => nomatch hz) (by decide) (by decide) xl13 (va_Nw.use rfl (hZ.2.2.1 _ (List.mem_of_getElem? (i := 0) rfl))) hq9 hcv hcl ?_
    refine lv_astore_n (lv' := [(3, .ref q9), (0, .ref (X 0)), (1, .int x0), (2, .ref o)]) hx hb dL_pass_12 rfl hl (by decide) rfl (fun ls hl => ?_)
    refine lv_iconst (v := 1) hx hb dL_pass_13 rfl ?_
    have hne : ¬ (c_paK x0) = 0 := by rw [hk]; decide
    have eG : (if c_paK x0 = 0 then vp_updL g 0 (c_edN (c_doS S (V 0 + x0) 4) O (c_paV V x0) (V 0 + x0) n0).toInt64 else g) = g := if_neg hne
    have eS : (if c_paK x0 = 0 then c_doS S (V 0 + x0) 4 else S) = S := if_neg hne
    have eO : (if c_paK x0 = 0 then c_edO (c_doS S (V 0 + x0) 4) O (c_paV V x0) (V 0 + x0) n0 else O) = O := if_neg hne
    have eV : (if c_paK x0 = 0 then c_paV V x0 else V) = V := if_neg hne
    exact z_wret hx hb hr hlocks (by rw [eG, eS, eO, eV]; exact hP) hK (by rw [eG, eS, eO, eV]; exact hD) hS1 hk.symm dL_pass_14
  · obtain ⟨hk, hw⟩ := hw
    subst hw
    obtain ⟨hP1, -, hD1⟩ := hB
    rw [ht] at hP1
    obtain ⟨hP, hD⟩ := va_join (wr := [(o, .inl (cJ, 1, .inr (.inl g)))]) (w1 := hW cI cZ X (c_doS S (V 0 + x0) 4) (c_edO (c_doS S (V 0 + x0) 4) O (c_paV V x0) (V 0 + x0) n0) (c_paV V x0)) hP hD [1, 2, 3, 4, 5, 6, 7, 8, 9, 10, 11, 12, 13, 14, 15, 16, 17, 18, 19] [0] rfl rfl (by decide) (by decide) hk1 hFc hP1 hD1
    have hP : va_P D vwCl (oW cJ o g (hW cI cZ X (c_doS S (V 0 + x0) 4) (c_edO (c_doS S (V 0 + x0) 4) O (c_paV V x0) (V 0 + x0) n0) (c_paV V x0))) H1 := hP
    have hD : va_D A (oW cJ o g (hW cI cZ X (c_doS S (V 0 + x0) 4) (c_edO (c_doS S (V 0 + x0) 4) O (c_paV V x0) (V 0 + x0) n0) (c_paV V x0))) := hD
    have hS := hS1
    refine lv_i2l (v := (c_edN (c_doS S (V 0 + x0) 4) O (c_paV V x0) (V 0 + x0) n0).toInt64) hx hb dL_pass_7 rfl ?_
    refine z_last (D := D) (j := 0) (x := (c_edN (c_doS S (V 0 + x0) 4) O (c_paV V x0) (V 0 + x0) n0).toInt64) (f := g) hx hb hK hP hD hS 0 2 rfl rfl (by decide) (by decide) dL_pass_8 (fun H locs hP hD hS => ?_)
    have hP : va_P D vwCl (oW cJ o (vp_updL g 0 (c_edN (c_doS S (V 0 + x0) 4) O (c_paV V x0) (V 0 + x0) n0).toInt64) (hW cI cZ X (c_doS S (V 0 + x0) 4) (c_edO (c_doS S (V 0 + x0) 4) O (c_paV V x0) (V 0 + x0) n0) (c_paV V x0))) H := hP
    have hD : va_D A (oW cJ o (vp_updL g 0 (c_edN (c_doS S (V 0 + x0) 4) O (c_paV V x0) (V 0 + x0) n0).toInt64) (hW cI cZ X (c_doS S (V 0 + x0) 4) (c_edO (c_doS S (V 0 + x0) 4) O (c_paV V x0) (V 0 + x0) n0) (c_paV V x0))) := hD
    refine lv_goto (tgt := 15) hx hb dL_pass_9 (by decide) ?_
    refine lv_iconst (v := 0) hx hb dL_pass_15 rfl ?_
    have eG : (if c_paK x0 = 0 then vp_updL g 0 (c_edN (c_doS S (V 0 + x0) 4) O (c_paV V x0) (V 0 + x0) n0).toInt64 else g) = vp_updL g 0 (c_edN (c_doS S (V 0 + x0) 4) O (c_paV V x0) (V 0 + x0) n0).toInt64 := by rw [if_pos hk]
    have eS : (if c_paK x0 = 0 then c_doS S (V 0 + x0) 4 else S) = c_doS S (V 0 + x0) 4 := if_pos hk
    have eO : (if c_paK x0 = 0 then c_edO (c_doS S (V 0 + x0) 4) O (c_paV V x0) (V 0 + x0) n0 else O) = c_edO (c_doS S (V 0 + x0) 4) O (c_paV V x0) (V 0 + x0) n0 := if_pos hk
    have eV : (if c_paK x0 = 0 then c_paV V x0 else V) = c_paV V x0 := if_pos hk
    exact z_wret hx hb hr hlocks (by rw [eG, eS, eO, eV]; exact hP) hK (by rw [eG, eS, eO, eV]; exact hD) hS hk.symm dL_pass_16

set_option maxHeartbeats 4000000 in
set_option maxRecDepth 100000 in
theorem kL_breakGlass (l : Launch) (hl0 : l.stackTraces = false) (D : va_G) (cI cZ cJ : ClassId) (X : Nat → Nat) (S : Nat → Nat → Int32) (O : Nat → Bool) (V : Nat → Int32) (o : Nat) (g : Nat → Int64) (sz : Nat) (x0 : Int32) (x1 : Int32) (x2 : Int32) (x3 : Int32) : Met l yL_breakGlass wsL_breakGlass ({ frames := 7, cells := 1, slots := 6, locals := 136 } : Room) (zL D (tyx cI cZ cJ) (oW cJ o g (hW cI cZ X S O V)) sz [.ref (X 0), .int x0, .int x1, .int x2, .int x3, .ref o]) (zQi D (tyx cI cZ cJ) (oW cJ o (if c_bgK S x0 x1 x2 x3 = 0 then vp_updL g 0 (V 0 + 60).toInt64 else g) (hW cI cZ X (if c_bgK S x0 x1 x2 x3 = 0 then va_up S 6 (upd (S 6) (ix x0 * 6 + ix x1) (V 0 + 60)) else S) O V)) (c_bgK S x0 x1 x2 x3) (va_A (oW cJ o g (hW cI cZ X S O V)) sz)) 1 6 (va_A (oW cJ o g (hW cI cZ X S O V)) sz) := by
  refine z_ofWH (cc := cL_breakGlass) (maxL := 7) (ret := (some .int)) (by decide) rfl ?_
  intro p e s m args below meth c s₁ B hml hv
  obtain ⟨rfl, hsz, hP, hK, hD0, hZ, hY⟩ := hv
  have hx := B.exec
  have hb := B.bytes
  have hr := B.returns
  have hts := atoms_spec (ws := wsL_breakGlass) B.pre
  have hown : s.vm.findClass RL = some m.cls := findClass_of_methodNamed B.named
  have hlocks := B.notSynchronized
  subst hsz
  have hD := hD0.self (sz := s.heap.size)
  generalize hAe : va_A (oW cJ o g (hW cI cZ X S O V)) s.heap.size = A at hD hZ ⊢
  have hA : ∀ q : Nat, s.heap.size ≤ q → A q := fun q h => by rw [← hAe]; exact Or.inr h
  have hS : va_S A s.heap s.heap [] := va_S.rf
  have htab := vx_table (x := yL_breakGlass) B (hts (.codeWith yL_breakGlass cL_breakGlass 7 (some .int) [(0, 14, 17, 13), (0, 14, 21, 18)]) List.mem_cons_self)
  have xl13 := hts (.classLink RL 13 "java/lang/IllegalArgumentException") (by decide +kernel)
  have xl18 := hts (.classLink RL 18 "java/lang/IllegalStateException") (by decide +kernel)
  have hl := lv_entry ([.ref (X 0), .int x0, .int x1, .int x2, .int x3, .ref o]) (n := 7) (Nat.le_of_ble_eq_true rfl)
  rw [lg_entry_eq]
  generalize (lg_sl ([.ref (X 0), .int x0, .int x1, .int x2, .int x3, .ref o]) ++ List.replicate (7 - (lg_sl ([.ref (X 0), .int x0, .int x1, .int x2, .int x3, .ref o])).length) Slot.unset).toArray = ls at hl ⊢
  have hl : lv_has ls 7 [(0, .ref (X 0)), (1, .int x0), (2, .int x1), (3, .int x2), (4, .int x3), (5, .ref o)] := hl
  refine lv_aload hx hb dL_breakGlass_0 (lv_at hl 5 rfl) ?_
  refine lv_iconst (v := nI 0) hx hb dL_breakGlass_2 rfl ?_
  refine lv_aload_n hx hb dL_breakGlass_3 rfl (lv_at hl 0 rfl) ?_
  refine lv_iload_n hx hb dL_breakGlass_4 rfl (lv_at hl 1 rfl) ?_
  refine lv_iload_n hx hb dL_breakGlass_5 rfl (lv_at hl 2 rfl) ?_
  refine lv_iload_n hx hb dL_breakGlass_6 rfl (lv_at hl 3 rfl) ?_
  refine lv_iload hx hb dL_breakGlass_7 (lv_at hl 4 rfl) ?_
  have hPc := hP.sub (ws' := hW cI cZ X S O V) [1, 2, 3, 4, 5, 6, 7, 8, 9, 10, 11, 12, 13, 14, 15, 16, 17, 18, 19] rfl
  have hDc := hD.sub (ws' := hW cI cZ X S O V) [1, 2, 3, 4, 5, 6, 7, 8, 9, 10, 11, 12, 13, 14, 15, 16, 17, 18, 19] (by decide) rfl
  have hKc : va_K D vwCl (tyl cI cZ) s := hK.sub [0, 1] rfl
  have hFc := va_free (wc := hW cI cZ X S O V) hD hS hA [1, 2, 3, 4, 5, 6, 7, 8, 9, 10, 11, 12, 13, 14, 15, 16, 17, 18, 19] rfl
  refine vx_calli (vx_runV (As := [.int x0, .int x1, .int x2, .int x3]) (rest := [.int (nI 0), .ref o]) ⟨hx, hb, hml, hown, hts⟩ (kX4_breakGlass l hl0 D cI cZ X S O V _ x0 x1 x2 x3) (cwV 4 hts gL_breakGlass_X4_breakGlass rfl rfl rfl (by decide +kernel) ⟨Nat.le_of_ble_eq_true rfl, Nat.le_of_ble_eq_true rfl⟩) (zT_preV 0 4 hKc hPc hDc (fun U hU hW => zX_narrow (zX_warm hW hU hZ) hFc) rfl rfl) rfl rfl hl.1 rfl (lv_room (Nat.le_of_ble_eq_true rfl)) dL_breakGlass_9 ⟨Nat.le_of_ble_eq_true rfl, Nat.le_of_ble_eq_true rfl⟩) hS (fun q _ h => hFc q h) hFc (fun q _ h => hFc q h) (fun E ce q9 u t H1 locs1 ht hvm _ hBX hz1 hk1 hS1 hq9 hcv hcl => ?_) (fun r u t H1 locs1 ht hvm hw hB hz1 hk1 hS1 => ?_)
  · obtain ⟨hE, hP1, -, hD1⟩ := hBX
    rw [ht] at hP1
    obtain ⟨hP, hD⟩ := va_join (wr := [(o, .inl (cJ, 1, .inr (.inl g)))]) (w1 := hW cI cZ X S O V) hP hD [1, 2, 3, 4, 5, 6, 7, 8, 9, 10, 11, 12, 13, 14, 15, 16, 17, 18, 19] [0] rfl rfl (by decide) (by decide) hk1 hFc hP1 hD1
    have hP : va_P D vwCl (oW cJ o g (hW cI cZ X S O V)) H1 := hP
    have hD : va_D A (oW cJ o g (hW cI cZ X S O V)) := hD
    rcases hE with ⟨hk, rfl⟩ | ⟨hk, rfl⟩
    · refine vx_catch (own := RL) (name := "java/lang/IllegalArgumentException") hown [] ⟨0, 14, 17, 13⟩ [⟨0, 14, 21, 18⟩] (by rw [htab]; rfl) (fun z hz => nomatch hz) (by decide) (by decide) xl13 (va_Nw.use rfl (hZ.2.2.1 _ (List.mem_of_getElem? (i := 0) rfl))) hq9 hcv hcl ?_
      refine lv_astore (lv' := [(6, .ref q9), (0, .ref (X 0)), (1, .int x0), (2, .int x1), (3, .int x2), (4, .int x3), (5, .ref o)]) hx hb dL_breakGlass_17 hl (by decide) rfl (fun ls hl => ?_)
      refine lv_iconst (v := 1) hx hb dL_breakGlass_19 rfl ?_
      have hne : ¬ (c_bgK S x0 x1 x2 x3) = 0 := by rw [hk]; decide
      have eG : (if c_bgK S x0 x1 x2 x3 = 0 then vp_updL g 0 (V 0 + 60).toInt64 else g) = g := if_neg hne
      have eS : (if c_bgK S x0 x1 x2 x3 = 0 then va_up S 6 (upd (S 6) (ix x0 * 6 + ix x1) (V 0 + 60)) else S) = S := if_neg hne
      exact z_wret hx hb hr hlocks (by rw [eG, eS]; exact hP) hK (by rw [eG, eS]; exact hD) hS1 hk.symm dL_breakGlass_20
    · refine vx_catch (own := RL) (name := "java/lang/IllegalStateException") hown [⟨0, 14, 17, 13⟩] ⟨0, 14, 21, 18⟩ [] (by rw [htab]; rfl) (fun z hz => by rw [List.mem_singleton.mp hz]; exact Or.inr ⟨by decide, _, xl13, hY.1⟩) (by decide) (by decide) xl18 (va_Nw.use rfl (hZ.2.2.1 _ (List.mem_of_getElem? (i := 1) rfl))) hq9 hcv hcl ?_
      refine lv_astore (lv' := [(6, .ref q9), (0, .ref (X 0)), (1, .int x0), (2, .int x1), (3, .int x2), (4, .int x3), (5, .ref o)]) hx hb dL_breakGlass_21 hl (by decide) rfl (fun ls hl => ?_)
      refine lv_iconst (v := 2) hx hb dL_breakGlass_23 rfl ?_
      have hne : ¬ (c_bgK S x0 x1 x2 x3) = 0 := by rw [hk]; decide
      have eG : (if c_bgK S x0 x1 x2 x3 = 0 then vp_updL g 0 (V 0 + 60).toInt64 else g) = g := if_neg hne
      have eS : (if c_bgK S x0 x1 x2 x3 = 0 then va_up S 6 (upd (S 6) (ix x0 * 6 + ix x1) (V 0 + 60)) else S) = S := if_neg hne
      exact z_wret hx hb hr hlocks (by rw [eG, eS]; exact hP) hK (by rw [eG, eS]; exact hD) hS1 hk.symm dL_breakGlass_24
  · obtain ⟨hk, hw⟩ := hw
    subst hw
    obtain ⟨hP1, -, hD1⟩ := hB
    rw [ht] at hP1
    obtain ⟨hP, hD⟩ := va_join (wr := [(o, .inl (cJ, 1, .inr (.inl g)))]) (w1 := hW cI cZ X (va_up S 6 (upd (S 6) (ix x0 * 6 + ix x1) (V 0 + 60))) O V) hP hD [1, 2, 3, 4, 5, 6, 7, 8, 9, 10, 11, 12, 13, 14, 15, 16, 17, 18, 19] [0] rfl rfl (by decide) (by decide) hk1 hFc hP1 hD1
    have hP : va_P D vwCl (oW cJ o g (hW cI cZ X (va_up S 6 (upd (S 6) (ix x0 * 6 + ix x1) (V 0 + 60))) O V)) H1 := hP
    have hD : va_D A (oW cJ o g (hW cI cZ X (va_up S 6 (upd (S 6) (ix x0 * 6 + ix x1) (V 0 + 60))) O V)) := hD
    have hS := hS1
    refine lv_i2l (v := (V 0 + 60).toInt64) hx hb dL_breakGlass_12 rfl ?_
    refine z_last (D := D) (j := 0) (x := (V 0 + 60).toInt64) (f := g) hx hb hK hP hD hS 0 2 rfl rfl (by decide) (by decide) dL_breakGlass_13 (fun H locs hP hD hS => ?_)
    have hP : va_P D vwCl (oW cJ o (vp_updL g 0 (V 0 + 60).toInt64) (hW cI cZ X (va_up S 6 (upd (S 6) (ix x0 * 6 + ix x1) (V 0 + 60))) O V)) H := hP
    have hD : va_D A (oW cJ o (vp_updL g 0 (V 0 + 60).toInt64) (hW cI cZ X (va_up S 6 (upd (S 6) (ix x0 * 6 + ix x1) (V 0 + 60))) O V)) := hD
    refine lv_goto (tgt := 25) hx hb dL_breakGlass_14 (by decide) ?_
    refine lv_iconst (v := 0) hx hb dL_breakGlass_25 rfl ?_
    have eG : (if c_bgK S x0 x1 x2 x3 = 0 then vp_updL g 0 (V 0 + 60).toInt64 else g) = vp_updL g 0 (V 0 + 60).toInt64 := by rw [if_pos hk]
    have eS : (if c_bgK S x0 x1 x2 x3 = 0 then va_up S 6 (upd (S 6) (ix x0 * 6 + ix x1) (V 0 + 60)) else S) = va_up S 6 (upd (S 6) (ix x0 * 6 + ix x1) (V 0 + 60)) := if_pos hk
    exact z_wret hx hb hr hlocks (by rw [eG, eS]; exact hP) hK (by rw [eG, eS]; exact hD) hS hk.symm dL_breakGlass_26

set_option maxHeartbeats 4000000 in
set_option maxRecDepth 100000 in
theorem kL_setCache (l : Launch) (hl0 : l.stackTraces = false) (D : va_G) (cI cZ cJ : ClassId) (X : Nat → Nat) (S : Nat → Nat → Int32) (O : Nat → Bool) (V : Nat → Int32) (o : Nat) (g : Nat → Int64) (sz : Nat) (x0 : Int32) (x1 : Int32) : Met l yL_setCache wsL_setCache ({ frames := 7, cells := 1, slots := 6, locals := 113 } : Room) (zL D (tyx cI cZ cJ) (oW cJ o g (hW cI cZ X S O V)) sz [.ref (X 0), .int x0, .int x1, .ref o]) (zQi D (tyx cI cZ cJ) (oW cJ o (if c_scK x0 x1 = 0 then vp_updL g 0 (S 16 (ix x0)).toInt64 else g) (hW cI cZ X (if c_scK x0 x1 = 0 then c_scS S V (ix x0) x1 else S) O V)) (c_scK x0 x1) (va_A (oW cJ o g (hW cI cZ X S O V)) sz)) 1 6 (va_A (oW cJ o g (hW cI cZ X S O V)) sz) := by
  refine z_ofWH (cc := cL_setCache) (maxL := 5) (ret := (some .int)) (by decide) rfl ?_
  intro p e s m args below meth c s₁ B hml hv
  obtain ⟨rfl, hsz, hP, hK, hD0, hZ, hY⟩ := hv
  have hx := B.exec
  have hb := B.bytes
  have hr := B.returns
  have hts := atoms_spec (ws := wsL_setCache) B.pre
  have hown : s.vm.findClass RL = some m.cls := findClass_of_methodNamed B.named
  have hlocks := B.notSynchronized
  subst hsz
  have hD := hD0.self (sz := s.heap.size)
  generalize hAe : va_A (oW cJ o g (hW cI cZ X S O V)) s.heap.size = A at hD hZ ⊢
  have hA : ∀ q : Nat, s.heap.size ≤ q → A q := fun q h => by rw [← hAe]; exact Or.inr h
  have hS : va_S A s.heap s.heap [] := va_S.rf
  have htab := vx_table (x := yL_setCache) B (hts (.codeWith yL_setCache cL_setCache 5 (some .int) [(0, 10, 13, 13)]) List.mem_cons_self)
  have xl13 := hts (.classLink RL 13 "java/lang/IllegalArgumentException") (by decide +kernel)
  have hl := lv_entry ([.ref (X 0), .int x0, .int x1, .ref o]) (n := 5) (Nat.le_of_ble_eq_true rfl)
  rw [lg_entry_eq]
  generalize (lg_sl ([.ref (X 0), .int x0, .int x1, .ref o]) ++ List.replicate (5 - (lg_sl ([.ref (X 0), .int x0, .int x1, .ref o])).length) Slot.unset).toArray = ls at hl ⊢
  have hl : lv_has ls 5 [(0, .ref (X 0)), (1, .int x0), (2, .int x1), (3, .ref o)] := hl
  refine lv_aload_n hx hb dL_setCache_0 rfl (lv_at hl 3 rfl) ?_
  refine lv_iconst (v := nI 0) hx hb dL_setCache_1 rfl ?_
  refine lv_aload_n hx hb dL_setCache_2 rfl (lv_at hl 0 rfl) ?_
  refine lv_iload_n hx hb dL_setCache_3 rfl (lv_at hl 1 rfl) ?_
  refine lv_iload_n hx hb dL_setCache_4 rfl (lv_at hl 2 rfl) ?_
  have hPc := hP.sub (ws' := hW cI cZ X S O V) [1, 2, 3, 4, 5, 6, 7, 8, 9, 10, 11, 12, 13, 14, 15, 16, 17, 18, 19] rfl
  have hDc := hD.sub (ws' := hW cI cZ X S O V) [1, 2, 3, 4, 5, 6, 7, 8, 9, 10, 11, 12, 13, 14, 15, 16, 17, 18, 19] (by decide) rfl
  have hKc : va_K D vwCl (tyl cI cZ) s := hK.sub [0, 1] rfl
  have hFc := va_free (wc := hW cI cZ X S O V) hD hS hA [1, 2, 3, 4, 5, 6, 7, 8, 9, 10, 11, 12, 13, 14, 15, 16, 17, 18, 19] rfl
  refine vx_calli (vx_runV (As := [.int x0, .int x1]) (rest := [.int (nI 0), .ref o]) ⟨hx, hb, hml, hown, hts⟩ (kX4_setCache l hl0 D cI cZ X S O V _ x0 x1) (cwV 2 hts gL_setCache_X4_setCache rfl rfl rfl (by decide +kernel) ⟨Nat.le_of_ble_eq_true rfl, Nat.le_of_ble_eq_true rfl⟩) (zT_preV 0 4 hKc hPc hDc (fun U hU hW => zX_narrow (zX_warm hW hU hZ) hFc) rfl rfl) rfl rfl hl.1 rfl (lv_room (Nat.le_of_ble_eq_true rfl)) dL_setCache_5 ⟨Nat.le_of_ble_eq_true rfl, Nat.le_of_ble_eq_true rfl⟩) hS (fun q _ h => hFc q h) hFc (fun q _ h => hFc q h) (fun E ce q9 u t H1 locs1 ht hvm _ hBX hz1 hk1 hS1 hq9 hcv hcl => ?_) (fun r u t H1 locs1 ht hvm hw hB hz1 hk1 hS1 => ?_)
  · obtain ⟨hE, hP1, -, hD1⟩ := hBX
    rw [ht] at hP1
    obtain ⟨hP, hD⟩ := va_join (wr := [(o, .inl (cJ, 1, .inr (.inl g)))]) (w1 := hW cI cZ X S O V) hP hD [1, 2, 3, 4, 5, 6, 7, 8, 9, 10, 11, 12, 13, 14, 15, 16, 17, 18, 19] [0] rfl rfl (by decide) (by decide) hk1 hFc hP1 hD1
    have hP : va_P D vwCl (oW cJ o g (hW cI cZ X S O V)) H1 := hP
    have hD : va_D A (oW cJ o g (hW cI cZ X S O V)) := hD
    obtain ⟨hk, rfl⟩ := hE
    refine vx_catch (own := RL) (name := "java/lang/IllegalArgumentException") hown [] ⟨0, 10, 13, 13⟩ [] (by rw [htab]; rfl) (fun z hz => nomatch hz) (by decide) (by decide) xl13 (va_Nw.use rfl (hZ.2.2.1 _ (List.mem_of_getElem? (i := 0) rfl))) hq9 hcv hcl ?_
    refine lv_astore (lv' := [(4, .ref q9), (0, .ref (X 0)), (1, .int x0), (2, .int x1), (3, .ref o)]) hx hb dL_setCache_13 hl (by decide) rfl (fun ls hl => ?_)
    refine lv_iconst (v := 1) hx hb dL_setCache_15 rfl ?_
    have hne : ¬ (c_scK x0 x1) = 0 := by rw [hk]; decide
    have eG : (if c_scK x0 x1 = 0 then vp_updL g 0 (S 16 (ix x0)).toInt64 else g) = g := if_neg hne
    have eS : (if c_scK x0 x1 = 0 then c_scS S V (ix x0) x1 else S) = S := if_neg hne
    exact z_wret hx hb hr hlocks (by rw [eG, eS]; exact hP) hK (by rw [eG, eS]; exact hD) hS1 hk.symm dL_setCache_16
  · obtain ⟨hk, hw⟩ := hw
    subst hw
    obtain ⟨hP1, -, hD1⟩ := hB
    rw [ht] at hP1
    obtain ⟨hP, hD⟩ := va_join (wr := [(o, .inl (cJ, 1, .inr (.inl g)))]) (w1 := hW cI cZ X (c_scS S V (ix x0) x1) O V) hP hD [1, 2, 3, 4, 5, 6, 7, 8, 9, 10, 11, 12, 13, 14, 15, 16, 17, 18, 19] [0] rfl rfl (by decide) (by decide) hk1 hFc hP1 hD1
    have hP : va_P D vwCl (oW cJ o g (hW cI cZ X (c_scS S V (ix x0) x1) O V)) H1 := hP
    have hD : va_D A (oW cJ o g (hW cI cZ X (c_scS S V (ix x0) x1) O V)) := hD
    have hS := hS1
    refine lv_i2l (v := (S 16 (ix x0)).toInt64) hx hb dL_setCache_8 rfl ?_
    refine z_last (D := D) (j := 0) (x := (S 16 (ix x0)).toInt64) (f := g) hx hb hK hP hD hS 0 2 rfl rfl (by decide) (by decide) dL_setCache_9 (fun H locs hP hD hS => ?_)
    have hP : va_P D vwCl (oW cJ o (vp_updL g 0 (S 16 (ix x0)).toInt64) (hW cI cZ X (c_scS S V (ix x0) x1) O V)) H := hP
    have hD : va_D A (oW cJ o (vp_updL g 0 (S 16 (ix x0)).toInt64) (hW cI cZ X (c_scS S V (ix x0) x1) O V)) := hD
    refine lv_goto (tgt := 17) hx hb dL_setCache_10 (by decide) ?_
    refine lv_iconst (v := 0) hx hb dL_setCache_17 rfl ?_
    have eG : (if c_scK x0 x1 = 0 then vp_updL g 0 (S 16 (ix x0)).toInt64 else g) = vp_updL g 0 (S 16 (ix x0)).toInt64 := by rw [if_pos hk]
    have eS : (if c_scK x0 x1 = 0 then c_scS S V (ix x0) x1 else S) = c_scS S V (ix x0) x1 := if_pos hk
    exact z_wret hx hb hr hlocks (by rw [eG, eS]; exact hP) hK (by rw [eG, eS]; exact hD) hS hk.symm dL_setCache_18

set_option maxHeartbeats 4000000 in
set_option maxRecDepth 100000 in
theorem kL_decide (l : Launch) (hl0 : l.stackTraces = false) (D : va_G) (cI cZ cJ : ClassId) (X : Nat → Nat) (S : Nat → Nat → Int32) (O : Nat → Bool) (V : Nat → Int32) (o : Nat) (g : Nat → Int64) (sz : Nat) (x0 : Int32) (x1 : Int32) (x2 : Int32) (n0 : Nat) (hn0 : n0 ≤ 30) (hct : V 1 = nI n0) (hpe : ∀ j : Nat, j < n0 → vp_in (S 11 j) 10) : Met l yL_decide wsL_decide ({ frames := 7, cells := 1, slots := 6, locals := 159 } : Room) (zL D (tyx cI cZ cJ) (oW cJ o g (hW cI cZ X S O V)) sz [.ref (X 0), .int x0, .int x1, .int x2, .ref o]) (zQi D (tyx cI cZ cJ) (oW cJ o (if c_deK V x0 x1 x2 = 0 then vp_updL g 0 (if O (ix x1) = true then 2 else c_appR (c_deS1 S V (ix x1)) V (ix x0) (ix (S 11 (ix x1))) (ix x2)).toInt64 else g) (hW cI cZ X (if c_deK V x0 x1 x2 = 0 then if O (ix x1) = true then S else c_appS (c_deS1 S V (ix x1)) V (ix x0) (ix (S 11 (ix x1))) (ix x2) else S) O V)) (c_deK V x0 x1 x2) (va_A (oW cJ o g (hW cI cZ X S O V)) sz)) 1 6 (va_A (oW cJ o g (hW cI cZ X S O V)) sz) := by
  refine z_ofWH (cc := cL_decide) (maxL := 6) (ret := (some .int)) (by decide) rfl ?_
  intro p e s m args below meth c s₁ B hml hv
  obtain ⟨rfl, hsz, hP, hK, hD0, hZ, hY⟩ := hv
  have hx := B.exec
  have hb := B.bytes
  have hr := B.returns
  have hts := atoms_spec (ws := wsL_decide) B.pre
  have hown : s.vm.findClass RL = some m.cls := findClass_of_methodNamed B.named
  have hlocks := B.notSynchronized
  subst hsz
  have hD := hD0.self (sz := s.heap.size)
  generalize hAe : va_A (oW cJ o g (hW cI cZ X S O V)) s.heap.size = A at hD hZ ⊢
  have hA : ∀ q : Nat, s.heap.size ≤ q → A q := fun q h => by rw [← hAe]; exact Or.inr h
  have hS : va_S A s.heap s.heap [] := va_S.rf
  have htab := vx_table (x := yL_decide) B (hts (.codeWith yL_decide cL_decide 6 (some .int) [(0, 12, 15, 13), (0, 12, 19, 42)]) List.mem_cons_self)
  have xl13 := hts (.classLink RL 13 "java/lang/IllegalArgumentException") (by decide +kernel)
  have xl42 := hts (.classLink RL 42 "java/lang/IndexOutOfBoundsException") (by decide +kernel)
  have hl := lv_entry ([.ref (X 0), .int x0, .int x1, .int x2, .ref o]) (n := 6) (Nat.le_of_ble_eq_true rfl)
  rw [lg_entry_eq]
  generalize (lg_sl ([.ref (X 0), .int x0, .int x1, .int x2, .ref o]) ++ List.replicate (6 - (lg_sl ([.ref (X 0), .int x0, .int x1, .int x2, .ref o])).length) Slot.unset).toArray = ls at hl ⊢
  have hl : lv_has ls 6 [(0, .ref (X 0)), (1, .int x0), (2, .int x1), (3, .int x2), (4, .ref o)] := hl
  refine lv_aload hx hb dL_decide_0 (lv_at hl 4 rfl) ?_
  refine lv_iconst (v := nI 0) hx hb dL_decide_2 rfl ?_
  refine lv_aload_n hx hb dL_decide_3 rfl (lv_at hl 0 rfl) ?_
  refine lv_iload_n hx hb dL_decide_4 rfl (lv_at hl 1 rfl) ?_
  refine lv_iload_n hx hb dL_decide_5 rfl (lv_at hl 2 rfl) ?_
  refine lv_iload_n hx hb dL_decide_6 rfl (lv_at hl 3 rfl) ?_
  have hPc := hP.sub (ws' := hW cI cZ X S O V) [1, 2, 3, 4, 5, 6, 7, 8, 9, 10, 11, 12, 13, 14, 15, 16, 17, 18, 19] rfl
  have hDc := hD.sub (ws' := hW cI cZ X S O V) [1, 2, 3, 4, 5, 6, 7, 8, 9, 10, 11, 12, 13, 14, 15, 16, 17, 18, 19] (by decide) rfl
  have hKc : va_K D vwCl (tyl cI cZ) s := hK.sub [0, 1] rfl
  have hFc := va_free (wc := hW cI cZ X S O V) hD hS hA [1, 2, 3, 4, 5, 6, 7, 8, 9, 10, 11, 12, 13, 14, 15, 16, 17, 18, 19] rfl
  refine vx_calli (vx_runV (As := [.int x0, .int x1, .int x2]) (rest := [.int (nI 0), .ref o]) ⟨hx, hb, hml, hown, hts⟩ (kX4_decide l hl0 D cI cZ X S O V _ x0 x1 x2 n0 hn0 hct hpe) (cwV 3 hts gL_decide_X4_decide rfl rfl rfl (by decide +kernel) ⟨Nat.le_of_ble_eq_true rfl, Nat.le_of_ble_eq_true rfl⟩) (zT_preV 0 4 hKc hPc hDc (fun U hU hW => zX_narrow (zX_warm hW hU hZ) hFc) rfl rfl) rfl rfl hl.1 rfl (lv_room (Nat.le_of_ble_eq_true rfl)) dL_decide_7 ⟨Nat.le_of_ble_eq_true rfl, Nat.le_of_ble_eq_true rfl⟩) hS (fun q _ h => hFc q h) hFc (fun q _ h => hFc q h) (fun E ce q9 u t H1 locs1 ht hvm _ hBX hz1 hk1 hS1 hq9 hcv hcl => ?_) (fun r u t H1 locs1 ht hvm hw hB hz1 hk1 hS1 => ?_)
  · obtain ⟨hE, hP1, -, hD1⟩ := hBX
    rw [ht] at hP1
    obtain ⟨hP, hD⟩ := va_join (wr := [(o, .inl (cJ, 1, .inr (.inl g)))]) (w1 := hW cI cZ X S O V) hP hD [1, 2, 3, 4, 5, 6, 7, 8, 9, 10, 11, 12, 13, 14, 15, 16, 17, 18, 19] [0] rfl rfl (by decide) (by decide) hk1 hFc hP1 hD1
    have hP : va_P D vwCl (oW cJ o g (hW cI cZ X S O V)) H1 := hP
    have hD : va_D A (oW cJ o g (hW cI cZ X S O V)) := hD
    rcases hE with ⟨hk, rfl⟩ | ⟨hk, rfl⟩
    · refine vx_catch (own := RL) (name := "java/lang/IllegalArgumentException") hown [] ⟨0, 12, 15, 13⟩ [⟨0, 12, 19, 42⟩] (by rw [htab]; rfl) (fun z hz => nomatch hz) (by decide) (by decide) xl13 (va_Nw.use rfl (hZ.2.2.1 _ (List.mem_of_getElem? (i := 0) rfl))) hq9 hcv hcl ?_
      refine lv_astore (lv' := [(5, .ref q9), (0, .ref (X 0)), (1, .int x0), (2, .int x1), (3, .int x2), (4, .ref o)]) hx hb dL_decide_15 hl (by decide) rfl (fun ls hl => ?_)
      refine lv_iconst (v := 1) hx hb dL_decide_17 rfl ?_
      have hne : ¬ (c_deK V x0 x1 x2) = 0 := by rw [hk]; decide
      have eG : (if c_deK V x0 x1 x2 = 0 then vp_updL g 0 (if O (ix x1) = true then 2 else c_appR (c_deS1 S V (ix x1)) V (ix x0) (ix (S 11 (ix x1))) (ix x2)).toInt64 else g) = g := if_neg hne
      have eS : (if c_deK V x0 x1 x2 = 0 then if O (ix x1) = true then S else c_appS (c_deS1 S V (ix x1)) V (ix x0) (ix (S 11 (ix x1))) (ix x2) else S) = S := if_neg hne
      exact z_wret hx hb hr hlocks (by rw [eG, eS]; exact hP) hK (by rw [eG, eS]; exact hD) hS1 hk.symm dL_decide_18
    · refine vx_catch (own := RL) (name := "java/lang/IndexOutOfBoundsException") hown [⟨0, 12, 15, 13⟩] ⟨0, 12, 19, 42⟩ [] (by rw [htab]; rfl) (fun z hz => by rw [List.mem_singleton.mp hz]; exact Or.inr ⟨by decide, _, xl13, hY.2.1⟩) (by decide) (by decide) xl42 (va_Nw.use rfl (hZ.2.2.1 _ (List.mem_of_getElem? (i := 2) rfl))) hq9 hcv hcl ?_
      refine lv_astore (lv' := [(5, .ref q9), (0, .ref (X 0)), (1, .int x0), (2, .int x1), (3, .int x2), (4, .ref o)]) hx hb dL_decide_19 hl (by decide) rfl (fun ls hl => ?_)
      refine lv_iconst (v := 2) hx hb dL_decide_21 rfl ?_
      have hne : ¬ (c_deK V x0 x1 x2) = 0 := by rw [hk]; decide
      have eG : (if c_deK V x0 x1 x2 = 0 then vp_updL g 0 (if O (ix x1) = true then 2 else c_appR (c_deS1 S V (ix x1)) V (ix x0) (ix (S 11 (ix x1))) (ix x2)).toInt64 else g) = g := if_neg hne
      have eS : (if c_deK V x0 x1 x2 = 0 then if O (ix x1) = true then S else c_appS (c_deS1 S V (ix x1)) V (ix x0) (ix (S 11 (ix x1))) (ix x2) else S) = S := if_neg hne
      exact z_wret hx hb hr hlocks (by rw [eG, eS]; exact hP) hK (by rw [eG, eS]; exact hD) hS1 hk.symm dL_decide_22
  · obtain ⟨hk, hw⟩ := hw
    subst hw
    obtain ⟨hP1, -, hD1⟩ := hB
    rw [ht] at hP1
    obtain ⟨hP, hD⟩ := va_join (wr := [(o, .inl (cJ, 1, .inr (.inl g)))]) (w1 := hW cI cZ X (if O (ix x1) = true then S else c_appS (c_deS1 S V (ix x1)) V (ix x0) (ix (S 11 (ix x1))) (ix x2)) O V) hP hD [1, 2, 3, 4, 5, 6, 7, 8, 9, 10, 11, 12, 13, 14, 15, 16, 17, 18, 19] [0] rfl rfl (by decide) (by decide) hk1 hFc hP1 hD1
    have hP : va_P D vwCl (oW cJ o g (hW cI cZ X (if O (ix x1) = true then S else c_appS (c_deS1 S V (ix x1)) V (ix x0) (ix (S 11 (ix x1))) (ix x2)) O V)) H1 := hP
    have hD : va_D A (oW cJ o g (hW cI cZ X (if O (ix x1) = true then S else c_appS (c_deS1 S V (ix x1)) V (ix x0) (ix (S 11 (ix x1))) (ix x2)) O V)) := hD
    have hS := hS1
    refine lv_i2l (v := (if O (ix x1) = true then 2 else c_appR (c_deS1 S V (ix x1)) V (ix x0) (ix (S 11 (ix x1))) (ix x2)).toInt64) hx hb dL_decide_10 rfl ?_
    refine z_last (D := D) (j := 0) (x := (if O (ix x1) = true then 2 else c_appR (c_deS1 S V (ix x1)) V (ix x0) (ix (S 11 (ix x1))) (ix x2)).toInt64) (f := g) hx hb hK hP hD hS 0 2 rfl rfl (by decide) (by decide) dL_decide_11 (fun H locs hP hD hS => ?_)
    have hP : va_P D vwCl (oW cJ o (vp_updL g 0 (if O (ix x1) = true then 2 else c_appR (c_deS1 S V (ix x1)) V (ix x0) (ix (S 11 (ix x1))) (ix x2)).toInt64) (hW cI cZ X (if O (ix x1) = true then S else c_appS (c_deS1 S V (ix x1)) V (ix x0) (ix (S 11 (ix x1))) (ix x2)) O V)) H := hP
    have hD : va_D A (oW cJ o (vp_updL g 0 (if O (ix x1) = true then 2 else c_appR (c_deS1 S V (ix x1)) V (ix x0) (ix (S 11 (ix x1))) (ix x2)).toInt64) (hW cI cZ X (if O (ix x1) = true then S else c_appS (c_deS1 S V (ix x1)) V (ix x0) (ix (S 11 (ix x1))) (ix x2)) O V)) := hD
    refine lv_goto (tgt := 23) hx hb dL_decide_12 (by decide) ?_
    refine lv_iconst (v := 0) hx hb dL_decide_23 rfl ?_
    have eG : (if c_deK V x0 x1 x2 = 0 then vp_updL g 0 (if O (ix x1) = true then 2 else c_appR (c_deS1 S V (ix x1)) V (ix x0) (ix (S 11 (ix x1))) (ix x2)).toInt64 else g) = vp_updL g 0 (if O (ix x1) = true then 2 else c_appR (c_deS1 S V (ix x1)) V (ix x0) (ix (S 11 (ix x1))) (ix x2)).toInt64 := by rw [if_pos hk]
    have eS : (if c_deK V x0 x1 x2 = 0 then if O (ix x1) = true then S else c_appS (c_deS1 S V (ix x1)) V (ix x0) (ix (S 11 (ix x1))) (ix x2) else S) = if O (ix x1) = true then S else c_appS (c_deS1 S V (ix x1)) V (ix x0) (ix (S 11 (ix x1))) (ix x2) := if_pos hk
    exact z_wret hx hb hr hlocks (by rw [eG, eS]; exact hP) hK (by rw [eG, eS]; exact hD) hS hk.symm dL_decide_24

set_option maxHeartbeats 4000000 in
set_option maxRecDepth 100000 in
theorem kL_forget (l : Launch) (hl0 : l.stackTraces = false) (D : va_G) (cI cZ cJ : ClassId) (X : Nat → Nat) (S : Nat → Nat → Int32) (O : Nat → Bool) (V : Nat → Int32) (o : Nat) (g : Nat → Int64) (sz : Nat) (x0 : Int32) (x1 : Int32) : Met l yL_forget wsL_forget ({ frames := 7, cells := 1, slots := 6, locals := 112 } : Room) (zL D (tyx cI cZ cJ) (oW cJ o g (hW cI cZ X S O V)) sz [.ref (X 0), .int x0, .int x1, .ref o]) (zQi D (tyx cI cZ cJ) (oW cJ o (if c_foK x0 x1 = 0 then vp_updL g 0 (c_daN S (ix x0) (ix x1) 6).toInt64 else g) (hW cI cZ X (if c_foK x0 x1 = 0 then c_daS S (ix x0) (ix x1) 6 else S) O V)) (c_foK x0 x1) (va_A (oW cJ o g (hW cI cZ X S O V)) sz)) 1 6 (va_A (oW cJ o g (hW cI cZ X S O V)) sz) := by
  refine z_ofWH (cc := cL_forget) (maxL := 5) (ret := (some .int)) (by decide) rfl ?_
  intro p e s m args below meth c s₁ B hml hv
  obtain ⟨rfl, hsz, hP, hK, hD0, hZ, hY⟩ := hv
  have hx := B.exec
  have hb := B.bytes
  have hr := B.returns
  have hts := atoms_spec (ws := wsL_forget) B.pre
  have hown : s.vm.findClass RL = some m.cls := findClass_of_methodNamed B.named
  have hlocks := B.notSynchronized
  subst hsz
  have hD := hD0.self (sz := s.heap.size)
  generalize hAe : va_A (oW cJ o g (hW cI cZ X S O V)) s.heap.size = A at hD hZ ⊢
  have hA : ∀ q : Nat, s.heap.size ≤ q → A q := fun q h => by rw [← hAe]; exact Or.inr h
  have hS : va_S A s.heap s.heap [] := va_S.rf
  have htab := vx_table (x := yL_forget) B (hts (.codeWith yL_forget cL_forget 5 (some .int) [(0, 10, 13, 13)]) List.mem_cons_self)
  have xl13 := hts (.classLink RL 13 "java/lang/IllegalArgumentException") (by decide +kernel)
  have hl := lv_entry ([.ref (X 0), .int x0, .int x1, .ref o]) (n := 5) (Nat.le_of_ble_eq_true rfl)
  rw [lg_entry_eq]
  generalize (lg_sl ([.ref (X 0), .int x0, .int x1, .ref o]) ++ List.replicate (5 - (lg_sl ([.ref (X 0), .int x0, .int x1, .ref o])).length) Slot.unset).toArray = ls at hl ⊢
  have hl : lv_has ls 5 [(0, .ref (X 0)), (1, .int x0), (2, .int x1), (3, .ref o)] := hl
  refine lv_aload_n hx hb dL_forget_0 rfl (lv_at hl 3 rfl) ?_
  refine lv_iconst (v := nI 0) hx hb dL_forget_1 rfl ?_
  refine lv_aload_n hx hb dL_forget_2 rfl (lv_at hl 0 rfl) ?_
  refine lv_iload_n hx hb dL_forget_3 rfl (lv_at hl 1 rfl) ?_
  refine lv_iload_n hx hb dL_forget_4 rfl (lv_at hl 2 rfl) ?_
  have hPc := hP.sub (ws' := hW cI cZ X S O V) [1, 2, 3, 4, 5, 6, 7, 8, 9, 10, 11, 12, 13, 14, 15, 16, 17, 18, 19] rfl
  have hDc := hD.sub (ws' := hW cI cZ X S O V) [1, 2, 3, 4, 5, 6, 7, 8, 9, 10, 11, 12, 13, 14, 15, 16, 17, 18, 19] (by decide) rfl
  have hKc : va_K D vwCl (tyl cI cZ) s := hK.sub [0, 1] rfl
  have hFc := va_free (wc := hW cI cZ X S O V) hD hS hA [1, 2, 3, 4, 5, 6, 7, 8, 9, 10, 11, 12, 13, 14, 15, 16, 17, 18, 19] rfl
  refine vx_calli (vx_runV (As := [.int x0, .int x1]) (rest := [.int (nI 0), .ref o]) ⟨hx, hb, hml, hown, hts⟩ (kX4_forget l hl0 D cI cZ X S O V _ x0 x1) (cwV 2 hts gL_forget_X4_forget rfl rfl rfl (by decide +kernel) ⟨Nat.le_of_ble_eq_true rfl, Nat.le_of_ble_eq_true rfl⟩) (zT_preV 0 4 hKc hPc hDc (fun U hU hW => zX_narrow (zX_warm hW hU hZ) hFc) rfl rfl) rfl rfl hl.1 rfl (lv_room (Nat.le_of_ble_eq_true rfl)) dL_forget_5 ⟨Nat.le_of_ble_eq_true rfl, Nat.le_of_ble_eq_true rfl⟩) hS (fun q _ h => hFc q h) hFc (fun q _ h => hFc q h) (fun E ce q9 u t H1 locs1 ht hvm _ hBX hz1 hk1 hS1 hq9 hcv hcl => ?_) (fun r u t H1 locs1 ht hvm hw hB hz1 hk1 hS1 => ?_)
  · obtain ⟨hE, hP1, -, hD1⟩ := hBX
    rw [ht] at hP1
    obtain ⟨hP, hD⟩ := va_join (wr := [(o, .inl (cJ, 1, .inr (.inl g)))]) (w1 := hW cI cZ X S O V) hP hD [1, 2, 3, 4, 5, 6, 7, 8, 9, 10, 11, 12, 13, 14, 15, 16, 17, 18, 19] [0] rfl rfl (by decide) (by decide) hk1 hFc hP1 hD1
    have hP : va_P D vwCl (oW cJ o g (hW cI cZ X S O V)) H1 := hP
    have hD : va_D A (oW cJ o g (hW cI cZ X S O V)) := hD
    obtain ⟨hk, rfl⟩ := hE
    refine vx_catch (own := RL) (name := "java/lang/IllegalArgumentException") hown [] ⟨0, 10, 13, 13⟩ [] (by rw [htab]; rfl) (fun z hz => nomatch hz) (by decide) (by decide) xl13 (va_Nw.use rfl (hZ.2.2.1 _ (List.mem_of_getElem? (i := 0) rfl))) hq9 hcv hcl ?_
    refine lv_astore (lv' := [(4, .ref q9), (0, .ref (X 0)), (1, .int x0), (2, .int x1), (3, .ref o)]) hx hb dL_forget_13 hl (by decide) rfl (fun ls hl => ?_)
    refine lv_iconst (v := 1) hx hb dL_forget_15 rfl ?_
    have hne : ¬ (c_foK x0 x1) = 0 := by rw [hk]; decide
    have eG : (if c_foK x0 x1 = 0 then vp_updL g 0 (c_daN S (ix x0) (ix x1) 6).toInt64 else g) = g := if_neg hne
    have eS : (if c_foK x0 x1 = 0 then c_daS S (ix x0) (ix x1) 6 else S) = S := if_neg hne
    exact z_wret hx hb hr hlocks (by rw [eG, eS]; exact hP) hK (by rw [eG, eS]; exact hD) hS1 hk.symm dL_forget_16
  · obtain ⟨hk, hw⟩ := hw
    subst hw
    obtain ⟨hP1, -, hD1⟩ := hB
    rw [ht] at hP1
    obtain ⟨hP, hD⟩ := va_join (wr := [(o, .inl (cJ, 1, .inr (.inl g)))]) (w1 := hW cI cZ X (c_daS S (ix x0) (ix x1) 6) O V) hP hD [1, 2, 3, 4, 5, 6, 7, 8, 9, 10, 11, 12, 13, 14, 15, 16, 17, 18, 19] [0] rfl rfl (by decide) (by decide) hk1 hFc hP1 hD1
    have hP : va_P D vwCl (oW cJ o g (hW cI cZ X (c_daS S (ix x0) (ix x1) 6) O V)) H1 := hP
    have hD : va_D A (oW cJ o g (hW cI cZ X (c_daS S (ix x0) (ix x1) 6) O V)) := hD
    have hS := hS1
    refine lv_i2l (v := (c_daN S (ix x0) (ix x1) 6).toInt64) hx hb dL_forget_8 rfl ?_
    refine z_last (D := D) (j := 0) (x := (c_daN S (ix x0) (ix x1) 6).toInt64) (f := g) hx hb hK hP hD hS 0 2 rfl rfl (by decide) (by decide) dL_forget_9 (fun H locs hP hD hS => ?_)
    have hP : va_P D vwCl (oW cJ o (vp_updL g 0 (c_daN S (ix x0) (ix x1) 6).toInt64) (hW cI cZ X (c_daS S (ix x0) (ix x1) 6) O V)) H := hP
    have hD : va_D A (oW cJ o (vp_updL g 0 (c_daN S (ix x0) (ix x1) 6).toInt64) (hW cI cZ X (c_daS S (ix x0) (ix x1) 6) O V)) := hD
    refine lv_goto (tgt := 17) hx hb dL_forget_10 (by decide) ?_
    refine lv_iconst (v := 0) hx hb dL_forget_17 rfl ?_
    have eG : (if c_foK x0 x1 = 0 then vp_updL g 0 (c_daN S (ix x0) (ix x1) 6).toInt64 else g) = vp_updL g 0 (c_daN S (ix x0) (ix x1) 6).toInt64 := by rw [if_pos hk]
    have eS : (if c_foK x0 x1 = 0 then c_daS S (ix x0) (ix x1) 6 else S) = c_daS S (ix x0) (ix x1) 6 := if_pos hk
    exact z_wret hx hb hr hlocks (by rw [eG, eS]; exact hP) hK (by rw [eG, eS]; exact hD) hS hk.symm dL_forget_18

set_option maxHeartbeats 4000000 in
set_option maxRecDepth 100000 in
theorem kL_stale (l : Launch) (hl0 : l.stackTraces = false) (D : va_G) (cI cZ cJ : ClassId) (X : Nat → Nat) (S : Nat → Nat → Int32) (O : Nat → Bool) (V : Nat → Int32) (o : Nat) (g : Nat → Int64) (sz : Nat) (x0 : Int32) : Met l yL_stale wsL_stale ({ frames := 7, cells := 1, slots := 6, locals := 159 } : Room) (zL D (tyx cI cZ cJ) (oW cJ o g (hW cI cZ X S O V)) sz [.ref (X 0), .int x0, .ref o]) (zQi D (tyx cI cZ cJ) (oW cJ o (if c_stK x0 = 0 then vp_updL g 0 (c_stO S V (ix x0) 10).toInt64 else g) (hW cI cZ X S O V)) (c_stK x0) (va_A (oW cJ o g (hW cI cZ X S O V)) sz)) 1 6 (va_A (oW cJ o g (hW cI cZ X S O V)) sz) := by
  refine z_ofWH (cc := cL_stale) (maxL := 4) (ret := (some .int)) (by decide) rfl ?_
  intro p e s m args below meth c s₁ B hml hv
  obtain ⟨rfl, hsz, hP, hK, hD0, hZ, hY⟩ := hv
  have hx := B.exec
  have hb := B.bytes
  have hr := B.returns
  have hts := atoms_spec (ws := wsL_stale) B.pre
  have hown : s.vm.findClass RL = some m.cls := findClass_of_methodNamed B.named
  have hlocks := B.notSynchronized
  subst hsz
  have hD := hD0.self (sz := s.heap.size)
  generalize hAe : va_A (oW cJ o g (hW cI cZ X S O V)) s.heap.size = A at hD hZ ⊢
  have hA : ∀ q : Nat, s.heap.size ≤ q → A q := fun q h => by rw [← hAe]; exact Or.inr h
  have hS : va_S A s.heap s.heap [] := va_S.rf
  have htab := vx_table (x := yL_stale) B (hts (.codeWith yL_stale cL_stale 4 (some .int) [(0, 9, 12, 13)]) List.mem_cons_self)
  have xl13 := hts (.classLink RL 13 "java/lang/IllegalArgumentException") (by decide +kernel)
  have hl := lv_entry ([.ref (X 0), .int x0, .ref o]) (n := 4) (Nat.le_of_ble_eq_true rfl)
  rw [lg_entry_eq]
  generalize (lg_sl ([.ref (X 0), .int x0, .ref o]) ++ List.replicate (4 - (lg_sl ([.ref (X 0), .int x0, .ref o])).length) Slot.unset).toArray = ls at hl ⊢
  have hl : lv_has ls 4 [(0, .ref (X 0)), (1, .int x0), (2, .ref o)] := hl
  refine lv_aload_n hx hb dL_stale_0 rfl (lv_at hl 2 rfl) ?_
  refine lv_iconst (v := nI 0) hx hb dL_stale_1 rfl ?_
  refine lv_aload_n hx hb dL_stale_2 rfl (lv_at hl 0 rfl) ?_
  refine lv_iload_n hx hb dL_stale_3 rfl (lv_at hl 1 rfl) ?_
  have hPc := hP.sub (ws' := hW cI cZ X S O V) [1, 2, 3, 4, 5, 6, 7, 8, 9, 10, 11, 12, 13, 14, 15, 16, 17, 18, 19] rfl
  have hDc := hD.sub (ws' := hW cI cZ X S O V) [1, 2, 3, 4, 5, 6, 7, 8, 9, 10, 11, 12, 13, 14, 15, 16, 17, 18, 19] (by decide) rfl
  have hKc : va_K D vwCl (tyl cI cZ) s := hK.sub [0, 1] rfl
  have hFc := va_free (wc := hW cI cZ X S O V) hD hS hA [1, 2, 3, 4, 5, 6, 7, 8, 9, 10, 11, 12, 13, 14, 15, 16, 17, 18, 19] rfl
  refine vx_calli (vx_runV (As := [.int x0]) (rest := [.int (nI 0), .ref o]) ⟨hx, hb, hml, hown, hts⟩ (kX4_stale l hl0 D cI cZ X S O V _ x0) (cwV 1 hts gL_stale_X4_stale rfl rfl rfl (by decide +kernel) ⟨Nat.le_of_ble_eq_true rfl, Nat.le_of_ble_eq_true rfl⟩) (zT_preV 0 4 hKc hPc hDc (fun U hU hW => zX_narrow (zX_warm hW hU hZ) hFc) rfl rfl) rfl rfl hl.1 rfl (lv_room (Nat.le_of_ble_eq_true rfl)) dL_stale_4 ⟨Nat.le_of_ble_eq_true rfl, Nat.le_of_ble_eq_true rfl⟩) hS (fun q _ h => hFc q h) hFc (fun q _ h => hFc q h) (fun E ce q9 u t H1 locs1 ht hvm _ hBX hz1 hk1 hS1 hq9 hcv hcl => ?_) (fun r u t H1 locs1 ht hvm hw hB hz1 hk1 hS1 => ?_)
  · obtain ⟨hE, hP1, -, hD1⟩ := hBX
    rw [ht] at hP1
    obtain ⟨hP, hD⟩ := va_join (wr := [(o, .inl (cJ, 1, .inr (.inl g)))]) (w1 := hW cI cZ X S O V) hP hD [1, 2, 3, 4, 5, 6, 7, 8, 9, 10, 11, 12, 13, 14, 15, 16, 17, 18, 19] [0] rfl rfl (by decide) (by decide) hk1 hFc hP1 hD1
    have hP : va_P D vwCl (oW cJ o g (hW cI cZ X S O V)) H1 := hP
    have hD : va_D A (oW cJ o g (hW cI cZ X S O V)) := hD
    obtain ⟨hk, rfl⟩ := hE
    refine vx_catch (own := RL) (name := "java/lang/IllegalArgumentException") hown [] ⟨0, 9, 12, 13⟩ [] (by rw [htab]; rfl) (fun z hz => nomatch hz) (by decide) (by decide) xl13 (va_Nw.use rfl (hZ.2.2.1 _ (List.mem_of_getElem? (i := 0) rfl))) hq9 hcv hcl ?_
    refine lv_astore_n (lv' := [(3, .ref q9), (0, .ref (X 0)), (1, .int x0), (2, .ref o)]) hx hb dL_stale_12 rfl hl (by decide) rfl (fun ls hl => ?_)
    refine lv_iconst (v := 1) hx hb dL_stale_13 rfl ?_
    have hne : ¬ (c_stK x0) = 0 := by rw [hk]; decide
    have eG : (if c_stK x0 = 0 then vp_updL g 0 (c_stO S V (ix x0) 10).toInt64 else g) = g := if_neg hne
    exact z_wret hx hb hr hlocks (by rw [eG]; exact hP) hK (by rw [eG]; exact hD) hS1 hk.symm dL_stale_14
  · obtain ⟨hk, hw⟩ := hw
    subst hw
    obtain ⟨hP1, -, hD1⟩ := hB
    rw [ht] at hP1
    obtain ⟨hP, hD⟩ := va_join (wr := [(o, .inl (cJ, 1, .inr (.inl g)))]) (w1 := hW cI cZ X S O V) hP hD [1, 2, 3, 4, 5, 6, 7, 8, 9, 10, 11, 12, 13, 14, 15, 16, 17, 18, 19] [0] rfl rfl (by decide) (by decide) hk1 hFc hP1 hD1
    have hP : va_P D vwCl (oW cJ o g (hW cI cZ X S O V)) H1 := hP
    have hD : va_D A (oW cJ o g (hW cI cZ X S O V)) := hD
    have hS := hS1
    refine lv_i2l (v := (c_stO S V (ix x0) 10).toInt64) hx hb dL_stale_7 rfl ?_
    refine z_last (D := D) (j := 0) (x := (c_stO S V (ix x0) 10).toInt64) (f := g) hx hb hK hP hD hS 0 2 rfl rfl (by decide) (by decide) dL_stale_8 (fun H locs hP hD hS => ?_)
    have hP : va_P D vwCl (oW cJ o (vp_updL g 0 (c_stO S V (ix x0) 10).toInt64) (hW cI cZ X S O V)) H := hP
    have hD : va_D A (oW cJ o (vp_updL g 0 (c_stO S V (ix x0) 10).toInt64) (hW cI cZ X S O V)) := hD
    refine lv_goto (tgt := 15) hx hb dL_stale_9 (by decide) ?_
    refine lv_iconst (v := 0) hx hb dL_stale_15 rfl ?_
    have eG : (if c_stK x0 = 0 then vp_updL g 0 (c_stO S V (ix x0) 10).toInt64 else g) = vp_updL g 0 (c_stO S V (ix x0) 10).toInt64 := by rw [if_pos hk]
    exact z_wret hx hb hr hlocks (by rw [eG]; exact hP) hK (by rw [eG]; exact hD) hS hk.symm dL_stale_16
