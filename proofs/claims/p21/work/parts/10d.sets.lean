set_option maxHeartbeats 4000000 in
set_option maxRecDepth 100000 in
theorem kL_sets (l : Launch) (hl0 : l.stackTraces = false) (D : va_G) (cI cZ : ClassId) (X : Nat → Nat) (S : Nat → Nat → Int32) (O : Nat → Bool) (V : Nat → Int32) (T : Nat → Nat → Int32) (sz : Nat) (ac : Nat) (z : Int32) (n : Nat) (hn : n < 110) (t : Nat) (n0 : Nat) (hR : RelT n t n0 S O V T) : Met l yL_sets wsL_sets ({ frames := 8, cells := 1, slots := 6, locals := 162 } : Room) (zL D (tyl cI cZ) (lW cI cZ X S O V T) sz [.ref (X 0), .int (nI ac), .int z, .ref (X 20), .ref (X 21), .ref (X 22), .ref (X 24), .ref (X 19)]) (zE D cI cZ X n (va_A (lW cI cZ X S O V T) sz)) 1 6 (va_A (lW cI cZ X S O V T) sz) := by
  refine Met.ofW (cc := cL_sets) (maxL := 16) (ret := (some .boolean)) (by decide) rfl ?_
  intro p e s m args below meth c s₁ B hml hv
  obtain ⟨rfl, hsz, hP, hK, hD0, hZ, hY⟩ := hv
  have hx := B.exec
  have hb := B.bytes
  have hr := B.returns
  have hts := atoms_spec (ws := wsL_sets) B.pre
  have hown : s.vm.findClass RL = some m.cls := findClass_of_methodNamed B.named
  have hlocks := B.notSynchronized
  subst hsz
  have hD := hD0.self (sz := s.heap.size)
  generalize hAe : va_A (lW cI cZ X S O V T) s.heap.size = A at hD hZ ⊢
  have hA : ∀ q : Nat, s.heap.size ≤ q → A q := fun q h => by rw [← hAe]; exact Or.inr h
  have hS : va_S A s.heap s.heap [] := va_S.rf
  have hl := lv_entry ([.ref (X 0), .int (nI ac), .int z, .ref (X 20), .ref (X 21), .ref (X 22), .ref (X 24), .ref (X 19)]) (n := 16) (Nat.le_of_ble_eq_true rfl)
  rw [lg_entry_eq]
  generalize (lg_sl ([.ref (X 0), .int (nI ac), .int z, .ref (X 20), .ref (X 21), .ref (X 22), .ref (X 24), .ref (X 19)]) ++ List.replicate (16 - (lg_sl ([.ref (X 0), .int (nI ac), .int z, .ref (X 20), .ref (X 21), .ref (X 22), .ref (X 24), .ref (X 19)])).length) Slot.unset).toArray = ls at hl ⊢
  have hl : lv_has ls 16 [(0, .ref (X 0)), (1, .int (nI ac)), (2, .int z), (3, .ref (X 20)), (4, .ref (X 21)), (5, .ref (X 22)), (6, .ref (X 24)), (7, .ref (X 19))] := hl
  have hG := hR.1
  have hPP := hR.2.1
  have hRS := hR.2.2.1
  have hRK := hR.2.2.2.1
  have hRC := hR.2.2.2.2
  have hn0 : n0 ≤ 30 := Nat.le_trans hRS.1 (by decide)
  have hnL : n0 ≤ 12 := hRS.1
  have hct : V 1 = nI n0 := hRS.2.1
  have hctT : T 19 1 = nI n0 := hRS.2.2.1
  have hV : V 0 = T 19 0 := hRK.2.1.trans hRK.2.2.1.symm
  obtain ⟨j2, hj2, hkV, hkT⟩ := hRK.2.2.2.1
  refine lv_iload_n hx hb dL_sets_0 rfl (lv_at hl 2 rfl) ?_
  refine lv_iconst (v := 4) hx hb dL_sets_1 rfl ?_
  refine z_callLow (W.runS (As := [.int z, .int 4]) (rest := []) ⟨hx, hb, hml, hown, hts⟩ (kL_low l z 4 (by omega) (by omega)) (va_cwS 2 hts gL_sets_L_low rfl rfl rfl (by decide +kernel) ⟨Nat.le_of_ble_eq_true rfl, Nat.le_of_ble_eq_true rfl⟩) zP_pre rfl rfl hl.1 rfl (lv_room (Nat.le_of_ble_eq_true rfl)) dL_sets_2 ⟨Nat.zero_le _, Nat.zero_le _⟩) (by omega) (fun gi hgi => ?_)
  refine lv_istore (lv' := [(8, .int (nI gi)), (0, .ref (X 0)), (1, .int (nI ac)), (2, .int z), (3, .ref (X 20)), (4, .ref (X 21)), (5, .ref (X 22)), (6, .ref (X 24)), (7, .ref (X 19))]) hx hb dL_sets_5 hl (by decide) rfl (fun ls hl => ?_)
  refine lv_iload_n hx hb dL_sets_7 rfl (lv_at hl 2 rfl) ?_
  refine lv_iconst (v := 2) hx hb dL_sets_8 rfl ?_
  refine lv_icmp_ge (tgt := 117) hx hb dL_sets_9 (by decide) (fun c_9 => ?_) (fun c_9 => ?_)
  · refine lv_iload_n hx hb dL_sets_117 rfl (lv_at hl 2 rfl) ?_
    refine lv_iconst (v := 4) hx hb dL_sets_118 rfl ?_
    refine lv_icmp_ge (tgt := 375) hx hb dL_sets_119 (by decide) (fun c_119 => ?_) (fun c_119 => ?_)
    · refine lv_iload_n hx hb dL_sets_375 rfl (lv_at hl 2 rfl) ?_
      refine lv_bipush (v := 7) hx hb dL_sets_376 (by decide) ?_
      refine lv_icmp_ge (tgt := 462) hx hb dL_sets_378 (by decide) (fun c_378 => ?_) (fun c_378 => ?_)
      · refine lv_iload_n hx hb dL_sets_462 rfl (lv_at hl 3 rfl) ?_
        refine lv_iconst (v := 5) hx hb dL_sets_463 rfl ?_
        refine z_callLow (W.runS (As := [.int z, .int 5]) (rest := []) ⟨hx, hb, hml, hown, hts⟩ (kL_low l z 5 (by omega) (by omega)) (va_cwS 2 hts gL_sets_L_low rfl rfl rfl (by decide +kernel) ⟨Nat.le_of_ble_eq_true rfl, Nat.le_of_ble_eq_true rfl⟩) zP_pre rfl rfl hl.1 rfl (lv_room (Nat.le_of_ble_eq_true rfl)) dL_sets_464 ⟨Nat.zero_le _, Nat.zero_le _⟩) (by omega) (fun pi hpi => ?_)
        refine lv_istore (lv' := [(9, .int (nI pi)), (8, .int (nI gi)), (0, .ref (X 0)), (1, .int (nI ac)), (2, .int z), (3, .ref (X 20)), (4, .ref (X 21)), (5, .ref (X 22)), (6, .ref (X 24)), (7, .ref (X 19))]) hx hb dL_sets_467 hl (by decide) rfl (fun ls hl => ?_)
        refine lv_iload_n hx hb dL_sets_469 rfl (lv_at hl 4 rfl) ?_
        refine lv_iconst (v := 4) hx hb dL_sets_470 rfl ?_
        refine lv_ishr hx hb dL_sets_471 ?_
        refine lv_iconst (v := 3) hx hb dL_sets_472 rfl ?_
        refine z_callLow (W.runS (As := [.int (z >>> (4 &&& 31)), .int 3]) (rest := []) ⟨hx, hb, hml, hown, hts⟩ (kL_low l (z >>> (4 &&& 31)) 3 (by omega) (by omega)) (va_cwS 2 hts gL_sets_L_low rfl rfl rfl (by decide +kernel) ⟨Nat.le_of_ble_eq_true rfl, Nat.le_of_ble_eq_true rfl⟩) zP_pre rfl rfl hl.1 rfl (lv_room (Nat.le_of_ble_eq_true rfl)) dL_sets_473 ⟨Nat.zero_le _, Nat.zero_le _⟩) (by omega) (fun ai hai => ?_)
        refine z_cutP (Pr := fun wx : Nat => wx < 4) (pc2 := 498) (ls2 := ls) (st2 := []) (fun J498 => ?_) (fun wx hwx => ?_)
        · refine lv_if_ne (tgt := 490) hx hb dL_sets_476 (by decide) (fun c_476 => ?_) (fun c_476 => ?_)
          · refine lv_iload_n hx hb dL_sets_490 rfl (lv_at hl 4 rfl) ?_
            refine lv_bipush (v := 6) hx hb dL_sets_491 (by decide) ?_
            refine lv_ishr hx hb dL_sets_493 ?_
            refine lv_iconst (v := 2) hx hb dL_sets_494 rfl ?_
            refine z_callLow (W.runS (As := [.int (z >>> (6 &&& 31)), .int 2]) (rest := []) ⟨hx, hb, hml, hown, hts⟩ (kL_low l (z >>> (6 &&& 31)) 2 (by omega) (by omega)) (va_cwS 2 hts gL_sets_L_low rfl rfl rfl (by decide +kernel) ⟨Nat.le_of_ble_eq_true rfl, Nat.le_of_ble_eq_true rfl⟩) zP_pre rfl rfl hl.1 rfl (lv_room (Nat.le_of_ble_eq_true rfl)) dL_sets_495 ⟨Nat.zero_le _, Nat.zero_le _⟩) (by omega) (fun wi hwi => ?_)
            exact J498 wi (by show _ < 4; omega)
          · refine lv_iload_n hx hb dL_sets_479 rfl (lv_at hl 4 rfl) ?_
            refine lv_bipush (v := 6) hx hb dL_sets_480 (by decide) ?_
            refine lv_ishr hx hb dL_sets_482 ?_
            refine lv_iconst (v := 4) hx hb dL_sets_483 rfl ?_
            refine z_callLow (W.runS (As := [.int (z >>> (6 &&& 31)), .int 4]) (rest := []) ⟨hx, hb, hml, hown, hts⟩ (kL_low l (z >>> (6 &&& 31)) 4 (by omega) (by omega)) (va_cwS 2 hts gL_sets_L_low rfl rfl rfl (by decide +kernel) ⟨Nat.le_of_ble_eq_true rfl, Nat.le_of_ble_eq_true rfl⟩) zP_pre rfl rfl hl.1 rfl (lv_room (Nat.le_of_ble_eq_true rfl)) dL_sets_484 ⟨Nat.zero_le _, Nat.zero_le _⟩) (by omega) (fun wi hwi => ?_)
            refine lv_goto (tgt := 498) hx hb dL_sets_487 (by decide) ?_
            exact J498 wi (by show _ < 4; omega)
        · refine lv_istore (lv' := [(10, .int (nI wx)), (9, .int (nI pi)), (8, .int (nI gi)), (0, .ref (X 0)), (1, .int (nI ac)), (2, .int z), (3, .ref (X 20)), (4, .ref (X 21)), (5, .ref (X 22)), (6, .ref (X 24)), (7, .ref (X 19))]) hx hb dL_sets_498 hl (by decide) rfl (fun ls hl => ?_)
          refine lv_iconst (v := nI 0) hx hb dL_sets_500 rfl ?_
          refine lv_istore (lv' := [(11, .int (nI 0)), (10, .int (nI wx)), (9, .int (nI pi)), (8, .int (nI gi)), (0, .ref (X 0)), (1, .int (nI ac)), (2, .int z), (3, .ref (X 20)), (4, .ref (X 21)), (5, .ref (X 22)), (6, .ref (X 24)), (7, .ref (X 19))]) hx hb dL_sets_501 hl (by decide) rfl (fun ls hl => ?_)
          refine lv_iconst (v := nI 0) hx hb dL_sets_503 rfl ?_
          refine lv_istore (lv' := [(12, .int (nI 0)), (11, .int (nI 0)), (10, .int (nI wx)), (9, .int (nI pi)), (8, .int (nI gi)), (0, .ref (X 0)), (1, .int (nI ac)), (2, .int z), (3, .ref (X 20)), (4, .ref (X 21)), (5, .ref (X 22)), (6, .ref (X 24)), (7, .ref (X 19))]) hx hb dL_sets_504 hl (by decide) rfl (fun ls hl => ?_)
          refine z_loopW (N := n0) (nL := 16) (Lc := (fun k => [(12, .int (nI k)), (11, .int (l_num (l_cuts T (nI wx) pi) k)), (10, .int (nI wx)), (9, .int (nI pi)), (8, .int (nI gi)), (0, .ref (X 0)), (1, .int (nI ac)), (2, .int z), (3, .ref (X 20)), (4, .ref (X 21)), (5, .ref (X 22)), (6, .ref (X 24)), (7, .ref (X 19))])) (Wd := fun k => lW cI cZ X S O V (va_up T 24 (l_upR T (l_cuts T (nI wx) pi) k))) (lv_sub hl [0, 1, 2, 3, 4, 5, 6, 7, 8, 9, 10, 11, 12] rfl) hP hD hS (fun H locs ls hP hD hS hl => ?_) (fun k H locs ls hk hP hD hS hl ih => ?_)
          · have hP : va_P D vwCl (lW cI cZ X S O V (va_up T 24 (l_upR T (l_cuts T (nI wx) pi) n0))) H := hP
            have hD : va_D A (lW cI cZ X S O V (va_up T 24 (l_upR T (l_cuts T (nI wx) pi) n0))) := hD
            have hl : lv_has ls 16 [(12, .int (nI n0)), (11, .int (l_num (l_cuts T (nI wx) pi) n0)), (10, .int (nI wx)), (9, .int (nI pi)), (8, .int (nI gi)), (0, .ref (X 0)), (1, .int (nI ac)), (2, .int z), (3, .ref (X 20)), (4, .ref (X 21)), (5, .ref (X 22)), (6, .ref (X 24)), (7, .ref (X 19))] := hl
            refine lv_iload hx hb dL_sets_506 (lv_at hl 0 rfl) ?_
            refine lv_aload hx hb dL_sets_508 (lv_at hl 12 rfl) ?_
            refine lv_iconst (v := 1) hx hb dL_sets_510 rfl ?_
            refine z_iald (D := D) (j := 1) (f := T 19) hx hb hK hP 19 0 rfl rfl (by omega) (by decide) dL_sets_511 ?_
            refine z_top (nI n0) hctT ?_
            refine z_ge_t (tgt := 604) (nI_le (by omega) (by omega)) hx hb dL_sets_512 (by decide) ?_
            refine lv_aload hx hb dL_sets_604 (lv_at hl 10 rfl) ?_
            refine lv_iload hx hb dL_sets_606 (lv_at hl 3 rfl) ?_
            refine lv_iload hx hb dL_sets_608 (lv_at hl 2 rfl) ?_
            refine z_iast (D := D) (j := pi) (f := T 22) hx hb hK hP hD hS 22 0 rfl rfl (by omega) (by decide) dL_sets_610 (fun H locs hP hD hS => ?_)
            have hP : va_P D vwCl (lW cI cZ X S O V (va_up (va_up T 24 (l_upR T (l_cuts T (nI wx) pi) n0)) 22 (upd (T 22) pi (nI wx)))) H := hP
            have hD : va_D A (lW cI cZ X S O V (va_up (va_up T 24 (l_upR T (l_cuts T (nI wx) pi) n0)) 22 (upd (T 22) pi (nI wx)))) := hD
            refine lv_aload_n hx hb dL_sets_611 rfl (lv_at hl 5 rfl) ?_
            refine lv_iload hx hb dL_sets_612 (lv_at hl 3 rfl) ?_
            refine lv_iload hx hb dL_sets_614 (lv_at hl 2 rfl) ?_
            refine z_lawCallW (va_runV (As := [.int (nI pi), .int (nI wx)]) (rest := []) ⟨hx, hb, hml, hown, hts⟩ (kX4_setRisk l D cI cZ X S O V _ pi (nI wx) (by omega) (nI_pos (by omega)) (nI_le (a := wx) (b := 3) (by omega) (by decide)) n0 hn0 hct) (cwV 2 hts gL_sets_X4_setRisk rfl rfl rfl (by decide +kernel) ⟨Nat.le_of_ble_eq_true rfl, Nat.le_of_ble_eq_true rfl⟩) (z_lawW hK hP hD) rfl rfl hl.1 rfl (lv_room (Nat.le_of_ble_eq_true rfl)) dL_sets_616 ⟨Nat.zero_le _, Nat.zero_le _⟩) hP hD hS hA (fun H locs hP hD hS => ?_)
            refine lv_iload hx hb dL_sets_619 (lv_at hl 1 rfl) ?_
            refine z_sel_icmp_ne hx hb dL_sets_621 dL_sets_624 dL_sets_625 dL_sets_628 ?_
            obtain ⟨hv, hR1⟩ : (bi (decide ((if (nI wx) ≤ S 5 pi then 0 else c_eaN (va_up S 5 (upd (S 5) pi (nI wx))) O (nI pi) n0) = l_num (l_cuts T (nI wx) pi) n0))) = 1 ∧ RelQ (n + 1) (va_up S 5 (upd (S 5) pi (nI wx))) (if (nI wx) ≤ S 5 pi then O else c_eaO (va_up S 5 (upd (S 5) pi (nI wx))) O (nI pi) n0) V (va_up (va_up T 24 (l_upR T (l_cuts T (nI wx) pi) n0)) 22 (upd (T 22) pi (nI wx))) := ⟨so_eq (ri_ans hR hpi hwx), ri_rel hR hpi hwx⟩
            refine W.widen (k := 1) (n := 6) (by omega) (by omega) ?_
            exact z_eret hx hb hr hlocks hP hK hD hS hv hR1 dL_sets_629
          · have hP : va_P D vwCl (lW cI cZ X S O V (va_up T 24 (l_upR T (l_cuts T (nI wx) pi) k))) H := hP
            have hD : va_D A (lW cI cZ X S O V (va_up T 24 (l_upR T (l_cuts T (nI wx) pi) k))) := hD
            have hl : lv_has ls 16 [(12, .int (nI k)), (11, .int (l_num (l_cuts T (nI wx) pi) k)), (10, .int (nI wx)), (9, .int (nI pi)), (8, .int (nI gi)), (0, .ref (X 0)), (1, .int (nI ac)), (2, .int z), (3, .ref (X 20)), (4, .ref (X 21)), (5, .ref (X 22)), (6, .ref (X 24)), (7, .ref (X 19))] := hl
            have hn12 := hRS.1
            have ih_506 := ih
            refine lv_iload hx hb dL_sets_506 (lv_at hl 0 rfl) ?_
            refine lv_aload hx hb dL_sets_508 (lv_at hl 12 rfl) ?_
            refine lv_iconst (v := 1) hx hb dL_sets_510 rfl ?_
            refine z_iald (D := D) (j := 1) (f := T 19) hx hb hK hP 19 0 rfl rfl (by omega) (by decide) dL_sets_511 ?_
            refine z_top (nI n0) hctT ?_
            refine z_ge_f (tgt := 604) (nI_ge (by omega) (by omega)) hx hb dL_sets_512 (by decide) ?_
            refine lv_iload hx hb dL_sets_515 (lv_at hl 2 rfl) ?_
            refine lv_aload hx hb dL_sets_517 (lv_at hl 10 rfl) ?_
            refine lv_iload hx hb dL_sets_519 (lv_at hl 3 rfl) ?_
            refine z_iald (D := D) (j := pi) (f := T 22) hx hb hK hP 22 0 rfl rfl (by omega) (by decide) dL_sets_521 ?_
            refine z_cut (G := F0 m 554 ls [.int (bi (l_cuts T (nI wx) pi k))]) (fun J554 => ?_) ?_
            · refine lv_icmp_le (tgt := 553) hx hb dL_sets_522 (by decide) (fun c_522 => ?_) (fun c_522 => ?_)
              · refine lv_iconst (v := 0) hx hb dL_sets_553 rfl ?_
                exact z_top (bi (l_cuts T (nI wx) pi k)) (bi_of0 (by simp [l_cuts, c_9, c_119, c_378, c_522])) J554
              · refine lv_aload hx hb dL_sets_525 (lv_at hl 11 rfl) ?_
                refine lv_iconst (v := 5) hx hb dL_sets_527 rfl ?_
                refine lv_iload hx hb dL_sets_528 (lv_at hl 0 rfl) ?_
                refine lv_imul hx hb dL_sets_530 ?_
                refine z_top (nI (5 * k)) (pk_mul 5 k) ?_
                refine z_iald (D := D) (j := 5 * k) (f := l_upR T (l_cuts T (nI wx) pi) k) hx hb hK hP 24 0 rfl rfl (by omega) (by decide) dL_sets_531 ?_
                refine z_top (T 24 (5 * k)) (l_upR_ne T _ (fun j hj => by omega)) ?_
                refine lv_iload hx hb dL_sets_532 (lv_at hl 3 rfl) ?_
                refine lv_icmp_ne (tgt := 553) hx hb dL_sets_534 (by decide) (fun c_534 => ?_) (fun c_534 => ?_)
                · refine lv_iconst (v := 0) hx hb dL_sets_553 rfl ?_
                  exact z_top (bi (l_cuts T (nI wx) pi k)) (bi_of0 (by simp [l_cuts, c_9, c_119, c_378, c_522, c_534])) J554
                · refine lv_aload hx hb dL_sets_537 (lv_at hl 11 rfl) ?_
                  refine lv_iconst (v := 5) hx hb dL_sets_539 rfl ?_
                  refine lv_iload hx hb dL_sets_540 (lv_at hl 0 rfl) ?_
                  refine lv_imul hx hb dL_sets_542 ?_
                  refine z_top (nI (5 * k)) (pk_mul 5 k) ?_
                  refine lv_iconst (v := 4) hx hb dL_sets_543 rfl ?_
                  refine lv_iadd hx hb dL_sets_544 ?_
                  refine z_top (nI ((5 * k) + 4)) (nI_add (5 * k) 4) ?_
                  refine z_iald (D := D) (j := (5 * k) + 4) (f := l_upR T (l_cuts T (nI wx) pi) k) hx hb hK hP 24 0 rfl rfl (by omega) (by decide) dL_sets_545 ?_
                  refine z_top (T 24 (5 * k + 4)) (l_upR_ne T _ (fun j hj => by omega)) ?_
                  refine z_sel_if_ne hx hb dL_sets_546 dL_sets_549 dL_sets_550 dL_sets_553 ?_
                  exact z_top (bi (l_cuts T (nI wx) pi k)) (congrArg bi (by simp [l_cuts, c_9, c_119, c_378, c_522, (eq_true c_534)])) J554
            · refine lv_istore (lv' := [(13, .int (bi (l_cuts T (nI wx) pi k))), (12, .int (nI k)), (11, .int (l_num (l_cuts T (nI wx) pi) k)), (10, .int (nI wx)), (9, .int (nI pi)), (8, .int (nI gi)), (0, .ref (X 0)), (1, .int (nI ac)), (2, .int z), (3, .ref (X 20)), (4, .ref (X 21)), (5, .ref (X 22)), (6, .ref (X 24)), (7, .ref (X 19))]) hx hb dL_sets_554 hl (by decide) rfl (fun ls hl => ?_)
              refine lv_aload hx hb dL_sets_556 (lv_at hl 12 rfl) ?_
              refine lv_iconst (v := 5) hx hb dL_sets_558 rfl ?_
              refine lv_iload hx hb dL_sets_559 (lv_at hl 1 rfl) ?_
              refine lv_imul hx hb dL_sets_561 ?_
              refine z_top (nI (5 * k)) (pk_mul 5 k) ?_
              refine lv_iconst (v := 4) hx hb dL_sets_562 rfl ?_
              refine lv_iadd hx hb dL_sets_563 ?_
              refine z_top (nI ((5 * k) + 4)) (nI_add (5 * k) 4) ?_
              refine lv_iload hx hb dL_sets_564 (lv_at hl 0 rfl) ?_
              refine z_cut (G := F0 m 582 ls [.int (if l_cuts T (nI wx) pi k = true then 1 else T 24 (5 * k + 4)), .int (nI ((5 * k) + 4)), .ref (X 24)]) (fun J582 => ?_) ?_
              · refine z_if_eq (tgt := 573) hx hb dL_sets_566 (by decide) (fun c_566 => ?_) (fun c_566 => ?_)
                · refine lv_aload hx hb dL_sets_573 (lv_at hl 12 rfl) ?_
                  refine lv_iconst (v := 5) hx hb dL_sets_575 rfl ?_
                  refine lv_iload hx hb dL_sets_576 (lv_at hl 1 rfl) ?_
                  refine lv_imul hx hb dL_sets_578 ?_
                  refine z_top (nI (5 * k)) (pk_mul 5 k) ?_
                  refine lv_iconst (v := 4) hx hb dL_sets_579 rfl ?_
                  refine lv_iadd hx hb dL_sets_580 ?_
                  refine z_top (nI ((5 * k) + 4)) (nI_add (5 * k) 4) ?_
                  refine z_iald (D := D) (j := (5 * k) + 4) (f := l_upR T (l_cuts T (nI wx) pi) k) hx hb hK hP 24 0 rfl rfl (by omega) (by decide) dL_sets_581 ?_
                  refine z_top (T 24 (5 * k + 4)) (l_upR_ne T _ (fun j hj => by omega)) ?_
                  exact z_top (if l_cuts T (nI wx) pi k = true then 1 else T 24 (5 * k + 4)) (by simp [c_9, c_119, c_378, c_566]) J582
                · refine lv_iconst (v := 1) hx hb dL_sets_569 rfl ?_
                  refine lv_goto (tgt := 582) hx hb dL_sets_570 (by decide) ?_
                  exact z_top (if l_cuts T (nI wx) pi k = true then 1 else T 24 (5 * k + 4)) (by simp [c_9, c_119, c_378, c_566]) J582
              · refine z_iast (D := D) (j := (5 * k) + 4) (f := l_upR T (l_cuts T (nI wx) pi) k) hx hb hK hP hD hS 24 0 rfl rfl (by omega) (by decide) dL_sets_582 (fun H locs hP hD hS => ?_)
                have hP : va_P D vwCl (lW cI cZ X S O V (va_up T 24 (upd (l_upR T (l_cuts T (nI wx) pi) k) ((5 * k) + 4) (if l_cuts T (nI wx) pi k = true then 1 else T 24 (5 * k + 4))))) H := hP
                have hD : va_D A (lW cI cZ X S O V (va_up T 24 (upd (l_upR T (l_cuts T (nI wx) pi) k) ((5 * k) + 4) (if l_cuts T (nI wx) pi k = true then 1 else T 24 (5 * k + 4))))) := hD
                refine lv_iload hx hb dL_sets_583 (lv_at hl 2 rfl) ?_
                refine lv_iload hx hb dL_sets_585 (lv_at hl 0 rfl) ?_
                refine z_cut (G := F0 m 595 ls [.int (bi (l_cuts T (nI wx) pi k)), .int (l_num (l_cuts T (nI wx) pi) k)]) (fun J595 => ?_) ?_
                · refine z_if_eq (tgt := 594) hx hb dL_sets_587 (by decide) (fun c_587 => ?_) (fun c_587 => ?_)
                  · refine lv_iconst (v := 0) hx hb dL_sets_594 rfl ?_
                    exact z_top (bi (l_cuts T (nI wx) pi k)) (bi_of0 (by simp [c_9, c_119, c_378, c_587])) J595
                  · refine lv_iconst (v := 1) hx hb dL_sets_590 rfl ?_
                    refine lv_goto (tgt := 595) hx hb dL_sets_591 (by decide) ?_
                    exact z_top (bi (l_cuts T (nI wx) pi k)) (bi_of1 (by simp [c_9, c_119, c_378, c_587])) J595
                · refine lv_iadd hx hb dL_sets_595 ?_
                  refine lv_istore (lv' := [(11, .int ((l_num (l_cuts T (nI wx) pi) k) + (bi (l_cuts T (nI wx) pi k)))), (13, .int (bi (l_cuts T (nI wx) pi k))), (12, .int (nI k)), (10, .int (nI wx)), (9, .int (nI pi)), (8, .int (nI gi)), (0, .ref (X 0)), (1, .int (nI ac)), (2, .int z), (3, .ref (X 20)), (4, .ref (X 21)), (5, .ref (X 22)), (6, .ref (X 24)), (7, .ref (X 19))]) hx hb dL_sets_596 hl (by decide) rfl (fun ls hl => ?_)
                  refine lv_iinc (v := nI (k + 1)) (lv' := [(12, .int (nI (k + 1))), (11, .int ((l_num (l_cuts T (nI wx) pi) k) + (bi (l_cuts T (nI wx) pi k)))), (13, .int (bi (l_cuts T (nI wx) pi k))), (10, .int (nI wx)), (9, .int (nI pi)), (8, .int (nI gi)), (0, .ref (X 0)), (1, .int (nI ac)), (2, .int z), (3, .ref (X 20)), (4, .ref (X 21)), (5, .ref (X 22)), (6, .ref (X 24)), (7, .ref (X 19))]) hx hb dL_sets_598 hl (k := 2) rfl (nI_1 _) (by decide) rfl (fun ls hl => ?_)
                  refine lv_goto (tgt := 506) hx hb dL_sets_601 (by decide) ?_
                  have e11 : (l_num (l_cuts T (nI wx) pi) (k + 1)) = ((l_num (l_cuts T (nI wx) pi) k) + (bi (l_cuts T (nI wx) pi k))) := by rfl
                  have eT : (va_up T 24 (l_upR T (l_cuts T (nI wx) pi) (k + 1))) = (va_up T 24 (upd (l_upR T (l_cuts T (nI wx) pi) k) ((5 * k) + 4) (if l_cuts T (nI wx) pi k = true then 1 else T 24 (5 * k + 4)))) := by rfl
                  exact ih_506 H locs ls (by show va_P D vwCl (lW cI cZ X S O V (va_up T 24 (l_upR T (l_cuts T (nI wx) pi) (k + 1)))) H; rw [eT]; exact hP) (by show va_D A (lW cI cZ X S O V (va_up T 24 (l_upR T (l_cuts T (nI wx) pi) (k + 1)))); rw [eT]; exact hD) hS (by show lv_has ls 16 [(12, .int (nI (k + 1))), (11, .int (l_num (l_cuts T (nI wx) pi) (k + 1))), (10, .int (nI wx)), (9, .int (nI pi)), (8, .int (nI gi)), (0, .ref (X 0)), (1, .int (nI ac)), (2, .int z), (3, .ref (X 20)), (4, .ref (X 21)), (5, .ref (X 22)), (6, .ref (X 24)), (7, .ref (X 19))]; rw [e11]; exact lv_sub hl [0, 1, 3, 4, 5, 6, 7, 8, 9, 10, 11, 12, 13] rfl)
      · refine lv_iload_n hx hb dL_sets_381 rfl (lv_at hl 3 rfl) ?_
        refine lv_iconst (v := 3) hx hb dL_sets_382 rfl ?_
        refine lv_ishr hx hb dL_sets_383 ?_
        refine lv_iconst (v := 3) hx hb dL_sets_384 rfl ?_
        refine z_callLow (W.runS (As := [.int (z >>> (3 &&& 31)), .int 3]) (rest := []) ⟨hx, hb, hml, hown, hts⟩ (kL_low l (z >>> (3 &&& 31)) 3 (by omega) (by omega)) (va_cwS 2 hts gL_sets_L_low rfl rfl rfl (by decide +kernel) ⟨Nat.le_of_ble_eq_true rfl, Nat.le_of_ble_eq_true rfl⟩) zP_pre rfl rfl hl.1 rfl (lv_room (Nat.le_of_ble_eq_true rfl)) dL_sets_385 ⟨Nat.zero_le _, Nat.zero_le _⟩) (by omega) (fun ri hri => ?_)
        refine lv_istore (lv' := [(9, .int (nI ri)), (8, .int (nI gi)), (0, .ref (X 0)), (1, .int (nI ac)), (2, .int z), (3, .ref (X 20)), (4, .ref (X 21)), (5, .ref (X 22)), (6, .ref (X 24)), (7, .ref (X 19))]) hx hb dL_sets_388 hl (by decide) rfl (fun ls hl => ?_)
        refine lv_aload hx hb dL_sets_390 (lv_at hl 6 rfl) ?_
        refine lv_iconst (v := 3) hx hb dL_sets_392 rfl ?_
        refine lv_iload hx hb dL_sets_393 (lv_at hl 1 rfl) ?_
        refine lv_imul hx hb dL_sets_395 ?_
        refine z_top (nI (3 * gi)) (pk_mul 3 gi) ?_
        refine lv_iload hx hb dL_sets_396 (lv_at hl 0 rfl) ?_
        refine lv_iadd hx hb dL_sets_398 ?_
        refine z_top (nI ((3 * gi) + ri)) (nI_add (3 * gi) ri) ?_
        refine z_iald (D := D) (j := (3 * gi) + ri) (f := T 21) hx hb hK hP 21 0 rfl rfl (by omega) (by decide) dL_sets_399 ?_
        refine lv_istore (lv' := [(10, .int (T 21 ((3 * gi) + ri))), (9, .int (nI ri)), (8, .int (nI gi)), (0, .ref (X 0)), (1, .int (nI ac)), (2, .int z), (3, .ref (X 20)), (4, .ref (X 21)), (5, .ref (X 22)), (6, .ref (X 24)), (7, .ref (X 19))]) hx hb dL_sets_400 hl (by decide) rfl (fun ls hl => ?_)
        refine lv_aload hx hb dL_sets_402 (lv_at hl 7 rfl) ?_
        refine lv_iconst (v := 3) hx hb dL_sets_404 rfl ?_
        refine lv_iload hx hb dL_sets_405 (lv_at hl 2 rfl) ?_
        refine lv_imul hx hb dL_sets_407 ?_
        refine z_top (nI (3 * gi)) (pk_mul 3 gi) ?_
        refine lv_iload hx hb dL_sets_408 (lv_at hl 1 rfl) ?_
        refine lv_iadd hx hb dL_sets_410 ?_
        refine z_top (nI ((3 * gi) + ri)) (nI_add (3 * gi) ri) ?_
        refine lv_iload_n hx hb dL_sets_411 rfl (lv_at hl 5 rfl) ?_
        refine lv_iconst (v := 5) hx hb dL_sets_412 rfl ?_
        refine lv_ishr hx hb dL_sets_413 ?_
        refine lv_iconst (v := 4) hx hb dL_sets_414 rfl ?_
        refine z_callLow (W.runS (As := [.int (z >>> (5 &&& 31)), .int 4]) (rest := [.int (nI ((3 * gi) + ri)), .ref (X 21)]) ⟨hx, hb, hml, hown, hts⟩ (kL_low l (z >>> (5 &&& 31)) 4 (by omega) (by omega)) (va_cwS 2 hts gL_sets_L_low rfl rfl rfl (by decide +kernel) ⟨Nat.le_of_ble_eq_true rfl, Nat.le_of_ble_eq_true rfl⟩) zP_pre rfl rfl hl.1 rfl (lv_room (Nat.le_of_ble_eq_true rfl)) dL_sets_415 ⟨Nat.zero_le _, Nat.zero_le _⟩) (by omega) (fun ai hai => ?_)
        refine z_cutP (Pr := fun wx : Nat => wx < 3) (pc2 := 432) (ls2 := ls) (st2 := [.int (nI ((3 * gi) + ri)), .ref (X 21)]) (fun J432 => ?_) (fun wx hwx => ?_)
        · refine lv_if_ne (tgt := 425) hx hb dL_sets_418 (by decide) (fun c_418 => ?_) (fun c_418 => ?_)
          · refine lv_iload_n hx hb dL_sets_425 rfl (lv_at hl 5 rfl) ?_
            refine lv_iconst (v := 5) hx hb dL_sets_426 rfl ?_
            refine lv_ishr hx hb dL_sets_427 ?_
            refine lv_iconst (v := 2) hx hb dL_sets_428 rfl ?_
            refine z_callLow (W.runS (As := [.int (z >>> (5 &&& 31)), .int 2]) (rest := [.int (nI ((3 * gi) + ri)), .ref (X 21)]) ⟨hx, hb, hml, hown, hts⟩ (kL_low l (z >>> (5 &&& 31)) 2 (by omega) (by omega)) (va_cwS 2 hts gL_sets_L_low rfl rfl rfl (by decide +kernel) ⟨Nat.le_of_ble_eq_true rfl, Nat.le_of_ble_eq_true rfl⟩) zP_pre rfl rfl hl.1 rfl (lv_room (Nat.le_of_ble_eq_true rfl)) dL_sets_429 ⟨Nat.zero_le _, Nat.zero_le _⟩) (by omega) (fun wi hwi => ?_)
            exact J432 wi (by show _ < 3; omega)
          · refine lv_iconst (v := 2) hx hb dL_sets_421 rfl ?_
            refine lv_goto (tgt := 432) hx hb dL_sets_422 (by decide) ?_
            exact J432 2 (by show _ < 3; omega)
        · refine z_iast (D := D) (j := (3 * gi) + ri) (f := T 21) hx hb hK hP hD hS 21 0 rfl rfl (by omega) (by decide) dL_sets_432 (fun H locs hP hD hS => ?_)
          have hP : va_P D vwCl (lW cI cZ X S O V (va_up T 21 (upd (T 21) ((3 * gi) + ri) (nI wx)))) H := hP
          have hD : va_D A (lW cI cZ X S O V (va_up T 21 (upd (T 21) ((3 * gi) + ri) (nI wx)))) := hD
          refine lv_aload_n hx hb dL_sets_433 rfl (lv_at hl 3 rfl) ?_
          refine lv_iload hx hb dL_sets_434 (lv_at hl 2 rfl) ?_
          refine lv_iload hx hb dL_sets_436 (lv_at hl 1 rfl) ?_
          refine lv_aload hx hb dL_sets_438 (lv_at hl 7 rfl) ?_
          refine lv_iconst (v := 3) hx hb dL_sets_440 rfl ?_
          refine lv_iload hx hb dL_sets_441 (lv_at hl 2 rfl) ?_
          refine lv_imul hx hb dL_sets_443 ?_
          refine z_top (nI (3 * gi)) (pk_mul 3 gi) ?_
          refine lv_iload hx hb dL_sets_444 (lv_at hl 1 rfl) ?_
          refine lv_iadd hx hb dL_sets_446 ?_
          refine z_top (nI ((3 * gi) + ri)) (nI_add (3 * gi) ri) ?_
          refine z_iald (D := D) (j := (3 * gi) + ri) (f := upd (T 21) ((3 * gi) + ri) (nI wx)) hx hb hK hP 21 0 rfl rfl (by omega) (by decide) dL_sets_447 ?_
          refine z_top (nI wx) pk_us ?_
          refine z_lawCallW (va_runV (As := [.int (nI gi), .int (nI ri), .int (nI wx)]) (rest := []) ⟨hx, hb, hml, hown, hts⟩ (kX4_setRole l D cI cZ X S O V _ gi ri (nI wx) (by omega) (by omega) (nI_pos (by omega)) (nI_le (a := wx) (b := 2) (by omega) (by decide))) (cwV 3 hts gL_sets_X4_setRole rfl rfl rfl (by decide +kernel) ⟨Nat.le_of_ble_eq_true rfl, Nat.le_of_ble_eq_true rfl⟩) (z_lawW hK hP hD) rfl rfl hl.1 rfl (lv_room (Nat.le_of_ble_eq_true rfl)) dL_sets_448 ⟨Nat.zero_le _, Nat.zero_le _⟩) hP hD hS hA (fun H locs hP hD hS => ?_)
          refine lv_iload hx hb dL_sets_451 (lv_at hl 0 rfl) ?_
          refine z_sel_icmp_ne hx hb dL_sets_453 dL_sets_456 dL_sets_457 dL_sets_460 ?_
          obtain ⟨hv, hR1⟩ : (bi (decide (c_roleOf S gi ri = T 21 ((3 * gi) + ri)))) = 1 ∧ RelQ (n + 1) (va_up (va_up S 9 (upd (S 9) ri (c_changed (S 9 ri) (nI gi) (decide ((nI wx) = 1))))) 10 (upd (S 10) ri (c_changed (S 10 ri) (nI gi) (decide ((nI wx) = 2))))) O V (va_up T 21 (upd (T 21) ((3 * gi) + ri) (nI wx))) := ⟨so_eq (sr_ans hG hgi hri), sr_rel hR hgi hri hwx⟩
          refine W.widen (k := 1) (n := 6) (by omega) (by omega) ?_
          exact z_eret hx hb hr hlocks hP hK hD hS hv hR1 dL_sets_461
    · refine lv_iload_n hx hb dL_sets_122 rfl (lv_at hl 3 rfl) ?_
      refine lv_iconst (v := 3) hx hb dL_sets_123 rfl ?_
      refine lv_ishr hx hb dL_sets_124 ?_
      refine lv_iconst (v := 4) hx hb dL_sets_125 rfl ?_
      refine z_callLow (W.runS (As := [.int (z >>> (3 &&& 31)), .int 4]) (rest := []) ⟨hx, hb, hml, hown, hts⟩ (kL_low l (z >>> (3 &&& 31)) 4 (by omega) (by omega)) (va_cwS 2 hts gL_sets_L_low rfl rfl rfl (by decide +kernel) ⟨Nat.le_of_ble_eq_true rfl, Nat.le_of_ble_eq_true rfl⟩) zP_pre rfl rfl hl.1 rfl (lv_room (Nat.le_of_ble_eq_true rfl)) dL_sets_126 ⟨Nat.zero_le _, Nat.zero_le _⟩) (by omega) (fun ii hii => ?_)
      refine lv_istore (lv' := [(9, .int (nI ii)), (8, .int (nI gi)), (0, .ref (X 0)), (1, .int (nI ac)), (2, .int z), (3, .ref (X 20)), (4, .ref (X 21)), (5, .ref (X 22)), (6, .ref (X 24)), (7, .ref (X 19))]) hx hb dL_sets_129 hl (by decide) rfl (fun ls hl => ?_)
      refine lv_iload_n hx hb dL_sets_131 rfl (lv_at hl 4 rfl) ?_
      refine lv_bipush (v := 6) hx hb dL_sets_132 (by decide) ?_
      refine lv_ishr hx hb dL_sets_134 ?_
      refine lv_iconst (v := 3) hx hb dL_sets_135 rfl ?_
      refine z_callLow (W.runS (As := [.int (z >>> (6 &&& 31)), .int 3]) (rest := []) ⟨hx, hb, hml, hown, hts⟩ (kL_low l (z >>> (6 &&& 31)) 3 (by omega) (by omega)) (va_cwS 2 hts gL_sets_L_low rfl rfl rfl (by decide +kernel) ⟨Nat.le_of_ble_eq_true rfl, Nat.le_of_ble_eq_true rfl⟩) zP_pre rfl rfl hl.1 rfl (lv_room (Nat.le_of_ble_eq_true rfl)) dL_sets_136 ⟨Nat.zero_le _, Nat.zero_le _⟩) (by omega) (fun wi hwi => ?_)
      refine z_sel_if_le hx hb dL_sets_139 dL_sets_142 dL_sets_143 dL_sets_146 ?_
      generalize (!decide (nI wi ≤ 0)) = b1
      refine lv_istore (lv' := [(10, .int (bi b1)), (9, .int (nI ii)), (8, .int (nI gi)), (0, .ref (X 0)), (1, .int (nI ac)), (2, .int z), (3, .ref (X 20)), (4, .ref (X 21)), (5, .ref (X 22)), (6, .ref (X 24)), (7, .ref (X 19))]) hx hb dL_sets_147 hl (by decide) rfl (fun ls hl => ?_)
      refine lv_aload_n hx hb dL_sets_149 rfl (lv_at hl 6 rfl) ?_
      refine lv_iconst (v := 4) hx hb dL_sets_150 rfl ?_
      refine lv_iload hx hb dL_sets_151 (lv_at hl 2 rfl) ?_
      refine lv_iadd hx hb dL_sets_153 ?_
      refine z_top (nI (4 + gi)) (nI_add 4 gi) ?_
      refine z_iald (D := D) (j := 4 + gi) (f := T 20) hx hb hK hP 20 0 rfl rfl (by omega) (by decide) dL_sets_154 ?_
      refine lv_iload hx hb dL_sets_155 (lv_at hl 1 rfl) ?_
      refine lv_ishr hx hb dL_sets_157 ?_
      refine lv_iconst (v := 1) hx hb dL_sets_158 rfl ?_
      refine lv_iand hx hb dL_sets_159 ?_
      refine lv_iconst (v := 1) hx hb dL_sets_160 rfl ?_
      refine z_sel_icmp_ne hx hb dL_sets_161 dL_sets_164 dL_sets_165 dL_sets_168 ?_
      refine z_top (bi (hasB (T 20 (4 + gi)) (nI ii))) rfl ?_
      refine lv_istore (lv' := [(11, .int (bi (hasB (T 20 (4 + gi)) (nI ii)))), (10, .int (bi b1)), (9, .int (nI ii)), (8, .int (nI gi)), (0, .ref (X 0)), (1, .int (nI ac)), (2, .int z), (3, .ref (X 20)), (4, .ref (X 21)), (5, .ref (X 22)), (6, .ref (X 24)), (7, .ref (X 19))]) hx hb dL_sets_169 hl (by decide) rfl (fun ls hl => ?_)
      refine lv_aload_n hx hb dL_sets_171 rfl (lv_at hl 7 rfl) ?_
      refine lv_iload hx hb dL_sets_172 (lv_at hl 3 rfl) ?_
      refine z_iald (D := D) (j := gi) (f := T 20) hx hb hK hP 20 0 rfl rfl (by omega) (by decide) dL_sets_174 ?_
      refine lv_istore (lv' := [(12, .int (T 20 gi)), (11, .int (bi (hasB (T 20 (4 + gi)) (nI ii)))), (10, .int (bi b1)), (9, .int (nI ii)), (8, .int (nI gi)), (0, .ref (X 0)), (1, .int (nI ac)), (2, .int z), (3, .ref (X 20)), (4, .ref (X 21)), (5, .ref (X 22)), (6, .ref (X 24)), (7, .ref (X 19))]) hx hb dL_sets_175 hl (by decide) rfl (fun ls hl => ?_)
      refine lv_iconst (v := 0) hx hb dL_sets_177 rfl ?_
      refine lv_istore (lv' := [(13, .int 0), (12, .int (T 20 gi)), (11, .int (bi (hasB (T 20 (4 + gi)) (nI ii)))), (10, .int (bi b1)), (9, .int (nI ii)), (8, .int (nI gi)), (0, .ref (X 0)), (1, .int (nI ac)), (2, .int z), (3, .ref (X 20)), (4, .ref (X 21)), (5, .ref (X 22)), (6, .ref (X 24)), (7, .ref (X 19))]) hx hb dL_sets_178 hl (by decide) rfl (fun ls hl => ?_)
      refine z_cutL (nL := 16) (L := [(13, .int (bi (b1 && (!decide (nI gi = nI ii) && hasB (l_gp T (1 <<< (nI ii &&& 31)) 16) (nI gi))))), (12, .int (T 20 gi)), (11, .int (bi (hasB (T 20 (4 + gi)) (nI ii)))), (10, .int (bi b1)), (9, .int (nI ii)), (8, .int (nI gi)), (0, .ref (X 0)), (1, .int (nI ac)), (2, .int z), (3, .ref (X 20)), (4, .ref (X 21)), (5, .ref (X 22)), (6, .ref (X 24)), (7, .ref (X 19))]) (pc2 := 263) (st2 := []) (fun J263 => ?_) (fun ls hl => ?_)
      · refine lv_iload hx hb dL_sets_180 (lv_at hl 3 rfl) ?_
        refine lv_iconst (v := 1) hx hb dL_sets_182 rfl ?_
        refine lv_icmp_ne (tgt := 263) hx hb dL_sets_183 (by decide) (fun c_183 => ?_) (fun c_183 => ?_)
        · have c_183 := bi_n1 c_183
          have e13 : (bi (b1 && (!decide (nI gi = nI ii) && hasB (l_gp T (1 <<< (nI ii &&& 31)) 16) (nI gi)))) = 0 := by simp [bi_f, c_9, c_119, c_183]
          exact J263 ls (by rw [e13]; exact lv_sub hl [0, 1, 2, 3, 4, 5, 6, 7, 8, 9, 10, 11, 12, 13] rfl)
        · have c_183 := bi_p1 c_183
          refine lv_iload hx hb dL_sets_186 (lv_at hl 5 rfl) ?_
          refine lv_iload hx hb dL_sets_188 (lv_at hl 4 rfl) ?_
          refine lv_icmp_eq (tgt := 263) hx hb dL_sets_190 (by decide) (fun c_190 => ?_) (fun c_190 => ?_)
          · have e13 : (bi (b1 && (!decide (nI gi = nI ii) && hasB (l_gp T (1 <<< (nI ii &&& 31)) 16) (nI gi)))) = 0 := by simp [bi_f, c_9, c_119, (eq_true c_183), c_183, (eq_true c_190)]
            exact J263 ls (by rw [e13]; exact lv_sub hl [0, 1, 2, 3, 4, 5, 6, 7, 8, 9, 10, 11, 12, 13] rfl)
          · refine lv_iconst (v := 1) hx hb dL_sets_193 rfl ?_
            refine lv_iload hx hb dL_sets_194 (lv_at hl 4 rfl) ?_
            refine lv_ishl hx hb dL_sets_196 ?_
            refine lv_istore (lv' := [(14, .int (1 <<< ((nI ii) &&& 31))), (13, .int 0), (12, .int (T 20 gi)), (11, .int (bi (hasB (T 20 (4 + gi)) (nI ii)))), (10, .int (bi b1)), (9, .int (nI ii)), (8, .int (nI gi)), (0, .ref (X 0)), (1, .int (nI ac)), (2, .int z), (3, .ref (X 20)), (4, .ref (X 21)), (5, .ref (X 22)), (6, .ref (X 24)), (7, .ref (X 19))]) hx hb dL_sets_197 hl (by decide) rfl (fun ls hl => ?_)
            refine lv_iconst (v := nI 0) hx hb dL_sets_199 rfl ?_
            refine lv_istore (lv' := [(15, .int (nI 0)), (14, .int (1 <<< ((nI ii) &&& 31))), (13, .int 0), (12, .int (T 20 gi)), (11, .int (bi (hasB (T 20 (4 + gi)) (nI ii)))), (10, .int (bi b1)), (9, .int (nI ii)), (8, .int (nI gi)), (0, .ref (X 0)), (1, .int (nI ac)), (2, .int z), (3, .ref (X 20)), (4, .ref (X 21)), (5, .ref (X 22)), (6, .ref (X 24)), (7, .ref (X 19))]) hx hb dL_sets_200 hl (by decide) rfl (fun ls hl => ?_)
            refine z_loop (N := 16) (nL := 16) (Lc := (fun k => [(15, .int (nI k)), (14, .int (l_gp T (1 <<< (nI ii &&& 31)) k)), (13, .int 0), (12, .int (T 20 gi)), (11, .int (bi (hasB (T 20 (4 + gi)) (nI ii)))), (10, .int (bi b1)), (9, .int (nI ii)), (8, .int (nI gi)), (0, .ref (X 0)), (1, .int (nI ac)), (2, .int z), (3, .ref (X 20)), (4, .ref (X 21)), (5, .ref (X 22)), (6, .ref (X 24)), (7, .ref (X 19))])) (lv_sub hl [0, 1, 2, 3, 4, 5, 6, 7, 8, 9, 10, 11, 12, 13, 14, 15] rfl) (fun ls hl => ?_) (fun k ls hk hl ih => ?_)
            · have hl : lv_has ls 16 [(15, .int (nI 16)), (14, .int (l_gp T (1 <<< (nI ii &&& 31)) 16)), (13, .int 0), (12, .int (T 20 gi)), (11, .int (bi (hasB (T 20 (4 + gi)) (nI ii)))), (10, .int (bi b1)), (9, .int (nI ii)), (8, .int (nI gi)), (0, .ref (X 0)), (1, .int (nI ac)), (2, .int z), (3, .ref (X 20)), (4, .ref (X 21)), (5, .ref (X 22)), (6, .ref (X 24)), (7, .ref (X 19))] := hl
              refine lv_iload hx hb dL_sets_202 (lv_at hl 0 rfl) ?_
              refine lv_bipush (v := nI 16) hx hb dL_sets_204 (by decide) ?_
              refine z_ge_t (tgt := 245) (nI_le (by omega) (by omega)) hx hb dL_sets_206 (by decide) ?_
              refine lv_iload hx hb dL_sets_245 (lv_at hl 1 rfl) ?_
              refine lv_iload hx hb dL_sets_247 (lv_at hl 7 rfl) ?_
              refine lv_ishr hx hb dL_sets_249 ?_
              refine lv_iconst (v := 1) hx hb dL_sets_250 rfl ?_
              refine lv_iand hx hb dL_sets_251 ?_
              refine lv_iconst (v := 1) hx hb dL_sets_252 rfl ?_
              refine z_sel_icmp_ne hx hb dL_sets_253 dL_sets_256 dL_sets_257 dL_sets_260 ?_
              refine z_top (bi (hasB (l_gp T (1 <<< (nI ii &&& 31)) 16) (nI gi))) rfl ?_
              refine lv_istore (lv' := [(13, .int (bi (hasB (l_gp T (1 <<< (nI ii &&& 31)) 16) (nI gi)))), (15, .int (nI 16)), (14, .int (l_gp T (1 <<< (nI ii &&& 31)) 16)), (12, .int (T 20 gi)), (11, .int (bi (hasB (T 20 (4 + gi)) (nI ii)))), (10, .int (bi b1)), (9, .int (nI ii)), (8, .int (nI gi)), (0, .ref (X 0)), (1, .int (nI ac)), (2, .int z), (3, .ref (X 20)), (4, .ref (X 21)), (5, .ref (X 22)), (6, .ref (X 24)), (7, .ref (X 19))]) hx hb dL_sets_261 hl (by decide) rfl (fun ls hl => ?_)
              have e13 : (bi (b1 && (!decide (nI gi = nI ii) && hasB (l_gp T (1 <<< (nI ii &&& 31)) 16) (nI gi)))) = (bi (hasB (l_gp T (1 <<< (nI ii &&& 31)) 16) (nI gi))) := by simp [bi_f, c_9, c_119, (eq_true c_183), c_183, c_190]
              exact J263 ls (by rw [e13]; exact lv_sub hl [0, 3, 4, 5, 6, 7, 8, 9, 10, 11, 12, 13, 14, 15] rfl)
            · have hl : lv_has ls 16 [(15, .int (nI k)), (14, .int (l_gp T (1 <<< (nI ii &&& 31)) k)), (13, .int 0), (12, .int (T 20 gi)), (11, .int (bi (hasB (T 20 (4 + gi)) (nI ii)))), (10, .int (bi b1)), (9, .int (nI ii)), (8, .int (nI gi)), (0, .ref (X 0)), (1, .int (nI ac)), (2, .int z), (3, .ref (X 20)), (4, .ref (X 21)), (5, .ref (X 22)), (6, .ref (X 24)), (7, .ref (X 19))] := hl
              have ih_202 := ih
              refine lv_iload hx hb dL_sets_202 (lv_at hl 0 rfl) ?_
              refine lv_bipush (v := nI 16) hx hb dL_sets_204 (by decide) ?_
              refine z_ge_f (tgt := 245) (nI_ge (by omega) (by omega)) hx hb dL_sets_206 (by decide) ?_
              refine lv_iload hx hb dL_sets_209 (lv_at hl 1 rfl) ?_
              refine lv_iload hx hb dL_sets_211 (lv_at hl 1 rfl) ?_
              refine lv_iload hx hb dL_sets_213 (lv_at hl 0 rfl) ?_
              refine lv_iconst (v := 4) hx hb dL_sets_215 rfl ?_
              refine lv_irem hx hb dL_sets_216 (by decide) ?_
              refine z_top (nI (k % 4)) (pk_rem (a := k) (d := 4) (by omega) (by decide) (by decide)) ?_
              refine lv_ishr hx hb dL_sets_217 ?_
              refine lv_iconst (v := 1) hx hb dL_sets_218 rfl ?_
              refine lv_iand hx hb dL_sets_219 ?_
              refine lv_iconst (v := 1) hx hb dL_sets_220 rfl ?_
              refine z_cut (G := F0 m 236 ls [.int (if hasB (l_gp T (1 <<< (nI ii &&& 31)) k) (nI (k % 4)) = true then T 20 (4 + k % 4) else 0), .int (l_gp T (1 <<< (nI ii &&& 31)) k)]) (fun J236 => ?_) ?_
              · refine lv_icmp_ne (tgt := 235) hx hb dL_sets_221 (by decide) (fun c_221 => ?_) (fun c_221 => ?_)
                · refine lv_iconst (v := 0) hx hb dL_sets_235 rfl ?_
                  exact z_top (if hasB (l_gp T (1 <<< (nI ii &&& 31)) k) (nI (k % 4)) = true then T 20 (4 + k % 4) else 0) (by simp [hasB, c_9, c_119, (eq_true c_183), c_183, c_190, c_221]) J236
                · refine lv_aload_n hx hb dL_sets_224 rfl (lv_at hl 11 rfl) ?_
                  refine lv_iconst (v := 4) hx hb dL_sets_225 rfl ?_
                  refine lv_iload hx hb dL_sets_226 (lv_at hl 0 rfl) ?_
                  refine lv_iconst (v := 4) hx hb dL_sets_228 rfl ?_
                  refine lv_irem hx hb dL_sets_229 (by decide) ?_
                  refine z_top (nI (k % 4)) (pk_rem (a := k) (d := 4) (by omega) (by decide) (by decide)) ?_
                  refine lv_iadd hx hb dL_sets_230 ?_
                  refine z_top (nI (4 + (k % 4))) (nI_add 4 (k % 4)) ?_
                  refine z_iald (D := D) (j := 4 + (k % 4)) (f := T 20) hx hb hK hP 20 0 rfl rfl (by omega) (by decide) dL_sets_231 ?_
                  refine lv_goto (tgt := 236) hx hb dL_sets_232 (by decide) ?_
                  exact z_top (if hasB (l_gp T (1 <<< (nI ii &&& 31)) k) (nI (k % 4)) = true then T 20 (4 + k % 4) else 0) (by simp [hasB, c_9, c_119, (eq_true c_183), c_183, c_190, (eq_true c_221)]) J236
              · refine lv_ior hx hb dL_sets_236 ?_
                refine lv_istore (lv' := [(14, .int ((l_gp T (1 <<< (nI ii &&& 31)) k) ||| (if hasB (l_gp T (1 <<< (nI ii &&& 31)) k) (nI (k % 4)) = true then T 20 (4 + k % 4) else 0))), (15, .int (nI k)), (13, .int 0), (12, .int (T 20 gi)), (11, .int (bi (hasB (T 20 (4 + gi)) (nI ii)))), (10, .int (bi b1)), (9, .int (nI ii)), (8, .int (nI gi)), (0, .ref (X 0)), (1, .int (nI ac)), (2, .int z), (3, .ref (X 20)), (4, .ref (X 21)), (5, .ref (X 22)), (6, .ref (X 24)), (7, .ref (X 19))]) hx hb dL_sets_237 hl (by decide) rfl (fun ls hl => ?_)
                refine lv_iinc (v := nI (k + 1)) (lv' := [(15, .int (nI (k + 1))), (14, .int ((l_gp T (1 <<< (nI ii &&& 31)) k) ||| (if hasB (l_gp T (1 <<< (nI ii &&& 31)) k) (nI (k % 4)) = true then T 20 (4 + k % 4) else 0))), (13, .int 0), (12, .int (T 20 gi)), (11, .int (bi (hasB (T 20 (4 + gi)) (nI ii)))), (10, .int (bi b1)), (9, .int (nI ii)), (8, .int (nI gi)), (0, .ref (X 0)), (1, .int (nI ac)), (2, .int z), (3, .ref (X 20)), (4, .ref (X 21)), (5, .ref (X 22)), (6, .ref (X 24)), (7, .ref (X 19))]) hx hb dL_sets_239 hl (k := 1) rfl (nI_1 _) (by decide) rfl (fun ls hl => ?_)
                refine lv_goto (tgt := 202) hx hb dL_sets_242 (by decide) ?_
                have e14 : (l_gp T (1 <<< (nI ii &&& 31)) (k + 1)) = ((l_gp T (1 <<< (nI ii &&& 31)) k) ||| (if hasB (l_gp T (1 <<< (nI ii &&& 31)) k) (nI (k % 4)) = true then T 20 (4 + k % 4) else 0)) := by rfl
                exact ih_202 ls (by show lv_has ls 16 [(15, .int (nI (k + 1))), (14, .int (l_gp T (1 <<< (nI ii &&& 31)) (k + 1))), (13, .int 0), (12, .int (T 20 gi)), (11, .int (bi (hasB (T 20 (4 + gi)) (nI ii)))), (10, .int (bi b1)), (9, .int (nI ii)), (8, .int (nI gi)), (0, .ref (X 0)), (1, .int (nI ac)), (2, .int z), (3, .ref (X 20)), (4, .ref (X 21)), (5, .ref (X 22)), (6, .ref (X 24)), (7, .ref (X 19))]; rw [e14]; exact lv_sub hl [0, 1, 2, 3, 4, 5, 6, 7, 8, 9, 10, 11, 12, 13, 14, 15] rfl)
      · refine lv_iload hx hb dL_sets_263 (lv_at hl 5 rfl) ?_
        refine lv_iload hx hb dL_sets_265 (lv_at hl 4 rfl) ?_
        refine z_cut (G := F0 m 295 ls [.int (l_due (decide (nI gi = nI ii)) (b1 && (!decide (nI gi = nI ii) && hasB (l_gp T (1 <<< (nI ii &&& 31)) 16) (nI gi))) (hasB (T 20 (4 + gi)) (nI ii)))]) (fun J295 => ?_) ?_
        · refine lv_icmp_ne (tgt := 275) hx hb dL_sets_267 (by decide) (fun c_267 => ?_) (fun c_267 => ?_)
          · refine lv_iload hx hb dL_sets_275 (lv_at hl 0 rfl) ?_
            refine z_if_eq (tgt := 285) hx hb dL_sets_277 (by decide) (fun c_277 => ?_) (fun c_277 => ?_)
            · refine lv_iload hx hb dL_sets_285 (lv_at hl 2 rfl) ?_
              refine z_if_eq (tgt := 294) hx hb dL_sets_287 (by decide) (fun c_287 => ?_) (fun c_287 => ?_)
              · refine lv_iconst (v := 0) hx hb dL_sets_294 rfl ?_
                exact z_top (l_due (decide (nI gi = nI ii)) (b1 && (!decide (nI gi = nI ii) && hasB (l_gp T (1 <<< (nI ii &&& 31)) 16) (nI gi))) (hasB (T 20 (4 + gi)) (nI ii))) (by first | exact l_due_2 c_267 | exact l_due_3 c_267 c_277 | exact l_due_1 c_267 c_277 c_287 | exact l_due_0 c_267 c_277 c_287) J295
              · refine lv_iconst (v := 1) hx hb dL_sets_290 rfl ?_
                refine lv_goto (tgt := 295) hx hb dL_sets_291 (by decide) ?_
                exact z_top (l_due (decide (nI gi = nI ii)) (b1 && (!decide (nI gi = nI ii) && hasB (l_gp T (1 <<< (nI ii &&& 31)) 16) (nI gi))) (hasB (T 20 (4 + gi)) (nI ii))) (by first | exact l_due_2 c_267 | exact l_due_3 c_267 c_277 | exact l_due_1 c_267 c_277 c_287 | exact l_due_0 c_267 c_277 c_287) J295
            · refine lv_bipush (v := (-3)) hx hb dL_sets_280 (by decide) ?_
              refine lv_goto (tgt := 295) hx hb dL_sets_282 (by decide) ?_
              exact z_top (l_due (decide (nI gi = nI ii)) (b1 && (!decide (nI gi = nI ii) && hasB (l_gp T (1 <<< (nI ii &&& 31)) 16) (nI gi))) (hasB (T 20 (4 + gi)) (nI ii))) (by first | exact l_due_2 c_267 | exact l_due_3 c_267 c_277 | exact l_due_1 c_267 c_277 c_287 | exact l_due_0 c_267 c_277 c_287) J295
          · refine lv_bipush (v := (-2)) hx hb dL_sets_270 (by decide) ?_
            refine lv_goto (tgt := 295) hx hb dL_sets_272 (by decide) ?_
            exact z_top (l_due (decide (nI gi = nI ii)) (b1 && (!decide (nI gi = nI ii) && hasB (l_gp T (1 <<< (nI ii &&& 31)) 16) (nI gi))) (hasB (T 20 (4 + gi)) (nI ii))) (by first | exact l_due_2 c_267 | exact l_due_3 c_267 c_277 | exact l_due_1 c_267 c_277 c_287 | exact l_due_0 c_267 c_277 c_287) J295
        · refine lv_istore (lv' := [(14, .int (l_due (decide (nI gi = nI ii)) (b1 && (!decide (nI gi = nI ii) && hasB (l_gp T (1 <<< (nI ii &&& 31)) 16) (nI gi))) (hasB (T 20 (4 + gi)) (nI ii)))), (13, .int (bi (b1 && (!decide (nI gi = nI ii) && hasB (l_gp T (1 <<< (nI ii &&& 31)) 16) (nI gi))))), (12, .int (T 20 gi)), (11, .int (bi (hasB (T 20 (4 + gi)) (nI ii)))), (10, .int (bi b1)), (9, .int (nI ii)), (8, .int (nI gi)), (0, .ref (X 0)), (1, .int (nI ac)), (2, .int z), (3, .ref (X 20)), (4, .ref (X 21)), (5, .ref (X 22)), (6, .ref (X 24)), (7, .ref (X 19))]) hx hb dL_sets_295 hl (by decide) rfl (fun ls hl => ?_)
          refine lv_aload_n hx hb dL_sets_297 rfl (lv_at hl 10 rfl) ?_
          refine lv_iconst (v := 4) hx hb dL_sets_298 rfl ?_
          refine lv_iload hx hb dL_sets_299 (lv_at hl 6 rfl) ?_
          refine lv_iadd hx hb dL_sets_301 ?_
          refine z_top (nI (4 + gi)) (nI_add 4 gi) ?_
          refine lv_iload hx hb dL_sets_302 (lv_at hl 0 rfl) ?_
          refine z_cut (G := F0 m 342 ls [.int (if (0 : Int32) ≤ l_due (decide (nI gi = nI ii)) (b1 && (!decide (nI gi = nI ii) && hasB (l_gp T (1 <<< (nI ii &&& 31)) 16) (nI gi))) (hasB (T 20 (4 + gi)) (nI ii)) then c_changed (T 20 (4 + gi)) (nI ii) (b1) else T 20 (4 + gi)), .int (nI (4 + gi)), .ref (X 20)]) (fun J342 => ?_) ?_
          · refine lv_if_ge (tgt := 316) hx hb dL_sets_304 (by decide) (fun c_304 => ?_) (fun c_304 => ?_)
            · refine lv_aload_n hx hb dL_sets_316 rfl (lv_at hl 10 rfl) ?_
              refine lv_iconst (v := 4) hx hb dL_sets_317 rfl ?_
              refine lv_iload hx hb dL_sets_318 (lv_at hl 6 rfl) ?_
              refine lv_iadd hx hb dL_sets_320 ?_
              refine z_top (nI (4 + gi)) (nI_add 4 gi) ?_
              refine z_iald (D := D) (j := 4 + gi) (f := T 20) hx hb hK hP 20 0 rfl rfl (by omega) (by decide) dL_sets_321 ?_
              refine lv_iload hx hb dL_sets_322 (lv_at hl 3 rfl) ?_
              refine z_cut (G := F0 m 335 ls [.int (if hasB (T 20 (4 + gi)) (nI ii) = true then 1 <<< (nI ii &&& 31) else 0), .int (T 20 (4 + gi)), .int (nI (4 + gi)), .ref (X 20)]) (fun J335 => ?_) ?_
              · refine z_if_eq (tgt := 334) hx hb dL_sets_324 (by decide) (fun c_324 => ?_) (fun c_324 => ?_)
                · refine lv_iconst (v := 0) hx hb dL_sets_334 rfl ?_
                  exact z_top (if hasB (T 20 (4 + gi)) (nI ii) = true then 1 <<< (nI ii &&& 31) else 0) (by simp [c_324]) J335
                · refine lv_iconst (v := 1) hx hb dL_sets_327 rfl ?_
                  refine lv_iload hx hb dL_sets_328 (lv_at hl 5 rfl) ?_
                  refine lv_ishl hx hb dL_sets_330 ?_
                  refine lv_goto (tgt := 335) hx hb dL_sets_331 (by decide) ?_
                  exact z_top (if hasB (T 20 (4 + gi)) (nI ii) = true then 1 <<< (nI ii &&& 31) else 0) (by simp [c_324]) J335
              · refine lv_isub hx hb dL_sets_335 ?_
                refine lv_iload hx hb dL_sets_336 (lv_at hl 4 rfl) ?_
                refine lv_iload hx hb dL_sets_338 (lv_at hl 5 rfl) ?_
                refine lv_ishl hx hb dL_sets_340 ?_
                refine lv_iadd hx hb dL_sets_341 ?_
                refine z_top (c_changed (T 20 (4 + gi)) (nI ii) (b1)) (chg4 hG hgi hii _) ?_
                exact z_top (if (0 : Int32) ≤ l_due (decide (nI gi = nI ii)) (b1 && (!decide (nI gi = nI ii) && hasB (l_gp T (1 <<< (nI ii &&& 31)) 16) (nI gi))) (hasB (T 20 (4 + gi)) (nI ii)) then c_changed (T 20 (4 + gi)) (nI ii) (b1) else T 20 (4 + gi)) (by simp only [c_9, c_119, c_304, if_true, if_false]) J342
            · refine lv_aload_n hx hb dL_sets_307 rfl (lv_at hl 10 rfl) ?_
              refine lv_iconst (v := 4) hx hb dL_sets_308 rfl ?_
              refine lv_iload hx hb dL_sets_309 (lv_at hl 6 rfl) ?_
              refine lv_iadd hx hb dL_sets_311 ?_
              refine z_top (nI (4 + gi)) (nI_add 4 gi) ?_
              refine z_iald (D := D) (j := 4 + gi) (f := T 20) hx hb hK hP 20 0 rfl rfl (by omega) (by decide) dL_sets_312 ?_
              refine lv_goto (tgt := 342) hx hb dL_sets_313 (by decide) ?_
              exact z_top (if (0 : Int32) ≤ l_due (decide (nI gi = nI ii)) (b1 && (!decide (nI gi = nI ii) && hasB (l_gp T (1 <<< (nI ii &&& 31)) 16) (nI gi))) (hasB (T 20 (4 + gi)) (nI ii)) then c_changed (T 20 (4 + gi)) (nI ii) (b1) else T 20 (4 + gi)) (by simp only [c_9, c_119, c_304, if_true, if_false]) J342
          · refine z_iast (D := D) (j := 4 + gi) (f := T 20) hx hb hK hP hD hS 20 0 rfl rfl (by omega) (by decide) dL_sets_342 (fun H locs hP hD hS => ?_)
            have hP : va_P D vwCl (lW cI cZ X S O V (va_up T 20 (upd (T 20) (4 + gi) (if (0 : Int32) ≤ l_due (decide (nI gi = nI ii)) (b1 && (!decide (nI gi = nI ii) && hasB (l_gp T (1 <<< (nI ii &&& 31)) 16) (nI gi))) (hasB (T 20 (4 + gi)) (nI ii)) then c_changed (T 20 (4 + gi)) (nI ii) (b1) else T 20 (4 + gi))))) H := hP
            have hD : va_D A (lW cI cZ X S O V (va_up T 20 (upd (T 20) (4 + gi) (if (0 : Int32) ≤ l_due (decide (nI gi = nI ii)) (b1 && (!decide (nI gi = nI ii) && hasB (l_gp T (1 <<< (nI ii &&& 31)) 16) (nI gi))) (hasB (T 20 (4 + gi)) (nI ii)) then c_changed (T 20 (4 + gi)) (nI ii) (b1) else T 20 (4 + gi))))) := hD
            refine lv_aload_n hx hb dL_sets_343 rfl (lv_at hl 10 rfl) ?_
            refine lv_iload hx hb dL_sets_344 (lv_at hl 6 rfl) ?_
            refine z_iald (D := D) (j := gi) (f := upd (T 20) (4 + gi) (if (0 : Int32) ≤ l_due (decide (nI gi = nI ii)) (b1 && (!decide (nI gi = nI ii) && hasB (l_gp T (1 <<< (nI ii &&& 31)) 16) (nI gi))) (hasB (T 20 (4 + gi)) (nI ii)) then c_changed (T 20 (4 + gi)) (nI ii) (b1) else T 20 (4 + gi))) hx hb hK hP 20 0 rfl rfl (by omega) (by decide) dL_sets_346 ?_
            refine z_top (T 20 gi) (pk_un (by omega)) ?_
            refine lv_iload hx hb dL_sets_347 (lv_at hl 2 rfl) ?_
            refine lv_icmp_ne (tgt := 373) hx hb dL_sets_349 (by decide) (fun q => absurd rfl q) (fun _ => ?_)
            refine lv_aload_n hx hb dL_sets_352 rfl (lv_at hl 7 rfl) ?_
            refine lv_iconst (v := 0) hx hb dL_sets_353 rfl ?_
            refine lv_iload hx hb dL_sets_354 (lv_at hl 6 rfl) ?_
            refine lv_iload hx hb dL_sets_356 (lv_at hl 5 rfl) ?_
            refine lv_iload hx hb dL_sets_358 (lv_at hl 4 rfl) ?_
            refine lv_iconst (v := 0) hx hb dL_sets_360 rfl ?_
            refine z_lawCall (vx_runSW (hh := [(0, 68, 69, 27), (0, 68, 74, 29)]) (As := [.ref (X 0), .int 0, .int (nI gi), .int (nI ii), .int (bi b1), .int 0]) (rest := []) ⟨hx, hb, hml, hown, hts⟩ (kL_calls_0 l hl0 D cI cZ X S O V _ (nI gi) (nI ii) b1 _) (vx_cwSW 6 hts gL_sets_L_calls rfl rfl rfl (by decide +kernel) ⟨Nat.le_of_ble_eq_true rfl, Nat.le_of_ble_eq_true rfl⟩) (z_lawPreL hK hP hD hS hA hZ hY) rfl rfl hl.1 rfl (lv_room (Nat.le_of_ble_eq_true rfl)) dL_sets_361 ⟨Nat.le_of_ble_eq_true rfl, Nat.le_of_ble_eq_true rfl⟩) hP hD hS hA (fun H locs hP hD hS => ?_)
            refine lv_iload hx hb dL_sets_364 (lv_at hl 0 rfl) ?_
            refine z_sel_icmp_ne hx hb dL_sets_366 dL_sets_369 dL_sets_370 dL_sets_373 ?_
            obtain ⟨hv, hR1⟩ : (bi (decide (l_thr (c_sgK S (nI gi) (nI ii) b1) (bi (hasB (S 8 (ix (nI ii))) (nI (ix (nI gi))))) = l_due (decide (nI gi = nI ii)) (b1 && (!decide (nI gi = nI ii) && hasB (l_gp T (1 <<< (nI ii &&& 31)) 16) (nI gi))) (hasB (T 20 (4 + gi)) (nI ii))))) = 1 ∧ RelQ (n + 1) (if c_sgK S (nI gi) (nI ii) b1 = 0 then va_up S 8 (upd (S 8) (ix (nI ii)) (c_changed (S 8 (ix (nI ii))) (nI (ix (nI gi))) b1)) else S) O V (va_up T 20 (upd (T 20) (4 + gi) (if (0 : Int32) ≤ l_due (decide (nI gi = nI ii)) (b1 && (!decide (nI gi = nI ii) && hasB (l_gp T (1 <<< (nI ii &&& 31)) 16) (nI gi))) (hasB (T 20 (4 + gi)) (nI ii)) then c_changed (T 20 (4 + gi)) (nI ii) (b1) else T 20 (4 + gi)))) := ⟨so_eq (sg_ans hR hgi hii _), sg_rel hR hgi hii _⟩
            exact z_eret hx hb hr hlocks hP hK hD hS hv hR1 dL_sets_374
  · refine lv_iload_n hx hb dL_sets_12 rfl (lv_at hl 3 rfl) ?_
    refine lv_iconst (v := 3) hx hb dL_sets_13 rfl ?_
    refine lv_ishr hx hb dL_sets_14 ?_
    refine lv_iconst (v := 5) hx hb dL_sets_15 rfl ?_
    refine z_callLow (W.runS (As := [.int (z >>> (3 &&& 31)), .int 5]) (rest := []) ⟨hx, hb, hml, hown, hts⟩ (kL_low l (z >>> (3 &&& 31)) 5 (by omega) (by omega)) (va_cwS 2 hts gL_sets_L_low rfl rfl rfl (by decide +kernel) ⟨Nat.le_of_ble_eq_true rfl, Nat.le_of_ble_eq_true rfl⟩) zP_pre rfl rfl hl.1 rfl (lv_room (Nat.le_of_ble_eq_true rfl)) dL_sets_16 ⟨Nat.zero_le _, Nat.zero_le _⟩) (by omega) (fun pi hpi => ?_)
    refine lv_istore (lv' := [(9, .int (nI pi)), (8, .int (nI gi)), (0, .ref (X 0)), (1, .int (nI ac)), (2, .int z), (3, .ref (X 20)), (4, .ref (X 21)), (5, .ref (X 22)), (6, .ref (X 24)), (7, .ref (X 19))]) hx hb dL_sets_19 hl (by decide) rfl (fun ls hl => ?_)
    refine lv_iload_n hx hb dL_sets_21 rfl (lv_at hl 4 rfl) ?_
    refine lv_bipush (v := 6) hx hb dL_sets_22 (by decide) ?_
    refine lv_ishr hx hb dL_sets_24 ?_
    refine lv_iconst (v := 4) hx hb dL_sets_25 rfl ?_
    refine z_callLow (W.runS (As := [.int (z >>> (6 &&& 31)), .int 4]) (rest := []) ⟨hx, hb, hml, hown, hts⟩ (kL_low l (z >>> (6 &&& 31)) 4 (by omega) (by omega)) (va_cwS 2 hts gL_sets_L_low rfl rfl rfl (by decide +kernel) ⟨Nat.le_of_ble_eq_true rfl, Nat.le_of_ble_eq_true rfl⟩) zP_pre rfl rfl hl.1 rfl (lv_room (Nat.le_of_ble_eq_true rfl)) dL_sets_26 ⟨Nat.zero_le _, Nat.zero_le _⟩) (by omega) (fun wi hwi => ?_)
    refine z_sel_if_le hx hb dL_sets_29 dL_sets_32 dL_sets_33 dL_sets_36 ?_
    generalize (!decide (nI wi ≤ 0)) = b1
    refine lv_istore (lv' := [(10, .int (bi b1)), (9, .int (nI pi)), (8, .int (nI gi)), (0, .ref (X 0)), (1, .int (nI ac)), (2, .int z), (3, .ref (X 20)), (4, .ref (X 21)), (5, .ref (X 22)), (6, .ref (X 24)), (7, .ref (X 19))]) hx hb dL_sets_37 hl (by decide) rfl (fun ls hl => ?_)
    refine lv_aload_n hx hb dL_sets_39 rfl (lv_at hl 6 rfl) ?_
    refine lv_iload hx hb dL_sets_40 (lv_at hl 2 rfl) ?_
    refine z_iald (D := D) (j := gi) (f := T 20) hx hb hK hP 20 0 rfl rfl (by omega) (by decide) dL_sets_42 ?_
    refine lv_iload hx hb dL_sets_43 (lv_at hl 1 rfl) ?_
    refine lv_ishr hx hb dL_sets_45 ?_
    refine lv_iconst (v := 1) hx hb dL_sets_46 rfl ?_
    refine lv_iand hx hb dL_sets_47 ?_
    refine lv_iconst (v := 1) hx hb dL_sets_48 rfl ?_
    refine z_sel_icmp_ne hx hb dL_sets_49 dL_sets_52 dL_sets_53 dL_sets_56 ?_
    refine z_top (bi (hasB (T 20 gi) (nI pi))) rfl ?_
    refine lv_istore (lv' := [(11, .int (bi (hasB (T 20 gi) (nI pi)))), (10, .int (bi b1)), (9, .int (nI pi)), (8, .int (nI gi)), (0, .ref (X 0)), (1, .int (nI ac)), (2, .int z), (3, .ref (X 20)), (4, .ref (X 21)), (5, .ref (X 22)), (6, .ref (X 24)), (7, .ref (X 19))]) hx hb dL_sets_57 hl (by decide) rfl (fun ls hl => ?_)
    refine lv_aload_n hx hb dL_sets_59 rfl (lv_at hl 7 rfl) ?_
    refine lv_iload hx hb dL_sets_60 (lv_at hl 3 rfl) ?_
    refine lv_aload_n hx hb dL_sets_62 rfl (lv_at hl 7 rfl) ?_
    refine lv_iload hx hb dL_sets_63 (lv_at hl 3 rfl) ?_
    refine z_iald (D := D) (j := gi) (f := T 20) hx hb hK hP 20 0 rfl rfl (by omega) (by decide) dL_sets_65 ?_
    refine lv_iload hx hb dL_sets_66 (lv_at hl 0 rfl) ?_
    refine z_cut (G := F0 m 79 ls [.int (if hasB (T 20 gi) (nI pi) = true then 1 <<< (nI pi &&& 31) else 0), .int (T 20 gi), .int (nI gi), .ref (X 20)]) (fun J79 => ?_) ?_
    · refine z_if_eq (tgt := 78) hx hb dL_sets_68 (by decide) (fun c_68 => ?_) (fun c_68 => ?_)
      · refine lv_iconst (v := 0) hx hb dL_sets_78 rfl ?_
        exact z_top (if hasB (T 20 gi) (nI pi) = true then 1 <<< (nI pi &&& 31) else 0) (by simp [c_9, c_68]) J79
      · refine lv_iconst (v := 1) hx hb dL_sets_71 rfl ?_
        refine lv_iload hx hb dL_sets_72 (lv_at hl 2 rfl) ?_
        refine lv_ishl hx hb dL_sets_74 ?_
        refine lv_goto (tgt := 79) hx hb dL_sets_75 (by decide) ?_
        exact z_top (if hasB (T 20 gi) (nI pi) = true then 1 <<< (nI pi &&& 31) else 0) (by simp [c_9, c_68]) J79
    · refine lv_isub hx hb dL_sets_79 ?_
      refine lv_iload hx hb dL_sets_80 (lv_at hl 1 rfl) ?_
      refine lv_iload hx hb dL_sets_82 (lv_at hl 2 rfl) ?_
      refine lv_ishl hx hb dL_sets_84 ?_
      refine lv_iadd hx hb dL_sets_85 ?_
      refine z_top (c_changed (T 20 gi) (nI pi) (b1)) (chg5 hG hgi hpi _) ?_
      refine z_iast (D := D) (j := gi) (f := T 20) hx hb hK hP hD hS 20 0 rfl rfl (by omega) (by decide) dL_sets_86 (fun H locs hP hD hS => ?_)
      have hP : va_P D vwCl (lW cI cZ X S O V (va_up T 20 (upd (T 20) gi (c_changed (T 20 gi) (nI pi) (b1))))) H := hP
      have hD : va_D A (lW cI cZ X S O V (va_up T 20 (upd (T 20) gi (c_changed (T 20 gi) (nI pi) (b1))))) := hD
      refine lv_aload_n hx hb dL_sets_87 rfl (lv_at hl 4 rfl) ?_
      refine lv_iload hx hb dL_sets_88 (lv_at hl 3 rfl) ?_
      refine lv_iload hx hb dL_sets_90 (lv_at hl 2 rfl) ?_
      refine lv_iload hx hb dL_sets_92 (lv_at hl 1 rfl) ?_
      refine lv_iconst (v := 1) hx hb dL_sets_94 rfl ?_
      refine z_sel_icmp_ne hx hb dL_sets_95 dL_sets_98 dL_sets_99 dL_sets_102 ?_
      refine z_top (bi b1) (congrArg bi (bi_is _)) ?_
      refine z_lawCallW (va_runV (As := [.int (nI gi), .int (nI pi), .int (bi b1)]) (rest := []) ⟨hx, hb, hml, hown, hts⟩ (kX4_setPerson l D cI cZ X S O V _ gi pi b1 (by omega) (by omega)) (cwV 3 hts gL_sets_X4_setPerson rfl rfl rfl (by decide +kernel) ⟨Nat.le_of_ble_eq_true rfl, Nat.le_of_ble_eq_true rfl⟩) (z_lawW hK hP hD) rfl rfl hl.1 rfl (lv_room (Nat.le_of_ble_eq_true rfl)) dL_sets_103 ⟨Nat.zero_le _, Nat.zero_le _⟩) hP hD hS hA (fun H locs hP hD hS => ?_)
      refine lv_iload hx hb dL_sets_106 (lv_at hl 0 rfl) ?_
      refine z_sel_icmp_ne hx hb dL_sets_108 dL_sets_111 dL_sets_112 dL_sets_115 ?_
      obtain ⟨hv, hR1⟩ : (bi (decide (bi (hasB (S 7 pi) (nI gi)) = bi (hasB (T 20 gi) (nI pi))))) = 1 ∧ RelQ (n + 1) (va_up S 7 (upd (S 7) pi (c_changed (S 7 pi) (nI gi) b1))) O V (va_up T 20 (upd (T 20) gi (c_changed (T 20 gi) (nI pi) (b1)))) := ⟨so_eq (congrArg bi (sp_ans hG hgi hpi)), sp_rel hR hgi hpi _⟩
      refine W.widen (k := 1) (n := 6) (by omega) (by omega) ?_
      exact z_eret hx hb hr hlocks hP hK hD hS hv hR1 dL_sets_116
