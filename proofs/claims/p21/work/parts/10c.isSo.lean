set_option maxHeartbeats 4000000 in
set_option maxRecDepth 100000 in
theorem kL_isSo (l : Launch) (D : va_G) (cI cZ : ClassId) (X : Nat → Nat) (S : Nat → Nat → Int32) (O : Nat → Bool) (V : Nat → Int32) (T : Nat → Nat → Int32) (n : Nat) (t : Nat) (n0 : Nat) (hR : RelT n t n0 S O V T) (hn : n ≤ 111) : Met l yL_isSo wsL_isSo ({ frames := 7, cells := 0, slots := 0, locals := 159 } : Room) (zR D (tyl cI cZ) (lW cI cZ X S O V T) [.ref (X 0), .ref (X 20), .ref (X 21), .ref (X 22), .ref (X 23), .ref (X 24), .ref (X 25), .ref (X 26), .ref (X 19)]) (QcRead (bi true)) 0 0 (fun _ => False) := by
  refine Met.ofW (cc := cL_isSo) (maxL := 14) (ret := (some .boolean)) (by decide) rfl ?_
  intro p e s m args below meth c s₁ B hml hv
  obtain ⟨rfl, hP, hK⟩ := hv
  have hx := B.exec
  have hb := B.bytes
  have hr := B.returns
  have hts := atoms_spec (ws := wsL_isSo) B.pre
  have hown : s.vm.findClass RL = some m.cls := findClass_of_methodNamed B.named
  have hlocks := B.notSynchronized
  have hl := lv_entry ([.ref (X 0), .ref (X 20), .ref (X 21), .ref (X 22), .ref (X 23), .ref (X 24), .ref (X 25), .ref (X 26), .ref (X 19)]) (n := 14) (Nat.le_of_ble_eq_true rfl)
  rw [lg_entry_eq]
  generalize (lg_sl ([.ref (X 0), .ref (X 20), .ref (X 21), .ref (X 22), .ref (X 23), .ref (X 24), .ref (X 25), .ref (X 26), .ref (X 19)]) ++ List.replicate (14 - (lg_sl ([.ref (X 0), .ref (X 20), .ref (X 21), .ref (X 22), .ref (X 23), .ref (X 24), .ref (X 25), .ref (X 26), .ref (X 19)])).length) Slot.unset).toArray = ls at hl ⊢
  have hl : lv_has ls 14 [(0, .ref (X 0)), (1, .ref (X 20)), (2, .ref (X 21)), (3, .ref (X 22)), (4, .ref (X 23)), (5, .ref (X 24)), (6, .ref (X 25)), (7, .ref (X 26)), (8, .ref (X 19))] := hl
  have hG := hR.1
  have hPP := hR.2.1
  have hRS := hR.2.2.1
  have hRK := hR.2.2.2.1
  have hRC := hR.2.2.2.2
  have hn0 : n0 ≤ 30 := Nat.le_trans hRS.1 (by decide)
  have hnL : n0 ≤ 12 := hRS.1
  have hct : V 1 = nI n0 := hRS.2.1
  have hctT : T 19 1 = nI n0 := hRS.2.2.1
  have hV : V 0 = T 19 0 := hRK.2.1.trans hRK.2.2.1.symm
  obtain ⟨j2, hj2, hkV, hkT⟩ := hRK.2.2.2.1
  refine lv_aload_n hx hb dL_isSo_0 rfl (lv_at hl 0 rfl) ?_
  refine z_callR (W.runV (As := []) (rest := []) ⟨hx, hb, hml, hown, hts⟩ (kX4_now l D cI cZ X S O V ) (cwV 0 hts gL_isSo_X4_now rfl rfl rfl (by decide +kernel) ⟨Nat.le_of_ble_eq_true rfl, Nat.le_of_ble_eq_true rfl⟩) (z_lawR hK hP) rfl rfl hl.1 rfl (lv_room (Nat.le_of_ble_eq_true rfl)) dL_isSo_1 ⟨Nat.zero_le _, Nat.zero_le _⟩) ?_
  refine lv_aload hx hb dL_isSo_4 (lv_at hl 8 rfl) ?_
  refine lv_iconst (v := 0) hx hb dL_isSo_6 rfl ?_
  refine z_iald (D := D) (j := 0) (f := T 19) hx hb hK hP 19 0 rfl rfl (by omega) (by decide) dL_isSo_7 ?_
  refine lv_icmp_ne (tgt := 26) hx hb dL_isSo_8 (by decide) (fun q => absurd hV q) (fun _ => ?_)
  refine lv_aload_n hx hb dL_isSo_11 rfl (lv_at hl 0 rfl) ?_
  refine lv_aload hx hb dL_isSo_12 (lv_at hl 8 rfl) ?_
  refine lv_iconst (v := 2) hx hb dL_isSo_14 rfl ?_
  refine z_iald (D := D) (j := 2) (f := T 19) hx hb hK hP 19 0 rfl rfl (by omega) (by decide) dL_isSo_15 ?_
  refine z_top (V 2) (hkT.trans hkV.symm) ?_
  refine z_callR (W.runV (As := [.int (V 2)]) (rest := []) ⟨hx, hb, hml, hown, hts⟩ (kX4_isTaken l D cI cZ X S O V (V 2) (by rw [hkV]; exact nI_pos (by omega)) (Int32.le_refl _)) (cwV 1 hts gL_isSo_X4_isTaken rfl rfl rfl (by decide +kernel) ⟨Nat.le_of_ble_eq_true rfl, Nat.le_of_ble_eq_true rfl⟩) (z_lawR hK hP) rfl rfl hl.1 rfl (lv_room (Nat.le_of_ble_eq_true rfl)) dL_isSo_16 ⟨Nat.zero_le _, Nat.zero_le _⟩) ?_
  refine z_top (bi true) (congrArg bi (takes_self V)) ?_
  refine z_if_eq (tgt := 26) hx hb dL_isSo_19 (by decide) (fun q => absurd (tt_true.symm.trans q) (by decide)) (fun _ => ?_)
  refine lv_iconst (v := 1) hx hb dL_isSo_22 rfl ?_
  refine lv_goto (tgt := 27) hx hb dL_isSo_23 (by decide) ?_
  refine lv_istore (lv' := [(9, .int 1), (0, .ref (X 0)), (1, .ref (X 20)), (2, .ref (X 21)), (3, .ref (X 22)), (4, .ref (X 23)), (5, .ref (X 24)), (6, .ref (X 25)), (7, .ref (X 26)), (8, .ref (X 19))]) hx hb dL_isSo_27 hl (by decide) rfl (fun ls hl => ?_)
  refine lv_aload hx hb dL_isSo_29 (lv_at hl 9 rfl) ?_
  refine lv_iconst (v := 2) hx hb dL_isSo_31 rfl ?_
  refine z_iald (D := D) (j := 2) (f := T 19) hx hb hK hP 19 0 rfl rfl (by omega) (by decide) dL_isSo_32 ?_
  refine z_top (nI j2) hkT ?_
  refine lv_iconst (v := 2) hx hb dL_isSo_33 rfl ?_
  refine z_cut (G := F0 m 47 ls [.int (nI (j2 - 2))]) (fun J47 => ?_) ?_
  · refine lv_icmp_le (tgt := 46) hx hb dL_isSo_34 (by decide) (fun c_34 => ?_) (fun c_34 => ?_)
    · have g34 : j2 ≤ 2 := (nI_leI (by omega) (by decide)).mp c_34
      refine lv_iconst (v := 0) hx hb dL_isSo_46 rfl ?_
      exact z_top (nI (j2 - 2)) (by rw [show j2 - 2 = 0 by omega]; rfl) J47
    · have g34 : 2 < j2 := Nat.lt_of_not_le (fun h => c_34 (nI_le h (by decide)))
      refine lv_aload hx hb dL_isSo_37 (lv_at hl 9 rfl) ?_
      refine lv_iconst (v := 2) hx hb dL_isSo_39 rfl ?_
      refine z_iald (D := D) (j := 2) (f := T 19) hx hb hK hP 19 0 rfl rfl (by omega) (by decide) dL_isSo_40 ?_
      refine z_top (nI j2) hkT ?_
      refine lv_iconst (v := 2) hx hb dL_isSo_41 rfl ?_
      refine lv_isub hx hb dL_isSo_42 ?_
      refine z_top (nI (j2 - 2)) (pk_sub (a := j2) (b := 2) (by omega)) ?_
      refine lv_goto (tgt := 47) hx hb dL_isSo_43 (by decide) ?_
      exact J47
  · refine lv_istore (lv' := [(10, .int (nI (j2 - 2))), (9, .int 1), (0, .ref (X 0)), (1, .ref (X 20)), (2, .ref (X 21)), (3, .ref (X 22)), (4, .ref (X 23)), (5, .ref (X 24)), (6, .ref (X 25)), (7, .ref (X 26)), (8, .ref (X 19))]) hx hb dL_isSo_47 hl (by decide) rfl (fun ls hl => ?_)
    refine z_loop (N := (j2 - (j2 - 2))) (nL := 14) (Lc := (fun k => [(10, .int (nI (j2 - 2 + k))), (9, .int 1), (0, .ref (X 0)), (1, .ref (X 20)), (2, .ref (X 21)), (3, .ref (X 22)), (4, .ref (X 23)), (5, .ref (X 24)), (6, .ref (X 25)), (7, .ref (X 26)), (8, .ref (X 19))])) (lv_sub hl [0, 1, 2, 3, 4, 5, 6, 7, 8, 9, 10] rfl) (fun ls hl => ?_) (fun k ls hk hl ih => ?_)
    · have hl : lv_has ls 14 [(10, .int (nI (j2 - 2 + (j2 - (j2 - 2))))), (9, .int 1), (0, .ref (X 0)), (1, .ref (X 20)), (2, .ref (X 21)), (3, .ref (X 22)), (4, .ref (X 23)), (5, .ref (X 24)), (6, .ref (X 25)), (7, .ref (X 26)), (8, .ref (X 19))] := hl
      refine lv_iload hx hb dL_isSo_49 (lv_at hl 0 rfl) ?_
      refine lv_aload hx hb dL_isSo_51 (lv_at hl 10 rfl) ?_
      refine lv_iconst (v := 2) hx hb dL_isSo_53 rfl ?_
      refine z_iald (D := D) (j := 2) (f := T 19) hx hb hK hP 19 0 rfl rfl (by omega) (by decide) dL_isSo_54 ?_
      refine z_top (nI j2) hkT ?_
      refine z_ge_t (tgt := 92) (nI_le (by omega) (by omega)) hx hb dL_isSo_55 (by decide) ?_
      refine lv_iconst (v := nI 0) hx hb dL_isSo_92 rfl ?_
      refine lv_istore (lv' := [(10, .int (nI 0)), (9, .int 1), (0, .ref (X 0)), (1, .ref (X 20)), (2, .ref (X 21)), (3, .ref (X 22)), (4, .ref (X 23)), (5, .ref (X 24)), (6, .ref (X 25)), (7, .ref (X 26)), (8, .ref (X 19))]) hx hb dL_isSo_93 hl (by decide) rfl (fun ls hl => ?_)
      refine z_loop (N := n0) (nL := 14) (Lc := (fun k => [(10, .int (nI k)), (9, .int 1), (0, .ref (X 0)), (1, .ref (X 20)), (2, .ref (X 21)), (3, .ref (X 22)), (4, .ref (X 23)), (5, .ref (X 24)), (6, .ref (X 25)), (7, .ref (X 26)), (8, .ref (X 19))])) (lv_sub hl [0, 1, 2, 3, 4, 5, 6, 7, 8, 9, 10] rfl) (fun ls hl => ?_) (fun k ls hk hl ih => ?_)
      · have hl : lv_has ls 14 [(10, .int (nI n0)), (9, .int 1), (0, .ref (X 0)), (1, .ref (X 20)), (2, .ref (X 21)), (3, .ref (X 22)), (4, .ref (X 23)), (5, .ref (X 24)), (6, .ref (X 25)), (7, .ref (X 26)), (8, .ref (X 19))] := hl
        refine lv_iload hx hb dL_isSo_95 (lv_at hl 0 rfl) ?_
        refine lv_aload hx hb dL_isSo_97 (lv_at hl 10 rfl) ?_
        refine lv_iconst (v := 1) hx hb dL_isSo_99 rfl ?_
        refine z_iald (D := D) (j := 1) (f := T 19) hx hb hK hP 19 0 rfl rfl (by omega) (by decide) dL_isSo_100 ?_
        refine z_top (nI n0) hctT ?_
        refine z_ge_t (tgt := 148) (nI_le (by omega) (by omega)) hx hb dL_isSo_101 (by decide) ?_
        refine lv_iconst (v := nI 0) hx hb dL_isSo_148 rfl ?_
        refine lv_istore (lv' := [(10, .int (nI 0)), (9, .int 1), (0, .ref (X 0)), (1, .ref (X 20)), (2, .ref (X 21)), (3, .ref (X 22)), (4, .ref (X 23)), (5, .ref (X 24)), (6, .ref (X 25)), (7, .ref (X 26)), (8, .ref (X 19))]) hx hb dL_isSo_149 hl (by decide) rfl (fun ls hl => ?_)
        refine z_loop (N := 5) (nL := 14) (Lc := (fun p1 => [(10, .int (nI p1)), (9, .int 1), (0, .ref (X 0)), (1, .ref (X 20)), (2, .ref (X 21)), (3, .ref (X 22)), (4, .ref (X 23)), (5, .ref (X 24)), (6, .ref (X 25)), (7, .ref (X 26)), (8, .ref (X 19))])) (lv_sub hl [0, 1, 2, 3, 4, 5, 6, 7, 8, 9, 10] rfl) (fun ls hl => ?_) (fun p1 ls hp1 hl ih => ?_)
        · have hl : lv_has ls 14 [(10, .int (nI 5)), (9, .int 1), (0, .ref (X 0)), (1, .ref (X 20)), (2, .ref (X 21)), (3, .ref (X 22)), (4, .ref (X 23)), (5, .ref (X 24)), (6, .ref (X 25)), (7, .ref (X 26)), (8, .ref (X 19))] := hl
          refine lv_iload hx hb dL_isSo_151 (lv_at hl 0 rfl) ?_
          refine lv_iconst (v := nI 5) hx hb dL_isSo_153 rfl ?_
          refine z_ge_t (tgt := 266) (nI_le (by omega) (by omega)) hx hb dL_isSo_154 (by decide) ?_
          refine lv_iconst (v := nI 0) hx hb dL_isSo_266 rfl ?_
          refine lv_istore (lv' := [(10, .int (nI 0)), (9, .int 1), (0, .ref (X 0)), (1, .ref (X 20)), (2, .ref (X 21)), (3, .ref (X 22)), (4, .ref (X 23)), (5, .ref (X 24)), (6, .ref (X 25)), (7, .ref (X 26)), (8, .ref (X 19))]) hx hb dL_isSo_267 hl (by decide) rfl (fun ls hl => ?_)
          refine z_loop (N := 2) (nL := 14) (Lc := (fun a => [(10, .int (nI a)), (9, .int 1), (0, .ref (X 0)), (1, .ref (X 20)), (2, .ref (X 21)), (3, .ref (X 22)), (4, .ref (X 23)), (5, .ref (X 24)), (6, .ref (X 25)), (7, .ref (X 26)), (8, .ref (X 19))])) (lv_sub hl [0, 1, 2, 3, 4, 5, 6, 7, 8, 9, 10] rfl) (fun ls hl => ?_) (fun a ls ha hl ih => ?_)
          · have hl : lv_has ls 14 [(10, .int (nI 2)), (9, .int 1), (0, .ref (X 0)), (1, .ref (X 20)), (2, .ref (X 21)), (3, .ref (X 22)), (4, .ref (X 23)), (5, .ref (X 24)), (6, .ref (X 25)), (7, .ref (X 26)), (8, .ref (X 19))] := hl
            refine lv_iload hx hb dL_isSo_269 (lv_at hl 0 rfl) ?_
            refine lv_iconst (v := nI 2) hx hb dL_isSo_271 rfl ?_
            refine z_ge_t (tgt := 404) (nI_le (by omega) (by omega)) hx hb dL_isSo_272 (by decide) ?_
            refine lv_iload hx hb dL_isSo_404 (lv_at hl 1 rfl) ?_
            exact z_zret hx hb hr hlocks (by rfl) dL_isSo_406
          · have hl : lv_has ls 14 [(10, .int (nI a)), (9, .int 1), (0, .ref (X 0)), (1, .ref (X 20)), (2, .ref (X 21)), (3, .ref (X 22)), (4, .ref (X 23)), (5, .ref (X 24)), (6, .ref (X 25)), (7, .ref (X 26)), (8, .ref (X 19))] := hl
            have ih_269 := ih
            refine lv_iload hx hb dL_isSo_269 (lv_at hl 0 rfl) ?_
            refine lv_iconst (v := nI 2) hx hb dL_isSo_271 rfl ?_
            refine z_ge_f (tgt := 404) (nI_ge (by omega) (by omega)) hx hb dL_isSo_272 (by decide) ?_
            refine lv_iload hx hb dL_isSo_275 (lv_at hl 1 rfl) ?_
            refine lv_if_eq (tgt := 404) hx hb dL_isSo_277 (by decide) (fun q => absurd q (by decide)) (fun _ => ?_)
            refine lv_iconst (v := 0) hx hb dL_isSo_280 rfl ?_
            refine lv_istore (lv' := [(11, .int 0), (10, .int (nI a)), (9, .int 1), (0, .ref (X 0)), (1, .ref (X 20)), (2, .ref (X 21)), (3, .ref (X 22)), (4, .ref (X 23)), (5, .ref (X 24)), (6, .ref (X 25)), (7, .ref (X 26)), (8, .ref (X 19))]) hx hb dL_isSo_281 hl (by decide) rfl (fun ls hl => ?_)
            refine lv_iconst (v := nI 0) hx hb dL_isSo_283 rfl ?_
            refine lv_istore (lv' := [(12, .int (nI 0)), (11, .int 0), (10, .int (nI a)), (9, .int 1), (0, .ref (X 0)), (1, .ref (X 20)), (2, .ref (X 21)), (3, .ref (X 22)), (4, .ref (X 23)), (5, .ref (X 24)), (6, .ref (X 25)), (7, .ref (X 26)), (8, .ref (X 19))]) hx hb dL_isSo_284 hl (by decide) rfl (fun ls hl => ?_)
            refine z_loop (N := 15) (nL := 14) (Lc := (fun k => [(12, .int (nI k)), (11, .int (l_num (l_st S T V a) k)), (10, .int (nI a)), (9, .int 1), (0, .ref (X 0)), (1, .ref (X 20)), (2, .ref (X 21)), (3, .ref (X 22)), (4, .ref (X 23)), (5, .ref (X 24)), (6, .ref (X 25)), (7, .ref (X 26)), (8, .ref (X 19))])) (lv_sub hl [0, 1, 2, 3, 4, 5, 6, 7, 8, 9, 10, 11, 12] rfl) (fun ls hl => ?_) (fun k ls hk hl ih => ?_)
            · have hl : lv_has ls 14 [(12, .int (nI 15)), (11, .int (l_num (l_st S T V a) 15)), (10, .int (nI a)), (9, .int 1), (0, .ref (X 0)), (1, .ref (X 20)), (2, .ref (X 21)), (3, .ref (X 22)), (4, .ref (X 23)), (5, .ref (X 24)), (6, .ref (X 25)), (7, .ref (X 26)), (8, .ref (X 19))] := hl
              refine lv_iload hx hb dL_isSo_286 (lv_at hl 0 rfl) ?_
              refine lv_bipush (v := nI 15) hx hb dL_isSo_288 (by decide) ?_
              refine z_ge_t (tgt := 380) (nI_le (by omega) (by omega)) hx hb dL_isSo_290 (by decide) ?_
              refine lv_aload_n hx hb dL_isSo_380 rfl (lv_at hl 4 rfl) ?_
              refine lv_iload hx hb dL_isSo_381 (lv_at hl 2 rfl) ?_
              refine z_callR (W.runV (As := [.int (nI a)]) (rest := []) ⟨hx, hb, hml, hown, hts⟩ (kX4_stale l D cI cZ X S O V a (by omega)) (cwV 1 hts gL_isSo_X4_stale rfl rfl rfl (by decide +kernel) ⟨Nat.le_of_ble_eq_true rfl, Nat.le_of_ble_eq_true rfl⟩) (z_lawR hK hP) rfl rfl hl.1 rfl (lv_room (Nat.le_of_ble_eq_true rfl)) dL_isSo_383 ⟨Nat.zero_le _, Nat.zero_le _⟩) ?_
              refine lv_iload hx hb dL_isSo_386 (lv_at hl 1 rfl) ?_
              refine z_sel_icmp_ne hx hb dL_isSo_388 dL_isSo_391 dL_isSo_392 dL_isSo_395 ?_
              refine z_top 1 (so_eq (stale_eq hR hn (by omega))) ?_
              refine lv_istore (lv' := [(9, .int 1), (12, .int (nI 15)), (11, .int (l_num (l_st S T V a) 15)), (10, .int (nI a)), (0, .ref (X 0)), (1, .ref (X 20)), (2, .ref (X 21)), (3, .ref (X 22)), (4, .ref (X 23)), (5, .ref (X 24)), (6, .ref (X 25)), (7, .ref (X 26)), (8, .ref (X 19))]) hx hb dL_isSo_396 hl (by decide) rfl (fun ls hl => ?_)
              refine lv_iinc (v := nI (a + 1)) (lv' := [(10, .int (nI (a + 1))), (9, .int 1), (12, .int (nI 15)), (11, .int (l_num (l_st S T V a) 15)), (0, .ref (X 0)), (1, .ref (X 20)), (2, .ref (X 21)), (3, .ref (X 22)), (4, .ref (X 23)), (5, .ref (X 24)), (6, .ref (X 25)), (7, .ref (X 26)), (8, .ref (X 19))]) hx hb dL_isSo_398 hl (k := 3) rfl (nI_1 _) (by decide) rfl (fun ls hl => ?_)
              refine lv_goto (tgt := 269) hx hb dL_isSo_401 (by decide) ?_
              exact ih_269 ls (by show lv_has ls 14 [(10, .int (nI (a + 1))), (9, .int 1), (0, .ref (X 0)), (1, .ref (X 20)), (2, .ref (X 21)), (3, .ref (X 22)), (4, .ref (X 23)), (5, .ref (X 24)), (6, .ref (X 25)), (7, .ref (X 26)), (8, .ref (X 19))]; exact lv_sub hl [0, 1, 4, 5, 6, 7, 8, 9, 10, 11, 12] rfl)
            · have hl : lv_has ls 14 [(12, .int (nI k)), (11, .int (l_num (l_st S T V a) k)), (10, .int (nI a)), (9, .int 1), (0, .ref (X 0)), (1, .ref (X 20)), (2, .ref (X 21)), (3, .ref (X 22)), (4, .ref (X 23)), (5, .ref (X 24)), (6, .ref (X 25)), (7, .ref (X 26)), (8, .ref (X 19))] := hl
              have ih_286 := ih
              refine lv_iload hx hb dL_isSo_286 (lv_at hl 0 rfl) ?_
              refine lv_bipush (v := nI 15) hx hb dL_isSo_288 (by decide) ?_
              refine z_ge_f (tgt := 380) (nI_ge (by omega) (by omega)) hx hb dL_isSo_290 (by decide) ?_
              refine lv_aload hx hb dL_isSo_293 (lv_at hl 10 rfl) ?_
              refine lv_bipush (v := 15) hx hb dL_isSo_295 (by decide) ?_
              refine lv_iload hx hb dL_isSo_297 (lv_at hl 2 rfl) ?_
              refine lv_imul hx hb dL_isSo_299 ?_
              refine z_top (nI (15 * a)) (pk_mul 15 a) ?_
              refine lv_iload hx hb dL_isSo_300 (lv_at hl 0 rfl) ?_
              refine lv_iadd hx hb dL_isSo_302 ?_
              refine z_top (nI ((15 * a) + k)) (nI_add (15 * a) k) ?_
              refine z_iald (D := D) (j := (15 * a) + k) (f := T 25) hx hb hK hP 25 0 rfl rfl (by omega) (by decide) dL_isSo_303 ?_
              refine lv_aload hx hb dL_isSo_304 (lv_at hl 12 rfl) ?_
              refine lv_iconst (v := 0) hx hb dL_isSo_306 rfl ?_
              refine z_iald (D := D) (j := 0) (f := T 19) hx hb hK hP 19 0 rfl rfl (by omega) (by decide) dL_isSo_307 ?_
              refine z_sel_icmp_le hx hb dL_isSo_308 dL_isSo_311 dL_isSo_312 dL_isSo_315 ?_
              refine lv_istore (lv' := [(13, .int (bi (!decide (T 25 ((15 * a) + k) ≤ T 19 0)))), (12, .int (nI k)), (11, .int (l_num (l_st S T V a) k)), (10, .int (nI a)), (9, .int 1), (0, .ref (X 0)), (1, .ref (X 20)), (2, .ref (X 21)), (3, .ref (X 22)), (4, .ref (X 23)), (5, .ref (X 24)), (6, .ref (X 25)), (7, .ref (X 26)), (8, .ref (X 19))]) hx hb dL_isSo_316 hl (by decide) rfl (fun ls hl => ?_)
              refine lv_iload hx hb dL_isSo_318 (lv_at hl 2 rfl) ?_
              refine lv_iload hx hb dL_isSo_320 (lv_at hl 0 rfl) ?_
              refine z_cut (G := F0 m 371 ls [.int (bi (l_st S T V a k)), .int (l_num (l_st S T V a) k)]) (fun J371 => ?_) ?_
              · refine z_if_eq (tgt := 370) hx hb dL_isSo_322 (by decide) (fun c_322 => ?_) (fun c_322 => ?_)
                · refine lv_iconst (v := 0) hx hb dL_isSo_370 rfl ?_
                  exact z_top (bi (l_st S T V a k)) (bi_of0 (by simp [l_st, (eq_true (nd_f c_322))])) J371
                · refine lv_aload hx hb dL_isSo_325 (lv_at hl 12 rfl) ?_
                  refine lv_bipush (v := 15) hx hb dL_isSo_327 (by decide) ?_
                  refine lv_iload hx hb dL_isSo_329 (lv_at hl 3 rfl) ?_
                  refine lv_imul hx hb dL_isSo_331 ?_
                  refine z_top (nI (15 * a)) (pk_mul 15 a) ?_
                  refine lv_iload hx hb dL_isSo_332 (lv_at hl 1 rfl) ?_
                  refine lv_iadd hx hb dL_isSo_334 ?_
                  refine z_top (nI ((15 * a) + k)) (nI_add (15 * a) k) ?_
                  refine z_iald (D := D) (j := (15 * a) + k) (f := T 26) hx hb hK hP 26 0 rfl rfl (by omega) (by decide) dL_isSo_335 ?_
                  refine lv_iconst (v := 1) hx hb dL_isSo_336 rfl ?_
                  refine z_sel_icmp_ne hx hb dL_isSo_337 dL_isSo_340 dL_isSo_341 dL_isSo_344 ?_
                  refine lv_iload hx hb dL_isSo_345 (lv_at hl 1 rfl) ?_
                  refine lv_iconst (v := 3) hx hb dL_isSo_347 rfl ?_
                  refine lv_idiv hx hb dL_isSo_348 (by decide) ?_
                  refine z_top (nI (k / 3)) (pk_div (a := k) (d := 3) (by omega) (by decide) (by decide)) ?_
                  refine lv_iload hx hb dL_isSo_349 (lv_at hl 1 rfl) ?_
                  refine lv_iconst (v := 3) hx hb dL_isSo_351 rfl ?_
                  refine lv_irem hx hb dL_isSo_352 (by decide) ?_
                  refine z_top (nI (k % 3)) (pk_rem (a := k) (d := 3) (by omega) (by decide) (by decide)) ?_
                  refine lv_aload_n hx hb dL_isSo_353 rfl (lv_at hl 6 rfl) ?_
                  refine lv_aload_n hx hb dL_isSo_354 rfl (lv_at hl 7 rfl) ?_
                  refine lv_aload_n hx hb dL_isSo_355 rfl (lv_at hl 8 rfl) ?_
                  refine lv_aload hx hb dL_isSo_356 (lv_at hl 9 rfl) ?_
                  refine lv_aload hx hb dL_isSo_358 (lv_at hl 13 rfl) ?_
                  refine z_callR (W.runS (As := [.int (nI (k / 3)), .int (nI (k % 3)), .ref (X 20), .ref (X 21), .ref (X 22), .ref (X 23), .ref (X 19)]) (rest := [.int (bi (decide (T 26 ((15 * a) + k) = 1))), .int (l_num (l_st S T V a) k)]) ⟨hx, hb, hml, hown, hts⟩ (kL_allows l D cI cZ X S O V T (k / 3) (k % 3) (by omega) (by omega) hG hPP hV) (va_cwS 7 hts gL_isSo_L_allows rfl rfl rfl (by decide +kernel) ⟨Nat.le_of_ble_eq_true rfl, Nat.le_of_ble_eq_true rfl⟩) (zR_preS hK hP) rfl rfl hl.1 rfl (lv_room (Nat.le_of_ble_eq_true rfl)) dL_isSo_360 ⟨Nat.zero_le _, Nat.zero_le _⟩) ?_
                  refine z_sel_icmp_eq hx hb dL_isSo_363 dL_isSo_366 dL_isSo_367 dL_isSo_370 ?_
                  exact z_top (bi (l_st S T V a k)) (congrArg bi (by simp [l_st, (nd_t c_322)])) J371
              · refine lv_iadd hx hb dL_isSo_371 ?_
                refine lv_istore (lv' := [(11, .int ((l_num (l_st S T V a) k) + (bi (l_st S T V a k)))), (13, .int (bi (!decide (T 25 ((15 * a) + k) ≤ T 19 0)))), (12, .int (nI k)), (10, .int (nI a)), (9, .int 1), (0, .ref (X 0)), (1, .ref (X 20)), (2, .ref (X 21)), (3, .ref (X 22)), (4, .ref (X 23)), (5, .ref (X 24)), (6, .ref (X 25)), (7, .ref (X 26)), (8, .ref (X 19))]) hx hb dL_isSo_372 hl (by decide) rfl (fun ls hl => ?_)
                refine lv_iinc (v := nI (k + 1)) (lv' := [(12, .int (nI (k + 1))), (11, .int ((l_num (l_st S T V a) k) + (bi (l_st S T V a k)))), (13, .int (bi (!decide (T 25 ((15 * a) + k) ≤ T 19 0)))), (10, .int (nI a)), (9, .int 1), (0, .ref (X 0)), (1, .ref (X 20)), (2, .ref (X 21)), (3, .ref (X 22)), (4, .ref (X 23)), (5, .ref (X 24)), (6, .ref (X 25)), (7, .ref (X 26)), (8, .ref (X 19))]) hx hb dL_isSo_374 hl (k := 2) rfl (nI_1 _) (by decide) rfl (fun ls hl => ?_)
                refine lv_goto (tgt := 286) hx hb dL_isSo_377 (by decide) ?_
                have e11 : (l_num (l_st S T V a) (k + 1)) = ((l_num (l_st S T V a) k) + (bi (l_st S T V a k))) := by rfl
                exact ih_286 ls (by show lv_has ls 14 [(12, .int (nI (k + 1))), (11, .int (l_num (l_st S T V a) (k + 1))), (10, .int (nI a)), (9, .int 1), (0, .ref (X 0)), (1, .ref (X 20)), (2, .ref (X 21)), (3, .ref (X 22)), (4, .ref (X 23)), (5, .ref (X 24)), (6, .ref (X 25)), (7, .ref (X 26)), (8, .ref (X 19))]; rw [e11]; exact lv_sub hl [0, 1, 3, 4, 5, 6, 7, 8, 9, 10, 11, 12, 13] rfl)
        · have hl : lv_has ls 14 [(10, .int (nI p1)), (9, .int 1), (0, .ref (X 0)), (1, .ref (X 20)), (2, .ref (X 21)), (3, .ref (X 22)), (4, .ref (X 23)), (5, .ref (X 24)), (6, .ref (X 25)), (7, .ref (X 26)), (8, .ref (X 19))] := hl
          have ih_151 := ih
          refine lv_iload hx hb dL_isSo_151 (lv_at hl 0 rfl) ?_
          refine lv_iconst (v := nI 5) hx hb dL_isSo_153 rfl ?_
          refine z_ge_f (tgt := 266) (nI_ge (by omega) (by omega)) hx hb dL_isSo_154 (by decide) ?_
          refine lv_iload hx hb dL_isSo_157 (lv_at hl 1 rfl) ?_
          refine lv_if_eq (tgt := 266) hx hb dL_isSo_159 (by decide) (fun q => absurd q (by decide)) (fun _ => ?_)
          refine lv_iconst (v := nI 0) hx hb dL_isSo_162 rfl ?_
          refine lv_istore (lv' := [(11, .int (nI 0)), (10, .int (nI p1)), (9, .int 1), (0, .ref (X 0)), (1, .ref (X 20)), (2, .ref (X 21)), (3, .ref (X 22)), (4, .ref (X 23)), (5, .ref (X 24)), (6, .ref (X 25)), (7, .ref (X 26)), (8, .ref (X 19))]) hx hb dL_isSo_163 hl (by decide) rfl (fun ls hl => ?_)
          refine z_loop (N := 4) (nL := 14) (Lc := (fun k => [(11, .int (nI k)), (10, .int (nI p1)), (9, .int 1), (0, .ref (X 0)), (1, .ref (X 20)), (2, .ref (X 21)), (3, .ref (X 22)), (4, .ref (X 23)), (5, .ref (X 24)), (6, .ref (X 25)), (7, .ref (X 26)), (8, .ref (X 19))])) (lv_sub hl [0, 1, 2, 3, 4, 5, 6, 7, 8, 9, 10, 11] rfl) (fun ls hl => ?_) (fun k ls hk hl ih => ?_)
          · have hl : lv_has ls 14 [(11, .int (nI 4)), (10, .int (nI p1)), (9, .int 1), (0, .ref (X 0)), (1, .ref (X 20)), (2, .ref (X 21)), (3, .ref (X 22)), (4, .ref (X 23)), (5, .ref (X 24)), (6, .ref (X 25)), (7, .ref (X 26)), (8, .ref (X 19))] := hl
            refine lv_iload hx hb dL_isSo_165 (lv_at hl 0 rfl) ?_
            refine lv_iconst (v := nI 4) hx hb dL_isSo_167 rfl ?_
            refine z_ge_t (tgt := 208) (nI_le (by omega) (by omega)) hx hb dL_isSo_168 (by decide) ?_
            refine lv_iconst (v := nI 0) hx hb dL_isSo_208 rfl ?_
            refine lv_istore (lv' := [(11, .int (nI 0)), (10, .int (nI p1)), (9, .int 1), (0, .ref (X 0)), (1, .ref (X 20)), (2, .ref (X 21)), (3, .ref (X 22)), (4, .ref (X 23)), (5, .ref (X 24)), (6, .ref (X 25)), (7, .ref (X 26)), (8, .ref (X 19))]) hx hb dL_isSo_209 hl (by decide) rfl (fun ls hl => ?_)
            refine z_loop (N := 3) (nL := 14) (Lc := (fun k => [(11, .int (nI k)), (10, .int (nI p1)), (9, .int 1), (0, .ref (X 0)), (1, .ref (X 20)), (2, .ref (X 21)), (3, .ref (X 22)), (4, .ref (X 23)), (5, .ref (X 24)), (6, .ref (X 25)), (7, .ref (X 26)), (8, .ref (X 19))])) (lv_sub hl [0, 1, 2, 3, 4, 5, 6, 7, 8, 9, 10, 11] rfl) (fun ls hl => ?_) (fun k ls hk hl ih => ?_)
            · have hl : lv_has ls 14 [(11, .int (nI 3)), (10, .int (nI p1)), (9, .int 1), (0, .ref (X 0)), (1, .ref (X 20)), (2, .ref (X 21)), (3, .ref (X 22)), (4, .ref (X 23)), (5, .ref (X 24)), (6, .ref (X 25)), (7, .ref (X 26)), (8, .ref (X 19))] := hl
              refine lv_iload hx hb dL_isSo_211 (lv_at hl 0 rfl) ?_
              refine lv_iconst (v := nI 3) hx hb dL_isSo_213 rfl ?_
              refine z_ge_t (tgt := 260) (nI_le (by omega) (by omega)) hx hb dL_isSo_214 (by decide) ?_
              refine lv_iinc (v := nI (p1 + 1)) (lv' := [(10, .int (nI (p1 + 1))), (11, .int (nI 3)), (9, .int 1), (0, .ref (X 0)), (1, .ref (X 20)), (2, .ref (X 21)), (3, .ref (X 22)), (4, .ref (X 23)), (5, .ref (X 24)), (6, .ref (X 25)), (7, .ref (X 26)), (8, .ref (X 19))]) hx hb dL_isSo_260 hl (k := 1) rfl (nI_1 _) (by decide) rfl (fun ls hl => ?_)
              refine lv_goto (tgt := 151) hx hb dL_isSo_263 (by decide) ?_
              exact ih_151 ls (by show lv_has ls 14 [(10, .int (nI (p1 + 1))), (9, .int 1), (0, .ref (X 0)), (1, .ref (X 20)), (2, .ref (X 21)), (3, .ref (X 22)), (4, .ref (X 23)), (5, .ref (X 24)), (6, .ref (X 25)), (7, .ref (X 26)), (8, .ref (X 19))]; exact lv_sub hl [0, 2, 3, 4, 5, 6, 7, 8, 9, 10, 11] rfl)
            · have hl : lv_has ls 14 [(11, .int (nI k)), (10, .int (nI p1)), (9, .int 1), (0, .ref (X 0)), (1, .ref (X 20)), (2, .ref (X 21)), (3, .ref (X 22)), (4, .ref (X 23)), (5, .ref (X 24)), (6, .ref (X 25)), (7, .ref (X 26)), (8, .ref (X 19))] := hl
              have ih_211 := ih
              refine lv_iload hx hb dL_isSo_211 (lv_at hl 0 rfl) ?_
              refine lv_iconst (v := nI 3) hx hb dL_isSo_213 rfl ?_
              refine z_ge_f (tgt := 260) (nI_ge (by omega) (by omega)) hx hb dL_isSo_214 (by decide) ?_
              refine lv_iload hx hb dL_isSo_217 (lv_at hl 2 rfl) ?_
              refine lv_if_eq (tgt := 260) hx hb dL_isSo_219 (by decide) (fun q => absurd q (by decide)) (fun _ => ?_)
              refine lv_aload_n hx hb dL_isSo_222 rfl (lv_at hl 3 rfl) ?_
              refine lv_iload hx hb dL_isSo_223 (lv_at hl 1 rfl) ?_
              refine lv_iload hx hb dL_isSo_225 (lv_at hl 0 rfl) ?_
              refine z_callR (W.runV (As := [.int (nI p1), .int (nI k)]) (rest := []) ⟨hx, hb, hml, hown, hts⟩ (kX4_allows l D cI cZ X S O V p1 k (by omega) (by omega)) (cwV 2 hts gL_isSo_X4_allows rfl rfl rfl (by decide +kernel) ⟨Nat.le_of_ble_eq_true rfl, Nat.le_of_ble_eq_true rfl⟩) (z_lawR hK hP) rfl rfl hl.1 rfl (lv_room (Nat.le_of_ble_eq_true rfl)) dL_isSo_227 ⟨Nat.zero_le _, Nat.zero_le _⟩) ?_
              refine lv_iload hx hb dL_isSo_230 (lv_at hl 1 rfl) ?_
              refine lv_iload hx hb dL_isSo_232 (lv_at hl 0 rfl) ?_
              refine lv_aload_n hx hb dL_isSo_234 rfl (lv_at hl 4 rfl) ?_
              refine lv_aload_n hx hb dL_isSo_235 rfl (lv_at hl 5 rfl) ?_
              refine lv_aload_n hx hb dL_isSo_236 rfl (lv_at hl 6 rfl) ?_
              refine lv_aload hx hb dL_isSo_237 (lv_at hl 7 rfl) ?_
              refine lv_aload hx hb dL_isSo_239 (lv_at hl 11 rfl) ?_
              refine z_callR (W.runS (As := [.int (nI p1), .int (nI k), .ref (X 20), .ref (X 21), .ref (X 22), .ref (X 23), .ref (X 19)]) (rest := [.int (bi (decide (c_house S V p1 k = 0)))]) ⟨hx, hb, hml, hown, hts⟩ (kL_allows l D cI cZ X S O V T p1 k (by omega) (by omega) hG hPP hV) (va_cwS 7 hts gL_isSo_L_allows rfl rfl rfl (by decide +kernel) ⟨Nat.le_of_ble_eq_true rfl, Nat.le_of_ble_eq_true rfl⟩) (zR_preS hK hP) rfl rfl hl.1 rfl (lv_room (Nat.le_of_ble_eq_true rfl)) dL_isSo_241 ⟨Nat.zero_le _, Nat.zero_le _⟩) ?_
              refine z_sel_icmp_ne hx hb dL_isSo_244 dL_isSo_247 dL_isSo_248 dL_isSo_251 ?_
              refine z_top 1 (so_eq (congrArg bi (house_lets S V _ _))) ?_
              refine lv_istore (lv' := [(9, .int 1), (11, .int (nI k)), (10, .int (nI p1)), (0, .ref (X 0)), (1, .ref (X 20)), (2, .ref (X 21)), (3, .ref (X 22)), (4, .ref (X 23)), (5, .ref (X 24)), (6, .ref (X 25)), (7, .ref (X 26)), (8, .ref (X 19))]) hx hb dL_isSo_252 hl (by decide) rfl (fun ls hl => ?_)
              refine lv_iinc (v := nI (k + 1)) (lv' := [(11, .int (nI (k + 1))), (9, .int 1), (10, .int (nI p1)), (0, .ref (X 0)), (1, .ref (X 20)), (2, .ref (X 21)), (3, .ref (X 22)), (4, .ref (X 23)), (5, .ref (X 24)), (6, .ref (X 25)), (7, .ref (X 26)), (8, .ref (X 19))]) hx hb dL_isSo_254 hl (k := 1) rfl (nI_1 _) (by decide) rfl (fun ls hl => ?_)
              refine lv_goto (tgt := 211) hx hb dL_isSo_257 (by decide) ?_
              exact ih_211 ls (by show lv_has ls 14 [(11, .int (nI (k + 1))), (10, .int (nI p1)), (9, .int 1), (0, .ref (X 0)), (1, .ref (X 20)), (2, .ref (X 21)), (3, .ref (X 22)), (4, .ref (X 23)), (5, .ref (X 24)), (6, .ref (X 25)), (7, .ref (X 26)), (8, .ref (X 19))]; exact lv_sub hl [0, 2, 1, 3, 4, 5, 6, 7, 8, 9, 10, 11] rfl)
          · have hl : lv_has ls 14 [(11, .int (nI k)), (10, .int (nI p1)), (9, .int 1), (0, .ref (X 0)), (1, .ref (X 20)), (2, .ref (X 21)), (3, .ref (X 22)), (4, .ref (X 23)), (5, .ref (X 24)), (6, .ref (X 25)), (7, .ref (X 26)), (8, .ref (X 19))] := hl
            have ih_165 := ih
            refine lv_iload hx hb dL_isSo_165 (lv_at hl 0 rfl) ?_
            refine lv_iconst (v := nI 4) hx hb dL_isSo_167 rfl ?_
            refine z_ge_f (tgt := 208) (nI_ge (by omega) (by omega)) hx hb dL_isSo_168 (by decide) ?_
            refine lv_iload hx hb dL_isSo_171 (lv_at hl 2 rfl) ?_
            refine lv_if_eq (tgt := 208) hx hb dL_isSo_173 (by decide) (fun q => absurd q (by decide)) (fun _ => ?_)
            refine lv_aload_n hx hb dL_isSo_176 rfl (lv_at hl 3 rfl) ?_
            refine lv_iload hx hb dL_isSo_177 (lv_at hl 0 rfl) ?_
            refine lv_iload hx hb dL_isSo_179 (lv_at hl 1 rfl) ?_
            refine z_callR (W.runV (As := [.int (nI k), .int (nI p1)]) (rest := []) ⟨hx, hb, hml, hown, hts⟩ (kX4_isIn l D cI cZ X S O V k p1 (by omega) (by omega)) (cwV 2 hts gL_isSo_X4_isIn rfl rfl rfl (by decide +kernel) ⟨Nat.le_of_ble_eq_true rfl, Nat.le_of_ble_eq_true rfl⟩) (z_lawR hK hP) rfl rfl hl.1 rfl (lv_room (Nat.le_of_ble_eq_true rfl)) dL_isSo_181 ⟨Nat.zero_le _, Nat.zero_le _⟩) ?_
            refine lv_iload hx hb dL_isSo_184 (lv_at hl 0 rfl) ?_
            refine lv_iload hx hb dL_isSo_186 (lv_at hl 1 rfl) ?_
            refine lv_aload_n hx hb dL_isSo_188 rfl (lv_at hl 4 rfl) ?_
            refine z_callR (W.runS (As := [.int (nI k), .int (nI p1), .ref (X 20)]) (rest := [.int (bi (hasB (c_allA S (S 7 p1) 8) (nI k)))]) ⟨hx, hb, hml, hown, hts⟩ (kL_isIn l D cI cZ X S O V T k p1 (by omega) (by omega) hG) (va_cwS 3 hts gL_isSo_L_isIn rfl rfl rfl (by decide +kernel) ⟨Nat.le_of_ble_eq_true rfl, Nat.le_of_ble_eq_true rfl⟩) (zR_preS hK hP) rfl rfl hl.1 rfl (lv_room (Nat.le_of_ble_eq_true rfl)) dL_isSo_189 ⟨Nat.zero_le _, Nat.zero_le _⟩) ?_
            refine z_sel_icmp_ne hx hb dL_isSo_192 dL_isSo_195 dL_isSo_196 dL_isSo_199 ?_
            refine z_top 1 (so_eq rfl) ?_
            refine lv_istore (lv' := [(9, .int 1), (11, .int (nI k)), (10, .int (nI p1)), (0, .ref (X 0)), (1, .ref (X 20)), (2, .ref (X 21)), (3, .ref (X 22)), (4, .ref (X 23)), (5, .ref (X 24)), (6, .ref (X 25)), (7, .ref (X 26)), (8, .ref (X 19))]) hx hb dL_isSo_200 hl (by decide) rfl (fun ls hl => ?_)
            refine lv_iinc (v := nI (k + 1)) (lv' := [(11, .int (nI (k + 1))), (9, .int 1), (10, .int (nI p1)), (0, .ref (X 0)), (1, .ref (X 20)), (2, .ref (X 21)), (3, .ref (X 22)), (4, .ref (X 23)), (5, .ref (X 24)), (6, .ref (X 25)), (7, .ref (X 26)), (8, .ref (X 19))]) hx hb dL_isSo_202 hl (k := 1) rfl (nI_1 _) (by decide) rfl (fun ls hl => ?_)
            refine lv_goto (tgt := 165) hx hb dL_isSo_205 (by decide) ?_
            exact ih_165 ls (by show lv_has ls 14 [(11, .int (nI (k + 1))), (10, .int (nI p1)), (9, .int 1), (0, .ref (X 0)), (1, .ref (X 20)), (2, .ref (X 21)), (3, .ref (X 22)), (4, .ref (X 23)), (5, .ref (X 24)), (6, .ref (X 25)), (7, .ref (X 26)), (8, .ref (X 19))]; exact lv_sub hl [0, 2, 1, 3, 4, 5, 6, 7, 8, 9, 10, 11] rfl)
      · have hl : lv_has ls 14 [(10, .int (nI k)), (9, .int 1), (0, .ref (X 0)), (1, .ref (X 20)), (2, .ref (X 21)), (3, .ref (X 22)), (4, .ref (X 23)), (5, .ref (X 24)), (6, .ref (X 25)), (7, .ref (X 26)), (8, .ref (X 19))] := hl
        have ih_95 := ih
        refine lv_iload hx hb dL_isSo_95 (lv_at hl 0 rfl) ?_
        refine lv_aload hx hb dL_isSo_97 (lv_at hl 10 rfl) ?_
        refine lv_iconst (v := 1) hx hb dL_isSo_99 rfl ?_
        refine z_iald (D := D) (j := 1) (f := T 19) hx hb hK hP 19 0 rfl rfl (by omega) (by decide) dL_isSo_100 ?_
        refine z_top (nI n0) hctT ?_
        refine z_ge_f (tgt := 148) (nI_ge (by omega) (by omega)) hx hb dL_isSo_101 (by decide) ?_
        refine lv_iload hx hb dL_isSo_104 (lv_at hl 1 rfl) ?_
        refine lv_if_eq (tgt := 148) hx hb dL_isSo_106 (by decide) (fun q => absurd q (by decide)) (fun _ => ?_)
        refine lv_aload_n hx hb dL_isSo_109 rfl (lv_at hl 2 rfl) ?_
        refine lv_iload hx hb dL_isSo_110 (lv_at hl 0 rfl) ?_
        refine z_callR (W.runV (As := [.int (nI k)]) (rest := []) ⟨hx, hb, hml, hown, hts⟩ (kX4_goesOn l D cI cZ X S O V k n0 hn0 hct hk) (cwV 1 hts gL_isSo_X4_goesOn rfl rfl rfl (by decide +kernel) ⟨Nat.le_of_ble_eq_true rfl, Nat.le_of_ble_eq_true rfl⟩) (z_lawR hK hP) rfl rfl hl.1 rfl (lv_room (Nat.le_of_ble_eq_true rfl)) dL_isSo_112 ⟨Nat.zero_le _, Nat.zero_le _⟩) ?_
        refine lv_aload hx hb dL_isSo_115 (lv_at hl 7 rfl) ?_
        refine lv_iconst (v := 5) hx hb dL_isSo_117 rfl ?_
        refine lv_iload hx hb dL_isSo_118 (lv_at hl 0 rfl) ?_
        refine lv_imul hx hb dL_isSo_120 ?_
        refine z_top (nI (5 * k)) (pk_mul 5 k) ?_
        refine lv_iconst (v := 4) hx hb dL_isSo_121 rfl ?_
        refine lv_iadd hx hb dL_isSo_122 ?_
        refine z_top (nI ((5 * k) + 4)) (nI_add (5 * k) 4) ?_
        refine z_iald (D := D) (j := (5 * k) + 4) (f := T 24) hx hb hK hP 24 0 rfl rfl (by omega) (by decide) dL_isSo_123 ?_
        refine z_sel_if_ne hx hb dL_isSo_124 dL_isSo_127 dL_isSo_128 dL_isSo_131 ?_
        refine z_sel_icmp_ne hx hb dL_isSo_132 dL_isSo_135 dL_isSo_136 dL_isSo_139 ?_
        refine z_top 1 (so_eq (goes_eq hRS (by omega))) ?_
        refine lv_istore (lv' := [(9, .int 1), (10, .int (nI k)), (0, .ref (X 0)), (1, .ref (X 20)), (2, .ref (X 21)), (3, .ref (X 22)), (4, .ref (X 23)), (5, .ref (X 24)), (6, .ref (X 25)), (7, .ref (X 26)), (8, .ref (X 19))]) hx hb dL_isSo_140 hl (by decide) rfl (fun ls hl => ?_)
        refine lv_iinc (v := nI (k + 1)) (lv' := [(10, .int (nI (k + 1))), (9, .int 1), (0, .ref (X 0)), (1, .ref (X 20)), (2, .ref (X 21)), (3, .ref (X 22)), (4, .ref (X 23)), (5, .ref (X 24)), (6, .ref (X 25)), (7, .ref (X 26)), (8, .ref (X 19))]) hx hb dL_isSo_142 hl (k := 1) rfl (nI_1 _) (by decide) rfl (fun ls hl => ?_)
        refine lv_goto (tgt := 95) hx hb dL_isSo_145 (by decide) ?_
        exact ih_95 ls (by show lv_has ls 14 [(10, .int (nI (k + 1))), (9, .int 1), (0, .ref (X 0)), (1, .ref (X 20)), (2, .ref (X 21)), (3, .ref (X 22)), (4, .ref (X 23)), (5, .ref (X 24)), (6, .ref (X 25)), (7, .ref (X 26)), (8, .ref (X 19))]; exact lv_sub hl [0, 1, 2, 3, 4, 5, 6, 7, 8, 9, 10] rfl)
    · have hl : lv_has ls 14 [(10, .int (nI (j2 - 2 + k))), (9, .int 1), (0, .ref (X 0)), (1, .ref (X 20)), (2, .ref (X 21)), (3, .ref (X 22)), (4, .ref (X 23)), (5, .ref (X 24)), (6, .ref (X 25)), (7, .ref (X 26)), (8, .ref (X 19))] := hl
      have ih_49 := ih
      refine lv_iload hx hb dL_isSo_49 (lv_at hl 0 rfl) ?_
      refine lv_aload hx hb dL_isSo_51 (lv_at hl 10 rfl) ?_
      refine lv_iconst (v := 2) hx hb dL_isSo_53 rfl ?_
      refine z_iald (D := D) (j := 2) (f := T 19) hx hb hK hP 19 0 rfl rfl (by omega) (by decide) dL_isSo_54 ?_
      refine z_top (nI j2) hkT ?_
      refine z_ge_f (tgt := 92) (nI_ge (by omega) (by omega)) hx hb dL_isSo_55 (by decide) ?_
      refine lv_iload hx hb dL_isSo_58 (lv_at hl 1 rfl) ?_
      refine lv_if_eq (tgt := 92) hx hb dL_isSo_60 (by decide) (fun q => absurd q (by decide)) (fun _ => ?_)
      refine lv_aload_n hx hb dL_isSo_63 rfl (lv_at hl 2 rfl) ?_
      refine lv_iload hx hb dL_isSo_64 (lv_at hl 0 rfl) ?_
      refine z_callR (W.runV (As := [.int (nI (j2 - 2 + k))]) (rest := []) ⟨hx, hb, hml, hown, hts⟩ (kX4_isTaken l D cI cZ X S O V (nI (j2 - 2 + k)) (nI_pos (by omega)) (by rw [hkV]; exact nI_le (by omega) (by omega))) (cwV 1 hts gL_isSo_X4_isTaken rfl rfl rfl (by decide +kernel) ⟨Nat.le_of_ble_eq_true rfl, Nat.le_of_ble_eq_true rfl⟩) (z_lawR hK hP) rfl rfl hl.1 rfl (lv_room (Nat.le_of_ble_eq_true rfl)) dL_isSo_66 ⟨Nat.zero_le _, Nat.zero_le _⟩) ?_
      refine lv_iload hx hb dL_isSo_69 (lv_at hl 0 rfl) ?_
      refine lv_aload hx hb dL_isSo_71 (lv_at hl 10 rfl) ?_
      refine z_callR (W.runS (As := [.int (nI (j2 - 2 + k)), .ref (X 19)]) (rest := [.int (bi (c_takes V (nI (j2 - 2 + k)) (V 0)))]) ⟨hx, hb, hml, hown, hts⟩ (kL_isKey l D cI cZ X S O V T (nI (j2 - 2 + k))) (va_cwS 2 hts gL_isSo_L_isKey rfl rfl rfl (by decide +kernel) ⟨Nat.le_of_ble_eq_true rfl, Nat.le_of_ble_eq_true rfl⟩) (zR_preS hK hP) rfl rfl hl.1 rfl (lv_room (Nat.le_of_ble_eq_true rfl)) dL_isSo_73 ⟨Nat.zero_le _, Nat.zero_le _⟩) ?_
      refine z_sel_icmp_ne hx hb dL_isSo_76 dL_isSo_79 dL_isSo_80 dL_isSo_83 ?_
      refine z_top 1 (so_eq (congrArg bi (takes_eq hRK _))) ?_
      refine lv_istore (lv' := [(9, .int 1), (10, .int (nI (j2 - 2 + k))), (0, .ref (X 0)), (1, .ref (X 20)), (2, .ref (X 21)), (3, .ref (X 22)), (4, .ref (X 23)), (5, .ref (X 24)), (6, .ref (X 25)), (7, .ref (X 26)), (8, .ref (X 19))]) hx hb dL_isSo_84 hl (by decide) rfl (fun ls hl => ?_)
      refine lv_iinc (v := nI (j2 - 2 + k + 1)) (lv' := [(10, .int (nI (j2 - 2 + k + 1))), (9, .int 1), (0, .ref (X 0)), (1, .ref (X 20)), (2, .ref (X 21)), (3, .ref (X 22)), (4, .ref (X 23)), (5, .ref (X 24)), (6, .ref (X 25)), (7, .ref (X 26)), (8, .ref (X 19))]) hx hb dL_isSo_86 hl (k := 1) rfl (nI_1 _) (by decide) rfl (fun ls hl => ?_)
      refine lv_goto (tgt := 49) hx hb dL_isSo_89 (by decide) ?_
      exact ih_49 ls (by show lv_has ls 14 [(10, .int (nI (j2 - 2 + (k + 1)))), (9, .int 1), (0, .ref (X 0)), (1, .ref (X 20)), (2, .ref (X 21)), (3, .ref (X 22)), (4, .ref (X 23)), (5, .ref (X 24)), (6, .ref (X 25)), (7, .ref (X 26)), (8, .ref (X 19))]; exact lv_sub hl [0, 1, 2, 3, 4, 5, 6, 7, 8, 9, 10] rfl)
