set_option maxHeartbeats 4000000 in
set_option maxRecDepth 100000 in
theorem kL_decides (l : Launch) (D : va_G) (cI cZ : ClassId) (X : Nat → Nat) (S : Nat → Nat → Int32) (O : Nat → Bool) (V : Nat → Int32) (T : Nat → Nat → Int32) (sz : Nat) (z : Int32) (n : Nat) (hn : n < 110) (t : Nat) (n0 : Nat) (hR : RelT n t n0 S O V T) (hp0 : 0 < n0) : Met l yL_decides wsL_decides ({ frames := 7, cells := 0, slots := 0, locals := 159 } : Room) (zW D (tyl cI cZ) (lW cI cZ X S O V T) sz [.ref (X 0), .int z, .ref (X 20), .ref (X 21), .ref (X 22), .ref (X 23), .ref (X 24), .ref (X 25), .ref (X 26), .ref (X 19)]) (zE D cI cZ X n (va_A (lW cI cZ X S O V T) sz)) 0 0 (va_A (lW cI cZ X S O V T) sz) := by
  refine Met.ofW (cc := cL_decides) (maxL := 14) (ret := (some .boolean)) (by decide) rfl ?_
  intro p e s m args below meth c s₁ B hml hv
  obtain ⟨rfl, hsz, hP, hK, hD0⟩ := hv
  have hx := B.exec
  have hb := B.bytes
  have hr := B.returns
  have hts := atoms_spec (ws := wsL_decides) B.pre
  have hown : s.vm.findClass RL = some m.cls := findClass_of_methodNamed B.named
  have hlocks := B.notSynchronized
  subst hsz
  have hD := hD0.self (sz := s.heap.size)
  generalize hAe : va_A (lW cI cZ X S O V T) s.heap.size = A at hD ⊢
  have hA : ∀ q : Nat, s.heap.size ≤ q → A q := fun q h => by rw [← hAe]; exact Or.inr h
  have hS : va_S A s.heap s.heap [] := va_S.rf
  have hl := lv_entry ([.ref (X 0), .int z, .ref (X 20), .ref (X 21), .ref (X 22), .ref (X 23), .ref (X 24), .ref (X 25), .ref (X 26), .ref (X 19)]) (n := 14) (Nat.le_of_ble_eq_true rfl)
  rw [lg_entry_eq]
  generalize (lg_sl ([.ref (X 0), .int z, .ref (X 20), .ref (X 21), .ref (X 22), .ref (X 23), .ref (X 24), .ref (X 25), .ref (X 26), .ref (X 19)]) ++ List.replicate (14 - (lg_sl ([.ref (X 0), .int z, .ref (X 20), .ref (X 21), .ref (X 22), .ref (X 23), .ref (X 24), .ref (X 25), .ref (X 26), .ref (X 19)])).length) Slot.unset).toArray = ls at hl ⊢
  have hl : lv_has ls 14 [(0, .ref (X 0)), (1, .int z), (2, .ref (X 20)), (3, .ref (X 21)), (4, .ref (X 22)), (5, .ref (X 23)), (6, .ref (X 24)), (7, .ref (X 25)), (8, .ref (X 26)), (9, .ref (X 19))] := hl
  have hG := hR.1
  have hPP := hR.2.1
  have hRS := hR.2.2.1
  have hRK := hR.2.2.2.1
  have hRC := hR.2.2.2.2
  have hn0 : n0 ≤ 30 := Nat.le_trans hRS.1 (by decide)
  have hnL : n0 ≤ 12 := hRS.1
  have hct : V 1 = nI n0 := hRS.2.1
  have hctT : T 19 1 = nI n0 := hRS.2.2.1
  have hV : V 0 = T 19 0 := hRK.2.1.trans hRK.2.2.1.symm
  obtain ⟨j2, hj2, hkV, hkT⟩ := hRK.2.2.2.1
  have hn12 := hRS.1
  refine lv_iload_n hx hb dL_decides_0 rfl (lv_at hl 1 rfl) ?_
  refine lv_iconst (v := 2) hx hb dL_decides_1 rfl ?_
  refine z_callLow (W.runS (As := [.int z, .int 2]) (rest := []) ⟨hx, hb, hml, hown, hts⟩ (kL_low l z 2 (by omega) (by omega)) (va_cwS 2 hts gL_decides_L_low rfl rfl rfl (by decide +kernel) ⟨Nat.le_of_ble_eq_true rfl, Nat.le_of_ble_eq_true rfl⟩) zP_pre rfl rfl hl.1 rfl (lv_room (Nat.le_of_ble_eq_true rfl)) dL_decides_2 ⟨Nat.zero_le _, Nat.zero_le _⟩) (by omega) (fun ai hai => ?_)
  refine lv_istore (lv' := [(10, .int (nI ai)), (0, .ref (X 0)), (1, .int z), (2, .ref (X 20)), (3, .ref (X 21)), (4, .ref (X 22)), (5, .ref (X 23)), (6, .ref (X 24)), (7, .ref (X 25)), (8, .ref (X 26)), (9, .ref (X 19))]) hx hb dL_decides_5 hl (by decide) rfl (fun ls hl => ?_)
  refine lv_iload_n hx hb dL_decides_7 rfl (lv_at hl 2 rfl) ?_
  refine lv_iconst (v := 2) hx hb dL_decides_8 rfl ?_
  refine lv_ishr hx hb dL_decides_9 ?_
  refine lv_aload hx hb dL_decides_10 (lv_at hl 10 rfl) ?_
  refine lv_iconst (v := 1) hx hb dL_decides_12 rfl ?_
  refine z_iald (D := D) (j := 1) (f := T 19) hx hb hK hP 19 0 rfl rfl (by omega) (by decide) dL_decides_13 ?_
  refine z_top (nI n0) hctT ?_
  refine z_callLow (W.runS (As := [.int (z >>> (2 &&& 31)), .int (nI n0)]) (rest := []) ⟨hx, hb, hml, hown, hts⟩ (kL_low l (z >>> (2 &&& 31)) n0 (by omega) (by omega)) (va_cwS 2 hts gL_decides_L_low rfl rfl rfl (by decide +kernel) ⟨Nat.le_of_ble_eq_true rfl, Nat.le_of_ble_eq_true rfl⟩) zP_pre rfl rfl hl.1 rfl (lv_room (Nat.le_of_ble_eq_true rfl)) dL_decides_14 ⟨Nat.zero_le _, Nat.zero_le _⟩) (by omega) (fun si hsi => ?_)
  refine lv_istore (lv' := [(11, .int (nI si)), (10, .int (nI ai)), (0, .ref (X 0)), (1, .int z), (2, .ref (X 20)), (3, .ref (X 21)), (4, .ref (X 22)), (5, .ref (X 23)), (6, .ref (X 24)), (7, .ref (X 25)), (8, .ref (X 26)), (9, .ref (X 19))]) hx hb dL_decides_17 hl (by decide) rfl (fun ls hl => ?_)
  refine lv_iload_n hx hb dL_decides_19 rfl (lv_at hl 3 rfl) ?_
  refine lv_bipush (v := 7) hx hb dL_decides_20 (by decide) ?_
  refine lv_ishr hx hb dL_decides_22 ?_
  refine lv_iconst (v := 3) hx hb dL_decides_23 rfl ?_
  refine z_callLow (W.runS (As := [.int (z >>> (7 &&& 31)), .int 3]) (rest := []) ⟨hx, hb, hml, hown, hts⟩ (kL_low l (z >>> (7 &&& 31)) 3 (by omega) (by omega)) (va_cwS 2 hts gL_decides_L_low rfl rfl rfl (by decide +kernel) ⟨Nat.le_of_ble_eq_true rfl, Nat.le_of_ble_eq_true rfl⟩) zP_pre rfl rfl hl.1 rfl (lv_room (Nat.le_of_ble_eq_true rfl)) dL_decides_24 ⟨Nat.zero_le _, Nat.zero_le _⟩) (by omega) (fun ri hri => ?_)
  refine lv_istore (lv' := [(12, .int (nI ri)), (11, .int (nI si)), (10, .int (nI ai)), (0, .ref (X 0)), (1, .int z), (2, .ref (X 20)), (3, .ref (X 21)), (4, .ref (X 22)), (5, .ref (X 23)), (6, .ref (X 24)), (7, .ref (X 25)), (8, .ref (X 26)), (9, .ref (X 19))]) hx hb dL_decides_27 hl (by decide) rfl (fun ls hl => ?_)
  obtain ⟨⟨pi, hpi, epi, epT⟩, -, -, -⟩ := hRS.2.2.2.1 si hsi
  have eov := hRS.2.2.2.2.1 si (by omega)
  refine lv_bipush (v := 15) hx hb dL_decides_29 (by decide) ?_
  refine lv_iload hx hb dL_decides_31 (lv_at hl 2 rfl) ?_
  refine lv_imul hx hb dL_decides_33 ?_
  refine z_top (nI (15 * ai)) (pk_mul 15 ai) ?_
  refine lv_iconst (v := 3) hx hb dL_decides_34 rfl ?_
  refine lv_aload hx hb dL_decides_35 (lv_at hl 9 rfl) ?_
  refine lv_iconst (v := 5) hx hb dL_decides_37 rfl ?_
  refine lv_iload hx hb dL_decides_38 (lv_at hl 1 rfl) ?_
  refine lv_imul hx hb dL_decides_40 ?_
  refine z_top (nI (5 * si)) (pk_mul 5 si) ?_
  refine z_iald (D := D) (j := 5 * si) (f := T 24) hx hb hK hP 24 0 rfl rfl (by omega) (by decide) dL_decides_41 ?_
  refine z_top (nI pi) epT ?_
  refine lv_imul hx hb dL_decides_42 ?_
  refine z_top (nI (3 * pi)) (pk_mul 3 pi) ?_
  refine lv_iadd hx hb dL_decides_43 ?_
  refine z_top (nI ((15 * ai) + (3 * pi))) (nI_add (15 * ai) (3 * pi)) ?_
  refine lv_iload hx hb dL_decides_44 (lv_at hl 0 rfl) ?_
  refine lv_iadd hx hb dL_decides_46 ?_
  refine z_top (nI (((15 * ai) + (3 * pi)) + ri)) (nI_add ((15 * ai) + (3 * pi)) ri) ?_
  refine lv_istore (lv' := [(13, .int (nI (((15 * ai) + (3 * pi)) + ri))), (12, .int (nI ri)), (11, .int (nI si)), (10, .int (nI ai)), (0, .ref (X 0)), (1, .int z), (2, .ref (X 20)), (3, .ref (X 21)), (4, .ref (X 22)), (5, .ref (X 23)), (6, .ref (X 24)), (7, .ref (X 25)), (8, .ref (X 26)), (9, .ref (X 19))]) hx hb dL_decides_47 hl (by decide) rfl (fun ls hl => ?_)
  refine lv_aload hx hb dL_decides_49 (lv_at hl 10 rfl) ?_
  refine lv_iconst (v := 5) hx hb dL_decides_51 rfl ?_
  refine lv_iload hx hb dL_decides_52 (lv_at hl 2 rfl) ?_
  refine lv_imul hx hb dL_decides_54 ?_
  refine z_top (nI (5 * si)) (pk_mul 5 si) ?_
  refine lv_iconst (v := 4) hx hb dL_decides_55 rfl ?_
  refine lv_iadd hx hb dL_decides_56 ?_
  refine z_top (nI ((5 * si) + 4)) (nI_add (5 * si) 4) ?_
  refine z_iald (D := D) (j := (5 * si) + 4) (f := T 24) hx hb hK hP 24 0 rfl rfl (by omega) (by decide) dL_decides_57 ?_
  refine z_top (bi (O si)) eov ?_
  refine lv_iconst (v := 1) hx hb dL_decides_58 rfl ?_
  refine lv_icmp_ne (tgt := 82) hx hb dL_decides_59 (by decide) (fun c_59 => ?_) (fun c_59 => ?_)
  · refine lv_aload hx hb dL_decides_82 (lv_at hl 10 rfl) ?_
    refine lv_iconst (v := 5) hx hb dL_decides_84 rfl ?_
    refine lv_iload hx hb dL_decides_85 (lv_at hl 2 rfl) ?_
    refine lv_imul hx hb dL_decides_87 ?_
    refine z_top (nI (5 * si)) (pk_mul 5 si) ?_
    refine lv_iconst (v := 3) hx hb dL_decides_88 rfl ?_
    refine lv_iadd hx hb dL_decides_89 ?_
    refine z_top (nI ((5 * si) + 3)) (nI_add (5 * si) 3) ?_
    refine lv_aload hx hb dL_decides_90 (lv_at hl 13 rfl) ?_
    refine lv_iconst (v := 0) hx hb dL_decides_92 rfl ?_
    refine z_iald (D := D) (j := 0) (f := T 19) hx hb hK hP 19 0 rfl rfl (by omega) (by decide) dL_decides_93 ?_
    refine z_iast (D := D) (j := (5 * si) + 3) (f := T 24) hx hb hK hP hD hS 24 0 rfl rfl (by omega) (by decide) dL_decides_94 (fun H locs hP hD hS => ?_)
    have hP : va_P D vwCl (lW cI cZ X S O V (va_up T 24 (upd (T 24) ((5 * si) + 3) (T 19 0)))) H := hP
    have hD : va_D A (lW cI cZ X S O V (va_up T 24 (upd (T 24) ((5 * si) + 3) (T 19 0)))) := hD
    refine lv_aload hx hb dL_decides_95 (lv_at hl 11 rfl) ?_
    refine lv_iload hx hb dL_decides_97 (lv_at hl 0 rfl) ?_
    refine z_iald (D := D) (j := ((15 * ai) + (3 * pi)) + ri) (f := T 25) hx hb hK hP 25 0 rfl rfl (by omega) (by decide) dL_decides_99 ?_
    refine lv_aload hx hb dL_decides_100 (lv_at hl 13 rfl) ?_
    refine lv_iconst (v := 0) hx hb dL_decides_102 rfl ?_
    refine z_iald (D := D) (j := 0) (f := T 19) hx hb hK hP 19 0 rfl rfl (by omega) (by decide) dL_decides_103 ?_
    refine lv_icmp_gt (tgt := 157) hx hb dL_decides_104 (by decide) (fun c_104 => ?_) (fun c_104 => ?_)
    · refine lv_aload_n hx hb dL_decides_157 rfl (lv_at hl 4 rfl) ?_
      refine lv_iload hx hb dL_decides_158 (lv_at hl 3 rfl) ?_
      refine lv_iload hx hb dL_decides_160 (lv_at hl 2 rfl) ?_
      refine lv_iload hx hb dL_decides_162 (lv_at hl 1 rfl) ?_
      refine z_lawCallW (va_runV (As := [.int (nI ai), .int (nI si), .int (nI ri)]) (rest := []) ⟨hx, hb, hml, hown, hts⟩ (kX4_decide l D cI cZ X S O V _ ai si ri (by omega) (by omega) n0 hn0 hct hsi pi (by omega) epi) (cwV 3 hts gL_decides_X4_decide rfl rfl rfl (by decide +kernel) ⟨Nat.le_of_ble_eq_true rfl, Nat.le_of_ble_eq_true rfl⟩) (z_lawW hK hP hD) rfl rfl hl.1 rfl (lv_room (Nat.le_of_ble_eq_true rfl)) dL_decides_164 ⟨Nat.zero_le _, Nat.zero_le _⟩) hP hD hS hA (fun H locs hP hD hS => ?_)
      refine z_top (c_appR (va_up S 14 (upd (S 14) si (V 0))) V ai pi ri) (if_neg (by rwa [bi_1] at c_59)) ?_
      refine lv_iconst (v := 1) hx hb dL_decides_167 rfl ?_
      refine lv_aload hx hb dL_decides_168 (lv_at hl 12 rfl) ?_
      refine lv_iload hx hb dL_decides_170 (lv_at hl 0 rfl) ?_
      refine z_iald (D := D) (j := ((15 * ai) + (3 * pi)) + ri) (f := T 26) hx hb hK hP 26 0 rfl rfl (by omega) (by decide) dL_decides_172 ?_
      refine lv_isub hx hb dL_decides_173 ?_
      refine z_sel_icmp_ne hx hb dL_decides_174 dL_decides_177 dL_decides_178 dL_decides_181 ?_
      obtain ⟨hv, hR1⟩ : (bi (decide (c_appR (va_up S 14 (upd (S 14) si (V 0))) V ai pi ri = 1 - (T 26 (((15 * ai) + (3 * pi)) + ri))))) = 1 ∧ RelQ (n + 1) (if O si = true then S else c_appS (va_up S 14 (upd (S 14) si (V 0))) V ai pi ri) O V (va_up T 24 (upd (T 24) ((5 * si) + 3) (T 19 0))) := ⟨so_eq (de_ans_old hR hn hai hri hpi c_104), de_rel_old hR hn hai hsi hri hpi (by rwa [bi_1] at c_59) c_104⟩
      exact z_eret hx hb hr hlocks hP hK hD hS hv hR1 dL_decides_182
    · refine lv_aload hx hb dL_decides_107 (lv_at hl 12 rfl) ?_
      refine lv_iload hx hb dL_decides_109 (lv_at hl 0 rfl) ?_
      refine lv_aload hx hb dL_decides_111 (lv_at hl 10 rfl) ?_
      refine lv_iconst (v := 5) hx hb dL_decides_113 rfl ?_
      refine lv_iload hx hb dL_decides_114 (lv_at hl 2 rfl) ?_
      refine lv_imul hx hb dL_decides_116 ?_
      refine z_top (nI (5 * si)) (pk_mul 5 si) ?_
      refine z_iald (D := D) (j := 5 * si) (f := upd (T 24) ((5 * si) + 3) (T 19 0)) hx hb hK hP 24 0 rfl rfl (by omega) (by decide) dL_decides_117 ?_
      refine z_top (T 24 (5 * si)) (pk_un (by omega)) ?_
      refine z_top (nI pi) epT ?_
      refine lv_iload hx hb dL_decides_118 (lv_at hl 1 rfl) ?_
      refine lv_aload_n hx hb dL_decides_120 rfl (lv_at hl 6 rfl) ?_
      refine lv_aload_n hx hb dL_decides_121 rfl (lv_at hl 7 rfl) ?_
      refine lv_aload hx hb dL_decides_122 (lv_at hl 8 rfl) ?_
      refine lv_aload hx hb dL_decides_124 (lv_at hl 9 rfl) ?_
      refine lv_aload hx hb dL_decides_126 (lv_at hl 13 rfl) ?_
      refine z_callR (W.runS (As := [.int (nI pi), .int (nI ri), .ref (X 20), .ref (X 21), .ref (X 22), .ref (X 23), .ref (X 19)]) (rest := [.int (nI (((15 * ai) + (3 * pi)) + ri)), .ref (X 26)]) ⟨hx, hb, hml, hown, hts⟩ (kL_allows l D cI cZ X S O V (va_up T 24 (upd (T 24) ((5 * si) + 3) (T 19 0))) pi ri hpi hri hG hPP hV) (va_cwS 7 hts gL_decides_L_allows rfl rfl rfl (by decide +kernel) ⟨Nat.le_of_ble_eq_true rfl, Nat.le_of_ble_eq_true rfl⟩) (zR_preS hK hP) rfl rfl hl.1 rfl (lv_room (Nat.le_of_ble_eq_true rfl)) dL_decides_128 ⟨Nat.zero_le _, Nat.zero_le _⟩) ?_
      refine z_cut (G := F0 m 139 ls [.int (bi (c_lets S V pi ri)), .int (nI (((15 * ai) + (3 * pi)) + ri)), .ref (X 26)]) (fun J139 => ?_) ?_
      · refine z_if_eq (tgt := 138) hx hb dL_decides_131 (by decide) (fun c_131 => ?_) (fun c_131 => ?_)
        · refine lv_iconst (v := 0) hx hb dL_decides_138 rfl ?_
          exact z_top (bi (c_lets S V pi ri)) (bi_of0 (by simp [c_59, c_104, c_131])) J139
        · refine lv_iconst (v := 1) hx hb dL_decides_134 rfl ?_
          refine lv_goto (tgt := 139) hx hb dL_decides_135 (by decide) ?_
          exact z_top (bi (c_lets S V pi ri)) (bi_of1 (by simp [c_59, c_104, c_131])) J139
      · refine z_iast (D := D) (j := ((15 * ai) + (3 * pi)) + ri) (f := T 26) hx hb hK hP hD hS 26 0 rfl rfl (by omega) (by decide) dL_decides_139 (fun H locs hP hD hS => ?_)
        have hP : va_P D vwCl (lW cI cZ X S O V (va_up (va_up T 24 (upd (T 24) ((5 * si) + 3) (T 19 0))) 26 (upd (T 26) (((15 * ai) + (3 * pi)) + ri) (bi (c_lets S V pi ri))))) H := hP
        have hD : va_D A (lW cI cZ X S O V (va_up (va_up T 24 (upd (T 24) ((5 * si) + 3) (T 19 0))) 26 (upd (T 26) (((15 * ai) + (3 * pi)) + ri) (bi (c_lets S V pi ri))))) := hD
        refine lv_aload hx hb dL_decides_140 (lv_at hl 11 rfl) ?_
        refine lv_iload hx hb dL_decides_142 (lv_at hl 0 rfl) ?_
        refine lv_aload hx hb dL_decides_144 (lv_at hl 13 rfl) ?_
        refine lv_iconst (v := 0) hx hb dL_decides_146 rfl ?_
        refine z_iald (D := D) (j := 0) (f := T 19) hx hb hK hP 19 0 rfl rfl (by omega) (by decide) dL_decides_147 ?_
        refine lv_aload hx hb dL_decides_148 (lv_at hl 13 rfl) ?_
        refine lv_iconst (v := 4) hx hb dL_decides_150 rfl ?_
        refine lv_iload hx hb dL_decides_151 (lv_at hl 3 rfl) ?_
        refine lv_iadd hx hb dL_decides_153 ?_
        refine z_top (nI (4 + ai)) (nI_add 4 ai) ?_
        refine z_iald (D := D) (j := 4 + ai) (f := T 19) hx hb hK hP 19 0 rfl rfl (by omega) (by decide) dL_decides_154 ?_
        refine lv_iadd hx hb dL_decides_155 ?_
        refine z_iast (D := D) (j := ((15 * ai) + (3 * pi)) + ri) (f := T 25) hx hb hK hP hD hS 25 0 rfl rfl (by omega) (by decide) dL_decides_156 (fun H locs hP hD hS => ?_)
        have hP : va_P D vwCl (lW cI cZ X S O V (va_up (va_up (va_up T 24 (upd (T 24) ((5 * si) + 3) (T 19 0))) 26 (upd (T 26) (((15 * ai) + (3 * pi)) + ri) (bi (c_lets S V pi ri)))) 25 (upd (T 25) (((15 * ai) + (3 * pi)) + ri) ((T 19 0) + (T 19 (4 + ai)))))) H := hP
        have hD : va_D A (lW cI cZ X S O V (va_up (va_up (va_up T 24 (upd (T 24) ((5 * si) + 3) (T 19 0))) 26 (upd (T 26) (((15 * ai) + (3 * pi)) + ri) (bi (c_lets S V pi ri)))) 25 (upd (T 25) (((15 * ai) + (3 * pi)) + ri) ((T 19 0) + (T 19 (4 + ai)))))) := hD
        refine lv_aload_n hx hb dL_decides_157 rfl (lv_at hl 4 rfl) ?_
        refine lv_iload hx hb dL_decides_158 (lv_at hl 3 rfl) ?_
        refine lv_iload hx hb dL_decides_160 (lv_at hl 2 rfl) ?_
        refine lv_iload hx hb dL_decides_162 (lv_at hl 1 rfl) ?_
        refine z_lawCallW (va_runV (As := [.int (nI ai), .int (nI si), .int (nI ri)]) (rest := []) ⟨hx, hb, hml, hown, hts⟩ (kX4_decide l D cI cZ X S O V _ ai si ri (by omega) (by omega) n0 hn0 hct hsi pi (by omega) epi) (cwV 3 hts gL_decides_X4_decide rfl rfl rfl (by decide +kernel) ⟨Nat.le_of_ble_eq_true rfl, Nat.le_of_ble_eq_true rfl⟩) (z_lawW hK hP hD) rfl rfl hl.1 rfl (lv_room (Nat.le_of_ble_eq_true rfl)) dL_decides_164 ⟨Nat.zero_le _, Nat.zero_le _⟩) hP hD hS hA (fun H locs hP hD hS => ?_)
        refine z_top (c_appR (va_up S 14 (upd (S 14) si (V 0))) V ai pi ri) (if_neg (by rwa [bi_1] at c_59)) ?_
        refine lv_iconst (v := 1) hx hb dL_decides_167 rfl ?_
        refine lv_aload hx hb dL_decides_168 (lv_at hl 12 rfl) ?_
        refine lv_iload hx hb dL_decides_170 (lv_at hl 0 rfl) ?_
        refine z_iald (D := D) (j := ((15 * ai) + (3 * pi)) + ri) (f := upd (T 26) (((15 * ai) + (3 * pi)) + ri) (bi (c_lets S V pi ri))) hx hb hK hP 26 0 rfl rfl (by omega) (by decide) dL_decides_172 ?_
        refine lv_isub hx hb dL_decides_173 ?_
        refine z_sel_icmp_ne hx hb dL_decides_174 dL_decides_177 dL_decides_178 dL_decides_181 ?_
        obtain ⟨hv, hR1⟩ : (bi (decide (c_appR (va_up S 14 (upd (S 14) si (V 0))) V ai pi ri = 1 - ((upd (T 26) (((15 * ai) + (3 * pi)) + ri) (bi (c_lets S V pi ri))) (((15 * ai) + (3 * pi)) + ri))))) = 1 ∧ RelQ (n + 1) (if O si = true then S else c_appS (va_up S 14 (upd (S 14) si (V 0))) V ai pi ri) O V (va_up (va_up (va_up T 24 (upd (T 24) ((5 * si) + 3) (T 19 0))) 26 (upd (T 26) (((15 * ai) + (3 * pi)) + ri) (bi (c_lets S V pi ri)))) 25 (upd (T 25) (((15 * ai) + (3 * pi)) + ri) ((T 19 0) + (T 19 (4 + ai))))) := ⟨so_eq (de_ans_new hR hn hai hri hpi c_104), de_rel_new hR hn hai hsi hri hpi (by rwa [bi_1] at c_59) c_104⟩
        exact z_eret hx hb hr hlocks hP hK hD hS hv hR1 dL_decides_182
  · refine lv_aload_n hx hb dL_decides_62 rfl (lv_at hl 4 rfl) ?_
    refine lv_iload hx hb dL_decides_63 (lv_at hl 3 rfl) ?_
    refine lv_iload hx hb dL_decides_65 (lv_at hl 2 rfl) ?_
    refine lv_iload hx hb dL_decides_67 (lv_at hl 1 rfl) ?_
    refine z_lawCallW (va_runV (As := [.int (nI ai), .int (nI si), .int (nI ri)]) (rest := []) ⟨hx, hb, hml, hown, hts⟩ (kX4_decide l D cI cZ X S O V _ ai si ri (by omega) (by omega) n0 hn0 hct hsi pi (by omega) epi) (cwV 3 hts gL_decides_X4_decide rfl rfl rfl (by decide +kernel) ⟨Nat.le_of_ble_eq_true rfl, Nat.le_of_ble_eq_true rfl⟩) (z_lawW hK hP hD) rfl rfl hl.1 rfl (lv_room (Nat.le_of_ble_eq_true rfl)) dL_decides_69 ⟨Nat.zero_le _, Nat.zero_le _⟩) hP hD hS hA (fun H locs hP hD hS => ?_)
    refine z_top 2 (if_pos (by rwa [bi_1] at c_59)) ?_
    refine lv_iconst (v := 2) hx hb dL_decides_72 rfl ?_
    refine z_sel_icmp_ne hx hb dL_decides_73 dL_decides_76 dL_decides_77 dL_decides_80 ?_
    obtain ⟨hv, hR1⟩ : (bi (decide (2 = 2))) = 1 ∧ RelQ (n + 1) (if O si = true then S else c_appS (va_up S 14 (upd (S 14) si (V 0))) V ai pi ri) O V T := ⟨so_eq rfl, de_over hR (by rwa [bi_1] at c_59)⟩
    exact z_eret hx hb hr hlocks hP hK hD hS hv hR1 dL_decides_81

set_option maxHeartbeats 4000000 in
set_option maxRecDepth 100000 in
theorem kL_caches (l : Launch) (D : va_G) (cI cZ : ClassId) (X : Nat → Nat) (S : Nat → Nat → Int32) (O : Nat → Bool) (V : Nat → Int32) (T : Nat → Nat → Int32) (sz : Nat) (x0 : Int32) (z : Int32) (n : Nat) (hn : n < 110) (t : Nat) (n0 : Nat) (hR : RelT n t n0 S O V T) : Met l yL_caches wsL_caches ({ frames := 7, cells := 0, slots := 0, locals := 113 } : Room) (zW D (tyl cI cZ) (lW cI cZ X S O V T) sz [.ref (X 0), .int x0, .int z, .ref (X 25), .ref (X 19)]) (zE D cI cZ X n (va_A (lW cI cZ X S O V T) sz)) 0 0 (va_A (lW cI cZ X S O V T) sz) := by
  refine Met.ofW (cc := cL_caches) (maxL := 9) (ret := (some .boolean)) (by decide) rfl ?_
  intro p e s m args below meth c s₁ B hml hv
  obtain ⟨rfl, hsz, hP, hK, hD0⟩ := hv
  have hx := B.exec
  have hb := B.bytes
  have hr := B.returns
  have hts := atoms_spec (ws := wsL_caches) B.pre
  have hown : s.vm.findClass RL = some m.cls := findClass_of_methodNamed B.named
  have hlocks := B.notSynchronized
  subst hsz
  have hD := hD0.self (sz := s.heap.size)
  generalize hAe : va_A (lW cI cZ X S O V T) s.heap.size = A at hD ⊢
  have hA : ∀ q : Nat, s.heap.size ≤ q → A q := fun q h => by rw [← hAe]; exact Or.inr h
  have hS : va_S A s.heap s.heap [] := va_S.rf
  have hl := lv_entry ([.ref (X 0), .int x0, .int z, .ref (X 25), .ref (X 19)]) (n := 9) (Nat.le_of_ble_eq_true rfl)
  rw [lg_entry_eq]
  generalize (lg_sl ([.ref (X 0), .int x0, .int z, .ref (X 25), .ref (X 19)]) ++ List.replicate (9 - (lg_sl ([.ref (X 0), .int x0, .int z, .ref (X 25), .ref (X 19)])).length) Slot.unset).toArray = ls at hl ⊢
  have hl : lv_has ls 9 [(0, .ref (X 0)), (1, .int x0), (2, .int z), (3, .ref (X 25)), (4, .ref (X 19))] := hl
  have hG := hR.1
  have hPP := hR.2.1
  have hRS := hR.2.2.1
  have hRK := hR.2.2.2.1
  have hRC := hR.2.2.2.2
  have hn0 : n0 ≤ 30 := Nat.le_trans hRS.1 (by decide)
  have hnL : n0 ≤ 12 := hRS.1
  have hct : V 1 = nI n0 := hRS.2.1
  have hctT : T 19 1 = nI n0 := hRS.2.2.1
  have hV : V 0 = T 19 0 := hRK.2.1.trans hRK.2.2.1.symm
  obtain ⟨j2, hj2, hkV, hkT⟩ := hRK.2.2.2.1
  refine lv_iload_n hx hb dL_caches_0 rfl (lv_at hl 2 rfl) ?_
  refine lv_iconst (v := 2) hx hb dL_caches_1 rfl ?_
  refine z_callLow (W.runS (As := [.int z, .int 2]) (rest := []) ⟨hx, hb, hml, hown, hts⟩ (kL_low l z 2 (by omega) (by omega)) (va_cwS 2 hts gL_caches_L_low rfl rfl rfl (by decide +kernel) ⟨Nat.le_of_ble_eq_true rfl, Nat.le_of_ble_eq_true rfl⟩) zP_pre rfl rfl hl.1 rfl (lv_room (Nat.le_of_ble_eq_true rfl)) dL_caches_2 ⟨Nat.zero_le _, Nat.zero_le _⟩) (by omega) (fun ai hai => ?_)
  refine lv_istore (lv' := [(5, .int (nI ai)), (0, .ref (X 0)), (1, .int x0), (2, .int z), (3, .ref (X 25)), (4, .ref (X 19))]) hx hb dL_caches_5 hl (by decide) rfl (fun ls hl => ?_)
  refine lv_iload_n hx hb dL_caches_7 rfl (lv_at hl 2 rfl) ?_
  refine lv_if_ne (tgt := 135) hx hb dL_caches_8 (by decide) (fun c_8 => ?_) (fun c_8 => ?_)
  · refine lv_iload_n hx hb dL_caches_135 rfl (lv_at hl 3 rfl) ?_
    refine lv_iconst (v := 2) hx hb dL_caches_136 rfl ?_
    refine lv_ishr hx hb dL_caches_137 ?_
    refine lv_iconst (v := 5) hx hb dL_caches_138 rfl ?_
    refine z_callLow (W.runS (As := [.int (z >>> (2 &&& 31)), .int 5]) (rest := []) ⟨hx, hb, hml, hown, hts⟩ (kL_low l (z >>> (2 &&& 31)) 5 (by omega) (by omega)) (va_cwS 2 hts gL_caches_L_low rfl rfl rfl (by decide +kernel) ⟨Nat.le_of_ble_eq_true rfl, Nat.le_of_ble_eq_true rfl⟩) zP_pre rfl rfl hl.1 rfl (lv_room (Nat.le_of_ble_eq_true rfl)) dL_caches_139 ⟨Nat.zero_le _, Nat.zero_le _⟩) (by omega) (fun pi hpi => ?_)
    refine lv_istore (lv' := [(6, .int (nI pi)), (5, .int (nI ai)), (0, .ref (X 0)), (1, .int x0), (2, .int z), (3, .ref (X 25)), (4, .ref (X 19))]) hx hb dL_caches_142 hl (by decide) rfl (fun ls hl => ?_)
    refine lv_iconst (v := 0) hx hb dL_caches_144 rfl ?_
    refine lv_istore (lv' := [(7, .int 0), (6, .int (nI pi)), (5, .int (nI ai)), (0, .ref (X 0)), (1, .int x0), (2, .int z), (3, .ref (X 25)), (4, .ref (X 19))]) hx hb dL_caches_145 hl (by decide) rfl (fun ls hl => ?_)
    refine lv_bipush (v := 15) hx hb dL_caches_147 (by decide) ?_
    refine lv_iload hx hb dL_caches_149 (lv_at hl 2 rfl) ?_
    refine lv_imul hx hb dL_caches_151 ?_
    refine z_top (nI (15 * ai)) (pk_mul 15 ai) ?_
    refine lv_iconst (v := 3) hx hb dL_caches_152 rfl ?_
    refine lv_iload hx hb dL_caches_153 (lv_at hl 1 rfl) ?_
    refine lv_imul hx hb dL_caches_155 ?_
    refine z_top (nI (3 * pi)) (pk_mul 3 pi) ?_
    refine lv_iadd hx hb dL_caches_156 ?_
    refine z_top (nI ((15 * ai) + (3 * pi))) (nI_add (15 * ai) (3 * pi)) ?_
    refine lv_istore (lv' := [(8, .int (nI ((15 * ai) + (3 * pi)))), (7, .int 0), (6, .int (nI pi)), (5, .int (nI ai)), (0, .ref (X 0)), (1, .int x0), (2, .int z), (3, .ref (X 25)), (4, .ref (X 19))]) hx hb dL_caches_157 hl (by decide) rfl (fun ls hl => ?_)
    refine z_loopW (N := 3) (nL := 9) (Lc := (fun k => [(8, .int (nI (15 * ai + 3 * pi + k))), (7, .int (l_num (l_ke T (15 * ai + 3 * pi)) k)), (6, .int (nI pi)), (5, .int (nI ai)), (0, .ref (X 0)), (1, .int x0), (2, .int z), (3, .ref (X 25)), (4, .ref (X 19))])) (Wd := fun k => lW cI cZ X S O V (va_up T 25 (l_foR (T 25) (15 * ai + 3 * pi) k))) (lv_sub hl [0, 1, 2, 3, 4, 5, 6, 7, 8] rfl) hP hD hS (fun H locs ls hP hD hS hl => ?_) (fun k H locs ls hk hP hD hS hl ih => ?_)
    · have hP : va_P D vwCl (lW cI cZ X S O V (va_up T 25 (l_foR (T 25) (15 * ai + 3 * pi) 3))) H := hP
      have hD : va_D A (lW cI cZ X S O V (va_up T 25 (l_foR (T 25) (15 * ai + 3 * pi) 3))) := hD
      have hl : lv_has ls 9 [(8, .int (nI (15 * ai + 3 * pi + 3))), (7, .int (l_num (l_ke T (15 * ai + 3 * pi)) 3)), (6, .int (nI pi)), (5, .int (nI ai)), (0, .ref (X 0)), (1, .int x0), (2, .int z), (3, .ref (X 25)), (4, .ref (X 19))] := hl
      refine lv_iload hx hb dL_caches_159 (lv_at hl 0 rfl) ?_
      refine lv_bipush (v := 15) hx hb dL_caches_161 (by decide) ?_
      refine lv_iload hx hb dL_caches_163 (lv_at hl 3 rfl) ?_
      refine lv_imul hx hb dL_caches_165 ?_
      refine z_top (nI (15 * ai)) (pk_mul 15 ai) ?_
      refine lv_iconst (v := 3) hx hb dL_caches_166 rfl ?_
      refine lv_iload hx hb dL_caches_167 (lv_at hl 2 rfl) ?_
      refine lv_imul hx hb dL_caches_169 ?_
      refine z_top (nI (3 * pi)) (pk_mul 3 pi) ?_
      refine lv_iadd hx hb dL_caches_170 ?_
      refine z_top (nI ((15 * ai) + (3 * pi))) (nI_add (15 * ai) (3 * pi)) ?_
      refine lv_iconst (v := 3) hx hb dL_caches_171 rfl ?_
      refine lv_iadd hx hb dL_caches_172 ?_
      refine z_top (nI (((15 * ai) + (3 * pi)) + 3)) (nI_add ((15 * ai) + (3 * pi)) 3) ?_
      refine z_ge_t (tgt := 208) (nI_le (by omega) (by omega)) hx hb dL_caches_173 (by decide) ?_
      refine lv_aload_n hx hb dL_caches_208 rfl (lv_at hl 4 rfl) ?_
      refine lv_iload hx hb dL_caches_209 (lv_at hl 3 rfl) ?_
      refine lv_iload hx hb dL_caches_211 (lv_at hl 2 rfl) ?_
      refine z_lawCallW (va_runV (As := [.int (nI ai), .int (nI pi)]) (rest := []) ⟨hx, hb, hml, hown, hts⟩ (kX4_forget l D cI cZ X S O V _ ai pi (by omega) (by omega)) (cwV 2 hts gL_caches_X4_forget rfl rfl rfl (by decide +kernel) ⟨Nat.le_of_ble_eq_true rfl, Nat.le_of_ble_eq_true rfl⟩) (z_lawW hK hP hD) rfl rfl hl.1 rfl (lv_room (Nat.le_of_ble_eq_true rfl)) dL_caches_213 ⟨Nat.zero_le _, Nat.zero_le _⟩) hP hD hS hA (fun H locs hP hD hS => ?_)
      refine lv_iload hx hb dL_caches_216 (lv_at hl 1 rfl) ?_
      refine z_sel_icmp_ne hx hb dL_caches_218 dL_caches_221 dL_caches_222 dL_caches_225 ?_
      obtain ⟨hv, hR1⟩ : (bi (decide (c_daN S ai pi 6 = l_num (l_ke T (15 * ai + 3 * pi)) 3))) = 1 ∧ RelQ (n + 1) (c_daS S ai pi 6) O V (va_up T 25 (l_foR (T 25) (15 * ai + 3 * pi) 3)) := ⟨so_eq (fo_ans hR hn hai hpi), fo_rel hR hai hpi⟩
      exact z_eret hx hb hr hlocks hP hK hD hS hv hR1 dL_caches_226
    · have hP : va_P D vwCl (lW cI cZ X S O V (va_up T 25 (l_foR (T 25) (15 * ai + 3 * pi) k))) H := hP
      have hD : va_D A (lW cI cZ X S O V (va_up T 25 (l_foR (T 25) (15 * ai + 3 * pi) k))) := hD
      have hl : lv_has ls 9 [(8, .int (nI (15 * ai + 3 * pi + k))), (7, .int (l_num (l_ke T (15 * ai + 3 * pi)) k)), (6, .int (nI pi)), (5, .int (nI ai)), (0, .ref (X 0)), (1, .int x0), (2, .int z), (3, .ref (X 25)), (4, .ref (X 19))] := hl
      have ih_159 := ih
      refine lv_iload hx hb dL_caches_159 (lv_at hl 0 rfl) ?_
      refine lv_bipush (v := 15) hx hb dL_caches_161 (by decide) ?_
      refine lv_iload hx hb dL_caches_163 (lv_at hl 3 rfl) ?_
      refine lv_imul hx hb dL_caches_165 ?_
      refine z_top (nI (15 * ai)) (pk_mul 15 ai) ?_
      refine lv_iconst (v := 3) hx hb dL_caches_166 rfl ?_
      refine lv_iload hx hb dL_caches_167 (lv_at hl 2 rfl) ?_
      refine lv_imul hx hb dL_caches_169 ?_
      refine z_top (nI (3 * pi)) (pk_mul 3 pi) ?_
      refine lv_iadd hx hb dL_caches_170 ?_
      refine z_top (nI ((15 * ai) + (3 * pi))) (nI_add (15 * ai) (3 * pi)) ?_
      refine lv_iconst (v := 3) hx hb dL_caches_171 rfl ?_
      refine lv_iadd hx hb dL_caches_172 ?_
      refine z_top (nI (((15 * ai) + (3 * pi)) + 3)) (nI_add ((15 * ai) + (3 * pi)) 3) ?_
      refine z_ge_f (tgt := 208) (nI_ge (by omega) (by omega)) hx hb dL_caches_173 (by decide) ?_
      refine lv_iload hx hb dL_caches_176 (lv_at hl 1 rfl) ?_
      refine lv_aload_n hx hb dL_caches_178 rfl (lv_at hl 7 rfl) ?_
      refine lv_iload hx hb dL_caches_179 (lv_at hl 0 rfl) ?_
      refine z_iald (D := D) (j := 15 * ai + 3 * pi + k) (f := l_foR (T 25) (15 * ai + 3 * pi) k) hx hb hK hP 25 0 rfl rfl (by omega) (by decide) dL_caches_181 ?_
      refine z_top (T 25 (15 * ai + 3 * pi + k)) (l_foR_ge _ _ (by omega)) ?_
      refine lv_aload hx hb dL_caches_182 (lv_at hl 8 rfl) ?_
      refine lv_iconst (v := 0) hx hb dL_caches_184 rfl ?_
      refine z_iald (D := D) (j := 0) (f := T 19) hx hb hK hP 19 0 rfl rfl (by omega) (by decide) dL_caches_185 ?_
      refine z_sel_icmp_le hx hb dL_caches_186 dL_caches_189 dL_caches_190 dL_caches_193 ?_
      refine lv_iadd hx hb dL_caches_194 ?_
      refine lv_istore (lv' := [(7, .int ((l_num (l_ke T (15 * ai + 3 * pi)) k) + (bi (!decide (T 25 (15 * ai + 3 * pi + k) ≤ T 19 0))))), (8, .int (nI (15 * ai + 3 * pi + k))), (6, .int (nI pi)), (5, .int (nI ai)), (0, .ref (X 0)), (1, .int x0), (2, .int z), (3, .ref (X 25)), (4, .ref (X 19))]) hx hb dL_caches_195 hl (by decide) rfl (fun ls hl => ?_)
      refine lv_aload_n hx hb dL_caches_197 rfl (lv_at hl 7 rfl) ?_
      refine lv_iload hx hb dL_caches_198 (lv_at hl 1 rfl) ?_
      refine lv_iconst (v := 0) hx hb dL_caches_200 rfl ?_
      refine z_iast (D := D) (j := 15 * ai + 3 * pi + k) (f := l_foR (T 25) (15 * ai + 3 * pi) k) hx hb hK hP hD hS 25 0 rfl rfl (by omega) (by decide) dL_caches_201 (fun H locs hP hD hS => ?_)
      have hP : va_P D vwCl (lW cI cZ X S O V (va_up T 25 (upd (l_foR (T 25) (15 * ai + 3 * pi) k) (15 * ai + 3 * pi + k) 0))) H := hP
      have hD : va_D A (lW cI cZ X S O V (va_up T 25 (upd (l_foR (T 25) (15 * ai + 3 * pi) k) (15 * ai + 3 * pi + k) 0))) := hD
      refine lv_iinc (v := nI (15 * ai + 3 * pi + k + 1)) (lv' := [(8, .int (nI (15 * ai + 3 * pi + k + 1))), (7, .int ((l_num (l_ke T (15 * ai + 3 * pi)) k) + (bi (!decide (T 25 (15 * ai + 3 * pi + k) ≤ T 19 0))))), (6, .int (nI pi)), (5, .int (nI ai)), (0, .ref (X 0)), (1, .int x0), (2, .int z), (3, .ref (X 25)), (4, .ref (X 19))]) hx hb dL_caches_202 hl (k := 1) rfl (nI_1 _) (by decide) rfl (fun ls hl => ?_)
      refine lv_goto (tgt := 159) hx hb dL_caches_205 (by decide) ?_
      have e7 : (l_num (l_ke T (15 * ai + 3 * pi)) (k + 1)) = ((l_num (l_ke T (15 * ai + 3 * pi)) k) + (bi (!decide (T 25 (15 * ai + 3 * pi + k) ≤ T 19 0)))) := by rfl
      have eT : (va_up T 25 (l_foR (T 25) (15 * ai + 3 * pi) (k + 1))) = (va_up T 25 (upd (l_foR (T 25) (15 * ai + 3 * pi) k) (15 * ai + 3 * pi + k) 0)) := by rfl
      exact ih_159 H locs ls (by show va_P D vwCl (lW cI cZ X S O V (va_up T 25 (l_foR (T 25) (15 * ai + 3 * pi) (k + 1)))) H; rw [eT]; exact hP) (by show va_D A (lW cI cZ X S O V (va_up T 25 (l_foR (T 25) (15 * ai + 3 * pi) (k + 1)))); rw [eT]; exact hD) hS (by show lv_has ls 9 [(8, .int (nI (15 * ai + 3 * pi + (k + 1)))), (7, .int (l_num (l_ke T (15 * ai + 3 * pi)) (k + 1))), (6, .int (nI pi)), (5, .int (nI ai)), (0, .ref (X 0)), (1, .int x0), (2, .int z), (3, .ref (X 25)), (4, .ref (X 19))]; rw [e7]; exact lv_sub hl [0, 1, 2, 3, 4, 5, 6, 7, 8] rfl)
  · refine lv_aload hx hb dL_caches_11 (lv_at hl 5 rfl) ?_
    refine lv_iconst (v := 4) hx hb dL_caches_13 rfl ?_
    refine lv_iload hx hb dL_caches_14 (lv_at hl 0 rfl) ?_
    refine lv_iadd hx hb dL_caches_16 ?_
    refine z_top (nI (4 + ai)) (nI_add 4 ai) ?_
    refine z_iald (D := D) (j := 4 + ai) (f := T 19) hx hb hK hP 19 0 rfl rfl (by omega) (by decide) dL_caches_17 ?_
    refine lv_istore (lv' := [(6, .int (T 19 (4 + ai))), (5, .int (nI ai)), (0, .ref (X 0)), (1, .int x0), (2, .int z), (3, .ref (X 25)), (4, .ref (X 19))]) hx hb dL_caches_18 hl (by decide) rfl (fun ls hl => ?_)
    refine lv_aload hx hb dL_caches_20 (lv_at hl 6 rfl) ?_
    refine lv_iconst (v := 4) hx hb dL_caches_22 rfl ?_
    refine lv_iload hx hb dL_caches_23 (lv_at hl 1 rfl) ?_
    refine lv_iadd hx hb dL_caches_25 ?_
    refine z_top (nI (4 + ai)) (nI_add 4 ai) ?_
    refine lv_iload_n hx hb dL_caches_26 rfl (lv_at hl 4 rfl) ?_
    refine lv_iconst (v := 2) hx hb dL_caches_27 rfl ?_
    refine lv_ishr hx hb dL_caches_28 ?_
    refine lv_iload_n hx hb dL_caches_29 rfl (lv_at hl 4 rfl) ?_
    refine lv_bipush (v := 13) hx hb dL_caches_30 (by decide) ?_
    refine lv_ishr hx hb dL_caches_32 ?_
    refine lv_iconst (v := 2) hx hb dL_caches_33 rfl ?_
    refine z_callLow (W.runS (As := [.int (z >>> (13 &&& 31)), .int 2]) (rest := [.int (z >>> (2 &&& 31)), .int (nI (4 + ai)), .ref (X 19)]) ⟨hx, hb, hml, hown, hts⟩ (kL_low l (z >>> (13 &&& 31)) 2 (by omega) (by omega)) (va_cwS 2 hts gL_caches_L_low rfl rfl rfl (by decide +kernel) ⟨Nat.le_of_ble_eq_true rfl, Nat.le_of_ble_eq_true rfl⟩) zP_pre rfl rfl hl.1 rfl (lv_room (Nat.le_of_ble_eq_true rfl)) dL_caches_34 ⟨Nat.zero_le _, Nat.zero_le _⟩) (by omega) (fun di hdi => ?_)
    refine z_cutP (Pr := fun wx : Nat => wx = 13 ∨ wx = 61) (pc2 := 47) (ls2 := ls) (st2 := [.int (z >>> (2 &&& 31)), .int (nI (4 + ai)), .ref (X 19)]) (fun J47 => ?_) (fun wx hwx => ?_)
    · refine lv_if_ne (tgt := 45) hx hb dL_caches_37 (by decide) (fun c_37 => ?_) (fun c_37 => ?_)
      · refine lv_bipush (v := 13) hx hb dL_caches_45 (by decide) ?_
        exact J47 13 (by decide)
      · refine lv_bipush (v := 61) hx hb dL_caches_40 (by decide) ?_
        refine lv_goto (tgt := 47) hx hb dL_caches_42 (by decide) ?_
        exact J47 61 (by decide)
    · refine z_callLow (W.runS (As := [.int (z >>> (2 &&& 31)), .int (nI wx)]) (rest := [.int (nI (4 + ai)), .ref (X 19)]) ⟨hx, hb, hml, hown, hts⟩ (kL_low l (z >>> (2 &&& 31)) wx (by omega) (by omega)) (va_cwS 2 hts gL_caches_L_low rfl rfl rfl (by decide +kernel) ⟨Nat.le_of_ble_eq_true rfl, Nat.le_of_ble_eq_true rfl⟩) zP_pre rfl rfl hl.1 rfl (lv_room (Nat.le_of_ble_eq_true rfl)) dL_caches_47 ⟨Nat.zero_le _, Nat.zero_le _⟩) (by omega) (fun ci hci => ?_)
      refine z_iast (D := D) (j := 4 + ai) (f := T 19) hx hb hK hP hD hS 19 0 rfl rfl (by omega) (by decide) dL_caches_50 (fun H locs hP hD hS => ?_)
      have hP : va_P D vwCl (lW cI cZ X S O V (va_up T 19 (upd (T 19) (4 + ai) (nI ci)))) H := hP
      have hD : va_D A (lW cI cZ X S O V (va_up T 19 (upd (T 19) (4 + ai) (nI ci)))) := hD
      refine lv_bipush (v := 15) hx hb dL_caches_51 (by decide) ?_
      refine lv_iload hx hb dL_caches_53 (lv_at hl 1 rfl) ?_
      refine lv_imul hx hb dL_caches_55 ?_
      refine z_top (nI (15 * ai)) (pk_mul 15 ai) ?_
      refine lv_istore (lv' := [(7, .int (nI (15 * ai))), (6, .int (T 19 (4 + ai))), (5, .int (nI ai)), (0, .ref (X 0)), (1, .int x0), (2, .int z), (3, .ref (X 25)), (4, .ref (X 19))]) hx hb dL_caches_56 hl (by decide) rfl (fun ls hl => ?_)
      refine z_loopW (N := 15) (nL := 9) (Lc := (fun k => [(7, .int (nI (15 * ai + k))), (6, .int (T 19 (4 + ai))), (5, .int (nI ai)), (0, .ref (X 0)), (1, .int x0), (2, .int z), (3, .ref (X 25)), (4, .ref (X 19))])) (Wd := fun k => lW cI cZ X S O V (va_up (va_up T 19 (upd (T 19) (4 + ai) (nI ci))) 25 (l_caR (T 25) (T 19 0) (T 19 (4 + ai)) (nI ci) ai k))) (lv_sub hl [0, 1, 2, 3, 4, 5, 6, 7] rfl) hP hD hS (fun H locs ls hP hD hS hl => ?_) (fun k H locs ls hk hP hD hS hl ih => ?_)
      · have hP : va_P D vwCl (lW cI cZ X S O V (va_up (va_up T 19 (upd (T 19) (4 + ai) (nI ci))) 25 (l_caR (T 25) (T 19 0) (T 19 (4 + ai)) (nI ci) ai 15))) H := hP
        have hD : va_D A (lW cI cZ X S O V (va_up (va_up T 19 (upd (T 19) (4 + ai) (nI ci))) 25 (l_caR (T 25) (T 19 0) (T 19 (4 + ai)) (nI ci) ai 15))) := hD
        have hl : lv_has ls 9 [(7, .int (nI (15 * ai + 15))), (6, .int (T 19 (4 + ai))), (5, .int (nI ai)), (0, .ref (X 0)), (1, .int x0), (2, .int z), (3, .ref (X 25)), (4, .ref (X 19))] := hl
        refine lv_iload hx hb dL_caches_58 (lv_at hl 0 rfl) ?_
        refine lv_bipush (v := 15) hx hb dL_caches_60 (by decide) ?_
        refine lv_iload hx hb dL_caches_62 (lv_at hl 2 rfl) ?_
        refine lv_imul hx hb dL_caches_64 ?_
        refine z_top (nI (15 * ai)) (pk_mul 15 ai) ?_
        refine lv_bipush (v := 15) hx hb dL_caches_65 (by decide) ?_
        refine lv_iadd hx hb dL_caches_67 ?_
        refine z_top (nI ((15 * ai) + 15)) (nI_add (15 * ai) 15) ?_
        refine z_ge_t (tgt := 111) (nI_le (by omega) (by omega)) hx hb dL_caches_68 (by decide) ?_
        refine lv_aload_n hx hb dL_caches_111 rfl (lv_at hl 3 rfl) ?_
        refine lv_iload hx hb dL_caches_112 (lv_at hl 2 rfl) ?_
        refine lv_aload hx hb dL_caches_114 (lv_at hl 7 rfl) ?_
        refine lv_iconst (v := 4) hx hb dL_caches_116 rfl ?_
        refine lv_iload hx hb dL_caches_117 (lv_at hl 2 rfl) ?_
        refine lv_iadd hx hb dL_caches_119 ?_
        refine z_top (nI (4 + ai)) (nI_add 4 ai) ?_
        refine z_iald (D := D) (j := 4 + ai) (f := upd (T 19) (4 + ai) (nI ci)) hx hb hK hP 19 0 rfl rfl (by omega) (by decide) dL_caches_120 ?_
        refine z_top (nI ci) pk_us ?_
        refine z_lawCallW (va_runV (As := [.int (nI ai), .int (nI ci)]) (rest := []) ⟨hx, hb, hml, hown, hts⟩ (kX4_setCache l D cI cZ X S O V _ ai (nI ci) (by omega) (nI_pos (by omega)) (nI_le (a := ci) (b := 60) (by omega) (by decide))) (cwV 2 hts gL_caches_X4_setCache rfl rfl rfl (by decide +kernel) ⟨Nat.le_of_ble_eq_true rfl, Nat.le_of_ble_eq_true rfl⟩) (z_lawW hK hP hD) rfl rfl hl.1 rfl (lv_room (Nat.le_of_ble_eq_true rfl)) dL_caches_121 ⟨Nat.zero_le _, Nat.zero_le _⟩) hP hD hS hA (fun H locs hP hD hS => ?_)
        refine lv_iload hx hb dL_caches_124 (lv_at hl 1 rfl) ?_
        refine z_sel_icmp_ne hx hb dL_caches_126 dL_caches_129 dL_caches_130 dL_caches_133 ?_
        obtain ⟨hv, hR1⟩ : (bi (decide (S 16 ai = T 19 (4 + ai)))) = 1 ∧ RelQ (n + 1) (c_ddS (va_up S 16 (upd (S 16) ai (nI ci))) ai (V 0) 60) O V (va_up (va_up T 19 (upd (T 19) (4 + ai) (nI ci))) 25 (l_caR (T 25) (T 19 0) (T 19 (4 + ai)) (nI ci) ai 15)) := ⟨so_eq (ca_ans hR hai), ca_rel hR hn hai (by omega)⟩
        exact z_eret hx hb hr hlocks hP hK hD hS hv hR1 dL_caches_134
      · have hP : va_P D vwCl (lW cI cZ X S O V (va_up (va_up T 19 (upd (T 19) (4 + ai) (nI ci))) 25 (l_caR (T 25) (T 19 0) (T 19 (4 + ai)) (nI ci) ai k))) H := hP
        have hD : va_D A (lW cI cZ X S O V (va_up (va_up T 19 (upd (T 19) (4 + ai) (nI ci))) 25 (l_caR (T 25) (T 19 0) (T 19 (4 + ai)) (nI ci) ai k))) := hD
        have hl : lv_has ls 9 [(7, .int (nI (15 * ai + k))), (6, .int (T 19 (4 + ai))), (5, .int (nI ai)), (0, .ref (X 0)), (1, .int x0), (2, .int z), (3, .ref (X 25)), (4, .ref (X 19))] := hl
        have ih_58 := ih
        refine lv_iload hx hb dL_caches_58 (lv_at hl 0 rfl) ?_
        refine lv_bipush (v := 15) hx hb dL_caches_60 (by decide) ?_
        refine lv_iload hx hb dL_caches_62 (lv_at hl 2 rfl) ?_
        refine lv_imul hx hb dL_caches_64 ?_
        refine z_top (nI (15 * ai)) (pk_mul 15 ai) ?_
        refine lv_bipush (v := 15) hx hb dL_caches_65 (by decide) ?_
        refine lv_iadd hx hb dL_caches_67 ?_
        refine z_top (nI ((15 * ai) + 15)) (nI_add (15 * ai) 15) ?_
        refine z_ge_f (tgt := 111) (nI_ge (by omega) (by omega)) hx hb dL_caches_68 (by decide) ?_
        refine lv_aload_n hx hb dL_caches_71 rfl (lv_at hl 6 rfl) ?_
        refine lv_iload hx hb dL_caches_72 (lv_at hl 0 rfl) ?_
        refine lv_aload_n hx hb dL_caches_74 rfl (lv_at hl 6 rfl) ?_
        refine lv_iload hx hb dL_caches_75 (lv_at hl 0 rfl) ?_
        refine z_iald (D := D) (j := 15 * ai + k) (f := l_caR (T 25) (T 19 0) (T 19 (4 + ai)) (nI ci) ai k) hx hb hK hP 25 0 rfl rfl (by omega) (by decide) dL_caches_77 ?_
        refine z_top (T 25 (15 * ai + k)) (l_caR_ge _ _ _ _ _ (by omega)) ?_
        refine lv_aload hx hb dL_caches_78 (lv_at hl 7 rfl) ?_
        refine lv_iconst (v := 0) hx hb dL_caches_80 rfl ?_
        refine z_iald (D := D) (j := 0) (f := upd (T 19) (4 + ai) (nI ci)) hx hb hK hP 19 0 rfl rfl (by omega) (by decide) dL_caches_81 ?_
        refine z_top (T 19 0) (pk_un (by omega)) ?_
        refine z_cut (G := F0 m 104 ls [.int (if T 25 (15 * ai + k) ≤ T 19 0 then 0 else T 25 (15 * ai + k) - T 19 (4 + ai) + nI ci), .int (nI (15 * ai + k)), .ref (X 25)]) (fun J104 => ?_) ?_
        · refine lv_icmp_le (tgt := 103) hx hb dL_caches_82 (by decide) (fun c_82 => ?_) (fun c_82 => ?_)
          · refine lv_iconst (v := 0) hx hb dL_caches_103 rfl ?_
            exact z_top (if T 25 (15 * ai + k) ≤ T 19 0 then 0 else T 25 (15 * ai + k) - T 19 (4 + ai) + nI ci) (by simp [(eq_true c_8), c_82]) J104
          · refine lv_aload_n hx hb dL_caches_85 rfl (lv_at hl 6 rfl) ?_
            refine lv_iload hx hb dL_caches_86 (lv_at hl 0 rfl) ?_
            refine z_iald (D := D) (j := 15 * ai + k) (f := l_caR (T 25) (T 19 0) (T 19 (4 + ai)) (nI ci) ai k) hx hb hK hP 25 0 rfl rfl (by omega) (by decide) dL_caches_88 ?_
            refine z_top (T 25 (15 * ai + k)) (l_caR_ge _ _ _ _ _ (by omega)) ?_
            refine lv_iload hx hb dL_caches_89 (lv_at hl 1 rfl) ?_
            refine lv_isub hx hb dL_caches_91 ?_
            refine lv_aload hx hb dL_caches_92 (lv_at hl 7 rfl) ?_
            refine lv_iconst (v := 4) hx hb dL_caches_94 rfl ?_
            refine lv_iload hx hb dL_caches_95 (lv_at hl 2 rfl) ?_
            refine lv_iadd hx hb dL_caches_97 ?_
            refine z_top (nI (4 + ai)) (nI_add 4 ai) ?_
            refine z_iald (D := D) (j := 4 + ai) (f := upd (T 19) (4 + ai) (nI ci)) hx hb hK hP 19 0 rfl rfl (by omega) (by decide) dL_caches_98 ?_
            refine z_top (nI ci) pk_us ?_
            refine lv_iadd hx hb dL_caches_99 ?_
            refine lv_goto (tgt := 104) hx hb dL_caches_100 (by decide) ?_
            exact z_top (if T 25 (15 * ai + k) ≤ T 19 0 then 0 else T 25 (15 * ai + k) - T 19 (4 + ai) + nI ci) (by simp [(eq_true c_8), c_82]) J104
        · refine z_iast (D := D) (j := 15 * ai + k) (f := l_caR (T 25) (T 19 0) (T 19 (4 + ai)) (nI ci) ai k) hx hb hK hP hD hS 25 0 rfl rfl (by omega) (by decide) dL_caches_104 (fun H locs hP hD hS => ?_)
          have hP : va_P D vwCl (lW cI cZ X S O V (va_up (va_up T 19 (upd (T 19) (4 + ai) (nI ci))) 25 (upd (l_caR (T 25) (T 19 0) (T 19 (4 + ai)) (nI ci) ai k) (15 * ai + k) (if T 25 (15 * ai + k) ≤ T 19 0 then 0 else T 25 (15 * ai + k) - T 19 (4 + ai) + nI ci)))) H := hP
          have hD : va_D A (lW cI cZ X S O V (va_up (va_up T 19 (upd (T 19) (4 + ai) (nI ci))) 25 (upd (l_caR (T 25) (T 19 0) (T 19 (4 + ai)) (nI ci) ai k) (15 * ai + k) (if T 25 (15 * ai + k) ≤ T 19 0 then 0 else T 25 (15 * ai + k) - T 19 (4 + ai) + nI ci)))) := hD
          refine lv_iinc (v := nI (15 * ai + k + 1)) (lv' := [(7, .int (nI (15 * ai + k + 1))), (6, .int (T 19 (4 + ai))), (5, .int (nI ai)), (0, .ref (X 0)), (1, .int x0), (2, .int z), (3, .ref (X 25)), (4, .ref (X 19))]) hx hb dL_caches_105 hl (k := 0) rfl (nI_1 _) (by decide) rfl (fun ls hl => ?_)
          refine lv_goto (tgt := 58) hx hb dL_caches_108 (by decide) ?_
          have eT : (va_up (va_up T 19 (upd (T 19) (4 + ai) (nI ci))) 25 (l_caR (T 25) (T 19 0) (T 19 (4 + ai)) (nI ci) ai (k + 1))) = (va_up (va_up T 19 (upd (T 19) (4 + ai) (nI ci))) 25 (upd (l_caR (T 25) (T 19 0) (T 19 (4 + ai)) (nI ci) ai k) (15 * ai + k) (if T 25 (15 * ai + k) ≤ T 19 0 then 0 else T 25 (15 * ai + k) - T 19 (4 + ai) + nI ci))) := by rfl
          exact ih_58 H locs ls (by show va_P D vwCl (lW cI cZ X S O V (va_up (va_up T 19 (upd (T 19) (4 + ai) (nI ci))) 25 (l_caR (T 25) (T 19 0) (T 19 (4 + ai)) (nI ci) ai (k + 1)))) H; rw [eT]; exact hP) (by show va_D A (lW cI cZ X S O V (va_up (va_up T 19 (upd (T 19) (4 + ai) (nI ci))) 25 (l_caR (T 25) (T 19 0) (T 19 (4 + ai)) (nI ci) ai (k + 1)))); rw [eT]; exact hD) hS (by show lv_has ls 9 [(7, .int (nI (15 * ai + (k + 1)))), (6, .int (T 19 (4 + ai))), (5, .int (nI ai)), (0, .ref (X 0)), (1, .int x0), (2, .int z), (3, .ref (X 25)), (4, .ref (X 19))]; exact lv_sub hl [0, 1, 2, 3, 4, 5, 6, 7] rfl)
