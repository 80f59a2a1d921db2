set_option maxHeartbeats 16000000 in
set_option maxRecDepth 100000 in
theorem law_turn {p : Program} {l : Launch} {e : Env} {s : State} {m : MethodId} {below : List Frame} {meth : Method} {c : Code} {D : va_G} {cI cZ : ClassId} {X : Nat → Nat} {b L : Nat} {xs : Nat → Int32} (hl0 : l.stackTraces = false) (hL : L ≤ 260) (C0 : lw_At p s m meth c b L xs) (hK : va_K D vwCl (tyl cI cZ) s) (A : Nat → Prop) (hA : ∀ q : Nat, s.heap.size ≤ q → A q) (hbA : ¬ A b) (hZ : zX A s) (hY : zY s) (k : Nat) (hk110 : k < 110) (cells slots : Nat) (hcells : cells + (110 - k) ≤ 158) (hslots : slots + 6 * (110 - k) ≤ 1916)
    (ih : ∀ j : Nat, j = k + 1 → ∀ (cells slots : Nat), cells + (110 - j) ≤ 158 → slots + 6 * (110 - j) ≤ 1916 → ∀ (S : Nat → Nat → Int32) (O : Nat → Bool) (V : Nat → Int32) (T : Nat → Nat → Int32) (H : Heap) (locs : List Loc) (ls : Array Slot), RelQ j S O V T → va_P D vwCl (lW cI cZ X S O V T) H → va_D A (lW cI cZ X S O V T) → va_S A s.heap H locs → lv_has ls 20 [(0, .ref b), (1, .ref (X 0)), (2, .ref (X 19)), (3, .ref (X 20)), (4, .ref (X 21)), (5, .ref (X 22)), (6, .ref (X 23)), (7, .ref (X 24)), (8, .ref (X 25)), (9, .ref (X 26)), (10, .int (nI j))] → W p l e room_1 s m #[Value.ref b] below meth c H locs cells slots (lw_Z below #[Value.ref b] s) (F0 m 66 ls [])) :
    ∀ (S : Nat → Nat → Int32) (O : Nat → Bool) (V : Nat → Int32) (T : Nat → Nat → Int32) (H : Heap) (locs : List Loc) (ls : Array Slot), RelQ k S O V T → va_P D vwCl (lW cI cZ X S O V T) H → va_D A (lW cI cZ X S O V T) → va_S A s.heap H locs → lv_has ls 20 [(0, .ref b), (1, .ref (X 0)), (2, .ref (X 19)), (3, .ref (X 20)), (4, .ref (X 21)), (5, .ref (X 22)), (6, .ref (X 23)), (7, .ref (X 24)), (8, .ref (X 25)), (9, .ref (X 26)), (10, .int (nI k))] → W p l e room_1 s m #[Value.ref b] below meth c H locs cells slots (lw_Z below #[Value.ref b] s) (F0 m 66 ls []) := by
  obtain ⟨hx, hb, hr, hml, hown, hts, hX, hbl, hlocks, hgv⟩ := C0
  have hts := fun w h => hts w (wsL_law_in w h)
  have hcs : cells + 1 ≤ 158 ∧ slots + 6 ≤ 1916 := by omega
  intro S O V T H locs ls hR hP hD hS hl
  obtain ⟨t, n0, hR⟩ := hR
  have hG := hR.1
  have hPP := hR.2.1
  have hRS := hR.2.2.1
  have hRK := hR.2.2.2.1
  have hRC := hR.2.2.2.2
  have hn0 : n0 ≤ 30 := Nat.le_trans hRS.1 (by decide)
  have hnL : n0 ≤ 12 := hRS.1
  have hct : V 1 = nI n0 := hRS.2.1
  have hctT : T 19 1 = nI n0 := hRS.2.2.1
  have hV : V 0 = T 19 0 := hRK.2.1.trans hRK.2.2.1.symm
  obtain ⟨j2, hj2, hkV, hkT⟩ := hRK.2.2.2.1
  have next : ∀ (S : Nat → Nat → Int32) (O : Nat → Bool) (V : Nat → Int32) (T : Nat → Nat → Int32) (H : Heap) (locs : List Loc) (ls : Array Slot), RelQ (k + 1) S O V T → va_P D vwCl (lW cI cZ X S O V T) H → va_D A (lW cI cZ X S O V T) → va_S A s.heap H locs → lv_has ls 20 [(13, .int 1), (0, .ref b), (1, .ref (X 0)), (2, .ref (X 19)), (3, .ref (X 20)), (4, .ref (X 21)), (5, .ref (X 22)), (6, .ref (X 23)), (7, .ref (X 24)), (8, .ref (X 25)), (9, .ref (X 26)), (10, .int (nI k))] → W p l e room_1 s m #[Value.ref b] below meth c H locs (cells + 1) (slots + 6) (lw_Z below #[Value.ref b] s) (F0 m 792 ls []) := by
    intro S O V T H locs ls hR hP hD hS hl
    obtain ⟨t, n0, hR⟩ := hR
    refine lv_iload hx hb dL_law_792 (lv_at hl 0 rfl) ?_
    refine lv_if_eq (tgt := 818) hx hb dL_law_794 (by decide) (fun q => absurd q (by decide)) (fun _ => ?_)
    refine lv_aload_n hx hb dL_law_797 rfl (lv_at hl 2 rfl) ?_
    refine lv_aload_n hx hb dL_law_798 rfl (lv_at hl 4 rfl) ?_
    refine lv_aload hx hb dL_law_799 (lv_at hl 5 rfl) ?_
    refine lv_aload hx hb dL_law_801 (lv_at hl 6 rfl) ?_
    refine lv_aload hx hb dL_law_803 (lv_at hl 7 rfl) ?_
    refine lv_aload hx hb dL_law_805 (lv_at hl 8 rfl) ?_
    refine lv_aload hx hb dL_law_807 (lv_at hl 9 rfl) ?_
    refine lv_aload hx hb dL_law_809 (lv_at hl 10 rfl) ?_
    refine lv_aload_n hx hb dL_law_811 rfl (lv_at hl 3 rfl) ?_
    refine z_callR (W.runS (As := [.ref (X 0), .ref (X 20), .ref (X 21), .ref (X 22), .ref (X 23), .ref (X 24), .ref (X 25), .ref (X 26), .ref (X 19)]) (rest := []) ⟨hx, hb, hml, hown, hts⟩ (kL_isSo l D cI cZ X S O V T (k + 1) t n0 hR (by omega)) (va_cwS 9 hts gL_law_L_isSo rfl rfl rfl (by decide +kernel) ⟨Nat.le_of_ble_eq_true rfl, Nat.le_of_ble_eq_true rfl⟩) (zR_preS hK hP) rfl rfl hl.1 rfl (lv_room (Nat.le_of_ble_eq_true rfl)) dL_law_812 ⟨hcs.1, hcs.2⟩) ?_
    refine z_if_ne (tgt := 820) hx hb dL_law_815 (by decide) (fun _ => ?_) (fun q => absurd (tt_true.symm.trans q) (by decide))
    refine lv_iinc (v := nI (k + 1)) (lv' := [(10, .int (nI (k + 1))), (13, .int 1), (0, .ref b), (1, .ref (X 0)), (2, .ref (X 19)), (3, .ref (X 20)), (4, .ref (X 21)), (5, .ref (X 22)), (6, .ref (X 23)), (7, .ref (X 24)), (8, .ref (X 25)), (9, .ref (X 26))]) hx hb dL_law_820 hl (k := 11) rfl (nI_1 _) (by decide) rfl (fun ls hl => ?_)
    refine lv_goto (tgt := 66) hx hb dL_law_823 (by decide) ?_
    exact ih (k + 1) (by omega) (cells + 1) (slots + 6) (by omega) (by omega) S O V T H locs ls ⟨t, n0, hR⟩ hP hD hS (lv_sub hl [2, 3, 4, 5, 6, 7, 8, 9, 10, 11, 0] rfl)
  refine lv_iload hx hb dL_law_66 (lv_at hl 10 rfl) ?_
  refine lv_bipush (v := nI 110) hx hb dL_law_68 (by decide) ?_
  refine z_ge_f (tgt := 826) (nI_ge (by omega) (by omega)) hx hb dL_law_70 (by decide) ?_
  refine lv_aload_n hx hb dL_law_73 rfl (lv_at hl 0 rfl) ?_
  refine lv_iload hx hb dL_law_74 (lv_at hl 10 rfl) ?_
  refine z_callAny (W.runS (As := [.ref b, .int (nI k)]) (rest := []) ⟨hx, hb, hml, hown, hts⟩ (kL_cell l b L xs hL k (by omega)) (va_cwS 2 hts gL_law_L_cell rfl rfl rfl (by decide +kernel) ⟨Nat.le_of_ble_eq_true rfl, Nat.le_of_ble_eq_true rfl⟩) (zS_preS hX hbl hbA hS) rfl rfl hl.1 rfl (lv_room (Nat.le_of_ble_eq_true rfl)) dL_law_76 ⟨Nat.le_trans (Nat.le_add_right cells 1) hcs.1, Nat.le_trans (Nat.le_add_right slots 6) hcs.2⟩) (fun z => ?_)
  clear hgv hX hbl
  refine lv_istore (lv' := [(11, .int z), (0, .ref b), (1, .ref (X 0)), (2, .ref (X 19)), (3, .ref (X 20)), (4, .ref (X 21)), (5, .ref (X 22)), (6, .ref (X 23)), (7, .ref (X 24)), (8, .ref (X 25)), (9, .ref (X 26)), (10, .int (nI k))]) hx hb dL_law_79 hl (by decide) rfl (fun ls hl => ?_)
  refine lv_iload hx hb dL_law_81 (lv_at hl 0 rfl) ?_
  refine lv_bipush (v := 22) hx hb dL_law_83 (by decide) ?_
  refine z_callLow (W.runS (As := [.int z, .int 22]) (rest := []) ⟨hx, hb, hml, hown, hts⟩ (kL_low l z 22 (by omega) (by omega)) (va_cwS 2 hts gL_law_L_low rfl rfl rfl (by decide +kernel) ⟨Nat.le_of_ble_eq_true rfl, Nat.le_of_ble_eq_true rfl⟩) zP_pre rfl rfl hl.1 rfl (lv_room (Nat.le_of_ble_eq_true rfl)) dL_law_85 ⟨Nat.le_trans (Nat.le_add_right cells 1) hcs.1, Nat.le_trans (Nat.le_add_right slots 6) hcs.2⟩) (by omega) (fun ac hac => ?_)
  refine lv_istore (lv' := [(12, .int (nI ac)), (11, .int z), (0, .ref b), (1, .ref (X 0)), (2, .ref (X 19)), (3, .ref (X 20)), (4, .ref (X 21)), (5, .ref (X 22)), (6, .ref (X 23)), (7, .ref (X 24)), (8, .ref (X 25)), (9, .ref (X 26)), (10, .int (nI k))]) hx hb dL_law_88 hl (by decide) rfl (fun ls hl => ?_)
  refine lv_iconst (v := 1) hx hb dL_law_90 rfl ?_
  refine lv_istore (lv' := [(13, .int 1), (12, .int (nI ac)), (11, .int z), (0, .ref b), (1, .ref (X 0)), (2, .ref (X 19)), (3, .ref (X 20)), (4, .ref (X 21)), (5, .ref (X 22)), (6, .ref (X 23)), (7, .ref (X 24)), (8, .ref (X 25)), (9, .ref (X 26)), (10, .int (nI k))]) hx hb dL_law_91 hl (by decide) rfl (fun ls hl => ?_)
  refine lv_iload hx hb dL_law_93 (lv_at hl 1 rfl) ?_
  refine lv_bipush (v := 8) hx hb dL_law_95 (by decide) ?_
  refine lv_icmp_ge (tgt := 123) hx hb dL_law_97 (by decide) (fun c_97 => ?_) (fun c_97 => ?_)
  · have hl : lv_has ls 20 [(13, .int 1), (12, .int (nI ac)), (11, .int z), (0, .ref b), (1, .ref (X 0)), (2, .ref (X 19)), (3, .ref (X 20)), (4, .ref (X 21)), (5, .ref (X 22)), (6, .ref (X 23)), (7, .ref (X 24)), (8, .ref (X 25)), (9, .ref (X 26)), (10, .int (nI k))] := lv_sub hl [0, 1, 2, 3, 4, 5, 6, 7, 8, 9, 10, 11, 12, 13] rfl
    refine z_cutL (nL := 20) (L := [(13, .int 1), (12, .int (nI ac)), (11, .int z), (0, .ref b), (1, .ref (X 0)), (2, .ref (X 19)), (3, .ref (X 20)), (4, .ref (X 21)), (5, .ref (X 22)), (6, .ref (X 23)), (7, .ref (X 24)), (8, .ref (X 25)), (9, .ref (X 26)), (10, .int (nI k))]) (pc2 := 729) (st2 := []) (fun J729 => ?_) (fun ls hl => ?_)
    · skip
      refine z_cutL (nL := 20) (L := [(13, .int 1), (12, .int (nI ac)), (11, .int z), (0, .ref b), (1, .ref (X 0)), (2, .ref (X 19)), (3, .ref (X 20)), (4, .ref (X 21)), (5, .ref (X 22)), (6, .ref (X 23)), (7, .ref (X 24)), (8, .ref (X 25)), (9, .ref (X 26)), (10, .int (nI k))]) (pc2 := 628) (st2 := []) (fun J628 => ?_) (fun ls hl => ?_)
      · skip
        refine z_cutL (nL := 20) (L := [(13, .int 1), (12, .int (nI ac)), (11, .int z), (0, .ref b), (1, .ref (X 0)), (2, .ref (X 19)), (3, .ref (X 20)), (4, .ref (X 21)), (5, .ref (X 22)), (6, .ref (X 23)), (7, .ref (X 24)), (8, .ref (X 25)), (9, .ref (X 26)), (10, .int (nI k))]) (pc2 := 588) (st2 := []) (fun J588 => ?_) (fun ls hl => ?_)
        · skip
          refine z_cutL (nL := 20) (L := [(13, .int 1), (12, .int (nI ac)), (11, .int z), (0, .ref b), (1, .ref (X 0)), (2, .ref (X 19)), (3, .ref (X 20)), (4, .ref (X 21)), (5, .ref (X 22)), (6, .ref (X 23)), (7, .ref (X 24)), (8, .ref (X 25)), (9, .ref (X 26)), (10, .int (nI k))]) (pc2 := 382) (st2 := []) (fun J382 => ?_) (fun ls hl => ?_)
          · skip
            refine z_cutL (nL := 20) (L := [(13, .int 1), (12, .int (nI ac)), (11, .int z), (0, .ref b), (1, .ref (X 0)), (2, .ref (X 19)), (3, .ref (X 20)), (4, .ref (X 21)), (5, .ref (X 22)), (6, .ref (X 23)), (7, .ref (X 24)), (8, .ref (X 25)), (9, .ref (X 26)), (10, .int (nI k))]) (pc2 := 289) (st2 := []) (fun J289 => ?_) (fun ls hl => ?_)
            · skip
              refine z_cutL (nL := 20) (L := [(13, .int 1), (12, .int (nI ac)), (11, .int z), (0, .ref b), (1, .ref (X 0)), (2, .ref (X 19)), (3, .ref (X 20)), (4, .ref (X 21)), (5, .ref (X 22)), (6, .ref (X 23)), (7, .ref (X 24)), (8, .ref (X 25)), (9, .ref (X 26)), (10, .int (nI k))]) (pc2 := 249) (st2 := []) (fun J249 => ?_) (fun ls hl => ?_)
              · skip
                refine lv_iload hx hb dL_law_123 (lv_at hl 1 rfl) ?_
                refine lv_bipush (v := 10) hx hb dL_law_125 (by decide) ?_
                refine lv_icmp_ge (tgt := 249) hx hb dL_law_127 (by decide) (fun c_127 => ?_) (fun c_127 => ?_)
                · exact J249 ls (by exact lv_sub hl [0, 1, 2, 3, 4, 5, 6, 7, 8, 9, 10, 11, 12, 13] rfl)
                · refine lv_aload_n hx hb dL_law_130 rfl (lv_at hl 5 rfl) ?_
                  refine lv_iconst (v := 1) hx hb dL_law_131 rfl ?_
                  refine z_iald (D := D) (j := 1) (f := T 19) hx hb hK hP 19 0 rfl rfl (by omega) (by decide) dL_law_132 ?_
                  refine z_top (nI n0) hctT ?_
                  refine lv_bipush (v := 12) hx hb dL_law_133 (by decide) ?_
                  refine lv_icmp_ge (tgt := 249) hx hb dL_law_135 (by decide) (fun c_135 => ?_) (fun c_135 => ?_)
                  · exact J249 ls (by exact lv_sub hl [0, 1, 2, 3, 4, 5, 6, 7, 8, 9, 10, 11, 12, 13] rfl)
                  · have hn12 : n0 < 12 := Nat.lt_of_not_le (fun h => c_135 (nI_le (a := 12) h (by omega)))
                    refine lv_iload hx hb dL_law_138 (lv_at hl 2 rfl) ?_
                    refine lv_iconst (v := 5) hx hb dL_law_140 rfl ?_
                    refine lv_ishr hx hb dL_law_141 ?_
                    refine lv_iconst (v := 5) hx hb dL_law_142 rfl ?_
                    refine z_callLow (W.runS (As := [.int (z >>> (5 &&& 31)), .int 5]) (rest := []) ⟨hx, hb, hml, hown, hts⟩ (kL_low l (z >>> (5 &&& 31)) 5 (by omega) (by omega)) (va_cwS 2 hts gL_law_L_low rfl rfl rfl (by decide +kernel) ⟨Nat.le_of_ble_eq_true rfl, Nat.le_of_ble_eq_true rfl⟩) zP_pre rfl rfl hl.1 rfl (lv_room (Nat.le_of_ble_eq_true rfl)) dL_law_143 ⟨Nat.le_trans (Nat.le_add_right cells 1) hcs.1, Nat.le_trans (Nat.le_add_right slots 6) hcs.2⟩) (by omega) (fun pi hpi => ?_)
                    refine lv_istore (lv' := [(14, .int (nI pi)), (13, .int 1), (12, .int (nI ac)), (11, .int z), (0, .ref b), (1, .ref (X 0)), (2, .ref (X 19)), (3, .ref (X 20)), (4, .ref (X 21)), (5, .ref (X 22)), (6, .ref (X 23)), (7, .ref (X 24)), (8, .ref (X 25)), (9, .ref (X 26)), (10, .int (nI k))]) hx hb dL_law_146 hl (by decide) rfl (fun ls hl => ?_)
                    refine lv_aload hx hb dL_law_148 (lv_at hl 9 rfl) ?_
                    refine lv_iload hx hb dL_law_150 (lv_at hl 0 rfl) ?_
                    refine z_iald (D := D) (j := pi) (f := T 22) hx hb hK hP 22 0 rfl rfl (by omega) (by decide) dL_law_152 ?_
                    refine lv_iconst (v := 3) hx hb dL_law_153 rfl ?_
                    refine lv_icmp_ne (tgt := 162) hx hb dL_law_154 (by decide) (fun c_154 => ?_) (fun c_154 => ?_)
                    · refine lv_aload_n hx hb dL_law_162 rfl (lv_at hl 6 rfl) ?_
                      refine lv_iconst (v := 1) hx hb dL_law_163 rfl ?_
                      refine z_iald (D := D) (j := 1) (f := T 19) hx hb hK hP 19 0 rfl rfl (by omega) (by decide) dL_law_164 ?_
                      refine z_top (nI n0) hctT ?_
                      refine lv_istore (lv' := [(15, .int (nI n0)), (14, .int (nI pi)), (13, .int 1), (12, .int (nI ac)), (11, .int z), (0, .ref b), (1, .ref (X 0)), (2, .ref (X 19)), (3, .ref (X 20)), (4, .ref (X 21)), (5, .ref (X 22)), (6, .ref (X 23)), (7, .ref (X 24)), (8, .ref (X 25)), (9, .ref (X 26)), (10, .int (nI k))]) hx hb dL_law_165 hl (by decide) rfl (fun ls hl => ?_)
                      refine lv_iload hx hb dL_law_167 (lv_at hl 0 rfl) ?_
                      refine lv_if_lt (tgt := 224) hx hb dL_law_169 (by decide) (fun q => absurd q (nI_pos (by omega))) (fun _ => ?_)
                      refine lv_aload hx hb dL_law_172 (lv_at hl 12 rfl) ?_
                      refine lv_iconst (v := 5) hx hb dL_law_174 rfl ?_
                      refine lv_iload hx hb dL_law_175 (lv_at hl 0 rfl) ?_
                      refine lv_imul hx hb dL_law_177 ?_
                      refine z_top (nI (5 * n0)) (pk_mul 5 n0) ?_
                      refine lv_iload hx hb dL_law_178 (lv_at hl 1 rfl) ?_
                      refine z_iast (D := D) (j := 5 * n0) (f := T 24) hx hb hK hP hD hS 24 0 rfl rfl (by omega) (by decide) dL_law_180 (fun H locs hP hD hS => ?_)
                      have hP : va_P D vwCl (lW cI cZ X S O V (va_up T 24 (upd (T 24) (5 * n0) (nI pi)))) H := hP
                      have hD : va_D A (lW cI cZ X S O V (va_up T 24 (upd (T 24) (5 * n0) (nI pi)))) := hD
                      refine lv_aload hx hb dL_law_181 (lv_at hl 12 rfl) ?_
                      refine lv_iconst (v := 5) hx hb dL_law_183 rfl ?_
                      refine lv_iload hx hb dL_law_184 (lv_at hl 0 rfl) ?_
                      refine lv_imul hx hb dL_law_186 ?_
                      refine z_top (nI (5 * n0)) (pk_mul 5 n0) ?_
                      refine lv_iconst (v := 1) hx hb dL_law_187 rfl ?_
                      refine lv_iadd hx hb dL_law_188 ?_
                      refine z_top (nI ((5 * n0) + 1)) (nI_add (5 * n0) 1) ?_
                      refine lv_aload_n hx hb dL_law_189 rfl (lv_at hl 7 rfl) ?_
                      refine lv_iconst (v := 2) hx hb dL_law_190 rfl ?_
                      refine z_iald (D := D) (j := 2) (f := T 19) hx hb hK hP 19 0 rfl rfl (by omega) (by decide) dL_law_191 ?_
                      refine z_iast (D := D) (j := (5 * n0) + 1) (f := upd (T 24) (5 * n0) (nI pi)) hx hb hK hP hD hS 24 0 rfl rfl (by omega) (by decide) dL_law_192 (fun H locs hP hD hS => ?_)
                      have hP : va_P D vwCl (lW cI cZ X S O V (va_up T 24 (upd (upd (T 24) (5 * n0) (nI pi)) ((5 * n0) + 1) (T 19 2)))) H := hP
                      have hD : va_D A (lW cI cZ X S O V (va_up T 24 (upd (upd (T 24) (5 * n0) (nI pi)) ((5 * n0) + 1) (T 19 2)))) := hD
                      refine lv_aload hx hb dL_law_193 (lv_at hl 12 rfl) ?_
                      refine lv_iconst (v := 5) hx hb dL_law_195 rfl ?_
                      refine lv_iload hx hb dL_law_196 (lv_at hl 0 rfl) ?_
                      refine lv_imul hx hb dL_law_198 ?_
                      refine z_top (nI (5 * n0)) (pk_mul 5 n0) ?_
                      refine lv_iconst (v := 2) hx hb dL_law_199 rfl ?_
                      refine lv_iadd hx hb dL_law_200 ?_
                      refine z_top (nI ((5 * n0) + 2)) (nI_add (5 * n0) 2) ?_
                      refine lv_aload_n hx hb dL_law_201 rfl (lv_at hl 7 rfl) ?_
                      refine lv_iconst (v := 0) hx hb dL_law_202 rfl ?_
                      refine z_iald (D := D) (j := 0) (f := T 19) hx hb hK hP 19 0 rfl rfl (by omega) (by decide) dL_law_203 ?_
                      refine z_iast (D := D) (j := (5 * n0) + 2) (f := upd (upd (T 24) (5 * n0) (nI pi)) ((5 * n0) + 1) (T 19 2)) hx hb hK hP hD hS 24 0 rfl rfl (by omega) (by decide) dL_law_204 (fun H locs hP hD hS => ?_)
                      have hP : va_P D vwCl (lW cI cZ X S O V (va_up T 24 (upd (upd (upd (T 24) (5 * n0) (nI pi)) ((5 * n0) + 1) (T 19 2)) ((5 * n0) + 2) (T 19 0)))) H := hP
                      have hD : va_D A (lW cI cZ X S O V (va_up T 24 (upd (upd (upd (T 24) (5 * n0) (nI pi)) ((5 * n0) + 1) (T 19 2)) ((5 * n0) + 2) (T 19 0)))) := hD
                      refine lv_aload hx hb dL_law_205 (lv_at hl 12 rfl) ?_
                      refine lv_iconst (v := 5) hx hb dL_law_207 rfl ?_
                      refine lv_iload hx hb dL_law_208 (lv_at hl 0 rfl) ?_
                      refine lv_imul hx hb dL_law_210 ?_
                      refine z_top (nI (5 * n0)) (pk_mul 5 n0) ?_
                      refine lv_iconst (v := 3) hx hb dL_law_211 rfl ?_
                      refine lv_iadd hx hb dL_law_212 ?_
                      refine z_top (nI ((5 * n0) + 3)) (nI_add (5 * n0) 3) ?_
                      refine lv_aload_n hx hb dL_law_213 rfl (lv_at hl 7 rfl) ?_
                      refine lv_iconst (v := 0) hx hb dL_law_214 rfl ?_
                      refine z_iald (D := D) (j := 0) (f := T 19) hx hb hK hP 19 0 rfl rfl (by omega) (by decide) dL_law_215 ?_
                      refine z_iast (D := D) (j := (5 * n0) + 3) (f := upd (upd (upd (T 24) (5 * n0) (nI pi)) ((5 * n0) + 1) (T 19 2)) ((5 * n0) + 2) (T 19 0)) hx hb hK hP hD hS 24 0 rfl rfl (by omega) (by decide) dL_law_216 (fun H locs hP hD hS => ?_)
                      have hP : va_P D vwCl (lW cI cZ X S O V (va_up T 24 (upd (upd (upd (upd (T 24) (5 * n0) (nI pi)) ((5 * n0) + 1) (T 19 2)) ((5 * n0) + 2) (T 19 0)) ((5 * n0) + 3) (T 19 0)))) H := hP
                      have hD : va_D A (lW cI cZ X S O V (va_up T 24 (upd (upd (upd (upd (T 24) (5 * n0) (nI pi)) ((5 * n0) + 1) (T 19 2)) ((5 * n0) + 2) (T 19 0)) ((5 * n0) + 3) (T 19 0)))) := hD
                      refine lv_aload_n hx hb dL_law_217 rfl (lv_at hl 7 rfl) ?_
                      refine lv_iconst (v := 1) hx hb dL_law_218 rfl ?_
                      refine lv_dup2_11 hx hb dL_law_219 rfl rfl ?_
                      refine z_iald (D := D) (j := 1) (f := T 19) hx hb hK hP 19 0 rfl rfl (by omega) (by decide) dL_law_220 ?_
                      refine z_top (nI n0) hctT ?_
                      refine lv_iconst (v := 1) hx hb dL_law_221 rfl ?_
                      refine lv_iadd hx hb dL_law_222 ?_
                      refine z_top (nI (n0 + 1)) (nI_add n0 1) ?_
                      refine z_iast (D := D) (j := 1) (f := T 19) hx hb hK hP hD hS 19 0 rfl rfl (by omega) (by decide) dL_law_223 (fun H locs hP hD hS => ?_)
                      have hP : va_P D vwCl (lW cI cZ X S O V (va_up (va_up T 24 (upd (upd (upd (upd (T 24) (5 * n0) (nI pi)) ((5 * n0) + 1) (T 19 2)) ((5 * n0) + 2) (T 19 0)) ((5 * n0) + 3) (T 19 0))) 19 (upd (T 19) 1 (nI (n0 + 1))))) H := hP
                      have hD : va_D A (lW cI cZ X S O V (va_up (va_up T 24 (upd (upd (upd (upd (T 24) (5 * n0) (nI pi)) ((5 * n0) + 1) (T 19 2)) ((5 * n0) + 2) (T 19 0)) ((5 * n0) + 3) (T 19 0))) 19 (upd (T 19) 1 (nI (n0 + 1))))) := hD
                      refine lv_aload_n hx hb dL_law_224 rfl (lv_at hl 6 rfl) ?_
                      refine lv_iconst (v := 1) hx hb dL_law_225 rfl ?_
                      refine lv_iload hx hb dL_law_226 (lv_at hl 1 rfl) ?_
                      refine lv_iconst (v := 0) hx hb dL_law_228 rfl ?_
                      refine lv_iconst (v := 0) hx hb dL_law_229 rfl ?_
                      refine lv_iconst (v := 0) hx hb dL_law_230 rfl ?_
                      refine z_lawCall (vx_runSW (hh := [(0, 68, 69, 27), (0, 68, 74, 29)]) (As := [.ref (X 0), .int 1, .int (nI pi), .int 0, .int 0, .int 0]) (rest := []) ⟨hx, hb, hml, hown, hts⟩ (kL_calls_1 l hl0 D cI cZ X S O V _ (nI pi) n0 hn0 hct _ _ _) (vx_cwSW 6 hts gL_law_L_calls rfl rfl rfl (by decide +kernel) ⟨Nat.le_of_ble_eq_true rfl, Nat.le_of_ble_eq_true rfl⟩) (z_lawPreL hK hP hD hS hA hZ hY) rfl rfl hl.1 rfl (lv_room (Nat.le_of_ble_eq_true rfl)) dL_law_231 ⟨hcs.1, hcs.2⟩) hP hD hS hA (fun H locs hP hD hS => ?_)
                      refine lv_iload hx hb dL_law_234 (lv_at hl 0 rfl) ?_
                      refine z_sel_icmp_ne hx hb dL_law_236 dL_law_239 dL_law_240 dL_law_243 ?_
                      refine z_top 1 (so_eq (by first | exact op_bar hR hpi c_154 | exact op_ok hR hpi hn12 c_154)) ?_
                      refine lv_istore (lv' := [(13, .int 1), (15, .int (nI n0)), (14, .int (nI pi)), (12, .int (nI ac)), (11, .int z), (0, .ref b), (1, .ref (X 0)), (2, .ref (X 19)), (3, .ref (X 20)), (4, .ref (X 21)), (5, .ref (X 22)), (6, .ref (X 23)), (7, .ref (X 24)), (8, .ref (X 25)), (9, .ref (X 26)), (10, .int (nI k))]) hx hb dL_law_244 hl (by decide) rfl (fun ls hl => ?_)
                      refine lv_goto (tgt := 792) hx hb dL_law_246 (by decide) ?_
                      exact next _ _ _ _ H _ ls (by first | exact op_rel_bar hR hpi c_154 | exact op_rel hR hpi hn12 c_154) hP hD hS (lv_sub hl [0, 5, 6, 7, 8, 9, 10, 11, 12, 13, 14, 15] rfl)
                    · refine lv_bipush (v := (-3)) hx hb dL_law_157 (by decide) ?_
                      refine lv_goto (tgt := 165) hx hb dL_law_159 (by decide) ?_
                      refine lv_istore (lv' := [(15, .int (-3)), (14, .int (nI pi)), (13, .int 1), (12, .int (nI ac)), (11, .int z), (0, .ref b), (1, .ref (X 0)), (2, .ref (X 19)), (3, .ref (X 20)), (4, .ref (X 21)), (5, .ref (X 22)), (6, .ref (X 23)), (7, .ref (X 24)), (8, .ref (X 25)), (9, .ref (X 26)), (10, .int (nI k))]) hx hb dL_law_165 hl (by decide) rfl (fun ls hl => ?_)
                      refine lv_iload hx hb dL_law_167 (lv_at hl 0 rfl) ?_
                      refine lv_if_lt (tgt := 224) hx hb dL_law_169 (by decide) (fun _ => ?_) (fun q => absurd (by decide) q)
                      refine lv_aload_n hx hb dL_law_224 rfl (lv_at hl 6 rfl) ?_
                      refine lv_iconst (v := 1) hx hb dL_law_225 rfl ?_
                      refine lv_iload hx hb dL_law_226 (lv_at hl 1 rfl) ?_
                      refine lv_iconst (v := 0) hx hb dL_law_228 rfl ?_
                      refine lv_iconst (v := 0) hx hb dL_law_229 rfl ?_
                      refine lv_iconst (v := 0) hx hb dL_law_230 rfl ?_
                      refine z_lawCall (vx_runSW (hh := [(0, 68, 69, 27), (0, 68, 74, 29)]) (As := [.ref (X 0), .int 1, .int (nI pi), .int 0, .int 0, .int 0]) (rest := []) ⟨hx, hb, hml, hown, hts⟩ (kL_calls_1 l hl0 D cI cZ X S O V _ (nI pi) n0 hn0 hct _ _ _) (vx_cwSW 6 hts gL_law_L_calls rfl rfl rfl (by decide +kernel) ⟨Nat.le_of_ble_eq_true rfl, Nat.le_of_ble_eq_true rfl⟩) (z_lawPreL hK hP hD hS hA hZ hY) rfl rfl hl.1 rfl (lv_room (Nat.le_of_ble_eq_true rfl)) dL_law_231 ⟨hcs.1, hcs.2⟩) hP hD hS hA (fun H locs hP hD hS => ?_)
                      refine lv_iload hx hb dL_law_234 (lv_at hl 0 rfl) ?_
                      refine z_sel_icmp_ne hx hb dL_law_236 dL_law_239 dL_law_240 dL_law_243 ?_
                      refine z_top 1 (so_eq (by first | exact op_bar hR hpi c_154 | exact op_ok hR hpi hn12 c_154)) ?_
                      refine lv_istore (lv' := [(13, .int 1), (15, .int (-3)), (14, .int (nI pi)), (12, .int (nI ac)), (11, .int z), (0, .ref b), (1, .ref (X 0)), (2, .ref (X 19)), (3, .ref (X 20)), (4, .ref (X 21)), (5, .ref (X 22)), (6, .ref (X 23)), (7, .ref (X 24)), (8, .ref (X 25)), (9, .ref (X 26)), (10, .int (nI k))]) hx hb dL_law_244 hl (by decide) rfl (fun ls hl => ?_)
                      refine lv_goto (tgt := 792) hx hb dL_law_246 (by decide) ?_
                      exact next _ _ _ _ H _ ls (by first | exact op_rel_bar hR hpi c_154 | exact op_rel hR hpi hn12 c_154) hP hD hS (lv_sub hl [0, 5, 6, 7, 8, 9, 10, 11, 12, 13, 14, 15] rfl)
              · refine lv_iload hx hb dL_law_249 (lv_at hl 1 rfl) ?_
                refine lv_bipush (v := 14) hx hb dL_law_251 (by decide) ?_
                refine lv_icmp_ge (tgt := 289) hx hb dL_law_253 (by decide) (fun c_253 => ?_) (fun c_253 => ?_)
                · exact J289 ls (by exact lv_sub hl [0, 1, 2, 3, 4, 5, 6, 7, 8, 9, 10, 11, 12, 13] rfl)
                · refine lv_aload_n hx hb dL_law_256 rfl (lv_at hl 5 rfl) ?_
                  refine lv_iconst (v := 1) hx hb dL_law_257 rfl ?_
                  refine z_iald (D := D) (j := 1) (f := T 19) hx hb hK hP 19 0 rfl rfl (by omega) (by decide) dL_law_258 ?_
                  refine z_top (nI n0) hctT ?_
                  refine lv_if_le (tgt := 289) hx hb dL_law_259 (by decide) (fun c_259 => ?_) (fun c_259 => ?_)
                  · exact J289 ls (by exact lv_sub hl [0, 1, 2, 3, 4, 5, 6, 7, 8, 9, 10, 11, 12, 13] rfl)
                  · have hp0 : 0 < n0 := Nat.pos_of_ne_zero (fun h => c_259 (by rw [h]; decide))
                    refine lv_aload_n hx hb dL_law_262 rfl (lv_at hl 4 rfl) ?_
                    refine lv_iload hx hb dL_law_263 (lv_at hl 2 rfl) ?_
                    refine lv_iconst (v := 5) hx hb dL_law_265 rfl ?_
                    refine lv_ishr hx hb dL_law_266 ?_
                    refine lv_aload_n hx hb dL_law_267 rfl (lv_at hl 6 rfl) ?_
                    refine lv_aload hx hb dL_law_268 (lv_at hl 7 rfl) ?_
                    refine lv_aload hx hb dL_law_270 (lv_at hl 8 rfl) ?_
                    refine lv_aload hx hb dL_law_272 (lv_at hl 9 rfl) ?_
                    refine lv_aload hx hb dL_law_274 (lv_at hl 10 rfl) ?_
                    refine lv_aload hx hb dL_law_276 (lv_at hl 11 rfl) ?_
                    refine lv_aload hx hb dL_law_278 (lv_at hl 12 rfl) ?_
                    refine lv_aload_n hx hb dL_law_280 rfl (lv_at hl 5 rfl) ?_
                    refine z_callE (va_runS (As := [.ref (X 0), .int (z >>> (5 &&& 31)), .ref (X 20), .ref (X 21), .ref (X 22), .ref (X 23), .ref (X 24), .ref (X 25), .ref (X 26), .ref (X 19)]) (rest := []) ⟨hx, hb, hml, hown, hts⟩ (kL_decides l D cI cZ X S O V T _ (z >>> (5 &&& 31)) k hk110 t n0 hR hp0) (va_cwS 10 hts gL_law_L_decides rfl rfl rfl (by decide +kernel) ⟨Nat.le_of_ble_eq_true rfl, Nat.le_of_ble_eq_true rfl⟩) (zW_preS hK hP hD) rfl rfl hl.1 rfl (lv_room (Nat.le_of_ble_eq_true rfl)) dL_law_281 ⟨Nat.le_trans (Nat.le_add_right _ _) hcs.1, Nat.le_trans (Nat.le_add_right _ _) hcs.2⟩) hD hS hA (fun S O V T H locs hR hP hD hS => ?_)
                    refine lv_istore (lv' := [(13, .int 1), (12, .int (nI ac)), (11, .int z), (0, .ref b), (1, .ref (X 0)), (2, .ref (X 19)), (3, .ref (X 20)), (4, .ref (X 21)), (5, .ref (X 22)), (6, .ref (X 23)), (7, .ref (X 24)), (8, .ref (X 25)), (9, .ref (X 26)), (10, .int (nI k))]) hx hb dL_law_284 hl (by decide) rfl (fun ls hl => ?_)
                    refine lv_goto (tgt := 792) hx hb dL_law_286 (by decide) ?_
                    refine W.widen (k := cells + 1) (n := slots + 6) (by omega) (by omega) ?_
                    exact next _ _ _ _ H _ ls hR hP hD hS (lv_sub hl [0, 3, 4, 5, 6, 7, 8, 9, 10, 11, 12, 13] rfl)
            · refine lv_iload hx hb dL_law_289 (lv_at hl 1 rfl) ?_
              refine lv_bipush (v := 14) hx hb dL_law_291 (by decide) ?_
              refine lv_icmp_ne (tgt := 382) hx hb dL_law_293 (by decide) (fun c_293 => ?_) (fun c_293 => ?_)
              · exact J382 ls (by exact lv_sub hl [0, 1, 2, 3, 4, 5, 6, 7, 8, 9, 10, 11, 12, 13] rfl)
              · refine lv_aload_n hx hb dL_law_296 rfl (lv_at hl 5 rfl) ?_
                refine lv_iconst (v := 1) hx hb dL_law_297 rfl ?_
                refine z_iald (D := D) (j := 1) (f := T 19) hx hb hK hP 19 0 rfl rfl (by omega) (by decide) dL_law_298 ?_
                refine z_top (nI n0) hctT ?_
                refine lv_if_le (tgt := 382) hx hb dL_law_299 (by decide) (fun c_299 => ?_) (fun c_299 => ?_)
                · exact J382 ls (by exact lv_sub hl [0, 1, 2, 3, 4, 5, 6, 7, 8, 9, 10, 11, 12, 13] rfl)
                · have hp0 : 0 < n0 := Nat.pos_of_ne_zero (fun h => c_299 (by rw [h]; decide))
                  refine lv_iload hx hb dL_law_302 (lv_at hl 2 rfl) ?_
                  refine lv_iconst (v := 5) hx hb dL_law_304 rfl ?_
                  refine lv_ishr hx hb dL_law_305 ?_
                  refine lv_aload_n hx hb dL_law_306 rfl (lv_at hl 5 rfl) ?_
                  refine lv_iconst (v := 1) hx hb dL_law_307 rfl ?_
                  refine z_iald (D := D) (j := 1) (f := T 19) hx hb hK hP 19 0 rfl rfl (by omega) (by decide) dL_law_308 ?_
                  refine z_top (nI n0) hctT ?_
                  refine z_callLow (W.runS (As := [.int (z >>> (5 &&& 31)), .int (nI n0)]) (rest := []) ⟨hx, hb, hml, hown, hts⟩ (kL_low l (z >>> (5 &&& 31)) n0 (by omega) (by omega)) (va_cwS 2 hts gL_law_L_low rfl rfl rfl (by decide +kernel) ⟨Nat.le_of_ble_eq_true rfl, Nat.le_of_ble_eq_true rfl⟩) zP_pre rfl rfl hl.1 rfl (lv_room (Nat.le_of_ble_eq_true rfl)) dL_law_309 ⟨Nat.le_trans (Nat.le_add_right cells 1) hcs.1, Nat.le_trans (Nat.le_add_right slots 6) hcs.2⟩) (by omega) (fun si hsi => ?_)
                  refine lv_istore (lv' := [(14, .int (nI si)), (13, .int 1), (12, .int (nI ac)), (11, .int z), (0, .ref b), (1, .ref (X 0)), (2, .ref (X 19)), (3, .ref (X 20)), (4, .ref (X 21)), (5, .ref (X 22)), (6, .ref (X 23)), (7, .ref (X 24)), (8, .ref (X 25)), (9, .ref (X 26)), (10, .int (nI k))]) hx hb dL_law_312 hl (by decide) rfl (fun ls hl => ?_)
                  have eov := hRS.2.2.2.2.1 si (by have := hRS.1; omega)
                  refine lv_aload hx hb dL_law_314 (lv_at hl 11 rfl) ?_
                  refine lv_iconst (v := 5) hx hb dL_law_316 rfl ?_
                  refine lv_iload hx hb dL_law_317 (lv_at hl 0 rfl) ?_
                  refine lv_imul hx hb dL_law_319 ?_
                  refine z_top (nI (5 * si)) (pk_mul 5 si) ?_
                  refine lv_iconst (v := 4) hx hb dL_law_320 rfl ?_
                  refine lv_iadd hx hb dL_law_321 ?_
                  refine z_top (nI ((5 * si) + 4)) (nI_add (5 * si) 4) ?_
                  refine z_iald (D := D) (j := (5 * si) + 4) (f := T 24) hx hb hK hP 24 0 rfl rfl (by omega) (by decide) dL_law_322 ?_
                  refine z_top (bi (O si)) eov ?_
                  refine lv_iconst (v := 1) hx hb dL_law_323 rfl ?_
                  refine lv_icmp_ne (tgt := 332) hx hb dL_law_324 (by decide) (fun c_324 => ?_) (fun c_324 => ?_)
                  · refine lv_aload_n hx hb dL_law_332 rfl (lv_at hl 6 rfl) ?_
                    refine lv_iconst (v := 0) hx hb dL_law_333 rfl ?_
                    refine z_iald (D := D) (j := 0) (f := T 19) hx hb hK hP 19 0 rfl rfl (by omega) (by decide) dL_law_334 ?_
                    refine lv_aload hx hb dL_law_335 (lv_at hl 11 rfl) ?_
                    refine lv_iconst (v := 5) hx hb dL_law_337 rfl ?_
                    refine lv_iload hx hb dL_law_338 (lv_at hl 0 rfl) ?_
                    refine lv_imul hx hb dL_law_340 ?_
                    refine z_top (nI (5 * si)) (pk_mul 5 si) ?_
                    refine lv_iconst (v := 2) hx hb dL_law_341 rfl ?_
                    refine lv_iadd hx hb dL_law_342 ?_
                    refine z_top (nI ((5 * si) + 2)) (nI_add (5 * si) 2) ?_
                    refine z_iald (D := D) (j := (5 * si) + 2) (f := T 24) hx hb hK hP 24 0 rfl rfl (by omega) (by decide) dL_law_343 ?_
                    refine lv_isub hx hb dL_law_344 ?_
                    refine lv_istore (lv' := [(15, .int ((T 19 0) - (T 24 ((5 * si) + 2)))), (14, .int (nI si)), (13, .int 1), (12, .int (nI ac)), (11, .int z), (0, .ref b), (1, .ref (X 0)), (2, .ref (X 19)), (3, .ref (X 20)), (4, .ref (X 21)), (5, .ref (X 22)), (6, .ref (X 23)), (7, .ref (X 24)), (8, .ref (X 25)), (9, .ref (X 26)), (10, .int (nI k))]) hx hb dL_law_345 hl (by decide) rfl (fun ls hl => ?_)
                    refine lv_aload hx hb dL_law_347 (lv_at hl 12 rfl) ?_
                    refine lv_iconst (v := 5) hx hb dL_law_349 rfl ?_
                    refine lv_iload hx hb dL_law_350 (lv_at hl 1 rfl) ?_
                    refine lv_imul hx hb dL_law_352 ?_
                    refine z_top (nI (5 * si)) (pk_mul 5 si) ?_
                    refine lv_iconst (v := 4) hx hb dL_law_353 rfl ?_
                    refine lv_iadd hx hb dL_law_354 ?_
                    refine z_top (nI ((5 * si) + 4)) (nI_add (5 * si) 4) ?_
                    refine lv_iconst (v := 1) hx hb dL_law_355 rfl ?_
                    refine z_iast (D := D) (j := (5 * si) + 4) (f := T 24) hx hb hK hP hD hS 24 0 rfl rfl (by omega) (by decide) dL_law_356 (fun H locs hP hD hS => ?_)
                    have hP : va_P D vwCl (lW cI cZ X S O V (va_up T 24 (upd (T 24) ((5 * si) + 4) 1))) H := hP
                    have hD : va_D A (lW cI cZ X S O V (va_up T 24 (upd (T 24) ((5 * si) + 4) 1))) := hD
                    refine lv_aload_n hx hb dL_law_357 rfl (lv_at hl 6 rfl) ?_
                    refine lv_iconst (v := 2) hx hb dL_law_358 rfl ?_
                    refine lv_iload hx hb dL_law_359 (lv_at hl 1 rfl) ?_
                    refine lv_iconst (v := 0) hx hb dL_law_361 rfl ?_
                    refine lv_iconst (v := 0) hx hb dL_law_362 rfl ?_
                    refine lv_iconst (v := 0) hx hb dL_law_363 rfl ?_
                    refine z_lawCall (vx_runSW (hh := [(0, 68, 69, 27), (0, 68, 74, 29)]) (As := [.ref (X 0), .int 2, .int (nI si), .int 0, .int 0, .int 0]) (rest := []) ⟨hx, hb, hml, hown, hts⟩ (kL_calls_2 l hl0 D cI cZ X S O V _ (nI si) n0 hn0 hct (cl_no hR hsi) _ _ _) (vx_cwSW 6 hts gL_law_L_calls rfl rfl rfl (by decide +kernel) ⟨Nat.le_of_ble_eq_true rfl, Nat.le_of_ble_eq_true rfl⟩) (z_lawPreL hK hP hD hS hA hZ hY) rfl rfl hl.1 rfl (lv_room (Nat.le_of_ble_eq_true rfl)) dL_law_364 ⟨hcs.1, hcs.2⟩) hP hD hS hA (fun H locs hP hD hS => ?_)
                    refine lv_iload hx hb dL_law_367 (lv_at hl 0 rfl) ?_
                    refine z_sel_icmp_ne hx hb dL_law_369 dL_law_372 dL_law_373 dL_law_376 ?_
                    refine z_top 1 (so_eq (by first | exact cl_bar hR hsi c_324 | exact cl_ok hR hsi c_324)) ?_
                    refine lv_istore (lv' := [(13, .int 1), (15, .int ((T 19 0) - (T 24 ((5 * si) + 2)))), (14, .int (nI si)), (12, .int (nI ac)), (11, .int z), (0, .ref b), (1, .ref (X 0)), (2, .ref (X 19)), (3, .ref (X 20)), (4, .ref (X 21)), (5, .ref (X 22)), (6, .ref (X 23)), (7, .ref (X 24)), (8, .ref (X 25)), (9, .ref (X 26)), (10, .int (nI k))]) hx hb dL_law_377 hl (by decide) rfl (fun ls hl => ?_)
                    refine lv_goto (tgt := 792) hx hb dL_law_379 (by decide) ?_
                    exact next _ _ _ _ H _ ls (cl_rel hR hsi) hP hD hS (lv_sub hl [0, 5, 6, 7, 8, 9, 10, 11, 12, 13, 14, 15] rfl)
                  · refine lv_bipush (v := (-3)) hx hb dL_law_327 (by decide) ?_
                    refine lv_goto (tgt := 345) hx hb dL_law_329 (by decide) ?_
                    refine lv_istore (lv' := [(15, .int (-3)), (14, .int (nI si)), (13, .int 1), (12, .int (nI ac)), (11, .int z), (0, .ref b), (1, .ref (X 0)), (2, .ref (X 19)), (3, .ref (X 20)), (4, .ref (X 21)), (5, .ref (X 22)), (6, .ref (X 23)), (7, .ref (X 24)), (8, .ref (X 25)), (9, .ref (X 26)), (10, .int (nI k))]) hx hb dL_law_345 hl (by decide) rfl (fun ls hl => ?_)
                    refine lv_aload hx hb dL_law_347 (lv_at hl 12 rfl) ?_
                    refine lv_iconst (v := 5) hx hb dL_law_349 rfl ?_
                    refine lv_iload hx hb dL_law_350 (lv_at hl 1 rfl) ?_
                    refine lv_imul hx hb dL_law_352 ?_
                    refine z_top (nI (5 * si)) (pk_mul 5 si) ?_
                    refine lv_iconst (v := 4) hx hb dL_law_353 rfl ?_
                    refine lv_iadd hx hb dL_law_354 ?_
                    refine z_top (nI ((5 * si) + 4)) (nI_add (5 * si) 4) ?_
                    refine lv_iconst (v := 1) hx hb dL_law_355 rfl ?_
                    refine z_iast (D := D) (j := (5 * si) + 4) (f := T 24) hx hb hK hP hD hS 24 0 rfl rfl (by omega) (by decide) dL_law_356 (fun H locs hP hD hS => ?_)
                    have hP : va_P D vwCl (lW cI cZ X S O V (va_up T 24 (upd (T 24) ((5 * si) + 4) 1))) H := hP
                    have hD : va_D A (lW cI cZ X S O V (va_up T 24 (upd (T 24) ((5 * si) + 4) 1))) := hD
                    refine lv_aload_n hx hb dL_law_357 rfl (lv_at hl 6 rfl) ?_
                    refine lv_iconst (v := 2) hx hb dL_law_358 rfl ?_
                    refine lv_iload hx hb dL_law_359 (lv_at hl 1 rfl) ?_
                    refine lv_iconst (v := 0) hx hb dL_law_361 rfl ?_
                    refine lv_iconst (v := 0) hx hb dL_law_362 rfl ?_
                    refine lv_iconst (v := 0) hx hb dL_law_363 rfl ?_
                    refine z_lawCall (vx_runSW (hh := [(0, 68, 69, 27), (0, 68, 74, 29)]) (As := [.ref (X 0), .int 2, .int (nI si), .int 0, .int 0, .int 0]) (rest := []) ⟨hx, hb, hml, hown, hts⟩ (kL_calls_2 l hl0 D cI cZ X S O V _ (nI si) n0 hn0 hct (cl_no hR hsi) _ _ _) (vx_cwSW 6 hts gL_law_L_calls rfl rfl rfl (by decide +kernel) ⟨Nat.le_of_ble_eq_true rfl, Nat.le_of_ble_eq_true rfl⟩) (z_lawPreL hK hP hD hS hA hZ hY) rfl rfl hl.1 rfl (lv_room (Nat.le_of_ble_eq_true rfl)) dL_law_364 ⟨hcs.1, hcs.2⟩) hP hD hS hA (fun H locs hP hD hS => ?_)
                    refine lv_iload hx hb dL_law_367 (lv_at hl 0 rfl) ?_
                    refine z_sel_icmp_ne hx hb dL_law_369 dL_law_372 dL_law_373 dL_law_376 ?_
                    refine z_top 1 (so_eq (by first | exact cl_bar hR hsi c_324 | exact cl_ok hR hsi c_324)) ?_
                    refine lv_istore (lv' := [(13, .int 1), (15, .int (-3)), (14, .int (nI si)), (12, .int (nI ac)), (11, .int z), (0, .ref b), (1, .ref (X 0)), (2, .ref (X 19)), (3, .ref (X 20)), (4, .ref (X 21)), (5, .ref (X 22)), (6, .ref (X 23)), (7, .ref (X 24)), (8, .ref (X 25)), (9, .ref (X 26)), (10, .int (nI k))]) hx hb dL_law_377 hl (by decide) rfl (fun ls hl => ?_)
                    refine lv_goto (tgt := 792) hx hb dL_law_379 (by decide) ?_
                    exact next _ _ _ _ H _ ls (cl_rel hR hsi) hP hD hS (lv_sub hl [0, 5, 6, 7, 8, 9, 10, 11, 12, 13, 14, 15] rfl)
          · refine lv_iload hx hb dL_law_382 (lv_at hl 1 rfl) ?_
            refine lv_bipush (v := 15) hx hb dL_law_384 (by decide) ?_
            refine lv_icmp_ne (tgt := 588) hx hb dL_law_386 (by decide) (fun c_386 => ?_) (fun c_386 => ?_)
            · exact J588 ls (by exact lv_sub hl [0, 1, 2, 3, 4, 5, 6, 7, 8, 9, 10, 11, 12, 13] rfl)
            · refine lv_iload hx hb dL_law_389 (lv_at hl 2 rfl) ?_
              refine lv_iconst (v := 5) hx hb dL_law_391 rfl ?_
              refine lv_ishr hx hb dL_law_392 ?_
              refine lv_iconst (v := 5) hx hb dL_law_393 rfl ?_
              refine z_callLow (W.runS (As := [.int (z >>> (5 &&& 31)), .int 5]) (rest := []) ⟨hx, hb, hml, hown, hts⟩ (kL_low l (z >>> (5 &&& 31)) 5 (by omega) (by omega)) (va_cwS 2 hts gL_law_L_low rfl rfl rfl (by decide +kernel) ⟨Nat.le_of_ble_eq_true rfl, Nat.le_of_ble_eq_true rfl⟩) zP_pre rfl rfl hl.1 rfl (lv_room (Nat.le_of_ble_eq_true rfl)) dL_law_394 ⟨Nat.le_trans (Nat.le_add_right cells 1) hcs.1, Nat.le_trans (Nat.le_add_right slots 6) hcs.2⟩) (by omega) (fun pi hpi => ?_)
              refine lv_istore (lv' := [(14, .int (nI pi)), (13, .int 1), (12, .int (nI ac)), (11, .int z), (0, .ref b), (1, .ref (X 0)), (2, .ref (X 19)), (3, .ref (X 20)), (4, .ref (X 21)), (5, .ref (X 22)), (6, .ref (X 23)), (7, .ref (X 24)), (8, .ref (X 25)), (9, .ref (X 26)), (10, .int (nI k))]) hx hb dL_law_397 hl (by decide) rfl (fun ls hl => ?_)
              refine lv_iload hx hb dL_law_399 (lv_at hl 3 rfl) ?_
              refine lv_bipush (v := 8) hx hb dL_law_401 (by decide) ?_
              refine lv_ishr hx hb dL_law_403 ?_
              refine lv_iconst (v := 3) hx hb dL_law_404 rfl ?_
              refine z_callLow (W.runS (As := [.int (z >>> (8 &&& 31)), .int 3]) (rest := []) ⟨hx, hb, hml, hown, hts⟩ (kL_low l (z >>> (8 &&& 31)) 3 (by omega) (by omega)) (va_cwS 2 hts gL_law_L_low rfl rfl rfl (by decide +kernel) ⟨Nat.le_of_ble_eq_true rfl, Nat.le_of_ble_eq_true rfl⟩) zP_pre rfl rfl hl.1 rfl (lv_room (Nat.le_of_ble_eq_true rfl)) dL_law_405 ⟨Nat.le_trans (Nat.le_add_right cells 1) hcs.1, Nat.le_trans (Nat.le_add_right slots 6) hcs.2⟩) (by omega) (fun ri hri => ?_)
              refine lv_istore (lv' := [(15, .int (nI ri)), (14, .int (nI pi)), (13, .int 1), (12, .int (nI ac)), (11, .int z), (0, .ref b), (1, .ref (X 0)), (2, .ref (X 19)), (3, .ref (X 20)), (4, .ref (X 21)), (5, .ref (X 22)), (6, .ref (X 23)), (7, .ref (X 24)), (8, .ref (X 25)), (9, .ref (X 26)), (10, .int (nI k))]) hx hb dL_law_408 hl (by decide) rfl (fun ls hl => ?_)
              refine lv_iload hx hb dL_law_410 (lv_at hl 4 rfl) ?_
              refine lv_bipush (v := 10) hx hb dL_law_412 (by decide) ?_
              refine lv_ishr hx hb dL_law_414 ?_
              refine lv_iconst (v := 5) hx hb dL_law_415 rfl ?_
              refine z_callLow (W.runS (As := [.int (z >>> (10 &&& 31)), .int 5]) (rest := []) ⟨hx, hb, hml, hown, hts⟩ (kL_low l (z >>> (10 &&& 31)) 5 (by omega) (by omega)) (va_cwS 2 hts gL_law_L_low rfl rfl rfl (by decide +kernel) ⟨Nat.le_of_ble_eq_true rfl, Nat.le_of_ble_eq_true rfl⟩) zP_pre rfl rfl hl.1 rfl (lv_room (Nat.le_of_ble_eq_true rfl)) dL_law_416 ⟨Nat.le_trans (Nat.le_add_right cells 1) hcs.1, Nat.le_trans (Nat.le_add_right slots 6) hcs.2⟩) (by omega) (fun oi hoi => ?_)
              refine lv_istore (lv' := [(16, .int (nI oi)), (15, .int (nI ri)), (14, .int (nI pi)), (13, .int 1), (12, .int (nI ac)), (11, .int z), (0, .ref b), (1, .ref (X 0)), (2, .ref (X 19)), (3, .ref (X 20)), (4, .ref (X 21)), (5, .ref (X 22)), (6, .ref (X 23)), (7, .ref (X 24)), (8, .ref (X 25)), (9, .ref (X 26)), (10, .int (nI k))]) hx hb dL_law_419 hl (by decide) rfl (fun ls hl => ?_)
              refine lv_iload hx hb dL_law_421 (lv_at hl 5 rfl) ?_
              refine lv_bipush (v := 13) hx hb dL_law_423 (by decide) ?_
              refine lv_ishr hx hb dL_law_425 ?_
              refine lv_iconst (v := 5) hx hb dL_law_426 rfl ?_
              refine z_callLow (W.runS (As := [.int (z >>> (13 &&& 31)), .int 5]) (rest := []) ⟨hx, hb, hml, hown, hts⟩ (kL_low l (z >>> (13 &&& 31)) 5 (by omega) (by omega)) (va_cwS 2 hts gL_law_L_low rfl rfl rfl (by decide +kernel) ⟨Nat.le_of_ble_eq_true rfl, Nat.le_of_ble_eq_true rfl⟩) zP_pre rfl rfl hl.1 rfl (lv_room (Nat.le_of_ble_eq_true rfl)) dL_law_427 ⟨Nat.le_trans (Nat.le_add_right cells 1) hcs.1, Nat.le_trans (Nat.le_add_right slots 6) hcs.2⟩) (by omega) (fun wi hwi => ?_)
              refine lv_istore (lv' := [(17, .int (nI wi)), (16, .int (nI oi)), (15, .int (nI ri)), (14, .int (nI pi)), (13, .int 1), (12, .int (nI ac)), (11, .int z), (0, .ref b), (1, .ref (X 0)), (2, .ref (X 19)), (3, .ref (X 20)), (4, .ref (X 21)), (5, .ref (X 22)), (6, .ref (X 23)), (7, .ref (X 24)), (8, .ref (X 25)), (9, .ref (X 26)), (10, .int (nI k))]) hx hb dL_law_430 hl (by decide) rfl (fun ls hl => ?_)
              refine lv_iload hx hb dL_law_432 (lv_at hl 3 rfl) ?_
              refine lv_iload hx hb dL_law_434 (lv_at hl 1 rfl) ?_
              refine z_cut (G := F0 m 458 ls [.int (bi (!decide (nI pi = nI oi) && (!decide (nI pi = nI wi) && !decide (nI oi = nI wi))))]) (fun J458 => ?_) ?_
              · refine lv_icmp_eq (tgt := 457) hx hb dL_law_436 (by decide) (fun c_436 => ?_) (fun c_436 => ?_)
                · refine lv_iconst (v := 0) hx hb dL_law_457 rfl ?_
                  exact z_top (bi (!decide (nI pi = nI oi) && (!decide (nI pi = nI wi) && !decide (nI oi = nI wi)))) (bi_of0 (by simp [(eq_true c_386), (eq_true c_436)])) J458
                · refine lv_iload hx hb dL_law_439 (lv_at hl 3 rfl) ?_
                  refine lv_iload hx hb dL_law_441 (lv_at hl 0 rfl) ?_
                  refine lv_icmp_eq (tgt := 457) hx hb dL_law_443 (by decide) (fun c_443 => ?_) (fun c_443 => ?_)
                  · refine lv_iconst (v := 0) hx hb dL_law_457 rfl ?_
                    exact z_top (bi (!decide (nI pi = nI oi) && (!decide (nI pi = nI wi) && !decide (nI oi = nI wi)))) (bi_of0 (by simp [(eq_true c_386), c_436, (eq_true c_443)])) J458
                  · refine lv_iload hx hb dL_law_446 (lv_at hl 1 rfl) ?_
                    refine lv_iload hx hb dL_law_448 (lv_at hl 0 rfl) ?_
                    refine z_sel_icmp_eq hx hb dL_law_450 dL_law_453 dL_law_454 dL_law_457 ?_
                    exact z_top (bi (!decide (nI pi = nI oi) && (!decide (nI pi = nI wi) && !decide (nI oi = nI wi)))) (congrArg bi (by simp [(eq_true c_386), c_436, c_443])) J458
              · refine lv_istore (lv' := [(18, .int (bi (!decide (nI pi = nI oi) && (!decide (nI pi = nI wi) && !decide (nI oi = nI wi))))), (17, .int (nI wi)), (16, .int (nI oi)), (15, .int (nI ri)), (14, .int (nI pi)), (13, .int 1), (12, .int (nI ac)), (11, .int z), (0, .ref b), (1, .ref (X 0)), (2, .ref (X 19)), (3, .ref (X 20)), (4, .ref (X 21)), (5, .ref (X 22)), (6, .ref (X 23)), (7, .ref (X 24)), (8, .ref (X 25)), (9, .ref (X 26)), (10, .int (nI k))]) hx hb dL_law_458 hl (by decide) rfl (fun ls hl => ?_)
                refine lv_iload hx hb dL_law_460 (lv_at hl 0 rfl) ?_
                refine z_cut (G := F0 m 500 ls [.int (bi ((!decide (nI pi = nI oi) && (!decide (nI pi = nI wi) && !decide (nI oi = nI wi))) && (c_serves S oi ri && c_serves S wi ri)))]) (fun J500 => ?_) ?_
                · refine z_if_eq (tgt := 499) hx hb dL_law_462 (by decide) (fun c_462 => ?_) (fun c_462 => ?_)
                  · refine lv_iconst (v := 0) hx hb dL_law_499 rfl ?_
                    exact z_top (bi ((!decide (nI pi = nI oi) && (!decide (nI pi = nI wi) && !decide (nI oi = nI wi))) && (c_serves S oi ri && c_serves S wi ri))) (bi_of0 (by simp only [(eq_true c_386), c_462, Bool.true_and, Bool.false_and, Bool.and_true, Bool.and_false])) J500
                  · refine lv_iload hx hb dL_law_465 (lv_at hl 2 rfl) ?_
                    refine lv_iload hx hb dL_law_467 (lv_at hl 3 rfl) ?_
                    refine lv_aload_n hx hb dL_law_469 rfl (lv_at hl 11 rfl) ?_
                    refine lv_aload hx hb dL_law_470 (lv_at hl 12 rfl) ?_
                    refine lv_aload hx hb dL_law_472 (lv_at hl 13 rfl) ?_
                    refine z_callR (W.runS (As := [.int (nI oi), .int (nI ri), .ref (X 20), .ref (X 21), .ref (X 22)]) (rest := []) ⟨hx, hb, hml, hown, hts⟩ (kL_serves l D cI cZ X S O V T oi ri (by omega) (by omega) hG hPP) (va_cwS 5 hts gL_law_L_serves rfl rfl rfl (by decide +kernel) ⟨Nat.le_of_ble_eq_true rfl, Nat.le_of_ble_eq_true rfl⟩) (zR_preS hK hP) rfl rfl hl.1 rfl (lv_room (Nat.le_of_ble_eq_true rfl)) dL_law_474 ⟨Nat.le_trans (Nat.le_add_right cells 1) hcs.1, Nat.le_trans (Nat.le_add_right slots 6) hcs.2⟩) ?_
                    refine z_if_eq (tgt := 499) hx hb dL_law_477 (by decide) (fun c_477 => ?_) (fun c_477 => ?_)
                    · refine lv_iconst (v := 0) hx hb dL_law_499 rfl ?_
                      exact z_top (bi ((!decide (nI pi = nI oi) && (!decide (nI pi = nI wi) && !decide (nI oi = nI wi))) && (c_serves S oi ri && c_serves S wi ri))) (bi_of0 (by simp only [(eq_true c_386), c_462, c_477, Bool.true_and, Bool.false_and, Bool.and_true, Bool.and_false])) J500
                    · refine lv_iload hx hb dL_law_480 (lv_at hl 1 rfl) ?_
                      refine lv_iload hx hb dL_law_482 (lv_at hl 3 rfl) ?_
                      refine lv_aload_n hx hb dL_law_484 rfl (lv_at hl 11 rfl) ?_
                      refine lv_aload hx hb dL_law_485 (lv_at hl 12 rfl) ?_
                      refine lv_aload hx hb dL_law_487 (lv_at hl 13 rfl) ?_
                      refine z_callR (W.runS (As := [.int (nI wi), .int (nI ri), .ref (X 20), .ref (X 21), .ref (X 22)]) (rest := []) ⟨hx, hb, hml, hown, hts⟩ (kL_serves l D cI cZ X S O V T wi ri (by omega) (by omega) hG hPP) (va_cwS 5 hts gL_law_L_serves rfl rfl rfl (by decide +kernel) ⟨Nat.le_of_ble_eq_true rfl, Nat.le_of_ble_eq_true rfl⟩) (zR_preS hK hP) rfl rfl hl.1 rfl (lv_room (Nat.le_of_ble_eq_true rfl)) dL_law_489 ⟨Nat.le_trans (Nat.le_add_right cells 1) hcs.1, Nat.le_trans (Nat.le_add_right slots 6) hcs.2⟩) ?_
                      refine z_if_eq (tgt := 499) hx hb dL_law_492 (by decide) (fun c_492 => ?_) (fun c_492 => ?_)
                      · refine lv_iconst (v := 0) hx hb dL_law_499 rfl ?_
                        exact z_top (bi ((!decide (nI pi = nI oi) && (!decide (nI pi = nI wi) && !decide (nI oi = nI wi))) && (c_serves S oi ri && c_serves S wi ri))) (bi_of0 (by simp only [(eq_true c_386), c_462, c_477, c_492, Bool.true_and, Bool.false_and, Bool.and_true, Bool.and_false])) J500
                      · refine lv_iconst (v := 1) hx hb dL_law_495 rfl ?_
                        refine lv_goto (tgt := 500) hx hb dL_law_496 (by decide) ?_
                        exact z_top (bi ((!decide (nI pi = nI oi) && (!decide (nI pi = nI wi) && !decide (nI oi = nI wi))) && (c_serves S oi ri && c_serves S wi ri))) (bi_of1 (by simp only [(eq_true c_386), c_462, c_477, c_492, Bool.true_and, Bool.false_and, Bool.and_true, Bool.and_false])) J500
                · refine lv_istore (lv' := [(19, .int (bi ((!decide (nI pi = nI oi) && (!decide (nI pi = nI wi) && !decide (nI oi = nI wi))) && (c_serves S oi ri && c_serves S wi ri)))), (18, .int (bi (!decide (nI pi = nI oi) && (!decide (nI pi = nI wi) && !decide (nI oi = nI wi))))), (17, .int (nI wi)), (16, .int (nI oi)), (15, .int (nI ri)), (14, .int (nI pi)), (13, .int 1), (12, .int (nI ac)), (11, .int z), (0, .ref b), (1, .ref (X 0)), (2, .ref (X 19)), (3, .ref (X 20)), (4, .ref (X 21)), (5, .ref (X 22)), (6, .ref (X 23)), (7, .ref (X 24)), (8, .ref (X 25)), (9, .ref (X 26)), (10, .int (nI k))]) hx hb dL_law_500 hl (by decide) rfl (fun ls hl => ?_)
                  refine lv_aload hx hb dL_law_502 (lv_at hl 15 rfl) ?_
                  refine lv_iconst (v := 3) hx hb dL_law_504 rfl ?_
                  refine lv_iload hx hb dL_law_505 (lv_at hl 5 rfl) ?_
                  refine lv_imul hx hb dL_law_507 ?_
                  refine z_top (nI (3 * pi)) (pk_mul 3 pi) ?_
                  refine lv_iload hx hb dL_law_508 (lv_at hl 4 rfl) ?_
                  refine lv_iadd hx hb dL_law_510 ?_
                  refine z_top (nI ((3 * pi) + ri)) (nI_add (3 * pi) ri) ?_
                  refine lv_iload hx hb dL_law_511 (lv_at hl 0 rfl) ?_
                  refine z_cut (G := F0 m 535 ls [.int (if ((!decide (nI pi = nI oi) && (!decide (nI pi = nI wi) && !decide (nI oi = nI wi))) && (c_serves S oi ri && c_serves S wi ri)) = true then T 19 0 + 60 else T 23 (3 * pi + ri)), .int (nI ((3 * pi) + ri)), .ref (X 23)]) (fun J535 => ?_) ?_
                  · refine z_if_eq (tgt := 525) hx hb dL_law_513 (by decide) (fun c_513 => ?_) (fun c_513 => ?_)
                    · refine lv_aload hx hb dL_law_525 (lv_at hl 15 rfl) ?_
                      refine lv_iconst (v := 3) hx hb dL_law_527 rfl ?_
                      refine lv_iload hx hb dL_law_528 (lv_at hl 5 rfl) ?_
                      refine lv_imul hx hb dL_law_530 ?_
                      refine z_top (nI (3 * pi)) (pk_mul 3 pi) ?_
                      refine lv_iload hx hb dL_law_531 (lv_at hl 4 rfl) ?_
                      refine lv_iadd hx hb dL_law_533 ?_
                      refine z_top (nI ((3 * pi) + ri)) (nI_add (3 * pi) ri) ?_
                      refine z_iald (D := D) (j := (3 * pi) + ri) (f := T 23) hx hb hK hP 23 0 rfl rfl (by omega) (by decide) dL_law_534 ?_
                      exact z_top (if ((!decide (nI pi = nI oi) && (!decide (nI pi = nI wi) && !decide (nI oi = nI wi))) && (c_serves S oi ri && c_serves S wi ri)) = true then T 19 0 + 60 else T 23 (3 * pi + ri)) (by simp only [(eq_true c_386), c_513, if_true, if_false, Bool.false_eq_true]) J535
                    · refine lv_aload_n hx hb dL_law_516 rfl (lv_at hl 11 rfl) ?_
                      refine lv_iconst (v := 0) hx hb dL_law_517 rfl ?_
                      refine z_iald (D := D) (j := 0) (f := T 19) hx hb hK hP 19 0 rfl rfl (by omega) (by decide) dL_law_518 ?_
                      refine lv_bipush (v := 60) hx hb dL_law_519 (by decide) ?_
                      refine lv_iadd hx hb dL_law_521 ?_
                      refine lv_goto (tgt := 535) hx hb dL_law_522 (by decide) ?_
                      exact z_top (if ((!decide (nI pi = nI oi) && (!decide (nI pi = nI wi) && !decide (nI oi = nI wi))) && (c_serves S oi ri && c_serves S wi ri)) = true then T 19 0 + 60 else T 23 (3 * pi + ri)) (by simp only [(eq_true c_386), c_513, if_true, if_false, Bool.false_eq_true]) J535
                  · refine z_iast (D := D) (j := (3 * pi) + ri) (f := T 23) hx hb hK hP hD hS 23 0 rfl rfl (by omega) (by decide) dL_law_535 (fun H locs hP hD hS => ?_)
                    have hP : va_P D vwCl (lW cI cZ X S O V (va_up T 23 (upd (T 23) ((3 * pi) + ri) (if ((!decide (nI pi = nI oi) && (!decide (nI pi = nI wi) && !decide (nI oi = nI wi))) && (c_serves S oi ri && c_serves S wi ri)) = true then T 19 0 + 60 else T 23 (3 * pi + ri))))) H := hP
                    have hD : va_D A (lW cI cZ X S O V (va_up T 23 (upd (T 23) ((3 * pi) + ri) (if ((!decide (nI pi = nI oi) && (!decide (nI pi = nI wi) && !decide (nI oi = nI wi))) && (c_serves S oi ri && c_serves S wi ri)) = true then T 19 0 + 60 else T 23 (3 * pi + ri))))) := hD
                    refine lv_aload_n hx hb dL_law_536 rfl (lv_at hl 10 rfl) ?_
                    refine lv_iconst (v := 3) hx hb dL_law_537 rfl ?_
                    refine lv_iload hx hb dL_law_538 (lv_at hl 5 rfl) ?_
                    refine lv_iload hx hb dL_law_540 (lv_at hl 4 rfl) ?_
                    refine lv_iload hx hb dL_law_542 (lv_at hl 3 rfl) ?_
                    refine lv_iload hx hb dL_law_544 (lv_at hl 2 rfl) ?_
                    refine z_lawCall (vx_runSW (hh := [(0, 68, 69, 27), (0, 68, 74, 29)]) (As := [.ref (X 0), .int 3, .int (nI pi), .int (nI ri), .int (nI oi), .int (nI wi)]) (rest := []) ⟨hx, hb, hml, hown, hts⟩ (kL_calls_3 l hl0 D cI cZ X S O V _ (nI pi) (nI ri) (nI oi) (nI wi)) (vx_cwSW 6 hts gL_law_L_calls rfl rfl rfl (by decide +kernel) ⟨Nat.le_of_ble_eq_true rfl, Nat.le_of_ble_eq_true rfl⟩) (z_lawPreL hK hP hD hS hA hZ hY) rfl rfl hl.1 rfl (lv_room (Nat.le_of_ble_eq_true rfl)) dL_law_546 ⟨hcs.1, hcs.2⟩) hP hD hS hA (fun H locs hP hD hS => ?_)
                    refine lv_iload hx hb dL_law_549 (lv_at hl 0 rfl) ?_
                    refine z_cut (G := F0 m 575 ls [.int (if ((!decide (nI pi = nI oi) && (!decide (nI pi = nI wi) && !decide (nI oi = nI wi))) && (c_serves S oi ri && c_serves S wi ri)) = true then T 19 0 + 60 else if (!decide (nI pi = nI oi) && (!decide (nI pi = nI wi) && !decide (nI oi = nI wi))) = true then -3 else -2), .int (l_thr (c_bgK S (nI pi) (nI ri) (nI oi) (nI wi)) (V 0 + 60))]) (fun J575 => ?_) ?_
                    · refine z_if_eq (tgt := 563) hx hb dL_law_551 (by decide) (fun c_551 => ?_) (fun c_551 => ?_)
                      · refine lv_iload hx hb dL_law_563 (lv_at hl 1 rfl) ?_
                        refine z_if_eq (tgt := 573) hx hb dL_law_565 (by decide) (fun c_565 => ?_) (fun c_565 => ?_)
                        · refine lv_bipush (v := (-2)) hx hb dL_law_573 (by decide) ?_
                          exact z_top (if ((!decide (nI pi = nI oi) && (!decide (nI pi = nI wi) && !decide (nI oi = nI wi))) && (c_serves S oi ri && c_serves S wi ri)) = true then T 19 0 + 60 else if (!decide (nI pi = nI oi) && (!decide (nI pi = nI wi) && !decide (nI oi = nI wi))) = true then -3 else -2) (by first | rw [if_pos c_551] | rw [if_neg (by rw [c_551]; decide), if_pos c_565] | rw [if_neg (by rw [c_551]; decide), if_neg (by rw [c_565]; decide)]) J575
                        · refine lv_bipush (v := (-3)) hx hb dL_law_568 (by decide) ?_
                          refine lv_goto (tgt := 575) hx hb dL_law_570 (by decide) ?_
                          exact z_top (if ((!decide (nI pi = nI oi) && (!decide (nI pi = nI wi) && !decide (nI oi = nI wi))) && (c_serves S oi ri && c_serves S wi ri)) = true then T 19 0 + 60 else if (!decide (nI pi = nI oi) && (!decide (nI pi = nI wi) && !decide (nI oi = nI wi))) = true then -3 else -2) (by first | rw [if_pos c_551] | rw [if_neg (by rw [c_551]; decide), if_pos c_565] | rw [if_neg (by rw [c_551]; decide), if_neg (by rw [c_565]; decide)]) J575
                      · refine lv_aload_n hx hb dL_law_554 rfl (lv_at hl 11 rfl) ?_
                        refine lv_iconst (v := 0) hx hb dL_law_555 rfl ?_
                        refine z_iald (D := D) (j := 0) (f := T 19) hx hb hK hP 19 0 rfl rfl (by omega) (by decide) dL_law_556 ?_
                        refine lv_bipush (v := 60) hx hb dL_law_557 (by decide) ?_
                        refine lv_iadd hx hb dL_law_559 ?_
                        refine lv_goto (tgt := 575) hx hb dL_law_560 (by decide) ?_
                        exact z_top (if ((!decide (nI pi = nI oi) && (!decide (nI pi = nI wi) && !decide (nI oi = nI wi))) && (c_serves S oi ri && c_serves S wi ri)) = true then T 19 0 + 60 else if (!decide (nI pi = nI oi) && (!decide (nI pi = nI wi) && !decide (nI oi = nI wi))) = true then -3 else -2) (by first | rw [if_pos c_551] | rw [if_neg (by rw [c_551]; decide), if_pos c_565] | rw [if_neg (by rw [c_551]; decide), if_neg (by rw [c_565]; decide)]) J575
                    · refine z_sel_icmp_ne hx hb dL_law_575 dL_law_578 dL_law_579 dL_law_582 ?_
                      refine z_top 1 (so_eq (bg_ans hR hpi hri hoi hwi)) ?_
                      refine lv_istore (lv' := [(13, .int 1), (19, .int (bi ((!decide (nI pi = nI oi) && (!decide (nI pi = nI wi) && !decide (nI oi = nI wi))) && (c_serves S oi ri && c_serves S wi ri)))), (18, .int (bi (!decide (nI pi = nI oi) && (!decide (nI pi = nI wi) && !decide (nI oi = nI wi))))), (17, .int (nI wi)), (16, .int (nI oi)), (15, .int (nI ri)), (14, .int (nI pi)), (12, .int (nI ac)), (11, .int z), (0, .ref b), (1, .ref (X 0)), (2, .ref (X 19)), (3, .ref (X 20)), (4, .ref (X 21)), (5, .ref (X 22)), (6, .ref (X 23)), (7, .ref (X 24)), (8, .ref (X 25)), (9, .ref (X 26)), (10, .int (nI k))]) hx hb dL_law_583 hl (by decide) rfl (fun ls hl => ?_)
                      refine lv_goto (tgt := 792) hx hb dL_law_585 (by decide) ?_
                      exact next _ _ _ _ H _ ls (bg_rel hR hpi hri hoi hwi) hP hD hS (lv_sub hl [0, 9, 10, 11, 12, 13, 14, 15, 16, 17, 18, 19] rfl)
        · refine lv_iload hx hb dL_law_588 (lv_at hl 1 rfl) ?_
          refine lv_bipush (v := 18) hx hb dL_law_590 (by decide) ?_
          refine lv_icmp_ge (tgt := 628) hx hb dL_law_592 (by decide) (fun c_592 => ?_) (fun c_592 => ?_)
          · exact J628 ls (by exact lv_sub hl [0, 1, 2, 3, 4, 5, 6, 7, 8, 9, 10, 11, 12, 13] rfl)
          · refine lv_aload_n hx hb dL_law_595 rfl (lv_at hl 4 rfl) ?_
            refine lv_iload hx hb dL_law_596 (lv_at hl 1 rfl) ?_
            refine lv_bipush (v := 16) hx hb dL_law_598 (by decide) ?_
            refine lv_isub hx hb dL_law_600 ?_
            refine z_cut (G := F0 m 613 ls [.int (if (0 : Int32) ≤ nI ac - 16 then nI ac - 16 else 0), .ref (X 0)]) (fun J613 => ?_) ?_
            · refine lv_if_ge (tgt := 608) hx hb dL_law_601 (by decide) (fun c_601 => ?_) (fun c_601 => ?_)
              · refine lv_iload hx hb dL_law_608 (lv_at hl 1 rfl) ?_
                refine lv_bipush (v := 16) hx hb dL_law_610 (by decide) ?_
                refine lv_isub hx hb dL_law_612 ?_
                exact z_top (if (0 : Int32) ≤ nI ac - 16 then nI ac - 16 else 0) (by simp only [c_592, c_601, if_true, if_false]) J613
              · refine lv_iconst (v := 0) hx hb dL_law_604 rfl ?_
                refine lv_goto (tgt := 613) hx hb dL_law_605 (by decide) ?_
                exact z_top (if (0 : Int32) ≤ nI ac - 16 then nI ac - 16 else 0) (by simp only [c_592, c_601, if_true, if_false]) J613
            · refine lv_iload hx hb dL_law_613 (lv_at hl 2 rfl) ?_
              refine lv_iconst (v := 5) hx hb dL_law_615 rfl ?_
              refine lv_ishr hx hb dL_law_616 ?_
              refine lv_aload hx hb dL_law_617 (lv_at hl 11 rfl) ?_
              refine lv_aload_n hx hb dL_law_619 rfl (lv_at hl 5 rfl) ?_
              refine z_callE (va_runS (As := [.ref (X 0), .int (if (0 : Int32) ≤ nI ac - 16 then nI ac - 16 else 0), .int (z >>> (5 &&& 31)), .ref (X 25), .ref (X 19)]) (rest := []) ⟨hx, hb, hml, hown, hts⟩ (kL_caches l D cI cZ X S O V T _ (if (0 : Int32) ≤ nI ac - 16 then nI ac - 16 else 0) (z >>> (5 &&& 31)) k hk110 t n0 hR) (va_cwS 5 hts gL_law_L_caches rfl rfl rfl (by decide +kernel) ⟨Nat.le_of_ble_eq_true rfl, Nat.le_of_ble_eq_true rfl⟩) (zW_preS hK hP hD) rfl rfl hl.1 rfl (lv_room (Nat.le_of_ble_eq_true rfl)) dL_law_620 ⟨Nat.le_trans (Nat.le_add_right _ _) hcs.1, Nat.le_trans (Nat.le_add_right _ _) hcs.2⟩) hD hS hA (fun S O V T H locs hR hP hD hS => ?_)
              refine lv_istore (lv' := [(13, .int 1), (12, .int (nI ac)), (11, .int z), (0, .ref b), (1, .ref (X 0)), (2, .ref (X 19)), (3, .ref (X 20)), (4, .ref (X 21)), (5, .ref (X 22)), (6, .ref (X 23)), (7, .ref (X 24)), (8, .ref (X 25)), (9, .ref (X 26)), (10, .int (nI k))]) hx hb dL_law_623 hl (by decide) rfl (fun ls hl => ?_)
              refine lv_goto (tgt := 792) hx hb dL_law_625 (by decide) ?_
              refine W.widen (k := cells + 1) (n := slots + 6) (by omega) (by omega) ?_
              exact next _ _ _ _ H _ ls hR hP hD hS (lv_sub hl [0, 3, 4, 5, 6, 7, 8, 9, 10, 11, 12, 13] rfl)
      · refine lv_iload hx hb dL_law_628 (lv_at hl 1 rfl) ?_
        refine lv_bipush (v := 18) hx hb dL_law_630 (by decide) ?_
        refine lv_icmp_ne (tgt := 729) hx hb dL_law_632 (by decide) (fun c_632 => ?_) (fun c_632 => ?_)
        · exact J729 ls (by exact lv_sub hl [0, 1, 2, 3, 4, 5, 6, 7, 8, 9, 10, 11, 12, 13] rfl)
        · refine lv_iload hx hb dL_law_635 (lv_at hl 2 rfl) ?_
          refine lv_bipush (v := 9) hx hb dL_law_637 (by decide) ?_
          refine lv_ishr hx hb dL_law_639 ?_
          refine lv_iconst (v := 3) hx hb dL_law_640 rfl ?_
          refine z_callLow (W.runS (As := [.int (z >>> (9 &&& 31)), .int 3]) (rest := []) ⟨hx, hb, hml, hown, hts⟩ (kL_low l (z >>> (9 &&& 31)) 3 (by omega) (by omega)) (va_cwS 2 hts gL_law_L_low rfl rfl rfl (by decide +kernel) ⟨Nat.le_of_ble_eq_true rfl, Nat.le_of_ble_eq_true rfl⟩) zP_pre rfl rfl hl.1 rfl (lv_room (Nat.le_of_ble_eq_true rfl)) dL_law_641 ⟨Nat.le_trans (Nat.le_add_right cells 1) hcs.1, Nat.le_trans (Nat.le_add_right slots 6) hcs.2⟩) (by omega) (fun di hdi => ?_)
          refine lv_if_ne (tgt := 729) hx hb dL_law_644 (by decide) (fun c_644 => ?_) (fun c_644 => ?_)
          · exact J729 ls (by exact lv_sub hl [0, 1, 2, 3, 4, 5, 6, 7, 8, 9, 10, 11, 12, 13] rfl)
          · refine lv_iload hx hb dL_law_647 (lv_at hl 2 rfl) ?_
            refine lv_iconst (v := 5) hx hb dL_law_649 rfl ?_
            refine lv_ishr hx hb dL_law_650 ?_
            refine lv_iload hx hb dL_law_651 (lv_at hl 2 rfl) ?_
            refine lv_bipush (v := 13) hx hb dL_law_653 (by decide) ?_
            refine lv_ishr hx hb dL_law_655 ?_
            refine lv_iconst (v := 2) hx hb dL_law_656 rfl ?_
            refine z_callLow (W.runS (As := [.int (z >>> (13 &&& 31)), .int 2]) (rest := [.int (z >>> (5 &&& 31))]) ⟨hx, hb, hml, hown, hts⟩ (kL_low l (z >>> (13 &&& 31)) 2 (by omega) (by omega)) (va_cwS 2 hts gL_law_L_low rfl rfl rfl (by decide +kernel) ⟨Nat.le_of_ble_eq_true rfl, Nat.le_of_ble_eq_true rfl⟩) zP_pre rfl rfl hl.1 rfl (lv_room (Nat.le_of_ble_eq_true rfl)) dL_law_657 ⟨Nat.le_trans (Nat.le_add_right cells 1) hcs.1, Nat.le_trans (Nat.le_add_right slots 6) hcs.2⟩) (by omega) (fun ei hei => ?_)
            refine z_cutP (Pr := fun wx : Nat => wx = 40 ∨ wx = 301) (pc2 := 671) (ls2 := ls) (st2 := [.int (z >>> (5 &&& 31))]) (fun J671 => ?_) (fun wx hwx => ?_)
            · refine lv_if_ne (tgt := 668) hx hb dL_law_660 (by decide) (fun c_660 => ?_) (fun c_660 => ?_)
              · refine lv_sipush (v := 301) hx hb dL_law_668 (by decide) ?_
                exact J671 301 (by decide)
              · refine lv_bipush (v := 40) hx hb dL_law_663 (by decide) ?_
                refine lv_goto (tgt := 671) hx hb dL_law_665 (by decide) ?_
                exact J671 40 (by decide)
            · refine z_callLow (W.runS (As := [.int (z >>> (5 &&& 31)), .int (nI wx)]) (rest := []) ⟨hx, hb, hml, hown, hts⟩ (kL_low l (z >>> (5 &&& 31)) wx (by omega) (by omega)) (va_cwS 2 hts gL_law_L_low rfl rfl rfl (by decide +kernel) ⟨Nat.le_of_ble_eq_true rfl, Nat.le_of_ble_eq_true rfl⟩) zP_pre rfl rfl hl.1 rfl (lv_room (Nat.le_of_ble_eq_true rfl)) dL_law_671 ⟨Nat.le_trans (Nat.le_add_right cells 1) hcs.1, Nat.le_trans (Nat.le_add_right slots 6) hcs.2⟩) (by omega) (fun mi hmi => ?_)
              have hmi2 : mi ≤ 300 := by omega
              refine lv_istore (lv' := [(14, .int (nI mi)), (13, .int 1), (12, .int (nI ac)), (11, .int z), (0, .ref b), (1, .ref (X 0)), (2, .ref (X 19)), (3, .ref (X 20)), (4, .ref (X 21)), (5, .ref (X 22)), (6, .ref (X 23)), (7, .ref (X 24)), (8, .ref (X 25)), (9, .ref (X 26)), (10, .int (nI k))]) hx hb dL_law_674 hl (by decide) rfl (fun ls hl => ?_)
              refine lv_aload_n hx hb dL_law_676 rfl (lv_at hl 6 rfl) ?_
              refine lv_iconst (v := 2) hx hb dL_law_677 rfl ?_
              refine lv_dup2_11 hx hb dL_law_678 rfl rfl ?_
              refine z_iald (D := D) (j := 2) (f := T 19) hx hb hK hP 19 0 rfl rfl (by omega) (by decide) dL_law_679 ?_
              refine z_top (nI j2) hkT ?_
              refine lv_iconst (v := 1) hx hb dL_law_680 rfl ?_
              refine lv_iadd hx hb dL_law_681 ?_
              refine z_top (nI (j2 + 1)) (nI_add j2 1) ?_
              refine z_iast (D := D) (j := 2) (f := T 19) hx hb hK hP hD hS 19 0 rfl rfl (by omega) (by decide) dL_law_682 (fun H locs hP hD hS => ?_)
              have hP : va_P D vwCl (lW cI cZ X S O V (va_up T 19 (upd (T 19) 2 (nI (j2 + 1))))) H := hP
              have hD : va_D A (lW cI cZ X S O V (va_up T 19 (upd (T 19) 2 (nI (j2 + 1))))) := hD
              refine lv_aload_n hx hb dL_law_683 rfl (lv_at hl 6 rfl) ?_
              refine lv_iconst (v := 3) hx hb dL_law_684 rfl ?_
              refine lv_aload_n hx hb dL_law_685 rfl (lv_at hl 6 rfl) ?_
              refine lv_iconst (v := 0) hx hb dL_law_686 rfl ?_
              refine z_iald (D := D) (j := 0) (f := upd (T 19) 2 (nI (j2 + 1))) hx hb hK hP 19 0 rfl rfl (by omega) (by decide) dL_law_687 ?_
              refine z_top (T 19 0) (pk_un (by omega)) ?_
              refine z_top (nI t) hRK.2.2.1 ?_
              refine lv_iload hx hb dL_law_688 (lv_at hl 0 rfl) ?_
              refine lv_iadd hx hb dL_law_690 ?_
              refine z_top (nI (t + mi)) (nI_add t mi) ?_
              refine z_iast (D := D) (j := 3) (f := upd (T 19) 2 (nI (j2 + 1))) hx hb hK hP hD hS 19 0 rfl rfl (by omega) (by decide) dL_law_691 (fun H locs hP hD hS => ?_)
              have hP : va_P D vwCl (lW cI cZ X S O V (va_up T 19 (upd (upd (T 19) 2 (nI (j2 + 1))) 3 (nI (t + mi))))) H := hP
              have hD : va_D A (lW cI cZ X S O V (va_up T 19 (upd (upd (T 19) 2 (nI (j2 + 1))) 3 (nI (t + mi))))) := hD
              obtain ⟨T1, hT1⟩ : ∃ z, z = va_up T 19 (upd (upd (T 19) 2 (nI (j2 + 1))) 3 (nI (t + mi))) := ⟨_, rfl⟩
              rw [← hT1] at hP hD
              refine lv_aload hx hb dL_law_692 (lv_at hl 11 rfl) ?_
              refine lv_aload hx hb dL_law_694 (lv_at hl 9 rfl) ?_
              refine lv_aload_n hx hb dL_law_696 rfl (lv_at hl 6 rfl) ?_
              have hF := z_free hD hS hA
              refine z_callWi (va_runS (As := [.ref (X 24), .ref (X 22), .ref (X 19)]) (rest := []) ⟨hx, hb, hml, hown, hts⟩ (kL_sweep l D cI cZ X S O V T1 _ n0 hRS.1 (by rw [hT1]; exact hctT) (fun j hj => by obtain ⟨p9, hp9, -, e9⟩ := (hRS.2.2.2.1 j hj).1; exact ⟨p9, hp9, by rw [hT1]; exact e9⟩)) (va_cwS 3 hts gL_law_L_sweep rfl rfl rfl (by decide +kernel) ⟨Nat.le_of_ble_eq_true rfl, Nat.le_of_ble_eq_true rfl⟩) (zW_preS hK hP hD) rfl rfl hl.1 rfl (lv_room (Nat.le_of_ble_eq_true rfl)) dL_law_697 ⟨Nat.le_trans (Nat.le_add_right cells 1) hcs.1, Nat.le_trans (Nat.le_add_right slots 6) hcs.2⟩) hS hF (fun H locs hP hD hS => ?_)
              refine lv_istore (lv' := [(15, .int (l_num (l_goes T1) n0)), (14, .int (nI mi)), (13, .int 1), (12, .int (nI ac)), (11, .int z), (0, .ref b), (1, .ref (X 0)), (2, .ref (X 19)), (3, .ref (X 20)), (4, .ref (X 21)), (5, .ref (X 22)), (6, .ref (X 23)), (7, .ref (X 24)), (8, .ref (X 25)), (9, .ref (X 26)), (10, .int (nI k))]) hx hb dL_law_700 hl (by decide) rfl (fun ls hl => ?_)
              refine lv_iload hx hb dL_law_702 (lv_at hl 0 rfl) ?_
              refine lv_if_lt (tgt := 723) hx hb dL_law_704 (by decide) (fun q => absurd q (l_num_pos _ (by have := hRS.1; omega))) (fun _ => ?_)
              refine lv_aload_n hx hb dL_law_707 rfl (lv_at hl 6 rfl) ?_
              refine lv_iload hx hb dL_law_708 (lv_at hl 1 rfl) ?_
              refine z_lawCallW (va_runV (As := [.int (nI mi)]) (rest := []) ⟨hx, hb, hml, hown, hts⟩ (kX4_changeKeys l D cI cZ X S O V _ (nI mi) (nI_pos (by omega)) (nI_le (a := mi) (b := 300) hmi2 (by decide)) n0 hn0 hct (fun j hj => by obtain ⟨p9, hp9, e9, -⟩ := (hRS.2.2.2.1 j hj).1; rw [e9]; exact vp_in_nI (by omega) (by decide))) (cwV 1 hts gL_law_X4_changeKeys rfl rfl rfl (by decide +kernel) ⟨Nat.le_of_ble_eq_true rfl, Nat.le_of_ble_eq_true rfl⟩) (z_lawW hK hP hD) rfl rfl hl.1 rfl (lv_room (Nat.le_of_ble_eq_true rfl)) dL_law_710 ⟨Nat.le_trans (Nat.le_add_right cells 1) hcs.1, Nat.le_trans (Nat.le_add_right slots 6) hcs.2⟩) hP hD hS hA (fun H locs hP hD hS => ?_)
              refine lv_aload_n hx hb dL_law_713 rfl (lv_at hl 7 rfl) ?_
              refine lv_iconst (v := 2) hx hb dL_law_714 rfl ?_
              refine z_iald (D := D) (j := 2) (f := (va_up T1 24 (l_upR T1 (l_goes T1) n0)) 19) hx hb hK hP 19 0 rfl rfl (by omega) (by decide) dL_law_715 ?_
              refine z_top (nI (j2 + 1)) (by rw [hT1]; rfl) ?_
              refine z_sel_icmp_ne hx hb dL_law_716 dL_law_719 dL_law_720 dL_law_723 ?_
              refine z_top 1 (so_eq (by rw [hkV]; exact nI_1 _)) ?_
              refine lv_istore (lv' := [(13, .int 1), (15, .int (l_num (l_goes T1) n0)), (14, .int (nI mi)), (12, .int (nI ac)), (11, .int z), (0, .ref b), (1, .ref (X 0)), (2, .ref (X 19)), (3, .ref (X 20)), (4, .ref (X 21)), (5, .ref (X 22)), (6, .ref (X 23)), (7, .ref (X 24)), (8, .ref (X 25)), (9, .ref (X 26)), (10, .int (nI k))]) hx hb dL_law_724 hl (by decide) rfl (fun ls hl => ?_)
              refine lv_goto (tgt := 792) hx hb dL_law_726 (by decide) ?_
              refine W.widen (k := cells + 1) (n := slots + 6) (by omega) (by omega) ?_
              exact next _ _ _ _ H _ ls (ck_rel hR hkV hj2 hmi2 hk110 hT1) hP hD hS (lv_sub hl [0, 5, 6, 7, 8, 9, 10, 11, 12, 13, 14, 15] rfl)
    · refine lv_iconst (v := 1) hx hb dL_law_729 rfl ?_
      refine lv_iload hx hb dL_law_730 (lv_at hl 2 rfl) ?_
      refine lv_iconst (v := 5) hx hb dL_law_732 rfl ?_
      refine lv_ishr hx hb dL_law_733 ?_
      refine lv_iload hx hb dL_law_734 (lv_at hl 2 rfl) ?_
      refine lv_bipush (v := 14) hx hb dL_law_736 (by decide) ?_
      refine lv_ishr hx hb dL_law_738 ?_
      refine lv_iconst (v := 5) hx hb dL_law_739 rfl ?_
      refine z_callLow (W.runS (As := [.int (z >>> (14 &&& 31)), .int 5]) (rest := [.int (z >>> (5 &&& 31)), .int 1]) ⟨hx, hb, hml, hown, hts⟩ (kL_low l (z >>> (14 &&& 31)) 5 (by omega) (by omega)) (va_cwS 2 hts gL_law_L_low rfl rfl rfl (by decide +kernel) ⟨Nat.le_of_ble_eq_true rfl, Nat.le_of_ble_eq_true rfl⟩) zP_pre rfl rfl hl.1 rfl (lv_room (Nat.le_of_ble_eq_true rfl)) dL_law_740 ⟨Nat.le_trans (Nat.le_add_right cells 1) hcs.1, Nat.le_trans (Nat.le_add_right slots 6) hcs.2⟩) (by omega) (fun di hdi => ?_)
      refine z_cutP (Pr := fun wx : Nat => wx = 12 ∨ wx = 300) (pc2 := 754) (ls2 := ls) (st2 := [.int (z >>> (5 &&& 31)), .int 1]) (fun J754 => ?_) (fun wx hwx => ?_)
      · refine lv_if_ne (tgt := 752) hx hb dL_law_743 (by decide) (fun c_743 => ?_) (fun c_743 => ?_)
        · refine lv_bipush (v := 12) hx hb dL_law_752 (by decide) ?_
          exact J754 12 (by decide)
        · refine lv_sipush (v := 300) hx hb dL_law_746 (by decide) ?_
          refine lv_goto (tgt := 754) hx hb dL_law_749 (by decide) ?_
          exact J754 300 (by decide)
      · refine z_callLow (W.runS (As := [.int (z >>> (5 &&& 31)), .int (nI wx)]) (rest := [.int 1]) ⟨hx, hb, hml, hown, hts⟩ (kL_low l (z >>> (5 &&& 31)) wx (by omega) (by omega)) (va_cwS 2 hts gL_law_L_low rfl rfl rfl (by decide +kernel) ⟨Nat.le_of_ble_eq_true rfl, Nat.le_of_ble_eq_true rfl⟩) zP_pre rfl rfl hl.1 rfl (lv_room (Nat.le_of_ble_eq_true rfl)) dL_law_754 ⟨Nat.le_trans (Nat.le_add_right cells 1) hcs.1, Nat.le_trans (Nat.le_add_right slots 6) hcs.2⟩) (by omega) (fun mi hmi => ?_)
        have hmi2 : 1 + mi ≤ 300 := by omega
        refine lv_iadd hx hb dL_law_757 ?_
        refine z_top (nI (1 + mi)) (nI_add 1 mi) ?_
        refine lv_istore (lv' := [(14, .int (nI (1 + mi))), (13, .int 1), (12, .int (nI ac)), (11, .int z), (0, .ref b), (1, .ref (X 0)), (2, .ref (X 19)), (3, .ref (X 20)), (4, .ref (X 21)), (5, .ref (X 22)), (6, .ref (X 23)), (7, .ref (X 24)), (8, .ref (X 25)), (9, .ref (X 26)), (10, .int (nI k))]) hx hb dL_law_758 hl (by decide) rfl (fun ls hl => ?_)
        refine lv_aload_n hx hb dL_law_760 rfl (lv_at hl 6 rfl) ?_
        refine lv_iconst (v := 0) hx hb dL_law_761 rfl ?_
        refine lv_dup2_11 hx hb dL_law_762 rfl rfl ?_
        refine z_iald (D := D) (j := 0) (f := T 19) hx hb hK hP 19 0 rfl rfl (by omega) (by decide) dL_law_763 ?_
        refine z_top (nI t) hRK.2.2.1 ?_
        refine lv_iload hx hb dL_law_764 (lv_at hl 0 rfl) ?_
        refine lv_iadd hx hb dL_law_766 ?_
        refine z_top (nI (t + (1 + mi))) (nI_add t (1 + mi)) ?_
        refine z_iast (D := D) (j := 0) (f := T 19) hx hb hK hP hD hS 19 0 rfl rfl (by omega) (by decide) dL_law_767 (fun H locs hP hD hS => ?_)
        have hP : va_P D vwCl (lW cI cZ X S O V (va_up T 19 (upd (T 19) 0 (nI (t + (1 + mi)))))) H := hP
        have hD : va_D A (lW cI cZ X S O V (va_up T 19 (upd (T 19) 0 (nI (t + (1 + mi)))))) := hD
        obtain ⟨T1, hT1⟩ : ∃ z, z = va_up T 19 (upd (T 19) 0 (nI (t + (1 + mi)))) := ⟨_, rfl⟩
        rw [← hT1] at hP hD
        refine lv_aload_n hx hb dL_law_768 rfl (lv_at hl 5 rfl) ?_
        refine lv_iload hx hb dL_law_769 (lv_at hl 0 rfl) ?_
        refine z_lawCallW (va_runV (As := [.int (nI (1 + mi))]) (rest := []) ⟨hx, hb, hml, hown, hts⟩ (kX4_pass l D cI cZ X S O V _ (nI (1 + mi)) (nI_nlt (a := 1 + mi) (b := 1) (by omega) (by omega)) (nI_le (a := 1 + mi) (b := 300) hmi2 (by decide)) n0 hn0 hct (fun j hj => by obtain ⟨p9, hp9, e9, -⟩ := (hRS.2.2.2.1 j hj).1; rw [e9]; exact vp_in_nI (by omega) (by decide))) (cwV 1 hts gL_law_X4_pass rfl rfl rfl (by decide +kernel) ⟨Nat.le_of_ble_eq_true rfl, Nat.le_of_ble_eq_true rfl⟩) (z_lawW hK hP hD) rfl rfl hl.1 rfl (lv_room (Nat.le_of_ble_eq_true rfl)) dL_law_771 ⟨Nat.le_trans (Nat.le_add_right cells 1) hcs.1, Nat.le_trans (Nat.le_add_right slots 6) hcs.2⟩) hP hD hS hA (fun H locs hP hD hS => ?_)
        refine lv_aload hx hb dL_law_774 (lv_at hl 11 rfl) ?_
        refine lv_aload hx hb dL_law_776 (lv_at hl 9 rfl) ?_
        refine lv_aload_n hx hb dL_law_778 rfl (lv_at hl 6 rfl) ?_
        have hF := z_free hD hS hA
        refine z_callWi (va_runS (As := [.ref (X 24), .ref (X 22), .ref (X 19)]) (rest := [.int (c_edN (c_doS S (V 0 + (nI (1 + mi))) 4) O (va_up V 0 (V 0 + (nI (1 + mi)))) (V 0 + (nI (1 + mi))) n0)]) ⟨hx, hb, hml, hown, hts⟩ (kL_sweep l D cI cZ X (c_doS S (V 0 + (nI (1 + mi))) 4) (c_edO (c_doS S (V 0 + (nI (1 + mi))) 4) O (va_up V 0 (V 0 + (nI (1 + mi)))) (V 0 + (nI (1 + mi))) n0) (va_up V 0 (V 0 + (nI (1 + mi)))) T1 _ n0 hRS.1 (by rw [hT1]; exact hctT) (fun j hj => by obtain ⟨p9, hp9, -, e9⟩ := (hRS.2.2.2.1 j hj).1; exact ⟨p9, hp9, by rw [hT1]; exact e9⟩)) (va_cwS 3 hts gL_law_L_sweep rfl rfl rfl (by decide +kernel) ⟨Nat.le_of_ble_eq_true rfl, Nat.le_of_ble_eq_true rfl⟩) (zW_preS hK hP hD) rfl rfl hl.1 rfl (lv_room (Nat.le_of_ble_eq_true rfl)) dL_law_779 ⟨Nat.le_trans (Nat.le_add_right cells 1) hcs.1, Nat.le_trans (Nat.le_add_right slots 6) hcs.2⟩) hS hF (fun H locs hP hD hS => ?_)
        refine z_sel_icmp_ne hx hb dL_law_782 dL_law_785 dL_law_786 dL_law_789 ?_
        refine z_top 1 (so_eq (pa_ans hR hmi2 hk110 hT1)) ?_
        refine lv_istore (lv' := [(13, .int 1), (14, .int (nI (1 + mi))), (12, .int (nI ac)), (11, .int z), (0, .ref b), (1, .ref (X 0)), (2, .ref (X 19)), (3, .ref (X 20)), (4, .ref (X 21)), (5, .ref (X 22)), (6, .ref (X 23)), (7, .ref (X 24)), (8, .ref (X 25)), (9, .ref (X 26)), (10, .int (nI k))]) hx hb dL_law_790 hl (by decide) rfl (fun ls hl => ?_)
        refine W.widen (k := cells + 1) (n := slots + 6) (by omega) (by omega) ?_
        exact next _ _ _ _ H _ ls (pa_rel hR hmi2 hk110 hT1) hP hD hS (lv_sub hl [0, 4, 5, 6, 7, 8, 9, 10, 11, 12, 13, 14] rfl)
  · refine lv_aload_n hx hb dL_law_100 rfl (lv_at hl 4 rfl) ?_
    refine lv_iload hx hb dL_law_101 (lv_at hl 1 rfl) ?_
    refine lv_iload hx hb dL_law_103 (lv_at hl 2 rfl) ?_
    refine lv_iconst (v := 5) hx hb dL_law_105 rfl ?_
    refine lv_ishr hx hb dL_law_106 ?_
    refine lv_aload_n hx hb dL_law_107 rfl (lv_at hl 6 rfl) ?_
    refine lv_aload hx hb dL_law_108 (lv_at hl 7 rfl) ?_
    refine lv_aload hx hb dL_law_110 (lv_at hl 8 rfl) ?_
    refine lv_aload hx hb dL_law_112 (lv_at hl 10 rfl) ?_
    refine lv_aload_n hx hb dL_law_114 rfl (lv_at hl 5 rfl) ?_
    refine z_callE (va_runS (As := [.ref (X 0), .int (nI ac), .int (z >>> (5 &&& 31)), .ref (X 20), .ref (X 21), .ref (X 22), .ref (X 24), .ref (X 19)]) (rest := []) ⟨hx, hb, hml, hown, hts⟩ (kL_sets l hl0 D cI cZ X S O V T _ ac (z >>> (5 &&& 31)) k hk110 t n0 hR) (va_cwS 8 hts gL_law_L_sets rfl rfl rfl (by decide +kernel) ⟨Nat.le_of_ble_eq_true rfl, Nat.le_of_ble_eq_true rfl⟩) (z_lawPreX hK hP hD hS hA hZ hY) rfl rfl hl.1 rfl (lv_room (Nat.le_of_ble_eq_true rfl)) dL_law_115 ⟨hcs.1, hcs.2⟩) hD hS hA (fun S O V T H locs hR hP hD hS => ?_)
    refine lv_istore (lv' := [(13, .int 1), (12, .int (nI ac)), (11, .int z), (0, .ref b), (1, .ref (X 0)), (2, .ref (X 19)), (3, .ref (X 20)), (4, .ref (X 21)), (5, .ref (X 22)), (6, .ref (X 23)), (7, .ref (X 24)), (8, .ref (X 25)), (9, .ref (X 26)), (10, .int (nI k))]) hx hb dL_law_118 hl (by decide) rfl (fun ls hl => ?_)
    refine lv_goto (tgt := 792) hx hb dL_law_120 (by decide) ?_
    exact next _ _ _ _ H _ ls hR hP hD hS (lv_sub hl [0, 3, 4, 5, 6, 7, 8, 9, 10, 11, 12, 13] rfl)
