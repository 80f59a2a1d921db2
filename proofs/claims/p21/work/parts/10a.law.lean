set_option maxHeartbeats 4000000 in
set_option maxRecDepth 100000 in
theorem kL_low (l : Launch) (x0 : Int32) (mo : Nat) (hm : 0 < mo) (hm2 : mo < 2147483648) : Met l yL_low wsL_low ({ frames := 0, cells := 0, slots := 0, locals := 0 } : Room) (zP [.int x0, .int (nI mo)]) (QcRead (nI (l_low x0 mo))) 0 0 (fun _ => False) := by
  refine Met.ofW (cc := cL_low) (maxL := 2) (ret := (some .int)) (by decide) rfl ?_
  intro p e s m args below meth c s₁ B hml hv
  obtain rfl := hv
  have hx := B.exec
  have hb := B.bytes
  have hr := B.returns
  have hts := atoms_spec (ws := wsL_low) B.pre
  have hown : s.vm.findClass RL = some m.cls := findClass_of_methodNamed B.named
  have hlocks := B.notSynchronized
  have hl := lv_entry ([.int x0, .int (nI mo)]) (n := 2) (Nat.le_of_ble_eq_true rfl)
  rw [lg_entry_eq]
  generalize (lg_sl ([.int x0, .int (nI mo)]) ++ List.replicate (2 - (lg_sl ([.int x0, .int (nI mo)])).length) Slot.unset).toArray = ls at hl ⊢
  have hl : lv_has ls 2 [(0, .int x0), (1, .int (nI mo))] := hl
  refine lv_iload_n hx hb dL_low_0 rfl (lv_at hl 0 rfl) ?_
  refine lv_ldc (own := RL) (index := 9) (v := 2147483647) hx hb hown (hts (.constant RL 9 (2147483647)) (by decide +kernel)) dL_low_1 ?_
  refine lv_iand hx hb dL_low_3 ?_
  refine lv_iload_n hx hb dL_low_4 rfl (lv_at hl 1 rfl) ?_
  refine lv_irem hx hb dL_low_5 (nI_ne0 hm hm2) ?_
  exact z_ret hx hb hr hlocks (l_low_eq hm hm2) dL_low_6

def zS (b L : Nat) (xs : Nat → Int32) (av : List Value) : Array Value → State → Prop := va_Pc av (fun U => b < U.heap.size ∧ va_X b L xs U U.heap)
theorem zS_blind {b L : Nat} {xs : Nat → Int32} {av : List Value} : FrameBlind (zS b L xs av) := fun a U g mk q => ⟨q.1, q.2.1, va_X.moved (u := U) (U := U.calling g mk a) (Vm.Alike.refl U.vm) q.2.2⟩
theorem zS_preS {s : State} {H : Heap} {locs : List Loc} {A : Nat → Prop} {b L : Nat} {xs : Nat → Int32} {av : List Value} (hX : va_X b L xs s s.heap) (hbl : b < s.heap.size) (hbA : ¬ A b) (hS : va_S A s.heap H locs) : PreS s H (zS b L xs av) av :=
  ⟨zS_blind, fun U hU hW => ⟨rfl, by rw [hU]; exact Nat.lt_of_lt_of_le hbl hS.1, by rw [hU]; exact va_X.moved hW.alike (va_X.kept hX (hS.2.1 b hbl hbA))⟩⟩
set_option maxHeartbeats 4000000 in
set_option maxRecDepth 100000 in
theorem kL_cell (l : Launch) (b L : Nat) (xs : Nat → Int32) (hL : L ≤ 260) (k : Nat) (hk : k < 1000) : Met l yL_cell wsL_cell ({ frames := 0, cells := 0, slots := 0, locals := 0 } : Room) (zS b L xs [.ref b, .int (nI k)]) (QcRead (l_cell L xs k)) 0 0 (fun _ => False) := by
  refine Met.ofW (cc := cL_cell) (maxL := 2) (ret := (some .int)) (by decide) rfl ?_
  intro p e s m args below meth c s₁ B hml hv
  obtain ⟨rfl, hbl, hX⟩ := hv
  have hx := B.exec
  have hb := B.bytes
  have hr := B.returns
  have hts := atoms_spec (ws := wsL_cell) B.pre
  have hown : s.vm.findClass RL = some m.cls := findClass_of_methodNamed B.named
  have hlocks := B.notSynchronized
  have hl := lv_entry ([.ref b, .int (nI k)]) (n := 2) (Nat.le_of_ble_eq_true rfl)
  rw [lg_entry_eq]
  generalize (lg_sl ([.ref b, .int (nI k)]) ++ List.replicate (2 - (lg_sl ([.ref b, .int (nI k)])).length) Slot.unset).toArray = ls at hl ⊢
  have hl : lv_has ls 2 [(0, .ref b), (1, .int (nI k))] := hl
  have hbA : ¬ (fun _ : Nat => False) b := fun h => h
  have hS : va_S (fun _ : Nat => False) s.heap s.heap [] := va_S.rf
  refine lv_iload_n hx hb dL_cell_0 rfl (lv_at hl 1 rfl) ?_
  refine lv_aload_n hx hb dL_cell_1 rfl (lv_at hl 0 rfl) ?_
  refine va_slen hx hb hX hbl hbA hS dL_cell_2 ?_
  refine lv_icmp_ge (tgt := 12) hx hb dL_cell_3 (by decide) (fun c_3 => ?_) (fun c_3 => ?_)
  · have hkL : ¬ k < L := fun h => absurd c_3 (nI_ge h (by omega))
    refine lv_ldc (own := RL) (index := 7) (v := 52387) hx hb hown (hts (.constant RL 7 (52387)) (by decide +kernel)) dL_cell_12 ?_
    refine lv_iload_n hx hb dL_cell_14 rfl (lv_at hl 1 rfl) ?_
    refine lv_bipush (v := 19) hx hb dL_cell_15 (by decide) ?_
    refine lv_iadd hx hb dL_cell_17 ?_
    refine lv_imul hx hb dL_cell_18 ?_
    refine lv_ldc (own := RL) (index := 8) (v := 2008907) hx hb hown (hts (.constant RL 8 (2008907)) (by decide +kernel)) dL_cell_19 ?_
    refine lv_iadd hx hb dL_cell_21 ?_
    exact z_ret hx hb hr hlocks (by rw [l_cell, if_neg hkL]) dL_cell_22
  · have hkL : k < L := Nat.lt_of_not_le (fun h => c_3 (nI_le h (by omega)))
    refine lv_aload_n hx hb dL_cell_6 rfl (lv_at hl 0 rfl) ?_
    refine lv_iload_n hx hb dL_cell_7 rfl (lv_at hl 1 rfl) ?_
    refine va_sld hx hb hX hbl hbA hS (vp_in_nI hkL (by omega)) dL_cell_8 ?_
    rw [nI_clamp (by omega)]
    refine lv_goto (tgt := 22) hx hb dL_cell_9 (by decide) ?_
    exact z_ret hx hb hr hlocks (by rw [l_cell, if_pos hkL]) dL_cell_22

set_option maxHeartbeats 4000000 in
set_option maxRecDepth 100000 in
theorem kL_isIn (l : Launch) (D : va_G) (cI cZ : ClassId) (X : Nat → Nat) (S : Nat → Nat → Int32) (O : Nat → Bool) (V : Nat → Int32) (T : Nat → Nat → Int32) (gi : Nat) (pi : Nat) (hgi : gi < 4) (hpi : pi < 5) (hG : RelG S T) : Met l yL_isIn wsL_isIn ({ frames := 0, cells := 0, slots := 0, locals := 0 } : Room) (zR D (tyl cI cZ) (lW cI cZ X S O V T) [.int (nI gi), .int (nI pi), .ref (X 20)]) (QcRead (bi (hasB (c_allA S (S 7 pi) 8) (nI gi)))) 0 0 (fun _ => False) := by
  refine Met.ofW (cc := cL_isIn) (maxL := 7) (ret := (some .boolean)) (by decide) rfl ?_
  intro p e s m args below meth c s₁ B hml hv
  obtain ⟨rfl, hP, hK⟩ := hv
  have hx := B.exec
  have hb := B.bytes
  have hr := B.returns
  have hts := atoms_spec (ws := wsL_isIn) B.pre
  have hown : s.vm.findClass RL = some m.cls := findClass_of_methodNamed B.named
  have hlocks := B.notSynchronized
  have hl := lv_entry ([.int (nI gi), .int (nI pi), .ref (X 20)]) (n := 7) (Nat.le_of_ble_eq_true rfl)
  rw [lg_entry_eq]
  generalize (lg_sl ([.int (nI gi), .int (nI pi), .ref (X 20)]) ++ List.replicate (7 - (lg_sl ([.int (nI gi), .int (nI pi), .ref (X 20)])).length) Slot.unset).toArray = ls at hl ⊢
  have hl : lv_has ls 7 [(0, .int (nI gi)), (1, .int (nI pi)), (2, .ref (X 20))] := hl
  refine lv_iconst (v := 1) hx hb dL_isIn_0 rfl ?_
  refine lv_iload_n hx hb dL_isIn_1 rfl (lv_at hl 0 rfl) ?_
  refine lv_ishl hx hb dL_isIn_2 ?_
  refine lv_istore_n (lv' := [(3, .int (1 <<< ((nI gi) &&& 31))), (0, .int (nI gi)), (1, .int (nI pi)), (2, .ref (X 20))]) hx hb dL_isIn_3 rfl hl (by decide) rfl (fun ls hl => ?_)
  refine lv_iconst (v := 0) hx hb dL_isIn_4 rfl ?_
  refine lv_istore (lv' := [(4, .int 0), (3, .int (1 <<< ((nI gi) &&& 31))), (0, .int (nI gi)), (1, .int (nI pi)), (2, .ref (X 20))]) hx hb dL_isIn_5 hl (by decide) rfl (fun ls hl => ?_)
  refine lv_iconst (v := 0) hx hb dL_isIn_7 rfl ?_
  refine lv_istore (lv' := [(5, .int 0), (4, .int 0), (3, .int (1 <<< ((nI gi) &&& 31))), (0, .int (nI gi)), (1, .int (nI pi)), (2, .ref (X 20))]) hx hb dL_isIn_8 hl (by decide) rfl (fun ls hl => ?_)
  refine z_while (N := 5) (nL := 7) (Lc := (fun i => [(5, .int 0), (4, .int (l_bf T (1 <<< (nI gi &&& 31)) i)), (3, .int (l_it T (1 <<< (nI gi &&& 31)) i)), (0, .int (nI gi)), (1, .int (nI pi)), (2, .ref (X 20))])) (lv_sub hl [0, 1, 2, 3, 4, 5] rfl) (fun i ls hi hl ih => ?_)
  have hl : lv_has ls 7 [(5, .int 0), (4, .int (l_bf T (1 <<< (nI gi &&& 31)) i)), (3, .int (l_it T (1 <<< (nI gi &&& 31)) i)), (0, .int (nI gi)), (1, .int (nI pi)), (2, .ref (X 20))] := hl
  have ih_10 := ih
  refine lv_iload hx hb dL_isIn_10 (lv_at hl 1 rfl) ?_
  refine lv_iload_n hx hb dL_isIn_12 rfl (lv_at hl 2 rfl) ?_
  refine lv_icmp_eq (tgt := 61) hx hb dL_isIn_13 (by decide) (fun c_13 => ?_) (fun c_13 => ?_)
  · refine lv_iconst (v := nI 0) hx hb dL_isIn_61 rfl ?_
    refine lv_istore (lv' := [(6, .int (nI 0)), (5, .int 0), (4, .int (l_bf T (1 <<< (nI gi &&& 31)) i)), (3, .int (l_it T (1 <<< (nI gi &&& 31)) i)), (0, .int (nI gi)), (1, .int (nI pi)), (2, .ref (X 20))]) hx hb dL_isIn_62 hl (by decide) rfl (fun ls hl => ?_)
    refine z_loop (N := 4) (nL := 7) (Lc := (fun k => [(6, .int (nI k)), (5, .int (bi (l_mem T (l_it T (1 <<< (nI gi &&& 31)) i) pi k))), (4, .int (l_bf T (1 <<< (nI gi &&& 31)) i)), (3, .int (l_it T (1 <<< (nI gi &&& 31)) i)), (0, .int (nI gi)), (1, .int (nI pi)), (2, .ref (X 20))])) (lv_sub hl [0, 1, 2, 3, 4, 5, 6] rfl) (fun ls hl => ?_) (fun k ls hk hl ih => ?_)
    · have hl : lv_has ls 7 [(6, .int (nI 4)), (5, .int (bi (l_mem T (l_it T (1 <<< (nI gi &&& 31)) i) pi 4))), (4, .int (l_bf T (1 <<< (nI gi &&& 31)) i)), (3, .int (l_it T (1 <<< (nI gi &&& 31)) i)), (0, .int (nI gi)), (1, .int (nI pi)), (2, .ref (X 20))] := hl
      refine lv_iload hx hb dL_isIn_64 (lv_at hl 0 rfl) ?_
      refine lv_iconst (v := nI 4) hx hb dL_isIn_66 rfl ?_
      refine z_ge_t (tgt := 110) (nI_le (by omega) (by omega)) hx hb dL_isIn_67 (by decide) ?_
      refine lv_iload hx hb dL_isIn_110 (lv_at hl 1 rfl) ?_
      exact z_zret hx hb hr hlocks (by exact congrArg bi (mem_eq hG hgi hpi c_13)) dL_isIn_112
    · have hl : lv_has ls 7 [(6, .int (nI k)), (5, .int (bi (l_mem T (l_it T (1 <<< (nI gi &&& 31)) i) pi k))), (4, .int (l_bf T (1 <<< (nI gi &&& 31)) i)), (3, .int (l_it T (1 <<< (nI gi &&& 31)) i)), (0, .int (nI gi)), (1, .int (nI pi)), (2, .ref (X 20))] := hl
      have ih_64 := ih
      refine lv_iload hx hb dL_isIn_64 (lv_at hl 0 rfl) ?_
      refine lv_iconst (v := nI 4) hx hb dL_isIn_66 rfl ?_
      refine z_ge_f (tgt := 110) (nI_ge (by omega) (by omega)) hx hb dL_isIn_67 (by decide) ?_
      refine lv_iload hx hb dL_isIn_70 (lv_at hl 1 rfl) ?_
      refine z_cut (G := F0 m 102 ls [.int (bi (l_mem T (l_it T (1 <<< (nI gi &&& 31)) i) pi k || (hasB (l_it T (1 <<< (nI gi &&& 31)) i) (nI k) && hasB (T 20 k) (nI pi))))]) (fun J102 => ?_) ?_
      · refine z_if_ne (tgt := 97) hx hb dL_isIn_72 (by decide) (fun c_72 => ?_) (fun c_72 => ?_)
        · refine lv_iconst (v := 1) hx hb dL_isIn_97 rfl ?_
          refine lv_goto (tgt := 102) hx hb dL_isIn_98 (by decide) ?_
          exact z_top (bi (l_mem T (l_it T (1 <<< (nI gi &&& 31)) i) pi k || (hasB (l_it T (1 <<< (nI gi &&& 31)) i) (nI k) && hasB (T 20 k) (nI pi)))) (bi_of1 (by simp [hasB, (eq_true c_13), c_72])) J102
        · refine lv_iload_n hx hb dL_isIn_75 rfl (lv_at hl 3 rfl) ?_
          refine lv_iload hx hb dL_isIn_76 (lv_at hl 0 rfl) ?_
          refine lv_ishr hx hb dL_isIn_78 ?_
          refine lv_iconst (v := 1) hx hb dL_isIn_79 rfl ?_
          refine lv_iand hx hb dL_isIn_80 ?_
          refine lv_iconst (v := 1) hx hb dL_isIn_81 rfl ?_
          refine lv_icmp_ne (tgt := 101) hx hb dL_isIn_82 (by decide) (fun c_82 => ?_) (fun c_82 => ?_)
          · refine lv_iconst (v := 0) hx hb dL_isIn_101 rfl ?_
            exact z_top (bi (l_mem T (l_it T (1 <<< (nI gi &&& 31)) i) pi k || (hasB (l_it T (1 <<< (nI gi &&& 31)) i) (nI k) && hasB (T 20 k) (nI pi)))) (bi_of0 (by simp [hasB, (eq_true c_13), c_72, c_82])) J102
          · refine lv_aload_n hx hb dL_isIn_85 rfl (lv_at hl 6 rfl) ?_
            refine lv_iload hx hb dL_isIn_86 (lv_at hl 0 rfl) ?_
            refine z_iald (D := D) (j := k) (f := T 20) hx hb hK hP 20 0 rfl rfl (by omega) (by decide) dL_isIn_88 ?_
            refine lv_iload_n hx hb dL_isIn_89 rfl (lv_at hl 5 rfl) ?_
            refine lv_ishr hx hb dL_isIn_90 ?_
            refine lv_iconst (v := 1) hx hb dL_isIn_91 rfl ?_
            refine lv_iand hx hb dL_isIn_92 ?_
            refine lv_iconst (v := 1) hx hb dL_isIn_93 rfl ?_
            refine z_sel_icmp_ne hx hb dL_isIn_94 dL_isIn_97 dL_isIn_98 dL_isIn_101 ?_
            exact z_top (bi (l_mem T (l_it T (1 <<< (nI gi &&& 31)) i) pi k || (hasB (l_it T (1 <<< (nI gi &&& 31)) i) (nI k) && hasB (T 20 k) (nI pi)))) (congrArg bi (by simp [hasB, (eq_true c_13), c_72, (eq_true c_82)])) J102
      · refine lv_istore (lv' := [(5, .int (bi (l_mem T (l_it T (1 <<< (nI gi &&& 31)) i) pi k || (hasB (l_it T (1 <<< (nI gi &&& 31)) i) (nI k) && hasB (T 20 k) (nI pi))))), (6, .int (nI k)), (4, .int (l_bf T (1 <<< (nI gi &&& 31)) i)), (3, .int (l_it T (1 <<< (nI gi &&& 31)) i)), (0, .int (nI gi)), (1, .int (nI pi)), (2, .ref (X 20))]) hx hb dL_isIn_102 hl (by decide) rfl (fun ls hl => ?_)
        refine lv_iinc (v := nI (k + 1)) (lv' := [(6, .int (nI (k + 1))), (5, .int (bi (l_mem T (l_it T (1 <<< (nI gi &&& 31)) i) pi k || (hasB (l_it T (1 <<< (nI gi &&& 31)) i) (nI k) && hasB (T 20 k) (nI pi))))), (4, .int (l_bf T (1 <<< (nI gi &&& 31)) i)), (3, .int (l_it T (1 <<< (nI gi &&& 31)) i)), (0, .int (nI gi)), (1, .int (nI pi)), (2, .ref (X 20))]) hx hb dL_isIn_104 hl (k := 1) rfl (nI_1 _) (by decide) rfl (fun ls hl => ?_)
        refine lv_goto (tgt := 64) hx hb dL_isIn_107 (by decide) ?_
        have e5 : (bi (l_mem T (l_it T (1 <<< (nI gi &&& 31)) i) pi (k + 1))) = (bi (l_mem T (l_it T (1 <<< (nI gi &&& 31)) i) pi k || (hasB (l_it T (1 <<< (nI gi &&& 31)) i) (nI k) && hasB (T 20 k) (nI pi)))) := by rfl
        exact ih_64 ls (by show lv_has ls 7 [(6, .int (nI (k + 1))), (5, .int (bi (l_mem T (l_it T (1 <<< (nI gi &&& 31)) i) pi (k + 1)))), (4, .int (l_bf T (1 <<< (nI gi &&& 31)) i)), (3, .int (l_it T (1 <<< (nI gi &&& 31)) i)), (0, .int (nI gi)), (1, .int (nI pi)), (2, .ref (X 20))]; rw [e5]; exact lv_sub hl [0, 1, 2, 3, 4, 5, 6] rfl)
  · refine lv_iload_n hx hb dL_isIn_16 rfl (lv_at hl 2 rfl) ?_
    refine lv_istore (lv' := [(4, .int (l_it T (1 <<< (nI gi &&& 31)) i)), (5, .int 0), (3, .int (l_it T (1 <<< (nI gi &&& 31)) i)), (0, .int (nI gi)), (1, .int (nI pi)), (2, .ref (X 20))]) hx hb dL_isIn_17 hl (by decide) rfl (fun ls hl => ?_)
    refine lv_iconst (v := nI 0) hx hb dL_isIn_19 rfl ?_
    refine lv_istore (lv' := [(6, .int (nI 0)), (4, .int (l_it T (1 <<< (nI gi &&& 31)) i)), (5, .int 0), (3, .int (l_it T (1 <<< (nI gi &&& 31)) i)), (0, .int (nI gi)), (1, .int (nI pi)), (2, .ref (X 20))]) hx hb dL_isIn_20 hl (by decide) rfl (fun ls hl => ?_)
    refine z_loop (N := 4) (nL := 7) (Lc := (fun k => [(6, .int (nI k)), (4, .int (l_it T (1 <<< (nI gi &&& 31)) i)), (5, .int 0), (3, .int (l_rd T (l_it T (1 <<< (nI gi &&& 31)) i) k)), (0, .int (nI gi)), (1, .int (nI pi)), (2, .ref (X 20))])) (lv_sub hl [0, 1, 2, 3, 4, 5, 6] rfl) (fun ls hl => ?_) (fun k ls hk hl ih => ?_)
    · have hl : lv_has ls 7 [(6, .int (nI 4)), (4, .int (l_it T (1 <<< (nI gi &&& 31)) i)), (5, .int 0), (3, .int (l_rd T (l_it T (1 <<< (nI gi &&& 31)) i) 4)), (0, .int (nI gi)), (1, .int (nI pi)), (2, .ref (X 20))] := hl
      refine lv_iload hx hb dL_isIn_22 (lv_at hl 0 rfl) ?_
      refine lv_iconst (v := nI 4) hx hb dL_isIn_24 rfl ?_
      refine z_ge_t (tgt := 58) (nI_le (by omega) (by omega)) hx hb dL_isIn_25 (by decide) ?_
      refine lv_goto (tgt := 10) hx hb dL_isIn_58 (by decide) ?_
      have e4 : (l_bf T (1 <<< (nI gi &&& 31)) (i + 1)) = (l_it T (1 <<< (nI gi &&& 31)) i) := by rfl
      have e3 : (l_it T (1 <<< (nI gi &&& 31)) (i + 1)) = (l_rd T (l_it T (1 <<< (nI gi &&& 31)) i) 4) := by rfl
      exact ih_10 (l_it_lt hG hgi hi c_13) ls (by show lv_has ls 7 [(5, .int 0), (4, .int (l_bf T (1 <<< (nI gi &&& 31)) (i + 1))), (3, .int (l_it T (1 <<< (nI gi &&& 31)) (i + 1))), (0, .int (nI gi)), (1, .int (nI pi)), (2, .ref (X 20))]; rw [e4, e3]; exact lv_sub hl [2, 1, 3, 4, 5, 6] rfl)
    · have hl : lv_has ls 7 [(6, .int (nI k)), (4, .int (l_it T (1 <<< (nI gi &&& 31)) i)), (5, .int 0), (3, .int (l_rd T (l_it T (1 <<< (nI gi &&& 31)) i) k)), (0, .int (nI gi)), (1, .int (nI pi)), (2, .ref (X 20))] := hl
      have ih_22 := ih
      refine lv_iload hx hb dL_isIn_22 (lv_at hl 0 rfl) ?_
      refine lv_iconst (v := nI 4) hx hb dL_isIn_24 rfl ?_
      refine z_ge_f (tgt := 58) (nI_ge (by omega) (by omega)) hx hb dL_isIn_25 (by decide) ?_
      refine lv_iload_n hx hb dL_isIn_28 rfl (lv_at hl 3 rfl) ?_
      refine lv_iload hx hb dL_isIn_29 (lv_at hl 1 rfl) ?_
      refine lv_iload hx hb dL_isIn_31 (lv_at hl 0 rfl) ?_
      refine lv_ishr hx hb dL_isIn_33 ?_
      refine lv_iconst (v := 1) hx hb dL_isIn_34 rfl ?_
      refine lv_iand hx hb dL_isIn_35 ?_
      refine lv_iconst (v := 1) hx hb dL_isIn_36 rfl ?_
      refine z_cut (G := F0 m 50 ls [.int (if hasB (l_it T (1 <<< (nI gi &&& 31)) i) (nI k) = true then T 20 (4 + k) else 0), .int (l_rd T (l_it T (1 <<< (nI gi &&& 31)) i) k)]) (fun J50 => ?_) ?_
      · refine lv_icmp_ne (tgt := 49) hx hb dL_isIn_37 (by decide) (fun c_37 => ?_) (fun c_37 => ?_)
        · refine lv_iconst (v := 0) hx hb dL_isIn_49 rfl ?_
          exact z_top (if hasB (l_it T (1 <<< (nI gi &&& 31)) i) (nI k) = true then T 20 (4 + k) else 0) (by simp [hasB, c_13, c_37]) J50
        · refine lv_aload_n hx hb dL_isIn_40 rfl (lv_at hl 6 rfl) ?_
          refine lv_iconst (v := 4) hx hb dL_isIn_41 rfl ?_
          refine lv_iload hx hb dL_isIn_42 (lv_at hl 0 rfl) ?_
          refine lv_iadd hx hb dL_isIn_44 ?_
          refine z_top (nI (4 + k)) (nI_add 4 k) ?_
          refine z_iald (D := D) (j := 4 + k) (f := T 20) hx hb hK hP 20 0 rfl rfl (by omega) (by decide) dL_isIn_45 ?_
          refine lv_goto (tgt := 50) hx hb dL_isIn_46 (by decide) ?_
          exact z_top (if hasB (l_it T (1 <<< (nI gi &&& 31)) i) (nI k) = true then T 20 (4 + k) else 0) (by simp [hasB, c_13, (eq_true c_37)]) J50
      · refine lv_ior hx hb dL_isIn_50 ?_
        refine lv_istore_n (lv' := [(3, .int ((l_rd T (l_it T (1 <<< (nI gi &&& 31)) i) k) ||| (if hasB (l_it T (1 <<< (nI gi &&& 31)) i) (nI k) = true then T 20 (4 + k) else 0))), (6, .int (nI k)), (4, .int (l_it T (1 <<< (nI gi &&& 31)) i)), (5, .int 0), (0, .int (nI gi)), (1, .int (nI pi)), (2, .ref (X 20))]) hx hb dL_isIn_51 rfl hl (by decide) rfl (fun ls hl => ?_)
        refine lv_iinc (v := nI (k + 1)) (lv' := [(6, .int (nI (k + 1))), (3, .int ((l_rd T (l_it T (1 <<< (nI gi &&& 31)) i) k) ||| (if hasB (l_it T (1 <<< (nI gi &&& 31)) i) (nI k) = true then T 20 (4 + k) else 0))), (4, .int (l_it T (1 <<< (nI gi &&& 31)) i)), (5, .int 0), (0, .int (nI gi)), (1, .int (nI pi)), (2, .ref (X 20))]) hx hb dL_isIn_52 hl (k := 1) rfl (nI_1 _) (by decide) rfl (fun ls hl => ?_)
        refine lv_goto (tgt := 22) hx hb dL_isIn_55 (by decide) ?_
        have e3 : (l_rd T (l_it T (1 <<< (nI gi &&& 31)) i) (k + 1)) = ((l_rd T (l_it T (1 <<< (nI gi &&& 31)) i) k) ||| (if hasB (l_it T (1 <<< (nI gi &&& 31)) i) (nI k) = true then T 20 (4 + k) else 0)) := by rfl
        exact ih_22 ls (by show lv_has ls 7 [(6, .int (nI (k + 1))), (4, .int (l_it T (1 <<< (nI gi &&& 31)) i)), (5, .int 0), (3, .int (l_rd T (l_it T (1 <<< (nI gi &&& 31)) i) (k + 1))), (0, .int (nI gi)), (1, .int (nI pi)), (2, .ref (X 20))]; rw [e3]; exact lv_sub hl [0, 2, 3, 1, 4, 5, 6] rfl)

set_option maxHeartbeats 4000000 in
set_option maxRecDepth 100000 in
theorem kL_allows (l : Launch) (D : va_G) (cI cZ : ClassId) (X : Nat → Nat) (S : Nat → Nat → Int32) (O : Nat → Bool) (V : Nat → Int32) (T : Nat → Nat → Int32) (pi : Nat) (ri : Nat) (hpi : pi < 5) (hri : ri < 3) (hG : RelG S T) (hPP : RelP S T) (hV : V 0 = T 19 0) : Met l yL_allows wsL_allows ({ frames := 1, cells := 0, slots := 0, locals := 26 } : Room) (zR D (tyl cI cZ) (lW cI cZ X S O V T) [.int (nI pi), .int (nI ri), .ref (X 20), .ref (X 21), .ref (X 22), .ref (X 23), .ref (X 19)]) (QcRead (bi (c_lets S V pi ri))) 0 0 (fun _ => False) := by
  refine Met.ofW (cc := cL_allows) (maxL := 11) (ret := (some .boolean)) (by decide) rfl ?_
  intro p e s m args below meth c s₁ B hml hv
  obtain ⟨rfl, hP, hK⟩ := hv
  have hx := B.exec
  have hb := B.bytes
  have hr := B.returns
  have hts := atoms_spec (ws := wsL_allows) B.pre
  have hown : s.vm.findClass RL = some m.cls := findClass_of_methodNamed B.named
  have hlocks := B.notSynchronized
  have hl := lv_entry ([.int (nI pi), .int (nI ri), .ref (X 20), .ref (X 21), .ref (X 22), .ref (X 23), .ref (X 19)]) (n := 11) (Nat.le_of_ble_eq_true rfl)
  rw [lg_entry_eq]
  generalize (lg_sl ([.int (nI pi), .int (nI ri), .ref (X 20), .ref (X 21), .ref (X 22), .ref (X 23), .ref (X 19)]) ++ List.replicate (11 - (lg_sl ([.int (nI pi), .int (nI ri), .ref (X 20), .ref (X 21), .ref (X 22), .ref (X 23), .ref (X 19)])).length) Slot.unset).toArray = ls at hl ⊢
  have hl : lv_has ls 11 [(0, .int (nI pi)), (1, .int (nI ri)), (2, .ref (X 20)), (3, .ref (X 21)), (4, .ref (X 22)), (5, .ref (X 23)), (6, .ref (X 19))] := hl
  refine lv_iconst (v := 0) hx hb dL_allows_0 rfl ?_
  refine lv_istore (lv' := [(7, .int 0), (0, .int (nI pi)), (1, .int (nI ri)), (2, .ref (X 20)), (3, .ref (X 21)), (4, .ref (X 22)), (5, .ref (X 23)), (6, .ref (X 19))]) hx hb dL_allows_1 hl (by decide) rfl (fun ls hl => ?_)
  refine lv_iconst (v := 0) hx hb dL_allows_3 rfl ?_
  refine lv_istore (lv' := [(8, .int 0), (7, .int 0), (0, .int (nI pi)), (1, .int (nI ri)), (2, .ref (X 20)), (3, .ref (X 21)), (4, .ref (X 22)), (5, .ref (X 23)), (6, .ref (X 19))]) hx hb dL_allows_4 hl (by decide) rfl (fun ls hl => ?_)
  refine lv_iconst (v := nI 0) hx hb dL_allows_6 rfl ?_
  refine lv_istore (lv' := [(9, .int (nI 0)), (8, .int 0), (7, .int 0), (0, .int (nI pi)), (1, .int (nI ri)), (2, .ref (X 20)), (3, .ref (X 21)), (4, .ref (X 22)), (5, .ref (X 23)), (6, .ref (X 19))]) hx hb dL_allows_7 hl (by decide) rfl (fun ls hl => ?_)
  refine z_loop (N := 4) (nL := 11) (Lc := (fun k => [(9, .int (nI k)), (8, .int (l_num (fun n => decide (l_what S T pi ri n = 2)) k)), (7, .int (l_num (fun n => decide (l_what S T pi ri n = 1)) k)), (0, .int (nI pi)), (1, .int (nI ri)), (2, .ref (X 20)), (3, .ref (X 21)), (4, .ref (X 22)), (5, .ref (X 23)), (6, .ref (X 19))])) (lv_sub hl [0, 1, 2, 3, 4, 5, 6, 7, 8, 9] rfl) (fun ls hl => ?_) (fun k ls hk hl ih => ?_)
  · have hl : lv_has ls 11 [(9, .int (nI 4)), (8, .int (l_num (fun n => decide (l_what S T pi ri n = 2)) 4)), (7, .int (l_num (fun n => decide (l_what S T pi ri n = 1)) 4)), (0, .int (nI pi)), (1, .int (nI ri)), (2, .ref (X 20)), (3, .ref (X 21)), (4, .ref (X 22)), (5, .ref (X 23)), (6, .ref (X 19))] := hl
    refine lv_iload hx hb dL_allows_9 (lv_at hl 0 rfl) ?_
    refine lv_iconst (v := nI 4) hx hb dL_allows_11 rfl ?_
    refine z_ge_t (tgt := 77) (nI_le (by omega) (by omega)) hx hb dL_allows_12 (by decide) ?_
    refine lv_aload hx hb dL_allows_77 (lv_at hl 7 rfl) ?_
    refine lv_iload_n hx hb dL_allows_79 rfl (lv_at hl 3 rfl) ?_
    refine z_iald (D := D) (j := pi) (f := T 22) hx hb hK hP 22 0 rfl rfl (by omega) (by decide) dL_allows_80 ?_
    refine lv_iconst (v := 3) hx hb dL_allows_81 rfl ?_
    refine z_cut (G := F0 m 115 ls [.int (bi (!decide (T 22 pi = 3) && ((!decide (l_num (fun n => decide (l_what S T pi ri n = 1)) 4 ≤ 0) && decide (l_num (fun n => decide (l_what S T pi ri n = 2)) 4 = 0)) || !decide (T 23 (3 * pi + ri) ≤ T 19 0))))]) (fun J115 => ?_) ?_
    · refine lv_icmp_eq (tgt := 114) hx hb dL_allows_82 (by decide) (fun c_82 => ?_) (fun c_82 => ?_)
      · refine lv_iconst (v := 0) hx hb dL_allows_114 rfl ?_
        exact z_top (bi (!decide (T 22 pi = 3) && ((!decide (l_num (fun n => decide (l_what S T pi ri n = 1)) 4 ≤ 0) && decide (l_num (fun n => decide (l_what S T pi ri n = 2)) 4 = 0)) || !decide (T 23 (3 * pi + ri) ≤ T 19 0)))) (bi_of0 (by simp [(eq_true c_82)])) J115
      · refine lv_iload hx hb dL_allows_85 (lv_at hl 2 rfl) ?_
        refine lv_if_le (tgt := 95) hx hb dL_allows_87 (by decide) (fun c_87 => ?_) (fun c_87 => ?_)
        · refine lv_aload hx hb dL_allows_95 (lv_at hl 9 rfl) ?_
          refine lv_iconst (v := 0) hx hb dL_allows_97 rfl ?_
          refine z_iald (D := D) (j := 0) (f := T 19) hx hb hK hP 19 0 rfl rfl (by omega) (by decide) dL_allows_98 ?_
          refine lv_aload hx hb dL_allows_99 (lv_at hl 8 rfl) ?_
          refine lv_iconst (v := 3) hx hb dL_allows_101 rfl ?_
          refine lv_iload_n hx hb dL_allows_102 rfl (lv_at hl 3 rfl) ?_
          refine lv_imul hx hb dL_allows_103 ?_
          refine z_top (nI (3 * pi)) (pk_mul 3 pi) ?_
          refine lv_iload_n hx hb dL_allows_104 rfl (lv_at hl 4 rfl) ?_
          refine lv_iadd hx hb dL_allows_105 ?_
          refine z_top (nI ((3 * pi) + ri)) (nI_add (3 * pi) ri) ?_
          refine z_iald (D := D) (j := (3 * pi) + ri) (f := T 23) hx hb hK hP 23 0 rfl rfl (by omega) (by decide) dL_allows_106 ?_
          refine z_sel_icmp_ge hx hb dL_allows_107 dL_allows_110 dL_allows_111 dL_allows_114 ?_
          exact z_top (bi (!decide (T 22 pi = 3) && ((!decide (l_num (fun n => decide (l_what S T pi ri n = 1)) 4 ≤ 0) && decide (l_num (fun n => decide (l_what S T pi ri n = 2)) 4 = 0)) || !decide (T 23 (3 * pi + ri) ≤ T 19 0)))) (congrArg bi (by simp [c_82, c_87])) J115
        · refine lv_iload hx hb dL_allows_90 (lv_at hl 1 rfl) ?_
          refine lv_if_eq (tgt := 110) hx hb dL_allows_92 (by decide) (fun c_92 => ?_) (fun c_92 => ?_)
          · refine lv_iconst (v := 1) hx hb dL_allows_110 rfl ?_
            refine lv_goto (tgt := 115) hx hb dL_allows_111 (by decide) ?_
            exact z_top (bi (!decide (T 22 pi = 3) && ((!decide (l_num (fun n => decide (l_what S T pi ri n = 1)) 4 ≤ 0) && decide (l_num (fun n => decide (l_what S T pi ri n = 2)) 4 = 0)) || !decide (T 23 (3 * pi + ri) ≤ T 19 0)))) (bi_of1 (by simp [c_82, c_87, (eq_true c_92)])) J115
          · refine lv_aload hx hb dL_allows_95 (lv_at hl 9 rfl) ?_
            refine lv_iconst (v := 0) hx hb dL_allows_97 rfl ?_
            refine z_iald (D := D) (j := 0) (f := T 19) hx hb hK hP 19 0 rfl rfl (by omega) (by decide) dL_allows_98 ?_
            refine lv_aload hx hb dL_allows_99 (lv_at hl 8 rfl) ?_
            refine lv_iconst (v := 3) hx hb dL_allows_101 rfl ?_
            refine lv_iload_n hx hb dL_allows_102 rfl (lv_at hl 3 rfl) ?_
            refine lv_imul hx hb dL_allows_103 ?_
            refine z_top (nI (3 * pi)) (pk_mul 3 pi) ?_
            refine lv_iload_n hx hb dL_allows_104 rfl (lv_at hl 4 rfl) ?_
            refine lv_iadd hx hb dL_allows_105 ?_
            refine z_top (nI ((3 * pi) + ri)) (nI_add (3 * pi) ri) ?_
            refine z_iald (D := D) (j := (3 * pi) + ri) (f := T 23) hx hb hK hP 23 0 rfl rfl (by omega) (by decide) dL_allows_106 ?_
            refine z_sel_icmp_ge hx hb dL_allows_107 dL_allows_110 dL_allows_111 dL_allows_114 ?_
            exact z_top (bi (!decide (T 22 pi = 3) && ((!decide (l_num (fun n => decide (l_what S T pi ri n = 1)) 4 ≤ 0) && decide (l_num (fun n => decide (l_what S T pi ri n = 2)) 4 = 0)) || !decide (T 23 (3 * pi + ri) ≤ T 19 0)))) (congrArg bi (by simp [c_82, c_87, c_92])) J115
    · exact z_zret hx hb hr hlocks (by exact congrArg bi (l_lets_eq hG hPP hV hpi hri)) dL_allows_115
  · have hl : lv_has ls 11 [(9, .int (nI k)), (8, .int (l_num (fun n => decide (l_what S T pi ri n = 2)) k)), (7, .int (l_num (fun n => decide (l_what S T pi ri n = 1)) k)), (0, .int (nI pi)), (1, .int (nI ri)), (2, .ref (X 20)), (3, .ref (X 21)), (4, .ref (X 22)), (5, .ref (X 23)), (6, .ref (X 19))] := hl
    have ih_9 := ih
    refine lv_iload hx hb dL_allows_9 (lv_at hl 0 rfl) ?_
    refine lv_iconst (v := nI 4) hx hb dL_allows_11 rfl ?_
    refine z_ge_f (tgt := 77) (nI_ge (by omega) (by omega)) hx hb dL_allows_12 (by decide) ?_
    refine lv_iload hx hb dL_allows_15 (lv_at hl 0 rfl) ?_
    refine lv_iload_n hx hb dL_allows_17 rfl (lv_at hl 3 rfl) ?_
    refine lv_aload_n hx hb dL_allows_18 rfl (lv_at hl 5 rfl) ?_
    refine z_callR (W.runS (As := [.int (nI k), .int (nI pi), .ref (X 20)]) (rest := []) ⟨hx, hb, hml, hown, hts⟩ (kL_isIn l D cI cZ X S O V T k pi (by omega) (by omega) hG) (va_cwS 3 hts gL_allows_L_isIn rfl rfl rfl (by decide +kernel) ⟨Nat.le_of_ble_eq_true rfl, Nat.le_of_ble_eq_true rfl⟩) (zR_preS hK hP) rfl rfl hl.1 rfl (lv_room (Nat.le_of_ble_eq_true rfl)) dL_allows_19 ⟨Nat.zero_le _, Nat.zero_le _⟩) ?_
    refine z_cut (G := F0 m 37 ls [.int (l_what S T pi ri k)]) (fun J37 => ?_) ?_
    · refine z_if_eq (tgt := 36) hx hb dL_allows_22 (by decide) (fun c_22 => ?_) (fun c_22 => ?_)
      · refine lv_iconst (v := 0) hx hb dL_allows_36 rfl ?_
        exact z_top (l_what S T pi ri k) (by simp [l_what, c_22]) J37
      · refine lv_aload_n hx hb dL_allows_25 rfl (lv_at hl 6 rfl) ?_
        refine lv_iconst (v := 3) hx hb dL_allows_26 rfl ?_
        refine lv_iload hx hb dL_allows_27 (lv_at hl 0 rfl) ?_
        refine lv_imul hx hb dL_allows_29 ?_
        refine z_top (nI (3 * k)) (pk_mul 3 k) ?_
        refine lv_iload_n hx hb dL_allows_30 rfl (lv_at hl 4 rfl) ?_
        refine lv_iadd hx hb dL_allows_31 ?_
        refine z_top (nI ((3 * k) + ri)) (nI_add (3 * k) ri) ?_
        refine z_iald (D := D) (j := (3 * k) + ri) (f := T 21) hx hb hK hP 21 0 rfl rfl (by omega) (by decide) dL_allows_32 ?_
        refine lv_goto (tgt := 37) hx hb dL_allows_33 (by decide) ?_
        exact z_top (l_what S T pi ri k) (by simp [l_what, c_22]) J37
    · refine lv_istore (lv' := [(10, .int (l_what S T pi ri k)), (9, .int (nI k)), (8, .int (l_num (fun n => decide (l_what S T pi ri n = 2)) k)), (7, .int (l_num (fun n => decide (l_what S T pi ri n = 1)) k)), (0, .int (nI pi)), (1, .int (nI ri)), (2, .ref (X 20)), (3, .ref (X 21)), (4, .ref (X 22)), (5, .ref (X 23)), (6, .ref (X 19))]) hx hb dL_allows_37 hl (by decide) rfl (fun ls hl => ?_)
      refine lv_iload hx hb dL_allows_39 (lv_at hl 3 rfl) ?_
      refine lv_iload hx hb dL_allows_41 (lv_at hl 0 rfl) ?_
      refine lv_iconst (v := 1) hx hb dL_allows_43 rfl ?_
      refine z_sel_icmp_ne hx hb dL_allows_44 dL_allows_47 dL_allows_48 dL_allows_51 ?_
      refine lv_iadd hx hb dL_allows_52 ?_
      refine lv_istore (lv' := [(7, .int ((l_num (fun n => decide (l_what S T pi ri n = 1)) k) + (bi (decide (l_what S T pi ri k = 1))))), (10, .int (l_what S T pi ri k)), (9, .int (nI k)), (8, .int (l_num (fun n => decide (l_what S T pi ri n = 2)) k)), (0, .int (nI pi)), (1, .int (nI ri)), (2, .ref (X 20)), (3, .ref (X 21)), (4, .ref (X 22)), (5, .ref (X 23)), (6, .ref (X 19))]) hx hb dL_allows_53 hl (by decide) rfl (fun ls hl => ?_)
      refine lv_iload hx hb dL_allows_55 (lv_at hl 3 rfl) ?_
      refine lv_iload hx hb dL_allows_57 (lv_at hl 1 rfl) ?_
      refine lv_iconst (v := 2) hx hb dL_allows_59 rfl ?_
      refine z_sel_icmp_ne hx hb dL_allows_60 dL_allows_63 dL_allows_64 dL_allows_67 ?_
      refine lv_iadd hx hb dL_allows_68 ?_
      refine lv_istore (lv' := [(8, .int ((l_num (fun n => decide (l_what S T pi ri n = 2)) k) + (bi (decide (l_what S T pi ri k = 2))))), (7, .int ((l_num (fun n => decide (l_what S T pi ri n = 1)) k) + (bi (decide (l_what S T pi ri k = 1))))), (10, .int (l_what S T pi ri k)), (9, .int (nI k)), (0, .int (nI pi)), (1, .int (nI ri)), (2, .ref (X 20)), (3, .ref (X 21)), (4, .ref (X 22)), (5, .ref (X 23)), (6, .ref (X 19))]) hx hb dL_allows_69 hl (by decide) rfl (fun ls hl => ?_)
      refine lv_iinc (v := nI (k + 1)) (lv' := [(9, .int (nI (k + 1))), (8, .int ((l_num (fun n => decide (l_what S T pi ri n = 2)) k) + (bi (decide (l_what S T pi ri k = 2))))), (7, .int ((l_num (fun n => decide (l_what S T pi ri n = 1)) k) + (bi (decide (l_what S T pi ri k = 1))))), (10, .int (l_what S T pi ri k)), (0, .int (nI pi)), (1, .int (nI ri)), (2, .ref (X 20)), (3, .ref (X 21)), (4, .ref (X 22)), (5, .ref (X 23)), (6, .ref (X 19))]) hx hb dL_allows_71 hl (k := 3) rfl (nI_1 _) (by decide) rfl (fun ls hl => ?_)
      refine lv_goto (tgt := 9) hx hb dL_allows_74 (by decide) ?_
      have e8 : (l_num (fun n => decide (l_what S T pi ri n = 2)) (k + 1)) = ((l_num (fun n => decide (l_what S T pi ri n = 2)) k) + (bi (decide (l_what S T pi ri k = 2)))) := by rfl
      have e7 : (l_num (fun n => decide (l_what S T pi ri n = 1)) (k + 1)) = ((l_num (fun n => decide (l_what S T pi ri n = 1)) k) + (bi (decide (l_what S T pi ri k = 1)))) := by rfl
      exact ih_9 ls (by show lv_has ls 11 [(9, .int (nI (k + 1))), (8, .int (l_num (fun n => decide (l_what S T pi ri n = 2)) (k + 1))), (7, .int (l_num (fun n => decide (l_what S T pi ri n = 1)) (k + 1))), (0, .int (nI pi)), (1, .int (nI ri)), (2, .ref (X 20)), (3, .ref (X 21)), (4, .ref (X 22)), (5, .ref (X 23)), (6, .ref (X 19))]; rw [e8, e7]; exact lv_sub hl [0, 1, 2, 4, 5, 6, 7, 8, 9, 10] rfl)

set_option maxHeartbeats 4000000 in
set_option maxRecDepth 100000 in
theorem kL_serves (l : Launch) (D : va_G) (cI cZ : ClassId) (X : Nat → Nat) (S : Nat → Nat → Int32) (O : Nat → Bool) (V : Nat → Int32) (T : Nat → Nat → Int32) (pi : Nat) (ri : Nat) (hpi : pi < 5) (hri : ri < 3) (hG : RelG S T) (hPP : RelP S T) : Met l yL_serves wsL_serves ({ frames := 1, cells := 0, slots := 0, locals := 26 } : Room) (zR D (tyl cI cZ) (lW cI cZ X S O V T) [.int (nI pi), .int (nI ri), .ref (X 20), .ref (X 21), .ref (X 22)]) (QcRead (bi (c_serves S pi ri))) 0 0 (fun _ => False) := by
  refine Met.ofW (cc := cL_serves) (maxL := 7) (ret := (some .boolean)) (by decide) rfl ?_
  intro p e s m args below meth c s₁ B hml hv
  obtain ⟨rfl, hP, hK⟩ := hv
  have hx := B.exec
  have hb := B.bytes
  have hr := B.returns
  have hts := atoms_spec (ws := wsL_serves) B.pre
  have hown : s.vm.findClass RL = some m.cls := findClass_of_methodNamed B.named
  have hlocks := B.notSynchronized
  have hl := lv_entry ([.int (nI pi), .int (nI ri), .ref (X 20), .ref (X 21), .ref (X 22)]) (n := 7) (Nat.le_of_ble_eq_true rfl)
  rw [lg_entry_eq]
  generalize (lg_sl ([.int (nI pi), .int (nI ri), .ref (X 20), .ref (X 21), .ref (X 22)]) ++ List.replicate (7 - (lg_sl ([.int (nI pi), .int (nI ri), .ref (X 20), .ref (X 21), .ref (X 22)])).length) Slot.unset).toArray = ls at hl ⊢
  have hl : lv_has ls 7 [(0, .int (nI pi)), (1, .int (nI ri)), (2, .ref (X 20)), (3, .ref (X 21)), (4, .ref (X 22))] := hl
  refine lv_iconst (v := 0) hx hb dL_serves_0 rfl ?_
  refine lv_istore (lv' := [(5, .int 0), (0, .int (nI pi)), (1, .int (nI ri)), (2, .ref (X 20)), (3, .ref (X 21)), (4, .ref (X 22))]) hx hb dL_serves_1 hl (by decide) rfl (fun ls hl => ?_)
  refine lv_iconst (v := nI 0) hx hb dL_serves_3 rfl ?_
  refine lv_istore (lv' := [(6, .int (nI 0)), (5, .int 0), (0, .int (nI pi)), (1, .int (nI ri)), (2, .ref (X 20)), (3, .ref (X 21)), (4, .ref (X 22))]) hx hb dL_serves_4 hl (by decide) rfl (fun ls hl => ?_)
  refine z_loop (N := 4) (nL := 7) (Lc := (fun k => [(6, .int (nI k)), (5, .int (bi (l_ser S T pi ri k))), (0, .int (nI pi)), (1, .int (nI ri)), (2, .ref (X 20)), (3, .ref (X 21)), (4, .ref (X 22))])) (lv_sub hl [0, 1, 2, 3, 4, 5, 6] rfl) (fun ls hl => ?_) (fun k ls hk hl ih => ?_)
  · have hl : lv_has ls 7 [(6, .int (nI 4)), (5, .int (bi (l_ser S T pi ri 4))), (0, .int (nI pi)), (1, .int (nI ri)), (2, .ref (X 20)), (3, .ref (X 21)), (4, .ref (X 22))] := hl
    refine lv_iload hx hb dL_serves_6 (lv_at hl 0 rfl) ?_
    refine lv_iconst (v := nI 4) hx hb dL_serves_8 rfl ?_
    refine z_ge_t (tgt := 52) (nI_le (by omega) (by omega)) hx hb dL_serves_9 (by decide) ?_
    refine lv_iload hx hb dL_serves_52 (lv_at hl 1 rfl) ?_
    refine z_cut (G := F0 m 70 ls [.int (bi (l_ser S T pi ri 4 && !decide (3 ≤ T 22 pi)))]) (fun J70 => ?_) ?_
    · refine z_if_eq (tgt := 69) hx hb dL_serves_54 (by decide) (fun c_54 => ?_) (fun c_54 => ?_)
      · refine lv_iconst (v := 0) hx hb dL_serves_69 rfl ?_
        exact z_top (bi (l_ser S T pi ri 4 && !decide (3 ≤ T 22 pi))) (bi_of0 (by simp [c_54])) J70
      · refine lv_aload hx hb dL_serves_57 (lv_at hl 6 rfl) ?_
        refine lv_iload_n hx hb dL_serves_59 rfl (lv_at hl 2 rfl) ?_
        refine z_iald (D := D) (j := pi) (f := T 22) hx hb hK hP 22 0 rfl rfl (by omega) (by decide) dL_serves_60 ?_
        refine lv_iconst (v := 3) hx hb dL_serves_61 rfl ?_
        refine z_sel_icmp_ge hx hb dL_serves_62 dL_serves_65 dL_serves_66 dL_serves_69 ?_
        exact z_top (bi (l_ser S T pi ri 4 && !decide (3 ≤ T 22 pi))) (congrArg bi (by simp [c_54])) J70
    · exact z_zret hx hb hr hlocks (by exact congrArg bi (l_serves_eq hG hPP hpi hri)) dL_serves_70
  · have hl : lv_has ls 7 [(6, .int (nI k)), (5, .int (bi (l_ser S T pi ri k))), (0, .int (nI pi)), (1, .int (nI ri)), (2, .ref (X 20)), (3, .ref (X 21)), (4, .ref (X 22))] := hl
    have ih_6 := ih
    refine lv_iload hx hb dL_serves_6 (lv_at hl 0 rfl) ?_
    refine lv_iconst (v := nI 4) hx hb dL_serves_8 rfl ?_
    refine z_ge_f (tgt := 52) (nI_ge (by omega) (by omega)) hx hb dL_serves_9 (by decide) ?_
    refine lv_iload hx hb dL_serves_12 (lv_at hl 1 rfl) ?_
    refine z_cut (G := F0 m 44 ls [.int (bi (l_ser S T pi ri k || (decide (T 21 (3 * k + ri) = 1) && hasB (c_allA S (S 7 pi) 8) (nI k))))]) (fun J44 => ?_) ?_
    · refine z_if_ne (tgt := 39) hx hb dL_serves_14 (by decide) (fun c_14 => ?_) (fun c_14 => ?_)
      · refine lv_iconst (v := 1) hx hb dL_serves_39 rfl ?_
        refine lv_goto (tgt := 44) hx hb dL_serves_40 (by decide) ?_
        exact z_top (bi (l_ser S T pi ri k || (decide (T 21 (3 * k + ri) = 1) && hasB (c_allA S (S 7 pi) 8) (nI k)))) (bi_of1 (by simp [c_14])) J44
      · refine lv_aload_n hx hb dL_serves_17 rfl (lv_at hl 5 rfl) ?_
        refine lv_iconst (v := 3) hx hb dL_serves_18 rfl ?_
        refine lv_iload hx hb dL_serves_19 (lv_at hl 0 rfl) ?_
        refine lv_imul hx hb dL_serves_21 ?_
        refine z_top (nI (3 * k)) (pk_mul 3 k) ?_
        refine lv_iload_n hx hb dL_serves_22 rfl (lv_at hl 3 rfl) ?_
        refine lv_iadd hx hb dL_serves_23 ?_
        refine z_top (nI ((3 * k) + ri)) (nI_add (3 * k) ri) ?_
        refine z_iald (D := D) (j := (3 * k) + ri) (f := T 21) hx hb hK hP 21 0 rfl rfl (by omega) (by decide) dL_serves_24 ?_
        refine lv_iconst (v := 1) hx hb dL_serves_25 rfl ?_
        refine lv_icmp_ne (tgt := 43) hx hb dL_serves_26 (by decide) (fun c_26 => ?_) (fun c_26 => ?_)
        · refine lv_iconst (v := 0) hx hb dL_serves_43 rfl ?_
          exact z_top (bi (l_ser S T pi ri k || (decide (T 21 (3 * k + ri) = 1) && hasB (c_allA S (S 7 pi) 8) (nI k)))) (bi_of0 (by simp [c_14, c_26])) J44
        · refine lv_iload hx hb dL_serves_29 (lv_at hl 0 rfl) ?_
          refine lv_iload_n hx hb dL_serves_31 rfl (lv_at hl 2 rfl) ?_
          refine lv_aload_n hx hb dL_serves_32 rfl (lv_at hl 4 rfl) ?_
          refine z_callR (W.runS (As := [.int (nI k), .int (nI pi), .ref (X 20)]) (rest := []) ⟨hx, hb, hml, hown, hts⟩ (kL_isIn l D cI cZ X S O V T k pi (by omega) (by omega) hG) (va_cwS 3 hts gL_serves_L_isIn rfl rfl rfl (by decide +kernel) ⟨Nat.le_of_ble_eq_true rfl, Nat.le_of_ble_eq_true rfl⟩) (zR_preS hK hP) rfl rfl hl.1 rfl (lv_room (Nat.le_of_ble_eq_true rfl)) dL_serves_33 ⟨Nat.zero_le _, Nat.zero_le _⟩) ?_
          refine z_if_eq (tgt := 43) hx hb dL_serves_36 (by decide) (fun c_36 => ?_) (fun c_36 => ?_)
          · refine lv_iconst (v := 0) hx hb dL_serves_43 rfl ?_
            exact z_top (bi (l_ser S T pi ri k || (decide (T 21 (3 * k + ri) = 1) && hasB (c_allA S (S 7 pi) 8) (nI k)))) (bi_of0 (by simp [c_14, (eq_true c_26), c_36])) J44
          · refine lv_iconst (v := 1) hx hb dL_serves_39 rfl ?_
            refine lv_goto (tgt := 44) hx hb dL_serves_40 (by decide) ?_
            exact z_top (bi (l_ser S T pi ri k || (decide (T 21 (3 * k + ri) = 1) && hasB (c_allA S (S 7 pi) 8) (nI k)))) (bi_of1 (by simp [c_14, (eq_true c_26), c_36])) J44
    · refine lv_istore (lv' := [(5, .int (bi (l_ser S T pi ri k || (decide (T 21 (3 * k + ri) = 1) && hasB (c_allA S (S 7 pi) 8) (nI k))))), (6, .int (nI k)), (0, .int (nI pi)), (1, .int (nI ri)), (2, .ref (X 20)), (3, .ref (X 21)), (4, .ref (X 22))]) hx hb dL_serves_44 hl (by decide) rfl (fun ls hl => ?_)
      refine lv_iinc (v := nI (k + 1)) (lv' := [(6, .int (nI (k + 1))), (5, .int (bi (l_ser S T pi ri k || (decide (T 21 (3 * k + ri) = 1) && hasB (c_allA S (S 7 pi) 8) (nI k))))), (0, .int (nI pi)), (1, .int (nI ri)), (2, .ref (X 20)), (3, .ref (X 21)), (4, .ref (X 22))]) hx hb dL_serves_46 hl (k := 1) rfl (nI_1 _) (by decide) rfl (fun ls hl => ?_)
      refine lv_goto (tgt := 6) hx hb dL_serves_49 (by decide) ?_
      have e5 : (bi (l_ser S T pi ri (k + 1))) = (bi (l_ser S T pi ri k || (decide (T 21 (3 * k + ri) = 1) && hasB (c_allA S (S 7 pi) 8) (nI k)))) := by rfl
      exact ih_6 ls (by show lv_has ls 7 [(6, .int (nI (k + 1))), (5, .int (bi (l_ser S T pi ri (k + 1)))), (0, .int (nI pi)), (1, .int (nI ri)), (2, .ref (X 20)), (3, .ref (X 21)), (4, .ref (X 22))]; rw [e5]; exact lv_sub hl [0, 1, 2, 3, 4, 5, 6] rfl)

set_option maxHeartbeats 4000000 in
set_option maxRecDepth 100000 in
theorem kL_isKey (l : Launch) (D : va_G) (cI cZ : ClassId) (X : Nat → Nat) (S : Nat → Nat → Int32) (O : Nat → Bool) (V : Nat → Int32) (T : Nat → Nat → Int32) (x0 : Int32) : Met l yL_isKey wsL_isKey ({ frames := 0, cells := 0, slots := 0, locals := 0 } : Room) (zR D (tyl cI cZ) (lW cI cZ X S O V T) [.int x0, .ref (X 19)]) (QcRead (bi (l_key T x0))) 0 0 (fun _ => False) := by
  refine Met.ofW (cc := cL_isKey) (maxL := 2) (ret := (some .boolean)) (by decide) rfl ?_
  intro p e s m args below meth c s₁ B hml hv
  obtain ⟨rfl, hP, hK⟩ := hv
  have hx := B.exec
  have hb := B.bytes
  have hr := B.returns
  have hts := atoms_spec (ws := wsL_isKey) B.pre
  have hown : s.vm.findClass RL = some m.cls := findClass_of_methodNamed B.named
  have hlocks := B.notSynchronized
  have hl := lv_entry ([.int x0, .ref (X 19)]) (n := 2) (Nat.le_of_ble_eq_true rfl)
  rw [lg_entry_eq]
  generalize (lg_sl ([.int x0, .ref (X 19)]) ++ List.replicate (2 - (lg_sl ([.int x0, .ref (X 19)])).length) Slot.unset).toArray = ls at hl ⊢
  have hl : lv_has ls 2 [(0, .int x0), (1, .ref (X 19))] := hl
  refine lv_iload_n hx hb dL_isKey_0 rfl (lv_at hl 0 rfl) ?_
  refine lv_aload_n hx hb dL_isKey_1 rfl (lv_at hl 1 rfl) ?_
  refine lv_iconst (v := nI 2) hx hb dL_isKey_2 rfl ?_
  refine z_iald (D := D) (j := 2) (f := T 19) hx hb hK hP 19 0 rfl rfl (by omega) (by decide) dL_isKey_3 ?_
  refine z_cut (G := F0 m 30 ls [.int (bi (l_key T x0))]) (fun J30 => ?_) ?_
  · refine lv_icmp_eq (tgt := 25) hx hb dL_isKey_4 (by decide) (fun c_4 => ?_) (fun c_4 => ?_)
    · refine lv_iconst (v := 1) hx hb dL_isKey_25 rfl ?_
      refine lv_goto (tgt := 30) hx hb dL_isKey_26 (by decide) ?_
      exact z_top (bi (l_key T x0)) (bi_of1 (by simp [l_key, (eq_true c_4)])) J30
    · refine lv_iload_n hx hb dL_isKey_7 rfl (lv_at hl 0 rfl) ?_
      refine lv_iconst (v := 1) hx hb dL_isKey_8 rfl ?_
      refine lv_iadd hx hb dL_isKey_9 ?_
      refine lv_aload_n hx hb dL_isKey_10 rfl (lv_at hl 1 rfl) ?_
      refine lv_iconst (v := nI 2) hx hb dL_isKey_11 rfl ?_
      refine z_iald (D := D) (j := 2) (f := T 19) hx hb hK hP 19 0 rfl rfl (by omega) (by decide) dL_isKey_12 ?_
      refine lv_icmp_ne (tgt := 29) hx hb dL_isKey_13 (by decide) (fun c_13 => ?_) (fun c_13 => ?_)
      · refine lv_iconst (v := 0) hx hb dL_isKey_29 rfl ?_
        exact z_top (bi (l_key T x0)) (bi_of0 (by simp [l_key, c_4, c_13])) J30
      · refine lv_aload_n hx hb dL_isKey_16 rfl (lv_at hl 1 rfl) ?_
        refine lv_iconst (v := nI 3) hx hb dL_isKey_17 rfl ?_
        refine z_iald (D := D) (j := 3) (f := T 19) hx hb hK hP 19 0 rfl rfl (by omega) (by decide) dL_isKey_18 ?_
        refine lv_aload_n hx hb dL_isKey_19 rfl (lv_at hl 1 rfl) ?_
        refine lv_iconst (v := nI 0) hx hb dL_isKey_20 rfl ?_
        refine z_iald (D := D) (j := 0) (f := T 19) hx hb hK hP 19 0 rfl rfl (by omega) (by decide) dL_isKey_21 ?_
        refine z_sel_icmp_le hx hb dL_isKey_22 dL_isKey_25 dL_isKey_26 dL_isKey_29 ?_
        exact z_top (bi (l_key T x0)) (congrArg bi (by simp [l_key, c_4, (eq_true c_13)])) J30
  · exact z_zret hx hb hr hlocks rfl dL_isKey_30

set_option maxHeartbeats 4000000 in
set_option maxRecDepth 100000 in
theorem kL_sweep (l : Launch) (D : va_G) (cI cZ : ClassId) (X : Nat → Nat) (S : Nat → Nat → Int32) (O : Nat → Bool) (V : Nat → Int32) (T : Nat → Nat → Int32) (sz : Nat) (n0 : Nat) (hn0 : n0 ≤ 12) (hct : T 19 1 = nI n0) (hpe : ∀ j : Nat, j < n0 → ∃ p : Nat, p < 5 ∧ T 24 (5 * j) = nI p) : Met l yL_sweep wsL_sweep ({ frames := 1, cells := 0, slots := 0, locals := 21 } : Room) (zW D (tyl cI cZ) (lW cI cZ X S O V T) sz [.ref (X 24), .ref (X 22), .ref (X 19)]) (zQi D (tyl cI cZ) (lW cI cZ X S O V (va_up T 24 (l_upR T (l_goes T) n0))) (l_num (l_goes T) n0) (va_A (lW cI cZ X S O V T) sz)) 0 0 (va_A (lW cI cZ X S O V T) sz) := by
  refine Met.ofW (cc := cL_sweep) (maxL := 8) (ret := (some .int)) (by decide) rfl ?_
  intro p e s m args below meth c s₁ B hml hv
  obtain ⟨rfl, hsz, hP, hK, hD0⟩ := hv
  have hx := B.exec
  have hb := B.bytes
  have hr := B.returns
  have hts := atoms_spec (ws := wsL_sweep) B.pre
  have hown : s.vm.findClass RL = some m.cls := findClass_of_methodNamed B.named
  have hlocks := B.notSynchronized
  subst hsz
  have hD := hD0.self (sz := s.heap.size)
  generalize hAe : va_A (lW cI cZ X S O V T) s.heap.size = A at hD ⊢
  have hA : ∀ q : Nat, s.heap.size ≤ q → A q := fun q h => by rw [← hAe]; exact Or.inr h
  have hS : va_S A s.heap s.heap [] := va_S.rf
  have hl := lv_entry ([.ref (X 24), .ref (X 22), .ref (X 19)]) (n := 8) (Nat.le_of_ble_eq_true rfl)
  rw [lg_entry_eq]
  generalize (lg_sl ([.ref (X 24), .ref (X 22), .ref (X 19)]) ++ List.replicate (8 - (lg_sl ([.ref (X 24), .ref (X 22), .ref (X 19)])).length) Slot.unset).toArray = ls at hl ⊢
  have hl : lv_has ls 8 [(0, .ref (X 24)), (1, .ref (X 22)), (2, .ref (X 19))] := hl
  refine lv_iconst (v := 0) hx hb dL_sweep_0 rfl ?_
  refine lv_istore_n (lv' := [(3, .int 0), (0, .ref (X 24)), (1, .ref (X 22)), (2, .ref (X 19))]) hx hb dL_sweep_1 rfl hl (by decide) rfl (fun ls hl => ?_)
  refine lv_iconst (v := nI 0) hx hb dL_sweep_2 rfl ?_
  refine lv_istore (lv' := [(4, .int (nI 0)), (3, .int 0), (0, .ref (X 24)), (1, .ref (X 22)), (2, .ref (X 19))]) hx hb dL_sweep_3 hl (by decide) rfl (fun ls hl => ?_)
  refine z_loopW (N := n0) (nL := 8) (Lc := (fun k => [(4, .int (nI k)), (3, .int (l_num (l_goes T) k)), (0, .ref (X 24)), (1, .ref (X 22)), (2, .ref (X 19))])) (Wd := fun k => lW cI cZ X S O V (va_up T 24 (l_upR T (l_goes T) k))) (lv_sub hl [0, 1, 2, 3, 4] rfl) hP hD hS (fun H locs ls hP hD hS hl => ?_) (fun k H locs ls hk hP hD hS hl ih => ?_)
  · have hP : va_P D vwCl (lW cI cZ X S O V (va_up T 24 (l_upR T (l_goes T) n0))) H := hP
    have hD : va_D A (lW cI cZ X S O V (va_up T 24 (l_upR T (l_goes T) n0))) := hD
    have hl : lv_has ls 8 [(4, .int (nI n0)), (3, .int (l_num (l_goes T) n0)), (0, .ref (X 24)), (1, .ref (X 22)), (2, .ref (X 19))] := hl
    refine lv_iload hx hb dL_sweep_5 (lv_at hl 0 rfl) ?_
    refine lv_aload_n hx hb dL_sweep_7 rfl (lv_at hl 4 rfl) ?_
    refine lv_iconst (v := 1) hx hb dL_sweep_8 rfl ?_
    refine z_iald (D := D) (j := 1) (f := T 19) hx hb hK hP 19 0 rfl rfl (by omega) (by decide) dL_sweep_9 ?_
    refine z_top (nI n0) hct ?_
    refine z_ge_t (tgt := 146) (nI_le (by omega) (by omega)) hx hb dL_sweep_10 (by decide) ?_
    refine lv_iload_n hx hb dL_sweep_146 rfl (lv_at hl 1 rfl) ?_
    exact z_wret hx hb hr hlocks hP hK hD hS rfl dL_sweep_147
  · have hP : va_P D vwCl (lW cI cZ X S O V (va_up T 24 (l_upR T (l_goes T) k))) H := hP
    have hD : va_D A (lW cI cZ X S O V (va_up T 24 (l_upR T (l_goes T) k))) := hD
    have hl : lv_has ls 8 [(4, .int (nI k)), (3, .int (l_num (l_goes T) k)), (0, .ref (X 24)), (1, .ref (X 22)), (2, .ref (X 19))] := hl
    obtain ⟨pj, hpj, epj⟩ := hpe k hk
    have xpj : ix (T 24 (5 * k)) = pj := ix_of epj (by omega)
    have ih_5 := ih
    refine lv_iload hx hb dL_sweep_5 (lv_at hl 0 rfl) ?_
    refine lv_aload_n hx hb dL_sweep_7 rfl (lv_at hl 4 rfl) ?_
    refine lv_iconst (v := 1) hx hb dL_sweep_8 rfl ?_
    refine z_iald (D := D) (j := 1) (f := T 19) hx hb hK hP 19 0 rfl rfl (by omega) (by decide) dL_sweep_9 ?_
    refine z_top (nI n0) hct ?_
    refine z_ge_f (tgt := 146) (nI_ge (by omega) (by omega)) hx hb dL_sweep_10 (by decide) ?_
    refine lv_iconst (v := 5) hx hb dL_sweep_13 rfl ?_
    refine lv_iload hx hb dL_sweep_14 (lv_at hl 0 rfl) ?_
    refine lv_imul hx hb dL_sweep_16 ?_
    refine z_top (nI (5 * k)) (pk_mul 5 k) ?_
    refine lv_istore (lv' := [(5, .int (nI (5 * k))), (4, .int (nI k)), (3, .int (l_num (l_goes T) k)), (0, .ref (X 24)), (1, .ref (X 22)), (2, .ref (X 19))]) hx hb dL_sweep_17 hl (by decide) rfl (fun ls hl => ?_)
    refine lv_aload_n hx hb dL_sweep_19 rfl (lv_at hl 3 rfl) ?_
    refine lv_iload hx hb dL_sweep_20 (lv_at hl 0 rfl) ?_
    refine lv_iconst (v := 2) hx hb dL_sweep_22 rfl ?_
    refine lv_iadd hx hb dL_sweep_23 ?_
    refine z_top (nI ((5 * k) + 2)) (nI_add (5 * k) 2) ?_
    refine z_iald (D := D) (j := (5 * k) + 2) (f := l_upR T (l_goes T) k) hx hb hK hP 24 0 rfl rfl (by omega) (by decide) dL_sweep_24 ?_
    refine z_top (T 24 (5 * k + 2)) (l_upR_ne T _ (fun j hj => by omega)) ?_
    refine lv_bipush (v := 60) hx hb dL_sweep_25 (by decide) ?_
    refine lv_iconst (v := 4) hx hb dL_sweep_27 rfl ?_
    refine lv_aload_n hx hb dL_sweep_28 rfl (lv_at hl 4 rfl) ?_
    refine lv_aload_n hx hb dL_sweep_29 rfl (lv_at hl 3 rfl) ?_
    refine lv_iload hx hb dL_sweep_30 (lv_at hl 0 rfl) ?_
    refine z_iald (D := D) (j := 5 * k) (f := l_upR T (l_goes T) k) hx hb hK hP 24 0 rfl rfl (by omega) (by decide) dL_sweep_32 ?_
    refine z_top (T 24 (5 * k)) (l_upR_ne T _ (fun j hj => by omega)) ?_
    refine z_top (nI pj) epj ?_
    refine z_iald (D := D) (j := pj) (f := T 22) hx hb hK hP 22 0 rfl rfl (by omega) (by decide) dL_sweep_33 ?_
    refine lv_isub hx hb dL_sweep_34 ?_
    refine lv_imul hx hb dL_sweep_35 ?_
    refine lv_iadd hx hb dL_sweep_36 ?_
    refine z_top (l_en0 T pj k) rfl ?_
    refine lv_istore (lv' := [(6, .int (l_en0 T pj k)), (5, .int (nI (5 * k))), (4, .int (nI k)), (3, .int (l_num (l_goes T) k)), (0, .ref (X 24)), (1, .ref (X 22)), (2, .ref (X 19))]) hx hb dL_sweep_37 hl (by decide) rfl (fun ls hl => ?_)
    refine lv_aload_n hx hb dL_sweep_39 rfl (lv_at hl 4 rfl) ?_
    refine lv_iload hx hb dL_sweep_40 (lv_at hl 1 rfl) ?_
    refine lv_iconst (v := 3) hx hb dL_sweep_42 rfl ?_
    refine lv_iadd hx hb dL_sweep_43 ?_
    refine z_top (nI ((5 * k) + 3)) (nI_add (5 * k) 3) ?_
    refine z_iald (D := D) (j := (5 * k) + 3) (f := l_upR T (l_goes T) k) hx hb hK hP 24 0 rfl rfl (by omega) (by decide) dL_sweep_44 ?_
    refine z_top (T 24 (5 * k + 3)) (l_upR_ne T _ (fun j hj => by omega)) ?_
    refine lv_bipush (v := 30) hx hb dL_sweep_45 (by decide) ?_
    refine lv_iadd hx hb dL_sweep_47 ?_
    refine lv_iload hx hb dL_sweep_48 (lv_at hl 0 rfl) ?_
    refine z_cut (G := F0 m 67 ls [.int (l_en1 T pj k)]) (fun J67 => ?_) ?_
    · refine lv_icmp_ge (tgt := 65) hx hb dL_sweep_50 (by decide) (fun c_50 => ?_) (fun c_50 => ?_)
      · refine lv_iload hx hb dL_sweep_65 (lv_at hl 0 rfl) ?_
        exact z_top (l_en1 T pj k) (by simp [l_en1, c_50]) J67
      · refine lv_aload_n hx hb dL_sweep_53 rfl (lv_at hl 4 rfl) ?_
        refine lv_iload hx hb dL_sweep_54 (lv_at hl 1 rfl) ?_
        refine lv_iconst (v := 3) hx hb dL_sweep_56 rfl ?_
        refine lv_iadd hx hb dL_sweep_57 ?_
        refine z_top (nI ((5 * k) + 3)) (nI_add (5 * k) 3) ?_
        refine z_iald (D := D) (j := (5 * k) + 3) (f := l_upR T (l_goes T) k) hx hb hK hP 24 0 rfl rfl (by omega) (by decide) dL_sweep_58 ?_
        refine z_top (T 24 (5 * k + 3)) (l_upR_ne T _ (fun j hj => by omega)) ?_
        refine lv_bipush (v := 30) hx hb dL_sweep_59 (by decide) ?_
        refine lv_iadd hx hb dL_sweep_61 ?_
        refine lv_goto (tgt := 67) hx hb dL_sweep_62 (by decide) ?_
        exact z_top (l_en1 T pj k) (by simp [l_en1, c_50]) J67
    · refine lv_istore (lv' := [(6, .int (l_en1 T pj k)), (5, .int (nI (5 * k))), (4, .int (nI k)), (3, .int (l_num (l_goes T) k)), (0, .ref (X 24)), (1, .ref (X 22)), (2, .ref (X 19))]) hx hb dL_sweep_67 hl (by decide) rfl (fun ls hl => ?_)
      refine lv_aload_n hx hb dL_sweep_69 rfl (lv_at hl 4 rfl) ?_
      refine lv_iload hx hb dL_sweep_70 (lv_at hl 1 rfl) ?_
      refine lv_iconst (v := 4) hx hb dL_sweep_72 rfl ?_
      refine lv_iadd hx hb dL_sweep_73 ?_
      refine z_top (nI ((5 * k) + 4)) (nI_add (5 * k) 4) ?_
      refine z_iald (D := D) (j := (5 * k) + 4) (f := l_upR T (l_goes T) k) hx hb hK hP 24 0 rfl rfl (by omega) (by decide) dL_sweep_74 ?_
      refine z_top (T 24 (5 * k + 4)) (l_upR_ne T _ (fun j hj => by omega)) ?_
      refine z_cut (G := F0 m 104 ls [.int (bi (l_goes T k))]) (fun J104 => ?_) ?_
      · refine lv_if_ne (tgt := 103) hx hb dL_sweep_75 (by decide) (fun c_75 => ?_) (fun c_75 => ?_)
        · refine lv_iconst (v := 0) hx hb dL_sweep_103 rfl ?_
          exact z_top (bi (l_goes T k)) (bi_of0 (by simp [l_goes, xpj, c_75])) J104
        · refine lv_iload hx hb dL_sweep_78 (lv_at hl 0 rfl) ?_
          refine lv_aload_n hx hb dL_sweep_80 rfl (lv_at hl 6 rfl) ?_
          refine lv_iconst (v := 0) hx hb dL_sweep_81 rfl ?_
          refine z_iald (D := D) (j := 0) (f := T 19) hx hb hK hP 19 0 rfl rfl (by omega) (by decide) dL_sweep_82 ?_
          refine lv_icmp_le (tgt := 99) hx hb dL_sweep_83 (by decide) (fun c_83 => ?_) (fun c_83 => ?_)
          · refine lv_iconst (v := 1) hx hb dL_sweep_99 rfl ?_
            refine lv_goto (tgt := 104) hx hb dL_sweep_100 (by decide) ?_
            exact z_top (bi (l_goes T k)) (bi_of1 (by simp [l_goes, xpj, (eq_true c_75), c_83])) J104
          · refine lv_aload_n hx hb dL_sweep_86 rfl (lv_at hl 4 rfl) ?_
            refine lv_iload hx hb dL_sweep_87 (lv_at hl 1 rfl) ?_
            refine lv_iconst (v := 1) hx hb dL_sweep_89 rfl ?_
            refine lv_iadd hx hb dL_sweep_90 ?_
            refine z_top (nI ((5 * k) + 1)) (nI_add (5 * k) 1) ?_
            refine z_iald (D := D) (j := (5 * k) + 1) (f := l_upR T (l_goes T) k) hx hb hK hP 24 0 rfl rfl (by omega) (by decide) dL_sweep_91 ?_
            refine z_top (T 24 (5 * k + 1)) (l_upR_ne T _ (fun j hj => by omega)) ?_
            refine lv_aload_n hx hb dL_sweep_92 rfl (lv_at hl 6 rfl) ?_
            refine z_callR (W.runS (As := [.int (T 24 (5 * k + 1)), .ref (X 19)]) (rest := []) ⟨hx, hb, hml, hown, hts⟩ (kL_isKey l D cI cZ X S O V (va_up T 24 (l_upR T (l_goes T) k)) (T 24 (5 * k + 1))) (va_cwS 2 hts gL_sweep_L_isKey rfl rfl rfl (by decide +kernel) ⟨Nat.le_of_ble_eq_true rfl, Nat.le_of_ble_eq_true rfl⟩) (zR_preS hK hP) rfl rfl hl.1 rfl (lv_room (Nat.le_of_ble_eq_true rfl)) dL_sweep_93 ⟨Nat.zero_le _, Nat.zero_le _⟩) ?_
            refine z_top (bi (l_key T (T 24 (5 * k + 1)))) rfl ?_
            refine z_if_ne (tgt := 103) hx hb dL_sweep_96 (by decide) (fun c_96 => ?_) (fun c_96 => ?_)
            · refine lv_iconst (v := 0) hx hb dL_sweep_103 rfl ?_
              exact z_top (bi (l_goes T k)) (bi_of0 (by simp [l_goes, xpj, (eq_true c_75), c_83, c_96])) J104
            · refine lv_iconst (v := 1) hx hb dL_sweep_99 rfl ?_
              refine lv_goto (tgt := 104) hx hb dL_sweep_100 (by decide) ?_
              exact z_top (bi (l_goes T k)) (bi_of1 (by simp [l_goes, xpj, (eq_true c_75), c_83, c_96])) J104
      · refine lv_istore (lv' := [(7, .int (bi (l_goes T k))), (6, .int (l_en1 T pj k)), (5, .int (nI (5 * k))), (4, .int (nI k)), (3, .int (l_num (l_goes T) k)), (0, .ref (X 24)), (1, .ref (X 22)), (2, .ref (X 19))]) hx hb dL_sweep_104 hl (by decide) rfl (fun ls hl => ?_)
        refine lv_aload_n hx hb dL_sweep_106 rfl (lv_at hl 5 rfl) ?_
        refine lv_iload hx hb dL_sweep_107 (lv_at hl 2 rfl) ?_
        refine lv_iconst (v := 4) hx hb dL_sweep_109 rfl ?_
        refine lv_iadd hx hb dL_sweep_110 ?_
        refine z_top (nI ((5 * k) + 4)) (nI_add (5 * k) 4) ?_
        refine lv_iload hx hb dL_sweep_111 (lv_at hl 0 rfl) ?_
        refine z_cut (G := F0 m 126 ls [.int (if l_goes T k = true then 1 else T 24 (5 * k + 4)), .int (nI ((5 * k) + 4)), .ref (X 24)]) (fun J126 => ?_) ?_
        · refine z_if_eq (tgt := 120) hx hb dL_sweep_113 (by decide) (fun c_113 => ?_) (fun c_113 => ?_)
          · refine lv_aload_n hx hb dL_sweep_120 rfl (lv_at hl 5 rfl) ?_
            refine lv_iload hx hb dL_sweep_121 (lv_at hl 2 rfl) ?_
            refine lv_iconst (v := 4) hx hb dL_sweep_123 rfl ?_
            refine lv_iadd hx hb dL_sweep_124 ?_
            refine z_top (nI ((5 * k) + 4)) (nI_add (5 * k) 4) ?_
            refine z_iald (D := D) (j := (5 * k) + 4) (f := l_upR T (l_goes T) k) hx hb hK hP 24 0 rfl rfl (by omega) (by decide) dL_sweep_125 ?_
            refine z_top (T 24 (5 * k + 4)) (l_upR_ne T _ (fun j hj => by omega)) ?_
            exact z_top (if l_goes T k = true then 1 else T 24 (5 * k + 4)) (by simp [c_113]) J126
          · refine lv_iconst (v := 1) hx hb dL_sweep_116 rfl ?_
            refine lv_goto (tgt := 126) hx hb dL_sweep_117 (by decide) ?_
            exact z_top (if l_goes T k = true then 1 else T 24 (5 * k + 4)) (by simp [c_113]) J126
        · refine z_iast (D := D) (j := (5 * k) + 4) (f := l_upR T (l_goes T) k) hx hb hK hP hD hS 24 0 rfl rfl (by omega) (by decide) dL_sweep_126 (fun H locs hP hD hS => ?_)
          have hP : va_P D vwCl (lW cI cZ X S O V (va_up T 24 (upd (l_upR T (l_goes T) k) ((5 * k) + 4) (if l_goes T k = true then 1 else T 24 (5 * k + 4))))) H := hP
          have hD : va_D A (lW cI cZ X S O V (va_up T 24 (upd (l_upR T (l_goes T) k) ((5 * k) + 4) (if l_goes T k = true then 1 else T 24 (5 * k + 4))))) := hD
          refine lv_iload_n hx hb dL_sweep_127 rfl (lv_at hl 4 rfl) ?_
          refine lv_iload hx hb dL_sweep_128 (lv_at hl 0 rfl) ?_
          refine z_cut (G := F0 m 138 ls [.int (bi (l_goes T k)), .int (l_num (l_goes T) k)]) (fun J138 => ?_) ?_
          · refine z_if_eq (tgt := 137) hx hb dL_sweep_130 (by decide) (fun c_130 => ?_) (fun c_130 => ?_)
            · refine lv_iconst (v := 0) hx hb dL_sweep_137 rfl ?_
              exact z_top (bi (l_goes T k)) (bi_of0 (by simp [c_130])) J138
            · refine lv_iconst (v := 1) hx hb dL_sweep_133 rfl ?_
              refine lv_goto (tgt := 138) hx hb dL_sweep_134 (by decide) ?_
              exact z_top (bi (l_goes T k)) (bi_of1 (by simp [c_130])) J138
          · refine lv_iadd hx hb dL_sweep_138 ?_
            refine lv_istore_n (lv' := [(3, .int ((l_num (l_goes T) k) + (bi (l_goes T k)))), (7, .int (bi (l_goes T k))), (6, .int (l_en1 T pj k)), (5, .int (nI (5 * k))), (4, .int (nI k)), (0, .ref (X 24)), (1, .ref (X 22)), (2, .ref (X 19))]) hx hb dL_sweep_139 rfl hl (by decide) rfl (fun ls hl => ?_)
            refine lv_iinc (v := nI (k + 1)) (lv' := [(4, .int (nI (k + 1))), (3, .int ((l_num (l_goes T) k) + (bi (l_goes T k)))), (7, .int (bi (l_goes T k))), (6, .int (l_en1 T pj k)), (5, .int (nI (5 * k))), (0, .ref (X 24)), (1, .ref (X 22)), (2, .ref (X 19))]) hx hb dL_sweep_140 hl (k := 4) rfl (nI_1 _) (by decide) rfl (fun ls hl => ?_)
            refine lv_goto (tgt := 5) hx hb dL_sweep_143 (by decide) ?_
            have e3 : (l_num (l_goes T) (k + 1)) = ((l_num (l_goes T) k) + (bi (l_goes T k))) := by rfl
            have eT : (va_up T 24 (l_upR T (l_goes T) (k + 1))) = (va_up T 24 (upd (l_upR T (l_goes T) k) ((5 * k) + 4) (if l_goes T k = true then 1 else T 24 (5 * k + 4)))) := by rfl
            exact ih_5 H locs ls (by show va_P D vwCl (lW cI cZ X S O V (va_up T 24 (l_upR T (l_goes T) (k + 1)))) H; rw [eT]; exact hP) (by show va_D A (lW cI cZ X S O V (va_up T 24 (l_upR T (l_goes T) (k + 1)))); rw [eT]; exact hD) hS (by show lv_has ls 8 [(4, .int (nI (k + 1))), (3, .int (l_num (l_goes T) (k + 1))), (0, .ref (X 24)), (1, .ref (X 22)), (2, .ref (X 19))]; rw [e3]; exact lv_sub hl [0, 1, 5, 6, 7] rfl)

