set_option maxHeartbeats 4000000 in
set_option maxRecDepth 100000 in
theorem law_loop {p : Program} {l : Launch} {e : Env} {s : State} {m : MethodId} {below : List Frame} {meth : Method} {c : Code} {D : va_G} {cI cZ cJ : ClassId} {X Y : Nat → Nat} {o b L : Nat} {xs : Nat → Int32} (hl0 : l.stackTraces = false) (hL : L ≤ 2560) (C0 : lw_At p s m meth c b L xs) (hK : va_K D vwCl (tyx cI cZ cJ) s) (hZ : zX (fun q : Nat => s.heap.size ≤ q) s) (hY : zY s) :
    ∀ (n k : Nat), L < 5 * (k + n) → 5 * k ≤ L → ∀ (cells slots : Nat), cells + (512 - k) ≤ 1084 → slots + 6 * (512 - k) ≤ 9656 → ∀ (g : Nat → Int64) (S : Nat → Nat → Int32) (O : Nat → Bool) (V : Nat → Int32) (T : Nat → Nat → Int32) (P : Nat → Bool) (U : Nat → Int32) (H : Heap) (locs : List Loc) (ls : Array Slot), Rel k S O V T P U → va_P D vwCl (lW cI cZ cJ X Y o g S O V T P U) H → va_D (fun q : Nat => s.heap.size ≤ q) (lW cI cZ cJ X Y o g S O V T P U) → va_S (fun q : Nat => s.heap.size ≤ q) s.heap H locs → lv_has ls 7 [(0, .ref b), (1, .ref (X 0)), (2, .ref (Y 0)), (3, .ref o), (4, .int (nI (5 * k)))] → W p l e room_1 s m #[Value.ref b] below meth c H locs cells slots (lw_Z below #[Value.ref b] s) (F0 m 23 ls []) := by
  have C1 := C0
  obtain ⟨hx, hb, hr, hml, hown, hts, hX, hbl, hlocks, hgv⟩ := C0
  have hA : ∀ q : Nat, s.heap.size ≤ q → (fun q : Nat => s.heap.size ≤ q) q := fun _ h => h
  have hbA : ¬ (fun q : Nat => s.heap.size ≤ q) b := Nat.not_le.mpr hbl
  intro n
  induction n with
  | zero => intro k h1 h2; omega
  | succ n ih =>
    intro k hn hkL cells slots hcells hslots g S O V T P U H locs ls hR hP hD hS hl
    have exit : W p l e room_1 s m #[Value.ref b] below meth c H locs cells slots (lw_Z below #[Value.ref b] s) (F0 m 1361 ls []) := by
      refine lv_iconst (v := 1) hx hb dL_law_1361 rfl ?_
      refine va_forget (fun q hq => hS.2.2 q hq) ?_
      refine W.widen (k := 1084) (n := 9656) (by omega) (by omega) ?_
      exact lw_ret hx hb hr hlocks dL_law_1362
    refine lv_iload hx hb dL_law_23 (lv_at hl 4 rfl) ?_
    refine lv_aload_n hx hb dL_law_25 rfl (lv_at hl 0 rfl) ?_
    refine va_slen hx hb hX hbl hbA hS dL_law_26 ?_
    refine lv_iconst (v := nI 5) hx hb dL_law_27 rfl ?_
    refine lv_isub hx hb dL_law_28 ?_
    refine lv_icmp_gt (tgt := 1361) hx hb dL_law_29 (by decide) (fun _ => exit) (fun c_29 => ?_)
    have hk5 : 5 * k + 5 ≤ L := by
      rw [Int32.lt_iff_toInt_lt, show (Int32.ofNat L - nI 5 : Int32).toInt = (L : Int) - (5 : Nat) from pk_sub_toInt (a := L) (b := 5) (by omega) (by omega), nI_toInt (by omega)] at c_29
      omega
    have next : ∀ (g : Nat → Int64) (S : Nat → Nat → Int32) (O : Nat → Bool) (V : Nat → Int32) (T : Nat → Nat → Int32) (P : Nat → Bool) (U : Nat → Int32) (H : Heap) (locs : List Loc) (ls : Array Slot), Rel (k + 1) S O V T P U → va_P D vwCl (lW cI cZ cJ X Y o g S O V T P U) H → va_D (fun q : Nat => s.heap.size ≤ q) (lW cI cZ cJ X Y o g S O V T P U) → va_S (fun q : Nat => s.heap.size ≤ q) s.heap H locs → lv_has ls 7 [(0, .ref b), (1, .ref (X 0)), (2, .ref (Y 0)), (3, .ref o), (4, .int (nI (5 * k)))] → W p l e room_1 s m #[Value.ref b] below meth c H locs (cells + 1) (slots + 6) (lw_Z below #[Value.ref b] s) (F0 m 1355 ls []) := by
      intro g S O V T P U H locs ls hR hP hD hS hl
      refine lv_iinc (v := nI (5 * (k + 1))) (lv' := [(4, .int (nI (5 * (k + 1)))), (0, .ref b), (1, .ref (X 0)), (2, .ref (Y 0)), (3, .ref o)]) hx hb dL_law_1355 hl (k := 4) rfl ((nI_add (5 * k) 5).trans (congrArg nI (by omega))) (by decide) rfl (fun ls hl => ?_)
      refine lv_goto (tgt := 23) hx hb dL_law_1358 (by decide) ?_
      exact ih (k + 1) (by omega) (by omega) (cells + 1) (slots + 6) (by omega) (by omega) g S O V T P U H locs ls hR hP hD hS (lv_sub hl [1, 2, 3, 4, 0] rfl)
    have hcs : cells + 1 ≤ 1084 ∧ slots + 6 ≤ 9656 := by omega
    refine lv_aload_n hx hb dL_law_32 rfl (lv_at hl 0 rfl) ?_
    refine lv_iload hx hb dL_law_33 (lv_at hl 4 rfl) ?_
    refine z_sld hx hb hX hbl hbA hS (by omega) hL dL_law_35 ?_
    refine lv_bipush (v := 31) hx hb dL_law_36 (by decide) ?_
    refine lv_iand hx hb dL_law_38 ?_
    obtain ⟨j, hj, ej⟩ := pk_andE (xs (5 * k)) (m := 31) 5 (by decide)
    refine z_top (nI j) ej ?_
    rcases Nat.lt_or_ge j 18 with h18 | h18
    · have hjj : j = 0 ∨ j = 1 ∨ j = 2 ∨ j = 3 ∨ j = 4 ∨ j = 5 ∨ j = 6 ∨ j = 7 ∨ j = 8 ∨ j = 9 ∨ j = 10 ∨ j = 11 ∨ j = 12 ∨ j = 13 ∨ j = 14 ∨ j = 15 ∨ j = 16 ∨ j = 17 := by omega
      rcases hjj with rfl | rfl | rfl | rfl | rfl | rfl | rfl | rfl | rfl | rfl | rfl | rfl | rfl | rfl | rfl | rfl | rfl | rfl
      · refine lv_tableIn (off := 85) (tgt := 124) hx hb dL_law_39 (by decide) (by decide) (by decide) (by decide) ?_
        exact law_setPerson hl0 hL C1 hK hZ hY hA hbA hk5 hcs hR hP hD hS hl next
      · refine lv_tableIn (off := 188) (tgt := 227) hx hb dL_law_39 (by decide) (by decide) (by decide) (by decide) ?_
        exact law_setGroup hl0 hL C1 hK hZ hY hA hbA hk5 hcs hR hP hD hS hl next
      · refine lv_tableIn (off := 291) (tgt := 330) hx hb dL_law_39 (by decide) (by decide) (by decide) (by decide) ?_
        exact law_setRole hl0 hL C1 hK hZ hY hA hbA hk5 hcs hR hP hD hS hl next
      · refine lv_tableIn (off := 371) (tgt := 410) hx hb dL_law_39 (by decide) (by decide) (by decide) (by decide) ?_
        exact law_setRisk hl0 hL C1 hK hZ hY hA hbA hk5 hcs hR hP hD hS hl next
      · refine lv_tableIn (off := 439) (tgt := 478) hx hb dL_law_39 (by decide) (by decide) (by decide) (by decide) ?_
        exact law_isIn hl0 hL C1 hK hZ hY hA hbA hk5 hcs hR hP hD hS hl next
      · refine lv_tableIn (off := 514) (tgt := 553) hx hb dL_law_39 (by decide) (by decide) (by decide) (by decide) ?_
        exact law_allows hl0 hL C1 hK hZ hY hA hbA hk5 hcs hR hP hD hS hl next
      · refine lv_tableIn (off := 589) (tgt := 628) hx hb dL_law_39 (by decide) (by decide) (by decide) (by decide) ?_
        exact law_open hl0 hL C1 hK hZ hY hA hbA hk5 hcs hR hP hD hS hl next
      · refine lv_tableIn (off := 645) (tgt := 684) hx hb dL_law_39 (by decide) (by decide) (by decide) (by decide) ?_
        exact law_close hl0 hL C1 hK hZ hY hA hbA hk5 hcs hR hP hD hS hl next
      · refine lv_tableIn (off := 701) (tgt := 740) hx hb dL_law_39 (by decide) (by decide) (by decide) (by decide) ?_
        exact law_goesOn hl0 hL C1 hK hZ hY hA hbA hk5 hcs hR hP hD hS hl next
      · refine lv_tableIn (off := 764) (tgt := 803) hx hb dL_law_39 (by decide) (by decide) (by decide) (by decide) ?_
        exact law_changeKeys hl0 hL C1 hK hZ hY hA hbA hk5 hcs hR hP hD hS hl next
      · refine lv_tableIn (off := 820) (tgt := 859) hx hb dL_law_39 (by decide) (by decide) (by decide) (by decide) ?_
        exact law_isTaken hl0 hL C1 hK hZ hY hA hbA hk5 hcs hR hP hD hS hl next
      · refine lv_tableIn (off := 883) (tgt := 922) hx hb dL_law_39 (by decide) (by decide) (by decide) (by decide) ?_
        exact law_pass hl0 hL C1 hK hZ hY hA hbA hk5 hcs hR hP hD hS hl next
      · refine lv_tableIn (off := 939) (tgt := 978) hx hb dL_law_39 (by decide) (by decide) (by decide) (by decide) ?_
        exact law_now hl0 hL C1 hK hZ hY hA hbA hk5 hcs hR hP hD hS hl next
      · refine lv_tableIn (off := 952) (tgt := 991) hx hb dL_law_39 (by decide) (by decide) (by decide) (by decide) ?_
        exact law_breakGlass hl0 hL C1 hK hZ hY hA hbA hk5 hcs hR hP hD hS hl next
      · refine lv_tableIn (off := 1044) (tgt := 1083) hx hb dL_law_39 (by decide) (by decide) (by decide) (by decide) ?_
        exact law_setCache hl0 hL C1 hK hZ hY hA hbA hk5 hcs hR hP hD hS hl next
      · refine lv_tableIn (off := 1112) (tgt := 1151) hx hb dL_law_39 (by decide) (by decide) (by decide) (by decide) ?_
        exact law_decide hl0 hL C1 hK hZ hY hA hbA hk5 hcs hR hP hD hS hl next
      · refine lv_tableIn (off := 1192) (tgt := 1231) hx hb dL_law_39 (by decide) (by decide) (by decide) (by decide) ?_
        exact law_forget hl0 hL C1 hK hZ hY hA hbA hk5 hcs hR hP hD hS hl next
      · refine lv_tableIn (off := 1260) (tgt := 1299) hx hb dL_law_39 (by decide) (by decide) (by decide) (by decide) ?_
        exact law_stale hl0 hL C1 hK hZ hY hA hbA hk5 hcs hR hP hD hS hl next
    · refine lv_tableOut (tgt := 1355) hx hb dL_law_39 (Or.inr (by rw [nI_toInt (by omega)]; omega)) (by decide) ?_
      refine W.widen (k := cells + 1) (n := slots + 6) (by omega) (by omega) ?_
      exact next g S O V T P U H locs ls (Rel_mono hR) hP hD hS hl
