def S_0 : Nat → Nat → Int32 := fun k => if k = 16 then fillA (fun _ => 0) 10 4 else if k = 17 then fillA (fun _ => 0) (-1) 240 else fun _ => 0
def T_0 : Nat → Nat → Int32 := fun k => if k = 19 then upd (upd (fun _ => 0) 4 10) 5 10 else fun _ => 0
theorem zs_tab : ∀ q ∈ zStr, Cond.stringRef RX4 q.1 q.2 ∈ lw_tbl := by decide +kernel
theorem zs_ex : ∀ q ∈ zStr, Cond.exactly (Term.string RX4 q.1) "java/lang/String" ∈ flatC (Cond.and given_1 narrow_1) := by decide +kernel
theorem zs_bad : ∀ w ∈ zBad, w ∈ lw_tbl := by decide +kernel
theorem Rel_start : RelQ 0 S_0 (fun _ => false) (fun _ => 0) T_0 := by
  refine ⟨0, 0, ⟨fun g p _ _ => ?_, fun g p _ _ => ?_, fun a b _ _ => ?_, fun a b _ _ => ?_, fun a _ => ⟨0, by omega, rfl⟩, fun a _ => ⟨0, by omega, rfl⟩, fun r _ => lt8_0, fun r _ => lt8_0, fun g r _ _ => ⟨?_, ?_⟩, fun g r hg hr => ?_, fun g r _ _ _ => ?_⟩, ⟨fun p _ => ⟨rfl, 0, by omega, rfl⟩, fun p r _ _ => rfl⟩, ⟨by omega, rfl, rfl, fun j hj => absurd hj (Nat.not_lt_zero j), fun j _ => rfl, fun j _ _ => rfl⟩, ⟨by omega, rfl, rfl, ⟨0, Nat.le_refl _, rfl, rfl⟩, ⟨0, by omega, rfl, rfl⟩⟩, fun a ha => ⟨10, by omega, ?_, ?_, fun p r hp hr => Or.inl ⟨?_, 0, Nat.le_refl _, rfl⟩⟩, fun a p r ha hp hr _ => ?_⟩
  · show bt 0 g = bt 0 p
    rw [bt_0, bt_0]
  · exact bt_0 g
  · show bt 0 a = bt 0 b
    rw [bt_0, bt_0]
  · exact bt_0 a
  · exact bt_0 g
  · exact bt_0 g
  · show (0 : Int32) = if hasB 0 (nI g) = true then 1 else if hasB 0 (nI g) = true then 2 else 0
    rw [hasB_bt (by omega), bt_0]; rfl
  · exact bt_0 g
  · show fillA (fun _ => 0) 10 4 a = 10
    exact if_pos (by omega)
  · show upd (upd (fun _ => 0) 4 10) 5 10 (4 + a) = 10
    rcases (show a = 0 ∨ a = 1 by omega) with rfl | rfl <;> rfl
  · show fillA (fun _ => 0) (-1) 240 (a * 60 + p * 6 + r) = -1
    exact if_pos (by omega)
  · show fillA (fun _ => 0) (-1) 240 (a * 60 + p * 6 + r) = -1
    exact if_pos (by omega)
set_option maxHeartbeats 4000000 in
set_option maxRecDepth 100000 in
theorem whole_start {p : Program} {e : Env} {s : State} {m : MethodId} {below : List Frame} {meth : Method} {c : Code} (l : Launch) (hflags : l.flags = flags0) {b L : Nat} {xs : Nat → Int32} (hL : L ≤ 260) (C0 : lw_At p s m meth c b L xs) : W p l e room_1 s m #[Value.ref b] below meth c s.heap [] 0 0 (lw_Z below #[Value.ref b] s) (entryFrame m ([Value.ref b] : List Value).toArray 20) := by
  have hl0 : l.stackTraces = false := by unfold Launch.stackTraces; rw [hflags]; decide
  obtain ⟨hx, hb, hr, hml, hown, hts0, hX, hbl, hlocks, hgv⟩ := id C0
  have hA : ∀ q : Nat, s.heap.size ≤ q → (fun q : Nat => s.heap.size ≤ q) q := fun _ h => h
  have hbA : ¬ (fun q : Nat => s.heap.size ≤ q) b := Nat.not_le.mpr hbl
  have hfl := flat_of_before _ hgv
  obtain ⟨c0, iS0, hKn0⟩ := u_known (C := RX0) (T := TX0) (N := 3) (n := 3) hts0 inX0 (hts0 (.instantiable RX0 3) (by decide +kernel))
  obtain ⟨c1, iS1, hKn1⟩ := u_known (C := RX1) (T := TX1) (N := 4) (n := 4) hts0 inX1 (hts0 (.instantiable RX1 4) (by decide +kernel))
  obtain ⟨c2, iS2, hKn2⟩ := u_known (C := RX2) (T := TX2) (N := 2) (n := 2) hts0 inX2 (hts0 (.instantiable RX2 2) (by decide +kernel))
  obtain ⟨c3, iS3, hKn3⟩ := u_known (C := RX3) (T := TX3) (N := 6) (n := 6) hts0 inX3 (hts0 (.instantiable RX3 6) (by decide +kernel))
  obtain ⟨c4, iS4, hKn4⟩ := u_known (C := RX4) (T := TX4) (N := 7) (n := 7) hts0 inX4 (hts0 (.instantiable RX4 7) (by decide +kernel))
  obtain ⟨D, hKc⟩ : ∃ D : va_G, ∀ (k : Nat) (q : vw_C), vwCl[k]? = some q → u_Kn s q.1 q.2.1 q.2.2 (D.1 k) (D.2 k) := by
    refine ⟨(fun k => if k = 0 then c0 else if k = 1 then c1 else if k = 2 then c2 else if k = 3 then c3 else c4, fun k => if k = 0 then iS0 else if k = 1 then iS1 else if k = 2 then iS2 else if k = 3 then iS3 else iS4), ?_⟩
    intro k q hq
    match k, hq with
    | 0, hq => cases hq; exact hKn0
    | 1, hq => cases hq; exact hKn1
    | 2, hq => cases hq; exact hKn2
    | 3, hq => cases hq; exact hKn3
    | 4, hq => cases hq; exact hKn4
    | k + 5, hq => simp [vwCl] at hq
  have hK : va_K D vwCl [] s := ⟨hKc, fun k q h => by simp at h⟩
  have hS : va_S (fun q : Nat => s.heap.size ≤ q) s.heap s.heap [] := va_S.rf
  have hP : va_P D vwCl [] s.heap := fun k q h => by simp at h
  have hD : va_D (fun q : Nat => s.heap.size ≤ q) [] := ⟨fun i j p q h => by simp at h, fun k q h => by simp at h⟩
  obtain ⟨cI, -, -, hcI0, -⟩ := Cond.arrayClass_spec (hts0 (.arrayClass .int) (by decide +kernel))
  have hcI : s.vm.findClass "[I" = some cI := by
    have e1 : "[" ++ FieldType.int.toString = "[I" := by decide +kernel
    rw [← e1]; exact hcI0
  obtain ⟨cZ, -, -, hcZ0, -⟩ := Cond.arrayClass_spec (hts0 (.arrayClass .boolean) (by decide +kernel))
  have hcZ : s.vm.findClass "[Z" = some cZ := by
    have e1 : "[" ++ FieldType.boolean.toString = "[Z" := by decide +kernel
    rw [← e1]; exact hcZ0
  have hnot : ∀ a : Nat, a < s.heap.size → ¬ (fun q : Nat => s.heap.size ≤ q) a := fun a h => Nat.not_le.mpr h
  have hZ : zX (fun q : Nat => s.heap.size ≤ q) s := ⟨vx_Zqof (hts0 (.laysStatic Bundle.tN "UNASSIGNED_STACK" Bundle.steD) (by decide +kernel)) (hts0 (.initialized Bundle.tN) (by decide +kernel)) (hfl (.isRef (.static Bundle.tN "UNASSIGNED_STACK" Bundle.steD)) (by decide +kernel)) hnot, vx_Zqof (hts0 (.laysStatic Bundle.tN "SUPPRESSED_SENTINEL" Bundle.listD) (by decide +kernel)) (hts0 (.initialized Bundle.tN) (by decide +kernel)) (hfl (.isRef (.static Bundle.tN "SUPPRESSED_SENTINEL" Bundle.listD)) (by decide +kernel)) hnot, fun w hw => va_Nw.of (zx_on w hw) (hts0 w (zs_bad w hw)), fun q hq => by
      obtain ⟨a, -, -, -, q1, -⟩ := Cond.exactly_spec (args := #[Value.ref b]) (first := s) (o := none) (s := s) (idx := []) (t := Term.string RX4 q.1) (cls := "java/lang/String") (hfl _ (zs_ex q hq))
      exact ⟨a, vk_R.of (hts0 _ (zs_tab q hq)) q1⟩⟩
  have hY : zY s := va_Nc.of (hfl (.not (.castable "java/lang/IllegalStateException" "java/lang/IllegalArgumentException")) (by decide +kernel))
  have hts := fun w h => hts0 w (wsL_law_in w h)
  have hl := lv_entry ([.ref b]) (n := 20) (Nat.le_of_ble_eq_true rfl)
  rw [lg_entry_eq]
  generalize (lg_sl ([.ref b]) ++ List.replicate (20 - (lg_sl ([.ref b])).length) Slot.unset).toArray = ls at hl ⊢
  have hl : lv_has ls 20 [(0, .ref b)] := hl
  refine va_new (D := D) (ci := 4) (fs := [.null, .null, .null, .null, .null, .null, .int 0]) (C := RX4) (T := TX4) (N := 7) hx hb hts0 inX4 tyX4 tyX4_ok hown (hts0 (.classLink RL 11 RX4) (by decide +kernel)) (hts0 (.instantiable RX4 7) (by decide +kernel)) (hts0 (.initialized RX4) (by decide +kernel)) hK hP hD hS hA rfl (fun j hj => by rcases (show j = 0 ∨ j = 1 ∨ j = 2 ∨ j = 3 ∨ j = 4 ∨ j = 5 ∨ j = 6 by omega) with rfl | rfl | rfl | rfl | rfl | rfl | rfl <;> rfl) (Nat.le_of_ble_eq_true rfl) (Nat.le_of_ble_eq_true rfl) dL_law_0 (fun x0 H hP hD hS => ?_)
  refine W.widen (k := 1) (n := 7) (by omega) (by omega) ?_
  have hP : va_P D vwCl [(x0, .inr (4, [.null, .null, .null, .null, .null, .null, .int 0]))] H := hP
  have hD : va_D (fun q : Nat => s.heap.size ≤ q) [(x0, .inr (4, [.null, .null, .null, .null, .null, .null, .int 0]))] := hD
  refine lv_dup hx hb dL_law_3 rfl ?_
  have hFc := va_free (wc := [(x0, .inr (4, [.null, .null, .null, .null, .null, .null, .int 0]))]) hD hS hA [0] rfl
  have hPc := hP.sub (ws' := [(x0, .inr (4, [.null, .null, .null, .null, .null, .null, .int 0]))]) [0] rfl
  have hDc := hD.sub (ws' := [(x0, .inr (4, [.null, .null, .null, .null, .null, .null, .int 0]))]) [0] (by decide) rfl
  refine va_callv (va_runI (As := []) (rest := [.ref x0]) ⟨hx, hb, hml, hown, hts⟩ (kX4_init l D cI cZ x0 _) (cwI 0 hts gL_law_X4_init rfl rfl rfl (hts0 (.initialized RX4) (by decide +kernel)) (hts0 (.methodLink RL 91 yX4_init) (by decide +kernel)) (hts0 (.instanceMethod yX4_init) (by decide +kernel)) rfl (by decide +kernel) ⟨Nat.le_of_ble_eq_true rfl, Nat.le_of_ble_eq_true rfl⟩) (zC_preS hK hPc hDc hcI hcZ) rfl rfl hl.1 rfl (lv_room (Nat.le_of_ble_eq_true rfl)) dL_law_4 ⟨Nat.le_of_ble_eq_true rfl, Nat.le_of_ble_eq_true rfl⟩) hS (fun q _ h => hFc q h) hFc (fun u t H1 locs ht hvm _ hB hz1 hk1 hS => ?_)
  obtain ⟨q1, q2, q3, q4, q5, q6, q7, q8, q9, q10, q11, q12, q13, q14, q15, q16, q17, q18, hP1, hK1, hD1⟩ := hB
  rw [ht] at hP1
  have hK1 := va_K.moved hvm.symm hK1
  have hKh : va_K D vwCl (tyl cI cZ) s := hK1
  obtain ⟨hP, hD⟩ := va_join (wr := []) (w1 := [(x0, .inr (4, [.ref q1, .ref q6, .ref q12, .ref q13, .ref q17, .ref q18, .int 0])), (q1, .inr (1, [.ref q2, .ref q3, .ref q4, .ref q5])), (q2, .inl (cI, 10, .inl (fun _ => 0))), (q3, .inl (cI, 8, .inl (fun _ => 0))), (q4, .inl (cI, 6, .inl (fun _ => 0))), (q5, .inl (cI, 6, .inl (fun _ => 0))), (q6, .inr (3, [.ref q7, .ref q8, .ref q9, .ref q10, .ref q11, .int 0])), (q7, .inl (cI, 30, .inl (fun _ => 0))), (q8, .inl (cI, 30, .inl (fun _ => 0))), (q9, .inl (cI, 30, .inl (fun _ => 0))), (q10, .inl (cI, 30, .inl (fun _ => 0))), (q11, .inl (cZ, 30, .inl (fun _ => 0))), (q12, .inr (2, [.int 0, .int 0])), (q13, .inr (0, [.ref q15, .ref q16, .ref q14])), (q14, .inl (cI, 240, .inl (fun _ => 0))), (q15, .inl (cI, 4, .inl (fillA (fun _ => 0) 10 4))), (q16, .inl (cI, 240, .inl (fillA (fun _ => 0) (-1) 240))), (q17, .inl (cI, 10, .inl (fun _ => 0))), (q18, .inl (cI, 60, .inl (fun _ => 0)))]) hP hD [0] [] rfl rfl (by decide) (by decide) hk1 hFc hP1 hD1
  generalize H1 = H at hP hS ⊢
  have hP : va_P D vwCl (hW cI cZ (fun k => [x0, q1, q6, q12, q13, q17, q18, q2, q3, q4, q5, q7, q8, q9, q10, q11, q15, q16, q14].getD k 0) S_0 (fun _ => false) (fun _ => 0)) H := hP.sub (ws' := hW cI cZ (fun k => [x0, q1, q6, q12, q13, q17, q18, q2, q3, q4, q5, q7, q8, q9, q10, q11, q15, q16, q14].getD k 0) S_0 (fun _ => false) (fun _ => 0)) [0, 1, 6, 12, 13, 17, 18, 2, 3, 4, 5, 7, 8, 9, 10, 11, 15, 16, 14] rfl
  have hD : va_D (fun q : Nat => s.heap.size ≤ q) (hW cI cZ (fun k => [x0, q1, q6, q12, q13, q17, q18, q2, q3, q4, q5, q7, q8, q9, q10, q11, q15, q16, q14].getD k 0) S_0 (fun _ => false) (fun _ => 0)) := hD.sub (ws' := hW cI cZ (fun k => [x0, q1, q6, q12, q13, q17, q18, q2, q3, q4, q5, q7, q8, q9, q10, q11, q15, q16, q14].getD k 0) S_0 (fun _ => false) (fun _ => 0)) [0, 1, 6, 12, 13, 17, 18, 2, 3, 4, 5, 7, 8, 9, 10, 11, 15, 16, 14] (by decide) rfl
  refine W.widen (k := 19) (n := 756) (by omega) (by omega) ?_
  refine lv_astore_n (lv' := [(1, .ref x0), (0, .ref b)]) hx hb dL_law_7 rfl hl (by decide) rfl (fun ls hl => ?_)
  refine lv_bipush (v := nI 6) hx hb dL_law_8 (by decide) ?_
  refine z_newaI 6 hx hb (hts0 (.arrayClass .int) (by decide +kernel)) hcI hKh hP hD hS hA (by decide) (Nat.le_of_ble_eq_true rfl) (Nat.le_of_ble_eq_true rfl) dL_law_10 (fun y0 H _ hP hD hS => ?_)
  refine W.widen (k := 20) (n := 762) (by omega) (by omega) ?_
  have hP : va_P D vwCl (hW cI cZ (fun k => [x0, q1, q6, q12, q13, q17, q18, q2, q3, q4, q5, q7, q8, q9, q10, q11, q15, q16, q14].getD k 0) S_0 (fun _ => false) (fun _ => 0) ++ [(y0, .inl (cI, 6, .inl (fun _ => 0)))]) H := hP
  have hD : va_D (fun q : Nat => s.heap.size ≤ q) (hW cI cZ (fun k => [x0, q1, q6, q12, q13, q17, q18, q2, q3, q4, q5, q7, q8, q9, q10, q11, q15, q16, q14].getD k 0) S_0 (fun _ => false) (fun _ => 0) ++ [(y0, .inl (cI, 6, .inl (fun _ => 0)))]) := hD
  refine lv_astore_n (lv' := [(2, .ref y0), (1, .ref x0), (0, .ref b)]) hx hb dL_law_12 rfl hl (by decide) rfl (fun ls hl => ?_)
  refine lv_bipush (v := nI 8) hx hb dL_law_13 (by decide) ?_
  refine z_newaI 8 hx hb (hts0 (.arrayClass .int) (by decide +kernel)) hcI hKh hP hD hS hA (by decide) (Nat.le_of_ble_eq_true rfl) (Nat.le_of_ble_eq_true rfl) dL_law_15 (fun y1 H _ hP hD hS => ?_)
  refine W.widen (k := 21) (n := 770) (by omega) (by omega) ?_
  have hP : va_P D vwCl (hW cI cZ (fun k => [x0, q1, q6, q12, q13, q17, q18, q2, q3, q4, q5, q7, q8, q9, q10, q11, q15, q16, q14].getD k 0) S_0 (fun _ => false) (fun _ => 0) ++ [(y0, .inl (cI, 6, .inl (fun _ => 0))), (y1, .inl (cI, 8, .inl (fun _ => 0)))]) H := hP
  have hD : va_D (fun q : Nat => s.heap.size ≤ q) (hW cI cZ (fun k => [x0, q1, q6, q12, q13, q17, q18, q2, q3, q4, q5, q7, q8, q9, q10, q11, q15, q16, q14].getD k 0) S_0 (fun _ => false) (fun _ => 0) ++ [(y0, .inl (cI, 6, .inl (fun _ => 0))), (y1, .inl (cI, 8, .inl (fun _ => 0)))]) := hD
  refine lv_astore_n (lv' := [(3, .ref y1), (2, .ref y0), (1, .ref x0), (0, .ref b)]) hx hb dL_law_17 rfl hl (by decide) rfl (fun ls hl => ?_)
  refine lv_bipush (v := nI 12) hx hb dL_law_18 (by decide) ?_
  refine z_newaI 12 hx hb (hts0 (.arrayClass .int) (by decide +kernel)) hcI hKh hP hD hS hA (by decide) (Nat.le_of_ble_eq_true rfl) (Nat.le_of_ble_eq_true rfl) dL_law_20 (fun y2 H _ hP hD hS => ?_)
  refine W.widen (k := 22) (n := 782) (by omega) (by omega) ?_
  have hP : va_P D vwCl (hW cI cZ (fun k => [x0, q1, q6, q12, q13, q17, q18, q2, q3, q4, q5, q7, q8, q9, q10, q11, q15, q16, q14].getD k 0) S_0 (fun _ => false) (fun _ => 0) ++ [(y0, .inl (cI, 6, .inl (fun _ => 0))), (y1, .inl (cI, 8, .inl (fun _ => 0))), (y2, .inl (cI, 12, .inl (fun _ => 0)))]) H := hP
  have hD : va_D (fun q : Nat => s.heap.size ≤ q) (hW cI cZ (fun k => [x0, q1, q6, q12, q13, q17, q18, q2, q3, q4, q5, q7, q8, q9, q10, q11, q15, q16, q14].getD k 0) S_0 (fun _ => false) (fun _ => 0) ++ [(y0, .inl (cI, 6, .inl (fun _ => 0))), (y1, .inl (cI, 8, .inl (fun _ => 0))), (y2, .inl (cI, 12, .inl (fun _ => 0)))]) := hD
  refine lv_astore (lv' := [(4, .ref y2), (3, .ref y1), (2, .ref y0), (1, .ref x0), (0, .ref b)]) hx hb dL_law_22 hl (by decide) rfl (fun ls hl => ?_)
  refine lv_iconst (v := nI 5) hx hb dL_law_24 rfl ?_
  refine z_newaI 5 hx hb (hts0 (.arrayClass .int) (by decide +kernel)) hcI hKh hP hD hS hA (by decide) (Nat.le_of_ble_eq_true rfl) (Nat.le_of_ble_eq_true rfl) dL_law_25 (fun y3 H _ hP hD hS => ?_)
  refine W.widen (k := 23) (n := 787) (by omega) (by omega) ?_
  have hP : va_P D vwCl (hW cI cZ (fun k => [x0, q1, q6, q12, q13, q17, q18, q2, q3, q4, q5, q7, q8, q9, q10, q11, q15, q16, q14].getD k 0) S_0 (fun _ => false) (fun _ => 0) ++ [(y0, .inl (cI, 6, .inl (fun _ => 0))), (y1, .inl (cI, 8, .inl (fun _ => 0))), (y2, .inl (cI, 12, .inl (fun _ => 0))), (y3, .inl (cI, 5, .inl (fun _ => 0)))]) H := hP
  have hD : va_D (fun q : Nat => s.heap.size ≤ q) (hW cI cZ (fun k => [x0, q1, q6, q12, q13, q17, q18, q2, q3, q4, q5, q7, q8, q9, q10, q11, q15, q16, q14].getD k 0) S_0 (fun _ => false) (fun _ => 0) ++ [(y0, .inl (cI, 6, .inl (fun _ => 0))), (y1, .inl (cI, 8, .inl (fun _ => 0))), (y2, .inl (cI, 12, .inl (fun _ => 0))), (y3, .inl (cI, 5, .inl (fun _ => 0)))]) := hD
  refine lv_astore (lv' := [(5, .ref y3), (4, .ref y2), (3, .ref y1), (2, .ref y0), (1, .ref x0), (0, .ref b)]) hx hb dL_law_27 hl (by decide) rfl (fun ls hl => ?_)
  refine lv_bipush (v := nI 15) hx hb dL_law_29 (by decide) ?_
  refine z_newaI 15 hx hb (hts0 (.arrayClass .int) (by decide +kernel)) hcI hKh hP hD hS hA (by decide) (Nat.le_of_ble_eq_true rfl) (Nat.le_of_ble_eq_true rfl) dL_law_31 (fun y4 H _ hP hD hS => ?_)
  refine W.widen (k := 24) (n := 802) (by omega) (by omega) ?_
  have hP : va_P D vwCl (hW cI cZ (fun k => [x0, q1, q6, q12, q13, q17, q18, q2, q3, q4, q5, q7, q8, q9, q10, q11, q15, q16, q14].getD k 0) S_0 (fun _ => false) (fun _ => 0) ++ [(y0, .inl (cI, 6, .inl (fun _ => 0))), (y1, .inl (cI, 8, .inl (fun _ => 0))), (y2, .inl (cI, 12, .inl (fun _ => 0))), (y3, .inl (cI, 5, .inl (fun _ => 0))), (y4, .inl (cI, 15, .inl (fun _ => 0)))]) H := hP
  have hD : va_D (fun q : Nat => s.heap.size ≤ q) (hW cI cZ (fun k => [x0, q1, q6, q12, q13, q17, q18, q2, q3, q4, q5, q7, q8, q9, q10, q11, q15, q16, q14].getD k 0) S_0 (fun _ => false) (fun _ => 0) ++ [(y0, .inl (cI, 6, .inl (fun _ => 0))), (y1, .inl (cI, 8, .inl (fun _ => 0))), (y2, .inl (cI, 12, .inl (fun _ => 0))), (y3, .inl (cI, 5, .inl (fun _ => 0))), (y4, .inl (cI, 15, .inl (fun _ => 0)))]) := hD
  refine lv_astore (lv' := [(6, .ref y4), (5, .ref y3), (4, .ref y2), (3, .ref y1), (2, .ref y0), (1, .ref x0), (0, .ref b)]) hx hb dL_law_33 hl (by decide) rfl (fun ls hl => ?_)
  refine lv_bipush (v := nI 60) hx hb dL_law_35 (by decide) ?_
  refine z_newaI 60 hx hb (hts0 (.arrayClass .int) (by decide +kernel)) hcI hKh hP hD hS hA (by decide) (Nat.le_of_ble_eq_true rfl) (Nat.le_of_ble_eq_true rfl) dL_law_37 (fun y5 H _ hP hD hS => ?_)
  refine W.widen (k := 25) (n := 862) (by omega) (by omega) ?_
  have hP : va_P D vwCl (hW cI cZ (fun k => [x0, q1, q6, q12, q13, q17, q18, q2, q3, q4, q5, q7, q8, q9, q10, q11, q15, q16, q14].getD k 0) S_0 (fun _ => false) (fun _ => 0) ++ [(y0, .inl (cI, 6, .inl (fun _ => 0))), (y1, .inl (cI, 8, .inl (fun _ => 0))), (y2, .inl (cI, 12, .inl (fun _ => 0))), (y3, .inl (cI, 5, .inl (fun _ => 0))), (y4, .inl (cI, 15, .inl (fun _ => 0))), (y5, .inl (cI, 60, .inl (fun _ => 0)))]) H := hP
  have hD : va_D (fun q : Nat => s.heap.size ≤ q) (hW cI cZ (fun k => [x0, q1, q6, q12, q13, q17, q18, q2, q3, q4, q5, q7, q8, q9, q10, q11, q15, q16, q14].getD k 0) S_0 (fun _ => false) (fun _ => 0) ++ [(y0, .inl (cI, 6, .inl (fun _ => 0))), (y1, .inl (cI, 8, .inl (fun _ => 0))), (y2, .inl (cI, 12, .inl (fun _ => 0))), (y3, .inl (cI, 5, .inl (fun _ => 0))), (y4, .inl (cI, 15, .inl (fun _ => 0))), (y5, .inl (cI, 60, .inl (fun _ => 0)))]) := hD
  refine lv_astore (lv' := [(7, .ref y5), (6, .ref y4), (5, .ref y3), (4, .ref y2), (3, .ref y1), (2, .ref y0), (1, .ref x0), (0, .ref b)]) hx hb dL_law_39 hl (by decide) rfl (fun ls hl => ?_)
  refine lv_bipush (v := nI 30) hx hb dL_law_41 (by decide) ?_
  refine z_newaI 30 hx hb (hts0 (.arrayClass .int) (by decide +kernel)) hcI hKh hP hD hS hA (by decide) (Nat.le_of_ble_eq_true rfl) (Nat.le_of_ble_eq_true rfl) dL_law_43 (fun y6 H _ hP hD hS => ?_)
  refine W.widen (k := 26) (n := 892) (by omega) (by omega) ?_
  have hP : va_P D vwCl (hW cI cZ (fun k => [x0, q1, q6, q12, q13, q17, q18, q2, q3, q4, q5, q7, q8, q9, q10, q11, q15, q16, q14].getD k 0) S_0 (fun _ => false) (fun _ => 0) ++ [(y0, .inl (cI, 6, .inl (fun _ => 0))), (y1, .inl (cI, 8, .inl (fun _ => 0))), (y2, .inl (cI, 12, .inl (fun _ => 0))), (y3, .inl (cI, 5, .inl (fun _ => 0))), (y4, .inl (cI, 15, .inl (fun _ => 0))), (y5, .inl (cI, 60, .inl (fun _ => 0))), (y6, .inl (cI, 30, .inl (fun _ => 0)))]) H := hP
  have hD : va_D (fun q : Nat => s.heap.size ≤ q) (hW cI cZ (fun k => [x0, q1, q6, q12, q13, q17, q18, q2, q3, q4, q5, q7, q8, q9, q10, q11, q15, q16, q14].getD k 0) S_0 (fun _ => false) (fun _ => 0) ++ [(y0, .inl (cI, 6, .inl (fun _ => 0))), (y1, .inl (cI, 8, .inl (fun _ => 0))), (y2, .inl (cI, 12, .inl (fun _ => 0))), (y3, .inl (cI, 5, .inl (fun _ => 0))), (y4, .inl (cI, 15, .inl (fun _ => 0))), (y5, .inl (cI, 60, .inl (fun _ => 0))), (y6, .inl (cI, 30, .inl (fun _ => 0)))]) := hD
  refine lv_astore (lv' := [(8, .ref y6), (7, .ref y5), (6, .ref y4), (5, .ref y3), (4, .ref y2), (3, .ref y1), (2, .ref y0), (1, .ref x0), (0, .ref b)]) hx hb dL_law_45 hl (by decide) rfl (fun ls hl => ?_)
  refine lv_bipush (v := nI 30) hx hb dL_law_47 (by decide) ?_
  refine z_newaI 30 hx hb (hts0 (.arrayClass .int) (by decide +kernel)) hcI hKh hP hD hS hA (by decide) (Nat.le_of_ble_eq_true rfl) (Nat.le_of_ble_eq_true rfl) dL_law_49 (fun y7 H _ hP hD hS => ?_)
  refine W.widen (k := 27) (n := 922) (by omega) (by omega) ?_
  have hP : va_P D vwCl (hW cI cZ (fun k => [x0, q1, q6, q12, q13, q17, q18, q2, q3, q4, q5, q7, q8, q9, q10, q11, q15, q16, q14].getD k 0) S_0 (fun _ => false) (fun _ => 0) ++ [(y0, .inl (cI, 6, .inl (fun _ => 0))), (y1, .inl (cI, 8, .inl (fun _ => 0))), (y2, .inl (cI, 12, .inl (fun _ => 0))), (y3, .inl (cI, 5, .inl (fun _ => 0))), (y4, .inl (cI, 15, .inl (fun _ => 0))), (y5, .inl (cI, 60, .inl (fun _ => 0))), (y6, .inl (cI, 30, .inl (fun _ => 0))), (y7, .inl (cI, 30, .inl (fun _ => 0)))]) H := hP
  have hD : va_D (fun q : Nat => s.heap.size ≤ q) (hW cI cZ (fun k => [x0, q1, q6, q12, q13, q17, q18, q2, q3, q4, q5, q7, q8, q9, q10, q11, q15, q16, q14].getD k 0) S_0 (fun _ => false) (fun _ => 0) ++ [(y0, .inl (cI, 6, .inl (fun _ => 0))), (y1, .inl (cI, 8, .inl (fun _ => 0))), (y2, .inl (cI, 12, .inl (fun _ => 0))), (y3, .inl (cI, 5, .inl (fun _ => 0))), (y4, .inl (cI, 15, .inl (fun _ => 0))), (y5, .inl (cI, 60, .inl (fun _ => 0))), (y6, .inl (cI, 30, .inl (fun _ => 0))), (y7, .inl (cI, 30, .inl (fun _ => 0)))]) := hD
  refine lv_astore (lv' := [(9, .ref y7), (8, .ref y6), (7, .ref y5), (6, .ref y4), (5, .ref y3), (4, .ref y2), (3, .ref y1), (2, .ref y0), (1, .ref x0), (0, .ref b)]) hx hb dL_law_51 hl (by decide) rfl (fun ls hl => ?_)
  refine lv_aload_n hx hb dL_law_53 rfl (lv_at hl 7 rfl) ?_
  refine lv_iconst (v := nI 4) hx hb dL_law_54 rfl ?_
  refine lv_bipush (v := 10) hx hb dL_law_55 (by decide) ?_
  refine z_iast (D := D) (j := 4) (f := (fun _ => 0)) hx hb hKh hP hD hS 19 0 rfl rfl (by decide) (by decide) dL_law_57 (fun H locs hP hD hS => ?_)
  have hP : va_P D vwCl (hW cI cZ (fun k => [x0, q1, q6, q12, q13, q17, q18, q2, q3, q4, q5, q7, q8, q9, q10, q11, q15, q16, q14].getD k 0) S_0 (fun _ => false) (fun _ => 0) ++ [(y0, .inl (cI, 6, .inl (upd (fun _ => 0) 4 10))), (y1, .inl (cI, 8, .inl (fun _ => 0))), (y2, .inl (cI, 12, .inl (fun _ => 0))), (y3, .inl (cI, 5, .inl (fun _ => 0))), (y4, .inl (cI, 15, .inl (fun _ => 0))), (y5, .inl (cI, 60, .inl (fun _ => 0))), (y6, .inl (cI, 30, .inl (fun _ => 0))), (y7, .inl (cI, 30, .inl (fun _ => 0)))]) H := hP
  have hD : va_D (fun q : Nat => s.heap.size ≤ q) (hW cI cZ (fun k => [x0, q1, q6, q12, q13, q17, q18, q2, q3, q4, q5, q7, q8, q9, q10, q11, q15, q16, q14].getD k 0) S_0 (fun _ => false) (fun _ => 0) ++ [(y0, .inl (cI, 6, .inl (upd (fun _ => 0) 4 10))), (y1, .inl (cI, 8, .inl (fun _ => 0))), (y2, .inl (cI, 12, .inl (fun _ => 0))), (y3, .inl (cI, 5, .inl (fun _ => 0))), (y4, .inl (cI, 15, .inl (fun _ => 0))), (y5, .inl (cI, 60, .inl (fun _ => 0))), (y6, .inl (cI, 30, .inl (fun _ => 0))), (y7, .inl (cI, 30, .inl (fun _ => 0)))]) := hD
  refine lv_aload_n hx hb dL_law_58 rfl (lv_at hl 7 rfl) ?_
  refine lv_iconst (v := nI 5) hx hb dL_law_59 rfl ?_
  refine lv_bipush (v := 10) hx hb dL_law_60 (by decide) ?_
  refine z_iast (D := D) (j := 5) (f := (upd (fun _ => 0) 4 10)) hx hb hKh hP hD hS 19 0 rfl rfl (by decide) (by decide) dL_law_62 (fun H locs hP hD hS => ?_)
  have hP : va_P D vwCl (hW cI cZ (fun k => [x0, q1, q6, q12, q13, q17, q18, q2, q3, q4, q5, q7, q8, q9, q10, q11, q15, q16, q14].getD k 0) S_0 (fun _ => false) (fun _ => 0) ++ [(y0, .inl (cI, 6, .inl (upd (upd (fun _ => 0) 4 10) 5 10))), (y1, .inl (cI, 8, .inl (fun _ => 0))), (y2, .inl (cI, 12, .inl (fun _ => 0))), (y3, .inl (cI, 5, .inl (fun _ => 0))), (y4, .inl (cI, 15, .inl (fun _ => 0))), (y5, .inl (cI, 60, .inl (fun _ => 0))), (y6, .inl (cI, 30, .inl (fun _ => 0))), (y7, .inl (cI, 30, .inl (fun _ => 0)))]) H := hP
  have hD : va_D (fun q : Nat => s.heap.size ≤ q) (hW cI cZ (fun k => [x0, q1, q6, q12, q13, q17, q18, q2, q3, q4, q5, q7, q8, q9, q10, q11, q15, q16, q14].getD k 0) S_0 (fun _ => false) (fun _ => 0) ++ [(y0, .inl (cI, 6, .inl (upd (upd (fun _ => 0) 4 10) 5 10))), (y1, .inl (cI, 8, .inl (fun _ => 0))), (y2, .inl (cI, 12, .inl (fun _ => 0))), (y3, .inl (cI, 5, .inl (fun _ => 0))), (y4, .inl (cI, 15, .inl (fun _ => 0))), (y5, .inl (cI, 60, .inl (fun _ => 0))), (y6, .inl (cI, 30, .inl (fun _ => 0))), (y7, .inl (cI, 30, .inl (fun _ => 0)))]) := hD
  refine lv_iconst (v := nI 0) hx hb dL_law_63 rfl ?_
  refine lv_istore (lv' := [(10, .int (nI 0)), (9, .ref y7), (8, .ref y6), (7, .ref y5), (6, .ref y4), (5, .ref y3), (4, .ref y2), (3, .ref y1), (2, .ref y0), (1, .ref x0), (0, .ref b)]) hx hb dL_law_64 hl (by decide) rfl (fun ls hl => ?_)
  have hP : va_P D vwCl (lW cI cZ (fun k => [x0, q1, q6, q12, q13, q17, q18, q2, q3, q4, q5, q7, q8, q9, q10, q11, q15, q16, q14, y0, y1, y2, y3, y4, y5, y6, y7].getD k 0) S_0 (fun _ => false) (fun _ => 0) T_0) H := hP.sub (ws' := lW cI cZ (fun k => [x0, q1, q6, q12, q13, q17, q18, q2, q3, q4, q5, q7, q8, q9, q10, q11, q15, q16, q14, y0, y1, y2, y3, y4, y5, y6, y7].getD k 0) S_0 (fun _ => false) (fun _ => 0) T_0) [0, 1, 2, 3, 4, 5, 6, 7, 8, 9, 10, 11, 12, 13, 14, 15, 16, 17, 18, 19, 20, 21, 22, 23, 24, 25, 26] rfl
  have hD : va_D (fun q : Nat => s.heap.size ≤ q) (lW cI cZ (fun k => [x0, q1, q6, q12, q13, q17, q18, q2, q3, q4, q5, q7, q8, q9, q10, q11, q15, q16, q14, y0, y1, y2, y3, y4, y5, y6, y7].getD k 0) S_0 (fun _ => false) (fun _ => 0) T_0) := hD.sub (ws' := lW cI cZ (fun k => [x0, q1, q6, q12, q13, q17, q18, q2, q3, q4, q5, q7, q8, q9, q10, q11, q15, q16, q14, y0, y1, y2, y3, y4, y5, y6, y7].getD k 0) S_0 (fun _ => false) (fun _ => 0) T_0) [0, 1, 2, 3, 4, 5, 6, 7, 8, 9, 10, 11, 12, 13, 14, 15, 16, 17, 18, 19, 20, 21, 22, 23, 24, 25, 26] (by decide) rfl
  exact law_loop (X := (fun k => [x0, q1, q6, q12, q13, q17, q18, q2, q3, q4, q5, q7, q8, q9, q10, q11, q15, q16, q14, y0, y1, y2, y3, y4, y5, y6, y7].getD k 0)) hl0 hL C0 hKh hZ hY 110 0 rfl 27 922 (by decide) (by decide) _ _ _ _ H _ ls Rel_start hP hD hS (lv_sub hl [10, 9, 8, 7, 6, 5, 4, 3, 2, 1, 0] rfl)
