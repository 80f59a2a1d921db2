def S_0 : Nat → Nat → Int32 := fun k => if k = 16 then fillA (fun _ => 0) 10 4 else if k = 17 then fillA (fun _ => 0) (-1) 240 else fun _ => 0
def T_0 : Nat → Nat → Int32 := fun k => if k = 11 then fillA (fun _ => 0) 10 4 else if k = 12 then fillA (fun _ => 0) (-1) 240 else fun _ => 0
theorem zs_tab : ∀ q ∈ zStr, Cond.stringRef RX4 q.1 q.2 ∈ lw_tbl := by decide +kernel
theorem zs_ex : ∀ q ∈ zStr, Cond.exactly (Term.string RX4 q.1) "java/lang/String" ∈ flatC (Cond.and given_1 narrow_1) := by decide +kernel
theorem zs_bad : ∀ w ∈ zBad, w ∈ lw_tbl := by decide +kernel
set_option maxHeartbeats 4000000 in
set_option maxRecDepth 100000 in
theorem whole_start {p : Program} {e : Env} {s : State} {m : MethodId} {below : List Frame} {meth : Method} {c : Code} (l : Launch) (hflags : l.flags = flags0) {b L : Nat} {xs : Nat → Int32} (hL : L ≤ 2560) (C0 : lw_At p s m meth c b L xs) : W p l e room_1 s m #[Value.ref b] below meth c s.heap [] 0 0 (lw_Z below #[Value.ref b] s) (entryFrame m ([Value.ref b] : List Value).toArray 7) := by
  have hl0 : l.stackTraces = false := by unfold Launch.stackTraces; rw [hflags]; decide
  obtain ⟨hx, hb, hr, hml, hown, hts0, hX, hbl, hlocks, hgv⟩ := id C0
  have hA : ∀ q : Nat, s.heap.size ≤ q → (fun q : Nat => s.heap.size ≤ q) q := fun _ h => h
  have hbA : ¬ (fun q : Nat => s.heap.size ≤ q) b := Nat.not_le.mpr hbl
  have hfl := flat_of_before _ hgv
  obtain ⟨c0, iS0, hKn0⟩ := u_known (C := RX0) (T := TX0) (N := 3) (n := 3) hts0 inX0 (hts0 (.instantiable RX0 3) (by decide +kernel))
  obtain ⟨c1, iS1, hKn1⟩ := u_known (C := RX1) (T := TX1) (N := 4) (n := 4) hts0 inX1 (hts0 (.instantiable RX1 4) (by decide +kernel))
  obtain ⟨c2, iS2, hKn2⟩ := u_known (C := RX2) (T := TX2) (N := 2) (n := 2) hts0 inX2 (hts0 (.instantiable RX2 2) (by decide +kernel))
  obtain ⟨c3, iS3, hKn3⟩ := u_known (C := RX3) (T := TX3) (N := 6) (n := 6) hts0 inX3 (hts0 (.instantiable RX3 6) (by decide +kernel))
  obtain ⟨c4, iS4, hKn4⟩ := u_known (C := RX4) (T := TX4) (N := 7) (n := 7) hts0 inX4 (hts0 (.instantiable RX4 7) (by decide +kernel))
  obtain ⟨c5, iS5, hKn5⟩ := u_known (C := RX5) (T := TX5) (N := 17) (n := 17) hts0 inX5 (hts0 (.instantiable RX5 17) (by decide +kernel))
  obtain ⟨D, hKc⟩ : ∃ D : va_G, ∀ (k : Nat) (q : vw_C), vwCl[k]? = some q → u_Kn s q.1 q.2.1 q.2.2 (D.1 k) (D.2 k) := by
    refine ⟨(fun k => if k = 0 then c0 else if k = 1 then c1 else if k = 2 then c2 else if k = 3 then c3 else if k = 4 then c4 else c5, fun k => if k = 0 then iS0 else if k = 1 then iS1 else if k = 2 then iS2 else if k = 3 then iS3 else if k = 4 then iS4 else iS5), ?_⟩
    intro k q hq
    match k, hq with
    | 0, hq => cases hq; exact hKn0
    | 1, hq => cases hq; exact hKn1
    | 2, hq => cases hq; exact hKn2
    | 3, hq => cases hq; exact hKn3
    | 4, hq => cases hq; exact hKn4
    | 5, hq => cases hq; exact hKn5
    | k + 6, hq => simp [vwCl] at hq
  have hK : va_K D vwCl [] s := ⟨hKc, fun k q h => by simp at h⟩
  have hS : va_S (fun q : Nat => s.heap.size ≤ q) s.heap s.heap [] := va_S.rf
  have hP : va_P D vwCl [] s.heap := fun k q h => by simp at h
  have hD : va_D (fun q : Nat => s.heap.size ≤ q) [] := ⟨fun i j p q h => by simp at h, fun k q h => by simp at h⟩
  obtain ⟨cI, -, -, hcI0, -⟩ := Cond.arrayClass_spec (hts0 (.arrayClass .int) (by decide +kernel))
  have hcI : s.vm.findClass "[I" = some cI := by
    have e1 : "[" ++ FieldType.int.toString = "[I" := by decide +kernel
    rw [← e1]; exact hcI0
  obtain ⟨cZ, -, -, hcZ0, -⟩ := Cond.arrayClass_spec (hts0 (.arrayClass .boolean) (by decide +kernel))
  have hcZ : s.vm.findClass "[Z" = some cZ := by
    have e1 : "[" ++ FieldType.boolean.toString = "[Z" := by decide +kernel
    rw [← e1]; exact hcZ0
  have hnot : ∀ a : Nat, a < s.heap.size → ¬ (fun q : Nat => s.heap.size ≤ q) a := fun a h => Nat.not_le.mpr h
  have hZ : zX (fun q : Nat => s.heap.size ≤ q) s := ⟨vx_Zqof (hts0 (.laysStatic Bundle.tN "UNASSIGNED_STACK" Bundle.steD) (by decide +kernel)) (hts0 (.initialized Bundle.tN) (by decide +kernel)) (hfl (.isRef (.static Bundle.tN "UNASSIGNED_STACK" Bundle.steD)) (by decide +kernel)) hnot, vx_Zqof (hts0 (.laysStatic Bundle.tN "SUPPRESSED_SENTINEL" Bundle.listD) (by decide +kernel)) (hts0 (.initialized Bundle.tN) (by decide +kernel)) (hfl (.isRef (.static Bundle.tN "SUPPRESSED_SENTINEL" Bundle.listD)) (by decide +kernel)) hnot, fun w hw => va_Nw.of (zx_on w hw) (hts0 w (zs_bad w hw)), fun q hq => by
      obtain ⟨a, -, -, -, q1, -⟩ := Cond.exactly_spec (args := #[Value.ref b]) (first := s) (o := none) (s := s) (idx := []) (t := Term.string RX4 q.1) (cls := "java/lang/String") (hfl _ (zs_ex q hq))
      exact ⟨a, vk_R.of (hts0 _ (zs_tab q hq)) q1⟩⟩
  have hY : zY s := ⟨va_Nc.of (hfl (.not (.castable "java/lang/IllegalStateException" "java/lang/IllegalArgumentException")) (by decide +kernel)), va_Nc.of (hfl (.not (.castable "java/lang/IndexOutOfBoundsException" "java/lang/IllegalArgumentException")) (by decide +kernel)), va_Nc.of (hfl (.not (.castable "java/lang/IllegalStateException" "java/lang/IndexOutOfBoundsException")) (by decide +kernel))⟩
  have hts := fun w h => hts0 w (wsL_law_in w h)
  have hl := lv_entry ([.ref b]) (n := 7) (Nat.le_of_ble_eq_true rfl)
  rw [lg_entry_eq]
  generalize (lg_sl ([.ref b]) ++ List.replicate (7 - (lg_sl ([.ref b])).length) Slot.unset).toArray = ls at hl ⊢
  have hl : lv_has ls 7 [(0, .ref b)] := hl
  refine va_new (D := D) (ci := 4) (fs := [.null, .null, .null, .null, .null, .null, .int 0]) (C := RX4) (T := TX4) (N := 7) hx hb hts0 inX4 tyX4 tyX4_ok hown (hts0 (.classLink RL 8 RX4) (by decide +kernel)) (hts0 (.instantiable RX4 7) (by decide +kernel)) (hts0 (.initialized RX4) (by decide +kernel)) hK hP hD hS hA rfl (fun j hj => by rcases (show j = 0 ∨ j = 1 ∨ j = 2 ∨ j = 3 ∨ j = 4 ∨ j = 5 ∨ j = 6 by omega) with rfl | rfl | rfl | rfl | rfl | rfl | rfl <;> rfl) (Nat.le_of_ble_eq_true rfl) (Nat.le_of_ble_eq_true rfl) dL_law_0 (fun x0 H hP hD hS => ?_)
  refine W.widen (k := 1) (n := 7) (by omega) (by omega) ?_
  have hP : va_P D vwCl [(x0, .inr (4, [.null, .null, .null, .null, .null, .null, .int 0]))] H := hP
  have hD : va_D (fun q : Nat => s.heap.size ≤ q) [(x0, .inr (4, [.null, .null, .null, .null, .null, .null, .int 0]))] := hD
  refine lv_dup hx hb dL_law_3 rfl ?_
  have hFc := va_free (wc := [(x0, .inr (4, [.null, .null, .null, .null, .null, .null, .int 0]))]) hD hS hA [0] rfl
  have hPc := hP.sub (ws' := [(x0, .inr (4, [.null, .null, .null, .null, .null, .null, .int 0]))]) [0] rfl
  have hDc := hD.sub (ws' := [(x0, .inr (4, [.null, .null, .null, .null, .null, .null, .int 0]))]) [0] (by decide) rfl
  refine va_callv (va_runI (As := []) (rest := [.ref x0]) ⟨hx, hb, hml, hown, hts⟩ (kX4_init l D cI cZ x0 _) (cwI 0 hts gL_law_X4_init rfl rfl rfl (hts0 (.initialized RX4) (by decide +kernel)) (hts0 (.methodLink RL 73 yX4_init) (by decide +kernel)) (hts0 (.instanceMethod yX4_init) (by decide +kernel)) rfl (by decide +kernel) ⟨Nat.le_of_ble_eq_true rfl, Nat.le_of_ble_eq_true rfl⟩) (zC_preS hK hPc hDc hcI hcZ) rfl rfl hl.1 rfl (lv_room (Nat.le_of_ble_eq_true rfl)) dL_law_4 ⟨Nat.le_of_ble_eq_true rfl, Nat.le_of_ble_eq_true rfl⟩) hS (fun q _ h => hFc q h) hFc (fun u t H1 locs ht hvm _ hB hz1 hk1 hS => ?_)
  obtain ⟨q1, q2, q3, q4, q5, q6, q7, q8, q9, q10, q11, q12, q13, q14, q15, q16, q17, q18, hP1, hK1, hD1⟩ := hB
  rw [ht] at hP1
  have hK1 := va_K.moved hvm.symm hK1
  have hKh : va_K D vwCl (tyl cI cZ) s := hK1
  obtain ⟨hP, hD⟩ := va_join (wr := []) (w1 := [(x0, .inr (4, [.ref q1, .ref q6, .ref q12, .ref q13, .ref q17, .ref q18, .int 0])), (q1, .inr (1, [.ref q2, .ref q3, .ref q4, .ref q5])), (q2, .inl (cI, 10, .inl (fun _ => 0))), (q3, .inl (cI, 8, .inl (fun _ => 0))), (q4, .inl (cI, 6, .inl (fun _ => 0))), (q5, .inl (cI, 6, .inl (fun _ => 0))), (q6, .inr (3, [.ref q7, .ref q8, .ref q9, .ref q10, .ref q11, .int 0])), (q7, .inl (cI, 30, .inl (fun _ => 0))), (q8, .inl (cI, 30, .inl (fun _ => 0))), (q9, .inl (cI, 30, .inl (fun _ => 0))), (q10, .inl (cI, 30, .inl (fun _ => 0))), (q11, .inl (cZ, 30, .inl (fun _ => 0))), (q12, .inr (2, [.int 0, .int 0])), (q13, .inr (0, [.ref q15, .ref q16, .ref q14])), (q14, .inl (cI, 240, .inl (fun _ => 0))), (q15, .inl (cI, 4, .inl (fillA (fun _ => 0) 10 4))), (q16, .inl (cI, 240, .inl (fillA (fun _ => 0) (-1) 240))), (q17, .inl (cI, 10, .inl (fun _ => 0))), (q18, .inl (cI, 60, .inl (fun _ => 0)))]) hP hD [0] [] rfl rfl (by decide) (by decide) hk1 hFc hP1 hD1
  generalize H1 = H at hP hS ⊢
  have hP : va_P D vwCl (hW cI cZ (fun k => [x0, q1, q6, q12, q13, q17, q18, q2, q3, q4, q5, q7, q8, q9, q10, q11, q15, q16, q14].getD k 0) S_0 (fun _ => false) (fun _ => 0)) H := hP.sub (ws' := hW cI cZ (fun k => [x0, q1, q6, q12, q13, q17, q18, q2, q3, q4, q5, q7, q8, q9, q10, q11, q15, q16, q14].getD k 0) S_0 (fun _ => false) (fun _ => 0)) [0, 1, 6, 12, 13, 17, 18, 2, 3, 4, 5, 7, 8, 9, 10, 11, 15, 16, 14] rfl
  have hD : va_D (fun q : Nat => s.heap.size ≤ q) (hW cI cZ (fun k => [x0, q1, q6, q12, q13, q17, q18, q2, q3, q4, q5, q7, q8, q9, q10, q11, q15, q16, q14].getD k 0) S_0 (fun _ => false) (fun _ => 0)) := hD.sub (ws' := hW cI cZ (fun k => [x0, q1, q6, q12, q13, q17, q18, q2, q3, q4, q5, q7, q8, q9, q10, q11, q15, q16, q14].getD k 0) S_0 (fun _ => false) (fun _ => 0)) [0, 1, 6, 12, 13, 17, 18, 2, 3, 4, 5, 7, 8, 9, 10, 11, 15, 16, 14] (by decide) rfl
  obtain ⟨X, hXe⟩ : ∃ z : Nat → Nat, z = (fun k => [x0, q1, q6, q12, q13, q17, q18, q2, q3, q4, q5, q7, q8, q9, q10, q11, q15, q16, q14].getD k 0) := ⟨_, rfl⟩
  have hx0 : x0 = X 0 := by rw [hXe]; rfl
  rw [← hXe] at hP hD
  refine W.widen (k := 19) (n := 756) (by omega) (by omega) ?_
  refine lv_astore_n (lv' := [(1, .ref x0), (0, .ref b)]) hx hb dL_law_7 rfl hl (by decide) rfl (fun ls hl => ?_)
  refine va_new (D := D) (ci := 5) (fs := [.int 0, .int 0, .null, .null, .null, .null, .null, .int 0, .null, .null, .null, .null, .null, .int 0, .int 0, .null, .null]) (C := RX5) (T := TX5) (N := 17) hx hb hts0 inX5 tyX5 tyX5_ok hown (hts0 (.classLink RL 74 RX5) (by decide +kernel)) (hts0 (.instantiable RX5 17) (by decide +kernel)) (hts0 (.initialized RX5) (by decide +kernel)) hK hP hD hS hA rfl (fun j hj => by rcases (show j = 0 ∨ j = 1 ∨ j = 2 ∨ j = 3 ∨ j = 4 ∨ j = 5 ∨ j = 6 ∨ j = 7 ∨ j = 8 ∨ j = 9 ∨ j = 10 ∨ j = 11 ∨ j = 12 ∨ j = 13 ∨ j = 14 ∨ j = 15 ∨ j = 16 by omega) with rfl | rfl | rfl | rfl | rfl | rfl | rfl | rfl | rfl | rfl | rfl | rfl | rfl | rfl | rfl | rfl | rfl <;> rfl) (Nat.le_of_ble_eq_true rfl) (Nat.le_of_ble_eq_true rfl) dL_law_8 (fun y0 H hP hD hS => ?_)
  refine W.widen (k := 20) (n := 773) (by omega) (by omega) ?_
  have hP : va_P D vwCl (hW cI cZ X S_0 (fun _ => false) (fun _ => 0) ++ [(y0, .inr (5, [.int 0, .int 0, .null, .null, .null, .null, .null, .int 0, .null, .null, .null, .null, .null, .int 0, .int 0, .null, .null]))]) H := hP
  have hD : va_D (fun q : Nat => s.heap.size ≤ q) (hW cI cZ X S_0 (fun _ => false) (fun _ => 0) ++ [(y0, .inr (5, [.int 0, .int 0, .null, .null, .null, .null, .null, .int 0, .null, .null, .null, .null, .null, .int 0, .int 0, .null, .null]))]) := hD
  refine lv_dup hx hb dL_law_11 rfl ?_
  have hFc := va_free (wc := [(y0, .inr (5, [.int 0, .int 0, .null, .null, .null, .null, .null, .int 0, .null, .null, .null, .null, .null, .int 0, .int 0, .null, .null]))]) hD hS hA [19] rfl
  have hPc := hP.sub (ws' := [(y0, .inr (5, [.int 0, .int 0, .null, .null, .null, .null, .null, .int 0, .null, .null, .null, .null, .null, .int 0, .int 0, .null, .null]))]) [19] rfl
  have hDc := hD.sub (ws' := [(y0, .inr (5, [.int 0, .int 0, .null, .null, .null, .null, .null, .int 0, .null, .null, .null, .null, .null, .int 0, .int 0, .null, .null]))]) [19] (by decide) rfl
  refine va_callv (va_runI (As := []) (rest := [.ref y0]) ⟨hx, hb, hml, hown, hts⟩ (kX5_init l D cI cZ y0 _) (cwI 0 hts gL_law_X5_init rfl rfl rfl (hts0 (.initialized RX5) (by decide +kernel)) (hts0 (.methodLink RL 76 yX5_init) (by decide +kernel)) (hts0 (.instanceMethod yX5_init) (by decide +kernel)) rfl (by decide +kernel) ⟨Nat.le_of_ble_eq_true rfl, Nat.le_of_ble_eq_true rfl⟩) (zC_preS hK hPc hDc hcI hcZ) rfl rfl hl.1 rfl (lv_room (Nat.le_of_ble_eq_true rfl)) dL_law_12 ⟨Nat.le_of_ble_eq_true rfl, Nat.le_of_ble_eq_true rfl⟩) hS (fun q _ h => hFc q h) hFc (fun u t H1 locs ht hvm _ hB hz1 hk1 hS => ?_)
  obtain ⟨r1, r2, r3, r4, r5, r6, r7, r8, r9, r10, r11, r12, hP1, hK1, hD1⟩ := hB
  rw [ht] at hP1
  have hK1 := va_K.moved hvm.symm hK1
  obtain ⟨hP, hD⟩ := va_join (wr := hW cI cZ X S_0 (fun _ => false) (fun _ => 0)) (w1 := [(y0, .inr (5, [.int 0, .int 0, .ref r1, .ref r2, .ref r3, .ref r4, .ref r5, .int 0, .ref r6, .ref r7, .ref r8, .ref r9, .ref r10, .int 0, .int 0, .ref r11, .ref r12])), (r1, .inl (cI, 8, .inl (fun _ => 0))), (r2, .inl (cI, 8, .inl (fun _ => 0))), (r3, .inl (cI, 48, .inl (fun _ => 0))), (r4, .inl (cI, 10, .inl (fun _ => 0))), (r5, .inl (cI, 60, .inl (fun _ => 0))), (r6, .inl (cI, 30, .inl (fun _ => 0))), (r7, .inl (cI, 30, .inl (fun _ => 0))), (r8, .inl (cI, 30, .inl (fun _ => 0))), (r9, .inl (cI, 30, .inl (fun _ => 0))), (r10, .inl (cZ, 30, .inl (fun _ => 0))), (r11, .inl (cI, 4, .inl (fillA (fun _ => 0) 10 4))), (r12, .inl (cI, 240, .inl (fillA (fun _ => 0) (-1) 240)))]) hP hD [19] [0, 1, 2, 3, 4, 5, 6, 7, 8, 9, 10, 11, 12, 13, 14, 15, 16, 17, 18] rfl rfl (by decide) (by decide) hk1 hFc hP1 hD1
  generalize H1 = H at hP hS ⊢
  have hP : va_P D vwCl (hW cI cZ X S_0 (fun _ => false) (fun _ => 0) ++ mW cI cZ (fun k => [y0, r1, r2, r3, r4, r5, r6, r7, r8, r9, r10, r11, r12].getD k 0) T_0 (fun _ => false) (fun _ => 0)) H := hP.sub (ws' := (hW cI cZ X S_0 (fun _ => false) (fun _ => 0) ++ mW cI cZ (fun k => [y0, r1, r2, r3, r4, r5, r6, r7, r8, r9, r10, r11, r12].getD k 0) T_0 (fun _ => false) (fun _ => 0))) [0, 1, 2, 3, 4, 5, 6, 7, 8, 9, 10, 11, 12, 13, 14, 15, 16, 17, 18, 19, 20, 21, 22, 23, 24, 25, 26, 27, 28, 29, 30, 31] rfl
  have hD : va_D (fun q : Nat => s.heap.size ≤ q) (hW cI cZ X S_0 (fun _ => false) (fun _ => 0) ++ mW cI cZ (fun k => [y0, r1, r2, r3, r4, r5, r6, r7, r8, r9, r10, r11, r12].getD k 0) T_0 (fun _ => false) (fun _ => 0)) := hD.sub (ws' := (hW cI cZ X S_0 (fun _ => false) (fun _ => 0) ++ mW cI cZ (fun k => [y0, r1, r2, r3, r4, r5, r6, r7, r8, r9, r10, r11, r12].getD k 0) T_0 (fun _ => false) (fun _ => 0))) [0, 1, 2, 3, 4, 5, 6, 7, 8, 9, 10, 11, 12, 13, 14, 15, 16, 17, 18, 19, 20, 21, 22, 23, 24, 25, 26, 27, 28, 29, 30, 31] (by decide) rfl
  obtain ⟨Y, hYe⟩ : ∃ z : Nat → Nat, z = (fun k => [y0, r1, r2, r3, r4, r5, r6, r7, r8, r9, r10, r11, r12].getD k 0) := ⟨_, rfl⟩
  have hy0 : y0 = Y 0 := by rw [hYe]; rfl
  rw [← hYe] at hP hD
  refine W.widen (k := 32) (n := 1301) (by omega) (by omega) ?_
  refine lv_astore_n (lv' := [(2, .ref y0), (1, .ref x0), (0, .ref b)]) hx hb dL_law_15 rfl hl (by decide) rfl (fun ls hl => ?_)
  refine lv_iconst (v := nI 1) hx hb dL_law_16 rfl ?_
  refine va_newa (D := D) hx hb (atype := .long) (hts0 (.arrayClass .long) (by decide +kernel)) (ty := .long) rfl hKh hP hD hS hA (a0 := (1, .inr (.inl (fun _ => 0)))) (N' := 1) (fun _ => rfl) (by decide) (by decide) (by decide) (Nat.le_of_ble_eq_true rfl) (Nat.le_of_ble_eq_true rfl) dL_law_17 (fun o cJ H hK3 hP hD hS => ?_)
  have hK3 : va_K D vwCl (tyx cI cZ cJ) s := hK3
  have hP : va_P D vwCl (lW cI cZ cJ X Y o (fun _ => 0) S_0 (fun _ => false) (fun _ => 0) T_0 (fun _ => false) (fun _ => 0)) H := hP.sub (ws' := lW cI cZ cJ X Y o (fun _ => 0) S_0 (fun _ => false) (fun _ => 0) T_0 (fun _ => false) (fun _ => 0)) [32, 0, 1, 2, 3, 4, 5, 6, 7, 8, 9, 10, 11, 12, 13, 14, 15, 16, 17, 18, 19, 20, 21, 22, 23, 24, 25, 26, 27, 28, 29, 30, 31] rfl
  have hD : va_D (fun q : Nat => s.heap.size ≤ q) (lW cI cZ cJ X Y o (fun _ => 0) S_0 (fun _ => false) (fun _ => 0) T_0 (fun _ => false) (fun _ => 0)) := hD.sub (ws' := lW cI cZ cJ X Y o (fun _ => 0) S_0 (fun _ => false) (fun _ => 0) T_0 (fun _ => false) (fun _ => 0)) [32, 0, 1, 2, 3, 4, 5, 6, 7, 8, 9, 10, 11, 12, 13, 14, 15, 16, 17, 18, 19, 20, 21, 22, 23, 24, 25, 26, 27, 28, 29, 30, 31] (by decide) rfl
  refine W.widen (k := 33) (n := 1302) (by omega) (by omega) ?_
  refine lv_astore_n (lv' := [(3, .ref o), (2, .ref y0), (1, .ref x0), (0, .ref b)]) hx hb dL_law_19 rfl hl (by decide) rfl (fun ls hl => ?_)
  refine lv_iconst (v := nI 0) hx hb dL_law_20 rfl ?_
  refine lv_istore (lv' := [(4, .int (nI 0)), (3, .ref o), (2, .ref y0), (1, .ref x0), (0, .ref b)]) hx hb dL_law_21 hl (by decide) rfl (fun ls hl => ?_)
  rw [hx0, hy0] at hl
  exact law_loop hl0 hL C0 hK3 hZ hY (L + 1) 0 (by omega) (Nat.zero_le L) 33 1302 (by omega) (by omega) _ _ _ _ _ _ _ H _ ls Rel_start hP hD hS (lv_sub hl [4, 3, 2, 1, 0] rfl)
