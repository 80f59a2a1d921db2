/-! ===== constructors ===== -/
abbrev zC (D : va_G) (cI cZ : ClassId) (ws : va_W) (sz : Nat) (av : List Value) : Array Value → State → Prop := va_Pc av (fun U => U.heap.size = sz ∧ va_P D vwCl ws U.heap ∧ va_K D vwCl [] U ∧ va_D (fun _ => True) ws ∧ U.vm.findClass "[I" = some cI ∧ U.vm.findClass "[Z" = some cZ)
theorem zC_blind {D : va_G} {cI cZ : ClassId} {ws : va_W} {sz : Nat} {av : List Value} : FrameBlind (zC D cI cZ ws sz av) := fun a U g mk q => ⟨q.1, q.2.1, q.2.2.1, va_K.moved (u := U) (U := U.calling g mk a) (Vm.Alike.refl U.vm) q.2.2.2.1, q.2.2.2.2.1, q.2.2.2.2.2.1, q.2.2.2.2.2.2⟩
theorem zC_preS {s : State} {H : Heap} {D : va_G} {cI cZ : ClassId} {ws : va_W} {A : Nat → Prop} {av : List Value} (hK : va_K D vwCl [] s) (hP : va_P D vwCl ws H) (hD : va_D A ws) (hI : s.vm.findClass "[I" = some cI) (hZ : s.vm.findClass "[Z" = some cZ) : PreS s H (zC D cI cZ ws H.size av) av :=
  ⟨zC_blind, fun U hU hW => ⟨rfl, by rw [hU], by rw [hU]; exact hP, va_K.moved hW.alike hK, hD.weaken (fun _ _ _ _ => trivial), by rw [hW.alike.findClass]; exact hI, by rw [hW.alike.findClass]; exact hZ⟩⟩
theorem zW_preS {s : State} {H : Heap} {D : va_G} {tys : List (ClassId × FieldType)} {ws : va_W} {A : Nat → Prop} {av : List Value} (hK : va_K D vwCl tys s) (hP : va_P D vwCl ws H) (hD : va_D A ws) : PreS s H (zW D tys ws H.size av) av :=
  ⟨zW_blind, fun U hU hW => ⟨rfl, by rw [hU], by rw [hU]; exact hP, va_K.moved hW.alike hK, hD.weaken (fun _ _ _ _ => trivial)⟩⟩
section ZCN
variable {p : Program} {l : Launch} {e : Env} {R : Room} {s : State} {m : MethodId} {args : Array Value} {below : List Frame} {meth : Method} {c : Code} {H : Heap} {locs : List Loc} {cells slots : Nat} {Q : State → Prop} {cc : ByteArray} {pc : Nat} {ls : Array Slot} {rest : List Value} {D : va_G} {cl : List vw_C} {ws : va_W} {tys : List (ClassId × FieldType)} {A : Nat → Prop} {H0 : Heap} {cI cZ : ClassId}
theorem z_newaI (N : Nat) (hx : p.tables.exec = Jvm.exec) (hb : c.code = cc) (harr : (Cond.arrayClass .int).before args s = true) (hI : s.vm.findClass "[I" = some cI) (hK : va_K D cl tys s) (hP : va_P D cl ws H) (hD : va_D A ws) (hS : va_S A H0 H locs) (hA : ∀ q, H0.size ≤ q → A q) (hN : N < 2 ^ 20) (hcells : cells + 1 ≤ R.cells) (hslots : slots + N ≤ R.slots) (hdg : decode cc pc = .ok (.newarray .int, 2))
    (kk : ∀ (q : Nat) (H1 : Heap), va_K D cl (tys ++ [(cI, .int)]) s → va_P D cl (ws ++ [(q, .inl (cI, N, .inl (fun _ => 0)))]) H1 → va_D A (ws ++ [(q, .inl (cI, N, .inl (fun _ => 0)))]) → va_S A H0 H1 locs → W p l e R s m args below meth c H1 locs (cells + 1) (slots + N) Q (F0 m (pc + 2) ls (.ref q :: rest))) : W p l e R s m args below meth c H locs cells slots Q (F0 m pc ls (.int (nI N) :: rest)) :=
  va_newa hx hb (atype := .int) harr (ty := .int) rfl hK hP hD hS hA (a0 := (N, .inl (fun _ => 0))) (fun _ => rfl) (nI_pos (by omega)) (nI_clamp (by omega)) (by show N * 4 ≤ 536870912; omega) hcells hslots hdg (fun q cA H1 k1 k2 k3 k4 => by
    have h1 := va_nm_int (k1.2 tys.length (cA, .int) (by simp)).2
    have h2 : cA = cI := Option.some.inj (h1.symm.trans hI)
    subst h2
    exact kk q H1 k1 k2 k3 k4)
theorem z_newaZ (N : Nat) (hx : p.tables.exec = Jvm.exec) (hb : c.code = cc) (harr : (Cond.arrayClass .boolean).before args s = true) (hI : s.vm.findClass "[Z" = some cZ) (hK : va_K D cl tys s) (hP : va_P D cl ws H) (hD : va_D A ws) (hS : va_S A H0 H locs) (hA : ∀ q, H0.size ≤ q → A q) (hN : N < 2 ^ 20) (hcells : cells + 1 ≤ R.cells) (hslots : slots + N ≤ R.slots) (hdg : decode cc pc = .ok (.newarray .boolean, 2))
    (kk : ∀ (q : Nat) (H1 : Heap), va_K D cl (tys ++ [(cZ, .boolean)]) s → va_P D cl (ws ++ [(q, .inl (cZ, N, .inl (fun _ => 0)))]) H1 → va_D A (ws ++ [(q, .inl (cZ, N, .inl (fun _ => 0)))]) → va_S A H0 H1 locs → W p l e R s m args below meth c H1 locs (cells + 1) (slots + N) Q (F0 m (pc + 2) ls (.ref q :: rest))) : W p l e R s m args below meth c H locs cells slots Q (F0 m pc ls (.int (nI N) :: rest)) :=
  va_newa hx hb (atype := .boolean) harr (ty := .boolean) rfl hK hP hD hS hA (a0 := (N, .inl (fun _ => 0))) (fun _ => rfl) (nI_pos (by omega)) (nI_clamp (by omega)) (by show N * 1 ≤ 536870912; omega) hcells hslots hdg (fun q cA H1 k1 k2 k3 k4 => by
    have h1 : s.vm.findClass ("[" ++ FieldType.boolean.toString) = some cA := (k1.2 tys.length (cA, .boolean) (by simp)).2
    have h3 : "[" ++ FieldType.boolean.toString = "[Z" := by decide +kernel
    rw [h3] at h1
    have h2 : cA = cZ := Option.some.inj (h1.symm.trans hI)
    subst h2
    exact kk q H1 k1 k2 k3 k4)
end ZCN
def fillA (f : Nat → Int32) (x : Int32) (k : Nat) : Nat → Int32 := fun j => if j < k then x else f j
theorem fillA_0 (f : Nat → Int32) (x : Int32) : fillA f x 0 = f := by funext j; simp [fillA]
theorem fillA_s (f : Nat → Int32) (x : Int32) (k : Nat) : fillA f x (k + 1) = upd (fillA f x k) k x := by
  funext j
  simp only [fillA, upd]
  by_cases h : j = k
  · subst h; simp
  · rw [if_neg h]
    by_cases h2 : j < k
    · rw [if_pos h2, if_pos (by omega)]
    · rw [if_neg h2, if_neg (by omega)]
set_option maxHeartbeats 4000000 in
set_option maxRecDepth 100000 in
theorem kJ7_fill_53178 (l : Launch) (D : va_G) (cI : ClassId) (a n : Nat) (f : Nat → Int32) (x : Int32) (sz : Nat) (hn : n < 2 ^ 31) : Met l yJ7_fill_53178 wsJ7_fill_53178 ({ frames := 0, cells := 0, slots := 0, locals := 0 } : Room) (zW D [(cI, .int)] [(a, .inl (cI, n, .inl f))] sz [.ref a, .int x]) (zQv D [(cI, .int)] [(a, .inl (cI, n, .inl (fillA f x n)))] (va_A [(a, .inl (cI, n, .inl f))] sz)) 0 0 (va_A [(a, .inl (cI, n, .inl f))] sz) := by
  refine Met.ofW (cc := cJ7_fill_53178) (maxL := 4) (ret := none) (by decide) rfl ?_
  intro p e s m args below meth c s₁ B hml hv
  obtain ⟨rfl, hsz, hP, hK, hD0⟩ := hv
  have hx := B.exec
  have hb := B.bytes
  have hr := B.returns
  have hlocks := B.notSynchronized
  subst hsz
  have hD := hD0.self (sz := s.heap.size)
  generalize hAe : va_A [(a, .inl (cI, n, .inl f))] s.heap.size = A at hD ⊢
  have hA : ∀ q : Nat, s.heap.size ≤ q → A q := fun q h => by rw [← hAe]; exact Or.inr h
  have hS : va_S A s.heap s.heap [] := va_S.rf
  have hl := lv_entry ([.ref a, .int x]) (n := 4) (Nat.le_of_ble_eq_true rfl)
  rw [lg_entry_eq]
  generalize (lg_sl ([.ref a, .int x]) ++ List.replicate (4 - (lg_sl ([.ref a, .int x])).length) Slot.unset).toArray = ls at hl ⊢
  have hl : lv_has ls 4 [(0, .ref a), (1, .int x)] := hl
  refine lv_iconst (v := nI 0) hx hb dJ7_fill_53178_0 rfl ?_
  refine lv_istore_n (lv' := [(2, .int (nI 0)), (0, .ref a), (1, .int x)]) hx hb dJ7_fill_53178_1 rfl hl (by decide) rfl (fun ls hl => ?_)
  refine lv_aload_n hx hb dJ7_fill_53178_2 rfl (lv_at hl 1 rfl) ?_
  refine va_alen (D := D) (v := nI n) hx hb hK hP 0 0 rfl rfl rfl dJ7_fill_53178_3 ?_
  refine lv_istore_n (lv' := [(3, .int (nI n)), (2, .int (nI 0)), (0, .ref a), (1, .int x)]) hx hb dJ7_fill_53178_4 rfl hl (by decide) rfl (fun ls hl => ?_)
  have hP : va_P D vwCl [(a, .inl (cI, n, .inl (fillA f x 0)))] s.heap := by rw [fillA_0]; exact hP
  have hD : va_D A [(a, .inl (cI, n, .inl (fillA f x 0)))] := by rw [fillA_0]; exact hD
  refine z_loopW (N := n) (nL := 4) (Lc := fun k => [(0, .ref a), (1, .int x), (2, .int (nI k)), (3, .int (nI n))]) (Wd := fun k => [(a, .inl (cI, n, .inl (fillA f x k)))]) (lv_sub hl [2, 3, 1, 0] rfl) hP hD hS (fun H locs ls hP hD hS hl => ?_) (fun k H locs ls hk hP hD hS hl ih => ?_)
  · refine lv_iload_n hx hb dJ7_fill_53178_5 rfl (lv_at hl 2 rfl) ?_
    refine lv_iload_n hx hb dJ7_fill_53178_6 rfl (lv_at hl 3 rfl) ?_
    refine z_ge_t (tgt := 20) (nI_le (by omega) (by omega)) hx hb dJ7_fill_53178_7 (by decide) ?_
    exact z_wvret hx hb hr hlocks hP hK hD hS dJ7_fill_53178_20
  · have hP : va_P D vwCl [(a, .inl (cI, n, .inl (fillA f x k)))] H := hP
    have hD : va_D A [(a, .inl (cI, n, .inl (fillA f x k)))] := hD
    refine lv_iload_n hx hb dJ7_fill_53178_5 rfl (lv_at hl 2 rfl) ?_
    refine lv_iload_n hx hb dJ7_fill_53178_6 rfl (lv_at hl 3 rfl) ?_
    refine z_ge_f (tgt := 20) (nI_ge (by omega) (by omega)) hx hb dJ7_fill_53178_7 (by decide) ?_
    refine lv_aload_n hx hb dJ7_fill_53178_10 rfl (lv_at hl 0 rfl) ?_
    refine lv_iload_n hx hb dJ7_fill_53178_11 rfl (lv_at hl 2 rfl) ?_
    refine lv_iload_n hx hb dJ7_fill_53178_12 rfl (lv_at hl 1 rfl) ?_
    refine z_iast (D := D) (j := k) (f := fillA f x k) hx hb hK hP hD hS 0 0 rfl rfl (by omega) hn dJ7_fill_53178_13 (fun H locs hP hD hS => ?_)
    have hP : va_P D vwCl [(a, .inl (cI, n, .inl (upd (fillA f x k) k x)))] H := hP
    have hD : va_D A [(a, .inl (cI, n, .inl (upd (fillA f x k) k x)))] := hD
    refine lv_iinc (v := nI (k + 1)) (lv' := [(2, .int (nI (k + 1))), (0, .ref a), (1, .int x), (3, .int (nI n))]) hx hb dJ7_fill_53178_14 hl (k := 2) rfl (nI_1 _) (by decide) rfl (fun ls hl => ?_)
    refine lv_goto (tgt := 5) hx hb dJ7_fill_53178_17 (by decide) ?_
    exact ih H locs ls (by show va_P D vwCl [(a, .inl (cI, n, .inl (fillA f x (k + 1))))] H; rw [fillA_s]; exact hP) (by show va_D A [(a, .inl (cI, n, .inl (fillA f x (k + 1))))]; rw [fillA_s]; exact hD) hS (lv_sub hl [1, 2, 0, 3] rfl)

set_option maxHeartbeats 4000000 in
set_option maxRecDepth 100000 in
theorem kX1_init (l : Launch) (D : va_G) (cI cZ : ClassId) (h0 : Nat) (sz : Nat) : Met l yX1_init wsX1_init ({ frames := 1, cells := 4, slots := 30, locals := 20 } : Room) (zC D cI cZ [(h0, .inr (1, [.null, .null, .null, .null]))] sz [.ref h0]) (va_Qv (fun (_ : Unit) => True) (fun _ t => ∃ q1 q2 q3 q4 : Nat, va_P D vwCl [(h0, .inr (1, [.ref q1, .ref q2, .ref q3, .ref q4])), (q1, .inl (cI, 10, .inl (fun _ => 0))), (q2, .inl (cI, 8, .inl (fun _ => 0))), (q3, .inl (cI, 6, .inl (fun _ => 0))), (q4, .inl (cI, 6, .inl (fun _ => 0)))] t.heap ∧ va_K D vwCl [(cI, .int)] t ∧ va_D (va_A [(h0, .inr (1, [.null, .null, .null, .null]))] sz) [(h0, .inr (1, [.ref q1, .ref q2, .ref q3, .ref q4])), (q1, .inl (cI, 10, .inl (fun _ => 0))), (q2, .inl (cI, 8, .inl (fun _ => 0))), (q3, .inl (cI, 6, .inl (fun _ => 0))), (q4, .inl (cI, 6, .inl (fun _ => 0)))]) (va_A [(h0, .inr (1, [.null, .null, .null, .null]))] sz)) 4 30 (va_A [(h0, .inr (1, [.null, .null, .null, .null]))] sz) := by
  refine Met.ofW (cc := cX1_init) (maxL := 1) (ret := none) (by decide) rfl ?_
  intro p e s m args below meth c s₁ B hml hv
  obtain ⟨rfl, hsz, hP, hK, hD0, hcI, hcZ⟩ := hv
  have hx := B.exec
  have hb := B.bytes
  have hr := B.returns
  have hts := atoms_spec (ws := wsX1_init) B.pre
  have hown : s.vm.findClass RX1 = some m.cls := findClass_of_methodNamed B.named
  have hlocks := B.notSynchronized
  have hin : meth.name = "<init>" := (name_of_methodNamed B.named B.method).1
  subst hsz
  have hD := hD0.self (sz := s.heap.size)
  generalize hAe : va_A [(h0, .inr (1, [.null, .null, .null, .null]))] s.heap.size = A at hD ⊢
  have hA : ∀ q : Nat, s.heap.size ≤ q → A q := fun q h => by rw [← hAe]; exact Or.inr h
  have hS : va_S A s.heap s.heap [] := va_S.rf
  have haI := hts (.arrayClass .int) (by decide +kernel)
  have i1 : ∀ w ∈ u_ws RX1 TX1 4, w ∈ wsX1_init := by decide +kernel
  have fl_9 := hts (.fieldLink RX1 9 "SignOnHouse$Groups" "homesOfPerson" "[I") (by decide +kernel)
  have fl_15 := hts (.fieldLink RX1 15 "SignOnHouse$Groups" "homesOfGroup" "[I") (by decide +kernel)
  have fl_18 := hts (.fieldLink RX1 18 "SignOnHouse$Groups" "grantedOfRole" "[I") (by decide +kernel)
  have fl_21 := hts (.fieldLink RX1 21 "SignOnHouse$Groups" "deniedOfRole" "[I") (by decide +kernel)
  have hl := lv_entry ([.ref h0]) (n := 1) (Nat.le_of_ble_eq_true rfl)
  rw [lg_entry_eq]
  generalize (lg_sl ([.ref h0]) ++ List.replicate (1 - (lg_sl ([.ref h0])).length) Slot.unset).toArray = ls at hl ⊢
  have hl : lv_has ls 1 [(0, .ref h0)] := hl
  refine lv_aload_n hx hb dX1_init_0 rfl (lv_at hl 0 rfl) ?_
  refine W.objInit hx hb hown (hts (.methodLink RX1 3 objectInit) (by decide +kernel)) (hts (.instanceMethod objectInit) (by decide +kernel)) (hts (.code objectInit ⟨#[0xb1]⟩ 1 none) (by decide +kernel)) rfl (by rw [hml]; exact hl.1) rfl dX1_init_1 (Nat.le_of_ble_eq_true rfl) (Nat.le_of_ble_eq_true rfl) ?_
  refine W.eq (g2 := F0 m 4 ls []) rfl ?_
  refine lv_aload_n hx hb dX1_init_4 rfl (lv_at hl 0 rfl) ?_
  refine lv_bipush (v := nI 10) hx hb dX1_init_5 (by decide) ?_
  refine z_newaI (D := D) 10 hx hb haI hcI hK hP hD hS hA (by decide) (Nat.le_of_ble_eq_true rfl) (Nat.le_of_ble_eq_true rfl) dX1_init_7 (fun q1 H hK2 hP hD hS => ?_)
  have hKI := hK2.sub (tys' := [(cI, .int)]) [0] rfl
  have hP : va_P D vwCl [(h0, .inr (1, [.null, .null, .null, .null])), (q1, .inl (cI, 10, .inl (fun _ => 0)))] H := hP
  have hD : va_D A [(h0, .inr (1, [.null, .null, .null, .null])), (q1, .inl (cI, 10, .inl (fun _ => 0)))] := hD
  refine W.widen (k := 1) (n := 10) (by omega) (by omega) ?_
  refine va_putF (D := D) (ci := 1) (v := .ref q1) (ty := .array .int) (C := RX1) (T := TX1) (N := 4) hx hb hts i1 tyX1 tyX1_ok nmX1 hown hK hP hD hS 0 rfl rfl 0 (by decide) fl_9 (fun _ h9 => h9) rfl hin rfl (by decide +kernel) rfl rfl (Nat.le_of_ble_eq_true rfl) dX1_init_9 (fun H locs hP hD hS => ?_)
  have hP : va_P D vwCl [(h0, .inr (1, [.ref q1, .null, .null, .null])), (q1, .inl (cI, 10, .inl (fun _ => 0)))] H := hP
  have hD : va_D A [(h0, .inr (1, [.ref q1, .null, .null, .null])), (q1, .inl (cI, 10, .inl (fun _ => 0)))] := hD
  refine lv_aload_n hx hb dX1_init_12 rfl (lv_at hl 0 rfl) ?_
  refine lv_bipush (v := nI 8) hx hb dX1_init_13 (by decide) ?_
  refine z_newaI (D := D) 8 hx hb haI hcI hK hP hD hS hA (by decide) (Nat.le_of_ble_eq_true rfl) (Nat.le_of_ble_eq_true rfl) dX1_init_15 (fun q2 H hK2 hP hD hS => ?_)
  have hKI := hK2.sub (tys' := [(cI, .int)]) [0] rfl
  have hP : va_P D vwCl [(h0, .inr (1, [.ref q1, .null, .null, .null])), (q1, .inl (cI, 10, .inl (fun _ => 0))), (q2, .inl (cI, 8, .inl (fun _ => 0)))] H := hP
  have hD : va_D A [(h0, .inr (1, [.ref q1, .null, .null, .null])), (q1, .inl (cI, 10, .inl (fun _ => 0))), (q2, .inl (cI, 8, .inl (fun _ => 0)))] := hD
  refine W.widen (k := 2) (n := 18) (by omega) (by omega) ?_
  refine va_putF (D := D) (ci := 1) (v := .ref q2) (ty := .array .int) (C := RX1) (T := TX1) (N := 4) hx hb hts i1 tyX1 tyX1_ok nmX1 hown hK hP hD hS 0 rfl rfl 1 (by decide) fl_15 (fun _ h9 => h9) rfl hin rfl (by decide +kernel) rfl rfl (Nat.le_of_ble_eq_true rfl) dX1_init_17 (fun H locs hP hD hS => ?_)
  have hP : va_P D vwCl [(h0, .inr (1, [.ref q1, .ref q2, .null, .null])), (q1, .inl (cI, 10, .inl (fun _ => 0))), (q2, .inl (cI, 8, .inl (fun _ => 0)))] H := hP
  have hD : va_D A [(h0, .inr (1, [.ref q1, .ref q2, .null, .null])), (q1, .inl (cI, 10, .inl (fun _ => 0))), (q2, .inl (cI, 8, .inl (fun _ => 0)))] := hD
  refine lv_aload_n hx hb dX1_init_20 rfl (lv_at hl 0 rfl) ?_
  refine lv_bipush (v := nI 6) hx hb dX1_init_21 (by decide) ?_
  refine z_newaI (D := D) 6 hx hb haI hcI hK hP hD hS hA (by decide) (Nat.le_of_ble_eq_true rfl) (Nat.le_of_ble_eq_true rfl) dX1_init_23 (fun q3 H hK2 hP hD hS => ?_)
  have hKI := hK2.sub (tys' := [(cI, .int)]) [0] rfl
  have hP : va_P D vwCl [(h0, .inr (1, [.ref q1, .ref q2, .null, .null])), (q1, .inl (cI, 10, .inl (fun _ => 0))), (q2, .inl (cI, 8, .inl (fun _ => 0))), (q3, .inl (cI, 6, .inl (fun _ => 0)))] H := hP
  have hD : va_D A [(h0, .inr (1, [.ref q1, .ref q2, .null, .null])), (q1, .inl (cI, 10, .inl (fun _ => 0))), (q2, .inl (cI, 8, .inl (fun _ => 0))), (q3, .inl (cI, 6, .inl (fun _ => 0)))] := hD
  refine W.widen (k := 3) (n := 24) (by omega) (by omega) ?_
  refine va_putF (D := D) (ci := 1) (v := .ref q3) (ty := .array .int) (C := RX1) (T := TX1) (N := 4) hx hb hts i1 tyX1 tyX1_ok nmX1 hown hK hP hD hS 0 rfl rfl 2 (by decide) fl_18 (fun _ h9 => h9) rfl hin rfl (by decide +kernel) rfl rfl (Nat.le_of_ble_eq_true rfl) dX1_init_25 (fun H locs hP hD hS => ?_)
  have hP : va_P D vwCl [(h0, .inr (1, [.ref q1, .ref q2, .ref q3, .null])), (q1, .inl (cI, 10, .inl (fun _ => 0))), (q2, .inl (cI, 8, .inl (fun _ => 0))), (q3, .inl (cI, 6, .inl (fun _ => 0)))] H := hP
  have hD : va_D A [(h0, .inr (1, [.ref q1, .ref q2, .ref q3, .null])), (q1, .inl (cI, 10, .inl (fun _ => 0))), (q2, .inl (cI, 8, .inl (fun _ => 0))), (q3, .inl (cI, 6, .inl (fun _ => 0)))] := hD
  refine lv_aload_n hx hb dX1_init_28 rfl (lv_at hl 0 rfl) ?_
  refine lv_bipush (v := nI 6) hx hb dX1_init_29 (by decide) ?_
  refine z_newaI (D := D) 6 hx hb haI hcI hK hP hD hS hA (by decide) (Nat.le_of_ble_eq_true rfl) (Nat.le_of_ble_eq_true rfl) dX1_init_31 (fun q4 H hK2 hP hD hS => ?_)
  have hKI := hK2.sub (tys' := [(cI, .int)]) [0] rfl
  have hP : va_P D vwCl [(h0, .inr (1, [.ref q1, .ref q2, .ref q3, .null])), (q1, .inl (cI, 10, .inl (fun _ => 0))), (q2, .inl (cI, 8, .inl (fun _ => 0))), (q3, .inl (cI, 6, .inl (fun _ => 0))), (q4, .inl (cI, 6, .inl (fun _ => 0)))] H := hP
  have hD : va_D A [(h0, .inr (1, [.ref q1, .ref q2, .ref q3, .null])), (q1, .inl (cI, 10, .inl (fun _ => 0))), (q2, .inl (cI, 8, .inl (fun _ => 0))), (q3, .inl (cI, 6, .inl (fun _ => 0))), (q4, .inl (cI, 6, .inl (fun _ => 0)))] := hD
  refine W.widen (k := 4) (n := 30) (by omega) (by omega) ?_
  refine va_putF (D := D) (ci := 1) (v := .ref q4) (ty := .array .int) (C := RX1) (T := TX1) (N := 4) hx hb hts i1 tyX1 tyX1_ok nmX1 hown hK hP hD hS 0 rfl rfl 3 (by decide) fl_21 (fun _ h9 => h9) rfl hin rfl (by decide +kernel) rfl rfl (Nat.le_of_ble_eq_true rfl) dX1_init_33 (fun H locs hP hD hS => ?_)
  have hP : va_P D vwCl [(h0, .inr (1, [.ref q1, .ref q2, .ref q3, .ref q4])), (q1, .inl (cI, 10, .inl (fun _ => 0))), (q2, .inl (cI, 8, .inl (fun _ => 0))), (q3, .inl (cI, 6, .inl (fun _ => 0))), (q4, .inl (cI, 6, .inl (fun _ => 0)))] H := hP
  have hD : va_D A [(h0, .inr (1, [.ref q1, .ref q2, .ref q3, .ref q4])), (q1, .inl (cI, 10, .inl (fun _ => 0))), (q2, .inl (cI, 8, .inl (fun _ => 0))), (q3, .inl (cI, 6, .inl (fun _ => 0))), (q4, .inl (cI, 6, .inl (fun _ => 0)))] := hD
  have hKF : va_K D vwCl [(cI, .int)] s := hKI
  exact W.vret hx hb hr (fun t ht hW => ⟨⟨(), rfl, trivial, q1, q2, q3, q4, by rw [ht]; exact hP, va_K.moved hW.alike hKF, hD⟩, hS.F ht⟩) hS.2.2 dX1_init_36

set_option maxHeartbeats 4000000 in
set_option maxRecDepth 100000 in
theorem kX3_init (l : Launch) (D : va_G) (cI cZ : ClassId) (h0 : Nat) (sz : Nat) : Met l yX3_init wsX3_init ({ frames := 1, cells := 5, slots := 150, locals := 20 } : Room) (zC D cI cZ [(h0, .inr (3, [.null, .null, .null, .null, .null, .int 0]))] sz [.ref h0]) (va_Qv (fun (_ : Unit) => True) (fun _ t => ∃ q1 q2 q3 q4 q5 : Nat, va_P D vwCl [(h0, .inr (3, [.ref q1, .ref q2, .ref q3, .ref q4, .ref q5, .int 0])), (q1, .inl (cI, 30, .inl (fun _ => 0))), (q2, .inl (cI, 30, .inl (fun _ => 0))), (q3, .inl (cI, 30, .inl (fun _ => 0))), (q4, .inl (cI, 30, .inl (fun _ => 0))), (q5, .inl (cZ, 30, .inl (fun _ => 0)))] t.heap ∧ va_K D vwCl [(cI, .int), (cZ, .boolean)] t ∧ va_D (va_A [(h0, .inr (3, [.null, .null, .null, .null, .null, .int 0]))] sz) [(h0, .inr (3, [.ref q1, .ref q2, .ref q3, .ref q4, .ref q5, .int 0])), (q1, .inl (cI, 30, .inl (fun _ => 0))), (q2, .inl (cI, 30, .inl (fun _ => 0))), (q3, .inl (cI, 30, .inl (fun _ => 0))), (q4, .inl (cI, 30, .inl (fun _ => 0))), (q5, .inl (cZ, 30, .inl (fun _ => 0)))]) (va_A [(h0, .inr (3, [.null, .null, .null, .null, .null, .int 0]))] sz)) 5 150 (va_A [(h0, .inr (3, [.null, .null, .null, .null, .null, .int 0]))] sz) := by
  refine Met.ofW (cc := cX3_init) (maxL := 1) (ret := none) (by decide) rfl ?_
  intro p e s m args below meth c s₁ B hml hv
  obtain ⟨rfl, hsz, hP, hK, hD0, hcI, hcZ⟩ := hv
  have hx := B.exec
  have hb := B.bytes
  have hr := B.returns
  have hts := atoms_spec (ws := wsX3_init) B.pre
  have hown : s.vm.findClass RX3 = some m.cls := findClass_of_methodNamed B.named
  have hlocks := B.notSynchronized
  have hin : meth.name = "<init>" := (name_of_methodNamed B.named B.method).1
  subst hsz
  have hD := hD0.self (sz := s.heap.size)
  generalize hAe : va_A [(h0, .inr (3, [.null, .null, .null, .null, .null, .int 0]))] s.heap.size = A at hD ⊢
  have hA : ∀ q : Nat, s.heap.size ≤ q → A q := fun q h => by rw [← hAe]; exact Or.inr h
  have hS : va_S A s.heap s.heap [] := va_S.rf
  have haI := hts (.arrayClass .int) (by decide +kernel)
  have haZ := hts (.arrayClass .boolean) (by decide +kernel)
  have i3 : ∀ w ∈ u_ws RX3 TX3 6, w ∈ wsX3_init := by decide +kernel
  have fl_9 := hts (.fieldLink RX3 9 "SignOnHouse$Sessions" "people" "[I") (by decide +kernel)
  have fl_13 := hts (.fieldLink RX3 13 "SignOnHouse$Sessions" "signedWith" "[I") (by decide +kernel)
  have fl_16 := hts (.fieldLink RX3 16 "SignOnHouse$Sessions" "openedAt" "[I") (by decide +kernel)
  have fl_19 := hts (.fieldLink RX3 19 "SignOnHouse$Sessions" "usedAt" "[I") (by decide +kernel)
  have fl_22 := hts (.fieldLink RX3 22 "SignOnHouse$Sessions" "over" "[Z") (by decide +kernel)
  have fl_26 := hts (.fieldLink RX3 26 "SignOnHouse$Sessions" "count" "I") (by decide +kernel)
  have hl := lv_entry ([.ref h0]) (n := 1) (Nat.le_of_ble_eq_true rfl)
  rw [lg_entry_eq]
  generalize (lg_sl ([.ref h0]) ++ List.replicate (1 - (lg_sl ([.ref h0])).length) Slot.unset).toArray = ls at hl ⊢
  have hl : lv_has ls 1 [(0, .ref h0)] := hl
  refine lv_aload_n hx hb dX3_init_0 rfl (lv_at hl 0 rfl) ?_
  refine W.objInit hx hb hown (hts (.methodLink RX3 1 objectInit) (by decide +kernel)) (hts (.instanceMethod objectInit) (by decide +kernel)) (hts (.code objectInit ⟨#[0xb1]⟩ 1 none) (by decide +kernel)) rfl (by rw [hml]; exact hl.1) rfl dX3_init_1 (Nat.le_of_ble_eq_true rfl) (Nat.le_of_ble_eq_true rfl) ?_
  refine W.eq (g2 := F0 m 4 ls []) rfl ?_
  refine lv_aload_n hx hb dX3_init_4 rfl (lv_at hl 0 rfl) ?_
  refine lv_bipush (v := nI 30) hx hb dX3_init_5 (by decide) ?_
  refine z_newaI (D := D) 30 hx hb haI hcI hK hP hD hS hA (by decide) (Nat.le_of_ble_eq_true rfl) (Nat.le_of_ble_eq_true rfl) dX3_init_7 (fun q1 H hK2 hP hD hS => ?_)
  have hKI := hK2.sub (tys' := [(cI, .int)]) [0] rfl
  have hP : va_P D vwCl [(h0, .inr (3, [.null, .null, .null, .null, .null, .int 0])), (q1, .inl (cI, 30, .inl (fun _ => 0)))] H := hP
  have hD : va_D A [(h0, .inr (3, [.null, .null, .null, .null, .null, .int 0])), (q1, .inl (cI, 30, .inl (fun _ => 0)))] := hD
  refine W.widen (k := 1) (n := 30) (by omega) (by omega) ?_
  refine va_putF (D := D) (ci := 3) (v := .ref q1) (ty := .array .int) (C := RX3) (T := TX3) (N := 6) hx hb hts i3 tyX3 tyX3_ok nmX3 hown hK hP hD hS 0 rfl rfl 0 (by decide) fl_9 (fun _ h9 => h9) rfl hin rfl (by decide +kernel) rfl rfl (Nat.le_of_ble_eq_true rfl) dX3_init_9 (fun H locs hP hD hS => ?_)
  have hP : va_P D vwCl [(h0, .inr (3, [.ref q1, .null, .null, .null, .null, .int 0])), (q1, .inl (cI, 30, .inl (fun _ => 0)))] H := hP
  have hD : va_D A [(h0, .inr (3, [.ref q1, .null, .null, .null, .null, .int 0])), (q1, .inl (cI, 30, .inl (fun _ => 0)))] := hD
  refine lv_aload_n hx hb dX3_init_12 rfl (lv_at hl 0 rfl) ?_
  refine lv_bipush (v := nI 30) hx hb dX3_init_13 (by decide) ?_
  refine z_newaI (D := D) 30 hx hb haI hcI hK hP hD hS hA (by decide) (Nat.le_of_ble_eq_true rfl) (Nat.le_of_ble_eq_true rfl) dX3_init_15 (fun q2 H hK2 hP hD hS => ?_)
  have hKI := hK2.sub (tys' := [(cI, .int)]) [0] rfl
  have hP : va_P D vwCl [(h0, .inr (3, [.ref q1, .null, .null, .null, .null, .int 0])), (q1, .inl (cI, 30, .inl (fun _ => 0))), (q2, .inl (cI, 30, .inl (fun _ => 0)))] H := hP
  have hD : va_D A [(h0, .inr (3, [.ref q1, .null, .null, .null, .null, .int 0])), (q1, .inl (cI, 30, .inl (fun _ => 0))), (q2, .inl (cI, 30, .inl (fun _ => 0)))] := hD
  refine W.widen (k := 2) (n := 60) (by omega) (by omega) ?_
  refine va_putF (D := D) (ci := 3) (v := .ref q2) (ty := .array .int) (C := RX3) (T := TX3) (N := 6) hx hb hts i3 tyX3 tyX3_ok nmX3 hown hK hP hD hS 0 rfl rfl 1 (by decide) fl_13 (fun _ h9 => h9) rfl hin rfl (by decide +kernel) rfl rfl (Nat.le_of_ble_eq_true rfl) dX3_init_17 (fun H locs hP hD hS => ?_)
  have hP : va_P D vwCl [(h0, .inr (3, [.ref q1, .ref q2, .null, .null, .null, .int 0])), (q1, .inl (cI, 30, .inl (fun _ => 0))), (q2, .inl (cI, 30, .inl (fun _ => 0)))] H := hP
  have hD : va_D A [(h0, .inr (3, [.ref q1, .ref q2, .null, .null, .null, .int 0])), (q1, .inl (cI, 30, .inl (fun _ => 0))), (q2, .inl (cI, 30, .inl (fun _ => 0)))] := hD
  refine lv_aload_n hx hb dX3_init_20 rfl (lv_at hl 0 rfl) ?_
  refine lv_bipush (v := nI 30) hx hb dX3_init_21 (by decide) ?_
  refine z_newaI (D := D) 30 hx hb haI hcI hK hP hD hS hA (by decide) (Nat.le_of_ble_eq_true rfl) (Nat.le_of_ble_eq_true rfl) dX3_init_23 (fun q3 H hK2 hP hD hS => ?_)
  have hKI := hK2.sub (tys' := [(cI, .int)]) [0] rfl
  have hP : va_P D vwCl [(h0, .inr (3, [.ref q1, .ref q2, .null, .null, .null, .int 0])), (q1, .inl (cI, 30, .inl (fun _ => 0))), (q2, .inl (cI, 30, .inl (fun _ => 0))), (q3, .inl (cI, 30, .inl (fun _ => 0)))] H := hP
  have hD : va_D A [(h0, .inr (3, [.ref q1, .ref q2, .null, .null, .null, .int 0])), (q1, .inl (cI, 30, .inl (fun _ => 0))), (q2, .inl (cI, 30, .inl (fun _ => 0))), (q3, .inl (cI, 30, .inl (fun _ => 0)))] := hD
  refine W.widen (k := 3) (n := 90) (by omega) (by omega) ?_
  refine va_putF (D := D) (ci := 3) (v := .ref q3) (ty := .array .int) (C := RX3) (T := TX3) (N := 6) hx hb hts i3 tyX3 tyX3_ok nmX3 hown hK hP hD hS 0 rfl rfl 2 (by decide) fl_16 (fun _ h9 => h9) rfl hin rfl (by decide +kernel) rfl rfl (Nat.le_of_ble_eq_true rfl) dX3_init_25 (fun H locs hP hD hS => ?_)
  have hP : va_P D vwCl [(h0, .inr (3, [.ref q1, .ref q2, .ref q3, .null, .null, .int 0])), (q1, .inl (cI, 30, .inl (fun _ => 0))), (q2, .inl (cI, 30, .inl (fun _ => 0))), (q3, .inl (cI, 30, .inl (fun _ => 0)))] H := hP
  have hD : va_D A [(h0, .inr (3, [.ref q1, .ref q2, .ref q3, .null, .null, .int 0])), (q1, .inl (cI, 30, .inl (fun _ => 0))), (q2, .inl (cI, 30, .inl (fun _ => 0))), (q3, .inl (cI, 30, .inl (fun _ => 0)))] := hD
  refine lv_aload_n hx hb dX3_init_28 rfl (lv_at hl 0 rfl) ?_
  refine lv_bipush (v := nI 30) hx hb dX3_init_29 (by decide) ?_
  refine z_newaI (D := D) 30 hx hb haI hcI hK hP hD hS hA (by decide) (Nat.le_of_ble_eq_true rfl) (Nat.le_of_ble_eq_true rfl) dX3_init_31 (fun q4 H hK2 hP hD hS => ?_)
  have hKI := hK2.sub (tys' := [(cI, .int)]) [0] rfl
  have hP : va_P D vwCl [(h0, .inr (3, [.ref q1, .ref q2, .ref q3, .null, .null, .int 0])), (q1, .inl (cI, 30, .inl (fun _ => 0))), (q2, .inl (cI, 30, .inl (fun _ => 0))), (q3, .inl (cI, 30, .inl (fun _ => 0))), (q4, .inl (cI, 30, .inl (fun _ => 0)))] H := hP
  have hD : va_D A [(h0, .inr (3, [.ref q1, .ref q2, .ref q3, .null, .null, .int 0])), (q1, .inl (cI, 30, .inl (fun _ => 0))), (q2, .inl (cI, 30, .inl (fun _ => 0))), (q3, .inl (cI, 30, .inl (fun _ => 0))), (q4, .inl (cI, 30, .inl (fun _ => 0)))] := hD
  refine W.widen (k := 4) (n := 120) (by omega) (by omega) ?_
  refine va_putF (D := D) (ci := 3) (v := .ref q4) (ty := .array .int) (C := RX3) (T := TX3) (N := 6) hx hb hts i3 tyX3 tyX3_ok nmX3 hown hK hP hD hS 0 rfl rfl 3 (by decide) fl_19 (fun _ h9 => h9) rfl hin rfl (by decide +kernel) rfl rfl (Nat.le_of_ble_eq_true rfl) dX3_init_33 (fun H locs hP hD hS => ?_)
  have hP : va_P D vwCl [(h0, .inr (3, [.ref q1, .ref q2, .ref q3, .ref q4, .null, .int 0])), (q1, .inl (cI, 30, .inl (fun _ => 0))), (q2, .inl (cI, 30, .inl (fun _ => 0))), (q3, .inl (cI, 30, .inl (fun _ => 0))), (q4, .inl (cI, 30, .inl (fun _ => 0)))] H := hP
  have hD : va_D A [(h0, .inr (3, [.ref q1, .ref q2, .ref q3, .ref q4, .null, .int 0])), (q1, .inl (cI, 30, .inl (fun _ => 0))), (q2, .inl (cI, 30, .inl (fun _ => 0))), (q3, .inl (cI, 30, .inl (fun _ => 0))), (q4, .inl (cI, 30, .inl (fun _ => 0)))] := hD
  refine lv_aload_n hx hb dX3_init_36 rfl (lv_at hl 0 rfl) ?_
  refine lv_bipush (v := nI 30) hx hb dX3_init_37 (by decide) ?_
  refine z_newaZ (D := D) 30 hx hb haZ hcZ hK hP hD hS hA (by decide) (Nat.le_of_ble_eq_true rfl) (Nat.le_of_ble_eq_true rfl) dX3_init_39 (fun q5 H hK2 hP hD hS => ?_)
  have hKZ := hK2.sub (tys' := [(cZ, .boolean)]) [0] rfl
  have hP : va_P D vwCl [(h0, .inr (3, [.ref q1, .ref q2, .ref q3, .ref q4, .null, .int 0])), (q1, .inl (cI, 30, .inl (fun _ => 0))), (q2, .inl (cI, 30, .inl (fun _ => 0))), (q3, .inl (cI, 30, .inl (fun _ => 0))), (q4, .inl (cI, 30, .inl (fun _ => 0))), (q5, .inl (cZ, 30, .inl (fun _ => 0)))] H := hP
  have hD : va_D A [(h0, .inr (3, [.ref q1, .ref q2, .ref q3, .ref q4, .null, .int 0])), (q1, .inl (cI, 30, .inl (fun _ => 0))), (q2, .inl (cI, 30, .inl (fun _ => 0))), (q3, .inl (cI, 30, .inl (fun _ => 0))), (q4, .inl (cI, 30, .inl (fun _ => 0))), (q5, .inl (cZ, 30, .inl (fun _ => 0)))] := hD
  refine W.widen (k := 5) (n := 150) (by omega) (by omega) ?_
  refine va_putF (D := D) (ci := 3) (v := .ref q5) (ty := .array .boolean) (C := RX3) (T := TX3) (N := 6) hx hb hts i3 tyX3 tyX3_ok nmX3 hown hK hP hD hS 0 rfl rfl 4 (by decide) fl_22 (fun _ h9 => h9) rfl hin rfl (by decide +kernel) rfl rfl (Nat.le_of_ble_eq_true rfl) dX3_init_41 (fun H locs hP hD hS => ?_)
  have hP : va_P D vwCl [(h0, .inr (3, [.ref q1, .ref q2, .ref q3, .ref q4, .ref q5, .int 0])), (q1, .inl (cI, 30, .inl (fun _ => 0))), (q2, .inl (cI, 30, .inl (fun _ => 0))), (q3, .inl (cI, 30, .inl (fun _ => 0))), (q4, .inl (cI, 30, .inl (fun _ => 0))), (q5, .inl (cZ, 30, .inl (fun _ => 0)))] H := hP
  have hD : va_D A [(h0, .inr (3, [.ref q1, .ref q2, .ref q3, .ref q4, .ref q5, .int 0])), (q1, .inl (cI, 30, .inl (fun _ => 0))), (q2, .inl (cI, 30, .inl (fun _ => 0))), (q3, .inl (cI, 30, .inl (fun _ => 0))), (q4, .inl (cI, 30, .inl (fun _ => 0))), (q5, .inl (cZ, 30, .inl (fun _ => 0)))] := hD
  refine lv_aload_n hx hb dX3_init_44 rfl (lv_at hl 0 rfl) ?_
  refine lv_iconst (v := 0) hx hb dX3_init_45 rfl ?_
  refine va_put (D := D) (ci := 3) (v := .int 0) (ty := .int) (C := RX3) (T := TX3) (N := 6) hx hb hts i3 tyX3 tyX3_ok nmX3 hown hK hP hD hS 0 rfl rfl 5 (by decide) fl_26 (fun _ h9 => h9) rfl (by decide +kernel) rfl rfl (Nat.le_of_ble_eq_true rfl) dX3_init_46 (fun H locs hP hD hS => ?_)
  have hP : va_P D vwCl [(h0, .inr (3, [.ref q1, .ref q2, .ref q3, .ref q4, .ref q5, .int 0])), (q1, .inl (cI, 30, .inl (fun _ => 0))), (q2, .inl (cI, 30, .inl (fun _ => 0))), (q3, .inl (cI, 30, .inl (fun _ => 0))), (q4, .inl (cI, 30, .inl (fun _ => 0))), (q5, .inl (cZ, 30, .inl (fun _ => 0)))] H := hP
  have hD : va_D A [(h0, .inr (3, [.ref q1, .ref q2, .ref q3, .ref q4, .ref q5, .int 0])), (q1, .inl (cI, 30, .inl (fun _ => 0))), (q2, .inl (cI, 30, .inl (fun _ => 0))), (q3, .inl (cI, 30, .inl (fun _ => 0))), (q4, .inl (cI, 30, .inl (fun _ => 0))), (q5, .inl (cZ, 30, .inl (fun _ => 0)))] := hD
  have hKF : va_K D vwCl [(cI, .int), (cZ, .boolean)] s := (hKI.app hKZ)
  exact W.vret hx hb hr (fun t ht hW => ⟨⟨(), rfl, trivial, q1, q2, q3, q4, q5, by rw [ht]; exact hP, va_K.moved hW.alike hKF, hD⟩, hS.F ht⟩) hS.2.2 dX3_init_49

set_option maxHeartbeats 4000000 in
set_option maxRecDepth 100000 in
theorem kX2_init (l : Launch) (D : va_G) (cI cZ : ClassId) (h0 : Nat) (sz : Nat) : Met l yX2_init wsX2_init ({ frames := 1, cells := 0, slots := 0, locals := 20 } : Room) (zC D cI cZ [(h0, .inr (2, [.int 0, .int 0]))] sz [.ref h0]) (va_Qv (fun (_ : Unit) => True) (fun _ t => va_P D vwCl [(h0, .inr (2, [.int 0, .int 0]))] t.heap ∧ va_K D vwCl [] t ∧ va_D (va_A [(h0, .inr (2, [.int 0, .int 0]))] sz) [(h0, .inr (2, [.int 0, .int 0]))]) (va_A [(h0, .inr (2, [.int 0, .int 0]))] sz)) 0 0 (va_A [(h0, .inr (2, [.int 0, .int 0]))] sz) := by
  refine Met.ofW (cc := cX2_init) (maxL := 1) (ret := none) (by decide) rfl ?_
  intro p e s m args below meth c s₁ B hml hv
  obtain ⟨rfl, hsz, hP, hK, hD0, hcI, hcZ⟩ := hv
  have hx := B.exec
  have hb := B.bytes
  have hr := B.returns
  have hts := atoms_spec (ws := wsX2_init) B.pre
  have hown : s.vm.findClass RX2 = some m.cls := findClass_of_methodNamed B.named
  have hlocks := B.notSynchronized
  have hin : meth.name = "<init>" := (name_of_methodNamed B.named B.method).1
  subst hsz
  have hD := hD0.self (sz := s.heap.size)
  generalize hAe : va_A [(h0, .inr (2, [.int 0, .int 0]))] s.heap.size = A at hD ⊢
  have hA : ∀ q : Nat, s.heap.size ≤ q → A q := fun q h => by rw [← hAe]; exact Or.inr h
  have hS : va_S A s.heap s.heap [] := va_S.rf
  have i2 : ∀ w ∈ u_ws RX2 TX2 2, w ∈ wsX2_init := by decide +kernel
  have fl_7 := hts (.fieldLink RX2 7 "SignOnHouse$Keys" "signing" "I") (by decide +kernel)
  have fl_13 := hts (.fieldLink RX2 13 "SignOnHouse$Keys" "endOfBefore" "I") (by decide +kernel)
  have hl := lv_entry ([.ref h0]) (n := 1) (Nat.le_of_ble_eq_true rfl)
  rw [lg_entry_eq]
  generalize (lg_sl ([.ref h0]) ++ List.replicate (1 - (lg_sl ([.ref h0])).length) Slot.unset).toArray = ls at hl ⊢
  have hl : lv_has ls 1 [(0, .ref h0)] := hl
  refine lv_aload_n hx hb dX2_init_0 rfl (lv_at hl 0 rfl) ?_
  refine W.objInit hx hb hown (hts (.methodLink RX2 1 objectInit) (by decide +kernel)) (hts (.instanceMethod objectInit) (by decide +kernel)) (hts (.code objectInit ⟨#[0xb1]⟩ 1 none) (by decide +kernel)) rfl (by rw [hml]; exact hl.1) rfl dX2_init_1 (Nat.le_of_ble_eq_true rfl) (Nat.le_of_ble_eq_true rfl) ?_
  refine W.eq (g2 := F0 m 4 ls []) rfl ?_
  refine lv_aload_n hx hb dX2_init_4 rfl (lv_at hl 0 rfl) ?_
  refine lv_iconst (v := 0) hx hb dX2_init_5 rfl ?_
  refine va_put (D := D) (ci := 2) (v := .int 0) (ty := .int) (C := RX2) (T := TX2) (N := 2) hx hb hts i2 tyX2 tyX2_ok nmX2 hown hK hP hD hS 0 rfl rfl 0 (by decide) fl_7 (fun _ h9 => h9) rfl (by decide +kernel) rfl rfl (Nat.le_of_ble_eq_true rfl) dX2_init_6 (fun H locs hP hD hS => ?_)
  have hP : va_P D vwCl [(h0, .inr (2, [.int 0, .int 0]))] H := hP
  have hD : va_D A [(h0, .inr (2, [.int 0, .int 0]))] := hD
  refine lv_aload_n hx hb dX2_init_9 rfl (lv_at hl 0 rfl) ?_
  refine lv_iconst (v := 0) hx hb dX2_init_10 rfl ?_
  refine va_put (D := D) (ci := 2) (v := .int 0) (ty := .int) (C := RX2) (T := TX2) (N := 2) hx hb hts i2 tyX2 tyX2_ok nmX2 hown hK hP hD hS 0 rfl rfl 1 (by decide) fl_13 (fun _ h9 => h9) rfl (by decide +kernel) rfl rfl (Nat.le_of_ble_eq_true rfl) dX2_init_11 (fun H locs hP hD hS => ?_)
  have hP : va_P D vwCl [(h0, .inr (2, [.int 0, .int 0]))] H := hP
  have hD : va_D A [(h0, .inr (2, [.int 0, .int 0]))] := hD
  have hKF := hK
  exact W.vret hx hb hr (fun t ht hW => ⟨⟨(), rfl, trivial, by rw [ht]; exact hP, va_K.moved hW.alike hKF, hD⟩, hS.F ht⟩) hS.2.2 dX2_init_14

set_option maxHeartbeats 4000000 in
set_option maxRecDepth 100000 in
theorem kX0_init (l : Launch) (D : va_G) (cI cZ : ClassId) (h0 : Nat) (sz : Nat) : Met l yX0_init wsX0_init ({ frames := 1, cells := 3, slots := 484, locals := 23 } : Room) (zC D cI cZ [(h0, .inr (0, [.null, .null, .null]))] sz [.ref h0]) (va_Qv (fun (_ : Unit) => True) (fun _ t => ∃ q1 q2 q3 : Nat, va_P D vwCl [(h0, .inr (0, [.ref q2, .ref q3, .ref q1])), (q1, .inl (cI, 240, .inl (fun _ => 0))), (q2, .inl (cI, 4, .inl (fillA (fun _ => 0) 10 4))), (q3, .inl (cI, 240, .inl (fillA (fun _ => 0) (-1) 240)))] t.heap ∧ va_K D vwCl [(cI, .int)] t ∧ va_D (va_A [(h0, .inr (0, [.null, .null, .null]))] sz) [(h0, .inr (0, [.ref q2, .ref q3, .ref q1])), (q1, .inl (cI, 240, .inl (fun _ => 0))), (q2, .inl (cI, 4, .inl (fillA (fun _ => 0) 10 4))), (q3, .inl (cI, 240, .inl (fillA (fun _ => 0) (-1) 240)))]) (va_A [(h0, .inr (0, [.null, .null, .null]))] sz)) 3 484 (va_A [(h0, .inr (0, [.null, .null, .null]))] sz) := by
  refine Met.ofW (cc := cX0_init) (maxL := 1) (ret := none) (by decide) rfl ?_
  intro p e s m args below meth c s₁ B hml hv
  obtain ⟨rfl, hsz, hP, hK, hD0, hcI, hcZ⟩ := hv
  have hx := B.exec
  have hb := B.bytes
  have hr := B.returns
  have hts := atoms_spec (ws := wsX0_init) B.pre
  have hown : s.vm.findClass RX0 = some m.cls := findClass_of_methodNamed B.named
  have hlocks := B.notSynchronized
  have hin : meth.name = "<init>" := (name_of_methodNamed B.named B.method).1
  subst hsz
  have hD := hD0.self (sz := s.heap.size)
  generalize hAe : va_A [(h0, .inr (0, [.null, .null, .null]))] s.heap.size = A at hD ⊢
  have hA : ∀ q : Nat, s.heap.size ≤ q → A q := fun q h => by rw [← hAe]; exact Or.inr h
  have hS : va_S A s.heap s.heap [] := va_S.rf
  have haI := hts (.arrayClass .int) (by decide +kernel)
  have i0 : ∀ w ∈ u_ws RX0 TX0 3, w ∈ wsX0_init := by decide +kernel
  have fl_9 := hts (.fieldLink RX0 9 "SignOnHouse$Decisions" "caches" "[I") (by decide +kernel)
  have fl_15 := hts (.fieldLink RX0 15 "SignOnHouse$Decisions" "answers" "[I") (by decide +kernel)
  have fl_18 := hts (.fieldLink RX0 18 "SignOnHouse$Decisions" "keptSince" "[I") (by decide +kernel)
  have hl := lv_entry ([.ref h0]) (n := 1) (Nat.le_of_ble_eq_true rfl)
  rw [lg_entry_eq]
  generalize (lg_sl ([.ref h0]) ++ List.replicate (1 - (lg_sl ([.ref h0])).length) Slot.unset).toArray = ls at hl ⊢
  have hl : lv_has ls 1 [(0, .ref h0)] := hl
  refine lv_aload_n hx hb dX0_init_0 rfl (lv_at hl 0 rfl) ?_
  refine W.objInit hx hb hown (hts (.methodLink RX0 3 objectInit) (by decide +kernel)) (hts (.instanceMethod objectInit) (by decide +kernel)) (hts (.code objectInit ⟨#[0xb1]⟩ 1 none) (by decide +kernel)) rfl (by rw [hml]; exact hl.1) rfl dX0_init_1 (Nat.le_of_ble_eq_true rfl) (Nat.le_of_ble_eq_true rfl) ?_
  refine W.eq (g2 := F0 m 4 ls []) rfl ?_
  refine lv_aload_n hx hb dX0_init_4 rfl (lv_at hl 0 rfl) ?_
  refine lv_iconst (v := nI 4) hx hb dX0_init_5 rfl ?_
  refine z_newaI (D := D) 4 hx hb haI hcI hK hP hD hS hA (by decide) (Nat.le_of_ble_eq_true rfl) (Nat.le_of_ble_eq_true rfl) dX0_init_6 (fun q1 H hK2 hP hD hS => ?_)
  have hKI := hK2.sub (tys' := [(cI, .int)]) [0] rfl
  have hP : va_P D vwCl [(h0, .inr (0, [.null, .null, .null])), (q1, .inl (cI, 4, .inl (fun _ => 0)))] H := hP
  have hD : va_D A [(h0, .inr (0, [.null, .null, .null])), (q1, .inl (cI, 4, .inl (fun _ => 0)))] := hD
  refine W.widen (k := 1) (n := 4) (by omega) (by omega) ?_
  refine va_putF (D := D) (ci := 0) (v := .ref q1) (ty := .array .int) (C := RX0) (T := TX0) (N := 3) hx hb hts i0 tyX0 tyX0_ok nmX0 hown hK hP hD hS 0 rfl rfl 0 (by decide) fl_9 (fun _ h9 => h9) rfl hin rfl (by decide +kernel) rfl rfl (Nat.le_of_ble_eq_true rfl) dX0_init_8 (fun H locs hP hD hS => ?_)
  have hP : va_P D vwCl [(h0, .inr (0, [.ref q1, .null, .null])), (q1, .inl (cI, 4, .inl (fun _ => 0)))] H := hP
  have hD : va_D A [(h0, .inr (0, [.ref q1, .null, .null])), (q1, .inl (cI, 4, .inl (fun _ => 0)))] := hD
  refine lv_aload_n hx hb dX0_init_11 rfl (lv_at hl 0 rfl) ?_
  refine lv_sipush (v := nI 240) hx hb dX0_init_12 (by decide) ?_
  refine z_newaI (D := D) 240 hx hb haI hcI hK hP hD hS hA (by decide) (Nat.le_of_ble_eq_true rfl) (Nat.le_of_ble_eq_true rfl) dX0_init_15 (fun q2 H hK2 hP hD hS => ?_)
  have hKI := hK2.sub (tys' := [(cI, .int)]) [0] rfl
  have hP : va_P D vwCl [(h0, .inr (0, [.ref q1, .null, .null])), (q1, .inl (cI, 4, .inl (fun _ => 0))), (q2, .inl (cI, 240, .inl (fun _ => 0)))] H := hP
  have hD : va_D A [(h0, .inr (0, [.ref q1, .null, .null])), (q1, .inl (cI, 4, .inl (fun _ => 0))), (q2, .inl (cI, 240, .inl (fun _ => 0)))] := hD
  refine W.widen (k := 2) (n := 244) (by omega) (by omega) ?_
  refine va_putF (D := D) (ci := 0) (v := .ref q2) (ty := .array .int) (C := RX0) (T := TX0) (N := 3) hx hb hts i0 tyX0 tyX0_ok nmX0 hown hK hP hD hS 0 rfl rfl 1 (by decide) fl_15 (fun _ h9 => h9) rfl hin rfl (by decide +kernel) rfl rfl (Nat.le_of_ble_eq_true rfl) dX0_init_17 (fun H locs hP hD hS => ?_)
  have hP : va_P D vwCl [(h0, .inr (0, [.ref q1, .ref q2, .null])), (q1, .inl (cI, 4, .inl (fun _ => 0))), (q2, .inl (cI, 240, .inl (fun _ => 0)))] H := hP
  have hD : va_D A [(h0, .inr (0, [.ref q1, .ref q2, .null])), (q1, .inl (cI, 4, .inl (fun _ => 0))), (q2, .inl (cI, 240, .inl (fun _ => 0)))] := hD
  refine lv_aload_n hx hb dX0_init_20 rfl (lv_at hl 0 rfl) ?_
  refine lv_sipush (v := nI 240) hx hb dX0_init_21 (by decide) ?_
  refine z_newaI (D := D) 240 hx hb haI hcI hK hP hD hS hA (by decide) (Nat.le_of_ble_eq_true rfl) (Nat.le_of_ble_eq_true rfl) dX0_init_24 (fun q3 H hK2 hP hD hS => ?_)
  have hKI := hK2.sub (tys' := [(cI, .int)]) [0] rfl
  have hP : va_P D vwCl [(h0, .inr (0, [.ref q1, .ref q2, .null])), (q1, .inl (cI, 4, .inl (fun _ => 0))), (q2, .inl (cI, 240, .inl (fun _ => 0))), (q3, .inl (cI, 240, .inl (fun _ => 0)))] H := hP
  have hD : va_D A [(h0, .inr (0, [.ref q1, .ref q2, .null])), (q1, .inl (cI, 4, .inl (fun _ => 0))), (q2, .inl (cI, 240, .inl (fun _ => 0))), (q3, .inl (cI, 240, .inl (fun _ => 0)))] := hD
  refine W.widen (k := 3) (n := 484) (by omega) (by omega) ?_
  refine va_putF (D := D) (ci := 0) (v := .ref q3) (ty := .array .int) (C := RX0) (T := TX0) (N := 3) hx hb hts i0 tyX0 tyX0_ok nmX0 hown hK hP hD hS 0 rfl rfl 2 (by decide) fl_18 (fun _ h9 => h9) rfl hin rfl (by decide +kernel) rfl rfl (Nat.le_of_ble_eq_true rfl) dX0_init_26 (fun H locs hP hD hS => ?_)
  have hP : va_P D vwCl [(h0, .inr (0, [.ref q1, .ref q2, .ref q3])), (q1, .inl (cI, 4, .inl (fun _ => 0))), (q2, .inl (cI, 240, .inl (fun _ => 0))), (q3, .inl (cI, 240, .inl (fun _ => 0)))] H := hP
  have hD : va_D A [(h0, .inr (0, [.ref q1, .ref q2, .ref q3])), (q1, .inl (cI, 4, .inl (fun _ => 0))), (q2, .inl (cI, 240, .inl (fun _ => 0))), (q3, .inl (cI, 240, .inl (fun _ => 0)))] := hD
  refine lv_aload_n hx hb dX0_init_29 rfl (lv_at hl 0 rfl) ?_
  refine va_get (D := D) (ci := 0) (v := .ref q1) (C := RX0) (T := TX0) (N := 3) hx hb hts i0 hown hK hP 0 rfl rfl 0 (by decide) fl_9 (fun _ h9 => h9) rfl dX0_init_30 ?_
  refine lv_bipush (v := 10) hx hb dX0_init_33 (by decide) ?_
  have hPc := hP.sub (ws' := [(q1, .inl (cI, 4, .inl (fun _ => 0)))]) [1] rfl
  have hDc := hD.sub (ws' := [(q1, .inl (cI, 4, .inl (fun _ => 0)))]) [1] (by decide) rfl
  have hFc := va_free (wc := [(q1, .inl (cI, 4, .inl (fun _ => 0)))]) hD hS hA [1] rfl
  refine va_callv (va_runS (As := [.ref q1, .int 10]) (rest := []) ⟨hx, hb, hml, hown, hts⟩ (kJ7_fill_53178 l D cI q1 4 (fun _ => 0) 10 _ (by decide)) (va_cwS 2 hts gX0_init_J7_fill_53178 rfl rfl rfl (by decide +kernel) ⟨Nat.le_of_ble_eq_true rfl, Nat.le_of_ble_eq_true rfl⟩) (zW_preS hKI hPc hDc) rfl rfl hl.1 rfl (lv_room (Nat.le_of_ble_eq_true rfl)) dX0_init_35 ⟨Nat.le_of_ble_eq_true rfl, Nat.le_of_ble_eq_true rfl⟩) hS (fun q _ h => hFc q h) hFc (fun u t H1 locs ht hvm _ hB hz1 hk1 hS => ?_)
  obtain ⟨hP1, -, hD1⟩ := hB
  rw [ht] at hP1
  obtain ⟨hP, hD⟩ := va_join (wr := [(h0, .inr (0, [.ref q1, .ref q2, .ref q3])), (q2, .inl (cI, 240, .inl (fun _ => 0))), (q3, .inl (cI, 240, .inl (fun _ => 0)))]) (w1 := [(q1, .inl (cI, 4, .inl (fillA (fun _ => 0) 10 4)))]) hP hD [1] [0, 2, 3] rfl rfl (by decide) (by decide) hk1 hFc hP1 hD1
  generalize H1 = H at hP hS ⊢
  have hP : va_P D vwCl [(h0, .inr (0, [.ref q1, .ref q2, .ref q3])), (q2, .inl (cI, 240, .inl (fun _ => 0))), (q3, .inl (cI, 240, .inl (fun _ => 0))), (q1, .inl (cI, 4, .inl (fillA (fun _ => 0) 10 4)))] H := hP
  have hD : va_D A [(h0, .inr (0, [.ref q1, .ref q2, .ref q3])), (q2, .inl (cI, 240, .inl (fun _ => 0))), (q3, .inl (cI, 240, .inl (fun _ => 0))), (q1, .inl (cI, 4, .inl (fillA (fun _ => 0) 10 4)))] := hD
  refine W.widen (k := 3) (n := 484) (by omega) (by omega) ?_
  refine lv_aload_n hx hb dX0_init_38 rfl (lv_at hl 0 rfl) ?_
  refine va_get (D := D) (ci := 0) (v := .ref q2) (C := RX0) (T := TX0) (N := 3) hx hb hts i0 hown hK hP 0 rfl rfl 1 (by decide) fl_15 (fun _ h9 => h9) rfl dX0_init_39 ?_
  refine lv_iconst (v := (-1)) hx hb dX0_init_42 rfl ?_
  have hPc := hP.sub (ws' := [(q2, .inl (cI, 240, .inl (fun _ => 0)))]) [1] rfl
  have hDc := hD.sub (ws' := [(q2, .inl (cI, 240, .inl (fun _ => 0)))]) [1] (by decide) rfl
  have hFc := va_free (wc := [(q2, .inl (cI, 240, .inl (fun _ => 0)))]) hD hS hA [1] rfl
  refine va_callv (va_runS (As := [.ref q2, .int (-1)]) (rest := []) ⟨hx, hb, hml, hown, hts⟩ (kJ7_fill_53178 l D cI q2 240 (fun _ => 0) (-1) _ (by decide)) (va_cwS 2 hts gX0_init_J7_fill_53178 rfl rfl rfl (by decide +kernel) ⟨Nat.le_of_ble_eq_true rfl, Nat.le_of_ble_eq_true rfl⟩) (zW_preS hKI hPc hDc) rfl rfl hl.1 rfl (lv_room (Nat.le_of_ble_eq_true rfl)) dX0_init_43 ⟨Nat.le_of_ble_eq_true rfl, Nat.le_of_ble_eq_true rfl⟩) hS (fun q _ h => hFc q h) hFc (fun u t H1 locs ht hvm _ hB hz1 hk1 hS => ?_)
  obtain ⟨hP1, -, hD1⟩ := hB
  rw [ht] at hP1
  obtain ⟨hP, hD⟩ := va_join (wr := [(h0, .inr (0, [.ref q1, .ref q2, .ref q3])), (q3, .inl (cI, 240, .inl (fun _ => 0))), (q1, .inl (cI, 4, .inl (fillA (fun _ => 0) 10 4)))]) (w1 := [(q2, .inl (cI, 240, .inl (fillA (fun _ => 0) (-1) 240)))]) hP hD [1] [0, 2, 3] rfl rfl (by decide) (by decide) hk1 hFc hP1 hD1
  generalize H1 = H at hP hS ⊢
  have hP : va_P D vwCl [(h0, .inr (0, [.ref q1, .ref q2, .ref q3])), (q3, .inl (cI, 240, .inl (fun _ => 0))), (q1, .inl (cI, 4, .inl (fillA (fun _ => 0) 10 4))), (q2, .inl (cI, 240, .inl (fillA (fun _ => 0) (-1) 240)))] H := hP
  have hD : va_D A [(h0, .inr (0, [.ref q1, .ref q2, .ref q3])), (q3, .inl (cI, 240, .inl (fun _ => 0))), (q1, .inl (cI, 4, .inl (fillA (fun _ => 0) 10 4))), (q2, .inl (cI, 240, .inl (fillA (fun _ => 0) (-1) 240)))] := hD
  refine W.widen (k := 3) (n := 484) (by omega) (by omega) ?_
  have hKF : va_K D vwCl [(cI, .int)] s := hKI
  exact W.vret hx hb hr (fun t ht hW => ⟨⟨(), rfl, trivial, q3, q1, q2, by rw [ht]; exact hP, va_K.moved hW.alike hKF, hD⟩, hS.F ht⟩) hS.2.2 dX0_init_46

set_option maxHeartbeats 4000000 in
set_option maxRecDepth 100000 in
theorem kX4_init (l : Launch) (D : va_G) (cI cZ : ClassId) (h0 : Nat) (sz : Nat) : Met l yX4_init wsX4_init ({ frames := 2, cells := 18, slots := 749, locals := 43 } : Room) (zC D cI cZ [(h0, .inr (4, [.null, .null, .null, .null, .null, .null, .int 0]))] sz [.ref h0]) (va_Qv (fun (_ : Unit) => True) (fun _ t => ∃ q1 q2 q3 q4 q5 q6 q7 q8 q9 q10 q11 q12 q13 q14 q15 q16 q17 q18 : Nat, va_P D vwCl [(h0, .inr (4, [.ref q1, .ref q6, .ref q12, .ref q13, .ref q17, .ref q18, .int 0])), (q1, .inr (1, [.ref q2, .ref q3, .ref q4, .ref q5])), (q2, .inl (cI, 10, .inl (fun _ => 0))), (q3, .inl (cI, 8, .inl (fun _ => 0))), (q4, .inl (cI, 6, .inl (fun _ => 0))), (q5, .inl (cI, 6, .inl (fun _ => 0))), (q6, .inr (3, [.ref q7, .ref q8, .ref q9, .ref q10, .ref q11, .int 0])), (q7, .inl (cI, 30, .inl (fun _ => 0))), (q8, .inl (cI, 30, .inl (fun _ => 0))), (q9, .inl (cI, 30, .inl (fun _ => 0))), (q10, .inl (cI, 30, .inl (fun _ => 0))), (q11, .inl (cZ, 30, .inl (fun _ => 0))), (q12, .inr (2, [.int 0, .int 0])), (q13, .inr (0, [.ref q15, .ref q16, .ref q14])), (q14, .inl (cI, 240, .inl (fun _ => 0))), (q15, .inl (cI, 4, .inl (fillA (fun _ => 0) 10 4))), (q16, .inl (cI, 240, .inl (fillA (fun _ => 0) (-1) 240))), (q17, .inl (cI, 10, .inl (fun _ => 0))), (q18, .inl (cI, 60, .inl (fun _ => 0)))] t.heap ∧ va_K D vwCl [(cI, .int), (cZ, .boolean)] t ∧ va_D (va_A [(h0, .inr (4, [.null, .null, .null, .null, .null, .null, .int 0]))] sz) [(h0, .inr (4, [.ref q1, .ref q6, .ref q12, .ref q13, .ref q17, .ref q18, .int 0])), (q1, .inr (1, [.ref q2, .ref q3, .ref q4, .ref q5])), (q2, .inl (cI, 10, .inl (fun _ => 0))), (q3, .inl (cI, 8, .inl (fun _ => 0))), (q4, .inl (cI, 6, .inl (fun _ => 0))), (q5, .inl (cI, 6, .inl (fun _ => 0))), (q6, .inr (3, [.ref q7, .ref q8, .ref q9, .ref q10, .ref q11, .int 0])), (q7, .inl (cI, 30, .inl (fun _ => 0))), (q8, .inl (cI, 30, .inl (fun _ => 0))), (q9, .inl (cI, 30, .inl (fun _ => 0))), (q10, .inl (cI, 30, .inl (fun _ => 0))), (q11, .inl (cZ, 30, .inl (fun _ => 0))), (q12, .inr (2, [.int 0, .int 0])), (q13, .inr (0, [.ref q15, .ref q16, .ref q14])), (q14, .inl (cI, 240, .inl (fun _ => 0))), (q15, .inl (cI, 4, .inl (fillA (fun _ => 0) 10 4))), (q16, .inl (cI, 240, .inl (fillA (fun _ => 0) (-1) 240))), (q17, .inl (cI, 10, .inl (fun _ => 0))), (q18, .inl (cI, 60, .inl (fun _ => 0)))]) (va_A [(h0, .inr (4, [.null, .null, .null, .null, .null, .null, .int 0]))] sz)) 18 749 (va_A [(h0, .inr (4, [.null, .null, .null, .null, .null, .null, .int 0]))] sz) := by
  refine Met.ofW (cc := cX4_init) (maxL := 1) (ret := none) (by decide) rfl ?_
  intro p e s m args below meth c s₁ B hml hv
  obtain ⟨rfl, hsz, hP, hK, hD0, hcI, hcZ⟩ := hv
  have hx := B.exec
  have hb := B.bytes
  have hr := B.returns
  have hts := atoms_spec (ws := wsX4_init) B.pre
  have hown : s.vm.findClass RX4 = some m.cls := findClass_of_methodNamed B.named
  have hlocks := B.notSynchronized
  have hin : meth.name = "<init>" := (name_of_methodNamed B.named B.method).1
  subst hsz
  have hD := hD0.self (sz := s.heap.size)
  generalize hAe : va_A [(h0, .inr (4, [.null, .null, .null, .null, .null, .null, .int 0]))] s.heap.size = A at hD ⊢
  have hA : ∀ q : Nat, s.heap.size ≤ q → A q := fun q h => by rw [← hAe]; exact Or.inr h
  have hS : va_S A s.heap s.heap [] := va_S.rf
  have haI := hts (.arrayClass .int) (by decide +kernel)
  have i0 : ∀ w ∈ u_ws RX0 TX0 3, w ∈ wsX4_init := by decide +kernel
  have i1 : ∀ w ∈ u_ws RX1 TX1 4, w ∈ wsX4_init := by decide +kernel
  have i2 : ∀ w ∈ u_ws RX2 TX2 2, w ∈ wsX4_init := by decide +kernel
  have i3 : ∀ w ∈ u_ws RX3 TX3 6, w ∈ wsX4_init := by decide +kernel
  have i4 : ∀ w ∈ u_ws RX4 TX4 7, w ∈ wsX4_init := by decide +kernel
  have fl_10 := hts (.fieldLink RX4 10 "SignOnHouse" "groups" "LSignOnHouse$Groups;") (by decide +kernel)
  have fl_19 := hts (.fieldLink RX4 19 "SignOnHouse" "sessions" "LSignOnHouse$Sessions;") (by decide +kernel)
  have fl_26 := hts (.fieldLink RX4 26 "SignOnHouse" "keys" "LSignOnHouse$Keys;") (by decide +kernel)
  have fl_33 := hts (.fieldLink RX4 33 "SignOnHouse" "decisions" "LSignOnHouse$Decisions;") (by decide +kernel)
  have fl_37 := hts (.fieldLink RX4 37 "SignOnHouse" "risks" "[I") (by decide +kernel)
  have fl_41 := hts (.fieldLink RX4 41 "SignOnHouse" "glassEnds" "[I") (by decide +kernel)
  have fl_44 := hts (.fieldLink RX4 44 "SignOnHouse" "minute" "I") (by decide +kernel)
  have hl := lv_entry ([.ref h0]) (n := 1) (Nat.le_of_ble_eq_true rfl)
  rw [lg_entry_eq]
  generalize (lg_sl ([.ref h0]) ++ List.replicate (1 - (lg_sl ([.ref h0])).length) Slot.unset).toArray = ls at hl ⊢
  have hl : lv_has ls 1 [(0, .ref h0)] := hl
  refine lv_aload_n hx hb dX4_init_0 rfl (lv_at hl 0 rfl) ?_
  refine W.objInit hx hb hown (hts (.methodLink RX4 1 objectInit) (by decide +kernel)) (hts (.instanceMethod objectInit) (by decide +kernel)) (hts (.code objectInit ⟨#[0xb1]⟩ 1 none) (by decide +kernel)) rfl (by rw [hml]; exact hl.1) rfl dX4_init_1 (Nat.le_of_ble_eq_true rfl) (Nat.le_of_ble_eq_true rfl) ?_
  refine W.eq (g2 := F0 m 4 ls []) rfl ?_
  refine lv_aload_n hx hb dX4_init_4 rfl (lv_at hl 0 rfl) ?_
  refine va_new (D := D) (ci := 1) (fs := [.null, .null, .null, .null]) (C := RX1) (T := TX1) (N := 4) hx hb hts i1 tyX1 tyX1_ok hown (hts (.classLink RX4 7 RX1) (by decide +kernel)) (hts (.instantiable RX1 4) (by decide +kernel)) (hts (.initialized RX1) (by decide +kernel)) hK hP hD hS hA rfl (fun j hj => by rcases (show j = 0 ∨ j = 1 ∨ j = 2 ∨ j = 3 by omega) with rfl | rfl | rfl | rfl <;> rfl) (Nat.le_of_ble_eq_true rfl) (Nat.le_of_ble_eq_true rfl) dX4_init_5 (fun q1 H hP hD hS => ?_)
  have hP : va_P D vwCl [(h0, .inr (4, [.null, .null, .null, .null, .null, .null, .int 0])), (q1, .inr (1, [.null, .null, .null, .null]))] H := hP
  have hD : va_D A [(h0, .inr (4, [.null, .null, .null, .null, .null, .null, .int 0])), (q1, .inr (1, [.null, .null, .null, .null]))] := hD
  refine W.widen (k := 1) (n := 4) (by omega) (by omega) ?_
  refine lv_dup hx hb dX4_init_8 rfl ?_
  have hPc := hP.sub (ws' := [(q1, .inr (1, [.null, .null, .null, .null]))]) [1] rfl
  have hDc := hD.sub (ws' := [(q1, .inr (1, [.null, .null, .null, .null]))]) [1] (by decide) rfl
  have hFc := va_free (wc := [(q1, .inr (1, [.null, .null, .null, .null]))]) hD hS hA [1] rfl
  refine va_callv (va_runI (As := []) (rest := [.ref q1, .ref h0]) ⟨hx, hb, hml, hown, hts⟩ (kX1_init l D cI cZ q1 _) (cwI 0 hts gX4_init_X1_init rfl rfl rfl (hts (.initialized RX1) (by decide +kernel)) (hts (.methodLink RX4 9 yX1_init) (by decide +kernel)) (hts (.instanceMethod yX1_init) (by decide +kernel)) rfl (by decide +kernel) ⟨Nat.le_of_ble_eq_true rfl, Nat.le_of_ble_eq_true rfl⟩) (zC_preS hK hPc hDc hcI hcZ) rfl rfl hl.1 rfl (lv_room (Nat.le_of_ble_eq_true rfl)) dX4_init_9 ⟨Nat.le_of_ble_eq_true rfl, Nat.le_of_ble_eq_true rfl⟩) hS (fun q _ h => hFc q h) hFc (fun u t H1 locs ht hvm _ hB hz1 hk1 hS => ?_)
  obtain ⟨q2, q3, q4, q5, hP1, hK1, hD1⟩ := hB
  rw [ht] at hP1
  have hK1 := va_K.moved hvm.symm hK1
  obtain ⟨hP, hD⟩ := va_join (wr := [(h0, .inr (4, [.null, .null, .null, .null, .null, .null, .int 0]))]) (w1 := [(q1, .inr (1, [.ref q2, .ref q3, .ref q4, .ref q5])), (q2, .inl (cI, 10, .inl (fun _ => 0))), (q3, .inl (cI, 8, .inl (fun _ => 0))), (q4, .inl (cI, 6, .inl (fun _ => 0))), (q5, .inl (cI, 6, .inl (fun _ => 0)))]) hP hD [1] [0] rfl rfl (by decide) (by decide) hk1 hFc hP1 hD1
  generalize H1 = H at hP hS ⊢
  have hP : va_P D vwCl [(h0, .inr (4, [.null, .null, .null, .null, .null, .null, .int 0])), (q1, .inr (1, [.ref q2, .ref q3, .ref q4, .ref q5])), (q2, .inl (cI, 10, .inl (fun _ => 0))), (q3, .inl (cI, 8, .inl (fun _ => 0))), (q4, .inl (cI, 6, .inl (fun _ => 0))), (q5, .inl (cI, 6, .inl (fun _ => 0)))] H := hP
  have hD : va_D A [(h0, .inr (4, [.null, .null, .null, .null, .null, .null, .int 0])), (q1, .inr (1, [.ref q2, .ref q3, .ref q4, .ref q5])), (q2, .inl (cI, 10, .inl (fun _ => 0))), (q3, .inl (cI, 8, .inl (fun _ => 0))), (q4, .inl (cI, 6, .inl (fun _ => 0))), (q5, .inl (cI, 6, .inl (fun _ => 0)))] := hD
  have hKI := hK1.sub (tys' := [(cI, .int)]) [0] rfl
  refine W.widen (k := 5) (n := 34) (by omega) (by omega) ?_
  refine va_putF (D := D) (ci := 4) (v := .ref q1) (ty := .object "SignOnHouse$Groups") (C := RX4) (T := TX4) (N := 7) hx hb hts i4 tyX4 tyX4_ok nmX4 hown hK hP hD hS 0 rfl rfl 0 (by decide) fl_10 (fun _ h9 => h9) rfl hin rfl (by decide +kernel) rfl rfl (Nat.le_of_ble_eq_true rfl) dX4_init_12 (fun H locs hP hD hS => ?_)
  have hP : va_P D vwCl [(h0, .inr (4, [.ref q1, .null, .null, .null, .null, .null, .int 0])), (q1, .inr (1, [.ref q2, .ref q3, .ref q4, .ref q5])), (q2, .inl (cI, 10, .inl (fun _ => 0))), (q3, .inl (cI, 8, .inl (fun _ => 0))), (q4, .inl (cI, 6, .inl (fun _ => 0))), (q5, .inl (cI, 6, .inl (fun _ => 0)))] H := hP
  have hD : va_D A [(h0, .inr (4, [.ref q1, .null, .null, .null, .null, .null, .int 0])), (q1, .inr (1, [.ref q2, .ref q3, .ref q4, .ref q5])), (q2, .inl (cI, 10, .inl (fun _ => 0))), (q3, .inl (cI, 8, .inl (fun _ => 0))), (q4, .inl (cI, 6, .inl (fun _ => 0))), (q5, .inl (cI, 6, .inl (fun _ => 0)))] := hD
  refine lv_aload_n hx hb dX4_init_15 rfl (lv_at hl 0 rfl) ?_
  refine va_new (D := D) (ci := 3) (fs := [.null, .null, .null, .null, .null, .int 0]) (C := RX3) (T := TX3) (N := 6) hx hb hts i3 tyX3 tyX3_ok hown (hts (.classLink RX4 16 RX3) (by decide +kernel)) (hts (.instantiable RX3 6) (by decide +kernel)) (hts (.initialized RX3) (by decide +kernel)) hK hP hD hS hA rfl (fun j hj => by rcases (show j = 0 ∨ j = 1 ∨ j = 2 ∨ j = 3 ∨ j = 4 ∨ j = 5 by omega) with rfl | rfl | rfl | rfl | rfl | rfl <;> rfl) (Nat.le_of_ble_eq_true rfl) (Nat.le_of_ble_eq_true rfl) dX4_init_16 (fun q6 H hP hD hS => ?_)
  have hP : va_P D vwCl [(h0, .inr (4, [.ref q1, .null, .null, .null, .null, .null, .int 0])), (q1, .inr (1, [.ref q2, .ref q3, .ref q4, .ref q5])), (q2, .inl (cI, 10, .inl (fun _ => 0))), (q3, .inl (cI, 8, .inl (fun _ => 0))), (q4, .inl (cI, 6, .inl (fun _ => 0))), (q5, .inl (cI, 6, .inl (fun _ => 0))), (q6, .inr (3, [.null, .null, .null, .null, .null, .int 0]))] H := hP
  have hD : va_D A [(h0, .inr (4, [.ref q1, .null, .null, .null, .null, .null, .int 0])), (q1, .inr (1, [.ref q2, .ref q3, .ref q4, .ref q5])), (q2, .inl (cI, 10, .inl (fun _ => 0))), (q3, .inl (cI, 8, .inl (fun _ => 0))), (q4, .inl (cI, 6, .inl (fun _ => 0))), (q5, .inl (cI, 6, .inl (fun _ => 0))), (q6, .inr (3, [.null, .null, .null, .null, .null, .int 0]))] := hD
  refine W.widen (k := 6) (n := 40) (by omega) (by omega) ?_
  refine lv_dup hx hb dX4_init_19 rfl ?_
  have hPc := hP.sub (ws' := [(q6, .inr (3, [.null, .null, .null, .null, .null, .int 0]))]) [6] rfl
  have hDc := hD.sub (ws' := [(q6, .inr (3, [.null, .null, .null, .null, .null, .int 0]))]) [6] (by decide) rfl
  have hFc := va_free (wc := [(q6, .inr (3, [.null, .null, .null, .null, .null, .int 0]))]) hD hS hA [6] rfl
  refine va_callv (va_runI (As := []) (rest := [.ref q6, .ref h0]) ⟨hx, hb, hml, hown, hts⟩ (kX3_init l D cI cZ q6 _) (cwI 0 hts gX4_init_X3_init rfl rfl rfl (hts (.initialized RX3) (by decide +kernel)) (hts (.methodLink RX4 18 yX3_init) (by decide +kernel)) (hts (.instanceMethod yX3_init) (by decide +kernel)) rfl (by decide +kernel) ⟨Nat.le_of_ble_eq_true rfl, Nat.le_of_ble_eq_true rfl⟩) (zC_preS hK hPc hDc hcI hcZ) rfl rfl hl.1 rfl (lv_room (Nat.le_of_ble_eq_true rfl)) dX4_init_20 ⟨Nat.le_of_ble_eq_true rfl, Nat.le_of_ble_eq_true rfl⟩) hS (fun q _ h => hFc q h) hFc (fun u t H1 locs ht hvm _ hB hz1 hk1 hS => ?_)
  obtain ⟨q7, q8, q9, q10, q11, hP1, hK1, hD1⟩ := hB
  rw [ht] at hP1
  have hK1 := va_K.moved hvm.symm hK1
  obtain ⟨hP, hD⟩ := va_join (wr := [(h0, .inr (4, [.ref q1, .null, .null, .null, .null, .null, .int 0])), (q1, .inr (1, [.ref q2, .ref q3, .ref q4, .ref q5])), (q2, .inl (cI, 10, .inl (fun _ => 0))), (q3, .inl (cI, 8, .inl (fun _ => 0))), (q4, .inl (cI, 6, .inl (fun _ => 0))), (q5, .inl (cI, 6, .inl (fun _ => 0)))]) (w1 := [(q6, .inr (3, [.ref q7, .ref q8, .ref q9, .ref q10, .ref q11, .int 0])), (q7, .inl (cI, 30, .inl (fun _ => 0))), (q8, .inl (cI, 30, .inl (fun _ => 0))), (q9, .inl (cI, 30, .inl (fun _ => 0))), (q10, .inl (cI, 30, .inl (fun _ => 0))), (q11, .inl (cZ, 30, .inl (fun _ => 0)))]) hP hD [6] [0, 1, 2, 3, 4, 5] rfl rfl (by decide) (by decide) hk1 hFc hP1 hD1
  generalize H1 = H at hP hS ⊢
  have hP : va_P D vwCl [(h0, .inr (4, [.ref q1, .null, .null, .null, .null, .null, .int 0])), (q1, .inr (1, [.ref q2, .ref q3, .ref q4, .ref q5])), (q2, .inl (cI, 10, .inl (fun _ => 0))), (q3, .inl (cI, 8, .inl (fun _ => 0))), (q4, .inl (cI, 6, .inl (fun _ => 0))), (q5, .inl (cI, 6, .inl (fun _ => 0))), (q6, .inr (3, [.ref q7, .ref q8, .ref q9, .ref q10, .ref q11, .int 0])), (q7, .inl (cI, 30, .inl (fun _ => 0))), (q8, .inl (cI, 30, .inl (fun _ => 0))), (q9, .inl (cI, 30, .inl (fun _ => 0))), (q10, .inl (cI, 30, .inl (fun _ => 0))), (q11, .inl (cZ, 30, .inl (fun _ => 0)))] H := hP
  have hD : va_D A [(h0, .inr (4, [.ref q1, .null, .null, .null, .null, .null, .int 0])), (q1, .inr (1, [.ref q2, .ref q3, .ref q4, .ref q5])), (q2, .inl (cI, 10, .inl (fun _ => 0))), (q3, .inl (cI, 8, .inl (fun _ => 0))), (q4, .inl (cI, 6, .inl (fun _ => 0))), (q5, .inl (cI, 6, .inl (fun _ => 0))), (q6, .inr (3, [.ref q7, .ref q8, .ref q9, .ref q10, .ref q11, .int 0])), (q7, .inl (cI, 30, .inl (fun _ => 0))), (q8, .inl (cI, 30, .inl (fun _ => 0))), (q9, .inl (cI, 30, .inl (fun _ => 0))), (q10, .inl (cI, 30, .inl (fun _ => 0))), (q11, .inl (cZ, 30, .inl (fun _ => 0)))] := hD
  have hKI := hK1.sub (tys' := [(cI, .int)]) [0] rfl
  have hKZ := hK1.sub (tys' := [(cZ, .boolean)]) [1] rfl
  refine W.widen (k := 11) (n := 190) (by omega) (by omega) ?_
  refine va_putF (D := D) (ci := 4) (v := .ref q6) (ty := .object "SignOnHouse$Sessions") (C := RX4) (T := TX4) (N := 7) hx hb hts i4 tyX4 tyX4_ok nmX4 hown hK hP hD hS 0 rfl rfl 1 (by decide) fl_19 (fun _ h9 => h9) rfl hin rfl (by decide +kernel) rfl rfl (Nat.le_of_ble_eq_true rfl) dX4_init_23 (fun H locs hP hD hS => ?_)
  have hP : va_P D vwCl [(h0, .inr (4, [.ref q1, .ref q6, .null, .null, .null, .null, .int 0])), (q1, .inr (1, [.ref q2, .ref q3, .ref q4, .ref q5])), (q2, .inl (cI, 10, .inl (fun _ => 0))), (q3, .inl (cI, 8, .inl (fun _ => 0))), (q4, .inl (cI, 6, .inl (fun _ => 0))), (q5, .inl (cI, 6, .inl (fun _ => 0))), (q6, .inr (3, [.ref q7, .ref q8, .ref q9, .ref q10, .ref q11, .int 0])), (q7, .inl (cI, 30, .inl (fun _ => 0))), (q8, .inl (cI, 30, .inl (fun _ => 0))), (q9, .inl (cI, 30, .inl (fun _ => 0))), (q10, .inl (cI, 30, .inl (fun _ => 0))), (q11, .inl (cZ, 30, .inl (fun _ => 0)))] H := hP
  have hD : va_D A [(h0, .inr (4, [.ref q1, .ref q6, .null, .null, .null, .null, .int 0])), (q1, .inr (1, [.ref q2, .ref q3, .ref q4, .ref q5])), (q2, .inl (cI, 10, .inl (fun _ => 0))), (q3, .inl (cI, 8, .inl (fun _ => 0))), (q4, .inl (cI, 6, .inl (fun _ => 0))), (q5, .inl (cI, 6, .inl (fun _ => 0))), (q6, .inr (3, [.ref q7, .ref q8, .ref q9, .ref q10, .ref q11, .int 0])), (q7, .inl (cI, 30, .inl (fun _ => 0))), (q8, .inl (cI, 30, .inl (fun _ => 0))), (q9, .inl (cI, 30, .inl (fun _ => 0))), (q10, .inl (cI, 30, .inl (fun _ => 0))), (q11, .inl (cZ, 30, .inl (fun _ => 0)))] := hD
  refine lv_aload_n hx hb dX4_init_26 rfl (lv_at hl 0 rfl) ?_
  refine va_new (D := D) (ci := 2) (fs := [.int 0, .int 0]) (C := RX2) (T := TX2) (N := 2) hx hb hts i2 tyX2 tyX2_ok hown (hts (.classLink RX4 23 RX2) (by decide +kernel)) (hts (.instantiable RX2 2) (by decide +kernel)) (hts (.initialized RX2) (by decide +kernel)) hK hP hD hS hA rfl (fun j hj => by rcases (show j = 0 ∨ j = 1 by omega) with rfl | rfl <;> rfl) (Nat.le_of_ble_eq_true rfl) (Nat.le_of_ble_eq_true rfl) dX4_init_27 (fun q12 H hP hD hS => ?_)
  have hP : va_P D vwCl [(h0, .inr (4, [.ref q1, .ref q6, .null, .null, .null, .null, .int 0])), (q1, .inr (1, [.ref q2, .ref q3, .ref q4, .ref q5])), (q2, .inl (cI, 10, .inl (fun _ => 0))), (q3, .inl (cI, 8, .inl (fun _ => 0))), (q4, .inl (cI, 6, .inl (fun _ => 0))), (q5, .inl (cI, 6, .inl (fun _ => 0))), (q6, .inr (3, [.ref q7, .ref q8, .ref q9, .ref q10, .ref q11, .int 0])), (q7, .inl (cI, 30, .inl (fun _ => 0))), (q8, .inl (cI, 30, .inl (fun _ => 0))), (q9, .inl (cI, 30, .inl (fun _ => 0))), (q10, .inl (cI, 30, .inl (fun _ => 0))), (q11, .inl (cZ, 30, .inl (fun _ => 0))), (q12, .inr (2, [.int 0, .int 0]))] H := hP
  have hD : va_D A [(h0, .inr (4, [.ref q1, .ref q6, .null, .null, .null, .null, .int 0])), (q1, .inr (1, [.ref q2, .ref q3, .ref q4, .ref q5])), (q2, .inl (cI, 10, .inl (fun _ => 0))), (q3, .inl (cI, 8, .inl (fun _ => 0))), (q4, .inl (cI, 6, .inl (fun _ => 0))), (q5, .inl (cI, 6, .inl (fun _ => 0))), (q6, .inr (3, [.ref q7, .ref q8, .ref q9, .ref q10, .ref q11, .int 0])), (q7, .inl (cI, 30, .inl (fun _ => 0))), (q8, .inl (cI, 30, .inl (fun _ => 0))), (q9, .inl (cI, 30, .inl (fun _ => 0))), (q10, .inl (cI, 30, .inl (fun _ => 0))), (q11, .inl (cZ, 30, .inl (fun _ => 0))), (q12, .inr (2, [.int 0, .int 0]))] := hD
  refine W.widen (k := 12) (n := 192) (by omega) (by omega) ?_
  refine lv_dup hx hb dX4_init_30 rfl ?_
  have hPc := hP.sub (ws' := [(q12, .inr (2, [.int 0, .int 0]))]) [12] rfl
  have hDc := hD.sub (ws' := [(q12, .inr (2, [.int 0, .int 0]))]) [12] (by decide) rfl
  have hFc := va_free (wc := [(q12, .inr (2, [.int 0, .int 0]))]) hD hS hA [12] rfl
  refine va_callv (va_runI (As := []) (rest := [.ref q12, .ref h0]) ⟨hx, hb, hml, hown, hts⟩ (kX2_init l D cI cZ q12 _) (cwI 0 hts gX4_init_X2_init rfl rfl rfl (hts (.initialized RX2) (by decide +kernel)) (hts (.methodLink RX4 25 yX2_init) (by decide +kernel)) (hts (.instanceMethod yX2_init) (by decide +kernel)) rfl (by decide +kernel) ⟨Nat.le_of_ble_eq_true rfl, Nat.le_of_ble_eq_true rfl⟩) (zC_preS hK hPc hDc hcI hcZ) rfl rfl hl.1 rfl (lv_room (Nat.le_of_ble_eq_true rfl)) dX4_init_31 ⟨Nat.le_of_ble_eq_true rfl, Nat.le_of_ble_eq_true rfl⟩) hS (fun q _ h => hFc q h) hFc (fun u t H1 locs ht hvm _ hB hz1 hk1 hS => ?_)
  obtain ⟨hP1, hK1, hD1⟩ := hB
  rw [ht] at hP1
  have hK1 := va_K.moved hvm.symm hK1
  obtain ⟨hP, hD⟩ := va_join (wr := [(h0, .inr (4, [.ref q1, .ref q6, .null, .null, .null, .null, .int 0])), (q1, .inr (1, [.ref q2, .ref q3, .ref q4, .ref q5])), (q2, .inl (cI, 10, .inl (fun _ => 0))), (q3, .inl (cI, 8, .inl (fun _ => 0))), (q4, .inl (cI, 6, .inl (fun _ => 0))), (q5, .inl (cI, 6, .inl (fun _ => 0))), (q6, .inr (3, [.ref q7, .ref q8, .ref q9, .ref q10, .ref q11, .int 0])), (q7, .inl (cI, 30, .inl (fun _ => 0))), (q8, .inl (cI, 30, .inl (fun _ => 0))), (q9, .inl (cI, 30, .inl (fun _ => 0))), (q10, .inl (cI, 30, .inl (fun _ => 0))), (q11, .inl (cZ, 30, .inl (fun _ => 0)))]) (w1 := [(q12, .inr (2, [.int 0, .int 0]))]) hP hD [12] [0, 1, 2, 3, 4, 5, 6, 7, 8, 9, 10, 11] rfl rfl (by decide) (by decide) hk1 hFc hP1 hD1
  generalize H1 = H at hP hS ⊢
  have hP : va_P D vwCl [(h0, .inr (4, [.ref q1, .ref q6, .null, .null, .null, .null, .int 0])), (q1, .inr (1, [.ref q2, .ref q3, .ref q4, .ref q5])), (q2, .inl (cI, 10, .inl (fun _ => 0))), (q3, .inl (cI, 8, .inl (fun _ => 0))), (q4, .inl (cI, 6, .inl (fun _ => 0))), (q5, .inl (cI, 6, .inl (fun _ => 0))), (q6, .inr (3, [.ref q7, .ref q8, .ref q9, .ref q10, .ref q11, .int 0])), (q7, .inl (cI, 30, .inl (fun _ => 0))), (q8, .inl (cI, 30, .inl (fun _ => 0))), (q9, .inl (cI, 30, .inl (fun _ => 0))), (q10, .inl (cI, 30, .inl (fun _ => 0))), (q11, .inl (cZ, 30, .inl (fun _ => 0))), (q12, .inr (2, [.int 0, .int 0]))] H := hP
  have hD : va_D A [(h0, .inr (4, [.ref q1, .ref q6, .null, .null, .null, .null, .int 0])), (q1, .inr (1, [.ref q2, .ref q3, .ref q4, .ref q5])), (q2, .inl (cI, 10, .inl (fun _ => 0))), (q3, .inl (cI, 8, .inl (fun _ => 0))), (q4, .inl (cI, 6, .inl (fun _ => 0))), (q5, .inl (cI, 6, .inl (fun _ => 0))), (q6, .inr (3, [.ref q7, .ref q8, .ref q9, .ref q10, .ref q11, .int 0])), (q7, .inl (cI, 30, .inl (fun _ => 0))), (q8, .inl (cI, 30, .inl (fun _ => 0))), (q9, .inl (cI, 30, .inl (fun _ => 0))), (q10, .inl (cI, 30, .inl (fun _ => 0))), (q11, .inl (cZ, 30, .inl (fun _ => 0))), (q12, .inr (2, [.int 0, .int 0]))] := hD
  refine W.widen (k := 12) (n := 192) (by omega) (by omega) ?_
  refine va_putF (D := D) (ci := 4) (v := .ref q12) (ty := .object "SignOnHouse$Keys") (C := RX4) (T := TX4) (N := 7) hx hb hts i4 tyX4 tyX4_ok nmX4 hown hK hP hD hS 0 rfl rfl 2 (by decide) fl_26 (fun _ h9 => h9) rfl hin rfl (by decide +kernel) rfl rfl (Nat.le_of_ble_eq_true rfl) dX4_init_34 (fun H locs hP hD hS => ?_)
  have hP : va_P D vwCl [(h0, .inr (4, [.ref q1, .ref q6, .ref q12, .null, .null, .null, .int 0])), (q1, .inr (1, [.ref q2, .ref q3, .ref q4, .ref q5])), (q2, .inl (cI, 10, .inl (fun _ => 0))), (q3, .inl (cI, 8, .inl (fun _ => 0))), (q4, .inl (cI, 6, .inl (fun _ => 0))), (q5, .inl (cI, 6, .inl (fun _ => 0))), (q6, .inr (3, [.ref q7, .ref q8, .ref q9, .ref q10, .ref q11, .int 0])), (q7, .inl (cI, 30, .inl (fun _ => 0))), (q8, .inl (cI, 30, .inl (fun _ => 0))), (q9, .inl (cI, 30, .inl (fun _ => 0))), (q10, .inl (cI, 30, .inl (fun _ => 0))), (q11, .inl (cZ, 30, .inl (fun _ => 0))), (q12, .inr (2, [.int 0, .int 0]))] H := hP
  have hD : va_D A [(h0, .inr (4, [.ref q1, .ref q6, .ref q12, .null, .null, .null, .int 0])), (q1, .inr (1, [.ref q2, .ref q3, .ref q4, .ref q5])), (q2, .inl (cI, 10, .inl (fun _ => 0))), (q3, .inl (cI, 8, .inl (fun _ => 0))), (q4, .inl (cI, 6, .inl (fun _ => 0))), (q5, .inl (cI, 6, .inl (fun _ => 0))), (q6, .inr (3, [.ref q7, .ref q8, .ref q9, .ref q10, .ref q11, .int 0])), (q7, .inl (cI, 30, .inl (fun _ => 0))), (q8, .inl (cI, 30, .inl (fun _ => 0))), (q9, .inl (cI, 30, .inl (fun _ => 0))), (q10, .inl (cI, 30, .inl (fun _ => 0))), (q11, .inl (cZ, 30, .inl (fun _ => 0))), (q12, .inr (2, [.int 0, .int 0]))] := hD
  refine lv_aload_n hx hb dX4_init_37 rfl (lv_at hl 0 rfl) ?_
  refine va_new (D := D) (ci := 0) (fs := [.null, .null, .null]) (C := RX0) (T := TX0) (N := 3) hx hb hts i0 tyX0 tyX0_ok hown (hts (.classLink RX4 30 RX0) (by decide +kernel)) (hts (.instantiable RX0 3) (by decide +kernel)) (hts (.initialized RX0) (by decide +kernel)) hK hP hD hS hA rfl (fun j hj => by rcases (show j = 0 ∨ j = 1 ∨ j = 2 by omega) with rfl | rfl | rfl <;> rfl) (Nat.le_of_ble_eq_true rfl) (Nat.le_of_ble_eq_true rfl) dX4_init_38 (fun q13 H hP hD hS => ?_)
  have hP : va_P D vwCl [(h0, .inr (4, [.ref q1, .ref q6, .ref q12, .null, .null, .null, .int 0])), (q1, .inr (1, [.ref q2, .ref q3, .ref q4, .ref q5])), (q2, .inl (cI, 10, .inl (fun _ => 0))), (q3, .inl (cI, 8, .inl (fun _ => 0))), (q4, .inl (cI, 6, .inl (fun _ => 0))), (q5, .inl (cI, 6, .inl (fun _ => 0))), (q6, .inr (3, [.ref q7, .ref q8, .ref q9, .ref q10, .ref q11, .int 0])), (q7, .inl (cI, 30, .inl (fun _ => 0))), (q8, .inl (cI, 30, .inl (fun _ => 0))), (q9, .inl (cI, 30, .inl (fun _ => 0))), (q10, .inl (cI, 30, .inl (fun _ => 0))), (q11, .inl (cZ, 30, .inl (fun _ => 0))), (q12, .inr (2, [.int 0, .int 0])), (q13, .inr (0, [.null, .null, .null]))] H := hP
  have hD : va_D A [(h0, .inr (4, [.ref q1, .ref q6, .ref q12, .null, .null, .null, .int 0])), (q1, .inr (1, [.ref q2, .ref q3, .ref q4, .ref q5])), (q2, .inl (cI, 10, .inl (fun _ => 0))), (q3, .inl (cI, 8, .inl (fun _ => 0))), (q4, .inl (cI, 6, .inl (fun _ => 0))), (q5, .inl (cI, 6, .inl (fun _ => 0))), (q6, .inr (3, [.ref q7, .ref q8, .ref q9, .ref q10, .ref q11, .int 0])), (q7, .inl (cI, 30, .inl (fun _ => 0))), (q8, .inl (cI, 30, .inl (fun _ => 0))), (q9, .inl (cI, 30, .inl (fun _ => 0))), (q10, .inl (cI, 30, .inl (fun _ => 0))), (q11, .inl (cZ, 30, .inl (fun _ => 0))), (q12, .inr (2, [.int 0, .int 0])), (q13, .inr (0, [.null, .null, .null]))] := hD
  refine W.widen (k := 13) (n := 195) (by omega) (by omega) ?_
  refine lv_dup hx hb dX4_init_41 rfl ?_
  have hPc := hP.sub (ws' := [(q13, .inr (0, [.null, .null, .null]))]) [13] rfl
  have hDc := hD.sub (ws' := [(q13, .inr (0, [.null, .null, .null]))]) [13] (by decide) rfl
  have hFc := va_free (wc := [(q13, .inr (0, [.null, .null, .null]))]) hD hS hA [13] rfl
  refine va_callv (va_runI (As := []) (rest := [.ref q13, .ref h0]) ⟨hx, hb, hml, hown, hts⟩ (kX0_init l D cI cZ q13 _) (cwI 0 hts gX4_init_X0_init rfl rfl rfl (hts (.initialized RX0) (by decide +kernel)) (hts (.methodLink RX4 32 yX0_init) (by decide +kernel)) (hts (.instanceMethod yX0_init) (by decide +kernel)) rfl (by decide +kernel) ⟨Nat.le_of_ble_eq_true rfl, Nat.le_of_ble_eq_true rfl⟩) (zC_preS hK hPc hDc hcI hcZ) rfl rfl hl.1 rfl (lv_room (Nat.le_of_ble_eq_true rfl)) dX4_init_42 ⟨Nat.le_of_ble_eq_true rfl, Nat.le_of_ble_eq_true rfl⟩) hS (fun q _ h => hFc q h) hFc (fun u t H1 locs ht hvm _ hB hz1 hk1 hS => ?_)
  obtain ⟨q14, q15, q16, hP1, hK1, hD1⟩ := hB
  rw [ht] at hP1
  have hK1 := va_K.moved hvm.symm hK1
  obtain ⟨hP, hD⟩ := va_join (wr := [(h0, .inr (4, [.ref q1, .ref q6, .ref q12, .null, .null, .null, .int 0])), (q1, .inr (1, [.ref q2, .ref q3, .ref q4, .ref q5])), (q2, .inl (cI, 10, .inl (fun _ => 0))), (q3, .inl (cI, 8, .inl (fun _ => 0))), (q4, .inl (cI, 6, .inl (fun _ => 0))), (q5, .inl (cI, 6, .inl (fun _ => 0))), (q6, .inr (3, [.ref q7, .ref q8, .ref q9, .ref q10, .ref q11, .int 0])), (q7, .inl (cI, 30, .inl (fun _ => 0))), (q8, .inl (cI, 30, .inl (fun _ => 0))), (q9, .inl (cI, 30, .inl (fun _ => 0))), (q10, .inl (cI, 30, .inl (fun _ => 0))), (q11, .inl (cZ, 30, .inl (fun _ => 0))), (q12, .inr (2, [.int 0, .int 0]))]) (w1 := [(q13, .inr (0, [.ref q15, .ref q16, .ref q14])), (q14, .inl (cI, 240, .inl (fun _ => 0))), (q15, .inl (cI, 4, .inl (fillA (fun _ => 0) 10 4))), (q16, .inl (cI, 240, .inl (fillA (fun _ => 0) (-1) 240)))]) hP hD [13] [0, 1, 2, 3, 4, 5, 6, 7, 8, 9, 10, 11, 12] rfl rfl (by decide) (by decide) hk1 hFc hP1 hD1
  generalize H1 = H at hP hS ⊢
  have hP : va_P D vwCl [(h0, .inr (4, [.ref q1, .ref q6, .ref q12, .null, .null, .null, .int 0])), (q1, .inr (1, [.ref q2, .ref q3, .ref q4, .ref q5])), (q2, .inl (cI, 10, .inl (fun _ => 0))), (q3, .inl (cI, 8, .inl (fun _ => 0))), (q4, .inl (cI, 6, .inl (fun _ => 0))), (q5, .inl (cI, 6, .inl (fun _ => 0))), (q6, .inr (3, [.ref q7, .ref q8, .ref q9, .ref q10, .ref q11, .int 0])), (q7, .inl (cI, 30, .inl (fun _ => 0))), (q8, .inl (cI, 30, .inl (fun _ => 0))), (q9, .inl (cI, 30, .inl (fun _ => 0))), (q10, .inl (cI, 30, .inl (fun _ => 0))), (q11, .inl (cZ, 30, .inl (fun _ => 0))), (q12, .inr (2, [.int 0, .int 0])), (q13, .inr (0, [.ref q15, .ref q16, .ref q14])), (q14, .inl (cI, 240, .inl (fun _ => 0))), (q15, .inl (cI, 4, .inl (fillA (fun _ => 0) 10 4))), (q16, .inl (cI, 240, .inl (fillA (fun _ => 0) (-1) 240)))] H := hP
  have hD : va_D A [(h0, .inr (4, [.ref q1, .ref q6, .ref q12, .null, .null, .null, .int 0])), (q1, .inr (1, [.ref q2, .ref q3, .ref q4, .ref q5])), (q2, .inl (cI, 10, .inl (fun _ => 0))), (q3, .inl (cI, 8, .inl (fun _ => 0))), (q4, .inl (cI, 6, .inl (fun _ => 0))), (q5, .inl (cI, 6, .inl (fun _ => 0))), (q6, .inr (3, [.ref q7, .ref q8, .ref q9, .ref q10, .ref q11, .int 0])), (q7, .inl (cI, 30, .inl (fun _ => 0))), (q8, .inl (cI, 30, .inl (fun _ => 0))), (q9, .inl (cI, 30, .inl (fun _ => 0))), (q10, .inl (cI, 30, .inl (fun _ => 0))), (q11, .inl (cZ, 30, .inl (fun _ => 0))), (q12, .inr (2, [.int 0, .int 0])), (q13, .inr (0, [.ref q15, .ref q16, .ref q14])), (q14, .inl (cI, 240, .inl (fun _ => 0))), (q15, .inl (cI, 4, .inl (fillA (fun _ => 0) 10 4))), (q16, .inl (cI, 240, .inl (fillA (fun _ => 0) (-1) 240)))] := hD
  have hKI := hK1.sub (tys' := [(cI, .int)]) [0] rfl
  refine W.widen (k := 16) (n := 679) (by omega) (by omega) ?_
  refine va_putF (D := D) (ci := 4) (v := .ref q13) (ty := .object "SignOnHouse$Decisions") (C := RX4) (T := TX4) (N := 7) hx hb hts i4 tyX4 tyX4_ok nmX4 hown hK hP hD hS 0 rfl rfl 3 (by decide) fl_33 (fun _ h9 => h9) rfl hin rfl (by decide +kernel) rfl rfl (Nat.le_of_ble_eq_true rfl) dX4_init_45 (fun H locs hP hD hS => ?_)
  have hP : va_P D vwCl [(h0, .inr (4, [.ref q1, .ref q6, .ref q12, .ref q13, .null, .null, .int 0])), (q1, .inr (1, [.ref q2, .ref q3, .ref q4, .ref q5])), (q2, .inl (cI, 10, .inl (fun _ => 0))), (q3, .inl (cI, 8, .inl (fun _ => 0))), (q4, .inl (cI, 6, .inl (fun _ => 0))), (q5, .inl (cI, 6, .inl (fun _ => 0))), (q6, .inr (3, [.ref q7, .ref q8, .ref q9, .ref q10, .ref q11, .int 0])), (q7, .inl (cI, 30, .inl (fun _ => 0))), (q8, .inl (cI, 30, .inl (fun _ => 0))), (q9, .inl (cI, 30, .inl (fun _ => 0))), (q10, .inl (cI, 30, .inl (fun _ => 0))), (q11, .inl (cZ, 30, .inl (fun _ => 0))), (q12, .inr (2, [.int 0, .int 0])), (q13, .inr (0, [.ref q15, .ref q16, .ref q14])), (q14, .inl (cI, 240, .inl (fun _ => 0))), (q15, .inl (cI, 4, .inl (fillA (fun _ => 0) 10 4))), (q16, .inl (cI, 240, .inl (fillA (fun _ => 0) (-1) 240)))] H := hP
  have hD : va_D A [(h0, .inr (4, [.ref q1, .ref q6, .ref q12, .ref q13, .null, .null, .int 0])), (q1, .inr (1, [.ref q2, .ref q3, .ref q4, .ref q5])), (q2, .inl (cI, 10, .inl (fun _ => 0))), (q3, .inl (cI, 8, .inl (fun _ => 0))), (q4, .inl (cI, 6, .inl (fun _ => 0))), (q5, .inl (cI, 6, .inl (fun _ => 0))), (q6, .inr (3, [.ref q7, .ref q8, .ref q9, .ref q10, .ref q11, .int 0])), (q7, .inl (cI, 30, .inl (fun _ => 0))), (q8, .inl (cI, 30, .inl (fun _ => 0))), (q9, .inl (cI, 30, .inl (fun _ => 0))), (q10, .inl (cI, 30, .inl (fun _ => 0))), (q11, .inl (cZ, 30, .inl (fun _ => 0))), (q12, .inr (2, [.int 0, .int 0])), (q13, .inr (0, [.ref q15, .ref q16, .ref q14])), (q14, .inl (cI, 240, .inl (fun _ => 0))), (q15, .inl (cI, 4, .inl (fillA (fun _ => 0) 10 4))), (q16, .inl (cI, 240, .inl (fillA (fun _ => 0) (-1) 240)))] := hD
  refine lv_aload_n hx hb dX4_init_48 rfl (lv_at hl 0 rfl) ?_
  refine lv_bipush (v := nI 10) hx hb dX4_init_49 (by decide) ?_
  refine z_newaI (D := D) 10 hx hb haI hcI hK hP hD hS hA (by decide) (Nat.le_of_ble_eq_true rfl) (Nat.le_of_ble_eq_true rfl) dX4_init_51 (fun q17 H hK2 hP hD hS => ?_)
  have hKI := hK2.sub (tys' := [(cI, .int)]) [0] rfl
  have hP : va_P D vwCl [(h0, .inr (4, [.ref q1, .ref q6, .ref q12, .ref q13, .null, .null, .int 0])), (q1, .inr (1, [.ref q2, .ref q3, .ref q4, .ref q5])), (q2, .inl (cI, 10, .inl (fun _ => 0))), (q3, .inl (cI, 8, .inl (fun _ => 0))), (q4, .inl (cI, 6, .inl (fun _ => 0))), (q5, .inl (cI, 6, .inl (fun _ => 0))), (q6, .inr (3, [.ref q7, .ref q8, .ref q9, .ref q10, .ref q11, .int 0])), (q7, .inl (cI, 30, .inl (fun _ => 0))), (q8, .inl (cI, 30, .inl (fun _ => 0))), (q9, .inl (cI, 30, .inl (fun _ => 0))), (q10, .inl (cI, 30, .inl (fun _ => 0))), (q11, .inl (cZ, 30, .inl (fun _ => 0))), (q12, .inr (2, [.int 0, .int 0])), (q13, .inr (0, [.ref q15, .ref q16, .ref q14])), (q14, .inl (cI, 240, .inl (fun _ => 0))), (q15, .inl (cI, 4, .inl (fillA (fun _ => 0) 10 4))), (q16, .inl (cI, 240, .inl (fillA (fun _ => 0) (-1) 240))), (q17, .inl (cI, 10, .inl (fun _ => 0)))] H := hP
  have hD : va_D A [(h0, .inr (4, [.ref q1, .ref q6, .ref q12, .ref q13, .null, .null, .int 0])), (q1, .inr (1, [.ref q2, .ref q3, .ref q4, .ref q5])), (q2, .inl (cI, 10, .inl (fun _ => 0))), (q3, .inl (cI, 8, .inl (fun _ => 0))), (q4, .inl (cI, 6, .inl (fun _ => 0))), (q5, .inl (cI, 6, .inl (fun _ => 0))), (q6, .inr (3, [.ref q7, .ref q8, .ref q9, .ref q10, .ref q11, .int 0])), (q7, .inl (cI, 30, .inl (fun _ => 0))), (q8, .inl (cI, 30, .inl (fun _ => 0))), (q9, .inl (cI, 30, .inl (fun _ => 0))), (q10, .inl (cI, 30, .inl (fun _ => 0))), (q11, .inl (cZ, 30, .inl (fun _ => 0))), (q12, .inr (2, [.int 0, .int 0])), (q13, .inr (0, [.ref q15, .ref q16, .ref q14])), (q14, .inl (cI, 240, .inl (fun _ => 0))), (q15, .inl (cI, 4, .inl (fillA (fun _ => 0) 10 4))), (q16, .inl (cI, 240, .inl (fillA (fun _ => 0) (-1) 240))), (q17, .inl (cI, 10, .inl (fun _ => 0)))] := hD
  refine W.widen (k := 17) (n := 689) (by omega) (by omega) ?_
  refine va_putF (D := D) (ci := 4) (v := .ref q17) (ty := .array .int) (C := RX4) (T := TX4) (N := 7) hx hb hts i4 tyX4 tyX4_ok nmX4 hown hK hP hD hS 0 rfl rfl 4 (by decide) fl_37 (fun _ h9 => h9) rfl hin rfl (by decide +kernel) rfl rfl (Nat.le_of_ble_eq_true rfl) dX4_init_53 (fun H locs hP hD hS => ?_)
  have hP : va_P D vwCl [(h0, .inr (4, [.ref q1, .ref q6, .ref q12, .ref q13, .ref q17, .null, .int 0])), (q1, .inr (1, [.ref q2, .ref q3, .ref q4, .ref q5])), (q2, .inl (cI, 10, .inl (fun _ => 0))), (q3, .inl (cI, 8, .inl (fun _ => 0))), (q4, .inl (cI, 6, .inl (fun _ => 0))), (q5, .inl (cI, 6, .inl (fun _ => 0))), (q6, .inr (3, [.ref q7, .ref q8, .ref q9, .ref q10, .ref q11, .int 0])), (q7, .inl (cI, 30, .inl (fun _ => 0))), (q8, .inl (cI, 30, .inl (fun _ => 0))), (q9, .inl (cI, 30, .inl (fun _ => 0))), (q10, .inl (cI, 30, .inl (fun _ => 0))), (q11, .inl (cZ, 30, .inl (fun _ => 0))), (q12, .inr (2, [.int 0, .int 0])), (q13, .inr (0, [.ref q15, .ref q16, .ref q14])), (q14, .inl (cI, 240, .inl (fun _ => 0))), (q15, .inl (cI, 4, .inl (fillA (fun _ => 0) 10 4))), (q16, .inl (cI, 240, .inl (fillA (fun _ => 0) (-1) 240))), (q17, .inl (cI, 10, .inl (fun _ => 0)))] H := hP
  have hD : va_D A [(h0, .inr (4, [.ref q1, .ref q6, .ref q12, .ref q13, .ref q17, .null, .int 0])), (q1, .inr (1, [.ref q2, .ref q3, .ref q4, .ref q5])), (q2, .inl (cI, 10, .inl (fun _ => 0))), (q3, .inl (cI, 8, .inl (fun _ => 0))), (q4, .inl (cI, 6, .inl (fun _ => 0))), (q5, .inl (cI, 6, .inl (fun _ => 0))), (q6, .inr (3, [.ref q7, .ref q8, .ref q9, .ref q10, .ref q11, .int 0])), (q7, .inl (cI, 30, .inl (fun _ => 0))), (q8, .inl (cI, 30, .inl (fun _ => 0))), (q9, .inl (cI, 30, .inl (fun _ => 0))), (q10, .inl (cI, 30, .inl (fun _ => 0))), (q11, .inl (cZ, 30, .inl (fun _ => 0))), (q12, .inr (2, [.int 0, .int 0])), (q13, .inr (0, [.ref q15, .ref q16, .ref q14])), (q14, .inl (cI, 240, .inl (fun _ => 0))), (q15, .inl (cI, 4, .inl (fillA (fun _ => 0) 10 4))), (q16, .inl (cI, 240, .inl (fillA (fun _ => 0) (-1) 240))), (q17, .inl (cI, 10, .inl (fun _ => 0)))] := hD
  refine lv_aload_n hx hb dX4_init_56 rfl (lv_at hl 0 rfl) ?_
  refine lv_bipush (v := nI 60) hx hb dX4_init_57 (by decide) ?_
  refine z_newaI (D := D) 60 hx hb haI hcI hK hP hD hS hA (by decide) (Nat.le_of_ble_eq_true rfl) (Nat.le_of_ble_eq_true rfl) dX4_init_59 (fun q18 H hK2 hP hD hS => ?_)
  have hKI := hK2.sub (tys' := [(cI, .int)]) [0] rfl
  have hP : va_P D vwCl [(h0, .inr (4, [.ref q1, .ref q6, .ref q12, .ref q13, .ref q17, .null, .int 0])), (q1, .inr (1, [.ref q2, .ref q3, .ref q4, .ref q5])), (q2, .inl (cI, 10, .inl (fun _ => 0))), (q3, .inl (cI, 8, .inl (fun _ => 0))), (q4, .inl (cI, 6, .inl (fun _ => 0))), (q5, .inl (cI, 6, .inl (fun _ => 0))), (q6, .inr (3, [.ref q7, .ref q8, .ref q9, .ref q10, .ref q11, .int 0])), (q7, .inl (cI, 30, .inl (fun _ => 0))), (q8, .inl (cI, 30, .inl (fun _ => 0))), (q9, .inl (cI, 30, .inl (fun _ => 0))), (q10, .inl (cI, 30, .inl (fun _ => 0))), (q11, .inl (cZ, 30, .inl (fun _ => 0))), (q12, .inr (2, [.int 0, .int 0])), (q13, .inr (0, [.ref q15, .ref q16, .ref q14])), (q14, .inl (cI, 240, .inl (fun _ => 0))), (q15, .inl (cI, 4, .inl (fillA (fun _ => 0) 10 4))), (q16, .inl (cI, 240, .inl (fillA (fun _ => 0) (-1) 240))), (q17, .inl (cI, 10, .inl (fun _ => 0))), (q18, .inl (cI, 60, .inl (fun _ => 0)))] H := hP
  have hD : va_D A [(h0, .inr (4, [.ref q1, .ref q6, .ref q12, .ref q13, .ref q17, .null, .int 0])), (q1, .inr (1, [.ref q2, .ref q3, .ref q4, .ref q5])), (q2, .inl (cI, 10, .inl (fun _ => 0))), (q3, .inl (cI, 8, .inl (fun _ => 0))), (q4, .inl (cI, 6, .inl (fun _ => 0))), (q5, .inl (cI, 6, .inl (fun _ => 0))), (q6, .inr (3, [.ref q7, .ref q8, .ref q9, .ref q10, .ref q11, .int 0])), (q7, .inl (cI, 30, .inl (fun _ => 0))), (q8, .inl (cI, 30, .inl (fun _ => 0))), (q9, .inl (cI, 30, .inl (fun _ => 0))), (q10, .inl (cI, 30, .inl (fun _ => 0))), (q11, .inl (cZ, 30, .inl (fun _ => 0))), (q12, .inr (2, [.int 0, .int 0])), (q13, .inr (0, [.ref q15, .ref q16, .ref q14])), (q14, .inl (cI, 240, .inl (fun _ => 0))), (q15, .inl (cI, 4, .inl (fillA (fun _ => 0) 10 4))), (q16, .inl (cI, 240, .inl (fillA (fun _ => 0) (-1) 240))), (q17, .inl (cI, 10, .inl (fun _ => 0))), (q18, .inl (cI, 60, .inl (fun _ => 0)))] := hD
  refine W.widen (k := 18) (n := 749) (by omega) (by omega) ?_
  refine va_putF (D := D) (ci := 4) (v := .ref q18) (ty := .array .int) (C := RX4) (T := TX4) (N := 7) hx hb hts i4 tyX4 tyX4_ok nmX4 hown hK hP hD hS 0 rfl rfl 5 (by decide) fl_41 (fun _ h9 => h9) rfl hin rfl (by decide +kernel) rfl rfl (Nat.le_of_ble_eq_true rfl) dX4_init_61 (fun H locs hP hD hS => ?_)
  have hP : va_P D vwCl [(h0, .inr (4, [.ref q1, .ref q6, .ref q12, .ref q13, .ref q17, .ref q18, .int 0])), (q1, .inr (1, [.ref q2, .ref q3, .ref q4, .ref q5])), (q2, .inl (cI, 10, .inl (fun _ => 0))), (q3, .inl (cI, 8, .inl (fun _ => 0))), (q4, .inl (cI, 6, .inl (fun _ => 0))), (q5, .inl (cI, 6, .inl (fun _ => 0))), (q6, .inr (3, [.ref q7, .ref q8, .ref q9, .ref q10, .ref q11, .int 0])), (q7, .inl (cI, 30, .inl (fun _ => 0))), (q8, .inl (cI, 30, .inl (fun _ => 0))), (q9, .inl (cI, 30, .inl (fun _ => 0))), (q10, .inl (cI, 30, .inl (fun _ => 0))), (q11, .inl (cZ, 30, .inl (fun _ => 0))), (q12, .inr (2, [.int 0, .int 0])), (q13, .inr (0, [.ref q15, .ref q16, .ref q14])), (q14, .inl (cI, 240, .inl (fun _ => 0))), (q15, .inl (cI, 4, .inl (fillA (fun _ => 0) 10 4))), (q16, .inl (cI, 240, .inl (fillA (fun _ => 0) (-1) 240))), (q17, .inl (cI, 10, .inl (fun _ => 0))), (q18, .inl (cI, 60, .inl (fun _ => 0)))] H := hP
  have hD : va_D A [(h0, .inr (4, [.ref q1, .ref q6, .ref q12, .ref q13, .ref q17, .ref q18, .int 0])), (q1, .inr (1, [.ref q2, .ref q3, .ref q4, .ref q5])), (q2, .inl (cI, 10, .inl (fun _ => 0))), (q3, .inl (cI, 8, .inl (fun _ => 0))), (q4, .inl (cI, 6, .inl (fun _ => 0))), (q5, .inl (cI, 6, .inl (fun _ => 0))), (q6, .inr (3, [.ref q7, .ref q8, .ref q9, .ref q10, .ref q11, .int 0])), (q7, .inl (cI, 30, .inl (fun _ => 0))), (q8, .inl (cI, 30, .inl (fun _ => 0))), (q9, .inl (cI, 30, .inl (fun _ => 0))), (q10, .inl (cI, 30, .inl (fun _ => 0))), (q11, .inl (cZ, 30, .inl (fun _ => 0))), (q12, .inr (2, [.int 0, .int 0])), (q13, .inr (0, [.ref q15, .ref q16, .ref q14])), (q14, .inl (cI, 240, .inl (fun _ => 0))), (q15, .inl (cI, 4, .inl (fillA (fun _ => 0) 10 4))), (q16, .inl (cI, 240, .inl (fillA (fun _ => 0) (-1) 240))), (q17, .inl (cI, 10, .inl (fun _ => 0))), (q18, .inl (cI, 60, .inl (fun _ => 0)))] := hD
  refine lv_aload_n hx hb dX4_init_64 rfl (lv_at hl 0 rfl) ?_
  refine lv_iconst (v := 0) hx hb dX4_init_65 rfl ?_
  refine va_put (D := D) (ci := 4) (v := .int 0) (ty := .int) (C := RX4) (T := TX4) (N := 7) hx hb hts i4 tyX4 tyX4_ok nmX4 hown hK hP hD hS 0 rfl rfl 6 (by decide) fl_44 (fun _ h9 => h9) rfl (by decide +kernel) rfl rfl (Nat.le_of_ble_eq_true rfl) dX4_init_66 (fun H locs hP hD hS => ?_)
  have hP : va_P D vwCl [(h0, .inr (4, [.ref q1, .ref q6, .ref q12, .ref q13, .ref q17, .ref q18, .int 0])), (q1, .inr (1, [.ref q2, .ref q3, .ref q4, .ref q5])), (q2, .inl (cI, 10, .inl (fun _ => 0))), (q3, .inl (cI, 8, .inl (fun _ => 0))), (q4, .inl (cI, 6, .inl (fun _ => 0))), (q5, .inl (cI, 6, .inl (fun _ => 0))), (q6, .inr (3, [.ref q7, .ref q8, .ref q9, .ref q10, .ref q11, .int 0])), (q7, .inl (cI, 30, .inl (fun _ => 0))), (q8, .inl (cI, 30, .inl (fun _ => 0))), (q9, .inl (cI, 30, .inl (fun _ => 0))), (q10, .inl (cI, 30, .inl (fun _ => 0))), (q11, .inl (cZ, 30, .inl (fun _ => 0))), (q12, .inr (2, [.int 0, .int 0])), (q13, .inr (0, [.ref q15, .ref q16, .ref q14])), (q14, .inl (cI, 240, .inl (fun _ => 0))), (q15, .inl (cI, 4, .inl (fillA (fun _ => 0) 10 4))), (q16, .inl (cI, 240, .inl (fillA (fun _ => 0) (-1) 240))), (q17, .inl (cI, 10, .inl (fun _ => 0))), (q18, .inl (cI, 60, .inl (fun _ => 0)))] H := hP
  have hD : va_D A [(h0, .inr (4, [.ref q1, .ref q6, .ref q12, .ref q13, .ref q17, .ref q18, .int 0])), (q1, .inr (1, [.ref q2, .ref q3, .ref q4, .ref q5])), (q2, .inl (cI, 10, .inl (fun _ => 0))), (q3, .inl (cI, 8, .inl (fun _ => 0))), (q4, .inl (cI, 6, .inl (fun _ => 0))), (q5, .inl (cI, 6, .inl (fun _ => 0))), (q6, .inr (3, [.ref q7, .ref q8, .ref q9, .ref q10, .ref q11, .int 0])), (q7, .inl (cI, 30, .inl (fun _ => 0))), (q8, .inl (cI, 30, .inl (fun _ => 0))), (q9, .inl (cI, 30, .inl (fun _ => 0))), (q10, .inl (cI, 30, .inl (fun _ => 0))), (q11, .inl (cZ, 30, .inl (fun _ => 0))), (q12, .inr (2, [.int 0, .int 0])), (q13, .inr (0, [.ref q15, .ref q16, .ref q14])), (q14, .inl (cI, 240, .inl (fun _ => 0))), (q15, .inl (cI, 4, .inl (fillA (fun _ => 0) 10 4))), (q16, .inl (cI, 240, .inl (fillA (fun _ => 0) (-1) 240))), (q17, .inl (cI, 10, .inl (fun _ => 0))), (q18, .inl (cI, 60, .inl (fun _ => 0)))] := hD
  have hKF : va_K D vwCl [(cI, .int), (cZ, .boolean)] s := (hKI.app hKZ)
  exact W.vret hx hb hr (fun t ht hW => ⟨⟨(), rfl, trivial, q1, q2, q3, q4, q5, q6, q7, q8, q9, q10, q11, q12, q13, q14, q15, q16, q17, q18, by rw [ht]; exact hP, va_K.moved hW.alike hKF, hD⟩, hS.F ht⟩) hS.2.2 dX4_init_69

