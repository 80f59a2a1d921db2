/-! ===== base: booleans as ints, the pictures of the class and of the reference, short rows ===== -/
def bi (b : Bool) : Int32 := if b = true then 1 else 0
theorem bi_t : bi true = 1 := rfl
theorem bi_f : bi false = 0 := rfl
theorem bi_eq0 {b : Bool} (h : bi b = 0) : b = false := by
  cases b
  · rfl
  · exact absurd h (by decide)
theorem bi_ne0 {b : Bool} (h : ¬ bi b = 0) : b = true := by
  cases b
  · exact absurd rfl h
  · rfl
theorem bi_nar (b : Bool) : narrow .boolean (.int (bi b)) = .int (bi b) := by cases b <;> rfl
theorem bi_vnar (b : Bool) : vp_nar .boolean (bi b) = bi b := by cases b <;> rfl
theorem nd_t {P : Prop} [Decidable P] (h : (!decide P) = true) : ¬ P := by simpa using h
theorem nd_f {P : Prop} [Decidable P] (h : (!decide P) = false) : P := by simpa using h
abbrev tyl (cI cZ : ClassId) : List (ClassId × FieldType) := [(cI, .int), (cZ, .boolean)]
/-- the cells of a SignOnHouse: S the int rows, O the row 'over', V the numbers (minute, count, signing, endOfBefore) -/
def hW (cI cZ : ClassId) (X : Nat → Nat) (S : Nat → Nat → Int32) (O : Nat → Bool) (V : Nat → Int32) : va_W :=
  [(X 0, .inr (4, [.ref (X 1), .ref (X 2), .ref (X 3), .ref (X 4), .ref (X 5), .ref (X 6), .int (V 0)])),
   (X 1, .inr (1, [.ref (X 7), .ref (X 8), .ref (X 9), .ref (X 10)])),
   (X 2, .inr (3, [.ref (X 11), .ref (X 12), .ref (X 13), .ref (X 14), .ref (X 15), .int (V 1)])),
   (X 3, .inr (2, [.int (V 2), .int (V 3)])),
   (X 4, .inr (0, [.ref (X 16), .ref (X 17), .ref (X 18)])),
   (X 5, .inl (cI, 10, .inl (S 5))), (X 6, .inl (cI, 60, .inl (S 6))),
   (X 7, .inl (cI, 10, .inl (S 7))), (X 8, .inl (cI, 8, .inl (S 8))), (X 9, .inl (cI, 6, .inl (S 9))), (X 10, .inl (cI, 6, .inl (S 10))),
   (X 11, .inl (cI, 30, .inl (S 11))), (X 12, .inl (cI, 30, .inl (S 12))), (X 13, .inl (cI, 30, .inl (S 13))), (X 14, .inl (cI, 30, .inl (S 14))), (X 15, .inl (cZ, 30, .inl (fun j => bi (O j)))),
   (X 16, .inl (cI, 4, .inl (S 16))), (X 17, .inl (cI, 240, .inl (S 17))), (X 18, .inl (cI, 240, .inl (S 18)))]
/-- the cells of a SignOnHouseModel: T the int rows, P the row 'over', U the numbers (thrown, now, sessions, key, taken) -/
def mW (cI cZ : ClassId) (X : Nat → Nat) (S : Nat → Nat → Int32) (O : Nat → Bool) (V : Nat → Int32) : va_W :=
  [(X 0, .inr (5, [.int (V 0), .int (V 1), .ref (X 1), .ref (X 2), .ref (X 3), .ref (X 4), .ref (X 5), .int (V 2), .ref (X 6), .ref (X 7), .ref (X 8), .ref (X 9), .ref (X 10), .int (V 3), .int (V 4), .ref (X 11), .ref (X 12)])),
   (X 1, .inl (cI, 8, .inl (S 1))), (X 2, .inl (cI, 8, .inl (S 2))), (X 3, .inl (cI, 48, .inl (S 3))), (X 4, .inl (cI, 10, .inl (S 4))), (X 5, .inl (cI, 60, .inl (S 5))),
   (X 6, .inl (cI, 30, .inl (S 6))), (X 7, .inl (cI, 30, .inl (S 7))), (X 8, .inl (cI, 30, .inl (S 8))), (X 9, .inl (cI, 30, .inl (S 9))), (X 10, .inl (cZ, 30, .inl (fun j => bi (O j)))),
   (X 11, .inl (cI, 4, .inl (S 11))), (X 12, .inl (cI, 240, .inl (S 12)))]
/-- contracts: numbers alone; a world that is read; a world that is written -/
abbrev zP (av : List Value) : Array Value → State → Prop := fun v _ => v = av.toArray
abbrev zR (D : va_G) (tys : List (ClassId × FieldType)) (ws : va_W) (av : List Value) : Array Value → State → Prop := va_Pc av (fun U => va_P D vwCl ws U.heap ∧ va_K D vwCl tys U)
abbrev zW (D : va_G) (tys : List (ClassId × FieldType)) (ws : va_W) (sz : Nat) (av : List Value) : Array Value → State → Prop := va_Pc av (fun U => U.heap.size = sz ∧ va_P D vwCl ws U.heap ∧ va_K D vwCl tys U ∧ va_D (fun _ => True) ws)
abbrev zB (D : va_G) (tys : List (ClassId × FieldType)) (ws' : va_W) (A : Nat → Prop) (t : State) : Prop := va_P D vwCl ws' t.heap ∧ va_K D vwCl tys t ∧ va_D A ws'
abbrev zQi (D : va_G) (tys : List (ClassId × FieldType)) (ws' : va_W) (r : Int32) (A : Nat → Prop) : Array Value → State → Outcome → State → Prop := va_Qi (fun x (_ : Unit) => x = r) (fun _ t => zB D tys ws' A t) A
abbrev zQv (D : va_G) (tys : List (ClassId × FieldType)) (ws' : va_W) (A : Nat → Prop) : Array Value → State → Outcome → State → Prop := va_Qv (fun (_ : Unit) => True) (fun _ t => zB D tys ws' A t) A
theorem zP_pre {s : State} {H : Heap} {av : List Value} : PreS s H (zP av) av := ⟨fun _ _ _ _ q => q, fun _ _ _ => rfl⟩
theorem zR_blind {D : va_G} {tys : List (ClassId × FieldType)} {ws : va_W} {av : List Value} : FrameBlind (zR D tys ws av) := fun a U g mk q => ⟨q.1, q.2.1, va_K.moved (u := U) (U := U.calling g mk a) (Vm.Alike.refl U.vm) q.2.2⟩
theorem zW_blind {D : va_G} {tys : List (ClassId × FieldType)} {ws : va_W} {sz : Nat} {av : List Value} : FrameBlind (zW D tys ws sz av) := fun a U g mk q => ⟨q.1, q.2.1, q.2.2.1, va_K.moved (u := U) (U := U.calling g mk a) (Vm.Alike.refl U.vm) q.2.2.2.1, q.2.2.2.2⟩
theorem zR_preV {s : State} {H : Heap} {D : va_G} {tys : List (ClassId × FieldType)} {ws : va_W} {As : List Value} {a : Nat} (q0 ci : Nat) {q : vw_C} {fs : List Value} (hK : va_K D vwCl tys s) (hP : va_P D vwCl ws H) (hc : vwCl[ci]? = some q) (he : ws[q0]? = some (a, .inr (ci, fs))) : PreV s H q.1 a (zR D tys ws (.ref a :: As)) As :=
  ⟨zR_blind, va_recv hK hP hc he, fun U hU hW => ⟨rfl, by rw [hU]; exact hP, va_K.moved hW.alike hK⟩⟩
theorem zW_preV {s : State} {H : Heap} {D : va_G} {tys : List (ClassId × FieldType)} {ws : va_W} {A : Nat → Prop} {As : List Value} {a : Nat} (q0 ci : Nat) {q : vw_C} {fs : List Value} (hK : va_K D vwCl tys s) (hP : va_P D vwCl ws H) (hD : va_D A ws) (hc : vwCl[ci]? = some q) (he : ws[q0]? = some (a, .inr (ci, fs))) : PreV s H q.1 a (zW D tys ws H.size (.ref a :: As)) As :=
  ⟨zW_blind, va_recv hK hP hc he, fun U hU hW => ⟨rfl, by rw [hU], by rw [hU]; exact hP, va_K.moved hW.alike hK, hD.weaken (fun _ _ _ _ => trivial)⟩⟩
section ZR
variable {p : Program} {l : Launch} {e : Env} {R : Room} {s : State} {m : MethodId} {args : Array Value} {below : List Frame} {meth : Method} {c : Code} {H : Heap} {locs : List Loc} {cells slots : Nat} {Q : State → Prop} {cc : ByteArray} {pc : Nat} {ls : Array Slot} {rest st0 : List Value} {D : va_G} {cl : List vw_C} {ws ws' : va_W} {tys : List (ClassId × FieldType)} {A : Nat → Prop} {H0 : Heap} {a : Nat} {av : Array Value} {cA : ClassId} {n : Nat}
theorem z_top {x : Int32} (y : Int32) (h : x = y) (k : W p l e R s m args below meth c H locs cells slots Q (F0 m pc ls (.int y :: rest))) : W p l e R s m args below meth c H locs cells slots Q (F0 m pc ls (.int x :: rest)) := h ▸ k
theorem z_top2 {v x : Int32} (y : Int32) (h : x = y) (k : W p l e R s m args below meth c H locs cells slots Q (F0 m pc ls (.int v :: .int y :: rest))) : W p l e R s m args below meth c H locs cells slots Q (F0 m pc ls (.int v :: .int x :: rest)) := h ▸ k
theorem z_if_eq {b : Bool} {off : Int} {tgt : Nat} (hx : p.tables.exec = Jvm.exec) (hb : c.code = cc) (hdg : decode cc pc = .ok (.ifCond .eq off, 3)) (ht : (pc : Int) + off = (tgt : Int)) (kt : b = false → W p l e R s m args below meth c H locs cells slots Q (F0 m tgt ls rest)) (kf : b = true → W p l e R s m args below meth c H locs cells slots Q (F0 m (pc + 3) ls rest)) : W p l e R s m args below meth c H locs cells slots Q (F0 m pc ls (.int (bi b) :: rest)) :=
  lv_if_eq hx hb hdg ht (fun q => kt (bi_eq0 q)) (fun q => kf (bi_ne0 q))
theorem z_if_ne {b : Bool} {off : Int} {tgt : Nat} (hx : p.tables.exec = Jvm.exec) (hb : c.code = cc) (hdg : decode cc pc = .ok (.ifCond .ne off, 3)) (ht : (pc : Int) + off = (tgt : Int)) (kt : b = true → W p l e R s m args below meth c H locs cells slots Q (F0 m tgt ls rest)) (kf : b = false → W p l e R s m args below meth c H locs cells slots Q (F0 m (pc + 3) ls rest)) : W p l e R s m args below meth c H locs cells slots Q (F0 m pc ls (.int (bi b) :: rest)) :=
  lv_if_ne hx hb hdg ht (fun q => kt (bi_ne0 q)) (fun q => kf (bi_eq0 q))
theorem z_ge_t {x y : Int32} {off : Int} {tgt : Nat} (h : y ≤ x) (hx : p.tables.exec = Jvm.exec) (hb : c.code = cc) (hdg : decode cc pc = .ok (.if_icmp .ge off, 3)) (ht : (pc : Int) + off = (tgt : Int)) (kt : W p l e R s m args below meth c H locs cells slots Q (F0 m tgt ls rest)) : W p l e R s m args below meth c H locs cells slots Q (F0 m pc ls (.int y :: .int x :: rest)) :=
  lv_icmp_ge hx hb hdg ht (fun _ => kt) (fun q => absurd h q)
theorem z_ge_f {x y : Int32} {off : Int} {tgt : Nat} (h : ¬ y ≤ x) (hx : p.tables.exec = Jvm.exec) (hb : c.code = cc) (hdg : decode cc pc = .ok (.if_icmp .ge off, 3)) (ht : (pc : Int) + off = (tgt : Int)) (kf : W p l e R s m args below meth c H locs cells slots Q (F0 m (pc + 3) ls rest)) : W p l e R s m args below meth c H locs cells slots Q (F0 m pc ls (.int y :: .int x :: rest)) :=
  lv_icmp_ge hx hb hdg ht (fun q => absurd q h) (fun _ => kf)
theorem z_iald {j : Nat} {f : Nat → Int32} (hx : p.tables.exec = Jvm.exec) (hb : c.code = cc) (hK : va_K D cl tys s) (hP : va_P D cl ws H) (q0 t0 : Nat) (ha : ws[q0]? = some (a, .inl (cA, n, .inl f))) (ht : tys[t0]? = some (cA, .int)) (hj : j < n) (hn : n < 2 ^ 31) (hdg : decode cc pc = .ok (.iaload, 1)) (kk : W p l e R s m args below meth c H locs cells slots Q (F0 m (pc + 1) ls (.int (f j) :: rest))) : W p l e R s m args below meth c H locs cells slots Q (F0 m pc ls (.int (nI j) :: .ref a :: rest)) :=
  va_iald hx hb hK hP q0 t0 ha ht (vp_in_nI hj hn) hdg (by rw [nI_clamp (by omega)]; exact kk)
theorem z_zald {j : Nat} {g : Nat → Bool} (hx : p.tables.exec = Jvm.exec) (hb : c.code = cc) (hK : va_K D cl tys s) (hP : va_P D cl ws H) (q0 t0 : Nat) (ha : ws[q0]? = some (a, .inl (cA, n, .inl (fun i => bi (g i))))) (ht : tys[t0]? = some (cA, .boolean)) (hj : j < n) (hn : n < 2 ^ 31) (hdg : decode cc pc = .ok (.baload, 1)) (kk : W p l e R s m args below meth c H locs cells slots Q (F0 m (pc + 1) ls (.int (bi (g j)) :: rest))) : W p l e R s m args below meth c H locs cells slots Q (F0 m pc ls (.int (nI j) :: .ref a :: rest)) :=
  va_zald hx hb hK hP q0 t0 ha ht (vp_in_nI hj hn) hdg (by rw [nI_clamp (by omega)]; exact kk)
theorem z_iast {j : Nat} {x : Int32} {f : Nat → Int32} (hx : p.tables.exec = Jvm.exec) (hb : c.code = cc) (hK : va_K D cl tys s) (hP : va_P D cl ws H) (hD : va_D A ws) (hS : va_S A H0 H locs) (q0 t0 : Nat) (ha : ws[q0]? = some (a, .inl (cA, n, .inl f))) (ht : tys[t0]? = some (cA, .int)) (hj : j < n) (hn : n < 2 ^ 31) (hdg : decode cc pc = .ok (.iastore, 1)) (kk : ∀ (H1 : Heap) (locs1 : List Loc), va_P D cl (ws.set q0 (a, .inl (cA, n, .inl (upd f j x)))) H1 → va_D A (ws.set q0 (a, .inl (cA, n, .inl (upd f j x)))) → va_S A H0 H1 locs1 → W p l e R s m args below meth c H1 locs1 cells slots Q (F0 m (pc + 1) ls rest)) : W p l e R s m args below meth c H locs cells slots Q (F0 m pc ls (.int x :: .int (nI j) :: .ref a :: rest)) :=
  va_iast hx hb hK hP hD hS q0 t0 ha ht (vp_in_nI hj hn) hdg (fun H1 locs1 h1 h2 h3 => kk H1 locs1 (by rw [nI_clamp (by omega)] at h1; exact h1) (by rw [nI_clamp (by omega)] at h2; exact h2) h3)
theorem z_updb (g : Nat → Bool) (j : Nat) (b : Bool) : upd (fun i => bi (g i)) j (bi b) = fun i => bi (va_up g j b i) := by
  funext i
  by_cases h : i = j <;> simp [upd, va_up, h]
theorem z_zast {j : Nat} {b : Bool} {g : Nat → Bool} (hx : p.tables.exec = Jvm.exec) (hb : c.code = cc) (hK : va_K D cl tys s) (hP : va_P D cl ws H) (hD : va_D A ws) (hS : va_S A H0 H locs) (q0 t0 : Nat) (ha : ws[q0]? = some (a, .inl (cA, n, .inl (fun i => bi (g i))))) (ht : tys[t0]? = some (cA, .boolean)) (hj : j < n) (hn : n < 2 ^ 31) (hdg : decode cc pc = .ok (.bastore, 1)) (kk : ∀ (H1 : Heap) (locs1 : List Loc), va_P D cl (ws.set q0 (a, .inl (cA, n, .inl (fun i => bi (va_up g j b i))))) H1 → va_D A (ws.set q0 (a, .inl (cA, n, .inl (fun i => bi (va_up g j b i))))) → va_S A H0 H1 locs1 → W p l e R s m args below meth c H1 locs1 cells slots Q (F0 m (pc + 1) ls rest)) : W p l e R s m args below meth c H locs cells slots Q (F0 m pc ls (.int (bi b) :: .int (nI j) :: .ref a :: rest)) :=
  va_zast hx hb hK hP hD hS q0 t0 ha ht (vp_in_nI hj hn) hdg (fun H1 locs1 h1 h2 h3 => kk H1 locs1 (by rw [nI_clamp (by omega), bi_vnar, z_updb] at h1; exact h1) (by rw [nI_clamp (by omega), bi_vnar, z_updb] at h2; exact h2) h3)
theorem z_callR {r : Int32} (hr : CallRun p l e R s m args below meth c H locs cells slots 0 0 (F0 m pc ls st0) rest (QcRead r av) (fun _ => False)) (kk : W p l e R s m args below meth c H locs cells slots Q (F0 m (pc + 3) ls (.int r :: rest))) : W p l e R s m args below meth c H locs cells slots Q (F0 m pc ls st0) := W.callR hr kk
theorem z_callWi {r : Int32} {mc ms : Nat} (hr : va_Run p l e R s m args below meth c H locs cells slots mc ms (F0 m pc ls st0) rest (zQi D tys ws' r (va_A ws H.size) av) (va_A ws H.size)) (hS : va_S A H0 H locs) (hF : ∀ q, va_A ws H.size q → A q) (kk : ∀ (H1 : Heap) (locs1 : List Loc), va_P D vwCl ws' H1 → va_D A ws' → va_S A H0 H1 locs1 → W p l e R s m args below meth c H1 locs1 (cells + mc) (slots + ms) Q (F0 m (pc + 3) ls (.int r :: rest))) : W p l e R s m args below meth c H locs cells slots Q (F0 m pc ls st0) :=
  va_calli hr hS (fun q _ h => hF q h) hF (fun r' u t H1 locs1 ht _ hw hB _ _ hS1 => by
    subst hw
    obtain ⟨hP1, -, hD1⟩ := hB
    rw [ht] at hP1
    exact kk H1 locs1 hP1 (hD1.weaken (fun _ q _ h => hF q.1 h)) hS1)
theorem z_callWv {mc ms : Nat} (hr : va_Run p l e R s m args below meth c H locs cells slots mc ms (F0 m pc ls st0) rest (zQv D tys ws' (va_A ws H.size) av) (va_A ws H.size)) (hS : va_S A H0 H locs) (hF : ∀ q, va_A ws H.size q → A q) (kk : ∀ (H1 : Heap) (locs1 : List Loc), va_P D vwCl ws' H1 → va_D A ws' → va_S A H0 H1 locs1 → W p l e R s m args below meth c H1 locs1 (cells + mc) (slots + ms) Q (F0 m (pc + 3) ls rest)) : W p l e R s m args below meth c H locs cells slots Q (F0 m pc ls st0) :=
  va_callv hr hS (fun q _ h => hF q h) hF (fun u t H1 locs1 ht _ hw hB _ _ hS1 => by
    obtain ⟨hP1, -, hD1⟩ := hB
    rw [ht] at hP1
    exact kk H1 locs1 hP1 (hD1.weaken (fun _ q _ h => hF q.1 h)) hS1)
theorem z_free (hD : va_D A ws) (hS : va_S A H0 H locs) (hA : ∀ q, H0.size ≤ q → A q) : ∀ q, va_A ws H.size q → A q := by
  intro q h
  rcases h with ⟨k, e, h⟩ | h
  · exact hD.2 k _ h
  · exact hA q (Nat.le_trans hS.1 h)
theorem z_ret {v r : Int32} (hx : p.tables.exec = Jvm.exec) (hb : c.code = cc) (hr : meth.sig.returnType = some .int) (hlocks : meth.locks = false) (h : v = r) (hdg : decode cc pc = .ok (.ireturn, 1)) : W p l e R s m args below meth c s.heap [] 0 0 (MQ below (QcRead r) args s 0 0 (fun _ => False)) (F0 m pc ls [.int v]) := by
  subst h
  exact W.iret hx hb hr (fun t ht _ => ⟨rfl, ht⟩) (fun _ hq => nomatch hq) hdg hlocks
theorem z_zret {v : Int32} {b : Bool} (hx : p.tables.exec = Jvm.exec) (hb : c.code = cc) (hr : meth.sig.returnType = some .boolean) (hlocks : meth.locks = false) (h : v = bi b) (hdg : decode cc pc = .ok (.ireturn, 1)) : W p l e R s m args below meth c s.heap [] 0 0 (MQ below (QcRead (bi b)) args s 0 0 (fun _ => False)) (F0 m pc ls [.int v]) := by
  subst h
  exact W.zret hx hb hr (bi_nar b) (fun t ht _ => ⟨rfl, ht⟩) (fun _ hq => nomatch hq) hdg hlocks
theorem z_wret {v r : Int32} (hx : p.tables.exec = Jvm.exec) (hb : c.code = cc) (hr : meth.sig.returnType = some .int) (hlocks : meth.locks = false) (hP : va_P D vwCl ws' H) (hK : va_K D vwCl tys s) (hD : va_D A ws') (hS : va_S A s.heap H locs) (h : v = r) (hdg : decode cc pc = .ok (.ireturn, 1)) : W p l e R s m args below meth c H locs cells slots (MQ below (zQi D tys ws' r A) args s cells slots A) (F0 m pc ls [.int v]) := by
  subst h
  exact W.iret hx hb hr (fun t ht hW => ⟨⟨_, (), rfl, rfl, by rw [ht]; exact hP, va_K.moved hW.alike hK, hD⟩, hS.F ht⟩) hS.2.2 hdg hlocks
theorem z_wzret {v : Int32} {b : Bool} (hx : p.tables.exec = Jvm.exec) (hb : c.code = cc) (hr : meth.sig.returnType = some .boolean) (hlocks : meth.locks = false) (hP : va_P D vwCl ws' H) (hK : va_K D vwCl tys s) (hD : va_D A ws') (hS : va_S A s.heap H locs) (h : v = bi b) (hdg : decode cc pc = .ok (.ireturn, 1)) : W p l e R s m args below meth c H locs cells slots (MQ below (zQi D tys ws' (bi b) A) args s cells slots A) (F0 m pc ls [.int v]) := by
  subst h
  exact W.zret hx hb hr (bi_nar b) (fun t ht hW => ⟨⟨_, (), rfl, rfl, by rw [ht]; exact hP, va_K.moved hW.alike hK, hD⟩, hS.F ht⟩) hS.2.2 hdg hlocks
theorem z_wvret (hx : p.tables.exec = Jvm.exec) (hb : c.code = cc) (hr : meth.sig.returnType = none) (hlocks : meth.locks = false) (hP : va_P D vwCl ws' H) (hK : va_K D vwCl tys s) (hD : va_D A ws') (hS : va_S A s.heap H locs) (hdg : decode cc pc = .ok (.return_, 1)) : W p l e R s m args below meth c H locs cells slots (MQ below (zQv D tys ws' A) args s cells slots A) (F0 m pc ls []) :=
  W.vret hx hb hr (fun t ht hW => ⟨⟨(), rfl, trivial, by rw [ht]; exact hP, va_K.moved hW.alike hK, hD⟩, hS.F ht⟩) hS.2.2 hdg hlocks
/-- a loop that only reads: k from 0 to N, what the locals hold at its head -/
theorem z_loop {nL N : Nat} {Lc : Nat → List (Nat × Value)} {ls0 : Array Slot} (h0 : lv_has ls0 nL (Lc 0))
    (hexit : ∀ ls : Array Slot, lv_has ls nL (Lc N) → W p l e R s m args below meth c H locs cells slots Q (F0 m pc ls []))
    (hstep : ∀ (k : Nat) (ls : Array Slot), k < N → lv_has ls nL (Lc k) → (∀ ls' : Array Slot, lv_has ls' nL (Lc (k + 1)) → W p l e R s m args below meth c H locs cells slots Q (F0 m pc ls' [])) → W p l e R s m args below meth c H locs cells slots Q (F0 m pc ls [])) :
    W p l e R s m args below meth c H locs cells slots Q (F0 m pc ls0 []) := by
  have g : ∀ (n k : Nat), k + n = N → ∀ ls : Array Slot, lv_has ls nL (Lc k) → W p l e R s m args below meth c H locs cells slots Q (F0 m pc ls []) := by
    intro n
    induction n with
    | zero => intro k hk ls hl; obtain rfl : k = N := by omega
              exact hexit ls hl
    | succ n ih => intro k hk ls hl; exact hstep k ls (by omega) hl (fun ls' hl' => ih (k + 1) (by omega) ls' hl')
  exact g N 0 (by omega) ls0 h0
/-- a loop that writes: Wd the world at its head -/
theorem z_loopW {nL N : Nat} {Lc : Nat → List (Nat × Value)} {Wd : Nat → va_W} {ls0 : Array Slot} (h0 : lv_has ls0 nL (Lc 0)) (hP : va_P D cl (Wd 0) H) (hD : va_D A (Wd 0)) (hS : va_S A H0 H locs)
    (hexit : ∀ (H : Heap) (locs : List Loc) (ls : Array Slot), va_P D cl (Wd N) H → va_D A (Wd N) → va_S A H0 H locs → lv_has ls nL (Lc N) → W p l e R s m args below meth c H locs cells slots Q (F0 m pc ls []))
    (hstep : ∀ (k : Nat) (H : Heap) (locs : List Loc) (ls : Array Slot), k < N → va_P D cl (Wd k) H → va_D A (Wd k) → va_S A H0 H locs → lv_has ls nL (Lc k) → (∀ (H : Heap) (locs : List Loc) (ls' : Array Slot), va_P D cl (Wd (k + 1)) H → va_D A (Wd (k + 1)) → va_S A H0 H locs → lv_has ls' nL (Lc (k + 1)) → W p l e R s m args below meth c H locs cells slots Q (F0 m pc ls' [])) → W p l e R s m args below meth c H locs cells slots Q (F0 m pc ls [])) :
    W p l e R s m args below meth c H locs cells slots Q (F0 m pc ls0 []) := by
  have g : ∀ (n k : Nat), k + n = N → ∀ (H : Heap) (locs : List Loc) (ls : Array Slot), va_P D cl (Wd k) H → va_D A (Wd k) → va_S A H0 H locs → lv_has ls nL (Lc k) → W p l e R s m args below meth c H locs cells slots Q (F0 m pc ls []) := by
    intro n
    induction n with
    | zero => intro k hk H locs ls h1 h2 h3 hl; obtain rfl : k = N := by omega
              exact hexit H locs ls h1 h2 h3 hl
    | succ n ih => intro k hk H locs ls h1 h2 h3 hl; exact hstep k H locs ls (by omega) h1 h2 h3 hl (fun H locs ls' h1 h2 h3 hl' => ih (k + 1) (by omega) H locs ls' h1 h2 h3 hl')
  exact g N 0 (by omega) H locs ls0 hP hD hS h0
end ZR
section ZSEL
variable {p : Program} {l : Launch} {e : Env} {R : Room} {s : State} {m : MethodId} {args : Array Value} {below : List Frame} {meth : Method} {c : Code} {H : Heap} {locs : List Loc} {cells slots : Nat} {Q : State → Prop} {cc : ByteArray} {pc : Nat} {ls : Array Slot} {rest : List Value}
theorem z_sel_icmp_eq {x y : Int32} (hx : p.tables.exec = Jvm.exec) (hb : c.code = cc) (d1 : decode cc pc = .ok (.if_icmp .eq 7, 3)) (d2 : decode cc (pc + 3) = .ok (.iconst 1, 1)) (d3 : decode cc (pc + 4) = .ok (.goto 4, 3)) (d4 : decode cc (pc + 7) = .ok (.iconst 0, 1)) (k : W p l e R s m args below meth c H locs cells slots Q (F0 m (pc + 8) ls (.int (bi (!decide (x = y))) :: rest))) : W p l e R s m args below meth c H locs cells slots Q (F0 m pc ls (.int y :: .int x :: rest)) :=
  lv_icmp_eq (tgt := pc + 7) hx hb d1 (by omega) (fun q => (lv_iconst (v := 0) hx hb d4 rfl (by rw [decide_eq_true q] at k; exact k))) (fun q => lv_iconst (v := 1) hx hb d2 rfl (lv_goto (tgt := pc + 8) hx hb d3 (by omega) (by rw [decide_eq_false q] at k; exact k)))
theorem z_sel_icmp_ne {x y : Int32} (hx : p.tables.exec = Jvm.exec) (hb : c.code = cc) (d1 : decode cc pc = .ok (.if_icmp .ne 7, 3)) (d2 : decode cc (pc + 3) = .ok (.iconst 1, 1)) (d3 : decode cc (pc + 4) = .ok (.goto 4, 3)) (d4 : decode cc (pc + 7) = .ok (.iconst 0, 1)) (k : W p l e R s m args below meth c H locs cells slots Q (F0 m (pc + 8) ls (.int (bi (decide (x = y))) :: rest))) : W p l e R s m args below meth c H locs cells slots Q (F0 m pc ls (.int y :: .int x :: rest)) :=
  lv_icmp_ne (tgt := pc + 7) hx hb d1 (by omega) (fun q => (lv_iconst (v := 0) hx hb d4 rfl (by rw [decide_eq_false q] at k; exact k))) (fun q => lv_iconst (v := 1) hx hb d2 rfl (lv_goto (tgt := pc + 8) hx hb d3 (by omega) (by rw [decide_eq_true q] at k; exact k)))
theorem z_sel_icmp_lt {x y : Int32} (hx : p.tables.exec = Jvm.exec) (hb : c.code = cc) (d1 : decode cc pc = .ok (.if_icmp .lt 7, 3)) (d2 : decode cc (pc + 3) = .ok (.iconst 1, 1)) (d3 : decode cc (pc + 4) = .ok (.goto 4, 3)) (d4 : decode cc (pc + 7) = .ok (.iconst 0, 1)) (k : W p l e R s m args below meth c H locs cells slots Q (F0 m (pc + 8) ls (.int (bi (!decide (x < y))) :: rest))) : W p l e R s m args below meth c H locs cells slots Q (F0 m pc ls (.int y :: .int x :: rest)) :=
  lv_icmp_lt (tgt := pc + 7) hx hb d1 (by omega) (fun q => (lv_iconst (v := 0) hx hb d4 rfl (by rw [decide_eq_true q] at k; exact k))) (fun q => lv_iconst (v := 1) hx hb d2 rfl (lv_goto (tgt := pc + 8) hx hb d3 (by omega) (by rw [decide_eq_false q] at k; exact k)))
theorem z_sel_icmp_ge {x y : Int32} (hx : p.tables.exec = Jvm.exec) (hb : c.code = cc) (d1 : decode cc pc = .ok (.if_icmp .ge 7, 3)) (d2 : decode cc (pc + 3) = .ok (.iconst 1, 1)) (d3 : decode cc (pc + 4) = .ok (.goto 4, 3)) (d4 : decode cc (pc + 7) = .ok (.iconst 0, 1)) (k : W p l e R s m args below meth c H locs cells slots Q (F0 m (pc + 8) ls (.int (bi (!decide (y ≤ x))) :: rest))) : W p l e R s m args below meth c H locs cells slots Q (F0 m pc ls (.int y :: .int x :: rest)) :=
  lv_icmp_ge (tgt := pc + 7) hx hb d1 (by omega) (fun q => (lv_iconst (v := 0) hx hb d4 rfl (by rw [decide_eq_true q] at k; exact k))) (fun q => lv_iconst (v := 1) hx hb d2 rfl (lv_goto (tgt := pc + 8) hx hb d3 (by omega) (by rw [decide_eq_false q] at k; exact k)))
theorem z_sel_icmp_gt {x y : Int32} (hx : p.tables.exec = Jvm.exec) (hb : c.code = cc) (d1 : decode cc pc = .ok (.if_icmp .gt 7, 3)) (d2 : decode cc (pc + 3) = .ok (.iconst 1, 1)) (d3 : decode cc (pc + 4) = .ok (.goto 4, 3)) (d4 : decode cc (pc + 7) = .ok (.iconst 0, 1)) (k : W p l e R s m args below meth c H locs cells slots Q (F0 m (pc + 8) ls (.int (bi (!decide (y < x))) :: rest))) : W p l e R s m args below meth c H locs cells slots Q (F0 m pc ls (.int y :: .int x :: rest)) :=
  lv_icmp_gt (tgt := pc + 7) hx hb d1 (by omega) (fun q => (lv_iconst (v := 0) hx hb d4 rfl (by rw [decide_eq_true q] at k; exact k))) (fun q => lv_iconst (v := 1) hx hb d2 rfl (lv_goto (tgt := pc + 8) hx hb d3 (by omega) (by rw [decide_eq_false q] at k; exact k)))
theorem z_sel_icmp_le {x y : Int32} (hx : p.tables.exec = Jvm.exec) (hb : c.code = cc) (d1 : decode cc pc = .ok (.if_icmp .le 7, 3)) (d2 : decode cc (pc + 3) = .ok (.iconst 1, 1)) (d3 : decode cc (pc + 4) = .ok (.goto 4, 3)) (d4 : decode cc (pc + 7) = .ok (.iconst 0, 1)) (k : W p l e R s m args below meth c H locs cells slots Q (F0 m (pc + 8) ls (.int (bi (!decide (x ≤ y))) :: rest))) : W p l e R s m args below meth c H locs cells slots Q (F0 m pc ls (.int y :: .int x :: rest)) :=
  lv_icmp_le (tgt := pc + 7) hx hb d1 (by omega) (fun q => (lv_iconst (v := 0) hx hb d4 rfl (by rw [decide_eq_true q] at k; exact k))) (fun q => lv_iconst (v := 1) hx hb d2 rfl (lv_goto (tgt := pc + 8) hx hb d3 (by omega) (by rw [decide_eq_false q] at k; exact k)))
theorem z_sel_if_eq {x : Int32} (hx : p.tables.exec = Jvm.exec) (hb : c.code = cc) (d1 : decode cc pc = .ok (.ifCond .eq 7, 3)) (d2 : decode cc (pc + 3) = .ok (.iconst 1, 1)) (d3 : decode cc (pc + 4) = .ok (.goto 4, 3)) (d4 : decode cc (pc + 7) = .ok (.iconst 0, 1)) (k : W p l e R s m args below meth c H locs cells slots Q (F0 m (pc + 8) ls (.int (bi (!decide (x = 0))) :: rest))) : W p l e R s m args below meth c H locs cells slots Q (F0 m pc ls (.int x :: rest)) :=
  lv_if_eq (tgt := pc + 7) hx hb d1 (by omega) (fun q => (lv_iconst (v := 0) hx hb d4 rfl (by rw [decide_eq_true q] at k; exact k))) (fun q => lv_iconst (v := 1) hx hb d2 rfl (lv_goto (tgt := pc + 8) hx hb d3 (by omega) (by rw [decide_eq_false q] at k; exact k)))
theorem z_sel_if_ne {x : Int32} (hx : p.tables.exec = Jvm.exec) (hb : c.code = cc) (d1 : decode cc pc = .ok (.ifCond .ne 7, 3)) (d2 : decode cc (pc + 3) = .ok (.iconst 1, 1)) (d3 : decode cc (pc + 4) = .ok (.goto 4, 3)) (d4 : decode cc (pc + 7) = .ok (.iconst 0, 1)) (k : W p l e R s m args below meth c H locs cells slots Q (F0 m (pc + 8) ls (.int (bi (decide (x = 0))) :: rest))) : W p l e R s m args below meth c H locs cells slots Q (F0 m pc ls (.int x :: rest)) :=
  lv_if_ne (tgt := pc + 7) hx hb d1 (by omega) (fun q => (lv_iconst (v := 0) hx hb d4 rfl (by rw [decide_eq_false q] at k; exact k))) (fun q => lv_iconst (v := 1) hx hb d2 rfl (lv_goto (tgt := pc + 8) hx hb d3 (by omega) (by rw [decide_eq_true q] at k; exact k)))
theorem z_sel_if_lt {x : Int32} (hx : p.tables.exec = Jvm.exec) (hb : c.code = cc) (d1 : decode cc pc = .ok (.ifCond .lt 7, 3)) (d2 : decode cc (pc + 3) = .ok (.iconst 1, 1)) (d3 : decode cc (pc + 4) = .ok (.goto 4, 3)) (d4 : decode cc (pc + 7) = .ok (.iconst 0, 1)) (k : W p l e R s m args below meth c H locs cells slots Q (F0 m (pc + 8) ls (.int (bi (!decide (x < 0))) :: rest))) : W p l e R s m args below meth c H locs cells slots Q (F0 m pc ls (.int x :: rest)) :=
  lv_if_lt (tgt := pc + 7) hx hb d1 (by omega) (fun q => (lv_iconst (v := 0) hx hb d4 rfl (by rw [decide_eq_true q] at k; exact k))) (fun q => lv_iconst (v := 1) hx hb d2 rfl (lv_goto (tgt := pc + 8) hx hb d3 (by omega) (by rw [decide_eq_false q] at k; exact k)))
theorem z_sel_if_ge {x : Int32} (hx : p.tables.exec = Jvm.exec) (hb : c.code = cc) (d1 : decode cc pc = .ok (.ifCond .ge 7, 3)) (d2 : decode cc (pc + 3) = .ok (.iconst 1, 1)) (d3 : decode cc (pc + 4) = .ok (.goto 4, 3)) (d4 : decode cc (pc + 7) = .ok (.iconst 0, 1)) (k : W p l e R s m args below meth c H locs cells slots Q (F0 m (pc + 8) ls (.int (bi (!decide (0 ≤ x))) :: rest))) : W p l e R s m args below meth c H locs cells slots Q (F0 m pc ls (.int x :: rest)) :=
  lv_if_ge (tgt := pc + 7) hx hb d1 (by omega) (fun q => (lv_iconst (v := 0) hx hb d4 rfl (by rw [decide_eq_true q] at k; exact k))) (fun q => lv_iconst (v := 1) hx hb d2 rfl (lv_goto (tgt := pc + 8) hx hb d3 (by omega) (by rw [decide_eq_false q] at k; exact k)))
theorem z_sel_if_gt {x : Int32} (hx : p.tables.exec = Jvm.exec) (hb : c.code = cc) (d1 : decode cc pc = .ok (.ifCond .gt 7, 3)) (d2 : decode cc (pc + 3) = .ok (.iconst 1, 1)) (d3 : decode cc (pc + 4) = .ok (.goto 4, 3)) (d4 : decode cc (pc + 7) = .ok (.iconst 0, 1)) (k : W p l e R s m args below meth c H locs cells slots Q (F0 m (pc + 8) ls (.int (bi (!decide (0 < x))) :: rest))) : W p l e R s m args below meth c H locs cells slots Q (F0 m pc ls (.int x :: rest)) :=
  lv_if_gt (tgt := pc + 7) hx hb d1 (by omega) (fun q => (lv_iconst (v := 0) hx hb d4 rfl (by rw [decide_eq_true q] at k; exact k))) (fun q => lv_iconst (v := 1) hx hb d2 rfl (lv_goto (tgt := pc + 8) hx hb d3 (by omega) (by rw [decide_eq_false q] at k; exact k)))
theorem z_sel_if_le {x : Int32} (hx : p.tables.exec = Jvm.exec) (hb : c.code = cc) (d1 : decode cc pc = .ok (.ifCond .le 7, 3)) (d2 : decode cc (pc + 3) = .ok (.iconst 1, 1)) (d3 : decode cc (pc + 4) = .ok (.goto 4, 3)) (d4 : decode cc (pc + 7) = .ok (.iconst 0, 1)) (k : W p l e R s m args below meth c H locs cells slots Q (F0 m (pc + 8) ls (.int (bi (!decide (x ≤ 0))) :: rest))) : W p l e R s m args below meth c H locs cells slots Q (F0 m pc ls (.int x :: rest)) :=
  lv_if_le (tgt := pc + 7) hx hb d1 (by omega) (fun q => (lv_iconst (v := 0) hx hb d4 rfl (by rw [decide_eq_true q] at k; exact k))) (fun q => lv_iconst (v := 1) hx hb d2 rfl (lv_goto (tgt := pc + 8) hx hb d3 (by omega) (by rw [decide_eq_false q] at k; exact k)))
end ZSEL
