/-! ===== the law's world and rows for its walk ===== -/
theorem zX_narrow {A B : Nat → Prop} {U : State} (h : zX A U) (hAB : ∀ q, B q → A q) : zX B U := ⟨vx_Zq.narrow h.1 hAB, vx_Zq.narrow h.2.1 hAB, h.2.2.1, h.2.2.2⟩
def zY (U : State) : Prop := va_Nc "java/lang/IllegalStateException" "java/lang/IllegalArgumentException" U
theorem zY_moved {u U : State} (h : u.vm.Alike U.vm) (hy : zY u) : zY U := va_Nc.moved h hy
abbrev zL (D : va_G) (tys : List (ClassId × FieldType)) (ws : va_W) (sz : Nat) (av : List Value) : Array Value → State → Prop := va_Pc av (fun U => U.heap.size = sz ∧ va_P D vwCl ws U.heap ∧ va_K D vwCl tys U ∧ va_D (fun _ => True) ws ∧ zX (va_A ws sz) U ∧ zY U)
theorem zL_blind {D : va_G} {tys : List (ClassId × FieldType)} {ws : va_W} {sz : Nat} {av : List Value} : FrameBlind (zL D tys ws sz av) := fun a U g mk q => ⟨q.1, q.2.1, q.2.2.1, va_K.moved (u := U) (U := U.calling g mk a) (Vm.Alike.refl U.vm) q.2.2.2.1, q.2.2.2.2.1, zX_same (s := U) (U := U.calling g mk a) rfl rfl q.2.2.2.2.2.1, zY_moved (u := U) (U := U.calling g mk a) (Vm.Alike.refl U.vm) q.2.2.2.2.2.2⟩
theorem zL_preS {s : State} {H : Heap} {D : va_G} {tys : List (ClassId × FieldType)} {ws : va_W} {A : Nat → Prop} {av : List Value} (hK : va_K D vwCl tys s) (hP : va_P D vwCl ws H) (hD : va_D A ws) (hZ : ∀ U : State, U.heap = H → s.WarmedH U.vm → zX (va_A ws H.size) U) (hY : zY s) : PreS s H (zL D tys ws H.size av) av :=
  ⟨zL_blind, fun U hU hW => ⟨rfl, by rw [hU], by rw [hU]; exact hP, va_K.moved hW.alike hK, hD.weaken (fun _ _ _ _ => trivial), hZ U hU hW, zY_moved hW.alike hY⟩⟩
theorem zX_at {A : Nat → Prop} {s U : State} {H : Heap} {locs : List Loc} (hZ : zX A s) (hS : va_S A s.heap H locs) (hU : U.heap = H) (hW : s.WarmedH U.vm) : zX A U := by
  obtain ⟨h1, h2, h3, h4⟩ := hZ
  refine ⟨by rw [hU]; exact vx_Zq.moved hW.alike (vx_Zq.kept h1 hS.2.1), by rw [hU]; exact vx_Zq.moved hW.alike (vx_Zq.kept h2 hS.2.1), fun w hw => ?_, fun q hq => ?_⟩
  · have h5 := h3 w hw
    simp only [zBad, List.mem_cons, List.not_mem_nil, or_false] at hw
    rcases hw with rfl | rfl | rfl | rfl | rfl | rfl
    · exact va_Nw.warmC hW h5
    · exact va_Nw.warmC hW h5
    · exact va_Nw.warmC hW h5
    · exact va_Nw.warmD hW h5
    · exact va_Nw.warmD hW h5
    · exact va_Nw.warmD hW h5
  · obtain ⟨sa, h5⟩ := h4 q hq
    exact ⟨sa, vk_R.warm hW h5⟩
theorem z_ofWH {l : Launch} {y : MethodName} {ws ws' : List Cond} {rm : Room} {Pc : Array Value → State → Prop} {Qc : Array Value → State → Outcome → State → Prop} {mc ms : Nat} {free : Addr → Prop} {cc : ByteArray} {maxL : Nat} {ret : Option FieldType} {hh : List (Nat × Nat × Nat × Nat)}
    (hy : plainName y.cls = true) (hw : ws = Cond.codeWith y cc maxL ret hh :: ws')
    (body : ∀ p e s m args below meth c s₁, BodyLoose p l y (headSpec ws rm) cc maxL ret e s m args below meth c s₁ → c.maxLocals = maxL → Pc args s →
      W p l e (headSpec ws rm).room s m args below meth c s.heap [] 0 0 (MQ below Qc args s mc ms free) (entryFrame m args maxL)) : Met l y ws rm Pc Qc mc ms free := by
  refine MetFree.of_bodyS (code := cc) (maxLocals := maxL) (ret := ret) hy ?_ ?_
  · intro args s m h hn
    obtain ⟨m9, meth, c, hn9, h1, h2, h3, h4, -, h5, h6, -⟩ := Cond.codeWith_spec (atoms_spec (ws := ws) h _ (by rw [hw]; exact List.mem_cons_self))
    cases hn.symm.trans hn9
    exact ⟨meth, c, h1, h2, h3, h4, h5, h6⟩
  · intro p e s m args below meth c s₁ B hml hP _
    have hh0 : s₁.heap = s.heap := by rw [B.state]; rfl
    obtain ⟨t, a1, o, b1, b2, b3⟩ := body p e s m args below meth c s₁ B hml hP s₁ hh0 (Stand.of_body B)
    exact ⟨t, o, a1, b1, b2, ⟨b3.1, b3.2⟩⟩
/-- the class's cells, then the law's own rows q g h r e s k v at 19 to 26 -/
def lW (cI cZ : ClassId) (X : Nat → Nat) (S : Nat → Nat → Int32) (O : Nat → Bool) (V : Nat → Int32) (T : Nat → Nat → Int32) : va_W :=
  [(X 0, .inr (4, [.ref (X 1), .ref (X 2), .ref (X 3), .ref (X 4), .ref (X 5), .ref (X 6), .int (V 0)])),
   (X 1, .inr (1, [.ref (X 7), .ref (X 8), .ref (X 9), .ref (X 10)])),
   (X 2, .inr (3, [.ref (X 11), .ref (X 12), .ref (X 13), .ref (X 14), .ref (X 15), .int (V 1)])),
   (X 3, .inr (2, [.int (V 2), .int (V 3)])),
   (X 4, .inr (0, [.ref (X 16), .ref (X 17), .ref (X 18)])),
   (X 5, .inl (cI, 10, .inl (S 5))), (X 6, .inl (cI, 60, .inl (S 6))),
   (X 7, .inl (cI, 10, .inl (S 7))), (X 8, .inl (cI, 8, .inl (S 8))), (X 9, .inl (cI, 6, .inl (S 9))), (X 10, .inl (cI, 6, .inl (S 10))),
   (X 11, .inl (cI, 30, .inl (S 11))), (X 12, .inl (cI, 30, .inl (S 12))), (X 13, .inl (cI, 30, .inl (S 13))), (X 14, .inl (cI, 30, .inl (S 14))), (X 15, .inl (cZ, 30, .inl (fun j => bi (O j)))),
   (X 16, .inl (cI, 4, .inl (S 16))), (X 17, .inl (cI, 240, .inl (S 17))), (X 18, .inl (cI, 240, .inl (S 18))),
   (X 19, .inl (cI, 6, .inl (T 19))), (X 20, .inl (cI, 8, .inl (T 20))), (X 21, .inl (cI, 12, .inl (T 21))), (X 22, .inl (cI, 5, .inl (T 22))),
   (X 23, .inl (cI, 15, .inl (T 23))), (X 24, .inl (cI, 60, .inl (T 24))), (X 25, .inl (cI, 30, .inl (T 25))), (X 26, .inl (cI, 30, .inl (T 26)))]
/-- the law's own rows alone -/
def rW (cI : ClassId) (X : Nat → Nat) (T : Nat → Nat → Int32) : va_W :=
  [(X 19, .inl (cI, 6, .inl (T 19))), (X 20, .inl (cI, 8, .inl (T 20))), (X 21, .inl (cI, 12, .inl (T 21))), (X 22, .inl (cI, 5, .inl (T 22))),
   (X 23, .inl (cI, 15, .inl (T 23))), (X 24, .inl (cI, 60, .inl (T 24))), (X 25, .inl (cI, 30, .inl (T 25))), (X 26, .inl (cI, 30, .inl (T 26)))]
theorem zR_preS {s : State} {H : Heap} {D : va_G} {tys : List (ClassId × FieldType)} {ws : va_W} {av : List Value} (hK : va_K D vwCl tys s) (hP : va_P D vwCl ws H) : PreS s H (zR D tys ws av) av :=
  ⟨zR_blind, fun U hU hW => ⟨rfl, by rw [hU]; exact hP, va_K.moved hW.alike hK⟩⟩
abbrev U4 : Type := (Nat → Nat → Int32) × (Nat → Bool) × (Nat → Int32) × (Nat → Nat → Int32)
abbrev zE (D : va_G) (cI cZ : ClassId) (X : Nat → Nat) (n : Nat) (A : Nat → Prop) : Array Value → State → Outcome → State → Prop := va_Qi (fun x (u : U4) => x = 1 ∧ RelQ (n + 1) u.1 u.2.1 u.2.2.1 u.2.2.2) (fun (u : U4) t => zB D (tyl cI cZ) (lW cI cZ X u.1 u.2.1 u.2.2.1 u.2.2.2) A t) A
section ZLB
variable {p : Program} {l : Launch} {e : Env} {R : Room} {s : State} {m : MethodId} {args : Array Value} {below : List Frame} {meth : Method} {c : Code} {H : Heap} {locs : List Loc} {cells slots : Nat} {Q : State → Prop} {cc : ByteArray} {pc : Nat} {ls : Array Slot} {rest st0 : List Value} {D : va_G} {A : Nat → Prop} {av : Array Value}
variable {cI cZ : ClassId} {X : Nat → Nat} {S S1 : Nat → Nat → Int32} {O O1 : Nat → Bool} {V V1 : Nat → Int32} {T T1 : Nat → Nat → Int32}
theorem z_cut {F G : JFrame} (h : W p l e R s m args below meth c H locs cells slots Q G → W p l e R s m args below meth c H locs cells slots Q F) (g : W p l e R s m args below meth c H locs cells slots Q G) : W p l e R s m args below meth c H locs cells slots Q F := h g
theorem z_cutL {F : JFrame} {nL : Nat} {L : List (Nat × Value)} {pc2 : Nat} {st2 : List Value} (h : (∀ ls : Array Slot, lv_has ls nL L → W p l e R s m args below meth c H locs cells slots Q (F0 m pc2 ls st2)) → W p l e R s m args below meth c H locs cells slots Q F) (g : ∀ ls : Array Slot, lv_has ls nL L → W p l e R s m args below meth c H locs cells slots Q (F0 m pc2 ls st2)) : W p l e R s m args below meth c H locs cells slots Q F := h g
/-- a loop that ends at the latest at its Nth head -/
theorem z_while {nL N : Nat} {Lc : Nat → List (Nat × Value)} {ls0 : Array Slot} (h0 : lv_has ls0 nL (Lc 0))
    (hstep : ∀ (k : Nat) (ls : Array Slot), k ≤ N → lv_has ls nL (Lc k) → (k < N → ∀ ls' : Array Slot, lv_has ls' nL (Lc (k + 1)) → W p l e R s m args below meth c H locs cells slots Q (F0 m pc ls' [])) → W p l e R s m args below meth c H locs cells slots Q (F0 m pc ls [])) :
    W p l e R s m args below meth c H locs cells slots Q (F0 m pc ls0 []) := by
  have g : ∀ (n k : Nat), k + n = N → ∀ ls : Array Slot, lv_has ls nL (Lc k) → W p l e R s m args below meth c H locs cells slots Q (F0 m pc ls []) := by
    intro n
    induction n with
    | zero => intro k hk ls hl; exact hstep k ls (by omega) hl (fun h => absurd h (by omega))
    | succ n ih => intro k hk ls hl; exact hstep k ls (by omega) hl (fun _ ls' hl' => ih (k + 1) (by omega) ls' hl')
  exact g N 0 (by omega) ls0 h0
theorem z_callLow {x : Int32} {n : Nat} (hr : CallRun p l e R s m args below meth c H locs cells slots 0 0 (F0 m pc ls st0) rest (QcRead (nI (l_low x n)) av) (fun _ => False)) (hn : 0 < n) (kk : ∀ j : Nat, j < n → W p l e R s m args below meth c H locs cells slots Q (F0 m (pc + 3) ls (.int (nI j) :: rest))) : W p l e R s m args below meth c H locs cells slots Q (F0 m pc ls st0) := W.callR hr (kk _ (Nat.mod_lt _ hn))
theorem z_callAny {x : Int32} (hr : CallRun p l e R s m args below meth c H locs cells slots 0 0 (F0 m pc ls st0) rest (QcRead x av) (fun _ => False)) (kk : ∀ z : Int32, W p l e R s m args below meth c H locs cells slots Q (F0 m (pc + 3) ls (.int z :: rest))) : W p l e R s m args below meth c H locs cells slots Q (F0 m pc ls st0) := W.callR hr (kk _)
theorem z_lawR {al : List Value} (hK : va_K D vwCl (tyl cI cZ) s) (hP : va_P D vwCl (lW cI cZ X S O V T) H) : PreV s H RX4 (X 0) (zR D (tyl cI cZ) (hW cI cZ X S O V) (.ref (X 0) :: al)) al :=
  zR_preV 0 4 hK (hP.sub (ws' := hW cI cZ X S O V) [0, 1, 2, 3, 4, 5, 6, 7, 8, 9, 10, 11, 12, 13, 14, 15, 16, 17, 18] rfl) rfl rfl
theorem z_lawW {al : List Value} (hK : va_K D vwCl (tyl cI cZ) s) (hP : va_P D vwCl (lW cI cZ X S O V T) H) (hD : va_D A (lW cI cZ X S O V T)) : PreV s H RX4 (X 0) (zW D (tyl cI cZ) (hW cI cZ X S O V) H.size (.ref (X 0) :: al)) al :=
  zW_preV 0 4 (A := A) hK (hP.sub (ws' := hW cI cZ X S O V) [0, 1, 2, 3, 4, 5, 6, 7, 8, 9, 10, 11, 12, 13, 14, 15, 16, 17, 18] rfl) (hD.sub (ws' := hW cI cZ X S O V) [0, 1, 2, 3, 4, 5, 6, 7, 8, 9, 10, 11, 12, 13, 14, 15, 16, 17, 18] (by decide) rfl) rfl rfl
theorem z_lawCall {r : Int32} {mc ms : Nat} (hr : va_Run p l e R s m args below meth c H locs cells slots mc ms (F0 m pc ls st0) rest (zQi D (tyl cI cZ) (hW cI cZ X S1 O1 V1) r (va_A (hW cI cZ X S O V) H.size) av) (va_A (hW cI cZ X S O V) H.size)) (hP : va_P D vwCl (lW cI cZ X S O V T) H) (hD : va_D A (lW cI cZ X S O V T)) (hS : va_S A s.heap H locs) (hA : ∀ q, s.heap.size ≤ q → A q)
    (kk : ∀ (H1 : Heap) (locs1 : List Loc), va_P D vwCl (lW cI cZ X S1 O1 V1 T) H1 → va_D A (lW cI cZ X S1 O1 V1 T) → va_S A s.heap H1 locs1 → W p l e R s m args below meth c H1 locs1 (cells + mc) (slots + ms) Q (F0 m (pc + 3) ls (.int r :: rest))) : W p l e R s m args below meth c H locs cells slots Q (F0 m pc ls st0) := by
  have hF : ∀ q, va_A (hW cI cZ X S O V) H.size q → A q := va_free (wc := hW cI cZ X S O V) hD hS hA [0, 1, 2, 3, 4, 5, 6, 7, 8, 9, 10, 11, 12, 13, 14, 15, 16, 17, 18] rfl
  refine va_calli hr hS (fun q _ h => hF q h) hF (fun r' u t H1 locs1 ht _ hw hB _ hk hS1 => ?_)
  subst hw
  obtain ⟨hP1, -, hD1⟩ := hB
  rw [ht] at hP1
  obtain ⟨hP2, hD2⟩ := va_join (wr := rW cI X T) (w1 := hW cI cZ X S1 O1 V1) hP hD [0, 1, 2, 3, 4, 5, 6, 7, 8, 9, 10, 11, 12, 13, 14, 15, 16, 17, 18] [19, 20, 21, 22, 23, 24, 25, 26] rfl rfl (by decide) (by decide) hk hF hP1 hD1
  exact kk H1 locs1 (hP2.sub [8, 9, 10, 11, 12, 13, 14, 15, 16, 17, 18, 19, 20, 21, 22, 23, 24, 25, 26, 0, 1, 2, 3, 4, 5, 6, 7] rfl) (hD2.sub [8, 9, 10, 11, 12, 13, 14, 15, 16, 17, 18, 19, 20, 21, 22, 23, 24, 25, 26, 0, 1, 2, 3, 4, 5, 6, 7] (by decide) rfl) hS1
theorem z_lawCallW {r : Int32} (hr : va_Run p l e R s m args below meth c H locs cells slots 0 0 (F0 m pc ls st0) rest (zQi D (tyl cI cZ) (hW cI cZ X S1 O1 V1) r (va_A (hW cI cZ X S O V) H.size) av) (va_A (hW cI cZ X S O V) H.size)) (hP : va_P D vwCl (lW cI cZ X S O V T) H) (hD : va_D A (lW cI cZ X S O V T)) (hS : va_S A s.heap H locs) (hA : ∀ q, s.heap.size ≤ q → A q)
    (kk : ∀ (H1 : Heap) (locs1 : List Loc), va_P D vwCl (lW cI cZ X S1 O1 V1 T) H1 → va_D A (lW cI cZ X S1 O1 V1 T) → va_S A s.heap H1 locs1 → W p l e R s m args below meth c H1 locs1 cells slots Q (F0 m (pc + 3) ls (.int r :: rest))) : W p l e R s m args below meth c H locs cells slots Q (F0 m pc ls st0) := z_lawCall hr hP hD hS hA kk
theorem z_lawPreL {al : List Value} (hK : va_K D vwCl (tyl cI cZ) s) (hP : va_P D vwCl (lW cI cZ X S O V T) H) (hD : va_D A (lW cI cZ X S O V T)) (hS : va_S A s.heap H locs) (hA : ∀ q, s.heap.size ≤ q → A q) (hZ : zX A s) (hY : zY s) : PreS s H (zL D (tyl cI cZ) (hW cI cZ X S O V) H.size al) al := by
  have hPc := hP.sub (ws' := hW cI cZ X S O V) [0, 1, 2, 3, 4, 5, 6, 7, 8, 9, 10, 11, 12, 13, 14, 15, 16, 17, 18] rfl
  have hDc := hD.sub (ws' := hW cI cZ X S O V) [0, 1, 2, 3, 4, 5, 6, 7, 8, 9, 10, 11, 12, 13, 14, 15, 16, 17, 18] (by decide) rfl
  exact zL_preS hK hPc hDc (fun U' hU hW => zX_narrow (zX_at hZ hS hU hW) (z_free hDc hS hA)) hY
theorem z_lawPreX {al : List Value} (hK : va_K D vwCl (tyl cI cZ) s) (hP : va_P D vwCl (lW cI cZ X S O V T) H) (hD : va_D A (lW cI cZ X S O V T)) (hS : va_S A s.heap H locs) (hA : ∀ q, s.heap.size ≤ q → A q) (hZ : zX A s) (hY : zY s) : PreS s H (zL D (tyl cI cZ) (lW cI cZ X S O V T) H.size al) al :=
  zL_preS hK hP hD (fun U' hU hW => zX_narrow (zX_at hZ hS hU hW) (z_free hD hS hA)) hY
theorem z_eret {n : Nat} {v : Int32} (hx : p.tables.exec = Jvm.exec) (hb : c.code = cc) (hr : meth.sig.returnType = some .boolean) (hlocks : meth.locks = false) (hP : va_P D vwCl (lW cI cZ X S O V T) H) (hK : va_K D vwCl (tyl cI cZ) s) (hD : va_D A (lW cI cZ X S O V T)) (hS : va_S A s.heap H locs) (hv : v = 1) (hR : RelQ (n + 1) S O V T) (hdg : decode cc pc = .ok (.ireturn, 1)) : W p l e R s m args below meth c H locs cells slots (MQ below (zE D cI cZ X n A) args s cells slots A) (F0 m pc ls [.int v]) := by
  subst hv
  exact W.zret hx hb hr (bi_nar true) (fun t ht hW => ⟨⟨_, ((S, O, V, T) : U4), rfl, ⟨rfl, hR⟩, by rw [ht]; exact hP, va_K.moved hW.alike hK, hD⟩, hS.F ht⟩) hS.2.2 hdg hlocks
theorem z_callE {n mc ms : Nat} (hr : va_Run p l e R s m args below meth c H locs cells slots mc ms (F0 m pc ls st0) rest (zE D cI cZ X n (va_A (lW cI cZ X S O V T) H.size) av) (va_A (lW cI cZ X S O V T) H.size)) (hD : va_D A (lW cI cZ X S O V T)) (hS : va_S A s.heap H locs) (hA : ∀ q, s.heap.size ≤ q → A q)
    (kk : ∀ (S : Nat → Nat → Int32) (O : Nat → Bool) (V : Nat → Int32) (T : Nat → Nat → Int32) (H1 : Heap) (locs1 : List Loc), RelQ (n + 1) S O V T → va_P D vwCl (lW cI cZ X S O V T) H1 → va_D A (lW cI cZ X S O V T) → va_S A s.heap H1 locs1 → W p l e R s m args below meth c H1 locs1 (cells + mc) (slots + ms) Q (F0 m (pc + 3) ls (.int 1 :: rest))) : W p l e R s m args below meth c H locs cells slots Q (F0 m pc ls st0) := by
  have hF := z_free hD hS hA
  refine va_calli hr hS (fun q _ h => hF q h) hF (fun r' u t H1 locs1 ht _ hw hB _ hk hS1 => ?_)
  obtain ⟨hw1, hR⟩ := hw
  subst hw1
  obtain ⟨hP1, -, hD1⟩ := hB
  rw [ht] at hP1
  exact kk _ _ _ _ H1 locs1 hR hP1 (hD1.weaken (fun _ q _ h => hF q.1 h)) hS1
end ZLB
section ZLC
variable {p : Program} {l : Launch} {e : Env} {R : Room} {s : State} {m : MethodId} {args : Array Value} {below : List Frame} {meth : Method} {c : Code} {H : Heap} {locs : List Loc} {cells slots : Nat} {Q : State → Prop}
theorem z_cutP {F : JFrame} {Pr : Nat → Prop} {pc2 : Nat} {ls2 : Array Slot} {st2 : List Value} (h : (∀ w : Nat, Pr w → W p l e R s m args below meth c H locs cells slots Q (F0 m pc2 ls2 (.int (nI w) :: st2))) → W p l e R s m args below meth c H locs cells slots Q F) (g : ∀ w : Nat, Pr w → W p l e R s m args below meth c H locs cells slots Q (F0 m pc2 ls2 (.int (nI w) :: st2))) : W p l e R s m args below meth c H locs cells slots Q F := h g
end ZLC
theorem bi_of1 {b : Bool} (h : b = true) : (1 : Int32) = bi b := by rw [h]; rfl
theorem bi_of0 {b : Bool} (h : b = false) : (0 : Int32) = bi b := by rw [h]; rfl
theorem bi_1 (b : Bool) : (bi b = 1) = (b = true) := by cases b <;> simp [bi]
theorem tt_true : true = true := rfl
theorem so_eq {x y : Int32} (h : x = y) : bi (decide (x = y)) = 1 := by rw [decide_eq_true h]; rfl
theorem bi_is (b : Bool) : decide (bi b = 1) = b := by cases b <;> rfl
def l_thr (k r : Int32) : Int32 := if k = 0 then r else if k = 1 then -2 else -3
def l_due (a b c : Bool) : Int32 := if a = true then -2 else if b = true then -3 else if c = true then 1 else 0
def l_st (S T : Nat → Nat → Int32) (V : Nat → Int32) (a j : Nat) : Bool := !decide (T 25 (15 * a + j) ≤ T 19 0) && !decide (bi (decide (T 26 (15 * a + j) = 1)) = bi (c_lets S V (j / 3) (j % 3)))
def l_ke (T : Nat → Nat → Int32) (b i : Nat) : Bool := !decide (T 25 (b + i) ≤ T 19 0)
theorem bi_n1 {b : Bool} (h : ¬ bi b = 1) : b = false := by
  cases b
  · rfl
  · exact absurd rfl h
theorem bi_p1 {b : Bool} (h : bi b = 1) : b = true := by
  cases b
  · exact absurd h (by decide)
  · rfl
theorem l_due_2 {p : Prop} {b c : Bool} [Decidable p] (h : p) : (-2 : Int32) = l_due (decide p) b c := by rw [l_due, if_pos (decide_eq_true h)]
theorem l_due_3 {p : Prop} {b c : Bool} [Decidable p] (h : ¬ p) (hb : b = true) : (-3 : Int32) = l_due (decide p) b c := by rw [l_due, decide_eq_false h, hb]; rfl
theorem l_due_1 {p : Prop} {b c : Bool} [Decidable p] (h : ¬ p) (hb : b = false) (hc : c = true) : (1 : Int32) = l_due (decide p) b c := by rw [l_due, decide_eq_false h, hb, hc]; rfl
theorem l_due_0 {p : Prop} {b c : Bool} [Decidable p] (h : ¬ p) (hb : b = false) (hc : c = false) : (0 : Int32) = l_due (decide p) b c := by rw [l_due, decide_eq_false h, hb, hc]; rfl
