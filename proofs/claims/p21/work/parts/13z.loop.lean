set_option maxHeartbeats 4000000 in
set_option maxRecDepth 100000 in
theorem law_loop {p : Program} {l : Launch} {e : Env} {s : State} {m : MethodId} {below : List Frame} {meth : Method} {c : Code} {D : va_G} {cI cZ : ClassId} {X : Nat → Nat} {b L : Nat} {xs : Nat → Int32} (hl0 : l.stackTraces = false) (hL : L ≤ 260) (C0 : lw_At p s m meth c b L xs) (hK : va_K D vwCl (tyl cI cZ) s) (hZ : zX (fun q : Nat => s.heap.size ≤ q) s) (hY : zY s) :
    ∀ (n k : Nat), k + n = 110 → ∀ (cells slots : Nat), cells + (110 - k) ≤ 158 → slots + 6 * (110 - k) ≤ 1916 → ∀ (S : Nat → Nat → Int32) (O : Nat → Bool) (V : Nat → Int32) (T : Nat → Nat → Int32) (H : Heap) (locs : List Loc) (ls : Array Slot), RelQ k S O V T → va_P D vwCl (lW cI cZ X S O V T) H → va_D (fun q : Nat => s.heap.size ≤ q) (lW cI cZ X S O V T) → va_S (fun q : Nat => s.heap.size ≤ q) s.heap H locs → lv_has ls 20 [(0, .ref b), (1, .ref (X 0)), (2, .ref (X 19)), (3, .ref (X 20)), (4, .ref (X 21)), (5, .ref (X 22)), (6, .ref (X 23)), (7, .ref (X 24)), (8, .ref (X 25)), (9, .ref (X 26)), (10, .int (nI k))] → W p l e room_1 s m #[Value.ref b] below meth c H locs cells slots (lw_Z below #[Value.ref b] s) (F0 m 66 ls []) := by
  have hbl := C0.2.2.2.2.2.2.2.1
  intro n
  induction n with
  | zero =>
    intro k hk cells slots hcells hslots S O V T H locs ls hR hP hD hS hl
    obtain ⟨hx, hb, hr, hml, hown, hts, hX, hbl, hlocks, hgv⟩ := C0
    obtain rfl : k = 110 := by omega
    refine lv_iload hx hb dL_law_66 (lv_at hl 10 rfl) ?_
    refine lv_bipush (v := nI 110) hx hb dL_law_68 (by decide) ?_
    refine z_ge_t (tgt := 826) (nI_le (by omega) (by omega)) hx hb dL_law_70 (by decide) ?_
    refine lv_iconst (v := 1) hx hb dL_law_826 rfl ?_
    refine va_forget (fun q hq => hS.2.2 q hq) ?_
    refine W.widen (k := 158) (n := 1916) (by omega) (by omega) ?_
    exact lw_ret hx hb hr hlocks dL_law_827
  | succ n ih =>
    intro k hk cells slots hcells hslots S O V T H locs ls hR hP hD hS hl
    exact law_turn hl0 hL C0 hK _ (fun _ h => h) (Nat.not_le.mpr hbl) hZ hY k (by omega) cells slots hcells hslots (fun j hj cells slots h1 h2 S O V T H locs ls hR hP hD hS hl => by subst hj; exact ih (k + 1) (by omega) cells slots h1 h2 S O V T H locs ls hR hP hD hS hl) S O V T H locs ls hR hP hD hS hl
