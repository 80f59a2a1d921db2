/-! ===== groups, roles, keys: the law's words are the class's ===== -/
theorem l_num_cnt (G : Nat → Bool) (k : Nat) : l_num G k = nI (cnt G k) := by
  induction k with
  | zero => rfl
  | succ k ih =>
    rw [l_num, cnt, ih]
    cases h : G k
    · simp [bi]
    · rw [if_pos rfl, bi_t]; exact nI_1 _
theorem l_num_pos (G : Nat → Bool) {k : Nat} (hk : k ≤ 12) : ¬ l_num G k < 0 := by
  rw [l_num_cnt]
  have := cnt_le G k
  exact nI_pos (by omega)
theorem cnt_zero (G : Nat → Bool) (k : Nat) : cnt G k = 0 ↔ ∀ j, j < k → G j = false := by
  induction k with
  | zero => exact ⟨fun _ j hj => absurd hj (Nat.not_lt_zero j), fun _ => rfl⟩
  | succ k ih =>
    rw [cnt]
    constructor
    · intro h j hj
      by_cases e : j = k
      · subst e
        cases hg : G j
        · rfl
        · rw [hg, if_pos rfl] at h; omega
      · exact ih.mp (by omega) j (by omega)
    · intro h
      rw [ih.mpr (fun j hj => h j (by omega)), h k (by omega)]; rfl
theorem l_num_congr {F G : Nat → Bool} {k : Nat} (h : ∀ j, j < k → F j = G j) : l_num F k = l_num G k := by
  induction k with
  | zero => rfl
  | succ k ih => rw [l_num, l_num, ih (fun j hj => h j (by omega)), h k (by omega)]
/-- one of four holds, or none -/
theorem num_any {G : Nat → Bool} {b : Bool} (h : b = true ↔ ∃ n, n < 4 ∧ G n = true) : (!decide (l_num G 4 ≤ 0)) = b ∧ decide (l_num G 4 = 0) = !b := by
  have hc := cnt_le G 4
  have h0 : (l_num G 4 = 0) ↔ cnt G 4 = 0 := by rw [l_num_cnt]; exact nI_eq (b := 0) (by omega) (by decide)
  have h1 : (l_num G 4 ≤ 0) ↔ cnt G 4 = 0 := by
    rw [l_num_cnt]
    exact (nI_leI (b := 0) (by omega) (by decide)).trans (by omega)
  cases hb : b
  · have hz : cnt G 4 = 0 := (cnt_zero G 4).mpr (fun j hj => by
      cases hg : G j
      · rfl
      · rw [h.mpr ⟨j, hj, hg⟩] at hb; cases hb)
    exact ⟨by rw [decide_eq_true (h1.mpr hz)]; rfl, by rw [decide_eq_true (h0.mpr hz)]; rfl⟩
  · obtain ⟨j, hj, hg⟩ := h.mp hb
    have hz : ¬ cnt G 4 = 0 := fun q => by rw [(cnt_zero G 4).mp q j hj] at hg; cases hg
    exact ⟨by rw [decide_eq_false (fun q => hz (h1.mp q))]; rfl, by rw [decide_eq_false (fun q => hz (h0.mp q))]; rfl⟩
theorem l_it_lt {S T : Nat → Nat → Int32} (hG : RelG S T) {gi : Nat} (hgi : gi < 4) {i : Nat} (hi : i ≤ 5) (c : ¬ l_bf T (1 <<< (nI gi &&& 31)) i = l_it T (1 <<< (nI gi &&& 31)) i) : i < 5 := by
  rcases Nat.lt_or_ge i 5 with h | h
  · exact h
  · obtain rfl : i = 5 := by omega
    exact absurd (fix_of_closed (it_closed hG.2.2.2.2.2.1 hgi)) c
theorem mem_eq {S T : Nat → Nat → Int32} (hG : RelG S T) {gi pi : Nat} (hgi : gi < 4) (hpi : pi < 5) {i : Nat} (c : l_bf T (1 <<< (nI gi &&& 31)) i = l_it T (1 <<< (nI gi &&& 31)) i) : l_mem T (l_it T (1 <<< (nI gi &&& 31)) i) pi 4 = hasB (c_allA S (S 7 pi) 8) (nI gi) := by
  cases i with
  | zero =>
    have h1 := (bt_w hgi gi).mpr rfl
    have c : (0 : Int32) = 1 <<< (nI gi &&& 31) := c
    rw [← c, bt_0] at h1
    cases h1
  | succ j =>
    have c : l_it T (1 <<< (nI gi &&& 31)) j = l_rd T (l_it T (1 <<< (nI gi &&& 31)) j) 4 := c
    have hc := closed_of_fix c
    have hcl := fun b hb => cl_is hgi (it_in T _ j ((bt_w hgi gi).mpr rfl)) hc (fun C h0 hC b hb h => it_sound (fun b _ h => by rw [(bt_w hgi b).mp h]; exact h0) hC j b hb h) b hb
    have e : l_it T (1 <<< (nI gi &&& 31)) (j + 1) = l_it T (1 <<< (nI gi &&& 31)) j := c.symm
    rw [e]
    apply Bool.eq_iff_iff.mpr
    rw [mem_iff T _ pi 4 (Nat.le_refl _) hpi, hasB_bt (by omega), in_iff hG hgi hpi]
    constructor
    · rintro ⟨k, hk, h1, h2⟩; exact ⟨k, hk, (hcl k (by omega)).mp h1, h2⟩
    · rintro ⟨k, hk, h1, h2⟩; exact ⟨k, hk, (hcl k (by omega)).mpr h1, h2⟩
theorem role1 {S T : Nat → Nat → Int32} (hG : RelG S T) {g r : Nat} (hg : g < 4) (hr : r < 3) : T 21 (3 * g + r) = 1 ↔ bt (S 9 r) g = true := by
  obtain ⟨-, -, -, -, -, -, -, -, -, g8, g9⟩ := hG
  rw [g8 g r hg hr, c_roleOf, hasB_bt (by omega), hasB_bt (by omega)]
  by_cases h1 : bt (S 9 r) g = true
  · rw [if_pos h1]; exact ⟨fun _ => h1, fun _ => rfl⟩
  · rw [if_neg h1]
    refine ⟨fun h => ?_, fun h => absurd h h1⟩
    by_cases h2 : bt (S 10 r) g = true
    · rw [if_pos h2] at h; exact absurd h (by decide)
    · rw [if_neg h2] at h; exact absurd h (by decide)
theorem role2 {S T : Nat → Nat → Int32} (hG : RelG S T) {g r : Nat} (hg : g < 4) (hr : r < 3) : T 21 (3 * g + r) = 2 ↔ bt (S 10 r) g = true := by
  obtain ⟨-, -, -, -, -, -, -, -, -, g8, g9⟩ := hG
  have h9 := g9 g r hg hr
  rw [g8 g r hg hr, c_roleOf, hasB_bt (by omega), hasB_bt (by omega)]
  by_cases h1 : bt (S 9 r) g = true
  · rw [if_pos h1]
    exact ⟨fun h => absurd h (by decide), fun h => absurd (h.symm.trans (h9 h1)) (by decide)⟩
  · rw [if_neg h1]
    by_cases h2 : bt (S 10 r) g = true
    · rw [if_pos h2]; exact ⟨fun _ => h2, fun _ => rfl⟩
    · rw [if_neg h2]; exact ⟨fun h => absurd h (by decide), fun h => absurd h h2⟩
theorem any_iff {S : Nat → Nat → Int32} {w p r : Nat} (hl : lt8 (S w r)) : c_any S w p r = true ↔ ∃ g, g < 8 ∧ bt (c_allA S (S 7 p) 8) g = true ∧ bt (S w r) g = true := by
  rw [c_any, Bool.not_eq_true', decide_eq_false_iff_not, and_ne hl]
  constructor
  · intro h
    apply Classical.byContradiction
    intro hn
    exact h (fun j hj h1 h2 => hn ⟨j, hj, h1, h2⟩)
  · rintro ⟨g, hg, h1, h2⟩ h
    exact h g hg h1 h2
theorem i21 : ¬ ((0 : Int32) = 1) := by decide
theorem i02 : ¬ ((0 : Int32) = 2) := by decide
theorem what1 {S T : Nat → Nat → Int32} (hG : RelG S T) {p r n : Nat} (hn : n < 4) (hr : r < 3) : decide (l_what S T p r n = 1) = true ↔ bt (c_allA S (S 7 p) 8) n = true ∧ bt (S 9 r) n = true := by
  rw [decide_eq_true_iff, l_what, hasB_bt (by omega)]
  by_cases h : bt (c_allA S (S 7 p) 8) n = true
  · rw [if_pos h, role1 hG hn hr]; exact ⟨fun q => ⟨h, q⟩, fun q => q.2⟩
  · rw [if_neg h]; exact ⟨fun q => absurd q i21, fun q => absurd q.1 h⟩
theorem what2 {S T : Nat → Nat → Int32} (hG : RelG S T) {p r n : Nat} (hn : n < 4) (hr : r < 3) : decide (l_what S T p r n = 2) = true ↔ bt (c_allA S (S 7 p) 8) n = true ∧ bt (S 10 r) n = true := by
  rw [decide_eq_true_iff, l_what, hasB_bt (by omega)]
  by_cases h : bt (c_allA S (S 7 p) 8) n = true
  · rw [if_pos h, role2 hG hn hr]; exact ⟨fun q => ⟨h, q⟩, fun q => q.2⟩
  · rw [if_neg h]; exact ⟨fun q => absurd q i02, fun q => absurd q.1 h⟩
theorem any4 {S : Nat → Nat → Int32} {w p r : Nat} (hl : lt8 (S w r)) (hz : ∀ g, 4 ≤ g → bt (S w r) g = false) : c_any S w p r = true ↔ ∃ g, g < 4 ∧ bt (c_allA S (S 7 p) 8) g = true ∧ bt (S w r) g = true := by
  rw [any_iff hl]
  constructor
  · rintro ⟨g, hg, h1, h2⟩
    rcases Nat.lt_or_ge g 4 with h4 | h4
    · exact ⟨g, h4, h1, h2⟩
    · rw [hz g h4] at h2; cases h2
  · rintro ⟨g, hg, h1, h2⟩
    exact ⟨g, by omega, h1, h2⟩
theorem l_lets_eq {S T : Nat → Nat → Int32} {V : Nat → Int32} (hG : RelG S T) (hPP : RelP S T) (hV : V 0 = T 19 0) {pi ri : Nat} (hpi : pi < 5) (hri : ri < 3) : (!decide (T 22 pi = 3) && ((!decide (l_num (fun n => decide (l_what S T pi ri n = 1)) 4 ≤ 0) && decide (l_num (fun n => decide (l_what S T pi ri n = 2)) 4 = 0)) || !decide (T 23 (3 * pi + ri) ≤ T 19 0))) = c_lets S V pi ri := by
  have hg := hG
  obtain ⟨-, -, -, -, -, -, g7, g8, g9, -⟩ := hg
  have h1 := (num_any (G := fun n => decide (l_what S T pi ri n = 1)) (b := c_any S 9 pi ri) ((any4 (g7 ri hri) (fun g h => (g9 g ri h hri).1)).trans ⟨fun ⟨g, h, q⟩ => ⟨g, h, (what1 hG h hri).mpr q⟩, fun ⟨g, h, q⟩ => ⟨g, h, (what1 hG h hri).mp q⟩⟩)).1
  have h2 := (num_any (G := fun n => decide (l_what S T pi ri n = 2)) (b := c_any S 10 pi ri) ((any4 (g8 ri hri) (fun g h => (g9 g ri h hri).2)).trans ⟨fun ⟨g, h, q⟩ => ⟨g, h, (what2 hG h hri).mpr q⟩, fun ⟨g, h, q⟩ => ⟨g, h, (what2 hG h hri).mp q⟩⟩)).2
  rw [h1, h2, c_lets, (hPP.1 pi hpi).1, hPP.2 pi ri hpi hri, hV]
theorem ser_iff {S T : Nat → Nat → Int32} (p r n : Nat) (hn : n ≤ 4) : l_ser S T p r n = true ↔ ∃ k, k < n ∧ T 21 (3 * k + r) = 1 ∧ bt (c_allA S (S 7 p) 8) k = true := by
  induction n with
  | zero => exact ⟨fun h => (by cases h), fun ⟨k, h, _⟩ => absurd h (by omega)⟩
  | succ n ih =>
    rw [l_ser, Bool.or_eq_true, Bool.and_eq_true, ih (by omega), hasB_bt (by omega), decide_eq_true_iff]
    constructor
    · rintro (⟨k, h, h2⟩ | h)
      · exact ⟨k, by omega, h2⟩
      · exact ⟨n, by omega, h⟩
    · rintro ⟨k, h, h2⟩
      by_cases e : k = n
      · subst e; exact Or.inr h2
      · exact Or.inl ⟨k, by omega, h2⟩
theorem bar3 {x : Int32} (h : ∃ y : Nat, y ≤ 3 ∧ x = nI y) : (x = 3) ↔ (3 ≤ x) := by
  obtain ⟨y, hy, rfl⟩ := h
  exact (nI_eq (b := 3) (by omega) (by decide)).trans ((by omega : y = 3 ↔ 3 ≤ y).trans (nI_leI (a := 3) (by decide) (by omega)).symm)
theorem l_serves_eq {S T : Nat → Nat → Int32} (hG : RelG S T) (hPP : RelP S T) {pi ri : Nat} (hpi : pi < 5) (hri : ri < 3) : (l_ser S T pi ri 4 && !decide (3 ≤ T 22 pi)) = c_serves S pi ri := by
  have hg := hG
  obtain ⟨-, -, -, -, -, -, g7, g8, g9, -⟩ := hg
  have h1 : l_ser S T pi ri 4 = c_any S 9 pi ri := by
    apply Bool.eq_iff_iff.mpr
    rw [ser_iff pi ri 4 (Nat.le_refl _), any4 (g7 ri hri) (fun g h => (g9 g ri h hri).1)]
    constructor
    · rintro ⟨k, hk, h1, h2⟩; exact ⟨k, hk, h2, (role1 hG hk hri).mp h1⟩
    · rintro ⟨k, hk, h1, h2⟩; exact ⟨k, hk, (role1 hG hk hri).mpr h2, h1⟩
  have h2 : decide (3 ≤ T 22 pi) = decide (S 5 pi = 3) := by
    rw [(hPP.1 pi hpi).1]
    exact decide_eq_decide.mpr (bar3 (hPP.1 pi hpi).2).symm
  rw [h1, h2, c_serves, Bool.and_comm]
theorem takes_self (V : Nat → Int32) : c_takes V (V 2) (V 0) = true := by
  rw [c_takes, decide_eq_true rfl, Bool.true_or]
theorem m1_iff (x y : Int32) : (x = y - 1) ↔ (x + 1 = y) := by
  constructor
  · rintro rfl; exact Int32.sub_add_cancel y 1
  · rintro rfl; exact (Int32.add_sub_cancel x 1).symm
theorem takes_key {V : Nat → Int32} {T : Nat → Nat → Int32} (h2 : V 2 = T 19 2) (h3 : V 3 = T 19 3) {u : Int32} (h0 : u = T 19 0) (x : Int32) : c_takes V x u = l_key T x := by
  rw [c_takes, l_key, h2, h3, h0, decide_eq_decide.mpr (m1_iff x (T 19 2))]
theorem takes_eq {n t : Nat} {V : Nat → Int32} {T : Nat → Nat → Int32} (hRK : RelK n t V T) (x : Int32) : c_takes V x (V 0) = l_key T x := by
  obtain ⟨-, h0, h0', ⟨k, -, h2, h2'⟩, ⟨y, -, h3, h3'⟩⟩ := hRK
  exact takes_key (h2.trans h2'.symm) (h3.trans h3'.symm) (h0.trans h0'.symm) x
theorem goes_eq {t n0 : Nat} {S : Nat → Nat → Int32} {O : Nat → Bool} {V : Nat → Int32} {T : Nat → Nat → Int32} (hRS : RelS t n0 S O V T) {k : Nat} (hk : k < 12) : bi (!O k) = bi (decide (T 24 (5 * k + 4) = 0)) := by
  rw [hRS.2.2.2.2.1 k hk]
  cases O k <;> simp [bi]
theorem house_lets (S : Nat → Nat → Int32) (V : Nat → Int32) (p r : Nat) : decide (c_house S V p r = 0) = c_lets S V p r := by
  rw [c_house]
  cases c_lets S V p r <;> simp
theorem chg5_all : ∀ x : Nat, x < 32 → ∀ p : Nat, p < 5 → ∀ b : Bool, nI x - (if hasB (nI x) (nI p) = true then 1 <<< (nI p &&& 31) else 0) + bi b <<< (nI p &&& 31) = c_changed (nI x) (nI p) b := by decide +kernel
theorem chg5 {S T : Nat → Nat → Int32} (hG : RelG S T) {gi pi : Nat} (hgi : gi < 4) (hpi : pi < 5) (b : Bool) : T 20 gi - (if hasB (T 20 gi) (nI pi) = true then 1 <<< (nI pi &&& 31) else 0) + bi b <<< (nI pi &&& 31) = c_changed (T 20 gi) (nI pi) b := by
  obtain ⟨x, hx, e⟩ := hG.2.2.2.2.1 gi hgi
  rw [e]; exact chg5_all x hx pi hpi b
theorem chg4 {S T : Nat → Nat → Int32} (hG : RelG S T) {gi ii : Nat} (hgi : gi < 4) (hii : ii < 4) (b : Bool) : T 20 (4 + gi) - (if hasB (T 20 (4 + gi)) (nI ii) = true then 1 <<< (nI ii &&& 31) else 0) + bi b <<< (nI ii &&& 31) = c_changed (T 20 (4 + gi)) (nI ii) b := by
  obtain ⟨x, hx, e⟩ := hG.2.2.2.2.2.1 gi hgi
  rw [e]; exact chg5_all x (by omega) ii (by omega) b
theorem sp_ans {S T : Nat → Nat → Int32} (hG : RelG S T) {gi pi : Nat} (hgi : gi < 4) (hpi : pi < 5) : hasB (S 7 pi) (nI gi) = hasB (T 20 gi) (nI pi) := by
  rw [hasB_bt (by omega), hasB_bt (by omega)]; exact hG.1 gi pi hgi hpi
theorem sr_ans {S T : Nat → Nat → Int32} (hG : RelG S T) {gi ri : Nat} (hgi : gi < 4) (hri : ri < 3) : c_roleOf S gi ri = T 21 (3 * gi + ri) := (hG.2.2.2.2.2.2.2.2.2.1 gi ri hgi hri).symm
