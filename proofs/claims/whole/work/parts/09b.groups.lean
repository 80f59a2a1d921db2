/-! ===== groups and roles: the class's words are the reference's ===== -/
theorem oi {x n b : Int32} (h : n.toInt = b.toInt + 1) : c_out x n = !m_in x 0 b := by
  have h2 : (x < n) ↔ ¬ (b < x) := by rw [Int32.lt_iff_toInt_lt, Int32.lt_iff_toInt_lt]; omega
  rw [c_out, m_in]
  by_cases h1 : x < 0 <;> by_cases h3 : b < x <;> simp [h1, h3, h2]
theorem oi8 (x : Int32) : c_out x 8 = !m_in x 0 7 := oi (by decide)
theorem oi10 (x : Int32) : c_out x 10 = !m_in x 0 9 := oi (by decide)
theorem oi6 (x : Int32) : c_out x 6 = !m_in x 0 5 := oi (by decide)
theorem oi4 (x : Int32) : c_out x 4 = !m_in x 0 3 := oi (by decide)
theorem i10 : ((1 : Int32) = 0) = False := by simp
theorem i20 : ((2 : Int32) = 0) = False := by simp
theorem ixN {j : Nat} (h : j < 1000) : ix (nI j) = j := nI_clamp (by omega)
theorem m_be_iff (T : Nat → Nat → Int32) (x y : Int32) (n : Nat) : m_be T x y n = true ↔ ∃ k, k < n ∧ hasB (m_wr T x 8) (nI k) = true ∧ hasB (T 1 k) y = true := by
  induction n with
  | zero => exact ⟨fun h => (by cases h), fun ⟨k, h, _⟩ => absurd h (by omega)⟩
  | succ n ih =>
    rw [m_be, Bool.or_eq_true, Bool.and_eq_true, ih]
    constructor
    · rintro (⟨k, h, h2⟩ | h)
      · exact ⟨k, by omega, h2⟩
      · exact ⟨n, by omega, h⟩
    · rintro ⟨k, h, h2⟩
      by_cases e : k = n
      · subst e; exact Or.inr h2
      · exact Or.inl ⟨k, by omega, h2⟩
theorem m_fi_iff (T : Nat → Nat → Int32) (x : Int32) (r : Nat) (w : Int32) (n : Nat) : m_fi T x r w n = true ↔ ∃ g, g < n ∧ T 3 (6 * g + r) = w ∧ m_be T (nI g) x 8 = true := by
  induction n with
  | zero => exact ⟨fun h => (by cases h), fun ⟨k, h, _⟩ => absurd h (by omega)⟩
  | succ n ih =>
    rw [m_fi, Bool.or_eq_true, Bool.and_eq_true, ih, decide_eq_true_iff]
    constructor
    · rintro (⟨k, h, h2⟩ | h)
      · exact ⟨k, by omega, h2⟩
      · exact ⟨n, by omega, h⟩
    · rintro ⟨k, h, h2⟩
      by_cases e : k = n
      · subst e; exact Or.inr h2
      · exact Or.inl ⟨k, by omega, h2⟩
theorem relR {S T : Nat → Nat → Int32} (hG : RelG S T) : ∀ a b : Nat, a < 8 → b < 8 → (bt (S 8 a) b = true ↔ bt (T 2 b) a = true) := by
  intro a b ha hb
  have h := hG.2.1 b a hb ha
  rw [hasB_bt (by omega), hasB_bt (by omega)] at h
  rw [h]
theorem in_eq {S T : Nat → Nat → Int32} (hG : RelG S T) {g p : Nat} (hg : g < 8) (hp : p < 10) : hasB (c_allA S (S 7 p) 8) (nI g) = m_be T (nI g) (nI p) 8 := by
  apply Bool.eq_iff_iff.mpr
  rw [hasB_bt (by omega), all_cl S _ hg, cl_dual (R' := fun a b => bt (T 2 a) b = true) (relR hG) _ hg, m_be_iff]
  constructor
  · rintro ⟨k, hk, h1, h2⟩
    refine ⟨k, hk, ?_, ?_⟩
    · rw [hasB_bt (by omega), wr_cl T hg hk]; exact h2
    · rw [← hG.1 k p hk hp, hasB_bt (by omega)]; exact h1
  · rintro ⟨k, hk, h1, h2⟩
    refine ⟨k, hk, ?_, ?_⟩
    · rw [← hG.1 k p hk hp, hasB_bt (by omega)] at h2; exact h2
    · rw [hasB_bt (by omega), wr_cl T hg hk] at h1; exact h1
theorem around_eq {S T : Nat → Nat → Int32} (hG : RelG S T) {g h : Nat} (hg : g < 8) (hh : h < 8) (hne : g ≠ h) : hasB (c_allA S (S 8 g) 8) (nI h) = hasB (m_wr T (nI h) 8) (nI g) := by
  apply Bool.eq_iff_iff.mpr
  rw [hasB_bt (by omega), hasB_bt (by omega), all_cl S _ hh, cl_dual (R' := fun a b => bt (T 2 a) b = true) (relR hG) _ hh, wr_cl T hh hg, cl_last hh hg hne]
  constructor
  · rintro ⟨k, hk, h1, h2⟩
    exact ⟨k, hk, h2, (relR hG g k hg hk).mp h1⟩
  · rintro ⟨k, hk, h1, h2⟩
    exact ⟨k, hk, (relR hG g k hg hk).mpr h2, h1⟩
theorem any_iff {S : Nat → Nat → Int32} {w p r : Nat} (hl : lt8 (S w r)) : c_any S w p r = true ↔ ∃ g, g < 8 ∧ bt (c_allA S (S 7 p) 8) g = true ∧ bt (S w r) g = true := by
  rw [c_any, Bool.not_eq_true', decide_eq_false_iff_not, and_ne hl]
  constructor
  · intro h
    apply Classical.byContradiction
    intro hn
    exact h (fun j hj h1 h2 => hn ⟨j, hj, h1, h2⟩)
  · rintro ⟨g, hg, h1, h2⟩ h
    exact h g hg h1 h2
theorem role1 {S T : Nat → Nat → Int32} (hG : RelG S T) {g r : Nat} (hg : g < 8) (hr : r < 6) : T 3 (6 * g + r) = 1 ↔ bt (S 9 r) g = true := by
  obtain ⟨-, -, -, -, -, -, -, g8, g9⟩ := hG
  rw [g8 g r hg hr, c_roleOf, hasB_bt (by omega), hasB_bt (by omega)]
  by_cases h1 : bt (S 9 r) g = true
  · rw [if_pos h1]; exact ⟨fun _ => h1, fun _ => rfl⟩
  · rw [if_neg h1]
    refine ⟨fun h => ?_, fun h => absurd h h1⟩
    by_cases h2 : bt (S 10 r) g = true
    · rw [if_pos h2] at h; exact absurd h (by decide)
    · rw [if_neg h2] at h; exact absurd h (by decide)
theorem role2 {S T : Nat → Nat → Int32} (hG : RelG S T) {g r : Nat} (hg : g < 8) (hr : r < 6) : T 3 (6 * g + r) = 2 ↔ bt (S 10 r) g = true := by
  obtain ⟨-, -, -, -, -, -, -, g8, g9⟩ := hG
  have h9 := g9 g r hg hr
  rw [hasB_bt (by omega), hasB_bt (by omega)] at h9
  rw [g8 g r hg hr, c_roleOf, hasB_bt (by omega), hasB_bt (by omega)]
  by_cases h1 : bt (S 9 r) g = true
  · rw [if_pos h1]
    exact ⟨fun h => absurd h (by decide), fun h => absurd (h.symm.trans (h9 h1)) (by decide)⟩
  · rw [if_neg h1]
    by_cases h2 : bt (S 10 r) g = true
    · rw [if_pos h2]; exact ⟨fun _ => h2, fun _ => rfl⟩
    · rw [if_neg h2]; exact ⟨fun h => absurd h (by decide), fun h => absurd h h2⟩
theorem any_eq1 {S T : Nat → Nat → Int32} (hG : RelG S T) {p r : Nat} (hp : p < 10) (hr : r < 6) : c_any S 9 p r = m_fi T (nI p) r 1 8 := by
  apply Bool.eq_iff_iff.mpr
  rw [any_iff (hG.2.2.2.2.2.1 r hr), m_fi_iff]
  constructor
  · rintro ⟨g, hg, h1, h2⟩
    exact ⟨g, hg, (role1 hG hg hr).mpr h2, by rw [← in_eq hG hg hp, hasB_bt (by omega)]; exact h1⟩
  · rintro ⟨g, hg, h1, h2⟩
    exact ⟨g, hg, by rw [← in_eq hG hg hp, hasB_bt (by omega)] at h2; exact h2, (role1 hG hg hr).mp h1⟩
theorem any_eq2 {S T : Nat → Nat → Int32} (hG : RelG S T) {p r : Nat} (hp : p < 10) (hr : r < 6) : c_any S 10 p r = m_fi T (nI p) r 2 8 := by
  apply Bool.eq_iff_iff.mpr
  rw [any_iff (hG.2.2.2.2.2.2.1 r hr), m_fi_iff]
  constructor
  · rintro ⟨g, hg, h1, h2⟩
    exact ⟨g, hg, (role2 hG hg hr).mpr h2, by rw [← in_eq hG hg hp, hasB_bt (by omega)]; exact h1⟩
  · rintro ⟨g, hg, h1, h2⟩
    exact ⟨g, hg, by rw [← in_eq hG hg hp, hasB_bt (by omega)] at h2; exact h2, (role2 hG hg hr).mp h1⟩
theorem bar_eq {x : Int32} (h : x ≤ 3) : (x = 3) ↔ (3 ≤ x) := by
  constructor
  · intro e; rw [e]; exact Int32.le_refl _
  · intro e; exact Int32.le_antisymm h e
theorem lets_eq {S T : Nat → Nat → Int32} {V U : Nat → Int32} (hG : RelG S T) (hP : RelP S T) (hV : V 0 = U 1) {p r : Nat} (hp : p < 10) (hr : r < 6) : c_lets S V p r = m_lets T U p r := by
  have h1 : decide (S 5 p = 3) = decide (3 ≤ T 4 p) := by
    rw [← (hP.1 p hp).1]
    exact decide_eq_decide.mpr (bar_eq (hP.1 p hp).2)
  rw [c_lets, m_lets, h1, any_eq1 hG hp hr, any_eq2 hG hp hr, hP.2 (p * 6 + r) (by omega), hV, show p * 6 + r = 6 * p + r by omega]
theorem serves_eq {S T : Nat → Nat → Int32} (hG : RelG S T) (hP : RelP S T) {p r : Nat} (hp : p < 10) (hr : r < 6) : c_serves S p r = m_serves T p r := by
  have h1 : decide (S 5 p = 3) = decide (3 ≤ T 4 p) := by
    rw [← (hP.1 p hp).1]
    exact decide_eq_decide.mpr (bar_eq (hP.1 p hp).2)
  rw [c_serves, m_serves, h1, any_eq1 hG hp hr]
theorem set_bits {F G : Nat → Int32} {g p g' p' : Nat} (b : Bool) (hg : g < 32) (hp : p < 32) (h : bt (F p') g' = bt (G g') p') : bt (upd F p (c_changed (F p) (nI g) b) p') g' = bt (upd G g (c_changed (G g) (nI p) b) g') p' := by
  by_cases e1 : p' = p
  · by_cases e2 : g' = g
    · subst e1; subst e2
      simp [upd, bt_changed _ b hg, bt_changed _ b hp]
    · subst e1
      simp [upd, bt_changed _ b hg, e2, h]
  · by_cases e2 : g' = g
    · subst e2
      simp [upd, bt_changed _ b hp, e1, h]
    · simp [upd, e1, e2, h]
theorem lt8_upd {F : Nat → Int32} {p g N : Nat} (b : Bool) (hg : g < 8) (h : ∀ q : Nat, q < N → lt8 (F q)) (hp : p < N) : ∀ q : Nat, q < N → lt8 (upd F p (c_changed (F p) (nI g) b) q) := by
  intro q hq
  by_cases e : q = p
  · subst e; simp only [upd, if_pos]; exact lt8_changed b hg (h q hq)
  · simp only [upd, if_neg e]; exact h q hq
