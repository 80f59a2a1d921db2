/-! ===== each call keeps the two together ===== -/
theorem pred_toInt : ∀ n : Nat, n < 31 → (nI n - 1).toInt = (n : Int) - 1 := by decide +kernel
theorem has_eq {V U : Nat → Int32} {n0 : Nat} (h1 : V 1 = nI n0) (h2 : U 2 = nI n0) (hn : n0 ≤ 30) (x : Int32) : c_has V x = m_in x 0 (U 2 - 1) := by
  rw [c_has, m_in, h1, h2]
  have h3 : (nI n0 ≤ x) ↔ (nI n0 - 1 < x) := by
    rw [Int32.le_iff_toInt_le, Int32.lt_iff_toInt_lt, pred_toInt n0 (by omega), nI_toInt (by omega)]; omega
  rw [decide_eq_decide.mpr h3]
theorem rng_eq (x a b : Int32) : (if x < a then (1 : Int32) else if x ≤ b then 0 else 1) = if m_in x a b = true then 0 else 1 := by
  have h : (x ≤ b) ↔ ¬ (b < x) := Int32.not_lt.symm
  rw [m_in]
  by_cases h1 : x < a <;> by_cases h2 : b < x <;> simp [h1, h2, h]
theorem m_in2 {x : Int32} (h : m_in x 0 2 = true) : ∃ j : Nat, j < 3 ∧ x = nI j := m_inN 3 h (by decide)
theorem m_in60 {x : Int32} (h : m_in x 0 60 = true) : ∃ j : Nat, j < 61 ∧ x = nI j := m_inN 61 h (by decide)
theorem m_in300 {x : Int32} (h : m_in x 1 300 = true) : ∃ j : Nat, j < 301 ∧ x = nI j := by
  refine m_inN 301 (b := 300) ?_ (by decide)
  simp only [m_in, Bool.and_eq_true, Bool.not_eq_true', decide_eq_false_iff_not] at h ⊢
  refine ⟨fun h2 => h.1 ?_, h.2⟩
  rw [Int32.lt_iff_toInt_lt] at h2 ⊢
  have e0 : (0 : Int32).toInt = 0 := by decide
  have e1 : (1 : Int32).toInt = 1 := by decide
  omega
theorem andT {a b : Bool} (h : (a && b) = true) : a = true ∧ b = true := by
  rwa [Bool.and_eq_true] at h
theorem RelG_fr {S S' T T' : Nat → Nat → Int32} (h : RelG S T) (h7 : S' 7 = S 7) (h8 : S' 8 = S 8) (h9 : S' 9 = S 9) (h10 : S' 10 = S 10) (h1 : T' 1 = T 1) (h2 : T' 2 = T 2) (h3 : T' 3 = T 3) : RelG S' T' := by
  unfold RelG c_roleOf at *
  rw [h7, h8, h9, h10, h1, h2, h3]; exact h
theorem RelP_fr {S S' T T' : Nat → Nat → Int32} (h : RelP S T) (h5 : S' 5 = S 5) (h6 : S' 6 = S 6) (h1 : T' 4 = T 4) (h2 : T' 5 = T 5) : RelP S' T' := by
  unfold RelP at *
  rw [h5, h6, h1, h2]; exact h
theorem RelC_fr {k : Nat} {S S' T T' : Nat → Nat → Int32} {V V' : Nat → Int32} (h : RelC k S V T) (h16 : S' 16 = S 16) (h17 : S' 17 = S 17) (h18 : S' 18 = S 18) (h11 : T' 11 = T 11) (h12 : T' 12 = T 12) (hv : V' 0 = V 0) : RelC (k + 1) S' V' T' := by
  obtain ⟨t, h1, h2, h3⟩ := h
  refine ⟨t, by omega, hv.trans h2, ?_⟩
  rw [h16, h17, h18, h11, h12]; exact h3
theorem Rel_fail {k : Nat} {S : Nat → Nat → Int32} {O : Nat → Bool} {V : Nat → Int32} {T : Nat → Nat → Int32} {P : Nat → Bool} {U : Nat → Int32} (hR : Rel k S O V T P U) (v : Int32) : Rel (k + 1) S O V T P (va_up U 0 v) := by
  obtain ⟨h1, h2, h3, h4, h5⟩ := hR
  exact ⟨h1, h2, h3, h4, RelC_mono h5⟩
theorem hasB_changed (x : Int32) (b : Bool) {g g' : Nat} (hg : g < 32) (hg' : g' < 32) : hasB (c_changed x (nI g) b) (nI g') = if g' = g then b else hasB x (nI g') := by
  rw [hasB_bt hg', bt_changed _ _ hg, hasB_bt hg']
theorem hasB_upd (F : Nat → Int32) (b : Bool) {r r' g g' : Nat} (hg : g < 32) (hg' : g' < 32) : hasB (upd F r (c_changed (F r) (nI g) b) r') (nI g') = if r' = r ∧ g' = g then b else hasB (F r') (nI g') := by
  by_cases e1 : r' = r
  · subst e1
    simp only [upd, if_pos, true_and, hasB_changed _ _ hg hg']
  · simp only [upd, if_neg e1, e1, false_and, if_false]
theorem spK_eq (x y : Int32) : c_spK x y = if m_spOk x y = true then 0 else 1 := by
  rw [c_spK, m_spOk, oi8, oi10]; cases m_in x 0 7 <;> cases m_in y 0 9 <;> rfl
theorem sgK_eq {S T : Nat → Nat → Int32} (hG : RelG S T) (x y : Int32) (b : Bool) : c_sgK S x y b = m_sgK T x y b := by
  rw [c_sgK, m_sgK, oi8, oi8]
  cases h1 : m_in x 0 7
  · rfl
  · cases h2 : m_in y 0 7
    · rfl
    · by_cases h3 : x = y
      · simp [h3]
      · obtain ⟨g, hg, rfl⟩ := m_in7 h1
        obtain ⟨h, hh, rfl⟩ := m_in7 h2
        have hne : g ≠ h := fun e => h3 (by rw [e])
        rw [ixN (by omega), ixN (by omega), around_eq hG hg hh hne]
        simp [h3]
theorem sgK0 {T : Nat → Nat → Int32} {x y : Int32} {b : Bool} (h : m_sgK T x y b = 0) : m_in x 0 7 = true ∧ m_in y 0 7 = true := by
  rw [m_sgK] at h
  cases h1 : m_in x 0 7
  · simp [h1] at h
  · cases h2 : m_in y 0 7
    · simp [h1, h2] at h
    · exact ⟨rfl, rfl⟩
theorem srK_eq (x y z : Int32) : c_srK x y z = if m_srOk x y z = true then 0 else 1 := by
  rw [c_srK, m_srOk, oi8, oi6, rng_eq]; cases m_in x 0 7 <;> cases m_in y 0 5 <;> cases m_in z 0 2 <;> rfl
theorem riK_eq (x y : Int32) : c_riK x y = if m_riOk x y = true then 0 else 1 := by
  rw [c_riK, m_riOk, oi10, rng_eq]; cases m_in x 0 9 <;> cases m_in y 0 3 <;> rfl
theorem alK_eq (x y : Int32) : c_alK x y = if (m_in x 0 9 && m_in y 0 5) = true then 0 else 1 := by
  rw [c_alK, oi10, oi6]; cases m_in x 0 9 <;> cases m_in y 0 5 <;> rfl
theorem scK_eq (x y : Int32) : c_scK x y = if m_scOk x y = true then 0 else 1 := by
  rw [c_scK, m_scOk, oi4, rng_eq]; cases m_in x 0 3 <;> cases m_in y 0 60 <;> rfl
theorem foK_eq (x y : Int32) : c_foK x y = if m_foOk x y = true then 0 else 1 := by
  rw [c_foK, m_foOk, oi4, oi10]; cases m_in x 0 3 <;> cases m_in y 0 9 <;> rfl
theorem stK_eq (x : Int32) : c_stK x = if m_in x 0 3 = true then 0 else 1 := by
  rw [c_stK, oi4]; cases m_in x 0 3 <;> rfl
theorem ck0 (V : Nat → Int32) (x : Int32) : c_ckV V x 0 = V 0 := by simp [c_ckV, va_up]
theorem ck1 (V : Nat → Int32) (x : Int32) : c_ckV V x 1 = V 1 := by simp [c_ckV, va_up]
theorem ck2 (V : Nat → Int32) (x : Int32) : c_ckV V x 2 = V 2 + 1 := by simp [c_ckV, va_up]
theorem ck3 (V : Nat → Int32) (x : Int32) : c_ckV V x 3 = V 0 + x := by simp [c_ckV, va_up]
theorem mk0 (V : Nat → Int32) (x : Int32) : m_ckV V x 0 = 0 := by simp [m_ckV, va_up]
theorem mk1 (V : Nat → Int32) (x : Int32) : m_ckV V x 1 = V 1 := by simp [m_ckV, va_up]
theorem mk2 (V : Nat → Int32) (x : Int32) : m_ckV V x 2 = V 2 := by simp [m_ckV, va_up]
theorem mk3 (V : Nat → Int32) (x : Int32) : m_ckV V x 3 = V 3 + 1 := by simp [m_ckV, va_up]
theorem mk4 (V : Nat → Int32) (x : Int32) : m_ckV V x 4 = V 1 + x := by simp [m_ckV, va_up]
theorem cp0 (V : Nat → Int32) (x : Int32) : c_paV V x 0 = V 0 + x := by simp [c_paV, va_up]
theorem cp1 (V : Nat → Int32) (x : Int32) : c_paV V x 1 = V 1 := by simp [c_paV, va_up]
theorem cp2 (V : Nat → Int32) (x : Int32) : c_paV V x 2 = V 2 := by simp [c_paV, va_up]
theorem cp3 (V : Nat → Int32) (x : Int32) : c_paV V x 3 = V 3 := by simp [c_paV, va_up]
theorem mp0 (V : Nat → Int32) (x : Int32) : m_paV V x 0 = 0 := by simp [m_paV, va_up]
theorem mp1 (V : Nat → Int32) (x : Int32) : m_paV V x 1 = V 1 + x := by simp [m_paV, va_up]
theorem mp2 (V : Nat → Int32) (x : Int32) : m_paV V x 2 = V 2 := by simp [m_paV, va_up]
theorem mp3 (V : Nat → Int32) (x : Int32) : m_paV V x 3 = V 3 := by simp [m_paV, va_up]
theorem mp4 (V : Nat → Int32) (x : Int32) : m_paV V x 4 = V 4 := by simp [m_paV, va_up]
theorem ckK_eq (x : Int32) : c_ckK x = if m_in x 0 300 = true then 0 else 1 := rng_eq x 0 300
theorem paK_eq (x : Int32) : c_paK x = if m_in x 1 300 = true then 0 else 1 := rng_eq x 1 300
theorem itK_eq (V : Nat → Int32) (x : Int32) : c_itK V x = if m_in x 0 (V 2) = true then 0 else 1 := rng_eq x 0 (V 2)
theorem ckU (U : Nat → Int32) (x : Int32) : (if m_in x 0 300 = true then m_ckV U x else va_up U 0 1) 0 = if m_in x 0 300 = true then 0 else 1 := by
  by_cases h : m_in x 0 300 = true
  · rw [if_pos h, if_pos h, mk0]
  · rw [if_neg h, if_neg h, ups, if_pos rfl]
theorem paU (U : Nat → Int32) (x : Int32) : (if m_in x 1 300 = true then m_paV U x else va_up U 0 1) 0 = if m_in x 1 300 = true then 0 else 1 := by
  by_cases h : m_in x 1 300 = true
  · rw [if_pos h, if_pos h, mp0]
  · rw [if_neg h, if_neg h, ups, if_pos rfl]
theorem up_ne {α : Type} (f : Nat → α) (k j : Nat) (v : α) (h : j ≠ k) : va_up f k v j = f j := if_neg h
theorem up_eq {α : Type} (f : Nat → α) (k : Nat) (v : α) : va_up f k v k = v := if_pos rfl
theorem cntI_0 {f : Nat → Bool} {n : Nat} (h : ∀ j, j < n → f j = false) : cntI f n = 0 := by
  induction n with
  | zero => rfl
  | succ n ih => rw [cntI, ih (fun j hj => h j (by omega)), h n (by omega)]; rfl
theorem q_now {k : Nat} {S : Nat → Nat → Int32} {O : Nat → Bool} {V : Nat → Int32} {T : Nat → Nat → Int32} {P : Nat → Bool} {U : Nat → Int32} (hR : Rel k S O V T P U) : V 0 = U 1 ∧ Rel (k + 1) S O V T P (va_up U 0 0) := by
  obtain ⟨h1, h2, h3, h4, h5⟩ := hR
  exact ⟨h4.1, h1, h2, h3, h4, RelC_mono h5⟩
theorem q_setPerson {k : Nat} {S : Nat → Nat → Int32} {O : Nat → Bool} {V : Nat → Int32} {T : Nat → Nat → Int32} {P : Nat → Bool} {U : Nat → Int32} (hR : Rel k S O V T P U) (hk5 : k < 512) {n0 : Nat} (hn0 : n0 ≤ 30) (hct : V 1 = nI n0) (hctm : U 2 = nI n0) (hpe : ∀ j : Nat, j < n0 → vp_in (S 11 j) 10) (hpem : ∀ j : Nat, j < n0 → vp_in (T 6 j) 10) (x0 : Int32) (x1 : Int32) (b0 : Bool) :
    (va_up U 0 (if m_spOk x0 x1 = true then 0 else 1)) 0 = c_spK x0 x1 ∧ (c_spK x0 x1 = 0 → (hasB (S 7 (ix x1)) (nI (ix x0))) = (m_spOk x0 x1 && hasB (T 1 (ix x0)) x1)) ∧ Rel (k + 1) (if c_spK x0 x1 = 0 then va_up S 7 (upd (S 7) (ix x1) (c_changed (S 7 (ix x1)) (nI (ix x0)) b0)) else S) O V (if m_spOk x0 x1 = true then m_set1 T 1 (ix x0) x1 b0 else T) P (va_up U 0 (if m_spOk x0 x1 = true then 0 else 1)) := by
  have hK := spK_eq x0 x1
  refine ⟨hK.symm, ?_⟩
  by_cases hv : m_spOk x0 x1 = true
  · have hK0 : c_spK x0 x1 = 0 := by rw [hK, if_pos hv]
    obtain ⟨v1, v2⟩ := andT hv
    obtain ⟨g, hg, rfl⟩ := m_in7 v1
    obtain ⟨p, hp, rfl⟩ := m_in9 v2
    obtain ⟨hG, hPp, hSs, hKk, hC⟩ := hR
    have eg : ix (nI g) = g := ixN (by omega)
    have ep : ix (nI p) = p := ixN (by omega)
    rw [eg, ep]
    refine ⟨fun _ => by rw [hv, Bool.true_and]; exact hG.1 g p hg hp, ?_⟩
    simp only [if_pos hK0, if_pos hv]
    refine ⟨?_, hPp, hSs, hKk, RelC_fr hC rfl rfl rfl rfl rfl rfl⟩
    obtain ⟨g1, g2, g3, g4, g5, g6, g7, g8, g9⟩ := hG
    refine ⟨fun g' p' hg' hp' => ?_, g2, lt8_upd b0 hg g3 hp, g4, g5, g6, g7, g8, g9⟩
    show hasB (upd (S 7) p (c_changed (S 7 p) (nI g) b0) p') (nI g') = hasB (upd (T 1) g (c_changed (T 1 g) (nI p) b0) g') (nI p')
    have h0 := g1 g' p' hg' hp'
    rw [hasB_bt (by omega), hasB_bt (by omega)] at h0
    rw [hasB_bt (by omega), hasB_bt (by omega)]
    exact set_bits b0 (by omega) (by omega) h0
  · have hK1 : ¬ c_spK x0 x1 = 0 := by rw [hK, if_neg hv]; decide
    refine ⟨fun h => absurd h hK1, ?_⟩
    simp only [if_neg hK1, if_neg hv]
    exact Rel_fail hR _
theorem q_setGroup {k : Nat} {S : Nat → Nat → Int32} {O : Nat → Bool} {V : Nat → Int32} {T : Nat → Nat → Int32} {P : Nat → Bool} {U : Nat → Int32} (hR : Rel k S O V T P U) (hk5 : k < 512) {n0 : Nat} (hn0 : n0 ≤ 30) (hct : V 1 = nI n0) (hctm : U 2 = nI n0) (hpe : ∀ j : Nat, j < n0 → vp_in (S 11 j) 10) (hpem : ∀ j : Nat, j < n0 → vp_in (T 6 j) 10) (x0 : Int32) (x1 : Int32) (b0 : Bool) :
    (va_up U 0 (m_sgK T x0 x1 b0)) 0 = c_sgK S x0 x1 b0 ∧ (c_sgK S x0 x1 b0 = 0 → (hasB (S 8 (ix x1)) (nI (ix x0))) = (decide (m_sgK T x0 x1 b0 = 0) && hasB (T 2 (ix x0)) x1)) ∧ Rel (k + 1) (if c_sgK S x0 x1 b0 = 0 then va_up S 8 (upd (S 8) (ix x1) (c_changed (S 8 (ix x1)) (nI (ix x0)) b0)) else S) O V (if m_sgK T x0 x1 b0 = 0 then m_set1 T 2 (ix x0) x1 b0 else T) P (va_up U 0 (m_sgK T x0 x1 b0)) := by
  have hK := sgK_eq hR.1 x0 x1 b0
  refine ⟨hK.symm, ?_⟩
  by_cases hv : m_sgK T x0 x1 b0 = 0
  · have hK0 : c_sgK S x0 x1 b0 = 0 := hK.trans hv
    obtain ⟨v1, v2⟩ := sgK0 hv
    obtain ⟨g, hg, rfl⟩ := m_in7 v1
    obtain ⟨p, hp, rfl⟩ := m_in7 v2
    obtain ⟨hG, hPp, hSs, hKk, hC⟩ := hR
    have eg : ix (nI g) = g := ixN (by omega)
    have ep : ix (nI p) = p := ixN (by omega)
    rw [eg, ep]
    refine ⟨fun _ => by rw [decide_eq_true hv, Bool.true_and]; exact hG.2.1 g p hg hp, ?_⟩
    simp only [if_pos hK0, if_pos hv]
    refine ⟨?_, hPp, hSs, hKk, RelC_fr hC rfl rfl rfl rfl rfl rfl⟩
    obtain ⟨g1, g2, g3, g4, g5, g6, g7, g8, g9⟩ := hG
    refine ⟨g1, fun g' p' hg' hp' => ?_, g3, lt8_upd b0 hg g4 hp, lt8_upd b0 hp g5 hg, g6, g7, g8, g9⟩
    show hasB (upd (S 8) p (c_changed (S 8 p) (nI g) b0) p') (nI g') = hasB (upd (T 2) g (c_changed (T 2 g) (nI p) b0) g') (nI p')
    have h0 := g2 g' p' hg' hp'
    rw [hasB_bt (by omega), hasB_bt (by omega)] at h0
    rw [hasB_bt (by omega), hasB_bt (by omega)]
    exact set_bits b0 (by omega) (by omega) h0
  · have hK1 : ¬ c_sgK S x0 x1 b0 = 0 := by rw [hK]; exact hv
    refine ⟨fun h => absurd h hK1, ?_⟩
    simp only [if_neg hK1, if_neg hv]
    exact Rel_fail hR _
theorem q_setRole {k : Nat} {S : Nat → Nat → Int32} {O : Nat → Bool} {V : Nat → Int32} {T : Nat → Nat → Int32} {P : Nat → Bool} {U : Nat → Int32} (hR : Rel k S O V T P U) (hk5 : k < 512) {n0 : Nat} (hn0 : n0 ≤ 30) (hct : V 1 = nI n0) (hctm : U 2 = nI n0) (hpe : ∀ j : Nat, j < n0 → vp_in (S 11 j) 10) (hpem : ∀ j : Nat, j < n0 → vp_in (T 6 j) 10) (x0 : Int32) (x1 : Int32) (x2 : Int32) :
    (va_up U 0 (if m_srOk x0 x1 x2 = true then 0 else 1)) 0 = c_srK x0 x1 x2 ∧ (c_srK x0 x1 x2 = 0 → (c_roleOf S (ix x0) (ix x1)) = (if m_srOk x0 x1 x2 = true then T 3 (6 * ix x0 + ix x1) else 0)) ∧ Rel (k + 1) (if c_srK x0 x1 x2 = 0 then va_up (va_up S 9 (upd (S 9) (ix x1) (c_changed (S 9 (ix x1)) (nI (ix x0)) (decide (x2 = 1))))) 10 (upd (S 10) (ix x1) (c_changed (S 10 (ix x1)) (nI (ix x0)) (decide (x2 = 2)))) else S) O V (if m_srOk x0 x1 x2 = true then va_up T 3 (upd (T 3) (6 * ix x0 + ix x1) x2) else T) P (va_up U 0 (if m_srOk x0 x1 x2 = true then 0 else 1)) := by
  have hK := srK_eq x0 x1 x2
  refine ⟨hK.symm, ?_⟩
  by_cases hv : m_srOk x0 x1 x2 = true
  · have hK0 : c_srK x0 x1 x2 = 0 := by rw [hK, if_pos hv]
    obtain ⟨v1, v23⟩ := andT hv
    obtain ⟨v2, v3⟩ := andT v23
    obtain ⟨g, hg, rfl⟩ := m_in7 v1
    obtain ⟨r, hr, rfl⟩ := m_in5 v2
    obtain ⟨z, hz, rfl⟩ := m_in2 v3
    obtain ⟨hG, hPp, hSs, hKk, hC⟩ := hR
    have eg : ix (nI g) = g := ixN (by omega)
    have er : ix (nI r) = r := ixN (by omega)
    rw [eg, er]
    obtain ⟨g1, g2, g3, g4, g5, g6, g7, g8, g9⟩ := hG
    refine ⟨fun _ => by rw [if_pos hv]; exact (g8 g r hg hr).symm, ?_⟩
    simp only [if_pos hK0, if_pos hv]
    refine ⟨?_, hPp, hSs, hKk, RelC_fr hC rfl rfl rfl rfl rfl rfl⟩
    refine ⟨g1, g2, g3, g4, g5, lt8_upd _ hg g6 hr, lt8_upd _ hg g7 hr, fun g' r' hg' hr' => ?_, fun g' r' hg' hr' => ?_⟩
    · show upd (T 3) (6 * g + r) (nI z) (6 * g' + r') = (if hasB (upd (S 9) r (c_changed (S 9 r) (nI g) (decide (nI z = 1))) r') (nI g') = true then 1 else if hasB (upd (S 10) r (c_changed (S 10 r) (nI g) (decide (nI z = 2))) r') (nI g') = true then 2 else 0)
      rw [hasB_upd _ _ (by omega) (by omega), hasB_upd _ _ (by omega) (by omega)]
      by_cases e : r' = r ∧ g' = g
      · rw [if_pos e, if_pos e, upd, if_pos (by omega : 6 * g' + r' = 6 * g + r)]
        rcases (by omega : z = 0 ∨ z = 1 ∨ z = 2) with rfl | rfl | rfl <;> decide
      · rw [if_neg e, if_neg e, upd, if_neg (by omega : ¬ 6 * g' + r' = 6 * g + r)]
        exact g8 g' r' hg' hr'
    · show hasB (upd (S 9) r (c_changed (S 9 r) (nI g) (decide (nI z = 1))) r') (nI g') = true → hasB (upd (S 10) r (c_changed (S 10 r) (nI g) (decide (nI z = 2))) r') (nI g') = false
      rw [hasB_upd _ _ (by omega) (by omega), hasB_upd _ _ (by omega) (by omega)]
      by_cases e : r' = r ∧ g' = g
      · rw [if_pos e, if_pos e]
        rcases (by omega : z = 0 ∨ z = 1 ∨ z = 2) with rfl | rfl | rfl <;> decide
      · rw [if_neg e, if_neg e]
        exact g9 g' r' hg' hr'
  · have hK1 : ¬ c_srK x0 x1 x2 = 0 := by rw [hK, if_neg hv]; decide
    refine ⟨fun h => absurd h hK1, ?_⟩
    simp only [if_neg hK1, if_neg hv]
    exact Rel_fail hR _
theorem q_setRisk {k : Nat} {S : Nat → Nat → Int32} {O : Nat → Bool} {V : Nat → Int32} {T : Nat → Nat → Int32} {P : Nat → Bool} {U : Nat → Int32} (hR : Rel k S O V T P U) (hk5 : k < 512) {n0 : Nat} (hn0 : n0 ≤ 30) (hct : V 1 = nI n0) (hctm : U 2 = nI n0) (hpe : ∀ j : Nat, j < n0 → vp_in (S 11 j) 10) (hpem : ∀ j : Nat, j < n0 → vp_in (T 6 j) 10) (x0 : Int32) (x1 : Int32) :
    (va_up U 0 (if m_riOk x0 x1 = true then 0 else 1)) 0 = c_riK x0 x1 ∧ (c_riK x0 x1 = 0 → (if x1 ≤ S 5 (ix x0) then 0 else c_eaN (c_riS S x0 x1) O (nI (ix x0)) n0) = (if m_riOk x0 x1 = true then m_srN T P x0 x1 n0 else 0)) ∧ Rel (k + 1) (if c_riK x0 x1 = 0 then c_riS S x0 x1 else S) (if c_riK x0 x1 = 0 then if x1 ≤ S 5 (ix x0) then O else c_eaO (c_riS S x0 x1) O (nI (ix x0)) n0 else O) V (if m_riOk x0 x1 = true then va_up T 4 (upd (T 4) (ix x0) x1) else T) (if m_riOk x0 x1 = true then m_srO T P x0 x1 n0 else P) (va_up U 0 (if m_riOk x0 x1 = true then 0 else 1)) := by
  have hK := riK_eq x0 x1
  refine ⟨hK.symm, ?_⟩
  by_cases hv : m_riOk x0 x1 = true
  · have hK0 : c_riK x0 x1 = 0 := by rw [hK, if_pos hv]
    obtain ⟨v1, v2⟩ := andT hv
    have hle : x1 ≤ 3 := by
      simp only [m_in, Bool.and_eq_true, Bool.not_eq_true', decide_eq_false_iff_not] at v2
      exact Int32.not_lt.mp v2.2
    obtain ⟨p, hp, rfl⟩ := m_in9 v1
    obtain ⟨hG, hPp, hSs, hKk, hC⟩ := hR
    have ep : ix (nI p) = p := ixN (by omega)
    have hg : ∀ j : Nat, j < n0 → m_srG T (nI p) x1 j = (!decide (x1 ≤ S 5 p) && decide (S 11 j = nI p)) := by
      intro j hj
      rw [m_srG, ep, (hPp.1 p hp).1, (hSs.2 j (by omega)).1]
    rw [ep]
    refine ⟨fun _ => ?_, ?_⟩
    · rw [if_pos hv, sr_n]
      by_cases hx : x1 ≤ S 5 p
      · rw [if_pos hx]
        exact (cntI_0 (fun j hj => by rw [hg j hj, decide_eq_true hx]; simp)).symm
      · rw [if_neg hx, ea_n]
        refine cntI_congr (fun j hj => ?_)
        rw [hg j hj, decide_eq_false hx, (hSs.2 j (by omega)).2.2.2.2]
        rfl
    · simp only [if_pos hK0, if_pos hv]
      refine ⟨hG, ⟨fun p' hp' => ?_, hPp.2⟩, ⟨hSs.1, fun j hj => ?_⟩, hKk, RelC_fr hC rfl rfl rfl rfl rfl rfl⟩
      · show upd (S 5) (ix (nI p)) x1 p' = upd (T 4) p x1 p' ∧ upd (S 5) (ix (nI p)) x1 p' ≤ 3
        rw [ep, upd, upd]
        by_cases e : p' = p
        · rw [if_pos e, if_pos e]; exact ⟨rfl, hle⟩
        · rw [if_neg e, if_neg e]; exact hPp.1 p' hp'
      · obtain ⟨r1, r2, r3, r4, r5⟩ := hSs.2 j hj
        refine ⟨r1, r2, r3, r4, ?_⟩
        rw [sr_pt]
        by_cases hx : x1 ≤ S 5 p
        · rw [if_pos hx]
          by_cases hj0 : j < n0
          · rw [hg j hj0, decide_eq_true hx, r5]; simp
          · rw [decide_eq_false hj0, r5]; simp
        · rw [if_neg hx, ea_pt]
          by_cases hj0 : j < n0
          · rw [hg j hj0, decide_eq_false hx, r5]; rfl
          · rw [decide_eq_false hj0, r5]; rfl
  · have hK1 : ¬ c_riK x0 x1 = 0 := by rw [hK, if_neg hv]; decide
    refine ⟨fun h => absurd h hK1, ?_⟩
    simp only [if_neg hK1, if_neg hv]
    exact Rel_fail hR _
theorem q_isIn {k : Nat} {S : Nat → Nat → Int32} {O : Nat → Bool} {V : Nat → Int32} {T : Nat → Nat → Int32} {P : Nat → Bool} {U : Nat → Int32} (hR : Rel k S O V T P U) (hk5 : k < 512) {n0 : Nat} (hn0 : n0 ≤ 30) (hct : V 1 = nI n0) (hctm : U 2 = nI n0) (hpe : ∀ j : Nat, j < n0 → vp_in (S 11 j) 10) (hpem : ∀ j : Nat, j < n0 → vp_in (T 6 j) 10) (x0 : Int32) (x1 : Int32) :
    (va_up U 0 (if m_spOk x0 x1 = true then 0 else 1)) 0 = c_spK x0 x1 ∧ (c_spK x0 x1 = 0 → (hasB (c_allA S (S 7 (ix x1)) 8) (nI (ix x0))) = (m_spOk x0 x1 && m_be T x0 x1 8)) ∧ Rel (k + 1) S O V T P (va_up U 0 (if m_spOk x0 x1 = true then 0 else 1)) := by
  have hK := spK_eq x0 x1
  refine ⟨hK.symm, fun h0 => ?_, Rel_fail hR _⟩
  by_cases hv : m_spOk x0 x1 = true
  · obtain ⟨v1, v2⟩ := andT hv
    obtain ⟨g, hg, rfl⟩ := m_in7 v1
    obtain ⟨p, hp, rfl⟩ := m_in9 v2
    rw [ixN (by omega), ixN (by omega), hv, Bool.true_and]
    exact in_eq hR.1 hg hp
  · rw [hK, if_neg hv] at h0; exact absurd h0 (by decide)
theorem q_allows {k : Nat} {S : Nat → Nat → Int32} {O : Nat → Bool} {V : Nat → Int32} {T : Nat → Nat → Int32} {P : Nat → Bool} {U : Nat → Int32} (hR : Rel k S O V T P U) (hk5 : k < 512) {n0 : Nat} (hn0 : n0 ≤ 30) (hct : V 1 = nI n0) (hctm : U 2 = nI n0) (hpe : ∀ j : Nat, j < n0 → vp_in (S 11 j) 10) (hpem : ∀ j : Nat, j < n0 → vp_in (T 6 j) 10) (x0 : Int32) (x1 : Int32) :
    (va_up U 0 (if (m_in x0 0 9 && m_in x1 0 5) = true then 0 else 1)) 0 = c_alK x0 x1 ∧ (c_alK x0 x1 = 0 → (decide (c_house S V (ix x0) (ix x1) = 0)) = (m_in x0 0 9 && (m_in x1 0 5 && m_lets T U (ix x0) (ix x1)))) ∧ Rel (k + 1) S O V T P (va_up U 0 (if (m_in x0 0 9 && m_in x1 0 5) = true then 0 else 1)) := by
  have hK := alK_eq x0 x1
  refine ⟨hK.symm, fun h0 => ?_, Rel_fail hR _⟩
  by_cases hv : (m_in x0 0 9 && m_in x1 0 5) = true
  · obtain ⟨v1, v2⟩ := andT hv
    rw [v1, v2, Bool.true_and, Bool.true_and]
    obtain ⟨p, hp, rfl⟩ := m_in9 v1
    obtain ⟨r, hr, rfl⟩ := m_in5 v2
    rw [ixN (by omega), ixN (by omega), c_house, lets_eq hR.1 hR.2.1 hR.2.2.2.1.1 hp hr]
    cases m_lets T U p r <;> decide
  · rw [hK, if_neg hv] at h0; exact absurd h0 (by decide)
theorem q_open {k : Nat} {S : Nat → Nat → Int32} {O : Nat → Bool} {V : Nat → Int32} {T : Nat → Nat → Int32} {P : Nat → Bool} {U : Nat → Int32} (hR : Rel k S O V T P U) (hk5 : k < 512) {n0 : Nat} (hn0 : n0 ≤ 30) (hct : V 1 = nI n0) (hctm : U 2 = nI n0) (hpe : ∀ j : Nat, j < n0 → vp_in (S 11 j) 10) (hpem : ∀ j : Nat, j < n0 → vp_in (T 6 j) 10) (x0 : Int32) :
    (if m_opK T U x0 = 0 then va_up (va_up U 0 0) 2 (U 2 + 1) else va_up U 0 (m_opK T U x0)) 0 = c_opK S V x0 ∧ (c_opK S V x0 = 0 → (nI n0) = (if m_opK T U x0 = 0 then U 2 + 1 - 1 else 0)) ∧ Rel (k + 1) (if c_opK S V x0 = 0 then va_up (va_up (va_up (va_up S 11 (upd (S 11) n0 x0)) 12 (upd (S 12) n0 (V 2))) 13 (upd (S 13) n0 (V 0))) 14 (upd (S 14) n0 (V 0)) else S) O (if c_opK S V x0 = 0 then va_up V 1 (V 1 + 1) else V) (if m_opK T U x0 = 0 then va_up (va_up (va_up (va_up T 6 (upd (T 6) n0 x0)) 7 (upd (T 7) n0 (U 3))) 8 (upd (T 8) n0 (U 1))) 9 (upd (T 9) n0 (U 1)) else T) P (if m_opK T U x0 = 0 then va_up (va_up U 0 0) 2 (U 2 + 1) else va_up U 0 (m_opK T U x0)) := by
  have hlt : (V 1 < 30) ↔ n0 < 30 := by rw [hct]; exact nI_ltI (b := 30) (by omega) (by decide)
  have heq : (U 2 = 30) ↔ n0 = 30 := by rw [hctm]; exact nI_eq (b := 30) (by omega) (by decide)
  have hK : c_opK S V x0 = m_opK T U x0 := by
    rw [c_opK, m_opK, oi10]
    cases h1 : m_in x0 0 9
    · rfl
    · obtain ⟨p, hp, rfl⟩ := m_in9 h1
      rw [ixN (by omega), (hR.2.1.1 p hp).1]
      by_cases h3 : T 4 p = 3
      · simp [h3]
      · by_cases h4 : n0 = 30
        · have h5 : ¬ V 1 < 30 := by rw [hlt]; omega
          simp [h3, heq.mpr h4, h5]
        · have h5 : V 1 < 30 := by rw [hlt]; omega
          have h6 : ¬ U 2 = 30 := by rw [heq]; omega
          simp [h3, h5, h6]
  have hU0 : (if m_opK T U x0 = 0 then va_up (va_up U 0 0) 2 (U 2 + 1) else va_up U 0 (m_opK T U x0)) 0 = m_opK T U x0 := by
    by_cases h : m_opK T U x0 = 0
    · rw [if_pos h, h]; rfl
    · rw [if_neg h]; rfl
  refine ⟨hU0.trans hK.symm, ?_⟩
  by_cases hv : m_opK T U x0 = 0
  · have hK0 : c_opK S V x0 = 0 := hK.trans hv
    obtain ⟨hG, hPp, hSs, hKk, hC⟩ := hR
    refine ⟨fun _ => by rw [if_pos hv, hctm, nI_1, nI_pred], ?_⟩
    have hn : n0 < 30 := by
      rw [m_opK] at hv
      by_cases h4 : U 2 = 30
      · exfalso
        cases h1 : m_in x0 0 9
        · simp [h1] at hv
        · by_cases h2 : T 4 (ix x0) = 3 <;> simp [h1, h2, h4] at hv
      · rw [heq] at h4; omega
    have hx : vp_in x0 10 := by
      rw [m_opK] at hv
      cases h1 : m_in x0 0 9
      · simp [h1] at hv
      · obtain ⟨p, hp, rfl⟩ := m_in9 h1
        rw [vp_in_iff, nI_toInt (by omega)]; omega
    simp only [if_pos hK0, if_pos hv]
    refine ⟨hG, hPp, ⟨⟨n0 + 1, by omega, ?_, ?_, fun j hj => ?_⟩, fun j hj => ?_⟩, hKk, RelC_fr hC rfl rfl rfl rfl rfl rfl⟩
    · show V 1 + 1 = nI (n0 + 1)
      rw [hct, nI_1]
    · show U 2 + 1 = nI (n0 + 1)
      rw [hctm, nI_1]
    · show vp_in (upd (S 11) n0 x0 j) 10
      rw [upd]
      by_cases e : j = n0
      · rw [if_pos e]; exact hx
      · rw [if_neg e]; exact hpe j (by omega)
    · show upd (S 11) n0 x0 j = upd (T 6) n0 x0 j ∧ upd (S 12) n0 (V 2) j = upd (T 7) n0 (U 3) j ∧ upd (S 13) n0 (V 0) j = upd (T 8) n0 (U 1) j ∧ upd (S 14) n0 (V 0) j = upd (T 9) n0 (U 1) j ∧ O j = P j
      obtain ⟨r1, r2, r3, r4, r5⟩ := hSs.2 j hj
      simp only [upd]
      by_cases e : j = n0
      · simp only [if_pos e]; exact ⟨trivial, hKk.2.1, hKk.1, hKk.1, r5⟩
      · simp only [if_neg e]; exact ⟨r1, r2, r3, r4, r5⟩
  · have hK1 : ¬ c_opK S V x0 = 0 := by rw [hK]; exact hv
    refine ⟨fun h => absurd h hK1, ?_⟩
    simp only [if_neg hK1, if_neg hv]
    exact Rel_fail hR _
theorem q_close {k : Nat} {S : Nat → Nat → Int32} {O : Nat → Bool} {V : Nat → Int32} {T : Nat → Nat → Int32} {P : Nat → Bool} {U : Nat → Int32} (hR : Rel k S O V T P U) (hk5 : k < 512) {n0 : Nat} (hn0 : n0 ≤ 30) (hct : V 1 = nI n0) (hctm : U 2 = nI n0) (hpe : ∀ j : Nat, j < n0 → vp_in (S 11 j) 10) (hpem : ∀ j : Nat, j < n0 → vp_in (T 6 j) 10) (x0 : Int32) :
    (va_up U 0 (m_clK P U x0)) 0 = c_clK O V x0 ∧ (c_clK O V x0 = 0 → (V 0 - S 13 (ix x0)) = (if m_clK P U x0 = 0 then U 1 - T 8 (ix x0) else 0)) ∧ Rel (k + 1) S (if c_clK O V x0 = 0 then va_up O (ix x0) true else O) V T (if m_clK P U x0 = 0 then va_up P (ix x0) true else P) (va_up U 0 (m_clK P U x0)) := by
  have hh := has_eq hct hctm hn0 x0
  have hK : c_clK O V x0 = m_clK P U x0 := by
    rw [c_clK, m_clK, hh]
    cases h1 : m_in x0 0 (U 2 - 1)
    · rfl
    · obtain ⟨j, hj, rfl⟩ := m_inC h1 hctm hn0
      rw [ixN (by omega), (hR.2.2.1.2 j (by omega)).2.2.2.2]
  refine ⟨hK.symm, ?_⟩
  by_cases hv : m_clK P U x0 = 0
  · have hK0 : c_clK O V x0 = 0 := hK.trans hv
    have h1 : m_in x0 0 (U 2 - 1) = true := by
      rw [m_clK] at hv
      cases h1 : m_in x0 0 (U 2 - 1)
      · simp [h1] at hv
      · rfl
    obtain ⟨s, hs, rfl⟩ := m_inC h1 hctm hn0
    obtain ⟨hG, hPp, hSs, hKk, hC⟩ := hR
    have es : ix (nI s) = s := ixN (by omega)
    rw [es]
    refine ⟨fun _ => by rw [if_pos hv, hKk.1, (hSs.2 s (by omega)).2.2.1], ?_⟩
    simp only [if_pos hK0, if_pos hv]
    refine ⟨hG, hPp, ⟨hSs.1, fun j hj => ?_⟩, hKk, RelC_fr hC rfl rfl rfl rfl rfl rfl⟩
    obtain ⟨r1, r2, r3, r4, r5⟩ := hSs.2 j hj
    refine ⟨r1, r2, r3, r4, ?_⟩
    rw [ups, ups, r5]
  · have hK1 : ¬ c_clK O V x0 = 0 := by rw [hK]; exact hv
    refine ⟨fun h => absurd h hK1, ?_⟩
    simp only [if_neg hK1, if_neg hv]
    exact Rel_fail hR _
theorem q_goesOn {k : Nat} {S : Nat → Nat → Int32} {O : Nat → Bool} {V : Nat → Int32} {T : Nat → Nat → Int32} {P : Nat → Bool} {U : Nat → Int32} (hR : Rel k S O V T P U) (hk5 : k < 512) {n0 : Nat} (hn0 : n0 ≤ 30) (hct : V 1 = nI n0) (hctm : U 2 = nI n0) (hpe : ∀ j : Nat, j < n0 → vp_in (S 11 j) 10) (hpem : ∀ j : Nat, j < n0 → vp_in (T 6 j) 10) (x0 : Int32) :
    (va_up U 0 (if m_in x0 0 (U 2 - 1) = true then 0 else 1)) 0 = c_goK V x0 ∧ (c_goK V x0 = 0 → (!O (ix x0)) = (m_in x0 0 (U 2 - 1) && !P (ix x0))) ∧ Rel (k + 1) S O V T P (va_up U 0 (if m_in x0 0 (U 2 - 1) = true then 0 else 1)) := by
  have hh := has_eq hct hctm hn0 x0
  have hK : c_goK V x0 = if m_in x0 0 (U 2 - 1) = true then 0 else 1 := by rw [c_goK, hh]
  refine ⟨hK.symm, fun h0 => ?_, Rel_fail hR _⟩
  by_cases hv : m_in x0 0 (U 2 - 1) = true
  · rw [hv, Bool.true_and]
    obtain ⟨s, hs, rfl⟩ := m_inC hv hctm hn0
    rw [ixN (by omega), (hR.2.2.1.2 s (by omega)).2.2.2.2]
  · rw [hK, if_neg hv] at h0; exact absurd h0 (by decide)
theorem q_changeKeys {k : Nat} {S : Nat → Nat → Int32} {O : Nat → Bool} {V : Nat → Int32} {T : Nat → Nat → Int32} {P : Nat → Bool} {U : Nat → Int32} (hR : Rel k S O V T P U) (hk5 : k < 512) {n0 : Nat} (hn0 : n0 ≤ 30) (hct : V 1 = nI n0) (hctm : U 2 = nI n0) (hpe : ∀ j : Nat, j < n0 → vp_in (S 11 j) 10) (hpem : ∀ j : Nat, j < n0 → vp_in (T 6 j) 10) (x0 : Int32) :
    (if m_in x0 0 300 = true then m_ckV U x0 else va_up U 0 1) 0 = c_ckK x0 ∧ (c_ckK x0 = 0 → (V 2 + 1) = (if m_in x0 0 300 = true then U 3 + 1 else 0)) ∧ Rel (k + 1) S (if c_ckK x0 = 0 then c_edO S O (c_ckV V x0) (V 0) n0 else O) (if c_ckK x0 = 0 then c_ckV V x0 else V) T (if m_in x0 0 300 = true then m_swO T P (m_ckV U x0) n0 else P) (if m_in x0 0 300 = true then m_ckV U x0 else va_up U 0 1) := by
  have hK := ckK_eq x0
  refine ⟨(ckU U x0).trans hK.symm, ?_⟩
  by_cases hv : m_in x0 0 300 = true
  · have hK0 : c_ckK x0 = 0 := by rw [hK, if_pos hv]
    obtain ⟨hG, hPp, hSs, hKk, hC⟩ := hR
    have e2 : c_ckV V x0 2 = m_ckV U x0 3 := by rw [ck2, mk3, hKk.2.1]
    have e3 : c_ckV V x0 3 = m_ckV U x0 4 := by rw [ck3, mk4, hKk.1]
    have e1 : V 0 = m_ckV U x0 1 := by rw [mk1, hKk.1]
    have e0 : c_ckV V x0 0 = m_ckV U x0 1 := by rw [ck0, mk1, hKk.1]
    refine ⟨fun _ => by rw [if_pos hv, hKk.2.1], ?_⟩
    simp only [if_pos hK0, if_pos hv]
    refine ⟨hG, hPp, ⟨⟨n0, hn0, (ck1 V x0).trans hct, (mk2 U x0).trans hctm, hpe⟩, fun j hj => ?_⟩, ⟨e0, e2, e3⟩, RelC_fr hC rfl rfl rfl rfl rfl (ck0 V x0)⟩
    obtain ⟨r1, r2, r3, r4, r5⟩ := hSs.2 j hj
    refine ⟨r1, r2, r3, r4, ?_⟩
    rw [ed_pt, sw_pt, r5]
    by_cases hj0 : j < n0
    · rw [due_eq (V := c_ckV V x0) (U := m_ckV U x0) hPp hj0 hn0 hpe ⟨r1, r2, r3, r4⟩ e2 e3 e1]
    · rw [decide_eq_false hj0, Bool.false_and, Bool.false_and]
  · have hK1 : ¬ c_ckK x0 = 0 := by rw [hK, if_neg hv]; decide
    refine ⟨fun h => absurd h hK1, ?_⟩
    simp only [if_neg hK1, if_neg hv]
    exact Rel_fail hR _
theorem q_isTaken {k : Nat} {S : Nat → Nat → Int32} {O : Nat → Bool} {V : Nat → Int32} {T : Nat → Nat → Int32} {P : Nat → Bool} {U : Nat → Int32} (hR : Rel k S O V T P U) (hk5 : k < 512) {n0 : Nat} (hn0 : n0 ≤ 30) (hct : V 1 = nI n0) (hctm : U 2 = nI n0) (hpe : ∀ j : Nat, j < n0 → vp_in (S 11 j) 10) (hpem : ∀ j : Nat, j < n0 → vp_in (T 6 j) 10) (x0 : Int32) :
    (va_up U 0 (if m_in x0 0 (U 3) = true then 0 else 1)) 0 = c_itK V x0 ∧ (c_itK V x0 = 0 → (c_takes V x0 (V 0)) = (m_in x0 0 (U 3) && m_isKey U x0)) ∧ Rel (k + 1) S O V T P (va_up U 0 (if m_in x0 0 (U 3) = true then 0 else 1)) := by
  have hKk := hR.2.2.2.1
  have hK : c_itK V x0 = if m_in x0 0 (U 3) = true then 0 else 1 := by rw [c_itK, rng_eq, hKk.2.1]
  refine ⟨hK.symm, fun h0 => ?_, Rel_fail hR _⟩
  by_cases hv : m_in x0 0 (U 3) = true
  · rw [hv, Bool.true_and, c_takes, m_isKey, hKk.1, hKk.2.1, hKk.2.2]
  · rw [hK, if_neg hv] at h0; exact absurd h0 (by decide)
