/-! ===== how the class's cells and the reference's go together, after k calls ===== -/
def lt8 (x : Int32) : Prop := ∀ j : Nat, 8 ≤ j → x.toBitVec.getLsbD j = false
def Dec (t c : Nat) (A K ks : Int32) : Prop :=
  (A = -1 ∧ (K = -1 ∨ ∃ t' b : Nat, b ≤ 1 ∧ t' ≤ t ∧ K = nI (2 * t' + b) ∧ c ≤ t - t')) ∨
  (∃ t' b : Nat, b ≤ 1 ∧ t' ≤ t ∧ A = nI (1 - b) ∧ ks = nI t' ∧ K = nI (2 * t' + b) ∧ t - t' < c)
def RelG (S T : Nat → Nat → Int32) : Prop :=
  (∀ g p : Nat, g < 8 → p < 10 → hasB (S 7 p) (nI g) = hasB (T 1 g) (nI p)) ∧
  (∀ g h : Nat, g < 8 → h < 8 → hasB (S 8 h) (nI g) = hasB (T 2 g) (nI h)) ∧
  (∀ p : Nat, p < 10 → lt8 (S 7 p)) ∧ (∀ h : Nat, h < 8 → lt8 (S 8 h)) ∧ (∀ h : Nat, h < 8 → lt8 (T 2 h)) ∧
  (∀ r : Nat, r < 6 → lt8 (S 9 r)) ∧ (∀ r : Nat, r < 6 → lt8 (S 10 r)) ∧
  (∀ g r : Nat, g < 8 → r < 6 → T 3 (6 * g + r) = c_roleOf S g r) ∧
  (∀ g r : Nat, g < 8 → r < 6 → hasB (S 9 r) (nI g) = true → hasB (S 10 r) (nI g) = false)
def RelP (S T : Nat → Nat → Int32) : Prop :=
  (∀ p : Nat, p < 10 → S 5 p = T 4 p ∧ S 5 p ≤ 3) ∧ (∀ j : Nat, j < 60 → S 6 j = T 5 j)
def RelS (S : Nat → Nat → Int32) (O : Nat → Bool) (V : Nat → Int32) (T : Nat → Nat → Int32) (P : Nat → Bool) (U : Nat → Int32) : Prop :=
  (∃ n0 : Nat, n0 ≤ 30 ∧ V 1 = nI n0 ∧ U 2 = nI n0 ∧ ∀ j : Nat, j < n0 → vp_in (S 11 j) 10) ∧
  (∀ j : Nat, j < 30 → S 11 j = T 6 j ∧ S 12 j = T 7 j ∧ S 13 j = T 8 j ∧ S 14 j = T 9 j ∧ O j = P j)
def RelK (V U : Nat → Int32) : Prop := V 0 = U 1 ∧ V 2 = U 3 ∧ V 3 = U 4
def RelC (k : Nat) (S : Nat → Nat → Int32) (V : Nat → Int32) (T : Nat → Nat → Int32) : Prop :=
  ∃ t : Nat, t ≤ 300 * k ∧ V 0 = nI t ∧ ∀ a : Nat, a < 4 → ∃ c : Nat, c ≤ 60 ∧ S 16 a = nI c ∧ T 11 a = nI c ∧ ∀ j : Nat, j < 60 → Dec t c (S 17 (60 * a + j)) (T 12 (60 * a + j)) (S 18 (60 * a + j))
def Rel (k : Nat) (S : Nat → Nat → Int32) (O : Nat → Bool) (V : Nat → Int32) (T : Nat → Nat → Int32) (P : Nat → Bool) (U : Nat → Int32) : Prop :=
  RelG S T ∧ RelP S T ∧ RelS S O V T P U ∧ RelK V U ∧ RelC k S V T
theorem Rel_n {k : Nat} {S : Nat → Nat → Int32} {O : Nat → Bool} {V : Nat → Int32} {T : Nat → Nat → Int32} {P : Nat → Bool} {U : Nat → Int32} (hR : Rel k S O V T P U) : ∃ n0 : Nat, n0 ≤ 30 ∧ V 1 = nI n0 ∧ U 2 = nI n0 ∧ (∀ j : Nat, j < n0 → vp_in (S 11 j) 10) ∧ (∀ j : Nat, j < n0 → vp_in (T 6 j) 10) := by
  obtain ⟨-, -, ⟨⟨n0, h1, h2, h3, h4⟩, h5⟩, -, -⟩ := hR
  exact ⟨n0, h1, h2, h3, h4, fun j hj => by rw [← (h5 j (by omega)).1]; exact h4 j hj⟩
theorem RelC_mono {k : Nat} {S T : Nat → Nat → Int32} {V : Nat → Int32} (h : RelC k S V T) : RelC (k + 1) S V T := by
  obtain ⟨t, h1, h2, h3⟩ := h
  exact ⟨t, by omega, h2, h3⟩
theorem Rel_mono {k : Nat} {S : Nat → Nat → Int32} {O : Nat → Bool} {V : Nat → Int32} {T : Nat → Nat → Int32} {P : Nat → Bool} {U : Nat → Int32} (hR : Rel k S O V T P U) : Rel (k + 1) S O V T P U := by
  obtain ⟨h1, h2, h3, h4, h5⟩ := hR
  exact ⟨h1, h2, h3, h4, RelC_mono h5⟩
