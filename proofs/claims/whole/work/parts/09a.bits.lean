/-! ===== bits of masks ===== -/
def bt (x : Int32) (j : Nat) : Bool := x.toBitVec.getLsbD j
theorem sh_amt : ∀ g : Nat, g < 32 → ((nI g &&& 31).toBitVec.smod 32).toNat = g := by decide +kernel
theorem hasB_bt {x : Int32} {g : Nat} (hg : g < 32) : hasB x (nI g) = bt x g := by
  have h1 : x >>> (nI g &&& 31) &&& 1 = nI ((x >>> (nI g &&& 31)).toBitVec.toNat % 2 ^ 1) := pk_and _ 1 (by decide)
  have h2 : (x >>> (nI g &&& 31)).toBitVec = x.toBitVec.sshiftRight g := by
    rw [Int32.toBitVec_shiftRight, BitVec.sshiftRight_eq', sh_amt g hg]
  have h3 : bt x g = (x.toBitVec.sshiftRight g).getLsbD 0 := by
    rw [bt, BitVec.getLsbD_sshiftRight]
    simp [hg]
  rw [hasB, h1, h2, h3, BitVec.getLsbD, Nat.testBit_zero, Nat.pow_one]
  have h4 : (x.toBitVec.sshiftRight g).toNat % 2 < 2 := Nat.mod_lt _ (by decide)
  have h5 : (nI ((x.toBitVec.sshiftRight g).toNat % 2) = 1) ↔ (x.toBitVec.sshiftRight g).toNat % 2 = 1 := nI_eq (a := (x.toBitVec.sshiftRight g).toNat % 2) (b := 1) (by omega) (by decide)
  exact decide_eq_decide.mpr h5
theorem bt_or (x y : Int32) (j : Nat) : bt (x ||| y) j = (bt x j || bt y j) := by
  rw [bt, Int32.toBitVec_or, BitVec.getLsbD_or]; rfl
theorem bt_and (x y : Int32) (j : Nat) : bt (x &&& y) j = (bt x j && bt y j) := by
  rw [bt, Int32.toBitVec_and, BitVec.getLsbD_and]; rfl
theorem bt_ge (x : Int32) {j : Nat} (h : 32 ≤ j) : bt x j = false := BitVec.getLsbD_of_ge _ _ h
theorem bt_0 (j : Nat) : bt 0 j = false := by
  rw [bt, Int32.toBitVec_zero]; simp
theorem bt_one0 : ∀ g : Nat, g < 32 → ∀ j : Nat, j < 32 → bt (1 <<< (nI g &&& 31)) j = decide (j = g) := by decide +kernel
theorem bt_one {g : Nat} (hg : g < 32) (j : Nat) : bt (1 <<< (nI g &&& 31)) j = decide (j = g) := by
  rcases Nat.lt_or_ge j 32 with h | h
  · exact bt_one0 g hg j h
  · rw [bt_ge _ h]; exact (decide_eq_false (by omega)).symm
theorem bt_none0 : ∀ g : Nat, g < 32 → ∀ j : Nat, j < 32 → bt ((1 <<< (nI g &&& 31)) ^^^ (-1)) j = !decide (j = g) := by decide +kernel
theorem bt_changed (x : Int32) (b : Bool) {g : Nat} (hg : g < 32) (j : Nat) : bt (c_changed x (nI g) b) j = if j = g then b else bt x j := by
  rw [c_changed]
  cases b
  · rw [if_neg (by decide), bt_and]
    rcases Nat.lt_or_ge j 32 with h | h
    · rw [bt_none0 g hg j h]
      by_cases e : j = g <;> simp [e]
    · rw [bt_ge x h, if_neg (by omega)]; rfl
  · rw [if_pos rfl, bt_or, bt_one hg]
    by_cases e : j = g <;> simp [e]
theorem lt8_changed {x : Int32} (b : Bool) {g : Nat} (hg : g < 8) (h : lt8 x) : lt8 (c_changed x (nI g) b) := by
  intro j hj
  have h1 := bt_changed x b (g := g) (by omega) j
  rw [if_neg (by omega)] at h1
  exact h1.trans (h j hj)
theorem lt8_0 : lt8 0 := fun j _ => bt_0 j
theorem and_ne {x y : Int32} (hy : lt8 y) : (x &&& y = 0) ↔ ∀ j : Nat, j < 8 → bt x j = true → bt y j = true → False := by
  constructor
  · intro h j _ h1 h2
    have h3 := bt_and x y j
    rw [h, bt_0, h1, h2] at h3
    cases h3
  · intro h
    apply Int32.toBitVec_inj.mp
    apply BitVec.eq_of_getLsbD_eq
    intro j _
    show bt (x &&& y) j = bt 0 j
    rw [bt_and, bt_0]
    rcases Nat.lt_or_ge j 8 with h8 | h8
    · cases h1 : bt x j
      · rfl
      · cases h2 : bt y j
        · rfl
        · exact (h j h8 h1 h2).elim
    · rw [show bt y j = false from hy j h8, Bool.and_false]
/-! ===== closures of sets of groups ===== -/
def cnt (A : Nat → Bool) : Nat → Nat
  | 0 => 0
  | n + 1 => cnt A n + (if A n = true then 1 else 0)
theorem cnt_le (A : Nat → Bool) (n : Nat) : cnt A n ≤ n := by
  induction n with
  | zero => exact Nat.le_refl _
  | succ n ih => rw [cnt]; split <;> omega
theorem cnt_mono {A B : Nat → Bool} {n : Nat} (h : ∀ j, j < n → A j = true → B j = true) : cnt A n ≤ cnt B n := by
  induction n with
  | zero => exact Nat.le_refl _
  | succ n ih =>
    have h1 := ih (fun j hj => h j (by omega))
    rw [cnt, cnt]
    by_cases ha : A n = true
    · rw [if_pos ha, if_pos (h n (by omega) ha)]; omega
    · rw [if_neg ha]; omega
theorem cnt_lt {A B : Nat → Bool} {n b : Nat} (h : ∀ j, j < n → A j = true → B j = true) (hb : b < n) (h1 : A b = false) (h2 : B b = true) : cnt A n + 1 ≤ cnt B n := by
  induction n with
  | zero => omega
  | succ n ih =>
    rw [cnt, cnt]
    by_cases e : b = n
    · subst e
      have h3 := cnt_mono (A := A) (B := B) (n := b) (fun j hj => h j (by omega))
      rw [if_neg (by rw [h1]; decide), if_pos h2]; omega
    · have h3 := ih (fun j hj => h j (by omega)) (by omega)
      by_cases ha : A n = true
      · rw [if_pos ha, if_pos (h n (by omega) ha)]; omega
      · rw [if_neg ha]; omega
theorem cnt_full {A : Nat → Bool} {n : Nat} (h : n ≤ cnt A n) : ∀ j, j < n → A j = true := by
  induction n with
  | zero => intro j hj; omega
  | succ n ih =>
    rw [cnt] at h
    have h1 := cnt_le A n
    intro j hj
    by_cases ha : A n = true
    · by_cases e : j = n
      · rw [e]; exact ha
      · rw [if_pos ha] at h
        exact ih (by omega) j (by omega)
    · rw [if_neg ha] at h; omega
/-- b is in every set that holds A and is closed under R -/
def Cl (R : Nat → Nat → Prop) (A : Nat → Prop) (b : Nat) : Prop := ∀ C : Nat → Prop, (∀ a, a < 8 → A a → C a) → (∀ a b, a < 8 → b < 8 → C a → R a b → C b) → C b
theorem cl_rounds (xs : Nat → Int32) (R : Nat → Nat → Prop) (h1 : ∀ i j, j < 8 → bt (xs i) j = true → bt (xs (i + 1)) j = true) (h2 : ∀ i a b, a < 8 → b < 8 → bt (xs i) a = true → R a b → bt (xs (i + 1)) b = true)
    (h3 : ∀ i (C : Nat → Prop), (∀ a, a < 8 → bt (xs i) a = true → C a) → (∀ a b, a < 8 → b < 8 → C a → R a b → C b) → ∀ b, b < 8 → bt (xs (i + 1)) b = true → C b) (b : Nat) (hb : b < 8) : bt (xs 8) b = true ↔ Cl R (fun a => bt (xs 0) a = true) b := by
  have sound : ∀ i (C : Nat → Prop), (∀ a, a < 8 → bt (xs 0) a = true → C a) → (∀ a b, a < 8 → b < 8 → C a → R a b → C b) → ∀ b, b < 8 → bt (xs i) b = true → C b := by
    intro i C hA hC
    induction i with
    | zero => exact hA
    | succ i ih => exact h3 i C ih hC
  have incl : ∀ i a, a < 8 → bt (xs 0) a = true → bt (xs i) a = true := by
    intro i a ha h0
    induction i with
    | zero => exact h0
    | succ i ih => exact h1 i a ha ih
  have prog : ∀ i, (∀ a b, a < 8 → b < 8 → bt (xs i) a = true → R a b → bt (xs i) b = true) ∨ i ≤ cnt (bt (xs i)) 8 := by
    intro i
    induction i with
    | zero => exact Or.inr (Nat.zero_le _)
    | succ i ih =>
      by_cases hc : ∀ a b, a < 8 → b < 8 → bt (xs i) a = true → R a b → bt (xs i) b = true
      · left
        intro a b' ha hb' h5 h6
        have h7 : ∀ q, q < 8 → bt (xs (i + 1)) q = true → bt (xs i) q = true := h3 i (fun q => bt (xs i) q = true) (fun q _ h => h) (fun x y hx hy h h' => hc x y hx hy h h')
        exact h1 i b' hb' (hc a b' ha hb' (h7 a ha h5) h6)
      · right
        rcases ih with ih | ih
        · exact absurd ih hc
        · have ⟨a, b', ha, hb', h5, h6, h7⟩ : ∃ a b', a < 8 ∧ b' < 8 ∧ bt (xs i) a = true ∧ R a b' ∧ bt (xs i) b' = false := by
            apply Classical.byContradiction
            intro hn
            apply hc
            intro a b' ha hb' h5 h6
            cases h7 : bt (xs i) b'
            · exact absurd ⟨a, b', ha, hb', h5, h6, h7⟩ hn
            · rfl
          have := cnt_lt (A := bt (xs i)) (B := bt (xs (i + 1))) (n := 8) (fun j hj => h1 i j hj) hb' h7 (h2 i a b' ha hb' h5 h6)
          omega
  have closed : ∀ a b, a < 8 → b < 8 → bt (xs 8) a = true → R a b → bt (xs 8) b = true := by
    rcases prog 8 with h | h
    · exact h
    · intro a b' _ hb' _ _
      exact cnt_full h b' hb'
  constructor
  · intro h C hA hC
    exact sound 8 C hA hC b hb h
  · intro h
    exact h (fun q => bt (xs 8) q = true) (fun a ha h0 => incl 8 a ha h0) closed
/-- seven rounds serve: a set that is empty is closed -/
theorem cl_rounds7 (xs : Nat → Int32) (R : Nat → Nat → Prop) (h1 : ∀ i j, j < 8 → bt (xs i) j = true → bt (xs (i + 1)) j = true) (h2 : ∀ i a b, a < 8 → b < 8 → bt (xs i) a = true → R a b → bt (xs (i + 1)) b = true)
    (h3 : ∀ i (C : Nat → Prop), (∀ a, a < 8 → bt (xs i) a = true → C a) → (∀ a b, a < 8 → b < 8 → C a → R a b → C b) → ∀ b, b < 8 → bt (xs (i + 1)) b = true → C b) (b : Nat) (hb : b < 8) : bt (xs 7) b = true ↔ Cl R (fun a => bt (xs 0) a = true) b := by
  have sound : ∀ i (C : Nat → Prop), (∀ a, a < 8 → bt (xs 0) a = true → C a) → (∀ a b, a < 8 → b < 8 → C a → R a b → C b) → ∀ b, b < 8 → bt (xs i) b = true → C b := by
    intro i C hA hC
    induction i with
    | zero => exact hA
    | succ i ih => exact h3 i C ih hC
  have incl : ∀ i a, a < 8 → bt (xs 0) a = true → bt (xs i) a = true := by
    intro i a ha h0
    induction i with
    | zero => exact h0
    | succ i ih => exact h1 i a ha ih
  have prog : ∀ i, (∀ a b, a < 8 → b < 8 → bt (xs i) a = true → R a b → bt (xs i) b = true) ∨ i + 1 ≤ cnt (bt (xs i)) 8 := by
    intro i
    induction i with
    | zero =>
      by_cases he : ∃ a, a < 8 ∧ bt (xs 0) a = true
      · obtain ⟨a, ha, h0⟩ := he
        right
        have := cnt_lt (A := fun _ => false) (B := bt (xs 0)) (n := 8) (fun j _ h => absurd h (by decide)) ha rfl h0
        omega
      · left
        intro a b' ha _ h5 _
        exact absurd ⟨a, ha, h5⟩ he
    | succ i ih =>
      by_cases hc : ∀ a b, a < 8 → b < 8 → bt (xs i) a = true → R a b → bt (xs i) b = true
      · left
        intro a b' ha hb' h5 h6
        have h7 : ∀ q, q < 8 → bt (xs (i + 1)) q = true → bt (xs i) q = true := h3 i (fun q => bt (xs i) q = true) (fun q _ h => h) (fun x y hx hy h h' => hc x y hx hy h h')
        exact h1 i b' hb' (hc a b' ha hb' (h7 a ha h5) h6)
      · right
        rcases ih with ih | ih
        · exact absurd ih hc
        · have ⟨a, b', ha, hb', h5, h6, h7⟩ : ∃ a b', a < 8 ∧ b' < 8 ∧ bt (xs i) a = true ∧ R a b' ∧ bt (xs i) b' = false := by
            apply Classical.byContradiction
            intro hn
            apply hc
            intro a b' ha hb' h5 h6
            cases h7 : bt (xs i) b'
            · exact absurd ⟨a, b', ha, hb', h5, h6, h7⟩ hn
            · rfl
          have := cnt_lt (A := bt (xs i)) (B := bt (xs (i + 1))) (n := 8) (fun j hj => h1 i j hj) hb' h7 (h2 i a b' ha hb' h5 h6)
          omega
  have closed : ∀ a b, a < 8 → b < 8 → bt (xs 7) a = true → R a b → bt (xs 7) b = true := by
    rcases prog 7 with h | h
    · exact h
    · intro a b' _ hb' _ _
      exact cnt_full h b' hb'
  constructor
  · intro h C hA hC
    exact sound 7 C hA hC b hb h
  · intro h
    exact h (fun q => bt (xs 7) q = true) (fun a ha h0 => incl 7 a ha h0) closed
/-- from a set up to g, or from g down to the set -/
theorem cl_dual {R R' : Nat → Nat → Prop} (hR : ∀ a b, a < 8 → b < 8 → (R a b ↔ R' b a)) (A : Nat → Prop) {g : Nat} (hg : g < 8) : Cl R A g ↔ ∃ k, k < 8 ∧ A k ∧ Cl R' (fun a => a = g) k := by
  constructor
  · intro h
    have := h (fun b => b < 8 → ∃ k, k < 8 ∧ A k ∧ Cl R' (fun a => a = b) k) (fun a ha h0 _ => ⟨a, ha, h0, fun C h1 _ => h1 a ha rfl⟩) (fun a b ha hb h0 hr hb8 => by
      obtain ⟨k, hk, h1, h2⟩ := h0 ha
      refine ⟨k, hk, h1, fun C h3 h4 => h2 C (fun q hq e => ?_) h4⟩
      subst e
      exact h4 b q hb hq (h3 b hb rfl) ((hR q b hq hb).mp hr))
    exact this hg
  · rintro ⟨k, hk, h1, h2⟩ C hA hC
    apply Classical.byContradiction
    intro hn
    have h3 := h2 (fun a => ¬ C a) (fun a _ e => by rw [e]; exact hn) (fun a b ha hb h4 hr h5 => h4 (hC b a hb ha h5 ((hR b a hb ha).mpr hr)))
    exact h3 (hA k hk h1)
theorem cl_last {R : Nat → Nat → Prop} {g h : Nat} (hg : g < 8) (hh : h < 8) (hne : h ≠ g) : Cl R (fun a => a = g) h ↔ ∃ k, k < 8 ∧ Cl R (fun a => a = g) k ∧ R k h := by
  constructor
  · intro h0
    have := h0 (fun b => b = g ∨ (b < 8 ∧ ∃ k, k < 8 ∧ Cl R (fun a => a = g) k ∧ R k b)) (fun a _ e => Or.inl e) (fun a b ha hb h1 hr => by
      right
      refine ⟨hb, a, ha, ?_, hr⟩
      rcases h1 with h1 | ⟨-, k, hk, h2, h3⟩
      · intro C h4 _; exact h4 a ha h1
      · intro C h4 h5; exact h5 k a hk ha (h2 C h4 h5) h3)
    rcases this with h1 | ⟨-, h1⟩
    · exact absurd h1 hne
    · exact h1
  · rintro ⟨k, hk, h1, h2⟩ C h3 h4
    exact h4 k h hk hh (h1 C h3 h4) h2
/-- the class's rounds -/
theorem one_bt (S : Nat → Nat → Int32) (x : Int32) (n : Nat) (hn : n ≤ 8) (j : Nat) : bt (c_oneA S x n) j = true ↔ bt x j = true ∨ ∃ h, h < n ∧ bt x h = true ∧ bt (S 8 h) j = true := by
  induction n with
  | zero => exact ⟨fun h => Or.inl h, fun h => h.elim id (fun ⟨h, h1, _⟩ => absurd h1 (by omega))⟩
  | succ n ih =>
    have ih := ih (by omega)
    rw [c_oneA, hasB_bt (by omega)]
    by_cases hb : bt x n = true
    · rw [if_pos hb, bt_or, Bool.or_eq_true, ih]
      constructor
      · rintro ((h | ⟨h, h1, h2⟩) | h)
        · exact Or.inl h
        · exact Or.inr ⟨h, by omega, h2⟩
        · exact Or.inr ⟨n, by omega, hb, h⟩
      · rintro (h | ⟨h, h1, h2, h3⟩)
        · exact Or.inl (Or.inl h)
        · by_cases e : h = n
          · subst e; exact Or.inr h3
          · exact Or.inl (Or.inr ⟨h, by omega, h2, h3⟩)
    · rw [if_neg hb, ih]
      constructor
      · rintro (h | ⟨h, h1, h2⟩)
        · exact Or.inl h
        · exact Or.inr ⟨h, by omega, h2⟩
      · rintro (h | ⟨h, h1, h2, h3⟩)
        · exact Or.inl h
        · refine Or.inr ⟨h, ?_, h2, h3⟩
          rcases Nat.lt_or_ge h n with h4 | h4
          · exact h4
          · rw [show h = n by omega] at h2; exact absurd h2 hb
theorem all_cl (S : Nat → Nat → Int32) (x : Int32) {b : Nat} (hb : b < 8) : bt (c_allA S x 8) b = true ↔ Cl (fun a b => bt (S 8 a) b = true) (fun a => bt x a = true) b := by
  refine cl_rounds7 (fun i => c_allA S x (i + 1)) _ (fun i j _ h => ?_) (fun i a b ha _ h hr => ?_) (fun i C hA hC b hb h => ?_) b hb
  · exact (one_bt S _ 8 (Nat.le_refl _) j).mpr (Or.inl h)
  · exact (one_bt S _ 8 (Nat.le_refl _) b).mpr (Or.inr ⟨a, ha, h, hr⟩)
  · rcases (one_bt S _ 8 (Nat.le_refl _) b).mp h with h | ⟨q, hq, h1, h2⟩
    · exact hA b hb h
    · exact hC q b hq hb (hA q hq h1) h2
/-- the reference's rounds -/
theorem wi_ge (T : Nat → Nat → Int32) (w : Int32) (n d j : Nat) (h : bt (m_wiA T w n) j = true) : bt (m_wiA T w (n + d)) j = true := by
  induction d with
  | zero => exact h
  | succ d ih =>
    show bt (m_wiA T w (n + d + 1)) j = true
    rw [m_wiA]
    split
    · rw [bt_or, ih]; rfl
    · rw [bt_or, ih]; rfl
theorem wi_step (T : Nat → Nat → Int32) (w : Int32) {a j : Nat} (ha : a < 8) (h : bt w a = true) (h2 : bt (T 2 a) j = true) : bt (m_wiA T w 8) j = true := by
  have h0 : bt (m_wiA T w a) a = true := by
    have := wi_ge T w 0 a a h
    rwa [Nat.zero_add] at this
  have h1 : bt (m_wiA T w (a + 1)) j = true := by
    rw [m_wiA, hasB_bt (by omega), if_pos h0, bt_or, h2, Bool.or_true]
  have h3 := wi_ge T w (a + 1) (7 - a) j h1
  rwa [show a + 1 + (7 - a) = 8 by omega] at h3
theorem wi_in (T : Nat → Nat → Int32) (w : Int32) (C : Nat → Prop) (hA : ∀ a, a < 8 → bt w a = true → C a) (hC : ∀ a b, a < 8 → b < 8 → C a → bt (T 2 a) b = true → C b) (n : Nat) (hn : n ≤ 8) : ∀ b, b < 8 → bt (m_wiA T w n) b = true → C b := by
  induction n with
  | zero => exact hA
  | succ n ih =>
    intro b hb h
    have ih := ih (by omega)
    rw [m_wiA, hasB_bt (by omega)] at h
    by_cases hg : bt (m_wiA T w n) n = true
    · rw [if_pos hg, bt_or, Bool.or_eq_true] at h
      rcases h with h | h
      · exact ih b hb h
      · exact hC n b (by omega) hb (ih n (by omega) hg) h
    · rw [if_neg hg, bt_or, bt_0, Bool.or_false] at h
      exact ih b hb h
theorem wr_cl (T : Nat → Nat → Int32) {g b : Nat} (hg : g < 8) (hb : b < 8) : bt (m_wr T (nI g) 8) b = true ↔ Cl (fun a b => bt (T 2 a) b = true) (fun a => a = g) b := by
  have h := cl_rounds (fun i => m_wr T (nI g) i) (fun a b => bt (T 2 a) b = true) (fun i j _ h => by
    have := wi_ge T (m_wr T (nI g) i) 0 8 j h
    rwa [Nat.zero_add] at this) (fun i a b ha _ h hr => wi_step T _ ha h hr) (fun i C hA hC b hb h => wi_in T _ C hA hC 8 (Nat.le_refl _) b hb h) b hb
  rw [h]
  have e : (fun a => bt (m_wr T (nI g) 0) a = true) = (fun a => a = g) := by
    funext a
    rw [m_wr, bt_one (by omega)]
    exact propext (by simp)
  rw [e]
