/-! ===== what the class's public methods work out ===== -/
theorem c_outN {x n : Int32} (N : Nat) (h : c_out x n = false) (hn : n.toInt = N) : ∃ j : Nat, j < N ∧ x = nI j := by
  simp only [c_out, Bool.or_eq_false_iff, decide_eq_false_iff_not, Bool.not_eq_false', decide_eq_true_eq] at h
  obtain ⟨h1, h2⟩ := h
  have h3 : vp_in x N := by
    rw [vp_in_iff]
    rw [Int32.lt_iff_toInt_lt, Int32.toInt_zero] at h1
    rw [Int32.lt_iff_toInt_lt] at h2
    omega
  have := Int32.toInt_lt n
  exact vp_in_of h3 (by omega)
theorem c_out8 {x : Int32} (h : c_out x 8 = false) : ∃ j : Nat, j < 8 ∧ x = nI j := c_outN 8 h (by decide)
theorem c_out10 {x : Int32} (h : c_out x 10 = false) : ∃ j : Nat, j < 10 ∧ x = nI j := c_outN 10 h (by decide)
theorem c_out6 {x : Int32} (h : c_out x 6 = false) : ∃ j : Nat, j < 6 ∧ x = nI j := c_outN 6 h (by decide)
theorem c_out4 {x : Int32} (h : c_out x 4 = false) : ∃ j : Nat, j < 4 ∧ x = nI j := c_outN 4 h (by decide)
theorem c_hasN {V : Nat → Int32} {x : Int32} {n : Nat} (h : c_has V x = true) (hv : V 1 = nI n) (hn : n ≤ 30) : ∃ j : Nat, j < n ∧ x = nI j := by
  simp only [c_has, Bool.and_eq_true, Bool.not_eq_true', decide_eq_false_iff_not] at h
  obtain ⟨h1, h2⟩ := h
  rw [hv] at h2
  have h3 : vp_in x n := by
    rw [vp_in_iff]
    rw [Int32.lt_iff_toInt_lt, Int32.toInt_zero] at h1
    rw [Int32.le_iff_toInt_le, nI_toInt (by omega)] at h2
    omega
  exact vp_in_of h3 (by omega)
def c_spK (x y : Int32) : Int32 := if c_out x 8 = true then 1 else if c_out y 10 = true then 1 else 0
def c_sgK (S : Nat → Nat → Int32) (x y : Int32) (b : Bool) : Int32 := if c_out x 8 = true then 1 else if c_out y 8 = true then 1 else if x = y then 1 else if b = true then (if hasB (c_allA S (S 8 (ix x)) 8) (nI (ix y)) = true then 2 else 0) else 0
def c_srK (x y z : Int32) : Int32 := if c_out x 8 = true then 1 else if c_out y 6 = true then 1 else if z < 0 then 1 else if z ≤ 2 then 0 else 1
def c_riK (x y : Int32) : Int32 := if c_out x 10 = true then 1 else if y < 0 then 1 else if y ≤ 3 then 0 else 1
def c_alK (x y : Int32) : Int32 := if c_out x 10 = true then 1 else if c_out y 6 = true then 1 else 0
def c_opK (S : Nat → Nat → Int32) (V : Nat → Int32) (x : Int32) : Int32 := if c_out x 10 = true then 1 else if S 5 (ix x) = 3 then 2 else if V 1 < 30 then 0 else 2
def c_clK (O : Nat → Bool) (V : Nat → Int32) (x : Int32) : Int32 := if c_has V x = true then (if O (ix x) = true then 2 else 0) else 1
def c_goK (V : Nat → Int32) (x : Int32) : Int32 := if c_has V x = true then 0 else 1
def c_ckK (x : Int32) : Int32 := if x < 0 then 1 else if x ≤ 300 then 0 else 1
def c_itK (V : Nat → Int32) (x : Int32) : Int32 := if x < 0 then 1 else if x ≤ V 2 then 0 else 1
def c_paK (x : Int32) : Int32 := if x < 1 then 1 else if x ≤ 300 then 0 else 1
def c_bgK (S : Nat → Nat → Int32) (x y z w : Int32) : Int32 := if c_out x 10 = true then 1 else if c_out y 6 = true then 1 else if c_out z 10 = true then 1 else if c_out w 10 = true then 1 else if x = z then 1 else if x = w then 1 else if z = w then 1 else if c_serves S (ix z) (ix y) = true then (if c_serves S (ix w) (ix y) = true then 0 else 2) else 2
def c_scK (x y : Int32) : Int32 := if c_out x 4 = true then 1 else if y < 0 then 1 else if y ≤ 60 then 0 else 1
def c_deK (V : Nat → Int32) (x y z : Int32) : Int32 := if c_out x 4 = true then 1 else if c_out z 6 = true then 1 else if c_has V y = true then 0 else 2
def c_foK (x y : Int32) : Int32 := if c_out x 4 = true then 1 else if c_out y 10 = true then 1 else 0
def c_stK (x : Int32) : Int32 := if c_out x 4 = true then 1 else 0
def c_riS (S : Nat → Nat → Int32) (x y : Int32) : Nat → Nat → Int32 := va_up S 5 (upd (S 5) (ix x) y)
def c_ckV (V : Nat → Int32) (x : Int32) : Nat → Int32 := va_up (va_up V 2 (V 2 + 1)) 3 (V 0 + x)
def c_paV (V : Nat → Int32) (x : Int32) : Nat → Int32 := va_up V 0 (V 0 + x)
def c_scS (S : Nat → Nat → Int32) (V : Nat → Int32) (ai : Nat) (y : Int32) : Nat → Nat → Int32 := c_ddS (va_up S 16 (upd (S 16) ai y)) ai (V 0) 60
def c_deS1 (S : Nat → Nat → Int32) (V : Nat → Int32) (si : Nat) : Nat → Nat → Int32 := va_up S 14 (upd (S 14) si (V 0))
def c_stI (S : Nat → Nat → Int32) (V : Nat → Int32) (ai : Nat) (c0 : Int32) (pi : Nat) : Nat → Int32
  | 0 => c0
  | k + 1 => if c_stale1 S V ai pi k = true then c_stI S V ai c0 pi k + 1 else c_stI S V ai c0 pi k
def c_stO (S : Nat → Nat → Int32) (V : Nat → Int32) (ai : Nat) : Nat → Int32
  | 0 => 0
  | k + 1 => c_stI S V ai (c_stO S V ai k) k 6
theorem c_ddS_ne (S : Nat → Nat → Int32) (ai : Nat) (t : Int32) (k w : Nat) (h : w ≠ 17) : c_ddS S ai t k w = S w := by
  induction k with
  | zero => rfl
  | succ k ih =>
    rw [c_ddS]
    split
    · exact ih
    · simp only [va_up, if_neg h]; exact ih
theorem c_doS_ne (S : Nat → Nat → Int32) (t : Int32) (k w : Nat) (h : w ≠ 17) : c_doS S t k w = S w := by
  induction k with
  | zero => rfl
  | succ k ih => rw [c_doS, c_ddS_ne _ _ _ _ _ h, ih]
theorem c_out_lt {j n : Nat} (h : j < n) (hn : n < 2 ^ 31) : c_out (nI j) (nI n) = false := by
  rw [c_out, decide_eq_false (nI_pos (by omega)), decide_eq_true (nI_lt h hn)]; rfl
theorem c_has_lt {V : Nat → Int32} {n0 si : Nat} (hct : V 1 = nI n0) (hn0 : n0 ≤ 30) (hsn : si < n0) : c_has V (nI si) = true := by
  rw [c_has, hct, decide_eq_false (nI_pos (by omega)), decide_eq_false (nI_ge hsn (by omega))]; rfl
