/-! ===== what the reference's methods work out, in numbers ===== -/
def m_in (v a b : Int32) : Bool := !decide (v < a) && !decide (b < v)
theorem m_inN {x : Int32} {b : Int32} (N : Nat) (h : m_in x 0 b = true) (hb : b.toInt + 1 = N) : ∃ j : Nat, j < N ∧ x = nI j := by
  simp only [m_in, Bool.and_eq_true, Bool.not_eq_true', decide_eq_false_iff_not] at h
  obtain ⟨h1, h2⟩ := h
  have h3 : vp_in x N := by
    rw [vp_in_iff]
    rw [Int32.lt_iff_toInt_lt, Int32.toInt_zero] at h1
    rw [Int32.lt_iff_toInt_lt] at h2
    omega
  have hN : N < 2 ^ 31 + 1 := by
    have := Int32.toInt_lt b
    omega
  rcases Nat.lt_or_ge N (2 ^ 31) with hl | hl
  · exact vp_in_of h3 hl
  · refine ⟨x.toInt.toNat, ?_, ?_⟩
    · rw [vp_in_iff] at h3; omega
    · rw [vp_in_iff] at h3
      apply Int32.toInt_inj.mp
      have := Int32.toInt_lt x
      rw [nI_toInt (by omega)]; omega
theorem m_in9 {x : Int32} (h : m_in x 0 9 = true) : ∃ j : Nat, j < 10 ∧ x = nI j := m_inN 10 h (by decide)
theorem m_in7 {x : Int32} (h : m_in x 0 7 = true) : ∃ j : Nat, j < 8 ∧ x = nI j := m_inN 8 h (by decide)
theorem m_in5 {x : Int32} (h : m_in x 0 5 = true) : ∃ j : Nat, j < 6 ∧ x = nI j := m_inN 6 h (by decide)
theorem m_in3 {x : Int32} (h : m_in x 0 3 = true) : ∃ j : Nat, j < 4 ∧ x = nI j := m_inN 4 h (by decide)
theorem m_inC {x v : Int32} {n : Nat} (h : m_in x 0 (v - 1) = true) (hv : v = nI n) (hn : n ≤ 30) : ∃ j : Nat, j < n ∧ x = nI j := by
  subst hv
  rcases Nat.eq_zero_or_pos n with h0 | h0
  · subst h0
    simp only [m_in, Bool.and_eq_true, Bool.not_eq_true', decide_eq_false_iff_not] at h
    obtain ⟨h1, h2⟩ := h
    rw [Int32.lt_iff_toInt_lt, Int32.toInt_zero] at h1
    rw [Int32.lt_iff_toInt_lt, show (nI 0 - 1 : Int32).toInt = -1 by decide] at h2
    omega
  · refine m_inN n h ?_
    obtain ⟨m, rfl⟩ : ∃ m, n = m + 1 := ⟨n - 1, by omega⟩
    rw [nI_pred, nI_toInt (by omega)]
    rfl
abbrev ix (x : Int32) : Nat := x.toNatClampNeg
theorem ix_of {x : Int32} {j : Nat} (h : x = nI j) (hj : j < 2 ^ 31) : ix x = j := by rw [h]; exact nI_clamp hj
def m_wiA (S : Nat → Nat → Int32) (w : Int32) : Nat → Int32
  | 0 => w
  | k + 1 => if hasB (m_wiA S w k) (nI k) = true then m_wiA S w k ||| S 2 k else m_wiA S w k ||| 0
def m_wr (S : Nat → Nat → Int32) (x : Int32) : Nat → Int32
  | 0 => 1 <<< (x &&& 31)
  | k + 1 => m_wiA S (m_wr S x k) 8
def m_be (S : Nat → Nat → Int32) (x y : Int32) : Nat → Bool
  | 0 => false
  | k + 1 => m_be S x y k || (hasB (m_wr S x 8) (nI k) && hasB (S 1 k) y)
def m_fi (S : Nat → Nat → Int32) (x : Int32) (ri : Nat) (w : Int32) : Nat → Bool
  | 0 => false
  | k + 1 => m_fi S x ri w k || (decide (S 3 (6 * k + ri) = w) && m_be S (nI k) x 8)
def m_lets (S : Nat → Nat → Int32) (V : Nat → Int32) (pi ri : Nat) : Bool := !decide (3 ≤ S 4 pi) && ((m_fi S (nI pi) ri 1 8 && !m_fi S (nI pi) ri 2 8) || !decide (S 5 (6 * pi + ri) ≤ V 1))
def m_isKey (V : Nat → Int32) (x : Int32) : Bool := decide (x = V 3) || (decide (x = V 3 - 1) && !decide (V 4 ≤ V 1))
def m_ends (S : Nat → Nat → Int32) (V : Nat → Int32) (si : Nat) : Bool := decide (30 ≤ V 1 - S 9 si) || (decide (240 - 60 * S 4 (S 6 si).toNatClampNeg ≤ V 1 - S 8 si) || !m_isKey V (S 7 si))
def m_swO (S : Nat → Nat → Int32) (O : Nat → Bool) (V : Nat → Int32) : Nat → (Nat → Bool)
  | 0 => O
  | k + 1 => va_up (m_swO S O V k) k (m_swO S O V k k || m_ends S V k)
def m_swN (S : Nat → Nat → Int32) (O : Nat → Bool) (V : Nat → Int32) : Nat → Int32
  | 0 => 0
  | k + 1 => m_swN S O V k + (if m_swO S O V k k = true then 0 else if m_ends S V k = true then 1 else 0)
def m_srG (S : Nat → Nat → Int32) (x y : Int32) (k : Nat) : Bool := !decide (y ≤ S 4 (ix x)) && decide (S 6 k = x)
def m_srO (S : Nat → Nat → Int32) (O : Nat → Bool) (x y : Int32) : Nat → (Nat → Bool)
  | 0 => O
  | k + 1 => va_up (m_srO S O x y k) k (m_srO S O x y k k || m_srG S x y k)
def m_srN (S : Nat → Nat → Int32) (O : Nat → Bool) (x y : Int32) : Nat → Int32
  | 0 => 0
  | k + 1 => m_srN S O x y k + (if m_srO S O x y k k = true then 0 else if m_srG S x y k = true then 1 else 0)
def m_spOk (x y : Int32) : Bool := m_in x 0 7 && m_in y 0 9
def m_set1 (S : Nat → Nat → Int32) (w g : Nat) (y : Int32) (b : Bool) : Nat → Nat → Int32 := va_up S w (upd (S w) g (c_changed (S w g) y b))
def m_sgK (S : Nat → Nat → Int32) (x y : Int32) (b : Bool) : Int32 := if (m_in x 0 7 && (m_in y 0 7 && !decide (x = y))) = true then (if b = true then (if hasB (m_wr S y 8) x = true then 2 else 0) else 0) else 1
def m_srOk (x y z : Int32) : Bool := m_in x 0 7 && (m_in y 0 5 && m_in z 0 2)
def m_riOk (x y : Int32) : Bool := m_in x 0 9 && m_in y 0 3
def m_opK (S : Nat → Nat → Int32) (V : Nat → Int32) (x : Int32) : Int32 := if m_in x 0 9 = true then (if S 4 (ix x) = 3 then 2 else if V 2 = 30 then 2 else 0) else 1
def m_clK (O : Nat → Bool) (V : Nat → Int32) (x : Int32) : Int32 := if m_in x 0 (V 2 - 1) = true then (if O (ix x) = true then 2 else 0) else 1
def m_ckV (V : Nat → Int32) (x : Int32) : Nat → Int32 := va_up (va_up (va_up V 0 0) 3 (V 3 + 1)) 4 (V 1 + x)
def m_paV (V : Nat → Int32) (x : Int32) : Nat → Int32 := va_up (va_up V 0 0) 1 (V 1 + x)
def m_serves (S : Nat → Nat → Int32) (pi ri : Nat) : Bool := !decide (3 ≤ S 4 pi) && m_fi S (nI pi) ri 1 8
def m_bgOk (x y z w : Int32) : Bool := m_in x 0 9 && (m_in y 0 5 && (m_in z 0 9 && (m_in w 0 9 && (!decide (x = z) && (!decide (x = w) && !decide (z = w))))))
def m_bgK (S : Nat → Nat → Int32) (x y z w : Int32) : Int32 := if m_bgOk x y z w = true then (if (m_serves S (ix z) (ix y) && m_serves S (ix w) (ix y)) = true then 0 else 2) else 1
def m_keeps (S : Nat → Nat → Int32) (V : Nat → Int32) (ai ti : Nat) : Bool := !decide (S 12 ti = -1) && !decide (S 11 ai ≤ V 1 - S 12 ti / 2)
def m_drS (S : Nat → Nat → Int32) (V : Nat → Int32) (ai : Nat) : Nat → (Nat → Nat → Int32)
  | 0 => S
  | k + 1 => va_up (m_drS S V ai k) 12 (upd (m_drS S V ai k 12) (60 * ai + k) (if m_keeps (m_drS S V ai k) V ai (60 * ai + k) = true then m_drS S V ai k 12 (60 * ai + k) else -1))
def m_scOk (x y : Int32) : Bool := m_in x 0 3 && m_in y 0 60
def m_scS (S : Nat → Nat → Int32) (V : Nat → Int32) (ai : Nat) (y : Int32) : Nat → Nat → Int32 := m_drS (va_up (m_drS S V ai 60) 11 (upd (m_drS S V ai 60 11) ai y)) V ai 60
def m_deK (V : Nat → Int32) (x y z : Int32) : Int32 := if (m_in x 0 3 && m_in z 0 5) = true then (if m_in y 0 (V 2 - 1) = true then 0 else 2) else 1
def m_deAt (S : Nat → Nat → Int32) (ai si ri : Nat) : Nat := 60 * ai + 6 * ix (S 6 si) + ri
def m_deS1 (S : Nat → Nat → Int32) (V : Nat → Int32) (si : Nat) : Nat → Nat → Int32 := va_up S 9 (upd (S 9) si (V 1))
def m_deS (S : Nat → Nat → Int32) (V : Nat → Int32) (ai si ri : Nat) : Nat → Nat → Int32 := if m_keeps (m_deS1 S V si) V ai (m_deAt S ai si ri) = true then m_deS1 S V si else va_up (m_deS1 S V si) 12 (upd (S 12) (m_deAt S ai si ri) (2 * V 1 + (if m_lets (m_deS1 S V si) V (ix (S 6 si)) ri = true then 1 else 0)))
def m_deR (S : Nat → Nat → Int32) (V : Nat → Int32) (ai si ri : Nat) : Int32 := 1 - (m_deS S V ai si ri 12 (m_deAt S ai si ri) - m_deS S V ai si ri 12 (m_deAt S ai si ri) / 2 * 2)
def m_foS (S : Nat → Nat → Int32) (ai pi : Nat) : Nat → (Nat → Nat → Int32)
  | 0 => S
  | k + 1 => va_up (m_foS S ai pi k) 12 (upd (m_foS S ai pi k 12) (60 * ai + 6 * pi + k) (-1))
def m_foN (S : Nat → Nat → Int32) (V : Nat → Int32) (ai pi : Nat) : Nat → Int32
  | 0 => 0
  | k + 1 => m_foN S V ai pi k + (if m_keeps (m_foS S ai pi k) V ai (60 * ai + 6 * pi + k) = true then 1 else 0)
def m_foOk (x y : Int32) : Bool := m_in x 0 3 && m_in y 0 9
def m_st1 (S : Nat → Nat → Int32) (V : Nat → Int32) (ai k : Nat) : Bool := m_keeps S V ai (60 * ai + k) && !decide (bi (decide (S 12 (60 * ai + k) - S 12 (60 * ai + k) / 2 * 2 = 1)) = bi (m_lets S V (k / 6) (k % 6)))
def m_stN (S : Nat → Nat → Int32) (V : Nat → Int32) (ai : Nat) : Nat → Int32
  | 0 => 0
  | k + 1 => m_stN S V ai k + (if m_st1 S V ai k = true then 1 else 0)
