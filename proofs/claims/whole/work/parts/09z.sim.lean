theorem q_now {k : Nat} {S : Nat → Nat → Int32} {O : Nat → Bool} {V : Nat → Int32} {T : Nat → Nat → Int32} {P : Nat → Bool} {U : Nat → Int32} (hR : Rel k S O V T P U) : V 0 = U 1 ∧ Rel (k + 1) S O V T P (va_up U 0 0) := by
  sorry

theorem q_setPerson {k : Nat} {S : Nat → Nat → Int32} {O : Nat → Bool} {V : Nat → Int32} {T : Nat → Nat → Int32} {P : Nat → Bool} {U : Nat → Int32} (hR : Rel k S O V T P U) (hk5 : k < 512) {n0 : Nat} (hn0 : n0 ≤ 30) (hct : V 1 = nI n0) (hctm : U 2 = nI n0) (hpe : ∀ j : Nat, j < n0 → vp_in (S 11 j) 10) (hpem : ∀ j : Nat, j < n0 → vp_in (T 6 j) 10) (x0 : Int32) (x1 : Int32) (b0 : Bool) :
    (va_up U 0 (if m_spOk x0 x1 = true then 0 else 1)) 0 = c_spK x0 x1 ∧ (c_spK x0 x1 = 0 → (hasB (S 7 (ix x1)) (nI (ix x0))) = (m_spOk x0 x1 && hasB (T 1 (ix x0)) x1)) ∧ Rel (k + 1) (if c_spK x0 x1 = 0 then va_up S 7 (upd (S 7) (ix x1) (c_changed (S 7 (ix x1)) (nI (ix x0)) b0)) else S) O V (if m_spOk x0 x1 = true then m_set1 T 1 (ix x0) x1 b0 else T) P (va_up U 0 (if m_spOk x0 x1 = true then 0 else 1)) := by
  sorry

theorem q_setGroup {k : Nat} {S : Nat → Nat → Int32} {O : Nat → Bool} {V : Nat → Int32} {T : Nat → Nat → Int32} {P : Nat → Bool} {U : Nat → Int32} (hR : Rel k S O V T P U) (hk5 : k < 512) {n0 : Nat} (hn0 : n0 ≤ 30) (hct : V 1 = nI n0) (hctm : U 2 = nI n0) (hpe : ∀ j : Nat, j < n0 → vp_in (S 11 j) 10) (hpem : ∀ j : Nat, j < n0 → vp_in (T 6 j) 10) (x0 : Int32) (x1 : Int32) (b0 : Bool) :
    (va_up U 0 (m_sgK T x0 x1 b0)) 0 = c_sgK S x0 x1 b0 ∧ (c_sgK S x0 x1 b0 = 0 → (hasB (S 8 (ix x1)) (nI (ix x0))) = (decide (m_sgK T x0 x1 b0 = 0) && hasB (T 2 (ix x0)) x1)) ∧ Rel (k + 1) (if c_sgK S x0 x1 b0 = 0 then va_up S 8 (upd (S 8) (ix x1) (c_changed (S 8 (ix x1)) (nI (ix x0)) b0)) else S) O V (if m_sgK T x0 x1 b0 = 0 then m_set1 T 2 (ix x0) x1 b0 else T) P (va_up U 0 (m_sgK T x0 x1 b0)) := by
  sorry

theorem q_setRole {k : Nat} {S : Nat → Nat → Int32} {O : Nat → Bool} {V : Nat → Int32} {T : Nat → Nat → Int32} {P : Nat → Bool} {U : Nat → Int32} (hR : Rel k S O V T P U) (hk5 : k < 512) {n0 : Nat} (hn0 : n0 ≤ 30) (hct : V 1 = nI n0) (hctm : U 2 = nI n0) (hpe : ∀ j : Nat, j < n0 → vp_in (S 11 j) 10) (hpem : ∀ j : Nat, j < n0 → vp_in (T 6 j) 10) (x0 : Int32) (x1 : Int32) (x2 : Int32) :
    (va_up U 0 (if m_srOk x0 x1 x2 = true then 0 else 1)) 0 = c_srK x0 x1 x2 ∧ (c_srK x0 x1 x2 = 0 → (c_roleOf S (ix x0) (ix x1)) = (if m_srOk x0 x1 x2 = true then T 3 (6 * ix x0 + ix x1) else 0)) ∧ Rel (k + 1) (if c_srK x0 x1 x2 = 0 then va_up (va_up S 9 (upd (S 9) (ix x1) (c_changed (S 9 (ix x1)) (nI (ix x0)) (decide (x2 = 1))))) 10 (upd (S 10) (ix x1) (c_changed (S 10 (ix x1)) (nI (ix x0)) (decide (x2 = 2)))) else S) O V (if m_srOk x0 x1 x2 = true then va_up T 3 (upd (T 3) (6 * ix x0 + ix x1) x2) else T) P (va_up U 0 (if m_srOk x0 x1 x2 = true then 0 else 1)) := by
  sorry

theorem q_setRisk {k : Nat} {S : Nat → Nat → Int32} {O : Nat → Bool} {V : Nat → Int32} {T : Nat → Nat → Int32} {P : Nat → Bool} {U : Nat → Int32} (hR : Rel k S O V T P U) (hk5 : k < 512) {n0 : Nat} (hn0 : n0 ≤ 30) (hct : V 1 = nI n0) (hctm : U 2 = nI n0) (hpe : ∀ j : Nat, j < n0 → vp_in (S 11 j) 10) (hpem : ∀ j : Nat, j < n0 → vp_in (T 6 j) 10) (x0 : Int32) (x1 : Int32) :
    (va_up U 0 (if m_riOk x0 x1 = true then 0 else 1)) 0 = c_riK x0 x1 ∧ (c_riK x0 x1 = 0 → (if x1 ≤ S 5 (ix x0) then 0 else c_eaN (c_riS S x0 x1) O (nI (ix x0)) n0) = (if m_riOk x0 x1 = true then m_srN T P x0 x1 n0 else 0)) ∧ Rel (k + 1) (if c_riK x0 x1 = 0 then c_riS S x0 x1 else S) (if c_riK x0 x1 = 0 then if x1 ≤ S 5 (ix x0) then O else c_eaO (c_riS S x0 x1) O (nI (ix x0)) n0 else O) V (if m_riOk x0 x1 = true then va_up T 4 (upd (T 4) (ix x0) x1) else T) (if m_riOk x0 x1 = true then m_srO T P x0 x1 n0 else P) (va_up U 0 (if m_riOk x0 x1 = true then 0 else 1)) := by
  sorry

theorem q_isIn {k : Nat} {S : Nat → Nat → Int32} {O : Nat → Bool} {V : Nat → Int32} {T : Nat → Nat → Int32} {P : Nat → Bool} {U : Nat → Int32} (hR : Rel k S O V T P U) (hk5 : k < 512) {n0 : Nat} (hn0 : n0 ≤ 30) (hct : V 1 = nI n0) (hctm : U 2 = nI n0) (hpe : ∀ j : Nat, j < n0 → vp_in (S 11 j) 10) (hpem : ∀ j : Nat, j < n0 → vp_in (T 6 j) 10) (x0 : Int32) (x1 : Int32) :
    (va_up U 0 (if m_spOk x0 x1 = true then 0 else 1)) 0 = c_spK x0 x1 ∧ (c_spK x0 x1 = 0 → (hasB (c_allA S (S 7 (ix x1)) 8) (nI (ix x0))) = (m_spOk x0 x1 && m_be T x0 x1 8)) ∧ Rel (k + 1) S O V T P (va_up U 0 (if m_spOk x0 x1 = true then 0 else 1)) := by
  sorry

theorem q_allows {k : Nat} {S : Nat → Nat → Int32} {O : Nat → Bool} {V : Nat → Int32} {T : Nat → Nat → Int32} {P : Nat → Bool} {U : Nat → Int32} (hR : Rel k S O V T P U) (hk5 : k < 512) {n0 : Nat} (hn0 : n0 ≤ 30) (hct : V 1 = nI n0) (hctm : U 2 = nI n0) (hpe : ∀ j : Nat, j < n0 → vp_in (S 11 j) 10) (hpem : ∀ j : Nat, j < n0 → vp_in (T 6 j) 10) (x0 : Int32) (x1 : Int32) :
    (va_up U 0 (if (m_in x0 0 9 && m_in x1 0 5) = true then 0 else 1)) 0 = c_alK x0 x1 ∧ (c_alK x0 x1 = 0 → (decide (c_house S V (ix x0) (ix x1) = 0)) = (m_in x0 0 9 && (m_in x1 0 5 && m_lets T U (ix x0) (ix x1)))) ∧ Rel (k + 1) S O V T P (va_up U 0 (if (m_in x0 0 9 && m_in x1 0 5) = true then 0 else 1)) := by
  sorry

theorem q_open {k : Nat} {S : Nat → Nat → Int32} {O : Nat → Bool} {V : Nat → Int32} {T : Nat → Nat → Int32} {P : Nat → Bool} {U : Nat → Int32} (hR : Rel k S O V T P U) (hk5 : k < 512) {n0 : Nat} (hn0 : n0 ≤ 30) (hct : V 1 = nI n0) (hctm : U 2 = nI n0) (hpe : ∀ j : Nat, j < n0 → vp_in (S 11 j) 10) (hpem : ∀ j : Nat, j < n0 → vp_in (T 6 j) 10) (x0 : Int32) :
    (if m_opK T U x0 = 0 then va_up (va_up U 0 0) 2 (U 2 + 1) else va_up U 0 (m_opK T U x0)) 0 = c_opK S V x0 ∧ (c_opK S V x0 = 0 → (nI n0) = (if m_opK T U x0 = 0 then U 2 + 1 - 1 else 0)) ∧ Rel (k + 1) (if c_opK S V x0 = 0 then va_up (va_up (va_up (va_up S 11 (upd (S 11) n0 x0)) 12 (upd (S 12) n0 (V 2))) 13 (upd (S 13) n0 (V 0))) 14 (upd (S 14) n0 (V 0)) else S) O (if c_opK S V x0 = 0 then va_up V 1 (V 1 + 1) else V) (if m_opK T U x0 = 0 then va_up (va_up (va_up (va_up T 6 (upd (T 6) n0 x0)) 7 (upd (T 7) n0 (U 3))) 8 (upd (T 8) n0 (U 1))) 9 (upd (T 9) n0 (U 1)) else T) P (if m_opK T U x0 = 0 then va_up (va_up U 0 0) 2 (U 2 + 1) else va_up U 0 (m_opK T U x0)) := by
  sorry

theorem q_close {k : Nat} {S : Nat → Nat → Int32} {O : Nat → Bool} {V : Nat → Int32} {T : Nat → Nat → Int32} {P : Nat → Bool} {U : Nat → Int32} (hR : Rel k S O V T P U) (hk5 : k < 512) {n0 : Nat} (hn0 : n0 ≤ 30) (hct : V 1 = nI n0) (hctm : U 2 = nI n0) (hpe : ∀ j : Nat, j < n0 → vp_in (S 11 j) 10) (hpem : ∀ j : Nat, j < n0 → vp_in (T 6 j) 10) (x0 : Int32) :
    (va_up U 0 (m_clK P U x0)) 0 = c_clK O V x0 ∧ (c_clK O V x0 = 0 → (V 0 - S 13 (ix x0)) = (if m_clK P U x0 = 0 then U 1 - T 8 (ix x0) else 0)) ∧ Rel (k + 1) S (if c_clK O V x0 = 0 then va_up O (ix x0) true else O) V T (if m_clK P U x0 = 0 then va_up P (ix x0) true else P) (va_up U 0 (m_clK P U x0)) := by
  sorry

theorem q_goesOn {k : Nat} {S : Nat → Nat → Int32} {O : Nat → Bool} {V : Nat → Int32} {T : Nat → Nat → Int32} {P : Nat → Bool} {U : Nat → Int32} (hR : Rel k S O V T P U) (hk5 : k < 512) {n0 : Nat} (hn0 : n0 ≤ 30) (hct : V 1 = nI n0) (hctm : U 2 = nI n0) (hpe : ∀ j : Nat, j < n0 → vp_in (S 11 j) 10) (hpem : ∀ j : Nat, j < n0 → vp_in (T 6 j) 10) (x0 : Int32) :
    (va_up U 0 (if m_in x0 0 (U 2 - 1) = true then 0 else 1)) 0 = c_goK V x0 ∧ (c_goK V x0 = 0 → (!O (ix x0)) = (m_in x0 0 (U 2 - 1) && !P (ix x0))) ∧ Rel (k + 1) S O V T P (va_up U 0 (if m_in x0 0 (U 2 - 1) = true then 0 else 1)) := by
  sorry

theorem q_changeKeys {k : Nat} {S : Nat → Nat → Int32} {O : Nat → Bool} {V : Nat → Int32} {T : Nat → Nat → Int32} {P : Nat → Bool} {U : Nat → Int32} (hR : Rel k S O V T P U) (hk5 : k < 512) {n0 : Nat} (hn0 : n0 ≤ 30) (hct : V 1 = nI n0) (hctm : U 2 = nI n0) (hpe : ∀ j : Nat, j < n0 → vp_in (S 11 j) 10) (hpem : ∀ j : Nat, j < n0 → vp_in (T 6 j) 10) (x0 : Int32) :
    (if m_in x0 0 300 = true then m_ckV U x0 else va_up U 0 1) 0 = c_ckK x0 ∧ (c_ckK x0 = 0 → (V 2 + 1) = (if m_in x0 0 300 = true then U 3 + 1 else 0)) ∧ Rel (k + 1) S (if c_ckK x0 = 0 then c_edO S O (c_ckV V x0) (V 0) n0 else O) (if c_ckK x0 = 0 then c_ckV V x0 else V) T (if m_in x0 0 300 = true then m_swO T P (m_ckV U x0) n0 else P) (if m_in x0 0 300 = true then m_ckV U x0 else va_up U 0 1) := by
  sorry

theorem q_isTaken {k : Nat} {S : Nat → Nat → Int32} {O : Nat → Bool} {V : Nat → Int32} {T : Nat → Nat → Int32} {P : Nat → Bool} {U : Nat → Int32} (hR : Rel k S O V T P U) (hk5 : k < 512) {n0 : Nat} (hn0 : n0 ≤ 30) (hct : V 1 = nI n0) (hctm : U 2 = nI n0) (hpe : ∀ j : Nat, j < n0 → vp_in (S 11 j) 10) (hpem : ∀ j : Nat, j < n0 → vp_in (T 6 j) 10) (x0 : Int32) :
    (va_up U 0 (if m_in x0 0 (U 3) = true then 0 else 1)) 0 = c_itK V x0 ∧ (c_itK V x0 = 0 → (c_takes V x0 (V 0)) = (m_in x0 0 (U 3) && m_isKey U x0)) ∧ Rel (k + 1) S O V T P (va_up U 0 (if m_in x0 0 (U 3) = true then 0 else 1)) := by
  sorry

theorem q_pass {k : Nat} {S : Nat → Nat → Int32} {O : Nat → Bool} {V : Nat → Int32} {T : Nat → Nat → Int32} {P : Nat → Bool} {U : Nat → Int32} (hR : Rel k S O V T P U) (hk5 : k < 512) {n0 : Nat} (hn0 : n0 ≤ 30) (hct : V 1 = nI n0) (hctm : U 2 = nI n0) (hpe : ∀ j : Nat, j < n0 → vp_in (S 11 j) 10) (hpem : ∀ j : Nat, j < n0 → vp_in (T 6 j) 10) (x0 : Int32) :
    (if m_in x0 1 300 = true then m_paV U x0 else va_up U 0 1) 0 = c_paK x0 ∧ (c_paK x0 = 0 → (c_edN (c_doS S (V 0 + x0) 4) O (c_paV V x0) (V 0 + x0) n0) = (if m_in x0 1 300 = true then m_swN T P (m_paV U x0) n0 else 0)) ∧ Rel (k + 1) (if c_paK x0 = 0 then c_doS S (V 0 + x0) 4 else S) (if c_paK x0 = 0 then c_edO (c_doS S (V 0 + x0) 4) O (c_paV V x0) (V 0 + x0) n0 else O) (if c_paK x0 = 0 then c_paV V x0 else V) T (if m_in x0 1 300 = true then m_swO T P (m_paV U x0) n0 else P) (if m_in x0 1 300 = true then m_paV U x0 else va_up U 0 1) := by
  sorry

theorem q_breakGlass {k : Nat} {S : Nat → Nat → Int32} {O : Nat → Bool} {V : Nat → Int32} {T : Nat → Nat → Int32} {P : Nat → Bool} {U : Nat → Int32} (hR : Rel k S O V T P U) (hk5 : k < 512) {n0 : Nat} (hn0 : n0 ≤ 30) (hct : V 1 = nI n0) (hctm : U 2 = nI n0) (hpe : ∀ j : Nat, j < n0 → vp_in (S 11 j) 10) (hpem : ∀ j : Nat, j < n0 → vp_in (T 6 j) 10) (x0 : Int32) (x1 : Int32) (x2 : Int32) (x3 : Int32) :
    (va_up U 0 (m_bgK T x0 x1 x2 x3)) 0 = c_bgK S x0 x1 x2 x3 ∧ (c_bgK S x0 x1 x2 x3 = 0 → (V 0 + 60) = (if m_bgK T x0 x1 x2 x3 = 0 then U 1 + 60 else 0)) ∧ Rel (k + 1) (if c_bgK S x0 x1 x2 x3 = 0 then va_up S 6 (upd (S 6) (ix x0 * 6 + ix x1) (V 0 + 60)) else S) O V (if m_bgK T x0 x1 x2 x3 = 0 then va_up T 5 (upd (T 5) (6 * ix x0 + ix x1) (U 1 + 60)) else T) P (va_up U 0 (m_bgK T x0 x1 x2 x3)) := by
  sorry

theorem q_setCache {k : Nat} {S : Nat → Nat → Int32} {O : Nat → Bool} {V : Nat → Int32} {T : Nat → Nat → Int32} {P : Nat → Bool} {U : Nat → Int32} (hR : Rel k S O V T P U) (hk5 : k < 512) {n0 : Nat} (hn0 : n0 ≤ 30) (hct : V 1 = nI n0) (hctm : U 2 = nI n0) (hpe : ∀ j : Nat, j < n0 → vp_in (S 11 j) 10) (hpem : ∀ j : Nat, j < n0 → vp_in (T 6 j) 10) (x0 : Int32) (x1 : Int32) :
    (va_up U 0 (if m_scOk x0 x1 = true then 0 else 1)) 0 = c_scK x0 x1 ∧ (c_scK x0 x1 = 0 → (S 16 (ix x0)) = (if m_scOk x0 x1 = true then T 11 (ix x0) else 0)) ∧ Rel (k + 1) (if c_scK x0 x1 = 0 then c_scS S V (ix x0) x1 else S) O V (if m_scOk x0 x1 = true then m_scS T (va_up U 0 0) (ix x0) x1 else T) P (va_up U 0 (if m_scOk x0 x1 = true then 0 else 1)) := by
  sorry

theorem q_decide {k : Nat} {S : Nat → Nat → Int32} {O : Nat → Bool} {V : Nat → Int32} {T : Nat → Nat → Int32} {P : Nat → Bool} {U : Nat → Int32} (hR : Rel k S O V T P U) (hk5 : k < 512) {n0 : Nat} (hn0 : n0 ≤ 30) (hct : V 1 = nI n0) (hctm : U 2 = nI n0) (hpe : ∀ j : Nat, j < n0 → vp_in (S 11 j) 10) (hpem : ∀ j : Nat, j < n0 → vp_in (T 6 j) 10) (x0 : Int32) (x1 : Int32) (x2 : Int32) :
    (va_up U 0 (m_deK U x0 x1 x2)) 0 = c_deK V x0 x1 x2 ∧ (c_deK V x0 x1 x2 = 0 → (if O (ix x1) = true then 2 else c_appR (c_deS1 S V (ix x1)) V (ix x0) (ix (S 11 (ix x1))) (ix x2)) = (if m_deK U x0 x1 x2 = 0 then (if P (ix x1) = true then 2 else m_deR T U (ix x0) (ix x1) (ix x2)) else 0)) ∧ Rel (k + 1) (if c_deK V x0 x1 x2 = 0 then if O (ix x1) = true then S else c_appS (c_deS1 S V (ix x1)) V (ix x0) (ix (S 11 (ix x1))) (ix x2) else S) O V (if m_deK U x0 x1 x2 = 0 then (if P (ix x1) = true then T else m_deS T U (ix x0) (ix x1) (ix x2)) else T) P (va_up U 0 (m_deK U x0 x1 x2)) := by
  sorry

theorem q_forget {k : Nat} {S : Nat → Nat → Int32} {O : Nat → Bool} {V : Nat → Int32} {T : Nat → Nat → Int32} {P : Nat → Bool} {U : Nat → Int32} (hR : Rel k S O V T P U) (hk5 : k < 512) {n0 : Nat} (hn0 : n0 ≤ 30) (hct : V 1 = nI n0) (hctm : U 2 = nI n0) (hpe : ∀ j : Nat, j < n0 → vp_in (S 11 j) 10) (hpem : ∀ j : Nat, j < n0 → vp_in (T 6 j) 10) (x0 : Int32) (x1 : Int32) :
    (va_up U 0 (if m_foOk x0 x1 = true then 0 else 1)) 0 = c_foK x0 x1 ∧ (c_foK x0 x1 = 0 → (c_daN S (ix x0) (ix x1) 6) = (if m_foOk x0 x1 = true then m_foN T (va_up U 0 0) (ix x0) (ix x1) 6 else 0)) ∧ Rel (k + 1) (if c_foK x0 x1 = 0 then c_daS S (ix x0) (ix x1) 6 else S) O V (if m_foOk x0 x1 = true then m_foS T (ix x0) (ix x1) 6 else T) P (va_up U 0 (if m_foOk x0 x1 = true then 0 else 1)) := by
  sorry

theorem q_stale {k : Nat} {S : Nat → Nat → Int32} {O : Nat → Bool} {V : Nat → Int32} {T : Nat → Nat → Int32} {P : Nat → Bool} {U : Nat → Int32} (hR : Rel k S O V T P U) (hk5 : k < 512) {n0 : Nat} (hn0 : n0 ≤ 30) (hct : V 1 = nI n0) (hctm : U 2 = nI n0) (hpe : ∀ j : Nat, j < n0 → vp_in (S 11 j) 10) (hpem : ∀ j : Nat, j < n0 → vp_in (T 6 j) 10) (x0 : Int32) :
    (va_up U 0 (if m_in x0 0 3 = true then 0 else 1)) 0 = c_stK x0 ∧ (c_stK x0 = 0 → (c_stO S V (ix x0) 10) = (if m_in x0 0 3 = true then m_stN T (va_up U 0 0) (ix x0) 60 else 0)) ∧ Rel (k + 1) S O V T P (va_up U 0 (if m_in x0 0 3 = true then 0 else 1)) := by
  sorry
