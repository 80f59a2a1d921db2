/-! ===== a turn on sessions, keys, break-glass, and minutes that pass: sessions ===== -/
theorem out10 {j : Nat} (h : j < 5) : c_out (nI j) 10 = false := c_out_lt (n := 10) (by omega) (by decide)
theorem out6 {j : Nat} (h : j < 3) : c_out (nI j) 6 = false := c_out_lt (n := 6) (by omega) (by decide)
section QQ4
variable {n t n0 : Nat} {S : Nat → Nat → Int32} {O : Nat → Bool} {V : Nat → Int32} {T : Nat → Nat → Int32}
theorem opK_bar (hR : RelT n t n0 S O V T) {pi : Nat} (hpi : pi < 5) (c : T 22 pi = 3) : c_opK S V (nI pi) = 2 := by
  rw [c_opK, out10 hpi, if_neg (by decide), ixI (by omega), if_pos ((hR.2.1.1 pi hpi).1.trans c)]
theorem opK_ok (hR : RelT n t n0 S O V T) {pi : Nat} (hpi : pi < 5) (c : ¬ T 22 pi = 3) : c_opK S V (nI pi) = 0 := by
  have h := hR.2.2.1.1
  rw [c_opK, out10 hpi, if_neg (by decide), ixI (by omega), if_neg (fun q => c ((hR.2.1.1 pi hpi).1.symm.trans q)), hR.2.2.1.2.1, if_pos (show nI n0 < 30 from nI_lt (b := 30) (by omega) (by decide))]
theorem op_bar (hR : RelT n t n0 S O V T) {pi : Nat} (hpi : pi < 5) (c : T 22 pi = 3) : l_thr (c_opK S V (nI pi)) (nI n0) = (-3) := by
  rw [opK_bar hR hpi c]; rfl
theorem op_ok (hR : RelT n t n0 S O V T) {pi : Nat} (hpi : pi < 5) (hn12 : n0 < 12) (c : ¬ T 22 pi = 3) : l_thr (c_opK S V (nI pi)) (nI n0) = nI n0 := by
  rw [opK_ok hR hpi c]; rfl
theorem op_rel_bar (hR : RelT n t n0 S O V T) {pi : Nat} (hpi : pi < 5) (c : T 22 pi = 3) : RelQ (n + 1) (if c_opK S V (nI pi) = 0 then va_up (va_up (va_up (va_up S 11 (upd (S 11) n0 (nI pi))) 12 (upd (S 12) n0 (V 2))) 13 (upd (S 13) n0 (V 0))) 14 (upd (S 14) n0 (V 0)) else S) O (if c_opK S V (nI pi) = 0 then va_up V 1 (V 1 + 1) else V) T := by
  have hk : ¬ c_opK S V (nI pi) = 0 := by rw [opK_bar hR hpi c]; decide
  rw [if_neg hk, if_neg hk]; exact RelT_mono hR
theorem RelC_to {S' T1 : Nat → Nat → Int32} (h : RelC t S T) (h16 : S' 16 = S 16) (h17 : S' 17 = S 17) (h18 : S' 18 = S 18) (h19 : ∀ a : Nat, a < 2 → T1 19 (4 + a) = T 19 (4 + a)) (h25 : T1 25 = T 25) (h26 : T1 26 = T 26) : RelC t S' T1 := by
  refine ⟨fun a ha => ?_, fun a p r ha hp hr ho => by rw [h17]; exact h.2 a p r ha hp hr ho⟩
  obtain ⟨c, c1, c2, c3, c4⟩ := h.1 a ha
  exact ⟨c, c1, by rw [h16]; exact c2, (h19 a ha).trans c3, fun p r hp hr => by rw [h17, h18, h25, h26]; exact c4 p r hp hr⟩
theorem op_rel (hR : RelT n t n0 S O V T) {pi : Nat} (hpi : pi < 5) (hn12 : n0 < 12) (c : ¬ T 22 pi = 3) : RelQ (n + 1) (if c_opK S V (nI pi) = 0 then va_up (va_up (va_up (va_up S 11 (upd (S 11) n0 (nI pi))) 12 (upd (S 12) n0 (V 2))) 13 (upd (S 13) n0 (V 0))) 14 (upd (S 14) n0 (V 0)) else S) O (if c_opK S V (nI pi) = 0 then va_up V 1 (V 1 + 1) else V) (va_up (va_up T 24 (upd (upd (upd (upd (T 24) (5 * n0) (nI pi)) (5 * n0 + 1) (T 19 2)) (5 * n0 + 2) (T 19 0)) (5 * n0 + 3) (T 19 0))) 19 (upd (T 19) 1 (nI (n0 + 1)))) := by
  have hk := opK_ok hR hpi c
  rw [if_pos hk, if_pos hk]
  obtain ⟨h1, h2, ⟨a1, a2, a3, a4, a5, a6⟩, h4, h5⟩ := hR
  obtain ⟨k1, k2, k3, ⟨k, k4, k5, k6⟩, k7⟩ := id h4
  refine ⟨t, n0 + 1, h1, h2, ⟨by omega, ?_, (show upd (T 19) 1 (nI (n0 + 1)) 1 = nI (n0 + 1) from pk_us), fun j hj => ?_, fun j hj => ?_, fun j hj hj2 => a6 j (by omega) hj2⟩, RelK_mono h4, RelC_to h5 rfl rfl rfl (fun a ha => pk_un (by omega)) rfl rfl⟩
  · show V 1 + 1 = nI (n0 + 1)
    rw [a2]; exact nI_1 n0
  · show (∃ p : Nat, p < 5 ∧ upd (S 11) n0 (nI pi) j = nI p ∧ upd (upd (upd (upd (T 24) (5 * n0) (nI pi)) (5 * n0 + 1) (T 19 2)) (5 * n0 + 2) (T 19 0)) (5 * n0 + 3) (T 19 0) (5 * j) = nI p) ∧ upd (upd (upd (upd (T 24) (5 * n0) (nI pi)) (5 * n0 + 1) (T 19 2)) (5 * n0 + 2) (T 19 0)) (5 * n0 + 3) (T 19 0) (5 * j + 1) = upd (S 12) n0 (V 2) j ∧ (∃ x : Nat, x ≤ t ∧ upd (S 13) n0 (V 0) j = nI x ∧ upd (upd (upd (upd (T 24) (5 * n0) (nI pi)) (5 * n0 + 1) (T 19 2)) (5 * n0 + 2) (T 19 0)) (5 * n0 + 3) (T 19 0) (5 * j + 2) = nI x) ∧ (∃ x : Nat, x ≤ t ∧ upd (S 14) n0 (V 0) j = nI x ∧ upd (upd (upd (upd (T 24) (5 * n0) (nI pi)) (5 * n0 + 1) (T 19 2)) (5 * n0 + 2) (T 19 0)) (5 * n0 + 3) (T 19 0) (5 * j + 3) = nI x)
    by_cases e : j = n0
    · subst e
      refine ⟨⟨pi, hpi, pk_us, ?_⟩, ?_, ⟨t, Nat.le_refl _, ?_, ?_⟩, ⟨t, Nat.le_refl _, ?_, ?_⟩⟩
      · rw [pk_un (by omega), pk_un (by omega), pk_un (by omega), pk_us]
      · rw [pk_un (by omega), pk_un (by omega), pk_us, pk_us, k5, k6]
      · rw [pk_us]; exact k2
      · rw [pk_un (by omega), pk_us]; exact k3
      · rw [pk_us]; exact k2
      · rw [pk_us]; exact k3
    · have ne : ∀ i : Nat, i < 4 → upd (upd (upd (upd (T 24) (5 * n0) (nI pi)) (5 * n0 + 1) (T 19 2)) (5 * n0 + 2) (T 19 0)) (5 * n0 + 3) (T 19 0) (5 * j + i) = T 24 (5 * j + i) := fun i hi => by rw [pk_un (by omega), pk_un (by omega), pk_un (by omega), pk_un (by omega)]
      have n0' : upd (upd (upd (upd (T 24) (5 * n0) (nI pi)) (5 * n0 + 1) (T 19 2)) (5 * n0 + 2) (T 19 0)) (5 * n0 + 3) (T 19 0) (5 * j) = T 24 (5 * j) := ne 0 (by omega)
      rw [n0', ne 1 (by omega), ne 2 (by omega), ne 3 (by omega), pk_un e, pk_un e, pk_un e, pk_un e]
      exact a4 j (by omega)
  · show upd (upd (upd (upd (T 24) (5 * n0) (nI pi)) (5 * n0 + 1) (T 19 2)) (5 * n0 + 2) (T 19 0)) (5 * n0 + 3) (T 19 0) (5 * j + 4) = bi (O j)
    rw [pk_un (by omega), pk_un (by omega), pk_un (by omega), pk_un (by omega)]
    exact a5 j hj
theorem clK_eq (hR : RelT n t n0 S O V T) {si : Nat} (hsi : si < n0) : c_clK O V (nI si) = if O si = true then 2 else 0 := by
  have h := hR.2.2.1.1
  rw [c_clK, c_has_lt hR.2.2.1.2.1 (by omega) hsi, if_pos rfl, ixI (by omega)]
theorem cl_no (hR : RelT n t n0 S O V T) {si : Nat} (hsi : si < n0) : ¬ c_clK O V (nI si) = 1 := by
  rw [clK_eq hR hsi]
  cases O si <;> decide
theorem cl_bar (hR : RelT n t n0 S O V T) {si : Nat} (hsi : si < n0) (c : bi (O si) = 1) : l_thr (c_clK O V (nI si)) (V 0 - S 13 (ix (nI si))) = (-3) := by
  rw [clK_eq hR hsi, bi_p1 c]; rfl
theorem cl_ok (hR : RelT n t n0 S O V T) {si : Nat} (hsi : si < n0) (c : ¬ bi (O si) = 1) : l_thr (c_clK O V (nI si)) (V 0 - S 13 (ix (nI si))) = T 19 0 - T 24 (5 * si + 2) := by
  have h := hR.2.2.1.1
  obtain ⟨-, -, ⟨x, -, e1, e2⟩, -⟩ := hR.2.2.1.2.2.2.1 si hsi
  rw [clK_eq hR hsi, bi_n1 c, ixI (by omega), e1, e2, hR.2.2.2.1.2.1, hR.2.2.2.1.2.2.1]; rfl
theorem cl_rel (hR : RelT n t n0 S O V T) {si : Nat} (hsi : si < n0) : RelQ (n + 1) S (if c_clK O V (nI si) = 0 then va_up O (ix (nI si)) true else O) V (va_up T 24 (upd (T 24) (5 * si + 4) 1)) := by
  have h12 := hR.2.2.1.1
  have hO : (if c_clK O V (nI si) = 0 then va_up O (ix (nI si)) true else O) = va_up O si true := by
    rw [clK_eq hR hsi, ixI (by omega)]
    cases h : O si
    · rfl
    · rw [if_pos rfl, if_neg (by decide)]
      funext j
      show O j = if j = si then true else O j
      by_cases e : j = si
      · rw [if_pos e, e, h]
      · rw [if_neg e]
  rw [hO]
  obtain ⟨h1, h2, ⟨a1, a2, a3, a4, a5, a6⟩, h4, h5⟩ := hR
  have ne : ∀ i : Nat, i ≠ 5 * si + 4 → va_up T 24 (upd (T 24) (5 * si + 4) 1) 24 i = T 24 i := fun i hi => pk_un hi
  refine ⟨t, n0, h1, h2, ⟨a1, a2, a3, fun j hj => ?_, fun j hj => ?_, fun j hj hj2 => ?_⟩, RelK_mono h4, h5⟩
  · rw [ne (5 * j) (by omega), ne (5 * j + 1) (by omega), ne (5 * j + 2) (by omega), ne (5 * j + 3) (by omega)]
    exact a4 j hj
  · show upd (T 24) (5 * si + 4) 1 (5 * j + 4) = bi (if j = si then true else O j)
    by_cases e : j = si
    · subst e; rw [pk_us, if_pos rfl]; rfl
    · rw [pk_un (by omega), if_neg e]; exact a5 j hj
  · show (if j = si then true else O j) = false
    rw [if_neg (by omega)]; exact a6 j hj hj2
theorem bgK_eq {pi ri oi wi : Nat} (hpi : pi < 5) (hri : ri < 3) (hoi : oi < 5) (hwi : wi < 5) : c_bgK S (nI pi) (nI ri) (nI oi) (nI wi) = if nI pi = nI oi then 1 else if nI pi = nI wi then 1 else if nI oi = nI wi then 1 else if c_serves S oi ri = true then (if c_serves S wi ri = true then 0 else 2) else 2 := by
  rw [c_bgK, out10 hpi, out6 hri, out10 hoi, out10 hwi, if_neg (by decide), if_neg (by decide), if_neg (by decide), if_neg (by decide), ixI (show oi < 1000 by omega), ixI (show ri < 1000 by omega), ixI (show wi < 1000 by omega)]
/-- the four ways of a break-glass: the same people; witnesses that don't serve; given -/
theorem bg_way {pi ri oi wi : Nat} (hpi : pi < 5) (hri : ri < 3) (hoi : oi < 5) (hwi : wi < 5) :
    (c_bgK S (nI pi) (nI ri) (nI oi) (nI wi) = 1 ∧ (!decide (nI pi = nI oi) && (!decide (nI pi = nI wi) && !decide (nI oi = nI wi))) = false) ∨
    (c_bgK S (nI pi) (nI ri) (nI oi) (nI wi) = 2 ∧ (!decide (nI pi = nI oi) && (!decide (nI pi = nI wi) && !decide (nI oi = nI wi))) = true ∧ (c_serves S oi ri && c_serves S wi ri) = false) ∨
    (c_bgK S (nI pi) (nI ri) (nI oi) (nI wi) = 0 ∧ (!decide (nI pi = nI oi) && (!decide (nI pi = nI wi) && !decide (nI oi = nI wi))) = true ∧ (c_serves S oi ri && c_serves S wi ri) = true) := by
  rw [bgK_eq hpi hri hoi hwi]
  by_cases a1 : nI pi = nI oi
  · rw [if_pos a1, decide_eq_true a1]; exact Or.inl ⟨rfl, rfl⟩
  · rw [if_neg a1, decide_eq_false a1]
    by_cases a2 : nI pi = nI wi
    · rw [if_pos a2, decide_eq_true a2]; exact Or.inl ⟨rfl, rfl⟩
    · rw [if_neg a2, decide_eq_false a2]
      by_cases a3 : nI oi = nI wi
      · rw [if_pos a3, decide_eq_true a3]; exact Or.inl ⟨rfl, rfl⟩
      · rw [if_neg a3, decide_eq_false a3]
        cases c_serves S oi ri <;> cases c_serves S wi ri
        · exact Or.inr (Or.inl ⟨rfl, rfl, rfl⟩)
        · exact Or.inr (Or.inl ⟨rfl, rfl, rfl⟩)
        · exact Or.inr (Or.inl ⟨rfl, rfl, rfl⟩)
        · exact Or.inr (Or.inr ⟨rfl, rfl, rfl⟩)
theorem bg_ans (hR : RelT n t n0 S O V T) {pi ri oi wi : Nat} (hpi : pi < 5) (hri : ri < 3) (hoi : oi < 5) (hwi : wi < 5) : l_thr (c_bgK S (nI pi) (nI ri) (nI oi) (nI wi)) (V 0 + 60) = if ((!decide (nI pi = nI oi) && (!decide (nI pi = nI wi) && !decide (nI oi = nI wi))) && (c_serves S oi ri && c_serves S wi ri)) = true then T 19 0 + 60 else if (!decide (nI pi = nI oi) && (!decide (nI pi = nI wi) && !decide (nI oi = nI wi))) = true then -3 else -2 := by
  have hV : V 0 = T 19 0 := hR.2.2.2.1.2.1.trans hR.2.2.2.1.2.2.1.symm
  rcases bg_way (S := S) hpi hri hoi hwi with ⟨h1, h2⟩ | ⟨h1, h2, h3⟩ | ⟨h1, h2, h3⟩
  · rw [h1, h2]; rfl
  · rw [h1, h2, h3]; rfl
  · rw [h1, h2, h3, hV]; rfl
theorem bg_rel (hR : RelT n t n0 S O V T) {pi ri oi wi : Nat} (hpi : pi < 5) (hri : ri < 3) (hoi : oi < 5) (hwi : wi < 5) : RelQ (n + 1) (if c_bgK S (nI pi) (nI ri) (nI oi) (nI wi) = 0 then va_up S 6 (upd (S 6) (ix (nI pi) * 6 + ix (nI ri)) (V 0 + 60)) else S) O V (va_up T 23 (upd (T 23) (3 * pi + ri) (if ((!decide (nI pi = nI oi) && (!decide (nI pi = nI wi) && !decide (nI oi = nI wi))) && (c_serves S oi ri && c_serves S wi ri)) = true then T 19 0 + 60 else T 23 (3 * pi + ri)))) := by
  have hV : V 0 = T 19 0 := hR.2.2.2.1.2.1.trans hR.2.2.2.1.2.2.1.symm
  have none : ∀ (k : Int32) (f g : Bool), ¬ k = 0 → (f && g) = false → RelQ (n + 1) (if k = 0 then va_up S 6 (upd (S 6) (ix (nI pi) * 6 + ix (nI ri)) (V 0 + 60)) else S) O V (va_up T 23 (upd (T 23) (3 * pi + ri) (if (f && g) = true then T 19 0 + 60 else T 23 (3 * pi + ri)))) := by
    intro k f g hk hf
    rw [if_neg hk, hf, if_neg (by decide), upd_self, up_self]
    exact RelT_mono hR
  rcases bg_way (S := S) hpi hri hoi hwi with ⟨h1, h2⟩ | ⟨h1, h2, h3⟩ | ⟨h1, h2, h3⟩
  · exact none _ _ _ (by rw [h1]; decide) (by rw [h2]; rfl)
  · exact none _ _ _ (by rw [h1]; decide) (by rw [h2, h3]; rfl)
  · rw [if_pos h1, h2, h3, Bool.and_self, if_pos rfl, ixI (show pi < 1000 by omega), ixI (show ri < 1000 by omega), hV]
    obtain ⟨r1, ⟨p1, p2⟩, r3, r4, r5⟩ := hR
    refine ⟨t, n0, r1, ⟨p1, fun p r hp hr => ?_⟩, r3, RelK_mono r4, r5⟩
    show upd (S 6) (pi * 6 + ri) (T 19 0 + 60) (p * 6 + r) = upd (T 23) (3 * pi + ri) (T 19 0 + 60) (3 * p + r)
    by_cases e : p = pi ∧ r = ri
    · rw [e.1, e.2, pk_us, pk_us]
    · rw [pk_un (by omega), pk_un (by omega)]; exact p2 p r hp hr
end QQ4
/-! sweeps -/
theorem sixty {z : Nat} (hz : z ≤ 3) : 60 * (4 - nI z) = nI (60 * (4 - z)) := by
  rw [show (4 : Int32) - nI z = nI (4 - z) from pk_sub (a := 4) (by omega)]; exact pk_mul 60 (4 - z)
theorem sixty2 {z : Nat} (hz : z ≤ 3) : 240 - 60 * nI z = nI (240 - 60 * z) := by
  rw [show (60 : Int32) * nI z = nI (60 * z) from pk_mul 60 z]; exact pk_sub (a := 240) (by omega)
/-- what ends a session is one on both sides -/
theorem due_eq {t n0 : Nat} {S : Nat → Nat → Int32} {O : Nat → Bool} {V : Nat → Int32} {T : Nat → Nat → Int32} (hS : RelS t n0 S O V T) (hP : RelP S T) {j : Nat} (hj : j < n0) (ht : t < 2 ^ 28) {u : Int32} (hu : u = nI t) (h0 : T 19 0 = nI t) (h2 : V 2 = T 19 2) (h3 : V 3 = T 19 3) : c_isDue S V j u (S 5 (S 11 j).toNatClampNeg) = (decide (l_en1 T (ix (T 24 (5 * j))) j ≤ T 19 0) || !l_key T (T 24 (5 * j + 1))) := by
  obtain ⟨⟨p, hp, e1, e2⟩, e3, ⟨x, hx, e4, e5⟩, ⟨y, hy, e6, e7⟩⟩ := hS.2.2.2.1 j hj
  obtain ⟨f1, z, hz, f2⟩ := hP.1 p hp
  have i1 : (S 11 j).toNatClampNeg = p := by rw [e1]; exact nI_clamp (by omega)
  have i2 : ix (T 24 (5 * j)) = p := by rw [e2]; exact nI_clamp (by omega)
  have k1 : S 5 p = nI z := f1.trans f2
  rw [c_isDue, i1, i2, k1, e6, e4, hu, pk_sub hy, pk_sub hx, sixty2 hz, takes_key h2 h3 h0.symm, ← e3, ← Bool.or_assoc]
  congr 1
  have g0 : l_en0 T p j = nI (x + 60 * (4 - z)) := by rw [l_en0, e5, f2, sixty hz]; exact nI_add _ _
  have g1 : T 24 (5 * j + 3) + 30 = nI (y + 30) := by rw [e7]; exact nI_add y 30
  have d1 : decide (30 ≤ nI (t - y)) = decide (30 ≤ t - y) := decide_eq_decide.mpr (nI_leI (a := 30) (by decide) (by omega))
  have d2 : decide (nI (240 - 60 * z) ≤ nI (t - x)) = decide (240 - 60 * z ≤ t - x) := decide_eq_decide.mpr (nI_leI (by omega) (by omega))
  rw [d1, d2, l_en1, g0, g1, h0]
  have hle : (nI (x + 60 * (4 - z)) ≤ nI (y + 30)) ↔ x + 60 * (4 - z) ≤ y + 30 := nI_leI (by omega) (by omega)
  by_cases c : x + 60 * (4 - z) ≤ y + 30
  · rw [if_pos (hle.mpr c)]
    have d3 : decide (nI (x + 60 * (4 - z)) ≤ nI t) = decide (x + 60 * (4 - z) ≤ t) := decide_eq_decide.mpr (nI_leI (by omega) (by omega))
    rw [d3]
    by_cases q : x + 60 * (4 - z) ≤ t
    · rw [decide_eq_true q, decide_eq_true (show 240 - 60 * z ≤ t - x by omega), Bool.or_true]
    · rw [decide_eq_false q, decide_eq_false (show ¬ 240 - 60 * z ≤ t - x by omega), decide_eq_false (show ¬ 30 ≤ t - y by omega)]; rfl
  · rw [if_neg (fun q => c (hle.mp q))]
    have d3 : decide (nI (y + 30) ≤ nI t) = decide (y + 30 ≤ t) := decide_eq_decide.mpr (nI_leI (by omega) (by omega))
    rw [d3]
    by_cases q : y + 30 ≤ t
    · rw [decide_eq_true q, decide_eq_true (show 30 ≤ t - y by omega), Bool.true_or]
    · rw [decide_eq_false q, decide_eq_false (show ¬ 240 - 60 * z ≤ t - x by omega), decide_eq_false (show ¬ 30 ≤ t - y by omega)]; rfl
theorem goes_due {t n0 : Nat} {S : Nat → Nat → Int32} {O : Nat → Bool} {V : Nat → Int32} {T : Nat → Nat → Int32} (hS : RelS t n0 S O V T) (hP : RelP S T) {j : Nat} (hj : j < n0) (ht : t < 2 ^ 28) {u : Int32} (hu : u = nI t) (h0 : T 19 0 = nI t) (h2 : V 2 = T 19 2) (h3 : V 3 = T 19 3) : l_goes T j = (!O j && c_isDue S V j u (S 5 (S 11 j).toNatClampNeg)) := by
  have := hS.1
  rw [l_goes, hS.2.2.2.2.1 j (by omega), over0, due_eq hS hP hj ht hu h0 h2 h3]
theorem sweep_S {t n0 : Nat} {S : Nat → Nat → Int32} {O : Nat → Bool} {V : Nat → Int32} {T : Nat → Nat → Int32} (hS : RelS t n0 S O V T) (hP : RelP S T) (ht : t < 2 ^ 28) {u : Int32} (hu : u = nI t) (h0 : T 19 0 = nI t) (h2 : V 2 = T 19 2) (h3 : V 3 = T 19 3) : RelS t n0 S (c_edO S O V u n0) V (va_up T 24 (l_upR T (l_goes T) n0)) := by
  refine up_marks (l_goes T) hS (fun j hj => ?_) (fun j hj => ?_)
  · rw [ed_pt, goes_due hS hP hj ht hu h0 h2 h3, decide_eq_true hj]
    cases O j <;> simp
  · rw [ed_pt, decide_eq_false (by omega)]; simp
theorem due_congr {S S' : Nat → Nat → Int32} (V : Nat → Int32) (j : Nat) (u r : Int32) (h12 : S' 12 = S 12) (h13 : S' 13 = S 13) (h14 : S' 14 = S 14) : c_isDue S' V j u r = c_isDue S V j u r := by rw [c_isDue, c_isDue, h12, h13, h14]
theorem Dec_pass {t t2 c : Nat} {A ks K v : Int32} (h : Dec t c A ks K v) (h12 : t ≤ t2) (ht : t2 < 2 ^ 28) (hc : c ≤ 60) : Dec t2 c (if nI t2 - ks < nI c then A else -1) ks K v := by
  rcases h with ⟨hA, x, hx, hK⟩ | ⟨x, b, hb, hx, hl, hA, hks, hK, hv⟩
  · left
    refine ⟨by rw [hA]; split <;> rfl, x, by omega, hK⟩
  · rw [hks]
    have e := lt_eq (t := t2) (t0 := x) (c := c) (by omega) ht hc
    by_cases q : t2 - x < c
    · rw [if_pos (e.mpr q)]; exact Or.inr ⟨x, b, hb, by omega, by omega, hA, rfl, hK, hv⟩
    · rw [if_neg (fun w => q (e.mp w))]; exact Or.inl ⟨rfl, x + c, by omega, hK⟩
section QQ5
variable {n t n0 : Nat} {S : Nat → Nat → Int32} {O : Nat → Bool} {V : Nat → Int32} {T : Nat → Nat → Int32}
theorem ck_rel (hR : RelT n t n0 S O V T) {j2 mi : Nat} (hkV : V 2 = nI j2) (hj2 : j2 ≤ n) (hmi : mi ≤ 300) (hn : n < 110) {T1 : Nat → Nat → Int32} (hT1 : T1 = va_up T 19 (upd (upd (T 19) 2 (nI (j2 + 1))) 3 (nI (t + mi)))) : RelQ (n + 1) S (c_edO S O (va_up (va_up V 2 (V 2 + 1)) 3 (V 0 + nI mi)) (V 0) n0) (va_up (va_up V 2 (V 2 + 1)) 3 (V 0 + nI mi)) (va_up T1 24 (l_upR T1 (l_goes T1) n0)) := by
  obtain ⟨h1, h2, h3, ⟨k1, k2, k3, ⟨k, k4, k5, k6⟩, k7⟩, h5⟩ := hR
  have ht : t < 2 ^ 28 := by omega
  have e19 : T1 19 = upd (upd (T 19) 2 (nI (j2 + 1))) 3 (nI (t + mi)) := by rw [hT1]; rfl
  have en : ∀ w : Nat, w ≠ 19 → T1 w = T w := fun w hw => by rw [hT1]; exact if_neg hw
  have q0 : T1 19 0 = nI t := by rw [e19, pk_un (by decide), pk_un (by decide)]; exact k3
  have q1 : T1 19 1 = T 19 1 := by rw [e19, pk_un (by decide), pk_un (by decide)]
  have q2 : T1 19 2 = nI (j2 + 1) := by rw [e19, pk_un (by decide), pk_us]
  have q3 : T1 19 3 = nI (t + mi) := by rw [e19, pk_us]
  have v2 : va_up (va_up V 2 (V 2 + 1)) 3 (V 0 + nI mi) 2 = nI (j2 + 1) := by
    show V 2 + 1 = nI (j2 + 1)
    rw [hkV]; exact nI_1 j2
  have v3 : va_up (va_up V 2 (V 2 + 1)) 3 (V 0 + nI mi) 3 = nI (t + mi) := by
    show V 0 + nI mi = nI (t + mi)
    rw [k2]; exact nI_add t mi
  have hS : RelS t n0 S O (va_up (va_up V 2 (V 2 + 1)) 3 (V 0 + nI mi)) T1 := RelS_to h3 (Nat.le_refl _) rfl q1 (en 24 (by decide)) rfl rfl rfl rfl
  have hP : RelP S T1 := by
    obtain ⟨p1, p2⟩ := h2
    exact ⟨fun p hp => by rw [en 22 (by decide)]; exact p1 p hp, fun p r hp hr => by rw [en 23 (by decide)]; exact p2 p r hp hr⟩
  have hG : RelG S T1 := by rw [hT1]; exact h1
  refine ⟨t, n0, hG, hP, sweep_S hS hP ht k2 q0 (v2.trans q2.symm) (v3.trans q3.symm), ⟨by omega, k2, q0, ⟨j2 + 1, by omega, v2, q2⟩, ⟨t + mi, by omega, v3, q3⟩⟩, ?_⟩
  refine RelC_to h5 rfl rfl rfl (fun a ha => ?_) (en 25 (by decide)) (en 26 (by decide))
  show T1 19 (4 + a) = T 19 (4 + a)
  rw [e19, pk_un (by omega), pk_un (by omega)]
theorem pass_S (hR : RelT n t n0 S O V T) (hn : n < 110) {mi : Nat} (hmi : mi ≤ 300) {T1 : Nat → Nat → Int32} (hT1 : T1 = va_up T 19 (upd (T 19) 0 (nI (t + mi)))) : RelS (t + mi) n0 S O (va_up V 0 (V 0 + nI mi)) T1 ∧ RelP S T1 ∧ T1 19 0 = nI (t + mi) ∧ va_up V 0 (V 0 + nI mi) 2 = T1 19 2 ∧ va_up V 0 (V 0 + nI mi) 3 = T1 19 3 ∧ V 0 + nI mi = nI (t + mi) := by
  obtain ⟨h1, h2, h3, ⟨k1, k2, k3, ⟨k, k4, k5, k6⟩, ⟨x, k7, k8, k9⟩⟩, h5⟩ := hR
  have e19 : T1 19 = upd (T 19) 0 (nI (t + mi)) := by rw [hT1]; rfl
  have en : ∀ w : Nat, w ≠ 19 → T1 w = T w := fun w hw => by rw [hT1]; exact if_neg hw
  refine ⟨RelS_to h3 (by omega) rfl ?_ (en 24 (by decide)) rfl rfl rfl rfl, ?_, ?_, ?_, ?_, ?_⟩
  · rw [e19, pk_un (by decide)]
  · obtain ⟨p1, p2⟩ := h2
    exact ⟨fun p hp => by rw [en 22 (by decide)]; exact p1 p hp, fun p r hp hr => by rw [en 23 (by decide)]; exact p2 p r hp hr⟩
  · rw [e19, pk_us]
  · rw [e19, pk_un (by decide)]; exact k5.trans k6.symm
  · rw [e19, pk_un (by decide)]; exact k8.trans k9.symm
  · rw [k2]; exact nI_add t mi
theorem pa_ans (hR : RelT n t n0 S O V T) {mi : Nat} (hmi : mi ≤ 300) (hn : n < 110) {T1 : Nat → Nat → Int32} (hT1 : T1 = va_up T 19 (upd (T 19) 0 (nI (t + mi)))) : c_edN (c_doS S (V 0 + nI mi) 4) O (va_up V 0 (V 0 + nI mi)) (V 0 + nI mi) n0 = l_num (l_goes T1) n0 := by
  obtain ⟨hS, hP, q0, q2, q3, hu⟩ := pass_S hR hn hmi hT1
  have hk := hR.2.2.2.1.1
  rw [ed_n, cntI_num]
  refine l_num_congr (fun j hj => ?_)
  rw [due_congr (S := S) _ _ _ _ (c_doS_ne _ _ _ _ (by decide)) (c_doS_ne _ _ _ _ (by decide)) (c_doS_ne _ _ _ _ (by decide)), c_doS_ne _ _ _ 5 (by decide), c_doS_ne _ _ _ 11 (by decide)]
  exact (goes_due hS hP hj (by omega) hu q0 q2 q3).symm
theorem pa_rel (hR : RelT n t n0 S O V T) {mi : Nat} (hmi : mi ≤ 300) (hn : n < 110) {T1 : Nat → Nat → Int32} (hT1 : T1 = va_up T 19 (upd (T 19) 0 (nI (t + mi)))) : RelQ (n + 1) (c_doS S (V 0 + nI mi) 4) (c_edO (c_doS S (V 0 + nI mi) 4) O (va_up V 0 (V 0 + nI mi)) (V 0 + nI mi) n0) (va_up V 0 (V 0 + nI mi)) (va_up T1 24 (l_upR T1 (l_goes T1) n0)) := by
  obtain ⟨hS, hP, q0, q2, q3, hu⟩ := pass_S hR hn hmi hT1
  obtain ⟨h1, h2, h3, ⟨k1, k2, k3, ⟨k, k4, k5, k6⟩, ⟨x, k7, k8, k9⟩⟩, h5⟩ := hR
  obtain ⟨S1, hS1⟩ : ∃ z, z = c_doS S (V 0 + nI mi) 4 := ⟨_, rfl⟩
  have en : ∀ w : Nat, w ≠ 17 → S1 w = S w := fun w hw => by rw [hS1]; exact c_doS_ne _ _ _ _ hw
  have et : ∀ w : Nat, w ≠ 19 → T1 w = T w := fun w hw => by rw [hT1]; exact if_neg hw
  have e19 : T1 19 = upd (T 19) 0 (nI (t + mi)) := by rw [hT1]; rfl
  rw [← hS1]
  have hSs : RelS (t + mi) n0 S1 O (va_up V 0 (V 0 + nI mi)) T1 := RelS_to hS (Nat.le_refl _) rfl rfl rfl (en 11 (by decide)) (en 12 (by decide)) (en 13 (by decide)) (en 14 (by decide))
  have hPs : RelP S1 T1 := by
    obtain ⟨p1, p2⟩ := hP
    exact ⟨fun p hp => by rw [en 5 (by decide)]; exact p1 p hp, fun p r hp hr => by rw [en 6 (by decide)]; exact p2 p r hp hr⟩
  have hG : RelG S1 T1 := by
    obtain ⟨g1, g2, g3, g4, g5, g6, g7, g8, g9, g10, g11⟩ := h1
    have r : ∀ g r : Nat, c_roleOf S1 g r = c_roleOf S g r := fun g r => by rw [c_roleOf, c_roleOf, en 9 (by decide), en 10 (by decide)]
    rw [RelG, en 7 (by decide), en 8 (by decide), en 9 (by decide), en 10 (by decide), et 20 (by decide), et 21 (by decide)]
    exact ⟨g1, g2, g3, g4, g5, g6, g7, g8, g9, fun g r' hg hr => (g10 g r' hg hr).trans (r g r').symm, g11⟩
  refine ⟨t + mi, n0, hG, hPs, sweep_S hSs hPs (by omega) hu q0 q2 q3, ⟨by omega, hu, q0, ⟨k, by omega, k5, q2.symm.trans k5⟩, ⟨x, by omega, k8, q3.symm.trans k8⟩⟩, ?_, ?_⟩
  · intro a ha
    obtain ⟨c, c1, c2, c3, c4⟩ := h5.1 a ha
    refine ⟨c, c1, by rw [en 16 (by decide)]; exact c2, ?_, fun p r hp hr => ?_⟩
    · show T1 19 (4 + a) = nI c
      rw [e19, pk_un (by omega)]; exact c3
    · show Dec (t + mi) c (S1 17 (a * 60 + p * 6 + r)) (S1 18 (a * 60 + p * 6 + r)) (T1 25 (15 * a + 3 * p + r)) (T1 26 (15 * a + 3 * p + r))
      rw [en 18 (by decide), et 25 (by decide), et 26 (by decide), hS1, show a * 60 + p * 6 + r = 60 * a + (p * 6 + r) by omega, do_pt S _ 4 a (p * 6 + r) (Nat.le_refl _) (by omega), if_pos (by omega), hu, c2, ← show a * 60 + p * 6 + r = 60 * a + (p * 6 + r) by omega]
      exact Dec_pass (c4 p r hp hr) (by omega) (by omega) c1
  · intro a p r ha hp hr ho
    have h6 := h5.2 a p r ha hp hr ho
    rw [hS1, show a * 60 + p * 6 + r = 60 * a + (p * 6 + r) by omega, do_pt S _ 4 a (p * 6 + r) (Nat.le_refl _) (by omega), if_pos (by omega), ← show a * 60 + p * 6 + r = 60 * a + (p * 6 + r) by omega, h6]
    split <;> rfl
end QQ5
