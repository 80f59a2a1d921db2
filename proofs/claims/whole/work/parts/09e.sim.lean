/-! ===== the calls that pass time and the kept decisions ===== -/
theorem q_pass {k : Nat} {S : Nat → Nat → Int32} {O : Nat → Bool} {V : Nat → Int32} {T : Nat → Nat → Int32} {P : Nat → Bool} {U : Nat → Int32} (hR : Rel k S O V T P U) (hk5 : k < 512) {n0 : Nat} (hn0 : n0 ≤ 30) (hct : V 1 = nI n0) (hctm : U 2 = nI n0) (hpe : ∀ j : Nat, j < n0 → vp_in (S 11 j) 10) (hpem : ∀ j : Nat, j < n0 → vp_in (T 6 j) 10) (x0 : Int32) :
    (if m_in x0 1 300 = true then m_paV U x0 else va_up U 0 1) 0 = c_paK x0 ∧ (c_paK x0 = 0 → (c_edN (c_doS S (V 0 + x0) 4) O (c_paV V x0) (V 0 + x0) n0) = (if m_in x0 1 300 = true then m_swN T P (m_paV U x0) n0 else 0)) ∧ Rel (k + 1) (if c_paK x0 = 0 then c_doS S (V 0 + x0) 4 else S) (if c_paK x0 = 0 then c_edO (c_doS S (V 0 + x0) 4) O (c_paV V x0) (V 0 + x0) n0 else O) (if c_paK x0 = 0 then c_paV V x0 else V) T (if m_in x0 1 300 = true then m_swO T P (m_paV U x0) n0 else P) (if m_in x0 1 300 = true then m_paV U x0 else va_up U 0 1) := by
  have hK := paK_eq x0
  refine ⟨(paU U x0).trans hK.symm, ?_⟩
  by_cases hv : m_in x0 1 300 = true
  · have hK0 : c_paK x0 = 0 := by rw [hK, if_pos hv]
    obtain ⟨d, hd, rfl⟩ := m_in300 hv
    obtain ⟨hG, hPp, hSs, hKk, hC⟩ := hR
    have e2 : c_paV V (nI d) 2 = m_paV U (nI d) 3 := by rw [cp2, mp3, hKk.2.1]
    have e3 : c_paV V (nI d) 3 = m_paV U (nI d) 4 := by rw [cp3, mp4, hKk.2.2]
    have e1 : V 0 + nI d = m_paV U (nI d) 1 := by rw [mp1, hKk.1]
    have e0 : c_paV V (nI d) 0 = m_paV U (nI d) 1 := by rw [cp0, mp1, hKk.1]
    have hS : ∀ w : Nat, w ≠ 17 → c_doS S (V 0 + nI d) 4 w = S w := fun w hw => c_doS_ne S _ 4 w hw
    have h17 : ∀ a j : Nat, a < 4 → j < 60 → c_doS S (V 0 + nI d) 4 17 (60 * a + j) = if V 0 + nI d - S 18 (60 * a + j) < S 16 a then S 17 (60 * a + j) else -1 := by
      intro a j ha hj
      rw [do_pt S _ 4 a j (by omega) hj, if_pos ha]
    generalize c_doS S (V 0 + nI d) 4 = S' at hS h17 ⊢
    have hG' : RelG S' T := RelG_fr hG (hS 7 (by decide)) (hS 8 (by decide)) (hS 9 (by decide)) (hS 10 (by decide)) rfl rfl rfl
    have hP' : RelP S' T := RelP_fr hPp (hS 5 (by decide)) (hS 6 (by decide)) rfl rfl
    have hpe' : ∀ j : Nat, j < n0 → vp_in (S' 11 j) 10 := by rw [hS 11 (by decide)]; exact hpe
    have hrow : ∀ j : Nat, j < 30 → S' 11 j = T 6 j ∧ S' 12 j = T 7 j ∧ S' 13 j = T 8 j ∧ S' 14 j = T 9 j ∧ O j = P j := by
      rw [hS 11 (by decide), hS 12 (by decide), hS 13 (by decide), hS 14 (by decide)]; exact hSs.2
    have hdue : ∀ j : Nat, j < n0 → c_isDue S' (c_paV V (nI d)) j (V 0 + nI d) (S' 5 (S' 11 j).toNatClampNeg) = m_ends T (m_paV U (nI d)) j := by
      intro j hj
      obtain ⟨r1, r2, r3, r4, r5⟩ := hrow j (by omega)
      exact due_eq (V := c_paV V (nI d)) (U := m_paV U (nI d)) hP' hj hn0 hpe' ⟨r1, r2, r3, r4⟩ e2 e3 e1
    refine ⟨fun _ => ?_, ?_⟩
    · rw [if_pos hv, ed_n, sw_n]
      exact cntI_congr (fun j hj => by rw [hdue j hj, (hrow j (by omega)).2.2.2.2])
    · simp only [if_pos hK0, if_pos hv]
      refine ⟨hG', hP', ⟨⟨n0, hn0, (cp1 V _).trans hct, (mp2 U _).trans hctm, hpe'⟩, fun j hj => ?_⟩, ⟨e0, e2, e3⟩, ?_⟩
      · obtain ⟨r1, r2, r3, r4, r5⟩ := hrow j hj
        refine ⟨r1, r2, r3, r4, ?_⟩
        rw [ed_pt, sw_pt, r5]
        by_cases hj0 : j < n0
        · rw [hdue j hj0]
        · rw [decide_eq_false hj0, Bool.false_and, Bool.false_and]
      · obtain ⟨t, ht, hV, hA⟩ := hC
        have hVd : V 0 + nI d = nI (t + d) := by rw [hV, nI_add]
        refine ⟨t + d, by omega, (cp0 V _).trans hVd, fun a ha => ?_⟩
        obtain ⟨c, hc, c1, c2, c3⟩ := hA a ha
        refine ⟨c, hc, by rw [hS 16 (by decide)]; exact c1, c2, fun j hj => ?_⟩
        rw [h17 a j ha hj, hS 18 (by decide), hVd, c1]
        exact dec_drop (c3 j hj) (by omega) (by omega) hc (Or.inl rfl) (Or.inl rfl)
  · have hK1 : ¬ c_paK x0 = 0 := by rw [hK, if_neg hv]; decide
    refine ⟨fun h => absurd h hK1, ?_⟩
    simp only [if_neg hK1, if_neg hv]
    exact Rel_fail hR _
theorem q_breakGlass {k : Nat} {S : Nat → Nat → Int32} {O : Nat → Bool} {V : Nat → Int32} {T : Nat → Nat → Int32} {P : Nat → Bool} {U : Nat → Int32} (hR : Rel k S O V T P U) (hk5 : k < 512) {n0 : Nat} (hn0 : n0 ≤ 30) (hct : V 1 = nI n0) (hctm : U 2 = nI n0) (hpe : ∀ j : Nat, j < n0 → vp_in (S 11 j) 10) (hpem : ∀ j : Nat, j < n0 → vp_in (T 6 j) 10) (x0 : Int32) (x1 : Int32) (x2 : Int32) (x3 : Int32) :
    (va_up U 0 (m_bgK T x0 x1 x2 x3)) 0 = c_bgK S x0 x1 x2 x3 ∧ (c_bgK S x0 x1 x2 x3 = 0 → (V 0 + 60) = (if m_bgK T x0 x1 x2 x3 = 0 then U 1 + 60 else 0)) ∧ Rel (k + 1) (if c_bgK S x0 x1 x2 x3 = 0 then va_up S 6 (upd (S 6) (ix x0 * 6 + ix x1) (V 0 + 60)) else S) O V (if m_bgK T x0 x1 x2 x3 = 0 then va_up T 5 (upd (T 5) (6 * ix x0 + ix x1) (U 1 + 60)) else T) P (va_up U 0 (m_bgK T x0 x1 x2 x3)) := by
  have hK : c_bgK S x0 x1 x2 x3 = m_bgK T x0 x1 x2 x3 := by
    by_cases hx : m_bgOk x0 x1 x2 x3 = true
    · rw [m_bgK, if_pos hx, c_bgK]
      simp only [m_bgOk, Bool.and_eq_true, Bool.not_eq_true', decide_eq_false_iff_not] at hx
      obtain ⟨a, b, c, d, e, f, g⟩ := hx
      simp only [oi10, oi6, a, b, c, d, if_neg e, if_neg f, if_neg g]
      obtain ⟨r, hr, rfl⟩ := m_in5 b
      obtain ⟨z, hz, rfl⟩ := m_in9 c
      obtain ⟨w, hw, rfl⟩ := m_in9 d
      rw [ixN (by omega), ixN (by omega), ixN (by omega), serves_eq hR.1 hR.2.1 hz hr, serves_eq hR.1 hR.2.1 hw hr]
      cases m_serves T z r <;> cases m_serves T w r <;> rfl
    · rw [m_bgK, if_neg hx, c_bgK, oi10, oi6, oi10, oi10]
      cases h1 : m_in x0 0 9
      · rfl
      · cases h2 : m_in x1 0 5
        · rfl
        · cases h3 : m_in x2 0 9
          · rfl
          · cases h4 : m_in x3 0 9
            · rfl
            · by_cases e1 : x0 = x2
              · simp [e1]
              · by_cases e2 : x0 = x3
                · simp [e1, e2]
                · by_cases e3 : x2 = x3
                  · simp [e1, e2, e3]
                  · exact absurd (by simp [m_bgOk, h1, h2, h3, h4, e1, e2, e3]) hx
  refine ⟨hK.symm, ?_⟩
  by_cases hv : m_bgK T x0 x1 x2 x3 = 0
  · have hK0 : c_bgK S x0 x1 x2 x3 = 0 := hK.trans hv
    obtain ⟨hG, hPp, hSs, hKk, hC⟩ := hR
    have hb : m_bgOk x0 x1 x2 x3 = true := by
      cases h : m_bgOk x0 x1 x2 x3
      · rw [m_bgK] at hv; simp [h] at hv
      · rfl
    obtain ⟨v1, hb⟩ := andT hb
    obtain ⟨v2, -⟩ := andT hb
    obtain ⟨p, hp, rfl⟩ := m_in9 v1
    obtain ⟨r, hr, rfl⟩ := m_in5 v2
    have ep : ix (nI p) = p := ixN (by omega)
    have er : ix (nI r) = r := ixN (by omega)
    rw [ep, er]
    refine ⟨fun _ => by rw [if_pos hv, hKk.1], ?_⟩
    simp only [if_pos hK0, if_pos hv]
    refine ⟨hG, ⟨hPp.1, fun j hj => ?_⟩, hSs, hKk, RelC_fr hC rfl rfl rfl rfl rfl rfl⟩
    show upd (S 6) (p * 6 + r) (V 0 + 60) j = upd (T 5) (6 * p + r) (U 1 + 60) j
    rw [show p * 6 + r = 6 * p + r by omega, hKk.1, upd, upd, hPp.2 j hj]
  · have hK1 : ¬ c_bgK S x0 x1 x2 x3 = 0 := by rw [hK]; exact hv
    refine ⟨fun h => absurd h hK1, ?_⟩
    simp only [if_neg hK1, if_neg hv]
    exact Rel_fail hR _
theorem q_setCache {k : Nat} {S : Nat → Nat → Int32} {O : Nat → Bool} {V : Nat → Int32} {T : Nat → Nat → Int32} {P : Nat → Bool} {U : Nat → Int32} (hR : Rel k S O V T P U) (hk5 : k < 512) {n0 : Nat} (hn0 : n0 ≤ 30) (hct : V 1 = nI n0) (hctm : U 2 = nI n0) (hpe : ∀ j : Nat, j < n0 → vp_in (S 11 j) 10) (hpem : ∀ j : Nat, j < n0 → vp_in (T 6 j) 10) (x0 : Int32) (x1 : Int32) :
    (va_up U 0 (if m_scOk x0 x1 = true then 0 else 1)) 0 = c_scK x0 x1 ∧ (c_scK x0 x1 = 0 → (S 16 (ix x0)) = (if m_scOk x0 x1 = true then T 11 (ix x0) else 0)) ∧ Rel (k + 1) (if c_scK x0 x1 = 0 then c_scS S V (ix x0) x1 else S) O V (if m_scOk x0 x1 = true then m_scS T (va_up U 0 0) (ix x0) x1 else T) P (va_up U 0 (if m_scOk x0 x1 = true then 0 else 1)) := by
  have hK := scK_eq x0 x1
  refine ⟨hK.symm, ?_⟩
  by_cases hv : m_scOk x0 x1 = true
  · have hK0 : c_scK x0 x1 = 0 := by rw [hK, if_pos hv]
    obtain ⟨v1, v2⟩ := andT hv
    obtain ⟨a, ha, rfl⟩ := m_in3 v1
    obtain ⟨c2, hc2, rfl⟩ := m_in60 v2
    obtain ⟨hG, hPp, hSs, hKk, hC⟩ := hR
    have ea : ix (nI a) = a := ixN (by omega)
    rw [ea]
    obtain ⟨t, ht, hV, hA⟩ := hC
    have hU : va_up U 0 0 1 = nI t := by rw [ups, if_neg (by decide), ← hKk.1, hV]
    refine ⟨fun _ => ?_, ?_⟩
    · obtain ⟨c, hc, c1, c2, c3⟩ := hA a ha
      rw [if_pos hv, c1, c2]
    · simp only [if_pos hK0, if_pos hv]
      have hS : ∀ w : Nat, w ≠ 17 → w ≠ 16 → c_scS S V a (nI c2) w = S w := by
        intro w h1 h2
        rw [c_scS, c_ddS_ne _ _ _ _ _ h1, ups, if_neg h2]
      have hS16 : c_scS S V a (nI c2) 16 = upd (S 16) a (nI c2) := by
        rw [c_scS, c_ddS_ne _ _ _ _ _ (by decide), ups, if_pos rfl]
      have hS17 : ∀ i : Nat, c_scS S V a (nI c2) 17 i = if a * 60 ≤ i ∧ i < a * 60 + 60 then (if V 0 - S 18 i < nI c2 then S 17 i else -1) else S 17 i := by
        intro i
        have u18 : va_up S 16 (upd (S 16) a (nI c2)) 18 = S 18 := rfl
        have u17 : va_up S 16 (upd (S 16) a (nI c2)) 17 = S 17 := rfl
        have u16 : va_up S 16 (upd (S 16) a (nI c2)) 16 = upd (S 16) a (nI c2) := rfl
        have ua : upd (S 16) a (nI c2) a = nI c2 := by rw [upd, if_pos rfl]
        rw [c_scS, dd_pt, u18, u17, u16, ua]
      have hT : ∀ w : Nat, w ≠ 11 → w ≠ 12 → m_scS T (va_up U 0 0) a (nI c2) w = T w := by
        intro w h1 h2
        rw [m_scS, dr_ne _ _ _ _ _ h2, ups, if_neg h1, dr_ne _ _ _ _ _ h2]
      have hT11 : m_scS T (va_up U 0 0) a (nI c2) 11 = upd (T 11) a (nI c2) := by
        rw [m_scS, dr_ne _ _ _ _ _ (by decide), ups, if_pos rfl, dr_ne _ _ _ _ _ (by decide)]
      have hT12 : ∀ i : Nat, m_scS T (va_up U 0 0) a (nI c2) 12 i = if 60 * a ≤ i ∧ i < 60 * a + 60 then (if m_keeps (va_up (m_drS T (va_up U 0 0) a 60) 11 (upd (m_drS T (va_up U 0 0) a 60 11) a (nI c2))) (va_up U 0 0) a i = true then m_drS T (va_up U 0 0) a 60 12 i else -1) else m_drS T (va_up U 0 0) a 60 12 i := by
        intro i
        rw [m_scS, dr_pt, up_ne _ 11 12 _ (by decide)]
      generalize c_scS S V a (nI c2) = S' at hS hS16 hS17 ⊢
      generalize m_scS T (va_up U 0 0) a (nI c2) = T' at hT hT11 hT12 ⊢
      refine ⟨RelG_fr hG (hS 7 (by decide) (by decide)) (hS 8 (by decide) (by decide)) (hS 9 (by decide) (by decide)) (hS 10 (by decide) (by decide)) (hT 1 (by decide) (by decide)) (hT 2 (by decide) (by decide)) (hT 3 (by decide) (by decide)), RelP_fr hPp (hS 5 (by decide) (by decide)) (hS 6 (by decide) (by decide)) (hT 4 (by decide) (by decide)) (hT 5 (by decide) (by decide)), ?_, hKk, ?_⟩
      · refine ⟨⟨n0, hn0, hct, hctm, ?_⟩, ?_⟩
        · rw [hS 11 (by decide) (by decide)]; exact hpe
        · rw [hS 11 (by decide) (by decide), hS 12 (by decide) (by decide), hS 13 (by decide) (by decide), hS 14 (by decide) (by decide), hT 6 (by decide) (by decide), hT 7 (by decide) (by decide), hT 8 (by decide) (by decide), hT 9 (by decide) (by decide)]; exact hSs.2
      · refine ⟨t, by omega, hV, fun a' ha' => ?_⟩
        obtain ⟨c, hc, k1, k2, k3⟩ := hA a' ha'
        by_cases e : a' = a
        · subst e
          refine ⟨c2, by omega, by rw [hS16, upd, if_pos rfl], by rw [hT11, upd, if_pos rfl], fun j hj => ?_⟩
          rw [hS17, hT12, hS 18 (by decide) (by decide), if_pos (show a' * 60 ≤ 60 * a' + j ∧ 60 * a' + j < a' * 60 + 60 by omega), if_pos (show 60 * a' ≤ 60 * a' + j ∧ 60 * a' + j < 60 * a' + 60 by omega), hV]
          have hd := k3 j hj
          have hdk := dec_keeps hU k2 (by omega) hc hd
          have hr : 60 * a' ≤ 60 * a' + j ∧ 60 * a' + j < 60 * a' + 60 := by omega
          generalize 60 * a' + j = i at hd hdk hr ⊢
          have hK1 : m_drS T (va_up U 0 0) a' 60 12 i = if m_keeps T (va_up U 0 0) a' i = true then T 12 i else -1 := by rw [dr_pt, if_pos hr]
          rcases hdk with ⟨-, hk⟩ | ⟨t', b, hb, ht', -, -, hKi, hlt, hk⟩
          · rw [hk, if_neg (by decide)] at hK1
            rw [hK1, ite_self]
            refine dec_drop hd (Nat.le_refl _) (by omega) (by omega) (Or.inr ⟨rfl, fun t' b hb ht' hKi => Or.inl ?_⟩) (Or.inr (Or.inl rfl))
            rw [keeps_eq hU k2 hKi hb ht' (by omega) hc] at hk
            have := of_decide_eq_false hk
            omega
          · rw [hk, if_pos rfl] at hK1
            have hk2 := keeps_eq (T := va_up (m_drS T (va_up U 0 0) a' 60) 11 (upd (m_drS T (va_up U 0 0) a' 60 11) a' (nI c2))) (a := a') (i := i) (c := c2) hU (by rw [up_eq, upd, if_pos rfl]) (by rw [up_ne _ 11 12 _ (by decide), hK1]; exact hKi) hb ht' (by omega) (by omega)
            rw [hk2, hK1]
            by_cases hl : t - t' < c2
            · rw [if_pos (decide_eq_true hl : decide (t - t' < c2) = true)]
              exact dec_drop hd (Nat.le_refl _) (by omega) (by omega) (Or.inl rfl) (Or.inr (Or.inr ⟨t', b, hb, ht', hKi, rfl, hlt⟩))
            · rw [if_neg (show ¬ decide (t - t' < c2) = true by rw [decide_eq_false hl]; decide)]
              refine dec_drop hd (Nat.le_refl _) (by omega) (by omega) (Or.inr ⟨rfl, fun t2 b2 hb2 ht2 hK2 => Or.inr ?_⟩) (Or.inr (Or.inl rfl))
              have h5 : 2 * t' + b = 2 * t2 + b2 := (nI_eq (by omega) (by omega)).mp (hKi.symm.trans hK2)
              omega
        · refine ⟨c, hc, by rw [hS16, upd, if_neg e]; exact k1, by rw [hT11, upd, if_neg e]; exact k2, fun j hj => ?_⟩
          rw [hS17, hT12, hS 18 (by decide) (by decide), if_neg (by omega), if_neg (by omega), dr_pt, if_neg (by omega)]
          exact k3 j hj
  · have hK1 : ¬ c_scK x0 x1 = 0 := by rw [hK, if_neg hv]; decide
    refine ⟨fun h => absurd h hK1, ?_⟩
    simp only [if_neg hK1, if_neg hv]
    exact Rel_fail hR _
theorem q_decide {k : Nat} {S : Nat → Nat → Int32} {O : Nat → Bool} {V : Nat → Int32} {T : Nat → Nat → Int32} {P : Nat → Bool} {U : Nat → Int32} (hR : Rel k S O V T P U) (hk5 : k < 512) {n0 : Nat} (hn0 : n0 ≤ 30) (hct : V 1 = nI n0) (hctm : U 2 = nI n0) (hpe : ∀ j : Nat, j < n0 → vp_in (S 11 j) 10) (hpem : ∀ j : Nat, j < n0 → vp_in (T 6 j) 10) (x0 : Int32) (x1 : Int32) (x2 : Int32) :
    (va_up U 0 (m_deK U x0 x1 x2)) 0 = c_deK V x0 x1 x2 ∧ (c_deK V x0 x1 x2 = 0 → (if O (ix x1) = true then 2 else c_appR (c_deS1 S V (ix x1)) V (ix x0) (ix (S 11 (ix x1))) (ix x2)) = (if m_deK U x0 x1 x2 = 0 then (if P (ix x1) = true then 2 else m_deR T U (ix x0) (ix x1) (ix x2)) else 0)) ∧ Rel (k + 1) (if c_deK V x0 x1 x2 = 0 then if O (ix x1) = true then S else c_appS (c_deS1 S V (ix x1)) V (ix x0) (ix (S 11 (ix x1))) (ix x2) else S) O V (if m_deK U x0 x1 x2 = 0 then (if P (ix x1) = true then T else m_deS T U (ix x0) (ix x1) (ix x2)) else T) P (va_up U 0 (m_deK U x0 x1 x2)) := by
  have hh := has_eq hct hctm hn0 x1
  have hK : c_deK V x0 x1 x2 = m_deK U x0 x1 x2 := by
    rw [c_deK, m_deK, oi4, oi6, hh]; cases m_in x0 0 3 <;> cases m_in x2 0 5 <;> rfl
  refine ⟨hK.symm, ?_⟩
  by_cases hv : m_deK U x0 x1 x2 = 0
  · have hK0 : c_deK V x0 x1 x2 = 0 := hK.trans hv
    have h1 : m_in x0 0 3 = true ∧ m_in x2 0 5 = true ∧ m_in x1 0 (U 2 - 1) = true := by
      rw [m_deK] at hv
      cases h1 : m_in x0 0 3 <;> cases h2 : m_in x2 0 5 <;> cases h3 : m_in x1 0 (U 2 - 1) <;> simp [h1, h2, h3] at hv ⊢
    obtain ⟨v1, v3, v2⟩ := h1
    obtain ⟨a, ha, rfl⟩ := m_in3 v1
    obtain ⟨s, hs, rfl⟩ := m_inC v2 hctm hn0
    obtain ⟨r, hr, rfl⟩ := m_in5 v3
    have ea : ix (nI a) = a := ixN (by omega)
    have es : ix (nI s) = s := ixN (by omega)
    have er : ix (nI r) = r := ixN (by omega)
    obtain ⟨q1, -, -, -, q5⟩ := hR.2.2.1.2 s (by omega)
    obtain ⟨p, hp, epp⟩ := vp_in_of (hpe s hs) (by decide)
    have ep : ix (S 11 s) = p := by rw [epp]; exact ixN (by omega)
    have ep' : ix (T 6 s) = p := by rw [← q1]; exact ep
    rw [ea, es, er, ep, q5]
    cases hO : P s
    · simp only [Bool.false_eq_true, if_false, if_pos hK0, if_pos hv]
      have hat : m_deAt T a s r = a * 60 + p * 6 + r := by rw [m_deAt, ep']; omega
      have hR1 : Rel (k + 1) (c_deS1 S V s) O V (m_deS1 T U s) P (va_up U 0 0) := by
        obtain ⟨hG, hPp, hSs, hKk, hC⟩ := hR
        refine ⟨hG, hPp, ⟨hSs.1, fun j hj => ?_⟩, hKk, RelC_fr hC rfl rfl rfl rfl rfl rfl⟩
        obtain ⟨r1, r2, r3, r4, r5⟩ := hSs.2 j hj
        refine ⟨r1, r2, r3, ?_, r5⟩
        show upd (S 14) s (V 0) j = upd (T 9) s (U 1) j
        rw [upd, upd, hKk.1, r4]
      have h12 : m_deS1 T U s 12 = T 12 := rfl
      rw [m_deR, m_deS, hat, ep', ← h12]
      have e16 : c_deS1 S V s 16 = S 16 := rfl
      generalize c_deS1 S V s = S1 at hR1 ⊢
      generalize m_deS1 T U s = T1 at hR1 ⊢
      obtain ⟨hG, hPp, hSs, hKk, hC⟩ := hR1
      obtain ⟨t, ht, hV, hA⟩ := hC
      have hU : U 1 = nI t := hKk.1.symm.trans hV
      obtain ⟨c, hc, k1, k2, k3⟩ := hA a ha
      have hd := k3 (p * 6 + r) (by omega)
      rw [show 60 * a + (p * 6 + r) = a * 60 + p * 6 + r by omega] at hd
      have hL : c_lets S1 V p r = m_lets T1 U p r := lets_eq hG hPp hKk.1 hp hr
      have hbit : ∀ t' b : Nat, b ≤ 1 → t' ≤ t → (1 : Int32) - (nI (2 * t' + b) - nI (2 * t' + b) / 2 * 2) = nI (1 - b) := by
        intro t' b hb ht'
        have h5 : nI (2 * t' + b) - nI (2 * t' + b) / nI 2 * nI 2 = nI ((2 * t' + b) % 2) := pk_rem (by omega) (by decide) (by decide)
        rw [show (2 : Int32) = nI 2 from rfl, h5, show (2 * t' + b) % 2 = b by omega, show (1 : Int32) = nI 1 from rfl, pk_sub hb]
      rcases dec_keeps hU k2 (by omega) hc hd with ⟨hA1, hk⟩ | ⟨t', b, hb, ht', hA1, hAn, hKi, hlt, hk⟩
      · have hk' : ¬ m_keeps T1 U a (a * 60 + p * 6 + r) = true := by rw [hk]; decide
        obtain ⟨b, hb, hLb, hHb⟩ : ∃ b : Nat, b ≤ 1 ∧ (if m_lets T1 U p r = true then (1 : Int32) else 0) = nI b ∧ c_house S1 V p r = nI (1 - b) := by
          rw [c_house, hL]
          cases m_lets T1 U p r
          · exact ⟨0, by omega, rfl, rfl⟩
          · exact ⟨1, by omega, rfl, rfl⟩
        have hnew : 2 * U 1 + nI b = nI (2 * t + b) := by rw [hU, show (2 : Int32) = nI 2 from rfl, pk_mul, nI_add]
        simp only [if_neg hk', c_appR, c_appS, if_pos hA1, hHb, hLb, hnew]
        refine ⟨fun _ => ?_, ?_⟩
        · show nI (1 - b) = 1 - (upd (T1 12) (a * 60 + p * 6 + r) (nI (2 * t + b)) (a * 60 + p * 6 + r) - upd (T1 12) (a * 60 + p * 6 + r) (nI (2 * t + b)) (a * 60 + p * 6 + r) / 2 * 2)
          rw [upd, if_pos rfl, hbit t b hb (Nat.le_refl _)]
        · rw [c_keep, k1]
          by_cases hc0 : nI c = 0
          · have hc0' : c = 0 := (nI_eq (b := 0) (by omega) (by decide)).mp hc0
            subst hc0'
            rw [if_pos hc0]
            refine ⟨hG, hPp, hSs, hKk, t, ht, hV, fun a' ha' => ?_⟩
            obtain ⟨c', hc', k1', k2', k3'⟩ := hA a' ha'
            refine ⟨c', hc', k1', k2', fun j hj => ?_⟩
            show Dec t c' (S1 17 (60 * a' + j)) (upd (T1 12) (a * 60 + p * 6 + r) (nI (2 * t + b)) (60 * a' + j)) (S1 18 (60 * a' + j))
            by_cases e : 60 * a' + j = a * 60 + p * 6 + r
            · have : a' = a := by omega
              subst this
              have : c' = 0 := (nI_eq (by omega) (by omega)).mp (k1'.symm.trans k1)
              subst this
              rw [e, upd, if_pos rfl]
              exact Or.inl ⟨hA1, Or.inr ⟨t, b, hb, Nat.le_refl _, rfl, Nat.zero_le _⟩⟩
            · rw [upd, if_neg e]; exact k3' j hj
          · have hc0' : c ≠ 0 := fun h => hc0 (by rw [h]; rfl)
            rw [if_neg hc0]
            refine ⟨hG, hPp, hSs, hKk, t, ht, hV, fun a' ha' => ?_⟩
            obtain ⟨c', hc', k1', k2', k3'⟩ := hA a' ha'
            refine ⟨c', hc', k1', k2', fun j hj => ?_⟩
            show Dec t c' (upd (S1 17) (a * 60 + p * 6 + r) (nI (1 - b)) (60 * a' + j)) (upd (T1 12) (a * 60 + p * 6 + r) (nI (2 * t + b)) (60 * a' + j)) (upd (S1 18) (a * 60 + p * 6 + r) (V 0) (60 * a' + j))
            by_cases e : 60 * a' + j = a * 60 + p * 6 + r
            · have : a' = a := by omega
              subst this
              have : c' = c := (nI_eq (by omega) (by omega)).mp (k1'.symm.trans k1)
              subst this
              rw [e, upd, if_pos rfl, upd, if_pos rfl, upd, if_pos rfl]
              exact Or.inr ⟨t, b, hb, Nat.le_refl _, rfl, hV, rfl, by omega⟩
            · rw [upd, if_neg e, upd, if_neg e, upd, if_neg e]; exact k3' j hj
      · simp only [if_pos hk, c_appR, c_appS, if_neg hAn]
        refine ⟨fun _ => ?_, hG, hPp, hSs, hKk, t, ht, hV, hA⟩
        rw [hKi, hbit t' b hb ht', hA1]
    · simp only [if_pos hK0, if_pos hv, ↓reduceIte]
      exact ⟨fun _ => trivial, Rel_fail hR _⟩
  · have hK1 : ¬ c_deK V x0 x1 x2 = 0 := by rw [hK]; exact hv
    refine ⟨fun h => absurd h hK1, ?_⟩
    simp only [if_neg hK1, if_neg hv]
    exact Rel_fail hR _
theorem q_forget {k : Nat} {S : Nat → Nat → Int32} {O : Nat → Bool} {V : Nat → Int32} {T : Nat → Nat → Int32} {P : Nat → Bool} {U : Nat → Int32} (hR : Rel k S O V T P U) (hk5 : k < 512) {n0 : Nat} (hn0 : n0 ≤ 30) (hct : V 1 = nI n0) (hctm : U 2 = nI n0) (hpe : ∀ j : Nat, j < n0 → vp_in (S 11 j) 10) (hpem : ∀ j : Nat, j < n0 → vp_in (T 6 j) 10) (x0 : Int32) (x1 : Int32) :
    (va_up U 0 (if m_foOk x0 x1 = true then 0 else 1)) 0 = c_foK x0 x1 ∧ (c_foK x0 x1 = 0 → (c_daN S (ix x0) (ix x1) 6) = (if m_foOk x0 x1 = true then m_foN T (va_up U 0 0) (ix x0) (ix x1) 6 else 0)) ∧ Rel (k + 1) (if c_foK x0 x1 = 0 then c_daS S (ix x0) (ix x1) 6 else S) O V (if m_foOk x0 x1 = true then m_foS T (ix x0) (ix x1) 6 else T) P (va_up U 0 (if m_foOk x0 x1 = true then 0 else 1)) := by
  have hK := foK_eq x0 x1
  refine ⟨hK.symm, ?_⟩
  by_cases hv : m_foOk x0 x1 = true
  · have hK0 : c_foK x0 x1 = 0 := by rw [hK, if_pos hv]
    obtain ⟨v1, v2⟩ := andT hv
    obtain ⟨a, ha, rfl⟩ := m_in3 v1
    obtain ⟨p, hp, rfl⟩ := m_in9 v2
    obtain ⟨hG, hPp, hSs, hKk, hC⟩ := hR
    have ea : ix (nI a) = a := ixN (by omega)
    have ep : ix (nI p) = p := ixN (by omega)
    rw [ea, ep]
    obtain ⟨t, ht, hV, hA⟩ := hC
    have hU : va_up U 0 0 1 = nI t := by rw [ups, if_neg (by decide), ← hKk.1, hV]
    refine ⟨fun _ => ?_, ?_⟩
    · rw [if_pos hv, da_n, fo_n]
      refine cntI_congr (fun j hj => ?_)
      obtain ⟨c, hc, k1, k2, k3⟩ := hA a ha
      have hd := k3 (p * 6 + j) (by omega)
      rw [show 60 * a + (p * 6 + j) = 60 * a + 6 * p + j by omega] at hd
      rw [show a * 60 + p * 6 + j = 60 * a + 6 * p + j by omega]
      rcases dec_keeps hU k2 (by omega) hc hd with ⟨h1, h2⟩ | ⟨t', b, -, -, -, h1, -, -, h2⟩
      · rw [h2, decide_eq_true h1]; rfl
      · rw [h2, decide_eq_false h1]; rfl
    · simp only [if_pos hK0, if_pos hv]
      have hS : ∀ w : Nat, w ≠ 17 → c_daS S a p 6 w = S w := fun w hw => da_ne S a p 6 w hw
      have hT : ∀ w : Nat, w ≠ 12 → m_foS T a p 6 w = T w := fun w hw => fo_ne T a p 6 w hw
      have h17 : ∀ i : Nat, c_daS S a p 6 17 i = if a * 60 + p * 6 ≤ i ∧ i < a * 60 + p * 6 + 6 then -1 else S 17 i := fun i => da_pt S a p 6 i
      have h12 : ∀ i : Nat, m_foS T a p 6 12 i = if 60 * a + 6 * p ≤ i ∧ i < 60 * a + 6 * p + 6 then -1 else T 12 i := fun i => fo_pt T a p 6 i
      generalize c_daS S a p 6 = S' at hS h17 ⊢
      generalize m_foS T a p 6 = T' at hT h12 ⊢
      refine ⟨RelG_fr hG (hS 7 (by decide)) (hS 8 (by decide)) (hS 9 (by decide)) (hS 10 (by decide)) (hT 1 (by decide)) (hT 2 (by decide)) (hT 3 (by decide)), RelP_fr hPp (hS 5 (by decide)) (hS 6 (by decide)) (hT 4 (by decide)) (hT 5 (by decide)), ?_, hKk, ?_⟩
      · refine ⟨⟨n0, hn0, hct, hctm, ?_⟩, ?_⟩
        · rw [hS 11 (by decide)]; exact hpe
        · rw [hS 11 (by decide), hS 12 (by decide), hS 13 (by decide), hS 14 (by decide), hT 6 (by decide), hT 7 (by decide), hT 8 (by decide), hT 9 (by decide)]; exact hSs.2
      · refine ⟨t, by omega, hV, fun a' ha' => ?_⟩
        obtain ⟨c, hc, k1, k2, k3⟩ := hA a' ha'
        refine ⟨c, hc, by rw [hS 16 (by decide)]; exact k1, by rw [hT 11 (by decide)]; exact k2, fun j hj => ?_⟩
        rw [h17, h12, hS 18 (by decide)]
        by_cases h : 60 * a + 6 * p ≤ 60 * a' + j ∧ 60 * a' + j < 60 * a + 6 * p + 6
        · rw [if_pos h, if_pos (by omega)]
          exact Or.inl ⟨rfl, Or.inl rfl⟩
        · rw [if_neg h, if_neg (by omega)]
          exact k3 j hj
  · have hK1 : ¬ c_foK x0 x1 = 0 := by rw [hK, if_neg hv]; decide
    refine ⟨fun h => absurd h hK1, ?_⟩
    simp only [if_neg hK1, if_neg hv]
    exact Rel_fail hR _
theorem q_stale {k : Nat} {S : Nat → Nat → Int32} {O : Nat → Bool} {V : Nat → Int32} {T : Nat → Nat → Int32} {P : Nat → Bool} {U : Nat → Int32} (hR : Rel k S O V T P U) (hk5 : k < 512) {n0 : Nat} (hn0 : n0 ≤ 30) (hct : V 1 = nI n0) (hctm : U 2 = nI n0) (hpe : ∀ j : Nat, j < n0 → vp_in (S 11 j) 10) (hpem : ∀ j : Nat, j < n0 → vp_in (T 6 j) 10) (x0 : Int32) :
    (va_up U 0 (if m_in x0 0 3 = true then 0 else 1)) 0 = c_stK x0 ∧ (c_stK x0 = 0 → (c_stO S V (ix x0) 10) = (if m_in x0 0 3 = true then m_stN T (va_up U 0 0) (ix x0) 60 else 0)) ∧ Rel (k + 1) S O V T P (va_up U 0 (if m_in x0 0 3 = true then 0 else 1)) := by
  have hK := stK_eq x0
  refine ⟨hK.symm, fun h0 => ?_, Rel_fail hR _⟩
  by_cases hv : m_in x0 0 3 = true
  · rw [if_pos hv]
    obtain ⟨a, ha, rfl⟩ := m_in3 hv
    rw [ixN (by omega)]
    obtain ⟨hG, hPp, hSs, hKk, hC⟩ := hR
    obtain ⟨t, ht, hV, hA⟩ := hC
    have hU : va_up U 0 0 1 = nI t := by rw [ups, if_neg (by decide), ← hKk.1, hV]
    have hV1 : V 0 = va_up U 0 0 1 := hV.trans hU.symm
    generalize va_up U 0 0 = U' at hU hV1 ⊢
    obtain ⟨c, hc, k1, k2, k3⟩ := hA a ha
    have hone : ∀ p r : Nat, p < 10 → r < 6 → c_stale1 S V a p r = m_st1 T U' a (6 * p + r) := by
      intro p r hp hr
      have hd := k3 (6 * p + r) (by omega)
      rw [c_stale1, m_st1, show a * 60 + p * 6 + r = 60 * a + (6 * p + r) by omega, show (6 * p + r) / 6 = p by omega, show (6 * p + r) % 6 = r by omega, c_house, lets_eq hG hPp hV1 hp hr]
      rcases dec_keeps hU k2 (by omega) hc hd with ⟨h1, h2⟩ | ⟨t', b, hb, ht', hA1, h1, hKi, hlt, h2⟩
      · rw [h2, decide_eq_true h1]; rfl
      · have h5 : nI (2 * t' + b) - nI (2 * t' + b) / nI 2 * nI 2 = nI ((2 * t' + b) % 2) := pk_rem (by omega) (by decide) (by decide)
        rw [h2, decide_eq_false h1, hA1, hKi, show (2 : Int32) = nI 2 from rfl, h5, show (2 * t' + b) % 2 = b by omega]
        rcases (by omega : b = 0 ∨ b = 1) with rfl | rfl <;> cases m_lets T U' p r <;> decide
    have hI : ∀ p n : Nat, p < 10 → n ≤ 6 → c_stI S V a (m_stN T U' a (6 * p)) p n = m_stN T U' a (6 * p + n) := by
      intro p n hp hn
      induction n with
      | zero => rfl
      | succ n ih =>
        rw [c_stI, ih (by omega), hone p n hp (by omega), show 6 * p + (n + 1) = 6 * p + n + 1 by omega, m_stN]
        cases m_st1 T U' a (6 * p + n) <;> simp
    have hO : ∀ p : Nat, p ≤ 10 → c_stO S V a p = m_stN T U' a (6 * p) := by
      intro p hp
      induction p with
      | zero => rfl
      | succ p ih => rw [c_stO, ih (by omega), hI p 6 (by omega) (by omega), show 6 * (p + 1) = 6 * p + 6 by omega]
    exact hO 10 (by omega)
  · rw [hK, if_neg hv] at h0; exact absurd h0 (by decide)
