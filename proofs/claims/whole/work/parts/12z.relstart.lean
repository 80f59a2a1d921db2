/-! ===== before the first call ===== -/
theorem hasB_0 {g : Nat} (hg : g < 32) : hasB 0 (nI g) = false := by rw [hasB_bt hg, bt_0]
theorem Rel_start : Rel 0 (fun k => if k = 16 then fillA (fun _ => 0) 10 4 else if k = 17 then fillA (fun _ => 0) (-1) 240 else fun _ => 0) (fun _ => false) (fun _ => 0) (fun k => if k = 11 then fillA (fun _ => 0) 10 4 else if k = 12 then fillA (fun _ => 0) (-1) 240 else fun _ => 0) (fun _ => false) (fun _ => 0) := by
  refine ⟨⟨fun g p hg hp => ?_, fun g h hg hh => ?_, fun p _ => lt8_0, fun h _ => lt8_0, fun h _ => lt8_0, fun r _ => lt8_0, fun r _ => lt8_0, fun g r hg hr => ?_, fun g r hg hr => ?_⟩, ⟨fun p _ => ⟨rfl, ?_⟩, fun j _ => rfl⟩, ⟨⟨0, by decide, rfl, rfl, fun j hj => absurd hj (Nat.not_lt_zero j)⟩, fun j _ => ⟨rfl, rfl, rfl, rfl, rfl⟩⟩, ⟨rfl, rfl, rfl⟩, ⟨0, Nat.le_refl _, rfl, fun a ha => ⟨10, by decide, ?_, ?_, fun j hj => Or.inl ⟨?_, Or.inl ?_⟩⟩⟩⟩
  · show hasB 0 (nI g) = hasB 0 (nI p)
    rw [hasB_0 (by omega), hasB_0 (by omega)]
  · show hasB 0 (nI g) = hasB 0 (nI h)
    rw [hasB_0 (by omega), hasB_0 (by omega)]
  · show (0 : Int32) = (if hasB 0 (nI g) = true then 1 else if hasB 0 (nI g) = true then 2 else 0)
    rw [hasB_0 (by omega)]; rfl
  · show hasB 0 (nI g) = true → hasB 0 (nI g) = false
    exact fun _ => hasB_0 (by omega)
  · show (0 : Int32) ≤ 3
    decide
  · show fillA (fun _ => 0) 10 4 a = 10
    exact if_pos ha
  · show fillA (fun _ => 0) 10 4 a = 10
    exact if_pos ha
  · show fillA (fun _ => 0) (-1) 240 (60 * a + j) = -1
    exact if_pos (by omega)
  · show fillA (fun _ => 0) (-1) 240 (60 * a + j) = -1
    exact if_pos (by omega)
