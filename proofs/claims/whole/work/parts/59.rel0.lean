/-! how it begins -/
theorem cos0_T : ∀ i, i < 17 → cos0 i = cosT i := by decide +kernel
theorem cel00_M : CelM (fun _ => false) (0, fun _ => 0) := ⟨fun _ _ => rfl, cel0_C.2⟩
theorem rel0 : Rel K0 R0 R0 Q0 M0 0 0 (fun _ => 0) := by
  refine ⟨⟨by decide, by decide, rfl, rfl, ⟨fun i hi => cos0_T i hi, rfl, rfl, fun b hb => absurd hb (by omega)⟩, fun b hb => absurd hb (by omega), ⟨rfl, rfl, rfl, rfl, ⟨by decide, by decide⟩, ⟨by decide, by decide⟩, ⟨by decide, by decide⟩⟩, fun p hp => absurd hp (by omega)⟩, ?_, ?_⟩
  · intro pl hpl
    exact ⟨rfl, rfl, Nat.zero_le 6, fun i hi => absurd hi (Nat.not_lt_zero i)⟩
  · refine ⟨fun b hb => absurd hb (by omega), ⟨rfl, rfl, rfl, rfl, rfl, Or.inl rfl, ⟨by decide, by decide⟩⟩, fun b hb => absurd hb (by omega), fun _ => false, cel0_C, cel00_M⟩
