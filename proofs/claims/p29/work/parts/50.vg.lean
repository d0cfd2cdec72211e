section
theorem vG_aP {nz nt : Nat} {ft : Nat → Nat → Prop} {g : Nat → Nat} (h : aP nz nt ft g) : vG nz nt g := by
  refine ⟨fun t => ?_, fun s t e hne => ?_⟩
  · by_cases q : t < nt
    · exact Or.inl ⟨q, aP_lt h q⟩
    · exact Or.inr (h.2 t (by omega))
  · by_cases q : s < nt
    · by_cases q2 : t < nt
      · exact absurd (inj_of h.1 q q2 e) hne
      · rw [e]; exact h.2 t (by omega)
    · exact h.2 s (by omega)
end
