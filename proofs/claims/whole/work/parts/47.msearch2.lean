section
theorem vG_aP {nz nt : Nat} {ft : Nat → Nat → Prop} {g : Nat → Nat} (h : aP nz nt ft g) : vG nz nt g := by
  refine ⟨fun t => ?_, fun s t e hne => ?_⟩
  · by_cases q : t < nt
    · exact Or.inl ⟨q, aP_lt h q⟩
    · exact Or.inr (h.2 t (by omega))
  · by_cases q : s < nt
    · by_cases q2 : t < nt
      · exact absurd (inj_of h.1 q q2 e) hne
      · rw [e]; exact h.2 t (by omega)
    · exact h.2 s (by omega)
theorem ch_mv {ch : Nat → Int32} {lc : Nat → Nat} {nt t s : Nat} (h : ∀ t5, t5 < nt → ch t5 = chI lc t5) (hs : 0 < s) : ∀ t5, t5 < nt → upd ch t (nI s) t5 = chI (updN lc t s) t5 := fun t5 ht => by
  by_cases e : t5 = t
  · rw [e, pk_us, chI, updN_s, if_neg (by omega)]
  · rw [pk_un e, h t5 ht, chI, chI, updN_n _ _ e]
theorem ch_ex {ch : Nat → Int32} {lc : Nat → Nat} {nt t o s : Nat} (h : ∀ t5, t5 < nt → ch t5 = chI lc t5) (hs : 0 < s) : ∀ t5, t5 < nt → upd (upd ch t (nI s)) o (nI s) t5 = chI (updN (updN lc o s) t s) t5 := fun t5 ht => by
  by_cases e2 : t5 = t
  · by_cases e : t5 = o
    · rw [e, pk_us, chI]
      have : updN (updN lc o s) t s o = s := by rw [← e, e2, updN_s]
      rw [this, if_neg (by omega)]
    · rw [pk_un e, e2, pk_us, chI, updN_s, if_neg (by omega)]
  · by_cases e : t5 = o
    · rw [e, pk_us, chI, updN_n _ _ (by rw [← e]; exact e2), updN_s, if_neg (by omega)]
    · rw [pk_un e, pk_un e2, h t5 ht, chI, chI, updN_n _ _ e2, updN_n _ _ e]
theorem zo_mv {zo : Nat → Int32} {g : Nat → Nat} {nt t z : Nat} (h : pOK nt zo g) (hz : z < 7) : pOK nt (upd zo t (nI z)) (updN g t z) := by
  rw [← zI_lt hz]; exact pOK_upd h
theorem zo_ex {zo : Nat → Int32} {g : Nat → Nat} {nt t o : Nat} (h : pOK nt zo g) (ht : t < nt) (ho : o < nt) (hg : g o < 7) : pOK nt (upd (upd zo t (nI (g o))) o (zo t)) (swp g t o) := by
  have e : nI (g o) = zo o := by rw [h o ho, zI_lt hg]
  rw [e]; exact pOK_swp h ht ho
end
