section
/-! the reference without the machine, more -/
theorem pr_u2 {pr : Nat → Int32} {P : Nat → Nat → Int32} {a b : Nat} {v : Int32} (h : ∀ t j, t < 7 → j < 5 → pr (5 * t + j) = P t j) (hb : b < 5) : ∀ t j, t < 7 → j < 5 → upd pr (5 * a + b) v (5 * t + j) = u2 P a b v t j := fun t j ht hj => by
  by_cases e : 5 * t + j = 5 * a + b
  · have e1 : t = a := by omega
    have e2 : j = b := by omega
    subst e1; subst e2
    rw [pk_us]; simp [u2, upd]
  · rw [pk_un e, h t j ht hj]
    unfold u2
    by_cases e1 : t = a
    · subst e1
      rw [if_pos rfl, pk_un (show j ≠ b by omega)]
    · rw [if_neg e1]
theorem mw_u2 {pr : Nat → Int32} {P : Nat → Nat → Int32} {a b : Nat} {v : Int32} (h : ∀ t j, t < 7 → j < 7 → pr (7 * t + j) = P t j) (hb : b < 7) : ∀ t j, t < 7 → j < 7 → upd pr (7 * a + b) v (7 * t + j) = u2 P a b v t j := fun t j ht hj => by
  by_cases e : 7 * t + j = 7 * a + b
  · have e1 : t = a := by omega
    have e2 : j = b := by omega
    subst e1; subst e2
    rw [pk_us]; simp [u2, upd]
  · rw [pk_un e, h t j ht hj]
    unfold u2
    by_cases e1 : t = a
    · subst e1
      rw [if_pos rfl, pk_un (show j ≠ b by omega)]
    · rw [if_neg e1]
theorem cnt_o2 {zo ke : Nat → Int32} {g gk : Nat → Nat} {nt : Nat} (h : pOK nt zo g) (hk : pOK nt ke gk) (hg : ∀ t, t < nt → g t ≤ 7) (hgk : ∀ t, t < nt → gk t ≤ 7) : cnt (fun t => !decide (zo t = ke t)) nt = cntO g gk nt := cnt_ext fun t ht => by
  have : zo t = ke t ↔ g t = gk t := by
    rw [h t ht, hk t ht]
    exact ⟨fun q => zI_inj (hg t ht) (hgk t ht) q, fun q => by rw [q]⟩
  simp [this]
/-- counted at k by the reference: 1 or 0 -/
def lmC (nm : Nat → Nat) (k : Nat) : Nat → Nat → Nat
  | 0, _ => 0
  | f + 1, x => if nm x = k then 1 else if 7 ≤ nm x ∨ nm x < k then 0 else lmC nm k f (nm x)
/-- the next one on the way, as the reference has it -/
def nmO (nt : Nat) (cz : Nat → Int32) (g gk nm : Nat → Nat) : Prop := ∀ t, t < nt → nm t ≤ 7 ∧ (nm t < 7 → nm t < nt) ∧ ((gk t = 7 ∨ g t = 7 ∨ gk t = g t) → nm t = 7) ∧ (¬ (gk t = 7 ∨ g t = 7 ∨ gk t = g t) → tAt cz (nI (gk t)) = zI (nm t))
theorem cntN_s {p : Nat → Bool} {n m : Nat} (h : n = cnt p m) (hp : p m = true) : n + 1 = cnt p (m + 1) := by rw [cnt, if_pos hp, h]
theorem cntN_n {p : Nat → Bool} {n m : Nat} (h : n = cnt p m) (hp : p m = false) : n + 0 = cnt p (m + 1) := by rw [cnt, hp, h]; rfl
end
