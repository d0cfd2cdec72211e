section
/-! the reference's walk through all placements, without the machine -/
def tI (u : Nat) : Int32 := nI u + Int32.ofInt (-1)
theorem z_dec (a : Nat) : nI a + Int32.ofInt (-1) = tI a := rfl
theorem tI_0 : tI 0 = -1 := by decide
theorem tI_s (t : Nat) : tI (t + 1) = nI t := by
  unfold tI
  rw [show Int32.ofInt (-1) = -1 from rfl]
  exact pk_m1 t
theorem tI_1 {y : Nat} : tI y + nI 1 = nI y := by
  cases y with
  | zero => decide
  | succ y => rw [tI_s, nI_add]
theorem tI_zI {z : Nat} (h : z < 7) : zI z = tI (z + 1) := by rw [zI_lt h, tI_s]
/-- what is done with, when a team looks for a zone from y on -/
def Vs (nz nt : Nat) (ft : Nat → Nat → Prop) (g : Nat → Nat) (t y : Nat) : (Nat → Nat) → Prop := fun h => cmp nz nt ft h ∧ ((∃ k, k < t ∧ (∀ j, j < k → h j = g j) ∧ h k < g k) ∨ (t < nt ∧ (∀ j, j < t → h j = g j) ∧ h t < y))
/-- what is done with, when all below the first u teams is -/
def Va (nz nt : Nat) (ft : Nat → Nat → Prop) (g : Nat → Nat) (u : Nat) : (Nat → Nat) → Prop := fun h => cmp nz nt ft h ∧ ((∃ k, k < u ∧ (∀ j, j < k → h j = g j) ∧ h k < g k) ∨ ∀ j, j < u → h j = g j)
section
variable {nz nt : Nat} {ft : Nat → Nat → Prop} {g : Nat → Nat} {t y : Nat} {cs : (Nat → Nat) → Nat} {l l2 : Nat} {b b2 : Nat → Int32}
theorem Va_0 (h : SR nt cs (Va nz nt ft g 0) l b l2 b2) : SR nt cs (cmp nz nt ft) l b l2 b2 := SR_congr h fun _ => ⟨fun q => ⟨q, Or.inr fun j hj => absurd hj (by omega)⟩, fun q => q.1⟩
theorem Va_Vs (ht : t < nt) (h : SR nt cs (Va nz nt ft g (t + 1)) l b l2 b2) : SR nt cs (Vs nz nt ft g t (g t + 1)) l b l2 b2 := SR_congr h fun h9 => by
  constructor
  · rintro ⟨a, ⟨k, k1, k2, k3⟩ | ⟨k1, k2, k3⟩⟩
    · exact ⟨a, Or.inl ⟨k, by omega, k2, k3⟩⟩
    · by_cases e : h9 t = g t
      · refine ⟨a, Or.inr fun j hj => ?_⟩
        by_cases e2 : j = t
        · rw [e2]; exact e
        · exact k2 j (by omega)
      · exact ⟨a, Or.inl ⟨t, by omega, k2, by omega⟩⟩
  · rintro ⟨a, ⟨k, k1, k2, k3⟩ | k2⟩
    · by_cases e : k = t
      · subst e
        exact ⟨a, Or.inr ⟨ht, k2, by omega⟩⟩
      · exact ⟨a, Or.inl ⟨k, by omega, k2, k3⟩⟩
    · exact ⟨a, Or.inr ⟨ht, fun j hj => k2 j (by omega), by rw [k2 t (by omega)]; omega⟩⟩
theorem Vs_start : SR nt cs (Vs nz nt ft g 0 0) l b l b := SR_none fun h9 ⟨_, q⟩ => by
  rcases q with ⟨k, k1, _⟩ | ⟨_, _, q⟩ <;> omega
/-- a zone that a team can have -/
def okZ (ft : Nat → Nat → Prop) (g : Nat → Nat) (t z : Nat) : Prop := ft t z ∧ ∀ k, k < t → g k ≠ z
theorem okZ_of {h9 : Nat → Nat} (a : cmp nz nt ft h9) (ht : t < nt) (k2 : ∀ j, j < t → h9 j = g j) : okZ ft g t (h9 t) := ⟨(a.1 t ht).2, fun k hk e => a.2 k t hk ht (by rw [k2 k hk, e])⟩
theorem Vs_none (ht : t < nt) (hno : ∀ z, y ≤ z → z < nz → ¬ okZ ft g t z) (h : SR nt cs (Vs nz nt ft g t y) l b l2 b2) : SR nt cs (Va nz nt ft g t) l b l2 b2 := SR_congr h fun h9 => by
  constructor
  · rintro ⟨a, ⟨k, k1, k2, k3⟩ | k2⟩
    · exact ⟨a, Or.inl ⟨k, k1, k2, k3⟩⟩
    · refine ⟨a, Or.inr ⟨ht, k2, ?_⟩⟩
      have := hno (h9 t)
      have h3 := okZ_of a ht k2
      have h4 := (a.1 t ht).1
      by_cases e : y ≤ h9 t
      · exact absurd h3 (this e h4)
      · omega
  · rintro ⟨a, ⟨k, k1, k2, k3⟩ | ⟨_, k2, k3⟩⟩
    · exact ⟨a, Or.inl ⟨k, k1, k2, k3⟩⟩
    · exact ⟨a, Or.inr k2⟩
theorem Vs_down {r : Nat} (ht : t < nt) (hyr : y ≤ r) (hno : ∀ z, y ≤ z → z < r → ¬ okZ ft g t z) (h : SR nt cs (Vs nz nt ft g t y) l b l2 b2) : SR nt cs (Vs nz nt ft (updN g t r) (t + 1) 0) l b l2 b2 := SR_congr h fun h9 => by
  have hg : ∀ j, j < t → updN g t r j = g j := fun j hj => updN_n _ _ (by omega)
  constructor
  · rintro ⟨a, ⟨k, k1, k2, k3⟩ | ⟨_, _, k3⟩⟩
    · by_cases e : k = t
      · subst e
        rw [updN_s] at k3
        have k2' : ∀ j, j < k → h9 j = g j := fun j hj => by rw [k2 j hj, hg j hj]
        refine ⟨a, Or.inr ⟨ht, k2', ?_⟩⟩
        by_cases e2 : y ≤ h9 k
        · exact absurd (okZ_of a ht k2') (hno _ e2 k3)
        · omega
      · exact ⟨a, Or.inl ⟨k, by omega, fun j hj => by rw [k2 j hj, hg j (by omega)], by rw [hg k (by omega)] at k3; exact k3⟩⟩
    · omega
  · rintro ⟨a, ⟨k, k1, k2, k3⟩ | ⟨_, k2, k3⟩⟩
    · exact ⟨a, Or.inl ⟨k, by omega, fun j hj => by rw [hg j (by omega)]; exact k2 j hj, by rw [hg k k1]; exact k3⟩⟩
    · exact ⟨a, Or.inl ⟨t, by omega, fun j hj => by rw [hg j hj]; exact k2 j hj, by rw [updN_s]; omega⟩⟩
theorem Vs_all (hcs : ∀ g h : Nat → Nat, (∀ t, t < nt → g t = h t) → cs g = cs h) {l3 : Nat} {b3 : Nat → Int32} (h : SR nt cs (Vs nz nt ft g nt 0) l b l2 b2) (h2 : SR nt cs (fun h9 => cmp nz nt ft h9 ∧ ∀ j, j < nt → h9 j = g j) l2 b2 l3 b3) : SR nt cs (Va nz nt ft g nt) l b l3 b3 := by
  refine SR_app h h2 (fun h9 => ?_) (fun g1 g2 q1 q2 q => ?_)
  · constructor
    · rintro ⟨a, k | k⟩
      · exact Or.inl ⟨a, Or.inl k⟩
      · exact Or.inr ⟨a, k⟩
    · rintro (⟨a, k | ⟨_, _, k⟩⟩ | ⟨a, k⟩)
      · exact ⟨a, Or.inl k⟩
      · omega
      · exact ⟨a, Or.inr k⟩
  · obtain ⟨k', h1, h3, h4⟩ := q
    rcases q1.2 with ⟨k, k1, k2, k3⟩ | ⟨_, _, k3⟩
    · rcases Nat.lt_trichotomy k k' with e | e | e
      · have := h3 k e
        rw [q2.2 k k1] at this
        omega
      · subst e
        rw [q2.2 k k1] at h4
        omega
      · rw [q2.2 k' h1, k2 k' e] at h4
        omega
    · omega
theorem SR_one (hcs : ∀ g h : Nat → Nat, (∀ t, t < nt → g t = h t) → cs g = cs h) (hv : vP nz ft g nt) (hl : cs g < l) (hb : pOK nt b2 g) : SR nt cs (fun h9 => cmp nz nt ft h9 ∧ ∀ j, j < nt → h9 j = g j) l b (cs g) b2 := SR_leaf hcs hv hl hb
theorem SR_old (hcs : ∀ g h : Nat → Nat, (∀ t, t < nt → g t = h t) → cs g = cs h) (hl : l ≤ cs g) : SR nt cs (fun h9 => cmp nz nt ft h9 ∧ ∀ j, j < nt → h9 j = g j) l b l b := SR_none fun h9 q => by rw [hcs h9 g q.2]; exact hl
end
-- ===== how far it is to the end =====
/-- the sum of the digits of the first t places, base 16 -/
def dgs (g : Nat → Nat) : Nat → Nat
  | 0 => 0
  | t + 1 => dgs g t + (2 * g t + 2) * 16 ^ (8 - t)
def mz (u : Nat) (g : Nat → Nat) (y : Nat) : Nat := if u = 0 then 0 else 16 ^ 9 - (dgs g (u - 1) + (2 * y + 1) * 16 ^ (8 - (u - 1)))
theorem dgs_congr {g h : Nat → Nat} {t : Nat} (e : ∀ j, j < t → g j = h j) : dgs g t = dgs h t := by
  induction t with
  | zero => rfl
  | succ t ih => rw [dgs, dgs, ih (fun j hj => e j (by omega)), e t (by omega)]
theorem p16 {t : Nat} (h : t ≤ 7) : 16 ^ (8 - t) = 16 * 16 ^ (8 - (t + 1)) := by rw [show 8 - t = (8 - (t + 1)) + 1 by omega, Nat.pow_succ, Nat.mul_comm]
theorem dgs_le {g : Nat → Nat} {t : Nat} (ht : t ≤ 8) (hg : ∀ j, j < t → g j ≤ 6) : dgs g t + 16 * 16 ^ (8 - t) ≤ 16 ^ 9 := by
  induction t with
  | zero =>
    show 0 + 16 * 16 ^ 8 ≤ 16 ^ 9
    decide
  | succ t ih =>
    have h1 := ih (by omega) (fun j hj => hg j (by omega))
    have h2 := hg t (by omega)
    have e := p16 (t := t) (by omega)
    have h3 : (2 * g t + 2) * 16 ^ (8 - t) ≤ 14 * 16 ^ (8 - t) := Nat.mul_le_mul_right _ (by omega)
    rw [dgs]
    omega
theorem mz_s {g : Nat → Nat} {t y : Nat} : mz (t + 1) g y = 16 ^ 9 - (dgs g t + (2 * y + 1) * 16 ^ (8 - t)) := by
  unfold mz
  rw [if_neg (by omega), Nat.add_sub_cancel]
theorem mz_up {g : Nat → Nat} {t y : Nat} (ht : t + 1 ≤ 7) (hg : ∀ j, j < t + 1 → g j ≤ 6) (hy : y ≤ 7) : mz (t + 1) g (g t + 1) < mz (t + 2) g y := by
  rw [mz_s, mz_s, dgs]
  have h1 := dgs_le (t := t) (by omega) (fun j hj => hg j (by omega))
  have h2 := hg t (by omega)
  have e := p16 (t := t) (by omega)
  have h3 : (2 * (g t + 1) + 1) * 16 ^ (8 - t) = (2 * g t + 2) * 16 ^ (8 - t) + 16 ^ (8 - t) := by rw [show 2 * (g t + 1) + 1 = (2 * g t + 2) + 1 by omega, Nat.add_mul, Nat.one_mul]
  have h4 : (2 * g t + 2) * 16 ^ (8 - t) ≤ 14 * 16 ^ (8 - t) := Nat.mul_le_mul_right _ (by omega)
  have h5 : (2 * y + 1) * 16 ^ (8 - (t + 1)) ≤ 15 * 16 ^ (8 - (t + 1)) := Nat.mul_le_mul_right _ (by omega)
  have h6 : 0 < 16 ^ (8 - (t + 1)) := Nat.pow_pos (by omega)
  omega
theorem mz_0 {g h : Nat → Nat} {y z : Nat} (hy : y ≤ 7) : mz 0 g z < mz 1 h y := by
  rw [mz_s]
  unfold mz dgs
  rw [if_pos rfl]
  have h5 : (2 * y + 1) * 16 ^ (8 - 0) ≤ 15 * 16 ^ (8 - 0) := Nat.mul_le_mul_right _ (by omega)
  have e : 15 * 16 ^ (8 - 0) < 16 ^ 9 := by decide
  omega
theorem mz_down {g : Nat → Nat} {t y r : Nat} (ht : t + 1 ≤ 7) (hg : ∀ j, j < t → g j ≤ 6) (hr : r ≤ 6) (hy : y ≤ r) : mz (t + 2) (updN g t r) 0 < mz (t + 1) g y := by
  have e0 : dgs (updN g t r) t = dgs g t := dgs_congr (fun j hj => updN_n _ _ (show j ≠ t by omega))
  rw [mz_s, mz_s, dgs, updN_s, e0]
  have h1 := dgs_le (t := t) (by omega) (fun j hj => hg j (by omega))
  have e := p16 (t := t) (by omega)
  have h3 : (2 * y + 1) * 16 ^ (8 - t) + 16 ^ (8 - t) = (2 * y + 2) * 16 ^ (8 - t) := by rw [show 2 * y + 2 = (2 * y + 1) + 1 by omega, Nat.add_mul (2 * y + 1) 1, Nat.one_mul]
  have h4 : (2 * y + 2) * 16 ^ (8 - t) ≤ (2 * r + 2) * 16 ^ (8 - t) := Nat.mul_le_mul_right _ (by omega)
  have h5 : (2 * r + 2) * 16 ^ (8 - t) ≤ 14 * 16 ^ (8 - t) := Nat.mul_le_mul_right _ (by omega)
  have h6 : 0 < 16 ^ (8 - (t + 1)) := Nat.pow_pos (by omega)
  omega
/-- from where on the team ahead looks again -/
def bkY (g : Nat → Nat) : Nat → Nat
  | 0 => 0
  | t + 1 => g t + 1
/-- what holds whenever the walk looks at its team: u is one more than its number -/
def TI (nz nt : Nat) (ft : Nat → Nat → Prop) (cs : (Nat → Nat) → Nat) (b0 : Nat → Int32) (u : Nat) (g : Nat → Nat) (y : Nat) (tr : Nat → Int32) (k : Nat) (b : Nat → Int32) : Prop :=
  (u = 0 ∧ SR nt cs (cmp nz nt ft) 1000000 b0 k b) ∨ ∃ t, u = t + 1 ∧ t ≤ nt ∧ (t = nt → y = 0) ∧ y ≤ nz ∧ vP nz ft g t ∧ (∀ j, j < t → tr j = nI (g j)) ∧ (t < nt → tr t = tI y) ∧ SR nt cs (Vs nz nt ft g t y) 1000000 b0 k b
section
variable {nz nt : Nat} {ft : Nat → Nat → Prop} {cs : (Nat → Nat) → Nat} {b0 b : Nat → Int32} {g : Nat → Nat} {t y k : Nat} {tr : Nat → Int32}
/-- back to the team ahead -/
theorem TI_back (ht : t ≤ nt) (hv : vP nz ft g t) (htr : ∀ j, j < t → tr j = nI (g j)) (h : SR nt cs (Va nz nt ft g t) 1000000 b0 k b) : TI nz nt ft cs b0 t g (bkY g t) tr k b := by
  cases t with
  | zero => exact Or.inl ⟨rfl, Va_0 h⟩
  | succ t =>
    refine Or.inr ⟨t, rfl, by omega, fun q => by omega, ?_, ⟨fun j hj => hv.1 j (by omega), fun i j h1 h2 => hv.2 i j h1 (by omega)⟩, fun j hj => htr j (by omega), fun _ => ?_, Va_Vs (by omega) h⟩
    · have := (hv.1 t (by omega)).1
      show g t + 1 ≤ nz
      omega
    · rw [htr t (by omega)]
      exact (tI_s _).symm
theorem mz_back {y2 : Nat} (ht : t ≤ 7) (hz : nz ≤ 7) (hv : vP nz ft g t) (hy : y2 ≤ 7) : mz t g (bkY g t) < mz (t + 1) g y2 := by
  cases t with
  | zero => exact mz_0 hy
  | succ t => exact mz_up ht (fun j hj => by have := (hv.1 j (by omega)).1; omega) hy
end
end
