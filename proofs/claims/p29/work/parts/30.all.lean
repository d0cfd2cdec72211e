section
/-! all placements of all teams in their order, without the machine -/
def lI (k : Nat) : Int32 := if k < 1000000 then nI k else -1
theorem lI_lt {k : Nat} (h : k < 1000000) : lI k = nI k := if_pos h
theorem lI_none {k : Nat} (h : lI k = -1) : 1000000 ≤ k := by
  by_cases e : k < 1000000
  · rw [lI_lt e] at h
    exact absurd h (z_m1 (by omega))
  · omega
theorem lI_some {k : Nat} (h : ¬ lI k = -1) : k < 1000000 := by
  by_cases e : k < 1000000
  · exact e
  · exact absurd (if_neg e) h
theorem lI_big : lI 1000000 = -1 := if_neg (by omega)
def bB (b : Bool) : Int32 := if b = true then nI 1 else nI 0
theorem bB_0 {b : Bool} (h : bB b = 0) : b = false := by
  cases b
  · rfl
  · exact absurd h (by decide)
theorem bB_1 {b : Bool} (h : ¬ bB b = 0) : b = true := by
  cases b
  · exact absurd rfl h
  · rfl
theorem bB_01 (b : Bool) : bB b = 0 ∨ bB b = 1 := by
  cases b
  · exact Or.inl rfl
  · exact Or.inr rfl
def cmp (nz nt : Nat) (ft : Nat → Nat → Prop) (g : Nat → Nat) : Prop := (∀ t, t < nt → g t < nz ∧ ft t (g t)) ∧ ∀ s t, s < t → t < nt → g s ≠ g t
def lexL (nt : Nat) (g h : Nat → Nat) : Prop := ∃ k, k < nt ∧ (∀ j, j < k → g j = h j) ∧ g k < h k
/-- what a walk through the placements C makes of the least cost and the best row -/
def SR (nt : Nat) (cs : (Nat → Nat) → Nat) (C : (Nat → Nat) → Prop) (l : Nat) (b : Nat → Int32) (l2 : Nat) (b2 : Nat → Int32) : Prop :=
  (l2 = l ∧ b2 = b ∧ ∀ g, C g → l ≤ cs g) ∨ ∃ h, C h ∧ l2 = cs h ∧ l2 < l ∧ pOK nt b2 h ∧ ∀ g, C g → l2 ≤ cs g ∧ (lexL nt g h → l2 < cs g)
theorem SR_app {nt : Nat} {cs : (Nat → Nat) → Nat} {C1 C2 C : (Nat → Nat) → Prop} {l l1 l2 : Nat} {b b1 b2 : Nat → Int32} (h1 : SR nt cs C1 l b l1 b1) (h2 : SR nt cs C2 l1 b1 l2 b2) (hC : ∀ g, C g ↔ C1 g ∨ C2 g) (ho : ∀ g1 g2, C1 g1 → C2 g2 → ¬ lexL nt g2 g1) : SR nt cs C l b l2 b2 := by
  rcases h1 with ⟨e1, e2, a1⟩ | ⟨h, c1, e1, e2, e3, a1⟩
  · rcases h2 with ⟨f1, f2, a2⟩ | ⟨h, c2, f1, f2, f3, a2⟩
    · exact Or.inl ⟨f1.trans e1, f2.trans e2, fun g hg => ((hC g).mp hg).elim (a1 g) (fun q => by rw [← e1]; exact a2 g q)⟩
    · refine Or.inr ⟨h, (hC h).mpr (Or.inr c2), f1, by omega, f3, fun g hg => ?_⟩
      rcases (hC g).mp hg with q | q
      · have := a1 g q
        exact ⟨by omega, fun _ => by omega⟩
      · exact a2 g q
  · rcases h2 with ⟨f1, f2, a2⟩ | ⟨h', c2, f1, f2, f3, a2⟩
    · subst f2
      refine Or.inr ⟨h, (hC h).mpr (Or.inl c1), f1.trans e1, by omega, e3, fun g hg => ?_⟩
      rcases (hC g).mp hg with q | q
      · rw [f1]; exact a1 g q
      · exact ⟨by have := a2 g q; omega, fun z => absurd z (ho h g c1 q)⟩
    · refine Or.inr ⟨h', (hC h').mpr (Or.inr c2), f1, by omega, f3, fun g hg => ?_⟩
      rcases (hC g).mp hg with q | q
      · have := (a1 g q).1
        exact ⟨by omega, fun _ => by omega⟩
      · exact a2 g q
theorem SR_congr {nt : Nat} {cs : (Nat → Nat) → Nat} {C C' : (Nat → Nat) → Prop} {l l2 : Nat} {b b2 : Nat → Int32} (h : SR nt cs C l b l2 b2) (e : ∀ g, C' g ↔ C g) : SR nt cs C' l b l2 b2 := by
  rcases h with ⟨e1, e2, a1⟩ | ⟨h, c1, e1, e2, e3, a1⟩
  · exact Or.inl ⟨e1, e2, fun g hg => a1 g ((e g).mp hg)⟩
  · exact Or.inr ⟨h, (e h).mpr c1, e1, e2, e3, fun g hg => a1 g ((e g).mp hg)⟩
theorem SR_none {nt : Nat} {cs : (Nat → Nat) → Nat} {C : (Nat → Nat) → Prop} {l : Nat} {b : Nat → Int32} (h : ∀ g, C g → l ≤ cs g) : SR nt cs C l b l b := Or.inl ⟨rfl, rfl, h⟩
theorem SR_le {nt : Nat} {cs : (Nat → Nat) → Nat} {C : (Nat → Nat) → Prop} {l l2 : Nat} {b b2 : Nat → Int32} (h : SR nt cs C l b l2 b2) : l2 ≤ l := by
  rcases h with ⟨e1, -, -⟩ | ⟨-, -, -, e2, -, -⟩
  · omega
  · omega
def Cp (nz nt : Nat) (ft : Nat → Nat → Prop) (g : Nat → Nat) (t : Nat) : (Nat → Nat) → Prop := fun h => cmp nz nt ft h ∧ ∀ j, j < t → h j = g j
def Cz (nz nt : Nat) (ft : Nat → Nat → Prop) (g : Nat → Nat) (t z : Nat) : (Nat → Nat) → Prop := fun h => Cp nz nt ft g t h ∧ h t < z
def vP (nz : Nat) (ft : Nat → Nat → Prop) (g : Nat → Nat) (t : Nat) : Prop := (∀ j, j < t → g j < nz ∧ ft j (g j)) ∧ ∀ i j, i < j → j < t → g i ≠ g j
theorem vP_next {nz : Nat} {ft : Nat → Nat → Prop} {g : Nat → Nat} {t z : Nat} (h : vP nz ft g t) (hz : z < nz) (hf : ft t z) (hn : ∀ j, j < t → g j ≠ z) : vP nz ft (updN g t z) (t + 1) := by
  constructor
  · intro j hj
    by_cases e : j = t
    · subst e; rw [updN_s]; exact ⟨hz, hf⟩
    · rw [updN_n _ _ e]; exact h.1 j (by omega)
  · intro i j hij hj
    by_cases e : j = t
    · subst e; rw [updN_s, updN_n _ _ (by omega)]; exact hn i hij
    · rw [updN_n _ _ e, updN_n _ _ (by omega)]; exact h.2 i j hij (by omega)
theorem SR_leaf {nz nt : Nat} {ft : Nat → Nat → Prop} {cs : (Nat → Nat) → Nat} {g : Nat → Nat} {l : Nat} {b f : Nat → Int32} (hcs : ∀ g h : Nat → Nat, (∀ t, t < nt → g t = h t) → cs g = cs h) (hv : vP nz ft g nt) (hl : cs g < l) (hf : pOK nt f g) : SR nt cs (Cp nz nt ft g nt) l b (cs g) f :=
  Or.inr ⟨g, ⟨hv, fun _ _ => rfl⟩, rfl, hl, hf, fun h hh => ⟨by rw [hcs h g hh.2]; exact Nat.le_refl _, fun ⟨k, h1, h2, h3⟩ => by rw [hh.2 k h1] at h3; omega⟩⟩
theorem SR_0 {nz nt : Nat} {ft : Nat → Nat → Prop} {cs : (Nat → Nat) → Nat} {g : Nat → Nat} {l t : Nat} {b : Nat → Int32} : SR nt cs (Cz nz nt ft g t 0) l b l b := SR_none fun _ h => absurd h.2 (by omega)
theorem SR_skip {nz nt : Nat} {ft : Nat → Nat → Prop} {cs : (Nat → Nat) → Nat} {g : Nat → Nat} {l l2 t z : Nat} {b b2 : Nat → Int32} (h : SR nt cs (Cz nz nt ft g t z) l b l2 b2) (ht : t < nt) (hno : (∃ j, j < t ∧ g j = z) ∨ ¬ ft t z) : SR nt cs (Cz nz nt ft g t (z + 1)) l b l2 b2 := by
  refine SR_congr h fun g' => ⟨fun q => ⟨q.1, ?_⟩, fun q => ⟨q.1, by have := q.2; omega⟩⟩
  have h1 := q.2
  by_cases e : g' t = z
  · exfalso
    rcases hno with ⟨j, h2, h3⟩ | h2
    · exact q.1.1.2 j t h2 ht (by rw [q.1.2 j h2, h3, e])
    · exact h2 (by rw [← e]; exact (q.1.1.1 t ht).2)
  · omega
theorem SR_step {nz nt : Nat} {ft : Nat → Nat → Prop} {cs : (Nat → Nat) → Nat} {g : Nat → Nat} {l l1 l2 t z : Nat} {b b1 b2 : Nat → Int32} (h : SR nt cs (Cz nz nt ft g t z) l b l1 b1) (h2 : SR nt cs (Cp nz nt ft (updN g t z) (t + 1)) l1 b1 l2 b2) (ht : t < nt) : SR nt cs (Cz nz nt ft g t (z + 1)) l b l2 b2 := by
  have k1 : ∀ g', Cp nz nt ft (updN g t z) (t + 1) g' → (∀ j, j < t → g' j = g j) ∧ g' t = z := fun g' q => ⟨fun j hj => by rw [q.2 j (by omega), updN_n _ _ (by omega)], by rw [q.2 t (by omega), updN_s]⟩
  refine SR_app h h2 (fun g' => ⟨fun q => ?_, fun q => ?_⟩) (fun g1 g2 q1 q2 q => ?_)
  · by_cases e : g' t = z
    · refine Or.inr ⟨q.1.1, fun j hj => ?_⟩
      by_cases e2 : j = t
      · rw [e2, updN_s, e]
      · rw [updN_n _ _ e2]; exact q.1.2 j (by omega)
    · exact Or.inl ⟨q.1, by have := q.2; omega⟩
  · rcases q with q | q
    · exact ⟨q.1, by have := q.2; omega⟩
    · obtain ⟨a1, a2⟩ := k1 g' q
      exact ⟨⟨q.1, a1⟩, by omega⟩
  · obtain ⟨a1, a2⟩ := k1 g2 q2
    obtain ⟨k, h1, h3, h4⟩ := q
    have a3 := q1.2
    rcases Nat.lt_trichotomy k t with e | e | e
    · rw [a1 k e, q1.1.2 k e] at h4; omega
    · subst e; omega
    · have := h3 t e
      omega
theorem SR_end {nz nt : Nat} {ft : Nat → Nat → Prop} {cs : (Nat → Nat) → Nat} {g : Nat → Nat} {l l2 t z : Nat} {b b2 : Nat → Int32} (h : SR nt cs (Cz nz nt ft g t z) l b l2 b2) (ht : t < nt) (hz : nz ≤ z) : SR nt cs (Cp nz nt ft g t) l b l2 b2 := SR_congr h fun _ => ⟨fun q => ⟨q, by have := (q.1.1 t ht).1; omega⟩, fun q => q.1⟩
theorem SR_cut {nz nt : Nat} {ft : Nat → Nat → Prop} {cs : (Nat → Nat) → Nat} {g : Nat → Nat} {l t : Nat} {b : Nat → Int32} (h : ∀ g', (∀ j, j < t → g' j = g j) → l ≤ cs g') : SR nt cs (Cp nz nt ft g t) l b l b := SR_none fun g' q => h g' q.2
theorem SR_uniq {nz nt : Nat} {ft : Nat → Nat → Prop} {cs : (Nat → Nat) → Nat} {l l' : Nat} {b0 b0' b b' : Nat → Int32} (hcs : ∀ g, cmp nz nt ft g → cs g < 1000000) (h : SR nt cs (cmp nz nt ft) 1000000 b0 l b) (h' : SR nt cs (cmp nz nt ft) 1000000 b0' l' b') : l = l' ∧ (l = 1000000 ∨ (l < 1000000 ∧ ∃ g, cmp nz nt ft g ∧ l = cs g ∧ pOK nt b g ∧ pOK nt b' g)) := by
  rcases h with ⟨e1, e2, a1⟩ | ⟨g, c1, e1, e2, e3, a1⟩
  · rcases h' with ⟨f1, f2, a2⟩ | ⟨g', c2, f1, f2, f3, a2⟩
    · exact ⟨by omega, Or.inl e1⟩
    · have := a1 g' c2
      omega
  · rcases h' with ⟨f1, f2, a2⟩ | ⟨g', c2, f1, f2, f3, a2⟩
    · have := a2 g c1
      omega
    · have h1 := a1 g' c2
      have h2 := a2 g c1
      have el : l = l' := by omega
      refine ⟨el, Or.inr ⟨e2, g, c1, e1, e3, fun t ht => ?_⟩⟩
      rw [f3 t ht]
      suffices h9 : ∀ t, t < nt → g t = g' t by rw [h9 t ht]
      intro t
      induction t using Nat.strongRecOn with
      | ind t ih =>
        intro ht
        have ih2 : ∀ j, j < t → g j = g' j := fun j hj => ih j hj (by omega)
        rcases Nat.lt_trichotomy (g t) (g' t) with q | q | q
        · have := h2.2 ⟨t, ht, ih2, q⟩
          omega
        · exact q
        · have := h1.2 ⟨t, ht, fun j hj => (ih2 j hj).symm, q⟩
          omega
theorem pc_step {b : Bool} {wi ti dd : Nat → Nat → Nat} {g : Nat → Nat} {t z cN : Nat} (hc : cN = pcN b wi ti dd g t) (hz : z < 7) : cN + wi t z + (if b = true then tieN ti dd (updN g t z) t else 0) = pcN b wi ti dd (updN g t z) (t + 1) := by
  have h := pcN_congr (b := b) (wi := wi) (ti := ti) (dd := dd) (g := updN g t z) (k := g) (n := t) (fun j hj => updN_n _ _ (by omega))
  rw [hc, ← h]
  have h2 : wishT wi (updN g t z) t = wi t z := by
    unfold wishT
    rw [updN_s, if_pos hz]
  unfold pcN wishN
  rw [sumT, sumT, h2]
  cases b
  · simp
  · simp; omega
theorem pc_f {wi ti dd : Nat → Nat → Nat} {g : Nat → Nat} {t z cN c1 : Nat} {b : Bool} (hb : b = false) (hc : cN = pcN b wi ti dd g t) (hz : z < 7) (h1 : c1 = cN + wi t z) : c1 = pcN b wi ti dd (updN g t z) (t + 1) := by
  rw [← pc_step hc hz, h1, hb]
  simp
theorem pc_t {wi ti dd : Nat → Nat → Nat} {g : Nat → Nat} {t z cN c1 : Nat} {b : Bool} (hb : b = true) (hc : cN = pcN b wi ti dd g t) (hz : z < 7) (h1 : c1 = cN + wi t z + tieN ti dd (updN g t z) t) : c1 = pcN b wi ti dd (updN g t z) (t + 1) := by
  rw [← pc_step hc hz, h1, hb]
  simp
theorem upd_back {f : Nat → Int32} {k : Nat} {v : Int32} (h : f k = 0) : upd (upd f k v) k (nI 0) = f := by
  funext j
  unfold upd
  by_cases e : j = k
  · rw [if_pos e, e, h]; rfl
  · rw [if_neg e, if_neg e]
theorem pOK_upd {n : Nat} {f : Nat → Int32} {g : Nat → Nat} {t z : Nat} (h : pOK n f g) : pOK n (upd f t (zI z)) (updN g t z) := fun j hj => by
  by_cases e : j = t
  · subst e; rw [pk_us, updN_s]
  · rw [pk_un e, updN_n _ _ e]; exact h j hj
theorem pOK_next {f : Nat → Int32} {g : Nat → Nat} {t z : Nat} (h : pOK t f g) (hz : z < 7) : pOK (t + 1) (upd f t (nI z)) (updN g t z) := fun j hj => by
  by_cases e : j = t
  · subst e; rw [pk_us, updN_s, zI_lt hz]
  · rw [pk_un e, updN_n _ _ e]; exact h j (by omega)
theorem pOK_back {f : Nat → Int32} {g : Nat → Nat} {t z : Nat} (h : pOK (t + 1) f (updN g t z)) : pOK t f g := fun j hj => by rw [h j (by omega), updN_n _ _ (by omega)]
theorem tk_next {tk : Nat → Int32} {g : Nat → Nat} {nz t z : Nat} (h : ∀ u, u < nz → (tk u = 0 ↔ ∀ j, j < t → g j ≠ u)) : ∀ u, u < nz → (upd tk z (nI 1) u = 0 ↔ ∀ j, j < t + 1 → updN g t z j ≠ u) := fun u hu => by
  by_cases e : u = z
  · subst e
    rw [pk_us]
    exact ⟨fun q => absurd q (by decide), fun q => absurd (updN_s g t u) (q t (by omega))⟩
  · rw [pk_un e, h u hu]
    constructor
    · intro q j hj
      by_cases e2 : j = t
      · subst e2; rw [updN_s]; exact fun q2 => e q2.symm
      · rw [updN_n _ _ e2]; exact q j (by omega)
    · intro q j hj
      have := q j (by omega)
      rw [updN_n _ _ (by omega)] at this
      exact this
theorem tk_01 {tk : Nat → Int32} {z : Nat} (h : ∀ u, u < 7 → tk u = 0 ∨ tk u = 1) : ∀ u, u < 7 → upd tk z (nI 1) u = 0 ∨ upd tk z (nI 1) u = 1 := fun u hu => by
  by_cases e : u = z
  · rw [e, pk_us]; exact Or.inr rfl
  · rw [pk_un e]; exact h u hu
end
