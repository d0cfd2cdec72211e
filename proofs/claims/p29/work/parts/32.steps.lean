section
/-! the search by steps without the machine: a change is its cost, its team, the other team (7 for none), its zone -/
abbrev C4 := Nat × Nat × Nat × Nat
noncomputable def kp (ok : Prop) (x c : C4) : C4 := @ite C4 (ok ∧ x.1 < c.1) (Classical.propDecidable _) x c
theorem kp_t {ok : Prop} {x c : C4} (h : ok) (h2 : x.1 < c.1) : kp ok x c = x := by unfold kp; rw [if_pos ⟨h, h2⟩]
theorem kp_f {ok : Prop} {x c : C4} (h : ¬ ok) : kp ok x c = c := by unfold kp; rw [if_neg (fun q => h q.1)]
theorem kp_n {ok : Prop} {x c : C4} (h : ¬ x.1 < c.1) : kp ok x c = c := by unfold kp; rw [if_neg (fun q => h q.2)]
theorem kp_c {ok ok' : Prop} {x c : C4} (h : ok ↔ ok') : kp ok x c = kp ok' x c := by rw [propext h]
theorem kp_or (ok : Prop) (x c : C4) : kp ok x c = c ∨ (ok ∧ kp ok x c = x) := by
  by_cases h : ok ∧ x.1 < c.1
  · exact Or.inr ⟨h.1, kp_t h.1 h.2⟩
  · refine Or.inl ?_
    unfold kp
    rw [if_neg h]
noncomputable def fR (ok : Nat → Prop) (x : Nat → C4) (b0 : Nat) : Nat → C4 → C4
  | 0, c => c
  | j + 1, c => kp (ok (b0 + j)) (x (b0 + j)) (fR ok x b0 j c)
noncomputable def fA (ok : Nat → Nat → Prop) (x : Nat → Nat → C4) (b0 m : Nat → Nat) : Nat → C4 → C4
  | 0, c => c
  | a + 1, c => fR (ok a) (x a) (b0 a) (m a) (fA ok x b0 m a c)
theorem fR_mem {ok : Nat → Prop} {x : Nat → C4} {b0 : Nat} {c : C4} : ∀ j, fR ok x b0 j c = c ∨ ∃ i, i < j ∧ ok (b0 + i) ∧ fR ok x b0 j c = x (b0 + i)
  | 0 => Or.inl rfl
  | j + 1 => by
    unfold fR
    rcases kp_or (ok (b0 + j)) (x (b0 + j)) (fR ok x b0 j c) with e | ⟨h, e⟩
    · rw [e]
      rcases fR_mem (ok := ok) (x := x) (b0 := b0) (c := c) j with q | ⟨i, h1, h2, h3⟩
      · exact Or.inl q
      · exact Or.inr ⟨i, by omega, h2, h3⟩
    · exact Or.inr ⟨j, by omega, h, e⟩
theorem fA_mem {ok : Nat → Nat → Prop} {x : Nat → Nat → C4} {b0 m : Nat → Nat} {c : C4} : ∀ n, fA ok x b0 m n c = c ∨ ∃ a i, a < n ∧ i < m a ∧ ok a (b0 a + i) ∧ fA ok x b0 m n c = x a (b0 a + i)
  | 0 => Or.inl rfl
  | n + 1 => by
    unfold fA
    rcases fR_mem (ok := ok n) (x := x n) (b0 := b0 n) (c := fA ok x b0 m n c) (m n) with e | ⟨i, h1, h2, e⟩
    · rw [e]
      rcases fA_mem (ok := ok) (x := x) (b0 := b0) (m := m) (c := c) n with q | ⟨a, i, h1, h2, h3, h4⟩
      · exact Or.inl q
      · exact Or.inr ⟨a, i, by omega, h2, h3, h4⟩
    · exact Or.inr ⟨n, i, by omega, h1, h2, e⟩
def okT (lc : Nat → Nat) (rest s t : Nat) : Prop := lc t = 0 ∨ lc t + rest < s
def swp (g : Nat → Nat) (a b : Nat) : Nat → Nat := updN (updN g a (g b)) b (g a)
def EXp (ft : Nat → Nat → Prop) (g lc : Nat → Nat) (rest s : Nat) : Nat → Nat → Prop := fun a b => (okT lc rest s a ∧ okT lc rest s b) ∧ ft a (g b) ∧ ft b (g a)
def EXx (cs : (Nat → Nat) → Nat) (g : Nat → Nat) : Nat → Nat → C4 := fun a b => (cs (swp g a b), a, b, g b)
def MVp (ft : Nat → Nat → Prop) (nt : Nat) (g lc : Nat → Nat) (rest s : Nat) : Nat → Nat → Prop := fun a z => (okT lc rest s a ∧ ∀ t, t < nt → g t ≠ z) ∧ ft a z
def MVx (cs : (Nat → Nat) → Nat) (g : Nat → Nat) : Nat → Nat → C4 := fun a z => (cs (updN g a z), a, 7, z)
def c40 : C4 := (1000000, 0, 7, 0)
noncomputable def chE (cs : (Nat → Nat) → Nat) (ft : Nat → Nat → Prop) (nt : Nat) (g lc : Nat → Nat) (rest s n : Nat) : C4 := fA (EXp ft g lc rest s) (EXx cs g) (fun a => a + 1) (fun a => nt - (a + 1)) n c40
noncomputable def chM (cs : (Nat → Nat) → Nat) (ft : Nat → Nat → Prop) (nt nz : Nat) (g lc : Nat → Nat) (rest s n : Nat) : C4 := fA (MVp ft nt g lc rest s) (MVx cs g) (fun _ => 0) (fun _ => nz) n (chE cs ft nt g lc rest s nt)
noncomputable def chE2 (cs : (Nat → Nat) → Nat) (ft : Nat → Nat → Prop) (nt : Nat) (g lc : Nat → Nat) (rest s a b : Nat) : C4 := fR (EXp ft g lc rest s a) (EXx cs g a) (a + 1) (b - (a + 1)) (chE cs ft nt g lc rest s a)
noncomputable def chM2 (cs : (Nat → Nat) → Nat) (ft : Nat → Nat → Prop) (nt nz : Nat) (g lc : Nat → Nat) (rest s a z : Nat) : C4 := fR (MVp ft nt g lc rest s a) (MVx cs g a) 0 z (chM cs ft nt nz g lc rest s a)
section
variable {cs : (Nat → Nat) → Nat} {ft : Nat → Nat → Prop} {nt nz : Nat} {g lc : Nat → Nat} {rest s a b z : Nat}
theorem chE_0 : chE cs ft nt g lc rest s 0 = c40 := rfl
theorem chE2_0 : chE2 cs ft nt g lc rest s a (a + 1) = chE cs ft nt g lc rest s a := by unfold chE2; rw [Nat.sub_self]; rfl
theorem chE2_s (h : a < b) : chE2 cs ft nt g lc rest s a (b + 1) = kp (EXp ft g lc rest s a b) (EXx cs g a b) (chE2 cs ft nt g lc rest s a b) := by
  unfold chE2
  rw [show b + 1 - (a + 1) = (b - (a + 1)) + 1 by omega, fR, show a + 1 + (b - (a + 1)) = b by omega]
theorem chE_s (h : a < nt) : chE cs ft nt g lc rest s (a + 1) = chE2 cs ft nt g lc rest s a nt := rfl
theorem chM_0 : chM cs ft nt nz g lc rest s 0 = chE cs ft nt g lc rest s nt := rfl
theorem chM2_0 : chM2 cs ft nt nz g lc rest s a 0 = chM cs ft nt nz g lc rest s a := rfl
theorem chM2_s : chM2 cs ft nt nz g lc rest s a (z + 1) = kp (MVp ft nt g lc rest s a z) (MVx cs g a z) (chM2 cs ft nt nz g lc rest s a z) := by
  unfold chM2
  rw [fR, Nat.zero_add]
theorem chM_s : chM cs ft nt nz g lc rest s (a + 1) = chM2 cs ft nt nz g lc rest s a nz := rfl
end
noncomputable def chs (cs : (Nat → Nat) → Nat) (ft : Nat → Nat → Prop) (nt nz : Nat) (g lc : Nat → Nat) (rest s : Nat) : C4 := chM cs ft nt nz g lc rest s nt
theorem chs_mem {cs : (Nat → Nat) → Nat} {ft : Nat → Nat → Prop} {nt nz : Nat} {g lc : Nat → Nat} {rest s : Nat} (h : (chs cs ft nt nz g lc rest s).1 < 1000000) :
    (∃ a b, a < b ∧ b < nt ∧ ft a (g b) ∧ ft b (g a) ∧ chs cs ft nt nz g lc rest s = EXx cs g a b) ∨ ∃ a z, a < nt ∧ z < nz ∧ (∀ t, t < nt → g t ≠ z) ∧ ft a z ∧ chs cs ft nt nz g lc rest s = MVx cs g a z := by
  unfold chs chM at h ⊢
  rcases fA_mem (ok := MVp ft nt g lc rest s) (x := MVx cs g) (b0 := fun _ => 0) (m := fun _ => nz) (c := chE cs ft nt g lc rest s nt) nt with e | ⟨a, i, h1, h2, h3, e⟩
  · rw [e] at h ⊢
    unfold chE at h ⊢
    rcases fA_mem (ok := EXp ft g lc rest s) (x := EXx cs g) (b0 := fun a => a + 1) (m := fun a => nt - (a + 1)) (c := c40) nt with e | ⟨a, i, h1, h2, h3, e⟩
    · rw [e] at h
      exact absurd h (by unfold c40; omega)
    · exact Or.inl ⟨a, a + 1 + i, by omega, by omega, h3.2.1, h3.2.2, e⟩
  · refine Or.inr ⟨a, i, h1, h2, ?_, ?_, ?_⟩
    · have := h3.1.2
      rw [Nat.zero_add] at this
      exact this
    · have := h3.2
      rw [Nat.zero_add] at this
      exact this
    · rw [e, Nat.zero_add]
-- ===== one step, and many =====
def nxg (c : C4) (g : Nat → Nat) : Nat → Nat := if c.2.2.1 < 7 then swp g c.2.1 c.2.2.1 else updN g c.2.1 c.2.2.2
def nxl (c : C4) (lc : Nat → Nat) (s : Nat) : Nat → Nat := if c.2.2.1 < 7 then updN (updN lc c.2.2.1 s) c.2.1 s else updN lc c.2.1 s
abbrev SS := Bool × (Nat → Nat) × (Nat → Nat) × Nat × (Nat → Nat)
/-- a step: goes on, the placement, when teams were changed, the least cost, its placement -/
noncomputable def stp (cs : (Nat → Nat) → Nat) (ft : Nat → Nat → Prop) (nt nz rest s : Nat) (S : SS) : SS :=
  if S.1 = true then
    (if (chs cs ft nt nz S.2.1 S.2.2.1 rest s).1 < 1000000 then
      (true, nxg (chs cs ft nt nz S.2.1 S.2.2.1 rest s) S.2.1, nxl (chs cs ft nt nz S.2.1 S.2.2.1 rest s) S.2.2.1 s, (if (chs cs ft nt nz S.2.1 S.2.2.1 rest s).1 < S.2.2.2.1 then (chs cs ft nt nz S.2.1 S.2.2.1 rest s).1 else S.2.2.2.1), (if (chs cs ft nt nz S.2.1 S.2.2.1 rest s).1 < S.2.2.2.1 then nxg (chs cs ft nt nz S.2.1 S.2.2.1 rest s) S.2.1 else S.2.2.2.2))
    else (false, S.2)) else S
noncomputable def rn (cs : (Nat → Nat) → Nat) (ft : Nat → Nat → Prop) (nt nz rest : Nat) (g : Nat → Nat) : Nat → SS
  | 0 => (true, g, (fun _ => 0), cs g, g)
  | s + 1 => stp cs ft nt nz rest (s + 1) (rn cs ft nt nz rest g s)
section
variable {cs : (Nat → Nat) → Nat} {ft : Nat → Nat → Prop} {nt nz rest : Nat} {g0 : Nat → Nat}
theorem rn_stop {s : Nat} {S : (Nat → Nat) × (Nat → Nat) × Nat × (Nat → Nat)} (h : rn cs ft nt nz rest g0 s = (false, S)) : ∀ s2, s ≤ s2 → rn cs ft nt nz rest g0 s2 = (false, S) := by
  intro s2 h2
  induction s2 with
  | zero => rw [show s = 0 by omega] at h; exact h
  | succ n ih =>
    by_cases e : s = n + 1
    · rw [← e]; exact h
    · rw [rn, ih (by omega), stp, if_neg (fun q => Bool.noConfusion q)]
theorem rn_halt {s k : Nat} {g lc bb : Nat → Nat} (h : rn cs ft nt nz rest g0 s = (true, g, lc, k, bb)) (h2 : ¬ (chs cs ft nt nz g lc rest (s + 1)).1 < 1000000) : rn cs ft nt nz rest g0 (s + 1) = (false, g, lc, k, bb) := by
  rw [rn, h, stp]
  rw [if_pos rfl, if_neg h2]
theorem rn_less {s k : Nat} {g lc bb : Nat → Nat} (h : rn cs ft nt nz rest g0 s = (true, g, lc, k, bb)) {c : C4} (hc : chs cs ft nt nz g lc rest (s + 1) = c) (h2 : c.1 < 1000000) (h3 : c.1 < k) : rn cs ft nt nz rest g0 (s + 1) = (true, nxg c g, nxl c lc (s + 1), c.1, nxg c g) := by
  rw [rn, h, stp]
  dsimp only
  rw [hc, if_pos rfl, if_pos h2, if_pos h3, if_pos h3]
theorem rn_more {s k : Nat} {g lc bb : Nat → Nat} (h : rn cs ft nt nz rest g0 s = (true, g, lc, k, bb)) {c : C4} (hc : chs cs ft nt nz g lc rest (s + 1) = c) (h2 : c.1 < 1000000) (h3 : ¬ c.1 < k) : rn cs ft nt nz rest g0 (s + 1) = (true, nxg c g, nxl c lc (s + 1), k, bb) := by
  rw [rn, h, stp]
  dsimp only
  rw [hc, if_pos rfl, if_pos h2, if_neg h3, if_neg h3]
end
/-- all teams are placed, where they fit, apart; others in no zone -/
def aP (nz nt : Nat) (ft : Nat → Nat → Prop) (g : Nat → Nat) : Prop := cmp nz nt ft g ∧ ∀ t, nt ≤ t → g t = 7
theorem swp_a {g : Nat → Nat} {a b : Nat} (h : a ≠ b) : swp g a b a = g b := by unfold swp; rw [updN_n _ _ h, updN_s]
theorem swp_b {g : Nat → Nat} {a b : Nat} : swp g a b b = g a := by unfold swp; rw [updN_s]
theorem swp_n {g : Nat → Nat} {a b t : Nat} (h : t ≠ a) (h2 : t ≠ b) : swp g a b t = g t := by unfold swp; rw [updN_n _ _ h2, updN_n _ _ h]
theorem inj_of {nz nt : Nat} {ft : Nat → Nat → Prop} {g : Nat → Nat} (h : cmp nz nt ft g) {s t : Nat} (hs : s < nt) (ht : t < nt) (e : g s = g t) : s = t := by
  rcases Nat.lt_trichotomy s t with q | q | q
  · exact absurd e (h.2 s t q ht)
  · exact q
  · exact absurd e.symm (h.2 t s q hs)
theorem cmp_of {nz nt : Nat} {ft : Nat → Nat → Prop} {g : Nat → Nat} (h1 : ∀ t, t < nt → g t < nz ∧ ft t (g t)) (h2 : ∀ s t, s < nt → t < nt → g s = g t → s = t) : cmp nz nt ft g := ⟨h1, fun s t hs ht e => by have := h2 s t (by omega) ht e; omega⟩
theorem aP_swp {nz nt : Nat} {ft : Nat → Nat → Prop} {g : Nat → Nat} {a b : Nat} (h : aP nz nt ft g) (hab : a < b) (hb : b < nt) (h1 : ft a (g b)) (h2 : ft b (g a)) : aP nz nt ft (swp g a b) := by
  have hne : a ≠ b := by omega
  refine ⟨cmp_of (fun t ht => ?_) (fun s t hs ht e => ?_), fun t ht => by rw [swp_n (by omega) (by omega)]; exact h.2 t ht⟩
  · by_cases e : t = a
    · rw [e, swp_a hne]; exact ⟨(h.1.1 b hb).1, h1⟩
    · by_cases e2 : t = b
      · rw [e2, swp_b]; exact ⟨(h.1.1 a (by omega)).1, h2⟩
      · rw [swp_n e e2]; exact h.1.1 t ht
  · have key : ∀ u, u < nt → ∃ v, v < nt ∧ swp g a b u = g v ∧ ((u = a ∧ v = b) ∨ (u = b ∧ v = a) ∨ (u ≠ a ∧ u ≠ b ∧ v = u)) := fun u hu => by
      by_cases e1 : u = a
      · exact ⟨b, hb, by rw [e1, swp_a hne], Or.inl ⟨e1, rfl⟩⟩
      · by_cases e2 : u = b
        · exact ⟨a, by omega, by rw [e2, swp_b], Or.inr (Or.inl ⟨e2, rfl⟩)⟩
        · exact ⟨u, hu, swp_n e1 e2, Or.inr (Or.inr ⟨e1, e2, rfl⟩)⟩
    obtain ⟨v1, a1, b1, c1⟩ := key s hs
    obtain ⟨v2, a2, b2, c2⟩ := key t ht
    have := inj_of h.1 a1 a2 (by rw [← b1, ← b2]; exact e)
    omega
theorem aP_upd {nz nt : Nat} {ft : Nat → Nat → Prop} {g : Nat → Nat} {a z : Nat} (h : aP nz nt ft g) (ha : a < nt) (hz : z < nz) (h1 : ft a z) (h2 : ∀ t, t < nt → g t ≠ z) : aP nz nt ft (updN g a z) := by
  refine ⟨cmp_of (fun t ht => ?_) (fun s t hs ht e => ?_), fun t ht => by rw [updN_n _ _ (by omega)]; exact h.2 t ht⟩
  · by_cases e : t = a
    · rw [e, updN_s]; exact ⟨hz, h1⟩
    · rw [updN_n _ _ e]; exact h.1.1 t ht
  · by_cases e1 : s = a
    · by_cases e2 : t = a
      · omega
      · rw [e1, updN_s, updN_n _ _ e2] at e
        exact absurd e.symm (h2 t ht)
    · by_cases e2 : t = a
      · rw [e2, updN_s, updN_n _ _ e1] at e
        exact absurd e (h2 s hs)
      · rw [updN_n _ _ e1, updN_n _ _ e2] at e
        exact inj_of h.1 hs ht e
/-- what the change is, said for both sides -/
theorem chs_is {cs : (Nat → Nat) → Nat} {ft : Nat → Nat → Prop} {nt nz : Nat} {g lc : Nat → Nat} {rest s : Nat} (ha : aP nz nt ft g) (hnt : nt ≤ 7) (h : (chs cs ft nt nz g lc rest s).1 < 1000000) :
    aP nz nt ft (nxg (chs cs ft nt nz g lc rest s) g) ∧ (chs cs ft nt nz g lc rest s).2.1 < nt ∧ (((chs cs ft nt nz g lc rest s).2.2.1 < nt ∧ (chs cs ft nt nz g lc rest s).2.1 ≠ (chs cs ft nt nz g lc rest s).2.2.1 ∧ (chs cs ft nt nz g lc rest s).2.2.2 = g (chs cs ft nt nz g lc rest s).2.2.1) ∨ ((chs cs ft nt nz g lc rest s).2.2.1 = 7 ∧ (chs cs ft nt nz g lc rest s).2.2.2 < nz)) := by
  rcases chs_mem h with ⟨a, b, h1, h2, h3, h4, e⟩ | ⟨a, z, h1, h2, h3, h4, e⟩
  · rw [e]
    refine ⟨?_, by show a < nt; omega, Or.inl ⟨h2, by show a ≠ b; omega, rfl⟩⟩
    rw [show nxg (EXx cs g a b) g = swp g a b from if_pos (show b < 7 by omega)]
    exact aP_swp ha h1 h2 h3 h4
  · rw [e]
    refine ⟨?_, h1, Or.inr ⟨rfl, h2⟩⟩
    rw [show nxg (MVx cs g a z) g = updN g a z from if_neg (show ¬ 7 < 7 by omega)]
    exact aP_upd ha h1 h2 h4 h3
theorem rn_aP {cs : (Nat → Nat) → Nat} {ft : Nat → Nat → Prop} {nt nz rest : Nat} {g0 : Nat → Nat} (ha : aP nz nt ft g0) (hnt : nt ≤ 7) : ∀ s, aP nz nt ft (rn cs ft nt nz rest g0 s).2.1 ∧ aP nz nt ft (rn cs ft nt nz rest g0 s).2.2.2.2
  | 0 => ⟨ha, ha⟩
  | s + 1 => by
    obtain ⟨h1, h2⟩ := rn_aP (cs := cs) (rest := rest) ha hnt s
    rw [rn]
    generalize rn cs ft nt nz rest g0 s = S at h1 h2
    unfold stp
    by_cases e : S.1 = true
    · rw [if_pos e]
      by_cases e2 : (chs cs ft nt nz S.2.1 S.2.2.1 rest (s + 1)).1 < 1000000
      · rw [if_pos e2]
        have h3 := (chs_is h1 hnt e2).1
        refine ⟨h3, ?_⟩
        show aP nz nt ft (if (chs cs ft nt nz S.2.1 S.2.2.1 rest (s + 1)).1 < S.2.2.2.1 then nxg (chs cs ft nt nz S.2.1 S.2.2.1 rest (s + 1)) S.2.1 else S.2.2.2.2)
        split
        · exact h3
        · exact h2
      · rw [if_neg e2]
        exact ⟨h1, h2⟩
    · rw [if_neg e]
      exact ⟨h1, h2⟩
-- ===== the cells of a change =====
def chR (c : C4) (fo te ot zo co : Int32) : Prop := (c.1 = 1000000 ∧ fo = 0) ∨ (c.1 < 1000000 ∧ fo = 1 ∧ te = nI c.2.1 ∧ ot = zI c.2.2.1 ∧ zo = nI c.2.2.2 ∧ co = nI c.1)
theorem chR_kp {c x : C4} {fo te ot zo co t2 o2 z2 c2 : Int32} (h : chR c fo te ot zo co) (hx : x.1 < 1000000) (h1 : t2 = nI x.2.1) (h2 : o2 = zI x.2.2.1) (h3 : z2 = nI x.2.2.2) (h4 : c2 = nI x.1) :
    chR (kp True x c) (if fo = 0 ∨ c2 < co then nI 1 else fo) (if fo = 0 ∨ c2 < co then t2 else te) (if fo = 0 ∨ c2 < co then o2 else ot) (if fo = 0 ∨ c2 < co then z2 else zo) (if fo = 0 ∨ c2 < co then c2 else co) := by
  rcases h with ⟨e1, e2⟩ | ⟨e1, e2, e3, e4, e5, e6⟩
  · have q : fo = 0 ∨ c2 < co := Or.inl e2
    rw [kp_t trivial (by omega)]
    simp only [if_pos q]
    exact Or.inr ⟨hx, rfl, h1, h2, h3, h4⟩
  · by_cases e : x.1 < c.1
    · have q : fo = 0 ∨ c2 < co := Or.inr (by rw [h4, e6]; exact nI_lt e (by omega))
      rw [kp_t trivial e]
      simp only [if_pos q]
      exact Or.inr ⟨hx, rfl, h1, h2, h3, h4⟩
    · have q : ¬ (fo = 0 ∨ c2 < co) := fun q => by
        rcases q with q | q
        · rw [e2] at q
          exact absurd q (by decide)
        · rw [h4, e6] at q
          exact e (z_lt (by omega) (by omega) q)
      rw [kp_n e]
      simp only [if_neg q]
      exact Or.inr ⟨e1, e2, e3, e4, e5, e6⟩
theorem exch_back {f : Nat → Int32} {t o : Nat} (h : t ≠ o) : upd (upd (upd (upd f t (f o)) o (f t)) t (upd (upd f t (f o)) o (f t) o)) o (upd (upd f t (f o)) o (f t) t) = f := by
  funext j
  rw [pk_us, pk_un h, pk_us]
  by_cases e : j = o
  · rw [e, pk_us]
  · rw [pk_un e]
    by_cases e2 : j = t
    · rw [e2, pk_us]
    · rw [pk_un e2, pk_un e, pk_un e2]
theorem upd_re {f : Nat → Int32} {k : Nat} {v : Int32} : upd (upd f k v) k (f k) = f := by
  funext j
  by_cases e : j = k
  · rw [e, pk_us]
  · rw [pk_un e, pk_un e]
theorem pOK_swp {n : Nat} {f : Nat → Int32} {g : Nat → Nat} {a b : Nat} (h : pOK n f g) (ha : a < n) (hb : b < n) : pOK n (upd (upd f a (f b)) b (f a)) (swp g a b) := fun j hj => by
  unfold swp
  by_cases e : j = b
  · rw [e, pk_us, updN_s]; exact h a ha
  · rw [pk_un e, updN_n _ _ e]
    by_cases e2 : j = a
    · rw [e2, pk_us, updN_s]; exact h b hb
    · rw [pk_un e2, updN_n _ _ e2]; exact h j hj
theorem gOK_aP {nz nt : Nat} {ft : Nat → Nat → Prop} {g : Nat → Nat} (h : aP nz nt ft g) : gOK nz 7 g := fun t _ => by
  by_cases e : t < nt
  · exact Or.inl (h.1.1 t e).1
  · exact Or.inr (h.2 t (by omega))
theorem gOK_swp {nz : Nat} {g : Nat → Nat} {a b : Nat} (h : gOK nz 7 g) (ha : a < 7) (hb : b < 7) : gOK nz 7 (swp g a b) := fun t ht => by
  unfold swp
  by_cases e : t = b
  · rw [e, updN_s]; exact h a ha
  · rw [updN_n _ _ e]
    by_cases e2 : t = a
    · rw [e2, updN_s]; exact h b hb
    · rw [updN_n _ _ e2]; exact h t ht
theorem gOK_upd {nz n : Nat} {g : Nat → Nat} {a z : Nat} (h : gOK nz n g) (hz : z < nz ∨ z = 7) : gOK nz n (updN g a z) := fun t ht => by
  by_cases e : t = a
  · rw [e, updN_s]; exact hz
  · rw [updN_n _ _ e]; exact h t ht
/-- when teams have rested, as the class has it -/
def rA (lc : Nat → Nat) (rest t : Nat) : Nat := if lc t = 0 then 0 else lc t + rest
theorem rA_ok {lc : Nat → Nat} {rest step t : Nat} : rA lc rest t ≤ step ↔ okT lc rest (step + 1) t := by
  unfold rA okT
  split <;> omega
theorem fs_is {f : Nat → Int32} {z : Int32} {n : Nat} : ∀ k, k ≤ n → (fs f z n k = -1 ∧ ∀ j, n - k ≤ j → j < n → f j ≠ z) ∨ ∃ i, n - k ≤ i ∧ i < n ∧ f i = z ∧ fs f z n k = nI i ∧ ∀ j, n - k ≤ j → j < i → f j ≠ z
  | 0, _ => Or.inl ⟨rfl, fun j h1 h2 => by omega⟩
  | k + 1, hk => by
    unfold fs
    by_cases e : f (n - (k + 1)) = z
    · rw [if_pos e]
      exact Or.inr ⟨n - (k + 1), Nat.le_refl _, by omega, e, rfl, fun j h1 h2 => by omega⟩
    · rw [if_neg e]
      rcases fs_is (f := f) (z := z) (n := n) k (by omega) with ⟨h1, h2⟩ | ⟨i, h1, h2, h3, h4, h5⟩
      · refine Or.inl ⟨h1, fun j a b => ?_⟩
        by_cases e2 : j = n - (k + 1)
        · rw [e2]; exact e
        · exact h2 j (by omega) b
      · refine Or.inr ⟨i, by omega, h2, h3, h4, fun j a b => ?_⟩
        by_cases e2 : j = n - (k + 1)
        · rw [e2]; exact e
        · exact h5 j (by omega) b
theorem tAt_z {f : Nat → Int32} {z : Nat} (hz : z < 7) : tAt f (nI z) = fs f (nI z) 7 7 := if_neg (z_m1 (by omega))
theorem tAt_none {f : Nat → Int32} {g : Nat → Nat} {nt z : Nat} (h : pOK 7 f g) (h7 : ∀ t, t < 7 → g t ≤ 7) (hn : ∀ t, nt ≤ t → t < 7 → g t = 7) (hnt : nt ≤ 7) (hz : z < 7) : tAt f (nI z) = -1 ↔ ∀ t, t < nt → g t ≠ z := by
  rw [tAt_z hz]
  rcases fs_is (f := f) (z := nI z) (n := 7) 7 (Nat.le_refl _) with ⟨h1, h2⟩ | ⟨i, h1, h2, h3, h4, -⟩
  · refine ⟨fun _ t ht e => ?_, fun _ => h1⟩
    exact h2 t (by omega) (by omega) (by rw [h t (by omega), e, zI_lt hz])
  · rw [h4]
    refine ⟨fun q => absurd q (z_m1 (by omega)), fun q => ?_⟩
    exfalso
    have e : g i = z := (zI_eqn (h7 i h2) hz).mp (by rw [← h i h2]; exact h3)
    by_cases e2 : i < nt
    · exact q i e2 e
    · have := hn i (by omega) h2
      omega
end
