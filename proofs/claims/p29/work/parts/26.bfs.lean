/-! Ways on the floor, without the machine: squares 0 to 63, steps, the least number of them; what a queue that spreads keeps -/
/-- v is put at b, of numbers -/
def updN (f : Nat → Nat) (k v : Nat) : Nat → Nat := fun j => if j = k then v else f j
theorem updN_s (f : Nat → Nat) (k v : Nat) : updN f k v k = v := if_pos rfl
theorem updN_n (f : Nat → Nat) {k j : Nat} (v : Nat) (h : j ≠ k) : updN f k v j = f j := if_neg h
/-- beside each other -/
def nb (a b : Nat) : Prop := (b = a + 1 ∧ a % 8 < 7) ∨ (a = b + 1 ∧ b % 8 < 7) ∨ b = a + 8 ∨ a = b + 8
/-- in at most n steps from a to b -/
def Rn (w : Nat → Int32) (a : Nat) : Nat → Nat → Prop
  | 0, b => b = a
  | n + 1, b => Rn w a n b ∨ (b < 64 ∧ w b = 0 ∧ ∃ c, c < 64 ∧ nb c b ∧ Rn w a n c)
theorem Rn_mono {w : Nat → Int32} {a b n m : Nat} (h : Rn w a n b) (hm : n ≤ m) : Rn w a m b := by
  induction m with
  | zero => rw [show n = 0 by omega] at h; exact h
  | succ m ih =>
    by_cases e : n = m + 1
    · rw [← e]; exact h
    · exact Or.inl (ih (by omega))
/-- in n steps, and not in fewer -/
def dE (w : Nat → Int32) (a n b : Nat) : Prop := Rn w a n b ∧ ∀ m, m < n → ¬ Rn w a m b
theorem dE_inj {w : Nat → Int32} {a b n m : Nat} (h : dE w a n b) (h2 : dE w a m b) : n = m := by
  rcases Nat.lt_trichotomy n m with q | q | q
  · exact absurd h.1 (h2.2 n q)
  · exact q
  · exact absurd h2.1 (h.2 m q)
theorem dE_of {w : Nat → Int32} {a b n : Nat} (h : Rn w a n b) : ∃ m, m ≤ n ∧ dE w a m b := by
  induction n with
  | zero => exact ⟨0, Nat.le_refl 0, h, fun m hm => absurd hm (by omega)⟩
  | succ n ih =>
    by_cases e : Rn w a n b
    · obtain ⟨m, h1, h2⟩ := ih e
      exact ⟨m, by omega, h2⟩
    · exact ⟨n + 1, Nat.le_refl _, h, fun m hm q => e (Rn_mono q (by omega))⟩
theorem dE_pred {w : Nat → Int32} {a b n : Nat} (h : dE w a (n + 1) b) : b < 64 ∧ w b = 0 ∧ ∃ c, c < 64 ∧ nb c b ∧ dE w a n c := by
  obtain ⟨h1, h2⟩ := h
  rcases h1 with h1 | ⟨h3, h4, c, h5, h6, h7⟩
  · exact absurd h1 (h2 n (by omega))
  · refine ⟨h3, h4, c, h5, h6, h7, fun m hm q => h2 (m + 1) (by omega) (Or.inr ⟨h3, h4, c, h5, h6, q⟩)⟩
/-- what the distance from a to b is, as the machine has it: 100 without a way -/
def isD (w : Nat → Int32) (a b : Nat) (v : Int32) : Prop := (∃ n, n < 64 ∧ v = nI n ∧ dE w a n b) ∨ (v = nI 100 ∧ ∀ n, ¬ Rn w a n b)
theorem isD_inj {w : Nat → Int32} {a b : Nat} {v u : Int32} (h : isD w a b v) (h2 : isD w a b u) : v = u := by
  rcases h with ⟨n, -, e, hd⟩ | ⟨e, hd⟩ <;> rcases h2 with ⟨m, -, e2, hd2⟩ | ⟨e2, hd2⟩
  · rw [e, e2, dE_inj hd hd2]
  · exact absurd hd.1 (hd2 n)
  · exact absurd hd2.1 (hd m)
  · rw [e, e2]
theorem isD_le {w : Nat → Int32} {a b : Nat} {v : Int32} (h : isD w a b v) : ∃ n, n ≤ 100 ∧ v = nI n := by
  rcases h with ⟨n, h1, e, -⟩ | ⟨e, -⟩
  · exact ⟨n, by omega, e⟩
  · exact ⟨100, by omega, e⟩
/-- no n + 1 numbers below n are apart -/
theorem pigeon : ∀ (n : Nat) (f : Nat → Nat), (∀ i, i < n + 1 → f i < n) → ∃ i j, i < j ∧ j < n + 1 ∧ f i = f j
  | 0, f, h => absurd (h 0 (by omega)) (by omega)
  | n + 1, f, h => by
    by_cases hx : ∃ i, i < n + 1 ∧ f i = f (n + 1)
    · obtain ⟨i, h1, h2⟩ := hx
      exact ⟨i, n + 1, h1, by omega, h2⟩
    · have hne : ∀ i, i < n + 1 → f i ≠ f (n + 1) := fun i hi e => hx ⟨i, hi, e⟩
      have hl := h (n + 1) (by omega)
      obtain ⟨i, j, h1, h2, h3⟩ := pigeon n (fun i => if f i = n then f (n + 1) else f i) (fun i hi => by
        have h4 := h i (by omega)
        have h5 := hne i hi
        show (if f i = n then f (n + 1) else f i) < n
        by_cases e : f i = n
        · rw [if_pos e]; omega
        · rw [if_neg e]; omega)
      have h3 : (if f i = n then f (n + 1) else f i) = (if f j = n then f (n + 1) else f j) := h3
      refine ⟨i, j, h1, by omega, ?_⟩
      have hi := hne i (by omega)
      have hj := hne j (by omega)
      by_cases e1 : f i = n <;> by_cases e2 : f j = n
      · rw [e1, e2]
      · rw [if_pos e1, if_neg e2] at h3; exact absurd h3.symm hj
      · rw [if_neg e1, if_pos e2] at h3; exact absurd h3 hi
      · rw [if_neg e1, if_neg e2] at h3; exact h3
/-- numbers below n, n of them, apart: each one is met -/
theorem pigeon_all {n : Nat} {f : Nat → Nat} (h : ∀ i, i < n → f i < n) (hi : ∀ i j, i < j → j < n → f i ≠ f j) {b : Nat} (hb : b < n) : ∃ i, i < n ∧ f i = b := by
  by_cases hx : ∃ i, i < n ∧ f i = b
  · exact hx
  · exfalso
    obtain ⟨i, j, h1, h2, h3⟩ := pigeon n (fun i => if i < n then f i else b) (fun i hi => by
      show (if i < n then f i else b) < n
      by_cases e : i < n
      · rw [if_pos e]; exact h i e
      · rw [if_neg e]; exact hb)
    have h3 : (if i < n then f i else b) = (if j < n then f j else b) := h3
    by_cases e : j < n
    · rw [if_pos (by omega), if_pos e] at h3
      exact hi i j h1 e h3
    · rw [if_pos (by omega), if_neg e] at h3
      exact hx ⟨i, by omega, h3⟩
/-- whoever can be reached is reached in 63 steps -/
theorem dE_lt {w : Nat → Int32} {a : Nat} (ha : a < 64) {n b : Nat} (h : dE w a n b) : n < 64 := by
  by_cases hn : n < 64
  · exact hn
  · exfalso
    have key : ∀ k n b, dE w a (n + k) b → ∃ c, dE w a n c ∧ (n = 0 ∨ c < 64) := by
      intro k
      induction k with
      | zero =>
        intro n b h
        refine ⟨b, h, ?_⟩
        cases n with
        | zero => exact Or.inl rfl
        | succ n => exact Or.inr (dE_pred h).1
      | succ k ih =>
        intro n b h
        obtain ⟨-, -, c, h5, -, h7⟩ := dE_pred (show dE w a (n + k + 1) b from h)
        exact ih n c h7
    have hex : ∀ i, i < 65 → ∃ c, c < 64 ∧ dE w a i c := by
      intro i hi
      obtain ⟨c, h1, h2⟩ := key (n - i) i b (by rw [show i + (n - i) = n by omega]; exact h)
      refine ⟨c, ?_, h1⟩
      rcases h2 with rfl | h2
      · have h3 : c = a := h1.1
        omega
      · exact h2
    obtain ⟨f, hf⟩ : ∃ f : Nat → Nat, ∀ i, i < 65 → f i < 64 ∧ dE w a i (f i) := by
      refine ⟨fun i => if h : i < 65 then Classical.choose (hex i h) else 0, fun i hi => ?_⟩
      simp only [dif_pos hi]
      exact Classical.choose_spec (hex i hi)
    obtain ⟨i, j, h1, h2, h3⟩ := pigeon 64 f (fun i hi => (hf i hi).1)
    have h4 := (hf i (by omega)).2
    have h5 := (hf j h2).2
    rw [h3] at h4
    have := dE_inj h4 h5
    omega
-- ===== the queue =====
/-- the queue has rc squares Q 0, Q 1, .., at distances dq; those ahead of place i are done with -/
def BI (w : Nat → Int32) (a i : Nat) (st re : Nat → Int32) (rc : Nat) (Q dq : Nat → Nat) : Prop :=
  (∀ k, k < rc → Q k < 64 ∧ re k = nI (Q k) ∧ st (Q k) = nI (dq k) ∧ dE w a (dq k) (Q k) ∧ dq k ≤ k) ∧
  (∀ b, b < 64 → st b = nI 100 ∨ ∃ k, k < rc ∧ Q k = b) ∧
  (∀ j k, j < k → k < rc → Q j ≠ Q k ∧ dq j ≤ dq k) ∧
  (∀ k, k < rc → i < rc → dq k ≤ dq i + 1) ∧
  (∀ k, k < i → ∀ b, b < 64 → nb (Q k) b → w b = 0 → ∃ j, j < rc ∧ Q j = b) ∧
  i ≤ rc ∧ rc ≤ 64 ∧ 0 < rc ∧ Q 0 = a
/-- nearer than the head: done with -/
theorem BI_near {w : Nat → Int32} {a i rc : Nat} {st re : Nat → Int32} {Q dq : Nat → Nat} (h : BI w a i st re rc Q dq) (hi : i < rc) : ∀ n c, dE w a n c → n < dq i → ∃ k, k < i ∧ Q k = c := by
  obtain ⟨h1, h2, h3, h4, h5, h6, h7, h8, h9⟩ := h
  intro n
  induction n with
  | zero =>
    intro c hc hn
    have e : c = a := hc.1
    refine ⟨0, ?_, by rw [e]; exact h9⟩
    by_cases e0 : i = 0
    · subst e0
      have := (h1 0 hi).2.2.2.2
      omega
    · omega
  | succ n ih =>
    intro c hc hn
    obtain ⟨q1, q2, c', q3, q4, q5⟩ := dE_pred hc
    obtain ⟨k', k1, k2⟩ := ih c' q5 (by omega)
    obtain ⟨j, j1, j2⟩ := h5 k' k1 c q1 (by rw [k2]; exact q4) q2
    refine ⟨j, ?_, j2⟩
    obtain ⟨-, -, -, g, -⟩ := h1 j j1
    rw [j2] at g
    have e := dE_inj g hc
    by_cases hj : j < i
    · exact hj
    · exfalso
      have : dq i ≤ dq j := by
        by_cases e2 : i = j
        · rw [e2]; exact Nat.le_refl _
        · exact (h3 i j (by omega) j1).2
      omega
/-- one square is looked at from the head -/
theorem BI_look {w : Nat → Int32} {a i rc : Nat} {st re : Nat → Int32} {Q dq : Nat → Nat} (h : BI w a i st re rc Q dq) (hi : i < rc) {b : Nat} (hb : b < 64) (hn : nb (Q i) b) (hw : w b = 0) (hs : st b = nI 100) :
    rc < 64 ∧ ∃ Q' dq', BI w a i (upd st b (nI (dq i + 1))) (upd re rc (nI b)) (rc + 1) Q' dq' ∧ (∀ k, k < rc → Q' k = Q k ∧ dq' k = dq k) ∧ Q' rc = b := by
  have hnear := BI_near h hi
  obtain ⟨h1, h2, h3, h4, h5, h6, h7, h8, h9⟩ := h
  have hfree : ∀ k, k < rc → Q k ≠ b := by
    intro k hk e
    obtain ⟨-, -, g, -, g2⟩ := h1 k hk
    rw [e, hs] at g
    have := z_eq (by omega) (by omega) g
    omega
  have hrc : rc < 64 := by
    by_cases q : rc < 64
    · exact q
    · exfalso
      have hq : rc = 64 := by omega
      subst hq
      obtain ⟨k, k1, k2⟩ := pigeon_all (fun k hk => (h1 k hk).1) (fun j k hjk hk => (h3 j k hjk hk).1) hb
      exact hfree k k1 k2
  have hdE : dE w a (dq i + 1) b := by
    obtain ⟨g1, -, -, g4, -⟩ := h1 i hi
    refine ⟨Or.inr ⟨hb, hw, Q i, g1, hn, g4.1⟩, fun m hm hr => ?_⟩
    obtain ⟨m', m1, m2⟩ := dE_of hr
    cases m' with
    | zero =>
      have e : b = a := m2.1
      exact hfree 0 h8 (by rw [e]; exact h9)
    | succ m' =>
      obtain ⟨-, -, c, c1, c2, c3⟩ := dE_pred m2
      obtain ⟨k, k1, k2⟩ := hnear m' c c3 (by omega)
      obtain ⟨j, j1, j2⟩ := h5 k k1 b hb (by rw [k2]; exact c2) hw
      exact hfree j j1 j2
  refine ⟨hrc, updN Q rc b, updN dq rc (dq i + 1), ⟨?_, ?_, ?_, ?_, ?_, by omega, by omega, by omega, ?_⟩, fun k hk => ⟨updN_n _ _ (by omega), updN_n _ _ (by omega)⟩, updN_s _ _ _⟩
  · intro k hk
    by_cases e : k = rc
    · subst e
      rw [updN_s, updN_s]
      have := (h1 i hi).2.2.2.2
      exact ⟨hb, pk_us, pk_us, hdE, by omega⟩
    · rw [updN_n _ _ e, updN_n _ _ e]
      obtain ⟨g1, g2, g3, g4, g5⟩ := h1 k (by omega)
      exact ⟨g1, by rw [pk_un e]; exact g2, by rw [pk_un (hfree k (by omega))]; exact g3, g4, g5⟩
  · intro b' hb'
    by_cases e : b' = b
    · subst e
      exact Or.inr ⟨rc, by omega, updN_s _ _ _⟩
    · rcases h2 b' hb' with g | ⟨k, k1, k2⟩
      · exact Or.inl (by rw [pk_un e]; exact g)
      · exact Or.inr ⟨k, by omega, by rw [updN_n _ _ (by omega)]; exact k2⟩
  · intro j k hjk hk
    by_cases e : k = rc
    · subst e
      rw [updN_s, updN_s, updN_n _ _ (by omega), updN_n _ _ (by omega)]
      exact ⟨hfree j (by omega), h4 j (by omega) hi⟩
    · rw [updN_n _ _ e, updN_n _ _ e, updN_n _ _ (by omega), updN_n _ _ (by omega)]
      exact h3 j k hjk (by omega)
  · intro k hk hi'
    rw [updN_n dq _ (show i ≠ rc by omega)]
    by_cases e : k = rc
    · subst e
      rw [updN_s]
      exact Nat.le_refl _
    · rw [updN_n _ _ e]
      exact h4 k (by omega) hi
  · intro k hk b' hb' hn' hw'
    rw [updN_n _ _ (show k ≠ rc by omega)] at hn'
    obtain ⟨j, j1, j2⟩ := h5 k hk b' hb' hn' hw'
    exact ⟨j, by omega, by rw [updN_n _ _ (by omega)]; exact j2⟩
  · rw [updN_n _ _ (by omega)]
    exact h9
/-- the head is done with -/
theorem BI_next {w : Nat → Int32} {a i rc : Nat} {st re : Nat → Int32} {Q dq : Nat → Nat} (h : BI w a i st re rc Q dq) (hi : i < rc) (hv : ∀ b, b < 64 → nb (Q i) b → w b = 0 → ∃ j, j < rc ∧ Q j = b) : BI w a (i + 1) st re rc Q dq := by
  obtain ⟨h1, h2, h3, h4, h5, h6, h7, h8, h9⟩ := h
  refine ⟨h1, h2, h3, fun k hk hi' => ?_, fun k hk b hb hn hw => ?_, by omega, h7, h8, h9⟩
  · have := h4 k hk hi
    have := (h3 i (i + 1) (by omega) hi').2
    omega
  · by_cases e : k = i
    · subst e
      exact hv b hb hn hw
    · exact h5 k (by omega) b hb hn hw
/-- the queue at its end -/
theorem BI_end {w : Nat → Int32} {a i rc : Nat} {st re : Nat → Int32} {Q dq : Nat → Nat} (h : BI w a i st re rc Q dq) (hi : rc ≤ i) {b : Nat} (hb : b < 64) : isD w a b (st b) := by
  obtain ⟨h1, h2, h3, h4, h5, h6, h7, h8, h9⟩ := h
  rcases h2 b hb with g | ⟨k, k1, k2⟩
  · refine Or.inr ⟨g, ?_⟩
    have hall : ∀ n b, b < 64 → Rn w a n b → ∃ k, k < rc ∧ Q k = b := by
      intro n
      induction n with
      | zero =>
        intro b _ hr
        exact ⟨0, h8, h9.trans (show b = a from hr).symm⟩
      | succ n ih =>
        intro b hb hr
        rcases hr with hr | ⟨-, q2, c, q3, q4, q5⟩
        · exact ih b hb hr
        · obtain ⟨k, k1, k2⟩ := ih c q3 q5
          exact h5 k (by omega) b hb (by rw [k2]; exact q4) q2
    intro n hr
    obtain ⟨k, k1, k2⟩ := hall n b hb hr
    obtain ⟨-, -, g3, -, g5⟩ := h1 k k1
    rw [k2, g] at g3
    have := z_eq (by omega) (by omega) g3
    omega
  · obtain ⟨-, -, g3, g4, g5⟩ := h1 k k1
    rw [k2] at g3 g4
    exact Or.inl ⟨dq k, by omega, g3, g4⟩
theorem BI_start {w : Nat → Int32} {a : Nat} (ha : a < 64) (re : Nat → Int32) : BI w a 0 (upd (fun _ => nI 100) a (nI 0)) (upd re 0 (nI a)) 1 (fun _ => a) (fun _ => 0) := by
  refine ⟨fun k hk => ?_, fun b hb => ?_, fun j k hjk hk => absurd hk (by omega), fun k _ _ => (show (0 : Nat) ≤ 0 + 1 by omega), fun k hk => absurd hk (by omega), by omega, by omega, by omega, rfl⟩
  · rw [show k = 0 by omega]
    exact ⟨ha, pk_us, pk_us, ⟨rfl, fun m hm => absurd (show m < 0 from hm) (by omega)⟩, Nat.le_refl 0⟩
  · by_cases e : b = a
    · exact Or.inr ⟨0, by omega, e.symm⟩
    · exact Or.inl (pk_un e)
-- ===== squares as the machine has them =====
abbrev inSq (c r : Int32) : Prop := ((¬ c < 0 ∧ ¬ nI 8 ≤ c) ∧ ¬ r < 0) ∧ ¬ nI 8 ≤ r
def sqI (c r : Int32) : Nat := r.toNatClampNeg * 8 + c.toNatClampNeg
theorem in8 {c : Int32} (h1 : ¬ c < 0) (h2 : ¬ nI 8 ≤ c) : ∃ i, i < 8 ∧ c = nI i := by
  rcases pk_ix c (n := 8) (by omega) with h | h | h
  · exact absurd h h1
  · exact absurd h h2
  · exact h
theorem inSq_nat {c r : Int32} (h : inSq c r) : ∃ i j, i < 8 ∧ j < 8 ∧ c = nI i ∧ r = nI j := by
  obtain ⟨i, h1, h2⟩ := in8 h.1.1.1 h.1.1.2
  obtain ⟨j, h3, h4⟩ := in8 h.1.2 h.2
  exact ⟨i, j, h1, h3, h2, h4⟩
theorem inSq_iff {i j : Nat} (hi : i < 2 ^ 31) (hj : j < 2 ^ 31) : inSq (nI i) (nI j) ↔ i < 8 ∧ j < 8 := by
  constructor
  · intro h
    have h1 := z_nle (by omega) hi h.1.1.2
    have h2 := z_nle (by omega) hj h.2
    exact ⟨h1, h2⟩
  · intro h
    exact ⟨⟨⟨nI_pos hi, nI_ge h.1 (by omega)⟩, nI_pos hj⟩, nI_ge h.2 (by omega)⟩
theorem sqI_nat {i j : Nat} (hi : i < 2 ^ 31) (hj : j < 2 ^ 31) : sqI (nI i) (nI j) = j * 8 + i := by
  unfold sqI
  rw [nI_clamp hi, nI_clamp hj]
/-- what reach does to the steps, the queue and its length -/
def RS (w : Nat → Int32) (c r v : Int32) (st re : Nat → Int32) (rc : Nat) (st2 re2 : Nat → Int32) (rc2 : Nat) : Prop :=
  ((inSq c r ∧ rc < 64 ∧ w (sqI c r) = 0 ∧ st (sqI c r) = nI 100) ∧ st2 = upd st (sqI c r) v ∧ re2 = upd re rc (nI (sqI c r)) ∧ rc2 = rc + 1) ∨
  (¬ (inSq c r ∧ rc < 64 ∧ w (sqI c r) = 0 ∧ st (sqI c r) = nI 100) ∧ st2 = st ∧ re2 = re ∧ rc2 = rc)
/-- reach at a square beside the head, or outside -/
theorem BI_reach {w : Nat → Int32} {a i rc rc2 : Nat} {st re st2 re2 : Nat → Int32} {Q dq : Nat → Nat} {c r : Int32} {u d : Nat} (h : BI w a i st re rc Q dq) (hi : i < rc) (hu : Q i = u) (hd : dq i = d) (hc : inSq c r → sqI c r < 64 ∧ nb u (sqI c r)) (hR : RS w c r (nI (d + 1)) st re rc st2 re2 rc2) :
    ∃ Q' dq', BI w a i st2 re2 rc2 Q' dq' ∧ i < rc2 ∧ Q' i = u ∧ dq' i = d ∧ (∀ b, (∃ k, k < rc ∧ Q k = b) → ∃ k, k < rc2 ∧ Q' k = b) ∧ (inSq c r → w (sqI c r) = 0 → ∃ k, k < rc2 ∧ Q' k = sqI c r) := by
  rcases hR with ⟨⟨h1, h2, h3, h4⟩, rfl, rfl, rfl⟩ | ⟨hno, rfl, rfl, rfl⟩
  · obtain ⟨c1, c2⟩ := hc h1
    obtain ⟨-, Q', dq', g1, g2, g3⟩ := BI_look h hi c1 (by rw [hu]; exact c2) h3 h4
    rw [hd] at g1
    refine ⟨Q', dq', g1, by omega, (g2 i hi).1.trans hu, (g2 i hi).2.trans hd, fun b hb => ?_, fun _ _ => ⟨rc, by omega, g3⟩⟩
    obtain ⟨k, k1, k2⟩ := hb
    exact ⟨k, by omega, (g2 k k1).1.trans k2⟩
  · refine ⟨Q, dq, h, hi, hu, hd, fun b hb => hb, fun g1 g2 => ?_⟩
    obtain ⟨c1, c2⟩ := hc g1
    by_cases h4 : st2 (sqI c r) = nI 100
    · have h2 := (BI_look h hi c1 (by rw [hu]; exact c2) g2 h4).1
      exact absurd ⟨g1, h2, g2, h4⟩ hno
    · rcases h.2.1 _ c1 with g | g
      · exact absurd g h4
      · exact g
/-- the four squares beside u = r * 8 + c -/
theorem nb4 {u b : Nat} (hu : u < 64) (hb : b < 64) (h : nb u b) : (inSq (nI (u % 8) - nI 1) (nI (u / 8)) ∧ sqI (nI (u % 8) - nI 1) (nI (u / 8)) = b) ∨ (inSq (nI (u % 8 + 1)) (nI (u / 8)) ∧ sqI (nI (u % 8 + 1)) (nI (u / 8)) = b) ∨ (inSq (nI (u % 8)) (nI (u / 8) - nI 1) ∧ sqI (nI (u % 8)) (nI (u / 8) - nI 1) = b) ∨ (inSq (nI (u % 8)) (nI (u / 8 + 1)) ∧ sqI (nI (u % 8)) (nI (u / 8 + 1)) = b) := by
  rcases h with ⟨h1, h2⟩ | ⟨h1, h2⟩ | h1 | h1
  · refine Or.inr (Or.inl ⟨(inSq_iff (by omega) (by omega)).mpr ⟨by omega, by omega⟩, ?_⟩)
    rw [sqI_nat (by omega) (by omega)]; omega
  · refine Or.inl ?_
    rw [pk_sub (by omega)]
    refine ⟨(inSq_iff (by omega) (by omega)).mpr ⟨by omega, by omega⟩, ?_⟩
    rw [sqI_nat (by omega) (by omega)]; omega
  · refine Or.inr (Or.inr (Or.inr ⟨(inSq_iff (by omega) (by omega)).mpr ⟨by omega, by omega⟩, ?_⟩))
    rw [sqI_nat (by omega) (by omega)]; omega
  · refine Or.inr (Or.inr (Or.inl ?_))
    rw [pk_sub (by omega)]
    refine ⟨(inSq_iff (by omega) (by omega)).mpr ⟨by omega, by omega⟩, ?_⟩
    rw [sqI_nat (by omega) (by omega)]; omega
theorem m1_out {k : Nat} (hk : k < 8) (h : ¬ nI k - nI 1 < 0) : 1 ≤ k := by
  by_cases e : k = 0
  · subst e
    exact absurd (by decide) h
  · omega
theorem nb_l {u : Nat} (hu : u < 64) (h : inSq (nI (u % 8) - nI 1) (nI (u / 8))) : sqI (nI (u % 8) - nI 1) (nI (u / 8)) < 64 ∧ nb u (sqI (nI (u % 8) - nI 1) (nI (u / 8))) := by
  have h1 := m1_out (by omega) h.1.1.1
  rw [pk_sub h1, sqI_nat (by omega) (by omega)]
  unfold nb
  omega
theorem nb_r {u : Nat} (hu : u < 64) (h : inSq (nI (u % 8 + 1)) (nI (u / 8))) : sqI (nI (u % 8 + 1)) (nI (u / 8)) < 64 ∧ nb u (sqI (nI (u % 8 + 1)) (nI (u / 8))) := by
  have h1 := (inSq_iff (by omega) (by omega)).mp h
  rw [sqI_nat (by omega) (by omega)]
  unfold nb
  omega
theorem nb_u {u : Nat} (hu : u < 64) (h : inSq (nI (u % 8)) (nI (u / 8) - nI 1)) : sqI (nI (u % 8)) (nI (u / 8) - nI 1) < 64 ∧ nb u (sqI (nI (u % 8)) (nI (u / 8) - nI 1)) := by
  have h1 := m1_out (by omega) h.1.2
  rw [pk_sub h1, sqI_nat (by omega) (by omega)]
  unfold nb
  omega
theorem nb_d {u : Nat} (hu : u < 64) (h : inSq (nI (u % 8)) (nI (u / 8 + 1))) : sqI (nI (u % 8)) (nI (u / 8 + 1)) < 64 ∧ nb u (sqI (nI (u % 8)) (nI (u / 8 + 1))) := by
  have h1 := (inSq_iff (by omega) (by omega)).mp h
  rw [sqI_nat (by omega) (by omega)]
  unfold nb
  omega
/-- all four looks from the head -/
theorem BI_four {w : Nat → Int32} {a i rc r1 r2 r3 r4 : Nat} {st re s1 e1 s2 e2 s3 e3 s4 e4 : Nat → Int32} {Q dq : Nat → Nat} (h : BI w a i st re rc Q dq) (hi : i < rc)
    (R1 : RS w (nI (Q i % 8) - nI 1) (nI (Q i / 8)) (nI (dq i + 1)) st re rc s1 e1 r1) (R2 : RS w (nI (Q i % 8 + 1)) (nI (Q i / 8)) (nI (dq i + 1)) s1 e1 r1 s2 e2 r2)
    (R3 : RS w (nI (Q i % 8)) (nI (Q i / 8) - nI 1) (nI (dq i + 1)) s2 e2 r2 s3 e3 r3) (R4 : RS w (nI (Q i % 8)) (nI (Q i / 8 + 1)) (nI (dq i + 1)) s3 e3 r3 s4 e4 r4) :
    ∃ Q' dq', BI w a (i + 1) s4 e4 r4 Q' dq' := by
  have hu : Q i < 64 := (h.1 i hi).1
  obtain ⟨Q1, d1, b1, i1, u1, v1, m1, n1⟩ := BI_reach h hi rfl rfl (nb_l hu) R1
  obtain ⟨Q2, d2, b2, i2, u2, v2, m2, n2⟩ := BI_reach b1 i1 u1 v1 (nb_r hu) R2
  obtain ⟨Q3, d3, b3, i3, u3, v3, m3, n3⟩ := BI_reach b2 i2 u2 v2 (nb_u hu) R3
  obtain ⟨Q4, d4, b4, i4, u4, v4, m4, n4⟩ := BI_reach b3 i3 u3 v3 (nb_d hu) R4
  refine ⟨Q4, d4, BI_next b4 i4 (fun b hb hn hw => ?_)⟩
  rw [u4] at hn
  rcases nb4 hu hb hn with ⟨g1, g2⟩ | ⟨g1, g2⟩ | ⟨g1, g2⟩ | ⟨g1, g2⟩
  · exact m4 b (m3 b (m2 b (by rw [← g2] at hw ⊢; exact n1 g1 hw)))
  · exact m4 b (m3 b (by rw [← g2] at hw ⊢; exact n2 g1 hw))
  · exact m4 b (by rw [← g2] at hw ⊢; exact n3 g1 hw)
  · rw [← g2] at hw ⊢; exact n4 g1 hw
