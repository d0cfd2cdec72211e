section
/-! the reference's search, without the machine -/
noncomputable def cbN (ok : Prop) (c : Nat) : Nat := @ite Nat ok (Classical.propDecidable _) c 1000000
theorem cbN_t {ok : Prop} {c : Nat} (h : ok) : cbN ok c = c := by unfold cbN; rw [if_pos h]
theorem cbN_f {ok : Prop} {c : Nat} (h : ¬ ok) : cbN ok c = 1000000 := by unfold cbN; rw [if_neg h]
/-- when a team was changed, as the reference has it -/
def chI (lc : Nat → Nat) (t : Nat) : Int32 := if lc t = 0 then -10 else nI (lc t)
def stC (lc : Nat → Nat) (s t : Nat) : Nat := if lc t = 0 then s + 10 else s - lc t
theorem stC_is {lc : Nat → Nat} {s t : Nat} (h : lc t ≤ s) : nI s - chI lc t = nI (stC lc s t) := by
  unfold chI stC
  by_cases e : lc t = 0
  · rw [if_pos e, if_pos e, show (-10 : Int32) = -nI 10 from by decide, Int32.sub_neg, nI_add]
  · rw [if_neg e, if_neg e, pk_sub h]
theorem stC_ok {lc : Nat → Nat} {s t rest : Nat} (hr : rest ≤ 5) : rest < stC lc s t ↔ okT lc rest s t := by
  unfold stC okT
  split <;> omega
theorem stC_le {lc : Nat → Nat} {s t : Nat} : stC lc s t ≤ s + 10 := by
  unfold stC
  split <;> omega
/-- the choice in the reference's local numbers: cost, team, other, zone -/
def chV (c : C4) (a b d e : Int32) : Prop := a = lI c.1 ∧ c.1 ≤ 1000000 ∧ (c.1 < 1000000 → b = nI c.2.1 ∧ d = zI c.2.2.1 ∧ e = nI c.2.2.2)
theorem chV_0 : chV c40 (-1) (-1) (-1) (-1) := ⟨lI_big.symm, Nat.le_refl _, fun h => absurd h (by unfold c40; omega)⟩
theorem chV_no {ok : Prop} {c x : C4} {a b d e : Int32} (h : chV c a b d e) (hok : 1000000 ≤ cbN ok x.1) (hx : x.1 < 1000000) : chV (kp ok x c) a b d e := by
  have hn : ¬ ok := fun q => by rw [cbN_t q] at hok; omega
  rw [kp_f hn]; exact h
theorem chV_worse {ok : Prop} {c x : C4} {a b d e : Int32} (h : chV c a b d e) (hok : cbN ok x.1 < 1000000) (hw : c.1 ≤ cbN ok x.1) : chV (kp ok x c) a b d e := by
  by_cases q : ok
  · rw [cbN_t q] at hw
    rw [kp_n (by omega)]; exact h
  · rw [kp_f q]; exact h
theorem chV_new {ok : Prop} {c x : C4} {a b d e : Int32} (h : chV c a b d e) (hok : cbN ok x.1 < 1000000) (hw : cbN ok x.1 < c.1) : chV (kp ok x c) (lI (cbN ok x.1)) (nI x.2.1) (zI x.2.2.1) (nI x.2.2.2) := by
  have q : ok := Classical.byContradiction fun q => by rw [cbN_f q] at hok; omega
  rw [cbN_t q] at hw hok ⊢
  rw [kp_t q hw]
  exact ⟨rfl, by omega, fun _ => ⟨rfl, rfl, rfl⟩⟩
theorem rn_g {cs : (Nat → Nat) → Nat} {ft : Nat → Nat → Prop} {nt nz rest : Nat} {g0 : Nat → Nat} (ha : aP nz nt ft g0) (hnt : nt ≤ 7) {s k : Nat} {b : Bool} {g lc bb : Nat → Nat} (h : rn cs ft nt nz rest g0 s = (b, g, lc, k, bb)) : aP nz nt ft g := by
  have h9 := (rn_aP (cs := cs) (rest := rest) ha hnt s).1
  rw [h] at h9; exact h9
/-- placed, from 1 to 0 -/
theorem pl_all {zo : Nat → Int32} {g : Nat → Nat} {n : Nat} (h : pOK n zo g) : (∀ t, t < n → ¬ zo t = -1) ↔ ∀ t, t < n → g t < 7 := by
  constructor
  · intro q t ht
    exact zI_some (by rw [← h t ht]; exact q t ht)
  · intro q t ht
    rw [h t ht, zI_lt (q t ht)]
    exact z_m1 (by have := q t ht; omega)
end
