section
/-! places and costs without the machine: zone 7 stands for none, 1000000 for no cost -/
def zI (z : Nat) : Int32 := if z < 7 then nI z else -1
theorem zI_lt {z : Nat} (h : z < 7) : zI z = nI z := if_pos h
theorem zI_7 {z : Nat} (h : ¬ z < 7) : zI z = -1 := if_neg h
theorem zI_none {z : Nat} (h : zI z = -1) : 7 ≤ z := by
  by_cases e : z < 7
  · rw [zI_lt e] at h
    exact absurd h (z_m1 (by omega))
  · omega
theorem zI_some {z : Nat} (h : ¬ zI z = -1) : z < 7 := by
  by_cases e : z < 7
  · exact e
  · exact absurd (zI_7 e) h
theorem zI_inj {a b : Nat} (ha : a ≤ 7) (hb : b ≤ 7) (h : zI a = zI b) : a = b := by
  by_cases e : a < 7
  · by_cases e2 : b < 7
    · rw [zI_lt e, zI_lt e2] at h
      exact z_eq (by omega) (by omega) h
    · rw [zI_7 e2] at h
      have := zI_none h
      omega
  · rw [zI_7 e] at h
    have := zI_none h.symm
    omega
theorem zI_eqn {a z : Nat} (ha : a ≤ 7) (hz : z < 7) : zI a = nI z ↔ a = z := by
  rw [← zI_lt hz]
  exact ⟨fun h => zI_inj ha (by omega) h, fun h => by rw [h]⟩
def sumT (h : Nat → Nat) : Nat → Nat
  | 0 => 0
  | n + 1 => sumT h n + h n
theorem sumT_congr {h k : Nat → Nat} {n : Nat} (e : ∀ t, t < n → h t = k t) : sumT h n = sumT k n := by
  induction n with
  | zero => rfl
  | succ n ih => rw [sumT, sumT, ih (fun t ht => e t (by omega)), e n (by omega)]
theorem sumT_le {h : Nat → Nat} {n c : Nat} (e : ∀ t, t < n → h t ≤ c) : sumT h n ≤ n * c := by
  induction n with
  | zero => exact Nat.zero_le _
  | succ n ih =>
    have h1 := ih (fun t ht => e t (by omega))
    have h2 := e n (by omega)
    rw [sumT, Nat.succ_mul]
    omega
theorem sumT_mono {h : Nat → Nat} {m n : Nat} (e : m ≤ n) : sumT h m ≤ sumT h n := by
  induction n with
  | zero => rw [show m = 0 by omega]; exact Nat.le_refl _
  | succ n ih =>
    by_cases q : m = n + 1
    · rw [q]; exact Nat.le_refl _
    · have := ih (by omega)
      rw [sumT]
      omega
def wishT (wi : Nat → Nat → Nat) (g : Nat → Nat) (t : Nat) : Nat := if g t < 7 then wi t (g t) else 0
def tieT (ti dd : Nat → Nat → Nat) (g : Nat → Nat) (t j : Nat) : Nat := if g t < 7 ∧ g j < 7 then ti t j * dd (g t) (g j) else 0
def tieN (ti dd : Nat → Nat → Nat) (g : Nat → Nat) (t : Nat) : Nat := sumT (tieT ti dd g t) t
def wishN (wi : Nat → Nat → Nat) (g : Nat → Nat) (n : Nat) : Nat := sumT (wishT wi g) n
def costN (wi ti dd : Nat → Nat → Nat) (g : Nat → Nat) (n : Nat) : Nat := wishN wi g n + sumT (tieN ti dd g) n
/-- of wishes alone, or whole -/
def pcN (b : Bool) (wi ti dd : Nat → Nat → Nat) (g : Nat → Nat) (n : Nat) : Nat := wishN wi g n + (if b = true then sumT (tieN ti dd g) n else 0)
theorem pcN_t (wi ti dd : Nat → Nat → Nat) (g : Nat → Nat) (n : Nat) : pcN true wi ti dd g n = costN wi ti dd g n := rfl
theorem pcN_f (wi ti dd : Nat → Nat → Nat) (g : Nat → Nat) (n : Nat) : pcN false wi ti dd g n = wishN wi g n := Nat.add_zero _
theorem pcN_congr {b : Bool} {wi ti dd : Nat → Nat → Nat} {g k : Nat → Nat} {n : Nat} (e : ∀ t, t < n → g t = k t) : pcN b wi ti dd g n = pcN b wi ti dd k n := by
  have h1 : wishN wi g n = wishN wi k n := sumT_congr fun t ht => by unfold wishT; rw [e t ht]
  have h2 : sumT (tieN ti dd g) n = sumT (tieN ti dd k) n := sumT_congr fun t ht => sumT_congr fun j hj => by unfold tieT; rw [e t ht, e j (by omega)]
  unfold pcN
  rw [h1, h2]
theorem pcN_mono {b : Bool} {wi ti dd : Nat → Nat → Nat} {g : Nat → Nat} {m n : Nat} (e : m ≤ n) : pcN b wi ti dd g m ≤ pcN b wi ti dd g n := by
  have h1 : wishN wi g m ≤ wishN wi g n := sumT_mono e
  have h2 : sumT (tieN ti dd g) m ≤ sumT (tieN ti dd g) n := sumT_mono e
  unfold pcN
  cases b
  · simp; exact h1
  · simp; omega
/-- the values that a state of the office can have -/
def vOK (nz : Nat) (wi ti dd : Nat → Nat → Nat) : Prop := (∀ t z, t < 7 → z < 7 → wi t z ≤ 99) ∧ (∀ t o, t < 7 → o < 7 → ti t o ≤ 9) ∧ ∀ u v, u < nz → v < nz → dd u v ≤ 100
def gOK (nz nt : Nat) (g : Nat → Nat) : Prop := ∀ t, t < nt → g t < nz ∨ g t = 7
theorem wish_le {nz : Nat} {wi ti dd : Nat → Nat → Nat} {g : Nat → Nat} {n : Nat} (hv : vOK nz wi ti dd) (hn : n ≤ 7) : wishN wi g n ≤ 693 := by
  have h : wishN wi g n ≤ n * 99 := sumT_le fun t ht => by
    unfold wishT
    split
    · exact hv.1 t _ (by omega) (by assumption)
    · omega
  have : n * 99 ≤ 7 * 99 := Nat.mul_le_mul_right _ hn
  omega
theorem tieN_le {nz : Nat} {wi ti dd : Nat → Nat → Nat} {g : Nat → Nat} {n t : Nat} (hv : vOK nz wi ti dd) (hg : gOK nz n g) (hn : n ≤ 7) (hz : nz ≤ 7) (ht : t < n) : tieN ti dd g t ≤ 6300 := by
  have h : tieN ti dd g t ≤ t * 900 := sumT_le fun j hj => by
    unfold tieT
    split
    · rename_i e
      have h1 := hv.2.1 t j (by omega) (by omega)
      have h2 := hv.2.2 (g t) (g j) ((hg t (by omega)).resolve_right (by omega)) ((hg j (by omega)).resolve_right (by omega))
      calc ti t j * dd (g t) (g j) ≤ 9 * 100 := Nat.mul_le_mul h1 h2
        _ = 900 := rfl
    · omega
  have : t * 900 ≤ 7 * 900 := Nat.mul_le_mul_right _ (by omega)
  omega
theorem pcN_le {b : Bool} {nz : Nat} {wi ti dd : Nat → Nat → Nat} {g : Nat → Nat} {n : Nat} (hv : vOK nz wi ti dd) (hg : gOK nz n g) (hn : n ≤ 7) (hz : nz ≤ 7) : pcN b wi ti dd g n ≤ 50000 := by
  have h1 := wish_le (g := g) (n := n) hv hn
  have h2 : sumT (tieN ti dd g) n ≤ n * 6300 := sumT_le fun t ht => tieN_le hv hg hn hz ht
  have : n * 6300 ≤ 7 * 6300 := Nat.mul_le_mul_right _ hn
  unfold pcN
  split <;> omega
theorem costN_le {nz : Nat} {wi ti dd : Nat → Nat → Nat} {g : Nat → Nat} {n : Nat} (hv : vOK nz wi ti dd) (hg : gOK nz n g) (hn : n ≤ 7) (hz : nz ≤ 7) : costN wi ti dd g n ≤ 50000 := pcN_le (b := true) hv hg hn hz
/-- the cells of rows of rows hold these numbers -/
def rOK (m n : Nat) (F : Nat → Nat → Int32) (f : Nat → Nat → Nat) : Prop := ∀ a b, a < m → b < n → F a b = nI (f a b)
/-- the cells of a row hold this placement -/
def pOK (n : Nat) (F : Nat → Int32) (g : Nat → Nat) : Prop := ∀ t, t < n → F t = zI (g t)
theorem wish_s {wi : Nat → Nat → Nat} {g : Nat → Nat} {n s : Nat} (h : s = wishN wi g n) (e : g n < 7) : s + wi n (g n) = wishN wi g (n + 1) := by rw [wishN, sumT, ← wishN, ← h, wishT, if_pos e]
theorem wish_n {wi : Nat → Nat → Nat} {g : Nat → Nat} {n s : Nat} (h : s = wishN wi g n) (e : ¬ g n < 7) : s = wishN wi g (n + 1) := by rw [wishN, sumT, ← wishN, ← h, wishT, if_neg e, Nat.add_zero]
theorem tie_s {ti dd : Nat → Nat → Nat} {g : Nat → Nat} {t n s : Nat} (h : s = sumT (tieT ti dd g t) n) (e : g t < 7) (e2 : g n < 7) : s + ti t n * dd (g t) (g n) = sumT (tieT ti dd g t) (n + 1) := by rw [sumT, ← h, tieT, if_pos ⟨e, e2⟩]
theorem tie_n {ti dd : Nat → Nat → Nat} {g : Nat → Nat} {t n s : Nat} (h : s = sumT (tieT ti dd g t) n) (e : ¬ (g t < 7 ∧ g n < 7)) : s = sumT (tieT ti dd g t) (n + 1) := by rw [sumT, ← h, tieT, if_neg e, Nat.add_zero]
theorem tie_0 {ti dd : Nat → Nat → Nat} {g : Nat → Nat} {t : Nat} (e : ¬ g t < 7) : tieN ti dd g t = 0 := by
  have h : ∀ n, sumT (tieT ti dd g t) n = 0 := fun n => by
    induction n with
    | zero => rfl
    | succ n ih => rw [sumT, ih, tieT, if_neg (fun q => e q.1)]
  exact h t
end
