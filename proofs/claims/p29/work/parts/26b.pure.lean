/-! small pure words of the contracts -/
/-- some place below n -/
def anyN (g : Nat → Bool) : Nat → Bool
  | 0 => false
  | n + 1 => anyN g n || g n
theorem anyN_iff {g : Nat → Bool} : ∀ {n : Nat}, anyN g n = true ↔ ∃ k, k < n ∧ g k = true
  | 0 => ⟨fun h => (by cases h), fun ⟨k, h, _⟩ => absurd h (by omega)⟩
  | n + 1 => by
    unfold anyN
    rw [Bool.or_eq_true, anyN_iff]
    constructor
    · rintro (⟨k, h1, h2⟩ | h)
      · exact ⟨k, by omega, h2⟩
      · exact ⟨n, by omega, h⟩
    · rintro ⟨k, h1, h2⟩
      by_cases e : k = n
      · subst e; exact Or.inr h2
      · exact Or.inl ⟨k, by omega, h2⟩
/-- the sum of the first n -/
def sumN (g : Nat → Int32) : Nat → Int32
  | 0 => nI 0
  | n + 1 => sumN g n + g n
/-- the greatest of p and the first n but the one at d, by Math.max -/
def mxN (f : Nat → Int32) (d : Nat) (p : Int32) : Nat → Int32
  | 0 => p
  | n + 1 => if n = d then mxN f d p n else if mxN f d p n < f n then f n else mxN f d p n
theorem RS_first {w : Nat → Int32} {a : Nat} (ha : a < 64) (hw : w a = 0) {re st2 re2 : Nat → Int32} {rc2 : Nat} (h : RS w (nI (a % 8)) (nI (a / 8)) (nI 0) (fun _ => nI 100) re 0 st2 re2 rc2) : ∃ Q dq, BI w a 0 st2 re2 rc2 Q dq := by
  have e : sqI (nI (a % 8)) (nI (a / 8)) = a := by rw [sqI_nat (by omega) (by omega)]; omega
  have hi : inSq (nI (a % 8)) (nI (a / 8)) := (inSq_iff (by omega) (by omega)).mpr ⟨by omega, by omega⟩
  rcases h with ⟨-, rfl, rfl, rfl⟩ | ⟨h, -⟩
  · rw [e]
    exact ⟨_, _, BI_start ha re⟩
  · exact absurd ⟨hi, by omega, by rw [e]; exact hw, rfl⟩ h
theorem T_step {T T1 : Nat → Nat → Int32} {z o : Nat} {s1 : Nat → Int32} {sq : Nat → Nat} (hT : ∀ u v, T1 u v = if u = z ∧ v < o then s1 (sq v) else T u v) : ∀ u v, u2 T1 z o (s1 (sq o)) u v = if u = z ∧ v < o + 1 then s1 (sq v) else T u v := by
  intro u v
  by_cases e : u = z
  · subst e
    by_cases e2 : v = o
    · subst e2
      rw [if_pos ⟨rfl, by omega⟩]
      simp [u2, upd]
    · have h := hT u v
      show (if u = u then upd (T1 u) o (s1 (sq o)) else T1 u) v = _
      rw [if_pos rfl, pk_un e2, h]
      by_cases e3 : v < o
      · rw [if_pos ⟨rfl, e3⟩, if_pos ⟨rfl, by omega⟩]
      · rw [if_neg (fun q => e3 q.2), if_neg (fun q => by omega)]
  · simp only [u2, if_neg e]
    rw [hT, if_neg (fun q => e q.1), if_neg (fun q => e q.1)]
theorem upd_id {f : Nat → Int32} {k : Nat} {v : Int32} (h : f k = v) : upd f k v = f := by
  funext j
  unfold upd
  by_cases e : j = k
  · rw [if_pos e, e, h]
  · rw [if_neg e]
