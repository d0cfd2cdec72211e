section
theorem tAt_some {f : Nat → Int32} {z : Int32} (h : ¬ tAt f z = -1) : ∃ t, t < 7 ∧ tAt f z = nI t ∧ f t = z ∧ ∀ j, j < t → f j ≠ z := by
  unfold tAt at h ⊢
  by_cases e : z = -1
  · rw [if_pos e] at h
    exact absurd rfl h
  · rw [if_neg e] at h ⊢
    rcases fs_is (f := f) (z := z) (n := 7) 7 (Nat.le_refl _) with ⟨h1, -⟩ | ⟨i, h1, h2, h3, h4, h5⟩
    · exact absurd h1 h
    · exact ⟨i, h2, h4, h3, fun j hj => h5 j (by omega) hj⟩
theorem hasZ_not {nz : Nat} {q : Nat → Int32} {sq : Nat → Nat} {s : Nat} (h : ¬ hasZ nz q s) (hq : ∀ o, o < nz → q o = nI (sq o)) : ∀ o, o < nz → sq o ≠ s := fun o ho e => h (anyN_iff.mpr ⟨o, ho, by rw [decide_eq_true_eq, hq o ho, e]⟩)
theorem nIc {k : Nat} (h : k < 2 ^ 31) : (nI k).toNatClampNeg = k := nI_clamp h
theorem cnt_ext {p r : Nat → Bool} {n : Nat} (h : ∀ t, t < n → p t = r t) : cnt p n = cnt r n := by
  induction n with
  | zero => rfl
  | succ n ih => rw [cnt, cnt, ih (fun t ht => h t (by omega)), h n (by omega)]
theorem cnt_cut {p : Nat → Bool} {n : Nat} : ∀ m, n ≤ m → (∀ t, n ≤ t → t < m → p t = false) → cnt p m = cnt p n
  | 0, h, _ => by rw [show n = 0 by omega]
  | m + 1, h, hp => by
    by_cases e : n = m + 1
    · rw [e]
    · rw [cnt, cnt_cut m (by omega) (fun t h1 h2 => hp t h1 (by omega)), hp m (by omega) (by omega)]
      simp
theorem cnt_full {p : Nat → Bool} {n : Nat} : n ≤ cnt p n ↔ ∀ t, t < n → p t = true := by
  induction n with
  | zero => exact ⟨fun _ t ht => by omega, fun _ => Nat.zero_le _⟩
  | succ n ih =>
    have h1 := cnt_le p n
    rw [cnt]
    constructor
    · intro h t ht
      by_cases e : p n = true
      · rw [if_pos e] at h
        by_cases e2 : t = n
        · rw [e2]; exact e
        · exact ih.mp (by omega) t (by omega)
      · rw [if_neg e] at h
        omega
    · intro h
      rw [if_pos (h n (by omega))]
      have := ih.mpr (fun t ht => h t (by omega))
      omega
theorem cnt_placed {zo : Nat → Int32} {g : Nat → Nat} {nt : Nat} (h : pOK 7 zo g) (h7 : ∀ t, nt ≤ t → t < 7 → g t = 7) (hnt : nt ≤ 7) : nt ≤ cnt (fun k => !decide (zo k = -1)) 7 ↔ ∀ t, t < nt → g t < 7 := by
  rw [cnt_cut (n := nt) 7 hnt (fun t h1 h2 => by
    rw [h t h2, h7 t h1 h2]
    rfl), cnt_full]
  constructor
  · intro q t ht
    have := q t ht
    rw [h t (by omega)] at this
    by_cases e : g t < 7
    · exact e
    · rw [zI_7 e] at this
      exact absurd this (by decide)
  · intro q t ht
    rw [h t (by omega), zI_lt (q t ht)]
    have : ¬ nI (g t) = -1 := z_m1 (by have := q t ht; omega)
    simp [this]
theorem cnt_other {zo ke : Nat → Int32} {g gk : Nat → Nat} {nt : Nat} (h : pOK 7 zo g) (hk : pOK 7 ke gk) (hg : ∀ t, t < 7 → g t ≤ 7) (hgk : ∀ t, t < 7 → gk t ≤ 7) (h7 : ∀ t, nt ≤ t → t < 7 → g t = 7) (h7k : ∀ t, nt ≤ t → t < 7 → gk t = 7) (hnt : nt ≤ 7) : cnt (fun k => !decide (zo k = ke k)) 7 = cntO g gk nt := by
  have e : ∀ t, t < 7 → (!decide (zo t = ke t)) = (!decide (g t = gk t)) := fun t ht => by
    have : zo t = ke t ↔ g t = gk t := by
      rw [h t ht, hk t ht]
      exact ⟨fun q => zI_inj (hg t ht) (hgk t ht) q, fun q => by rw [q]⟩
    simp [this]
  rw [cnt_cut (n := nt) 7 hnt (fun t h1 h2 => by rw [e t h2, h7 t h1 h2, h7k t h1 h2]; simp)]
  exact cnt_ext fun t ht => e t (by omega)
/-- placed apart -/
def vG (nz nt : Nat) (g : Nat → Nat) : Prop := (∀ t, (t < nt ∧ g t < nz) ∨ g t = 7) ∧ ∀ s t, g s = g t → s ≠ t → g s = 7
theorem vG_7 {nz nt : Nat} {g : Nat → Nat} (h : vG nz nt g) (hz : nz ≤ 7) : ∀ t, t < 7 → g t ≤ 7 := fun t _ => by rcases h.1 t with q | q <;> omega
theorem vG_out {nz nt : Nat} {g : Nat → Nat} (h : vG nz nt g) : ∀ t, nt ≤ t → t < 7 → g t = 7 := fun t h1 _ => by rcases h.1 t with q | q <;> omega
theorem vG_g {nz nt : Nat} {g : Nat → Nat} (h : vG nz nt g) : gOK nz 7 g := fun t _ => by rcases h.1 t with q | q <;> omega
/-- where the teams are, they fit -/
def fG (nt : Nat) (n d : Nat → Int32) (g : Nat → Nat) : Prop := ∀ t, t < nt → g t < 7 → n t ≤ d (g t)
theorem aP_of {nz nt : Nat} {n d : Nat → Int32} {g : Nat → Nat} (h : vG nz nt g) (hf : fG nt n d g) (ha : ∀ t, t < nt → g t < 7) : aP nz nt (fun t9 z9 => n t9 ≤ d z9) g :=
  ⟨⟨fun t ht => ⟨by have := ha t ht; rcases h.1 t with q | q <;> omega, hf t ht (ha t ht)⟩, fun s t hst ht e => by
    have := h.2 s t e (by omega)
    have := ha s (by omega)
    omega⟩, fun t ht => by rcases h.1 t with q | q <;> omega⟩
/-- the next team on a way, 7 for none -/
def nxO (g gk nx : Nat → Nat) : Prop := ∀ t, t < 7 → nx t ≤ 7 ∧ (nx t < 7 → g (nx t) = gk t ∧ gk t < 7) ∧ (nx t = 7 → gk t = 7 ∨ ∀ s, s < 7 → g s ≠ gk t)
/-- is the circle from t on counted at t -/
def lwC (nx : Nat → Nat) (t : Nat) : Nat → Nat → Nat → Bool
  | 0, _, _ => false
  | f + 1, len, x => if 7 ≤ x ∨ x < t then false else if x = t then decide (1 < len) else lwC nx t f (len + 1) (nx x)
end
section RSX
variable {p : Program} {l : Launch} {e : Env} {R : Room} {s : State} {m : MethodId} {args : Array Value} {below : List Frame} {meth : Method} {c : Code} {H : Heap} {locs : List Loc} {cells slots : Nat} {Q : State → Prop}
variable {cc : ByteArray} {pc : Nat} {ls : Array Slot} {rest st0 : List Value} {D : va_G}
variable {cI cZ cQ cJ : ClassId}
/-- a static method of another class that only reads, called -/
theorem ro_SX {own : String} {idx nL maxL n : Nat} {y : MethodName} {bytes : ByteArray} {ret : Option FieldType} {rm : Room} {wc : va_W} {As : List Value} {v : Int32}
    (S : CallFix p m c cc nL s args ALL own) (hM : Met l y (Cond.code y bytes maxL ret :: ALL) rm (va_Pc As (ro_P D cI cZ cQ cJ wc)) (vp_Si (fun r => r = v)) 0 0 (fun _ => False))
    (hG : GoodIn ALL (va_wsS own idx y (Cond.code y bytes maxL ret :: ALL))) (hrc : rm.cells = 0) (hrs : rm.slots = 0)
    (hd : y.cls ≠ "java/lang/invoke/MethodHandle" ∧ y.cls ≠ "java/lang/invoke/VarHandle" ∧ (parseMethodDescriptor y.desc).map (fun d => d.parameters.length) = some n) (hR : rm.frames + 1 ≤ R.frames ∧ 8 + (maxL + 11) + rm.locals ≤ R.locals)
    (hP : va_P D vwCl wc H) (hSt : St D cI cZ cQ cJ s)
    (hn : As.length = n) (hsize : ls.size = nL) (hstack : st0 = As.reverse ++ rest) (hW : (rest.map fun v => v.category).sum ≤ 8) (hdg : decode cc pc = .ok (.invokestatic idx, 3)) (hc : cells ≤ R.cells) (hs : slots ≤ R.slots)
    (kk : W p l e R s m args below meth c H locs cells slots Q (F0 m (pc + 3) ls (.int v :: rest))) : W p l e R s m args below meth c H locs cells slots Q (F0 m pc ls st0) := by
  obtain ⟨hx, hb, hml, hown, hts⟩ := id S
  refine vp_callSi (W.runS (As := As) (rest := rest) S hM (va_cwS n hts hG rfl hrc hrs hd hR) ⟨ro_blind, fun U hU hW => ⟨rfl, by rw [hU]; exact hP, St.warm hW hSt⟩⟩ rfl hn hsize hstack (lv_room hW) hdg ⟨hc, hs⟩) (fun r hr => ?_)
  subst hr
  exact kk
theorem hdx_X1_isSquare : yX1_isSquare.cls ≠ "java/lang/invoke/MethodHandle" ∧ yX1_isSquare.cls ≠ "java/lang/invoke/VarHandle" ∧ (parseMethodDescriptor yX1_isSquare.desc).map (fun d => d.parameters.length) = some 2 := by decide +kernel
end RSX
