/-! What every contract of this claim stands on: the words on nest mates, the tables' facts in one word (St), the worlds of the classes as lists of cells, rows of arrays of arrays, calls that only read -/
-- ===== nest mates =====
def nl_F : List (String × Nat × String × String × String) := [("DeskPlanner", 104, "DeskPlanner$Floor", "desks", "[I"), ("DeskPlanner", 107, "DeskPlanner$Staff", "teamCount", "I"), ("DeskPlanner", 133, "DeskPlanner$Staff", "wishes", "[[I"), ("DeskPlanner", 164, "DeskPlanner$StepSearch", "best", "LDeskPlanner$Placement;"), ("DeskPlanner", 183, "DeskPlanner$Staff", "present", "[[I"), ("DeskPlanner", 186, "DeskPlanner$Floor", "distances", "[[I"), ("DeskPlanner", 228, "DeskPlanner$FullSearch", "best", "LDeskPlanner$Placement;"), ("DeskPlanner", 44, "DeskPlanner$Office", "floor", "LDeskPlanner$Floor;"), ("DeskPlanner", 69, "DeskPlanner$Floor", "zoneCount", "I"), ("DeskPlanner", 92, "DeskPlanner$Office", "staff", "LDeskPlanner$Staff;"), ("DeskPlanner", 96, "DeskPlanner$Staff", "needs", "[I"), ("DeskPlanner$FullSearch", 37, "DeskPlanner$Office", "staff", "LDeskPlanner$Staff;"), ("DeskPlanner$FullSearch", 43, "DeskPlanner$Staff", "teamCount", "I"), ("DeskPlanner$FullSearch", 52, "DeskPlanner$Office", "floor", "LDeskPlanner$Floor;"), ("DeskPlanner$FullSearch", 56, "DeskPlanner$Floor", "zoneCount", "I"), ("DeskPlanner$FullSearch", 73, "DeskPlanner$Staff", "wishes", "[[I"), ("DeskPlanner$Office", 25, "DeskPlanner$Floor", "desks", "[I"), ("DeskPlanner$Office", 29, "DeskPlanner$Staff", "needs", "[I"), ("DeskPlanner$Office", 36, "DeskPlanner$Staff", "teamCount", "I"), ("DeskPlanner$Office", 50, "DeskPlanner$Staff", "wishes", "[[I"), ("DeskPlanner$Office", 54, "DeskPlanner$Staff", "ties", "[[I"), ("DeskPlanner$Office", 57, "DeskPlanner$Floor", "distances", "[[I"), ("DeskPlanner$StepSearch", 111, "DeskPlanner$Change", "other", "I"), ("DeskPlanner$StepSearch", 114, "DeskPlanner$Change", "team", "I"), ("DeskPlanner$StepSearch", 117, "DeskPlanner$Change", "zone", "I"), ("DeskPlanner$StepSearch", 52, "DeskPlanner$Change", "found", "Z"), ("DeskPlanner$StepSearch", 60, "DeskPlanner$Change", "cost", "I"), ("DeskPlanner$StepSearch", 64, "DeskPlanner$Office", "staff", "LDeskPlanner$Staff;"), ("DeskPlanner$StepSearch", 68, "DeskPlanner$Staff", "teamCount", "I"), ("DeskPlanner$StepSearch", 77, "DeskPlanner$Office", "floor", "LDeskPlanner$Floor;"), ("DeskPlanner$StepSearch", 81, "DeskPlanner$Floor", "zoneCount", "I")]
def nl_M : List (String × Nat × MethodName) := [("DeskPlanner", 11, yX3_init), ("DeskPlanner$Office", 11, yX1_init), ("DeskPlanner$Office", 20, yX5_init), ("DeskPlanner", 28, yX2_init), ("DeskPlanner", 35, yX6_init), ("DeskPlanner$StepSearch", 27, yX0_init)]
def nl_f (q : String × Nat × String × String × String) : Cond := .fieldLinkNest q.1 q.2.1 q.2.2.1 q.2.2.2.1 q.2.2.2.2 "DeskPlanner"
def nl_m (q : String × Nat × MethodName) : Cond := .methodLinkNest q.1 q.2.1 q.2.2 "DeskPlanner"
def nl_E : List String := ["java/lang/IndexOutOfBoundsException", "java/lang/IllegalArgumentException", "java/lang/IllegalStateException"]
def nl_P : List (String × String) := [("java/lang/IllegalStateException", "java/lang/IndexOutOfBoundsException"), ("java/lang/IllegalArgumentException", "java/lang/IndexOutOfBoundsException"), ("java/lang/IndexOutOfBoundsException", "java/lang/IllegalStateException"), ("java/lang/IllegalArgumentException", "java/lang/IllegalStateException"), ("java/lang/IndexOutOfBoundsException", "java/lang/IllegalArgumentException"), ("java/lang/IllegalStateException", "java/lang/IllegalArgumentException")]
def nl_S : List (Nat × String) := [(211, "there is no such square"), (56, "there is a zone at the square"), (220, "a number is out of range"), (73, "there are as many zones as there may be"), (78, "the square has a wall or a zone"), (214, "there is no such zone"), (102, "the team in the zone would not fit any more"), (110, "there are as many teams as there may be"), (216, "there is no such team"), (218, "there is no such day"), (128, "the team would not fit into its zone any more"), (139, "a team has no tie to itself"), (222, "another team is in the zone"), (224, "the team does not fit into the zone"), (226, "there is no placement of all teams"), (158, "some team is in no zone"), (174, "some team would not fit")]
/-- what the tables say beside the good words: fields and constructors of nest mates, which class is which other's, the class of rows of rows, the texts -/
def nl_K (U : State) : Prop := (∀ q ∈ nl_F, va_Nw (nl_f q) U) ∧ (∀ q ∈ nl_M, va_Nw (nl_m q) U) ∧ (∀ E ∈ nl_E, va_Nw (.castable E E) U) ∧ (∀ q ∈ nl_P, va_Nc q.1 q.2 U) ∧ va_AOA .int U ∧ ∀ q ∈ nl_S, ∃ sa, vk_R "DeskPlanner" q.1 q.2 sa U
theorem va_Nc.alike {C T : String} {s U : State} (h : s.vm.Alike U.vm) (hZ : va_Nc C T s) : va_Nc C T U := by
  obtain ⟨c, t, h1, h2, h3⟩ := hZ
  exact ⟨c, t, by rw [h.findClass]; exact h1, by rw [h.findClass]; exact h2, by rw [h.assignable]; exact h3⟩
theorem nl_K.warm {s U : State} (hW : s.WarmedH U.vm) (h : nl_K s) : nl_K U := by
  obtain ⟨h1, h2, h3, h4, h5, h6⟩ := h
  exact ⟨fun q hq => va_Nw.warmF hW (h1 q hq), fun q hq => va_Nw.warmM hW (h2 q hq), fun q hq => va_Nw.warmC hW (h3 q hq), fun q hq => (h4 q hq).alike hW.alike, arrayOver_alikeB hW.alike h5, fun q hq => (h6 q hq).elim fun sa h => ⟨sa, vk_R.warm hW h⟩⟩
theorem nl_K.same {u U : State} (hv : u.vm = U.vm) (h : nl_K u) : nl_K U := by
  obtain ⟨h1, h2, h3, h4, h5, h6⟩ := h
  have hal : u.vm.Alike U.vm := by rw [hv]; exact Vm.Alike.refl U.vm
  exact ⟨fun q hq => va_Nw.same rfl hv (h1 q hq), fun q hq => va_Nw.same rfl hv (h2 q hq), fun q hq => va_Nw.same rfl hv (h3 q hq), fun q hq => (h4 q hq).alike hal, arrayOver_alikeB hal h5, fun q hq => (h6 q hq).elim fun sa h => ⟨sa, vk_R.same hv.symm h⟩⟩
/-- a field of a nest mate: its word, by its place -/
theorem nl_K.f {s : State} {args : Array Value} (h : nl_K s) (k : Nat) {q : String × Nat × String × String × String} (hk : nl_F[k]? = some q) : (Cond.fieldLinkNest q.1 q.2.1 q.2.2.1 q.2.2.2.1 q.2.2.2.2 "DeskPlanner").before args s = true := va_Nw.use rfl (h.1 q (List.mem_of_getElem? hk))
theorem nl_K.m {s : State} (h : nl_K s) (k : Nat) {q : String × Nat × MethodName} (hk : nl_M[k]? = some q) : va_Nw (.methodLinkNest q.1 q.2.1 q.2.2 "DeskPlanner") s := h.2.1 q (List.mem_of_getElem? hk)
theorem nl_K.e {s : State} {args : Array Value} (h : nl_K s) (k : Nat) {E : String} (hk : nl_E[k]? = some E) : (Cond.castable E E).before args s = true := va_Nw.use rfl (h.2.2.1 E (List.mem_of_getElem? hk))
theorem nl_K.p {s : State} (h : nl_K s) (k : Nat) {C T : String} (hk : nl_P[k]? = some (C, T)) : va_Nc C T s := h.2.2.2.1 (C, T) (List.mem_of_getElem? hk)
theorem nl_K.a {s : State} (h : nl_K s) : va_AOA .int s := h.2.2.2.2.1
theorem nl_K.s {s : State} (h : nl_K s) (k : Nat) {i : Nat} {tx : String} (hk : nl_S[k]? = some (i, tx)) : ∃ sa, vk_R "DeskPlanner" i tx sa s := h.2.2.2.2.2 (i, tx) (List.mem_of_getElem? hk)
-- ===== the tables' facts in one word =====
def St (D : va_G) (cI cZ cQ cJ : ClassId) (U : State) : Prop := va_K D vwCl [(cI, .int), (cZ, .boolean), (cQ, .array .int), (cJ, .int)] U ∧ nl_K U
theorem St.warm {D : va_G} {cI cZ cQ cJ : ClassId} {s U : State} (hW : s.WarmedH U.vm) (h : St D cI cZ cQ cJ s) : St D cI cZ cQ cJ U := ⟨va_K.moved hW.alike h.1, nl_K.warm hW h.2⟩
theorem St.same {D : va_G} {cI cZ cQ cJ : ClassId} {u U : State} (hv : u.vm = U.vm) (h : St D cI cZ cQ cJ u) : St D cI cZ cQ cJ U := ⟨va_K.moved (by rw [hv]; exact Vm.Alike.refl U.vm) h.1, nl_K.same hv h.2⟩
-- ===== rows of arrays of arrays =====
/-- n rows of m ints each, at r 0, r 1, .. -/
def rb (r : Nat → Nat) (cI : ClassId) (m : Nat) (F : Nat → Nat → Int32) (n : Nat) : va_W := (List.range n).map fun i => (r i, .inl (cI, m, .inl (F i)))
/-- F, but v at j of row i -/
def u2 (F : Nat → Nat → Int32) (i j : Nat) (v : Int32) : Nat → Nat → Int32 := fun a => if a = i then upd (F i) j v else F a
theorem rb_len (r : Nat → Nat) (cI : ClassId) (m : Nat) (F : Nat → Nat → Int32) (n : Nat) : (rb r cI m F n).length = n := by simp [rb]
theorem rb_get {X Y : va_W} {r : Nat → Nat} {cI : ClassId} {m n : Nat} {F : Nat → Nat → Int32} {i x : Nat} (hx : X.length = x) (hi : i < n) : (X ++ (rb r cI m F n ++ Y))[x + i]? = some (r i, .inl (cI, m, .inl (F i))) := by
  subst hx
  rw [List.getElem?_append_right (by omega), Nat.add_sub_cancel_left, List.getElem?_append_left (by rw [rb_len]; exact hi)]
  simp [rb, hi]
theorem rb_set {X Y : va_W} {r : Nat → Nat} {cI : ClassId} {m n : Nat} {F : Nat → Nat → Int32} {i x : Nat} {j : Nat} {v : Int32} (hx : X.length = x) (hi : i < n) : (X ++ (rb r cI m F n ++ Y)).set (x + i) (r i, .inl (cI, m, .inl (upd (F i) j v))) = X ++ (rb r cI m (u2 F i j v) n ++ Y) := by
  subst hx
  rw [List.set_append_right _ _ (by omega), Nat.add_sub_cancel_left, List.set_append_left _ _ (by rw [rb_len]; exact hi)]
  congr 2
  apply List.ext_getElem?
  intro k
  rw [List.getElem?_set]
  by_cases hk : k < n
  · by_cases e : i = k
    · subst e
      simp [rb, hk, u2]
    · simp [rb, hk, u2, e]
      exact fun h => absurd h.symm e
  · have e : ¬ i = k := by omega
    simp [rb, hk, e]
/-- the outer array of a block -/
abbrev rq (a : Nat) (cQ : ClassId) (r : Nat → Nat) : Nat × va_E := (a, .inl (cQ, 7, .inr (.inr (.inr (.inr (fun i => if i < 7 then some (r i) else none))))))
-- ===== one array, said by another function =====
theorem arrV_ext (c : ClassId) {N : Nat} {f g : Nat → Value} (h : ∀ j, j < N → f j = g j) : arrV c N f = arrV c N g := by
  unfold arrV
  congr 1
  apply Array.ext
  · simp
  · intro j h1 h2
    simp only [Array.getElem_ofFn]
    exact h j (by simpa using h1)
theorem P_fi {D : va_G} {cl : List vw_C} {A : Nat → Prop} {ws : va_W} {H : Heap} (hP : va_P D cl ws H) (hD : va_D A ws) (q0 : Nat) {a : Nat} {cA : ClassId} {n : Nat} {f : Nat → Int32} (g : Nat → Int32) (he : ws[q0]? = some (a, .inl (cA, n, .inl f))) (h : ∀ j, j < n → f j = g j) :
    va_P D cl (ws.set q0 (a, .inl (cA, n, .inl g))) H ∧ va_D A (ws.set q0 (a, .inl (cA, n, .inl g))) := by
  refine ⟨hP.set hD he ?_ (fun _ _ => rfl), hD.set he⟩
  have h1 := hP q0 _ he
  show H[a]? = some (vp_cell cA (n, .inl g))
  have h2 : H[a]? = some (vp_cell cA (n, .inl f)) := h1
  rw [h2, vp_cell_i, vp_cell_i, arrV_ext cA (fun j hj => by rw [h j hj])]
theorem rb_ext {r : Nat → Nat} {cI : ClassId} {m n : Nat} {F G : Nat → Nat → Int32} {D : va_G} {cl : List vw_C} {X Y : va_W} {H : Heap} (hP : va_P D cl (X ++ (rb r cI m F n ++ Y)) H) (h : ∀ i j, i < n → j < m → F i j = G i j) : va_P D cl (X ++ (rb r cI m G n ++ Y)) H := by
  intro k q hk
  by_cases h1 : k < X.length
  · rw [List.getElem?_append_left h1] at hk
    exact hP k q (by rw [List.getElem?_append_left h1]; exact hk)
  · rw [List.getElem?_append_right (by omega)] at hk
    by_cases h2 : k - X.length < n
    · rw [List.getElem?_append_left (by rw [rb_len]; exact h2)] at hk
      have h3 : q = (r (k - X.length), .inl (cI, m, .inl (G (k - X.length)))) := by
        simp [rb, h2] at hk
        exact hk.symm
      have h4 := hP k (r (k - X.length), .inl (cI, m, .inl (F (k - X.length)))) (by
        rw [List.getElem?_append_right (by omega), List.getElem?_append_left (by rw [rb_len]; exact h2)]
        simp [rb, h2])
      subst h3
      show H[_]? = some (vp_cell cI (m, .inl (G (k - X.length))))
      have h5 : H[r (k - X.length)]? = some (vp_cell cI (m, .inl (F (k - X.length)))) := h4
      rw [h5, vp_cell_i, vp_cell_i, arrV_ext cI (fun j hj => by rw [h _ j h2 hj])]
    · rw [List.getElem?_append_right (by rw [rb_len]; omega)] at hk
      exact hP k q (by rw [List.getElem?_append_right (by omega), List.getElem?_append_right (by rw [rb_len]; omega)]; rw [rb_len] at hk ⊢; exact hk)
-- ===== the worlds =====
def wPl (a b : Nat) (cI : ClassId) (f : Nat → Int32) : va_W := [(a, .inr (4, [.ref b])), (b, .inl (cI, 7, .inl f))]
def wCh (a : Nat) (fo te ot zo co : Int32) : va_W := [(a, .inr (0, [.int fo, .int te, .int ot, .int zo, .int co]))]
def wFl (x : Nat → Nat) (r : Nat → Nat) (cI cZ cQ : ClassId) (w q d : Nat → Int32) (T : Nat → Nat → Int32) (st re : Nat → Int32) (rc nz : Int32) : va_W := [(x 0, .inr (1, [.ref (x 1), .ref (x 2), .ref (x 3), .ref (x 4), .ref (x 5), .ref (x 6), .int rc, .int nz])), (x 1, .inl (cZ, 64, .inl w)), (x 2, .inl (cI, 7, .inl q)), (x 3, .inl (cI, 7, .inl d)), rq (x 4) cQ r, (x 5, .inl (cI, 64, .inl st)), (x 6, .inl (cI, 64, .inl re))] ++ (rb r cI 7 T 7 ++ [])
def wSt (x : Nat → Nat) (rp rw rt : Nat → Nat) (cI cQ : ClassId) (P : Nat → Nat → Int32) (n : Nat → Int32) (Wi Ti : Nat → Nat → Int32) (nt : Int32) : va_W := [(x 0, .inr (5, [.ref (x 1), .ref (x 2), .ref (x 3), .ref (x 4), .int nt])), rq (x 1) cQ rp, (x 2, .inl (cI, 7, .inl n)), rq (x 3) cQ rw, rq (x 4) cQ rt] ++ (rb rp cI 5 P 7 ++ (rb rw cI 7 Wi 7 ++ (rb rt cI 7 Ti 7 ++ [])))
def wOf (a fl st : Nat) : va_W := [(a, .inr (3, [.ref fl, .ref st]))]
/-- the search over all placements: itself, its two placements, what is taken -/
def wFs (x : Nat → Nat) (cI cZ : ClassId) (f g tk : Nat → Int32) (wt le : Int32) : va_W := [(x 0, .inr (2, [.ref (x 1), .ref (x 3), .ref (x 5), .int wt, .int le])), (x 1, .inr (4, [.ref (x 2)])), (x 2, .inl (cI, 7, .inl f)), (x 3, .inr (4, [.ref (x 4)])), (x 4, .inl (cI, 7, .inl g)), (x 5, .inl (cZ, 7, .inl tk))]
/-- the search by steps: itself, its two placements, when teams have rested, the change -/
def wSs (x : Nat → Nat) (cI : ClassId) (f g ra : Nat → Int32) (fo te ot zo co : Int32) : va_W := [(x 0, .inr (6, [.ref (x 1), .ref (x 3), .ref (x 5), .ref (x 6)])), (x 1, .inr (4, [.ref (x 2)])), (x 2, .inl (cI, 7, .inl f)), (x 3, .inr (4, [.ref (x 4)])), (x 4, .inl (cI, 7, .inl g)), (x 5, .inl (cI, 7, .inl ra)), (x 6, .inr (0, [.int fo, .int te, .int ot, .int zo, .int co]))]
def wDp (a o p k f t : Nat) : va_W := [(a, .inr (7, [.ref o, .ref p, .ref k, .ref f, .ref t]))]
def wOu (a : Nat) (cJ : ClassId) (f : Nat → Int64) : va_W := [(a, .inl (cJ, 1, .inr (.inl f)))]
-- ===== numbers =====
theorem z_lt {a b : Nat} (ha : a < 2 ^ 31) (hb : b < 2 ^ 31) (h : nI a < nI b) : a < b := (nI_ltI ha hb).mp h
theorem z_nlt {a b : Nat} (ha : a < 2 ^ 31) (hb : b < 2 ^ 31) (h : ¬ nI a < nI b) : b ≤ a := Nat.not_lt.mp fun q => h ((nI_ltI ha hb).mpr q)
theorem z_le {a b : Nat} (ha : a < 2 ^ 31) (hb : b < 2 ^ 31) (h : nI a ≤ nI b) : a ≤ b := (nI_leI ha hb).mp h
theorem z_nle {a b : Nat} (ha : a < 2 ^ 31) (hb : b < 2 ^ 31) (h : ¬ nI a ≤ nI b) : b < a := Nat.not_le.mp fun q => h ((nI_leI ha hb).mpr q)
theorem z_eq {a b : Nat} (ha : a < 2 ^ 31) (hb : b < 2 ^ 31) (h : nI a = nI b) : a = b := (nI_eq ha hb).mp h
theorem z_ne {a b : Nat} (ha : a < 2 ^ 31) (hb : b < 2 ^ 31) (h : ¬ nI a = nI b) : ¬ a = b := fun q => h (by rw [q])
theorem z_inc (a : Nat) : nI a + Int32.ofInt 1 = nI (a + 1) := (nI_succ a).symm
theorem z_m1 {a : Nat} (ha : a < 2 ^ 31) : ¬ nI a = -1 := fun h => by
  have h2 := congrArg Int32.toInt h
  rw [nI_toInt ha] at h2
  have h3 : (-1 : Int32).toInt = -1 := by decide
  omega
theorem z_in {a N : Nat} (h : a < N) (hN : N < 2 ^ 31) : vp_in (nI a) N := vp_in_nI h hN
-- ===== entry =====
theorem Q_si {args : Array Value} {s t : State} {v w : Int32} (h : v = w) (ht : t.heap = s.heap) : vp_Si (fun r => r = w) args s (.returned (some (.int v))) t := ⟨v, rfl, h, ht⟩
-- ===== a truth value as the machine has it =====
def bI (P : Prop) [Decidable P] : Int32 := if P then nI 1 else nI 0
theorem bI_t {P : Prop} [Decidable P] (h : P) : bI P = nI 1 := if_pos h
theorem bI_f {P : Prop} [Decidable P] (h : ¬ P) : bI P = nI 0 := if_neg h
theorem bI_0 {P : Prop} [Decidable P] : bI P = 0 ↔ ¬ P := by
  unfold bI
  by_cases h : P
  · rw [if_pos h]
    exact ⟨fun e => absurd e (by decide), fun e => absurd h e⟩
  · rw [if_neg h]
    exact ⟨fun _ => h, fun _ => rfl⟩
theorem bI_n0 {P : Prop} [Decidable P] : ¬ bI P = 0 ↔ P := by rw [bI_0]; exact Decidable.not_not
theorem bI_c {P Q : Prop} [Decidable P] [Decidable Q] (h : P ↔ Q) : bI P = bI Q := by
  unfold bI
  by_cases e : P
  · rw [if_pos e, if_pos (h.mp e)]
  · rw [if_neg e, if_neg (fun q => e (h.mpr q))]
theorem bI_nar (P : Prop) [Decidable P] : narrow .boolean (.int (bI P)) = .int (bI P) := by
  unfold bI
  by_cases h : P
  · rw [if_pos h]; rfl
  · rw [if_neg h]; rfl
theorem b01_nar {x : Int32} (h : x = 0 ∨ x = 1) : vp_nar .boolean x = x := by
  rcases h with rfl | rfl <;> rfl
theorem b01_nar' {x : Int32} (h : x = 0 ∨ x = 1) : narrow .boolean (.int x) = .int x := by
  rcases h with rfl | rfl <;> rfl
theorem bI_01 (P : Prop) [Decidable P] : bI P = 0 ∨ bI P = 1 := by
  unfold bI
  by_cases h : P
  · rw [if_pos h]; exact Or.inr rfl
  · rw [if_neg h]; exact Or.inl rfl
-- ===== words of a call =====
theorem gV {own C : String} {idx : Nat} {y : MethodName} {cc : ByteArray} {n : Nat} {r : Option FieldType} (h1 : Cond.methodLink own idx y ∈ ALL) (h2 : Cond.instanceMethod y ∈ ALL) (h3 : Cond.selects C y y ∈ ALL) (h4 : Cond.initialized C ∈ ALL) (h5 : Cond.code y cc n r ∈ ALL) : GoodIn ALL (wsV own idx C y (Cond.code y cc n r :: ALL)) := by
  intro w hw
  rcases List.mem_append.mp hw with h | h
  · simp only [List.mem_cons, List.not_mem_nil, or_false] at h
    rcases h with rfl | rfl | rfl | rfl
    · exact ⟨h1, ALL_good h1⟩
    · exact ⟨h2, ALL_good h2⟩
    · exact ⟨h3, ALL_good h3⟩
    · exact ⟨h4, ALL_good h4⟩
  · rcases List.mem_cons.mp h with rfl | h
    · exact ⟨h5, ALL_good h5⟩
    · exact ⟨h, ALL_good h⟩
theorem gC {y : MethodName} {cc : ByteArray} {n : Nat} {r : Option FieldType} (h5 : Cond.code y cc n r ∈ ALL) : GoodIn ALL (Cond.code y cc n r :: ALL) := by
  intro w hw
  rcases List.mem_cons.mp hw with rfl | h
  · exact ⟨h5, ALL_good h5⟩
  · exact ⟨h, ALL_good h⟩
section RR
variable {p : Program} {l : Launch} {e : Env} {R : Room} {s : State} {m : MethodId} {args : Array Value} {below : List Frame} {meth : Method} {c : Code} {H : Heap} {locs : List Loc} {cells slots : Nat} {Q : State → Prop}
variable {cc : ByteArray} {pc : Nat} {ls : Array Slot} {rest st0 : List Value} {D : va_G} {cl : List vw_C} {A : Nat → Prop} {a : Nat} {tys : List (ClassId × FieldType)} {ws : va_W} {H0 : Heap}
variable {cI cZ cQ cJ : ClassId}
/-- the top value by another of its names -/
theorem lv_as {x y : Int32} (h : x = y) (k : W p l e R s m args below meth c H locs cells slots Q (F0 m pc ls (.int y :: rest))) : W p l e R s m args below meth c H locs cells slots Q (F0 m pc ls (.int x :: rest)) := by rw [h]; exact k
theorem r_addn (hexec : p.tables.exec = Jvm.exec) (hb : c.code = cc) {x y : Nat} (hdg : decode cc pc = .ok (.iadd, 1)) (k : W p l e R s m args below meth c H locs cells slots Q (F0 m (pc + 1) ls (.int (nI (x + y)) :: rest))) : W p l e R s m args below meth c H locs cells slots Q (F0 m pc ls (.int (nI y) :: .int (nI x) :: rest)) := lv_iadd hexec hb hdg (by rw [nI_add]; exact k)
theorem r_muln (hexec : p.tables.exec = Jvm.exec) (hb : c.code = cc) {x y : Nat} (hdg : decode cc pc = .ok (.imul, 1)) (k : W p l e R s m args below meth c H locs cells slots Q (F0 m (pc + 1) ls (.int (nI (x * y)) :: rest))) : W p l e R s m args below meth c H locs cells slots Q (F0 m pc ls (.int (nI y) :: .int (nI x) :: rest)) := lv_imul hexec hb hdg (by rw [pk_mul]; exact k)
theorem r_subn (hexec : p.tables.exec = Jvm.exec) (hb : c.code = cc) {x y : Nat} (h : y ≤ x) (hdg : decode cc pc = .ok (.isub, 1)) (k : W p l e R s m args below meth c H locs cells slots Q (F0 m (pc + 1) ls (.int (nI (x - y)) :: rest))) : W p l e R s m args below meth c H locs cells slots Q (F0 m pc ls (.int (nI y) :: .int (nI x) :: rest)) := lv_isub hexec hb hdg (by rw [pk_sub h]; exact k)
theorem r_iald (hexec : p.tables.exec = Jvm.exec) (hb : c.code = cc) (hK : va_K D cl tys s) (hP : va_P D cl ws H) (q0 t0 : Nat) {cA : ClassId} {n : Nat} {f : Nat → Int32} (ha : ws[q0]? = some (a, .inl (cA, n, .inl f))) (ht : tys[t0]? = some (cA, .int)) {k : Nat} (hk : k < n) (hn : n < 2 ^ 31) (hdg : decode cc pc = .ok (.iaload, 1))
    (kk : W p l e R s m args below meth c H locs cells slots Q (F0 m (pc + 1) ls (.int (f k) :: rest))) : W p l e R s m args below meth c H locs cells slots Q (F0 m pc ls (.int (nI k) :: .ref a :: rest)) :=
  va_iald hexec hb hK hP q0 t0 ha ht (vp_in_nI hk hn) hdg (by rw [nI_clamp (by omega)]; exact kk)
theorem r_zald (hexec : p.tables.exec = Jvm.exec) (hb : c.code = cc) (hK : va_K D cl tys s) (hP : va_P D cl ws H) (q0 t0 : Nat) {cA : ClassId} {n : Nat} {f : Nat → Int32} (ha : ws[q0]? = some (a, .inl (cA, n, .inl f))) (ht : tys[t0]? = some (cA, .boolean)) {k : Nat} (hk : k < n) (hn : n < 2 ^ 31) (hdg : decode cc pc = .ok (.baload, 1))
    (kk : W p l e R s m args below meth c H locs cells slots Q (F0 m (pc + 1) ls (.int (f k) :: rest))) : W p l e R s m args below meth c H locs cells slots Q (F0 m pc ls (.int (nI k) :: .ref a :: rest)) :=
  va_zald hexec hb hK hP q0 t0 ha ht (vp_in_nI hk hn) hdg (by rw [nI_clamp (by omega)]; exact kk)
theorem r_lald (hexec : p.tables.exec = Jvm.exec) (hb : c.code = cc) (hK : va_K D cl tys s) (hP : va_P D cl ws H) (q0 t0 : Nat) {cA : ClassId} {n : Nat} {f : Nat → Int64} (ha : ws[q0]? = some (a, .inl (cA, n, .inr (.inl f)))) (ht : tys[t0]? = some (cA, .long)) {k : Nat} (hk : k < n) (hn : n < 2 ^ 31) (hdg : decode cc pc = .ok (.laload, 1))
    (kk : W p l e R s m args below meth c H locs cells slots Q (F0 m (pc + 1) ls (.long (f k) :: rest))) : W p l e R s m args below meth c H locs cells slots Q (F0 m pc ls (.int (nI k) :: .ref a :: rest)) :=
  va_lald hexec hb hK hP q0 t0 ha ht (vp_in_nI hk hn) hdg (by rw [nI_clamp (by omega)]; exact kk)
theorem r_aald (hexec : p.tables.exec = Jvm.exec) (hb : c.code = cc) (hK : va_K D cl tys s) (hP : va_P D cl ws H) (q0 t0 : Nat) {cA : ClassId} {r : Nat → Nat} (ha : ws[q0]? = some (rq a cA r)) (ht : tys[t0]? = some (cA, .array .int)) {k : Nat} (hk : k < 7) (hdg : decode cc pc = .ok (.aaload, 1))
    (kk : W p l e R s m args below meth c H locs cells slots Q (F0 m (pc + 1) ls (.ref (r k) :: rest))) : W p l e R s m args below meth c H locs cells slots Q (F0 m pc ls (.int (nI k) :: .ref a :: rest)) := by
  have hin : vp_in (nI k) 7 := vp_in_nI hk (by omega)
  have hc : (nI k).toNatClampNeg = k := nI_clamp (by omega)
  have hv : va_rf ((fun i => if i < 7 then some (r i) else none) k) = .ref (r k) := by simp [va_rf, hk]
  exact W.aald (v := .ref (r k)) (ty := .array .int) hexec hb (hP q0 _ ha) ((hK.2 t0 _ ht).1 7 (fun j => va_rf ((fun i => if i < 7 then some (r i) else none) j))) rfl (fun q => by cases q) (by show ¬ (nI k < 0 ∨ (arrV _ _ _).slots.size ≤ _); rw [arrV_size]; exact hin) (by show (arrV _ _ _).slots[_]? = _; rw [hc, arrV_read _ _ hk, hv]) rfl rfl hdg kk
theorem r_iast (hexec : p.tables.exec = Jvm.exec) (hb : c.code = cc) (hK : va_K D cl tys s) (hP : va_P D cl ws H) (hD : va_D A ws) (hS : va_S A H0 H locs) (q0 t0 : Nat) {cA : ClassId} {n : Nat} {f : Nat → Int32} (ha : ws[q0]? = some (a, .inl (cA, n, .inl f))) (ht : tys[t0]? = some (cA, .int)) {k : Nat} {x : Int32} (hk : k < n) (hn : n < 2 ^ 31) (hdg : decode cc pc = .ok (.iastore, 1))
    (kk : ∀ (H1 : Heap) (locs1 : List Loc), va_P D cl (ws.set q0 (a, .inl (cA, n, .inl (upd f k x)))) H1 → va_D A (ws.set q0 (a, .inl (cA, n, .inl (upd f k x)))) → va_S A H0 H1 locs1 → W p l e R s m args below meth c H1 locs1 cells slots Q (F0 m (pc + 1) ls rest)) : W p l e R s m args below meth c H locs cells slots Q (F0 m pc ls (.int x :: .int (nI k) :: .ref a :: rest)) :=
  va_iast hexec hb hK hP hD hS q0 t0 ha ht (vp_in_nI hk hn) hdg (by rw [nI_clamp (by omega)]; exact kk)
theorem r_zast (hexec : p.tables.exec = Jvm.exec) (hb : c.code = cc) (hK : va_K D cl tys s) (hP : va_P D cl ws H) (hD : va_D A ws) (hS : va_S A H0 H locs) (q0 t0 : Nat) {cA : ClassId} {n : Nat} {f : Nat → Int32} (ha : ws[q0]? = some (a, .inl (cA, n, .inl f))) (ht : tys[t0]? = some (cA, .boolean)) {k : Nat} {x : Int32} (hx : vp_nar .boolean x = x) (hk : k < n) (hn : n < 2 ^ 31) (hdg : decode cc pc = .ok (.bastore, 1))
    (kk : ∀ (H1 : Heap) (locs1 : List Loc), va_P D cl (ws.set q0 (a, .inl (cA, n, .inl (upd f k x)))) H1 → va_D A (ws.set q0 (a, .inl (cA, n, .inl (upd f k x)))) → va_S A H0 H1 locs1 → W p l e R s m args below meth c H1 locs1 cells slots Q (F0 m (pc + 1) ls rest)) : W p l e R s m args below meth c H locs cells slots Q (F0 m pc ls (.int x :: .int (nI k) :: .ref a :: rest)) :=
  va_zast hexec hb hK hP hD hS q0 t0 ha ht (vp_in_nI hk hn) hdg (by rw [nI_clamp (by omega), hx]; exact kk)
theorem r_last (hexec : p.tables.exec = Jvm.exec) (hb : c.code = cc) (hK : va_K D cl tys s) (hP : va_P D cl ws H) (hD : va_D A ws) (hS : va_S A H0 H locs) (q0 t0 : Nat) {cA : ClassId} {n : Nat} {f : Nat → Int64} (ha : ws[q0]? = some (a, .inl (cA, n, .inr (.inl f)))) (ht : tys[t0]? = some (cA, .long)) {k : Nat} {x : Int64} (hk : k < n) (hn : n < 2 ^ 31) (hdg : decode cc pc = .ok (.lastore, 1))
    (kk : ∀ (H1 : Heap) (locs1 : List Loc), va_P D cl (ws.set q0 (a, .inl (cA, n, .inr (.inl (vp_updL f k x))))) H1 → va_D A (ws.set q0 (a, .inl (cA, n, .inr (.inl (vp_updL f k x))))) → va_S A H0 H1 locs1 → W p l e R s m args below meth c H1 locs1 cells slots Q (F0 m (pc + 1) ls rest)) : W p l e R s m args below meth c H locs cells slots Q (F0 m pc ls (.long x :: .int (nI k) :: .ref a :: rest)) :=
  va_last hexec hb hK hP hD hS q0 t0 ha ht (vp_in_nI hk hn) hdg (by rw [nI_clamp (by omega)]; exact kk)
-- ===== calls of methods that only read =====
abbrev ro_P (D : va_G) (cI cZ cQ cJ : ClassId) (wc : va_W) : State → Prop := fun U => va_P D vwCl wc U.heap ∧ St D cI cZ cQ cJ U
theorem ro_blind {D : va_G} {cI cZ cQ cJ : ClassId} {wc : va_W} {av : List Value} : FrameBlind (va_Pc av (ro_P D cI cZ cQ cJ wc)) := fun a U g mk q => ⟨q.1, q.2.1, St.same (u := U) (U := U.calling g mk a) rfl q.2.2⟩
theorem ro_V {own C : String} {idx nL maxL n : Nat} {y : MethodName} {bytes : ByteArray} {ret : Option FieldType} {rm : Room} {wc : va_W} {b : Addr} {As : List Value} {v : Int32}
    (S : CallFix p m c cc nL s args ALL own) (hM : Met l y (Cond.code y bytes maxL ret :: ALL) rm (va_Pc (.ref b :: As) (ro_P D cI cZ cQ cJ wc)) (vp_Si (fun r => r = v)) 0 0 (fun _ => False))
    (hG : GoodIn ALL (wsV own idx C y (Cond.code y bytes maxL ret :: ALL))) (hrc : rm.cells = 0) (hrs : rm.slots = 0)
    (hd : y.cls = C ∧ y.cls ≠ "java/lang/invoke/MethodHandle" ∧ y.cls ≠ "java/lang/invoke/VarHandle" ∧ (parseMethodDescriptor y.desc).map (fun d => d.parameters.length) = some n) (hR : rm.frames + 1 ≤ R.frames ∧ 8 + (maxL + 11) + rm.locals ≤ R.locals)
    (hP : va_P D vwCl wc H) (hSt : St D cI cZ cQ cJ s) (hv : ∃ cell : Cell, H[b]? = some cell ∧ cell.vm.isStatics = false ∧ s.vm.findClass C = some cell.cls)
    (hn : As.length = n) (hsize : ls.size = nL) (hstack : st0 = As.reverse ++ .ref b :: rest) (hW : (rest.map fun v => v.category).sum ≤ 8) (hdg : decode cc pc = .ok (.invokevirtual idx, 3)) (hc : cells ≤ R.cells) (hs : slots ≤ R.slots)
    (kk : W p l e R s m args below meth c H locs cells slots Q (F0 m (pc + 3) ls (.int v :: rest))) : W p l e R s m args below meth c H locs cells slots Q (F0 m pc ls st0) := by
  obtain ⟨hx, hb, hml, hown, hts⟩ := id S
  refine vp_callSi (W.runV (As := As) (rest := rest) S hM (cwV n hts hG rfl hrc hrs hd hR) ⟨ro_blind, hv, fun U hU hW => ⟨rfl, by rw [hU]; exact hP, St.warm hW hSt⟩⟩ rfl hn hsize hstack (lv_room hW) hdg ⟨hc, hs⟩) (fun r hr => ?_)
  subst hr
  exact kk
theorem ro_S {own : String} {idx nL maxL n : Nat} {y : MethodName} {bytes : ByteArray} {ret : Option FieldType} {rm : Room} {wc : va_W} {As : List Value} {v : Int32}
    (S : CallFix p m c cc nL s args ALL own) (hM : Met l y (Cond.code y bytes maxL ret :: ALL) rm (va_Pc As (ro_P D cI cZ cQ cJ wc)) (vp_Si (fun r => r = v)) 0 0 (fun _ => False))
    (hG : GoodIn ALL (wsS own idx y (Cond.code y bytes maxL ret :: ALL))) (hrc : rm.cells = 0) (hrs : rm.slots = 0)
    (hd : y.cls = own ∧ y.cls ≠ "java/lang/invoke/MethodHandle" ∧ y.cls ≠ "java/lang/invoke/VarHandle" ∧ (parseMethodDescriptor y.desc).map (fun d => d.parameters.length) = some n) (hR : rm.frames + 1 ≤ R.frames ∧ 8 + (maxL + 11) + rm.locals ≤ R.locals)
    (hP : va_P D vwCl wc H) (hSt : St D cI cZ cQ cJ s)
    (hn : As.length = n) (hsize : ls.size = nL) (hstack : st0 = As.reverse ++ rest) (hW : (rest.map fun v => v.category).sum ≤ 8) (hdg : decode cc pc = .ok (.invokestatic idx, 3)) (hc : cells ≤ R.cells) (hs : slots ≤ R.slots)
    (kk : W p l e R s m args below meth c H locs cells slots Q (F0 m (pc + 3) ls (.int v :: rest))) : W p l e R s m args below meth c H locs cells slots Q (F0 m pc ls st0) := by
  obtain ⟨hx, hb, hml, hown, hts⟩ := id S
  refine vp_callSi (W.runS (As := As) (rest := rest) S hM (cwS n hts hG rfl hrc hrs hd hR) ⟨ro_blind, fun U hU hW => ⟨rfl, by rw [hU]; exact hP, St.warm hW hSt⟩⟩ rfl hn hsize hstack (lv_room hW) hdg ⟨hc, hs⟩) (fun r hr => ?_)
  subst hr
  exact kk
-- ===== calls of methods that write =====
abbrev rw_P (D : va_G) (cI cZ cQ cJ : ClassId) (wc : va_W) (sz : Nat) : State → Prop := fun U => U.heap.size = sz ∧ va_P D vwCl wc U.heap ∧ St D cI cZ cQ cJ U ∧ va_D (fun _ => True) wc
/-- behind a method that writes: its world anew -/
abbrev rw_B {T : Type} (D : va_G) (A : Nat → Prop) (B : T → va_W) : T → State → Prop := fun u t => va_P D vwCl (B u) t.heap ∧ va_D A (B u)
theorem rw_blind {D : va_G} {cI cZ cQ cJ : ClassId} {wc : va_W} {sz : Nat} {av : List Value} : FrameBlind (va_Pc av (rw_P D cI cZ cQ cJ wc sz)) := fun a U g mk q => ⟨q.1, q.2.1, q.2.2.1, St.same (u := U) (U := U.calling g mk a) rfl q.2.2.2.1, q.2.2.2.2⟩
theorem rw_i {T : Type} {mc ms : Nat} {wc wr : va_W} {av : Array Value} {post : Int32 → T → Prop} {B : T → va_W}
    (hr : va_Run p l e R s m args below meth c H locs cells slots mc ms (F0 m pc ls st0) rest (va_Qi post (rw_B D (va_A wc H.size) B) (va_A wc H.size) av) (va_A wc H.size))
    (hP : va_P D vwCl ws H) (hD : va_D A ws) (hS : va_S A H0 H locs) (hA : ∀ q, H0.size ≤ q → A q) (isC isR : List Nat) (hC : isC.map (fun i => ws[i]?) = wc.map some) (hR : isR.map (fun i => ws[i]?) = wr.map some) (hn : va_nd isR = true) (hdis : ∀ i ∈ isR, i ∉ isC)
    (kk : ∀ (r : Int32) (u : T) (H : Heap) (locs : List Loc), post r u → va_P D vwCl (wr ++ B u) H → va_D A (wr ++ B u) → va_S A H0 H locs → W p l e R s m args below meth c H locs (cells + mc) (slots + ms) Q (F0 m (pc + 3) ls (.int r :: rest))) : W p l e R s m args below meth c H locs cells slots Q (F0 m pc ls st0) := by
  have hF := va_free (wc := wc) hD hS hA isC hC
  refine va_calli hr hS (fun q _ h => hF q h) hF (fun r u t H1 locs1 ht hvm hw hB hz1 hk1 hS1 => ?_)
  obtain ⟨hP1, hD1⟩ := hB
  rw [ht] at hP1
  obtain ⟨hP2, hD2⟩ := va_join (wr := wr) (w1 := B u) hP hD isC isR hC hR hn hdis hk1 hF hP1 hD1
  exact kk r u H1 locs1 hw hP2 hD2 hS1
theorem rw_v {T : Type} {mc ms : Nat} {wc wr : va_W} {av : Array Value} {post : T → Prop} {B : T → va_W}
    (hr : va_Run p l e R s m args below meth c H locs cells slots mc ms (F0 m pc ls st0) rest (va_Qv post (rw_B D (va_A wc H.size) B) (va_A wc H.size) av) (va_A wc H.size))
    (hP : va_P D vwCl ws H) (hD : va_D A ws) (hS : va_S A H0 H locs) (hA : ∀ q, H0.size ≤ q → A q) (isC isR : List Nat) (hC : isC.map (fun i => ws[i]?) = wc.map some) (hR : isR.map (fun i => ws[i]?) = wr.map some) (hn : va_nd isR = true) (hdis : ∀ i ∈ isR, i ∉ isC)
    (kk : ∀ (u : T) (H : Heap) (locs : List Loc), post u → va_P D vwCl (wr ++ B u) H → va_D A (wr ++ B u) → va_S A H0 H locs → W p l e R s m args below meth c H locs (cells + mc) (slots + ms) Q (F0 m (pc + 3) ls rest)) : W p l e R s m args below meth c H locs cells slots Q (F0 m pc ls st0) := by
  have hF := va_free (wc := wc) hD hS hA isC hC
  refine va_callv hr hS (fun q _ h => hF q h) hF (fun u t H1 locs1 ht hvm hw hB hz1 hk1 hS1 => ?_)
  obtain ⟨hP1, hD1⟩ := hB
  rw [ht] at hP1
  obtain ⟨hP2, hD2⟩ := va_join (wr := wr) (w1 := B u) hP hD isC isR hC hR hn hdis hk1 hF hP1 hD1
  exact kk u H1 locs1 hw hP2 hD2 hS1
theorem rw_pre {wc : va_W} {As : List Value} (hP : va_P D vwCl ws H) (hD : va_D A ws) (hSt : St D cI cZ cQ cJ s) (isC : List Nat) (hC : isC.map (fun i => ws[i]?) = wc.map some) (hnd : va_nd isC = true) : ∀ U : State, U.heap = H → s.WarmedH U.vm → va_Pc As (rw_P D cI cZ cQ cJ wc H.size) As.toArray U := by
  intro U hU hW
  refine ⟨rfl, by rw [hU], ?_, St.warm hW hSt, (hD.sub isC hnd hC).weaken (fun _ _ _ _ => trivial)⟩
  rw [hU]
  refine hP.sub isC ?_
  have h1 : isC.filterMap (fun i => ws[i]?) = (isC.map (fun i => ws[i]?)).filterMap id := by rw [List.filterMap_map]; rfl
  rw [h1, hC, List.filterMap_map]
  exact List.filterMap_some
end RR
