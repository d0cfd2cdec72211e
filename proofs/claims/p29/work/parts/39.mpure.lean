section
/-! the reference without the machine: what was asked, needs, ways -/
def as1 (x : Int32) : Nat := if x = 0 then 1 else 0
def as2 (x y : Int32) : Nat := if x = 0 then 1 else if y = 0 then 2 else 0
def as3 (x y z : Int32) : Nat := if x = 0 then 1 else if y = 0 then 2 else if z = 0 then 3 else 0
theorem as1_c (x : Int32) : (x = 0 ∧ as1 x = 1) ∨ (¬ x = 0 ∧ as1 x = 0) := by
  unfold as1
  by_cases h : x = 0
  · exact Or.inl ⟨h, if_pos h⟩
  · exact Or.inr ⟨h, if_neg h⟩
theorem as2_c (x y : Int32) : (x = 0 ∧ as2 x y = 1) ∨ (¬ x = 0 ∧ y = 0 ∧ as2 x y = 2) ∨ (¬ x = 0 ∧ ¬ y = 0 ∧ as2 x y = 0) := by
  unfold as2
  by_cases h : x = 0
  · exact Or.inl ⟨h, if_pos h⟩
  · rw [if_neg h]
    by_cases h2 : y = 0
    · exact Or.inr (Or.inl ⟨h, h2, if_pos h2⟩)
    · exact Or.inr (Or.inr ⟨h, h2, if_neg h2⟩)
theorem as3_c (x y z : Int32) : (x = 0 ∧ as3 x y z = 1) ∨ (¬ x = 0 ∧ y = 0 ∧ as3 x y z = 2) ∨ (¬ x = 0 ∧ ¬ y = 0 ∧ z = 0 ∧ as3 x y z = 3) ∨ (¬ x = 0 ∧ ¬ y = 0 ∧ ¬ z = 0 ∧ as3 x y z = 0) := by
  unfold as3
  by_cases h : x = 0
  · exact Or.inl ⟨h, if_pos h⟩
  · rw [if_neg h]
    by_cases h2 : y = 0
    · exact Or.inr (Or.inl ⟨h, h2, if_pos h2⟩)
    · rw [if_neg h2]
      by_cases h3 : z = 0
      · exact Or.inr (Or.inr (Or.inl ⟨h, h2, h3, if_pos h3⟩))
      · exact Or.inr (Or.inr (Or.inr ⟨h, h2, h3, if_neg h3⟩))
theorem as1_1 {x : Int32} (h : x = 0) : as1 x = 1 := if_pos h
theorem as2_1 {x y : Int32} (h : x = 0) : as2 x y = 1 := if_pos h
theorem as2_2 {x y : Int32} (h : ¬ x = 0) (h2 : y = 0) : as2 x y = 2 := by unfold as2; rw [if_neg h, if_pos h2]
theorem as2_3 {x y : Int32} (h : ¬ x = 0) (h2 : ¬ y = 0) : as2 x y = 0 := by unfold as2; rw [if_neg h, if_neg h2]
theorem nI0 : nI 0 = 0 := rfl
theorem nI1 : ¬ nI 1 = 0 := by decide
theorem as1_0 {x : Int32} (h : as1 x = 0) : ¬ x = 0 := by rcases as1_c x with q | q <;> first | exact q.1 | omega
theorem as2_0 {x y : Int32} (h : as2 x y = 0) : ¬ x = 0 ∧ ¬ y = 0 := by rcases as2_c x y with q | q | q <;> first | exact ⟨q.1, q.2.1⟩ | omega
theorem as3_0 {x y z : Int32} (h : as3 x y z = 0) : ¬ x = 0 ∧ ¬ y = 0 ∧ ¬ z = 0 := by rcases as3_c x y z with q | q | q | q <;> first | exact ⟨q.1, q.2.1, q.2.2.1⟩ | omega
/-- between -/
abbrev inI (v lo hi : Int32) : Prop := lo ≤ v ∧ v ≤ hi
theorem inI_N {z : Int32} {n : Nat} (hn : n < 2 ^ 31) : inI z (nI 0) (nI n - nI 1) ↔ inN z n := by
  constructor
  · rintro ⟨h1, h2⟩
    have h0 : ¬ z < 0 := Int32.not_lt.mpr h1
    obtain ⟨j, h3, h4⟩ := nI_of h0
    by_cases e : n = 0
    · subst e
      exfalso
      rw [h4] at h2
      have h5 := Int32.le_iff_toInt_le.mp h2
      rw [nI_toInt h3] at h5
      have h6 : (nI 0 - nI 1).toInt = -1 := by decide
      omega
    · rw [h4, pk_sub (show 1 ≤ n by omega)] at h2
      exact ⟨j, by have := z_le h3 (by omega) h2; omega, h4⟩
  · rintro ⟨k, h1, h2⟩
    rw [h2]
    refine ⟨nI_le (Nat.zero_le _) (by omega), ?_⟩
    rw [pk_sub (show 1 ≤ n by omega)]
    exact nI_le (by omega) (by omega)
theorem inI_R {v : Int32} {lo hi : Nat} (hl : lo < 2 ^ 31) (hh : hi < 2 ^ 31) : inI v (nI lo) (nI hi) ↔ inR v lo hi := by
  constructor
  · rintro ⟨h1, h2⟩
    exact inR_ok hl hh (Int32.not_lt.mpr h1) (Int32.not_lt.mpr h2)
  · rintro ⟨k, h1, h2, h3⟩
    rw [h3]
    exact ⟨nI_le h1 (by omega), nI_le h2 hh⟩
theorem inI_5 {z : Int32} : inI z (nI 0) (nI 4) ↔ inN z 5 := by
  rw [inI_R (by omega) (by omega)]
  exact ⟨fun ⟨k, _, h2, h3⟩ => ⟨k, by omega, h3⟩, fun ⟨k, h2, h3⟩ => ⟨k, by omega, by omega, h3⟩⟩
theorem inI_sq {c r : Int32} : (inI c (nI 0) (nI 7) ∧ inI r (nI 0) (nI 7)) ↔ inSq c r := by
  rw [inI_R (by omega) (by omega), inI_R (by omega) (by omega)]
  constructor
  · rintro ⟨⟨k, _, h2, h3⟩, ⟨j, _, h5, h6⟩⟩
    rw [h3, h6]
    exact (inSq_iff (by omega) (by omega)).mpr ⟨by omega, by omega⟩
  · intro h
    obtain ⟨i, j, h1, h2, e1, e2⟩ := inSq_nat h
    exact ⟨⟨i, by omega, by omega, e1⟩, ⟨j, by omega, by omega, e2⟩⟩
/-- the greatest of the first n, from 0 on -/
def mxQ (p : Nat → Nat) : Nat → Nat
  | 0 => 0
  | n + 1 => if mxQ p n < p n then p n else mxQ p n
theorem mxQ_spec (p : Nat → Nat) : ∀ n c, mxQ p n ≤ c ↔ ∀ j, j < n → p j ≤ c
  | 0, c => ⟨fun _ j hj => by omega, fun _ => Nat.zero_le _⟩
  | n + 1, c => by
    have ih := mxQ_spec p n
    unfold mxQ
    constructor
    · intro h j hj
      by_cases e : j = n
      · subst e
        split at h <;> omega
      · refine (ih c).mp ?_ j (by omega)
        split at h <;> omega
    · intro h
      have h1 := (ih c).mpr (fun j hj => h j (by omega))
      have h2 := h n (by omega)
      split <;> omega
theorem ndN_spec {p : Nat → Nat} {c : Nat} : ndN p ≤ c ↔ ∀ j, j < 5 → p j ≤ c := by
  unfold ndN
  constructor
  · intro h j hj
    have h1 := Nat.max_le.mp h
    have h2 := Nat.max_le.mp h1.2
    have h3 := Nat.max_le.mp h2.2
    have h4 := Nat.max_le.mp h3.2
    rcases (show j = 0 ∨ j = 1 ∨ j = 2 ∨ j = 3 ∨ j = 4 by omega) with e | e | e | e | e <;> rw [e]
    · exact h1.1
    · exact h2.1
    · exact h3.1
    · exact h4.1
    · exact h4.2
  · intro h
    exact Nat.max_le.mpr ⟨h 0 (by omega), Nat.max_le.mpr ⟨h 1 (by omega), Nat.max_le.mpr ⟨h 2 (by omega), Nat.max_le.mpr ⟨h 3 (by omega), h 4 (by omega)⟩⟩⟩⟩
theorem mxQ_ndN (p : Nat → Nat) : mxQ p 5 = ndN p := Nat.le_antisymm ((mxQ_spec p 5 _).mpr (ndN_spec.mp (Nat.le_refl _))) (ndN_spec.mpr ((mxQ_spec p 5 _).mp (Nat.le_refl _)))
theorem mxQ_le {p : Nat → Nat} {n c : Nat} (h : ∀ j, j < n → p j ≤ c) : mxQ p n ≤ c := (mxQ_spec p n c).mpr h
/-- the greatest by Math.max, of numbers -/
theorem mxN_nat {f : Nat → Int32} {p : Nat → Nat} {d m : Nat} (hm : m ≤ 60) : ∀ n, (∀ j, j < n → f j = nI (p j) ∧ p j ≤ 60) → ∃ x, mxN f d (nI m) n = nI x ∧ x ≤ 60 ∧ ∀ c, x ≤ c ↔ m ≤ c ∧ ∀ j, j < n → j ≠ d → p j ≤ c
  | 0, _ => ⟨m, rfl, hm, fun c => ⟨fun h => ⟨h, fun j hj => by omega⟩, fun h => h.1⟩⟩
  | n + 1, hf => by
    obtain ⟨x, h1, h2, h3⟩ := mxN_nat (d := d) hm n (fun j hj => hf j (by omega))
    unfold mxN
    by_cases e : n = d
    · rw [if_pos e]
      refine ⟨x, h1, h2, fun c => (h3 c).trans ⟨fun q => ⟨q.1, fun j hj hd => q.2 j (by omega) hd⟩, fun q => ⟨q.1, fun j hj hd => q.2 j (by omega) hd⟩⟩⟩
    · rw [if_neg e, h1, (hf n (by omega)).1]
      have hpn := (hf n (by omega)).2
      by_cases e2 : x < p n
      · rw [if_pos (nI_lt e2 (by omega))]
        refine ⟨p n, rfl, hpn, fun c => ⟨fun q => ⟨((h3 c).mp (by omega)).1, fun j hj hd => ?_⟩, fun q => q.2 n (by omega) e⟩⟩
        by_cases e3 : j = n
        · rw [e3]; exact q
        · exact ((h3 c).mp (by omega)).2 j (by omega) hd
      · rw [if_neg (fun q => e2 (z_lt (by omega) (by omega) q))]
        refine ⟨x, rfl, h2, fun c => ⟨fun q => ⟨((h3 c).mp q).1, fun j hj hd => ?_⟩, fun q => (h3 c).mpr ⟨q.1, fun j hj hd => q.2 j (by omega) hd⟩⟩⟩
        by_cases e3 : j = n
        · rw [e3]; omega
        · exact ((h3 c).mp q).2 j (by omega) hd
def upN (p : Nat → Nat) (d m : Nat) : Nat → Nat := updN p d m
theorem mxN_ndN {f : Nat → Int32} {p : Nat → Nat} {d m : Nat} (hd : d < 5) (hm : m ≤ 60) (hf : ∀ j, j < 5 → f j = nI (p j) ∧ p j ≤ 60) : mxN f d (nI m) 5 = nI (ndN (updN p d m)) := by
  obtain ⟨x, h1, h2, h3⟩ := mxN_nat (d := d) hm 5 hf
  rw [h1]
  congr 1
  have key : ∀ c, x ≤ c ↔ ndN (updN p d m) ≤ c := fun c => by
    rw [h3, ndN_spec]
    constructor
    · rintro ⟨a, b⟩ j hj
      by_cases e : j = d
      · rw [e, updN_s]; exact a
      · rw [updN_n _ _ e]; exact b j hj e
    · intro q
      refine ⟨by have := q d hd; rw [updN_s] at this; exact this, fun j hj e => ?_⟩
      have := q j hj
      rw [updN_n _ _ e] at this
      exact this
  exact Nat.le_antisymm ((key _).mpr (Nat.le_refl _)) ((key _).mp (Nat.le_refl _))
-- ===== the team of a zone, the last one =====
theorem tAt_only {zo : Nat → Int32} {g : Nat → Nat} {nz nt z t0 : Nat} (h : pOK 7 zo g) (hv : vG nz nt g) (hz9 : nz ≤ 7) (hz : z < 7) (h0 : t0 < 7) (e : g t0 = z) : tAt zo (nI z) = nI t0 := by
  rw [tAt_z hz]
  rcases fs_is (f := zo) (z := nI z) (n := 7) 7 (Nat.le_refl _) with ⟨h1, h2⟩ | ⟨i, h1, h2, h3, h4, -⟩
  · exact absurd (by rw [h t0 h0, e, zI_lt hz]) (h2 t0 (by omega) h0)
  · rw [h4]
    have e2 : g i = z := (zI_eqn (vG_7 hv hz9 i h2) hz).mp (by rw [← h i h2]; exact h3)
    by_cases e3 : i = t0
    · rw [e3]
    · have := hv.2 i t0 (by omega) e3
      omega
-- ===== ways, level by level =====
def GS (w : Nat → Int32) (c r v : Int32) (st st2 : Nat → Int32) : Prop :=
  ((inSq c r ∧ w (sqI c r) = 0 ∧ st (sqI c r) = -1) ∧ st2 = upd st (sqI c r) v) ∨ (¬ (inSq c r ∧ w (sqI c r) = 0 ∧ st (sqI c r) = -1) ∧ st2 = st)
def LV (w : Nat → Int32) (a far k : Nat) (st : Nat → Int32) : Prop :=
  ∀ b, b < 64 → (∃ n, n ≤ far ∧ dE w a n b ∧ st b = nI n) ∨ (st b = nI (far + 1) ∧ dE w a (far + 1) b) ∨ (st b = -1 ∧ (∀ n, n ≤ far → ¬ Rn w a n b) ∧ ∀ c, c < k → dE w a far c → nb c b → w b = 0 → False)
theorem GS_LV {w : Nat → Int32} {a far k u : Nat} {st st2 : Nat → Int32} {c r : Int32} (ha : a < 64) (h : LV w a far k st) (hG : GS w c r (nI (far + 1)) st st2) (hu : u < 64) (hd : dE w a far u) (hn : inSq c r → sqI c r < 64 ∧ nb u (sqI c r)) : LV w a far k st2 := by
  rcases hG with ⟨⟨h1, h2, h3⟩, rfl⟩ | ⟨-, rfl⟩
  · obtain ⟨h4, h5⟩ := hn h1
    intro b hb
    by_cases e : b = sqI c r
    · refine Or.inr (Or.inl ⟨by rw [e, pk_us], ?_⟩)
      rw [e]
      rcases h _ h4 with ⟨n, q1, q2, q3⟩ | ⟨q1, q2⟩ | ⟨q1, q2, q3⟩
      · rw [h3] at q3
        exact absurd q3.symm (z_m1 (by have := dE_lt ha q2; omega))
      · exact q2
      · exact ⟨Or.inr ⟨h4, h2, u, hu, h5, hd.1⟩, fun m hm => q2 m (by omega)⟩
    · have h6 := h b hb
      rw [pk_un e]
      exact h6
  · exact h
theorem GS_set {w : Nat → Int32} {b v : Nat} {st st2 : Nat → Int32} {c r : Int32} (hv : v < 2 ^ 31) (hG : GS w c r (nI v) st st2) (h : inSq c r) (e : sqI c r = b) (hw : w b = 0) : ¬ st2 b = -1 := by
  rcases hG with ⟨⟨h1, h2, h3⟩, rfl⟩ | ⟨h1, rfl⟩
  · rw [e, pk_us]; exact z_m1 hv
  · exact fun q => h1 ⟨h, by rw [e]; exact hw, by rw [e]; exact q⟩
theorem GS_keep {w : Nat → Int32} {b v : Nat} {st st2 : Nat → Int32} {c r : Int32} (hv : v < 2 ^ 31) (hG : GS w c r (nI v) st st2) (h : ¬ st b = -1) : ¬ st2 b = -1 := by
  rcases hG with ⟨⟨h1, h2, h3⟩, rfl⟩ | ⟨h1, rfl⟩
  · by_cases e : b = sqI c r
    · rw [e, pk_us]; exact z_m1 hv
    · rw [pk_un e]; exact h
  · exact h
theorem LV_0 {w : Nat → Int32} {a : Nat} {st : Nat → Int32} (h : ∀ b, b < 64 → st b = if b = a then nI 0 else -1) : LV w a 0 0 st := by
  intro b hb
  rw [h b hb]
  by_cases e : b = a
  · rw [if_pos e]
    exact Or.inl ⟨0, Nat.le_refl _, ⟨e, fun m hm => by omega⟩, rfl⟩
  · rw [if_neg e]
    refine Or.inr (Or.inr ⟨rfl, fun n hn q => ?_, fun c hc => by omega⟩)
    rw [show n = 0 by omega] at q
    exact e q
theorem LV_d {w : Nat → Int32} {a far k : Nat} {st : Nat → Int32} (ha : a < 64) (h : LV w a far k st) (hf : far < 64) {u : Nat} (hu : u < 64) : st u = nI far ↔ dE w a far u := by
  rcases h u hu with ⟨n, q1, q2, q3⟩ | ⟨q1, q2⟩ | ⟨q1, q2, q3⟩
  · have := dE_lt ha q2
    constructor
    · intro e
      rw [q3] at e
      have := z_eq (by omega) (by omega) e
      rw [← this]; exact q2
    · intro e
      rw [q3, dE_inj q2 e]
  · constructor
    · intro e
      rw [q1] at e
      have := z_eq (by omega) (by omega) e
      omega
    · intro e
      have := dE_inj q2 e
      omega
  · constructor
    · intro e
      rw [q1] at e
      exact absurd e.symm (z_m1 (by omega))
    · intro e
      exact absurd e.1 (q2 far (Nat.le_refl _))
theorem LV_skip {w : Nat → Int32} {a far k : Nat} {st : Nat → Int32} (ha : a < 64) (h : LV w a far k st) (hf : far < 64) (hk : k < 64) (hn : ¬ st k = nI far) : LV w a far (k + 1) st := by
  have hd : ¬ dE w a far k := fun q => hn ((LV_d ha h hf hk).mpr q)
  intro b hb
  rcases h b hb with q | q | ⟨q1, q2, q3⟩
  · exact Or.inl q
  · exact Or.inr (Or.inl q)
  · refine Or.inr (Or.inr ⟨q1, q2, fun c hc h1 h2 h3 => ?_⟩)
    by_cases e : c = k
    · rw [e] at h1; exact hd h1
    · exact q3 c (by omega) h1 h2 h3
theorem LV_four {w : Nat → Int32} {a far u : Nat} {st s1 s2 s3 s4 : Nat → Int32} (ha : a < 64) (h : LV w a far u st) (hf : far < 64) (hu : u < 64) (he : st u = nI far)
    (h1 : GS w (nI (u % 8) - nI 1) (nI (u / 8)) (nI (far + 1)) st s1) (h2 : GS w (nI (u % 8 + 1)) (nI (u / 8)) (nI (far + 1)) s1 s2) (h3 : GS w (nI (u % 8)) (nI (u / 8) - nI 1) (nI (far + 1)) s2 s3) (h4 : GS w (nI (u % 8)) (nI (u / 8 + 1)) (nI (far + 1)) s3 s4) : LV w a far (u + 1) s4 := by
  have hd := (LV_d ha h hf hu).mp he
  have k1 := GS_LV ha h h1 hu hd (nb_l hu)
  have k2 := GS_LV ha k1 h2 hu hd (nb_r hu)
  have k3 := GS_LV ha k2 h3 hu hd (nb_u hu)
  have k4 := GS_LV ha k3 h4 hu hd (nb_d hu)
  have hv : far + 1 < 2 ^ 31 := by omega
  intro b hb
  rcases k4 b hb with q | q | ⟨q1, q2, q3⟩
  · exact Or.inl q
  · exact Or.inr (Or.inl q)
  · refine Or.inr (Or.inr ⟨q1, q2, fun c hc g1 g2 g3 => ?_⟩)
    by_cases e : c = u
    · subst e
      rcases nb4 hu hb g2 with ⟨i1, i2⟩ | ⟨i1, i2⟩ | ⟨i1, i2⟩ | ⟨i1, i2⟩
      · exact GS_keep hv h4 (GS_keep hv h3 (GS_keep hv h2 (GS_set hv h1 i1 i2 g3))) q1
      · exact GS_keep hv h4 (GS_keep hv h3 (GS_set hv h2 i1 i2 g3)) q1
      · exact GS_keep hv h4 (GS_set hv h3 i1 i2 g3) q1
      · exact GS_set hv h4 i1 i2 g3 q1
    · exact q3 c (by omega) g1 g2 g3
theorem LV_up {w : Nat → Int32} {a far k : Nat} {st : Nat → Int32} (h : LV w a far k st) (hk : 64 ≤ k) : LV w a (far + 1) 0 st := by
  intro b hb
  rcases h b hb with ⟨n, q1, q2, q3⟩ | ⟨q1, q2⟩ | ⟨q1, q2, q3⟩
  · exact Or.inl ⟨n, by omega, q2, q3⟩
  · exact Or.inl ⟨far + 1, Nat.le_refl _, q2, q1⟩
  · refine Or.inr (Or.inr ⟨q1, fun n hn q => ?_, fun c hc => by omega⟩)
    by_cases e : n = far + 1
    · subst e
      rcases q with q | ⟨_, hw, c, hc, hnb, hR⟩
      · exact q2 far (Nat.le_refl _) q
      · obtain ⟨m, hm, hd⟩ := dE_of hR
        by_cases e2 : m = far
        · rw [e2] at hd
          exact q3 c (by omega) hd hnb hw
        · exact q2 (m + 1) (by omega) (Or.inr ⟨hb, hw, c, hc, hnb, hd.1⟩)
    · exact q2 n (by omega) q
/-- the distance out of the steps -/
theorem LV_end {w : Nat → Int32} {a far k b : Nat} {st : Nat → Int32} (ha : a < 64) (h : LV w a far k st) (hf : 64 ≤ far) (hb : b < 64) : isD w a b (if st b = -1 then nI 100 else st b) := by
  rcases h b hb with ⟨n, q1, q2, q3⟩ | ⟨q1, q2⟩ | ⟨q1, q2, q3⟩
  · have := dE_lt ha q2
    rw [q3, if_neg (z_m1 (by omega))]
    exact Or.inl ⟨n, this, rfl, q2⟩
  · have := dE_lt ha q2
    omega
  · rw [if_pos q1]
    refine Or.inr ⟨rfl, fun n q => ?_⟩
    obtain ⟨m, _, hd⟩ := dE_of q
    exact q2 m (by have := dE_lt ha hd; omega) hd.1
theorem tAt_team {zo : Nat → Int32} {g : Nat → Nat} {nz nt z : Nat} (h : pOK 7 zo g) (hv : vG nz nt g) (hz9 : nz ≤ 7) (hz : z < 7) (hn : ¬ tAt zo (nI z) = -1) : ∃ t, t < nt ∧ t < 7 ∧ tAt zo (nI z) = nI t ∧ g t = z := by
  obtain ⟨t, h1, h2, h3, -⟩ := tAt_some hn
  have e : g t = z := (zI_eqn (vG_7 hv hz9 t h1) hz).mp (by rw [← h t h1]; exact h3)
  exact ⟨t, by rcases hv.1 t with q | q <;> omega, h1, h2, e⟩
theorem pres_iff {f : Nat → Int32} {p : Nat → Nat} {dy m dn : Nat} (hd : dy < 5) (hm : m ≤ 60) (hdn : dn ≤ 60) (hf : ∀ j, j < 5 → f j = nI (p j) ∧ p j ≤ 60) (hfit : nI (ndN p) ≤ nI dn) : (nI dn < mxN f dy (nI m) 5 ↔ nI dn < nI m) := by
  obtain ⟨x, h1, h2, h3⟩ := mxN_nat (d := dy) hm 5 hf
  have hn : ndN p ≤ 60 := ndN_spec.mpr fun j hj => (hf j hj).2
  have h4 := z_le (by omega) (by omega) hfit
  have h5 := ndN_spec.mp h4
  rw [h1, nI_ltI (by omega) (by omega), nI_ltI (by omega) (by omega)]
  have h6 := h3 dn
  have h7 : x ≤ dn ↔ m ≤ dn := h6.trans ⟨fun q => q.1, fun q => ⟨q, fun j hj _ => h5 j hj⟩⟩
  omega
-- ===== the next zone to try =====
noncomputable def nxZ (ok : Nat → Prop) : Nat → Nat → Nat
  | 0, _ => 7
  | f + 1, y => @ite Nat (ok y) (Classical.propDecidable _) y (nxZ ok f (y + 1))
theorem nxZ_t {ok : Nat → Prop} {f y : Nat} (h : ok y) : nxZ ok (f + 1) y = y := by unfold nxZ; rw [if_pos h]
theorem nxZ_f {ok : Nat → Prop} {f y : Nat} (h : ¬ ok y) : nxZ ok (f + 1) y = nxZ ok f (y + 1) := by
  rw [nxZ, if_neg h]
theorem nxZ_is {ok : Nat → Prop} {nz : Nat} : ∀ f y, f = nz - y → (nxZ ok f y = 7 ∧ ∀ z, y ≤ z → z < nz → ¬ ok z) ∨ (nxZ ok f y < nz ∧ y ≤ nxZ ok f y ∧ ok (nxZ ok f y) ∧ ∀ z, y ≤ z → z < nxZ ok f y → ¬ ok z)
  | 0, y, h => Or.inl ⟨rfl, fun z h1 h2 => by omega⟩
  | f + 1, y, h => by
    by_cases e : ok y
    · rw [nxZ_t e]
      exact Or.inr ⟨by omega, Nat.le_refl _, e, fun z h1 h2 => by omega⟩
    · rw [nxZ_f e]
      rcases nxZ_is (ok := ok) (nz := nz) f (y + 1) (by omega) with ⟨h1, h2⟩ | ⟨h1, h2, h3, h4⟩
      · refine Or.inl ⟨h1, fun z q1 q2 => ?_⟩
        by_cases e2 : z = y
        · rw [e2]; exact e
        · exact h2 z (by omega) q2
      · refine Or.inr ⟨h1, by omega, h3, fun z q1 q2 => ?_⟩
        by_cases e2 : z = y
        · rw [e2]; exact e
        · exact h4 z (by omega) q2
end
