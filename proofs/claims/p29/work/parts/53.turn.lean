section
/-! the floor turned: columns and rows exchanged, told from the other end; two planners that tell the same -/
def tnS (s : Nat) : Nat := (s % 8) * 8 + (7 - s / 8)
def tnB (s : Nat) : Nat := (7 - s % 8) * 8 + s / 8
theorem tnS_lt {s : Nat} (h : s < 64) : tnS s < 64 := by unfold tnS; omega
theorem tnB_lt {s : Nat} (h : s < 64) : tnB s < 64 := by unfold tnB; omega
theorem tnB_S {s : Nat} (h : s < 64) : tnB (tnS s) = s := by unfold tnB tnS; omega
theorem tnS_B {s : Nat} (h : s < 64) : tnS (tnB s) = s := by unfold tnB tnS; omega
theorem tnS_inj {s u : Nat} (hs : s < 64) (hu : u < 64) (h : tnS s = tnS u) : s = u := by rw [← tnB_S hs, ← tnB_S hu, h]
theorem tnS_at {i j : Nat} (hi : i < 8) (hj : j < 8) : tnS (j * 8 + i) = i * 8 + (7 - j) := by unfold tnS; omega
theorem nb_S {a b : Nat} (ha : a < 64) (hb : b < 64) (h : nb a b) : nb (tnS a) (tnS b) := by
  unfold nb tnS at *
  omega
theorem nb_B {a b : Nat} (ha : a < 64) (hb : b < 64) (h : nb a b) : nb (tnB a) (tnB b) := by
  have e1 : tnB a % 8 = a / 8 := by unfold tnB; omega
  have e2 : tnB b % 8 = b / 8 := by unfold tnB; omega
  unfold nb at *
  rw [e1, e2]
  unfold tnB
  omega
theorem nb_sym {a b : Nat} (h : nb a b) : nb b a := by
  unfold nb at *
  omega
theorem Rn_map {w w8 : Nat → Int32} {f : Nat → Nat} {a : Nat} (hf : ∀ s, s < 64 → f s < 64) (hw : ∀ s, s < 64 → w8 (f s) = w s) (hn : ∀ a b, a < 64 → b < 64 → nb a b → nb (f a) (f b)) : ∀ (n b : Nat), Rn w a n b → Rn w8 (f a) n (f b)
  | 0, b, h => by
    have h : b = a := h
    rw [h]
    exact rfl
  | n + 1, b, h => by
    rcases h with h | ⟨h1, h2, c, h3, h4, h5⟩
    · exact Or.inl (Rn_map hf hw hn n b h)
    · exact Or.inr ⟨hf b h1, by rw [hw b h1]; exact h2, f c, hf c h3, hn c b h3 h1 h4, Rn_map hf hw hn n c h5⟩
theorem tn_back {w w8 : Nat → Int32} (hw : ∀ s, s < 64 → w8 (tnS s) = w s) : ∀ s, s < 64 → w (tnB s) = w8 s := fun s hs => by
  rw [← hw (tnB s) (tnB_lt hs), tnS_B hs]
theorem isD_turn {w w8 : Nat → Int32} {a b : Nat} {v : Int32} (hw : ∀ s, s < 64 → w8 (tnS s) = w s) (ha : a < 64) (hb : b < 64) (h : isD w a b v) : isD w8 (tnS a) (tnS b) v := by
  have fw : ∀ n, Rn w a n b → Rn w8 (tnS a) n (tnS b) := fun n => Rn_map (fun s hs => tnS_lt hs) hw (fun a b => nb_S) n b
  have bw : ∀ n, Rn w8 (tnS a) n (tnS b) → Rn w a n b := fun n q => by
    have h := Rn_map (w8 := w) (f := tnB) (fun s hs => tnB_lt hs) (tn_back hw) (fun a b => nb_B) n (tnS b) q
    rw [tnB_S ha, tnB_S hb] at h
    exact h
  rcases h with ⟨n, h1, e, h2, h3⟩ | ⟨e, h2⟩
  · exact Or.inl ⟨n, h1, e, fw n h2, fun m hm q => h3 m hm (bw m q)⟩
  · exact Or.inr ⟨e, fun n q => h2 n (bw n q)⟩
theorem Rn_free {w : Nat → Int32} {a : Nat} (ha : w a = 0) : ∀ (n b : Nat), Rn w a n b → w b = 0
  | 0, b, h => by
    have h : b = a := h
    rw [h]; exact ha
  | n + 1, b, h => by
    rcases h with h | ⟨_, h2, _⟩
    · exact Rn_free ha n b h
    · exact h2
theorem Rn_cons {w : Nat → Int32} {a c : Nat} (ha : a < 64) (hc : c < 64) (hw : w c = 0) (hn : nb a c) : ∀ (n b : Nat), Rn w c n b → Rn w a (n + 1) b
  | 0, b, h => by
    have h : b = c := h
    rw [h]
    exact Or.inr ⟨hc, hw, a, ha, hn, rfl⟩
  | n + 1, b, h => by
    rcases h with h | ⟨h1, h2, e, h3, h4, h5⟩
    · exact Or.inl (Rn_cons ha hc hw hn n b h)
    · exact Or.inr ⟨h1, h2, e, h3, h4, Rn_cons ha hc hw hn n e h5⟩
theorem Rn_sym {w : Nat → Int32} {a : Nat} (ha : a < 64) (hw : w a = 0) : ∀ (n b : Nat), b < 64 → Rn w a n b → Rn w b n a
  | 0, b, _, h => by
    have h : b = a := h
    rw [h]
    exact rfl
  | n + 1, b, hb, h => by
    rcases h with h | ⟨_, h2, c, h3, h4, h5⟩
    · exact Or.inl (Rn_sym ha hw n b hb h)
    · exact Rn_cons hb h3 (Rn_free hw n c h5) (nb_sym h4) n a (Rn_sym ha hw n c h3 h5)
theorem isD_sym {w : Nat → Int32} {a b : Nat} {v : Int32} (ha : a < 64) (hb : b < 64) (hwa : w a = 0) (hwb : w b = 0) (h : isD w a b v) : isD w b a v := by
  rcases h with ⟨n, h1, e, h2, h3⟩ | ⟨e, h2⟩
  · exact Or.inl ⟨n, h1, e, Rn_sym ha hwa n b hb h2, fun m hm q => h3 m hm (Rn_sym hb hwb m a ha q)⟩
  · exact Or.inr ⟨e, fun n q => h2 n (Rn_sym hb hwb n a ha q)⟩
-- ===== one planner =====
def m5 (P : Nat → Nat → Int32) : Nat → Int32 := fun k => P (k / 5) (k % 5)
def m7 (W : Nat → Nat → Int32) : Nat → Int32 := fun k => W (k / 7) (k % 7)
theorem m5_at (P : Nat → Nat → Int32) : ∀ t j, t < 7 → j < 5 → m5 P (5 * t + j) = P t j := fun t j _ hj => by
  show P ((5 * t + j) / 5) ((5 * t + j) % 5) = P t j
  rw [show (5 * t + j) / 5 = t by omega, show (5 * t + j) % 5 = j by omega]
theorem m7_at (W : Nat → Nat → Int32) : ∀ t j, t < 7 → j < 7 → m7 W (7 * t + j) = W t j := fun t j _ hj => by
  show W ((7 * t + j) / 7) ((7 * t + j) % 7) = W t j
  rw [show (7 * t + j) / 7 = t by omega, show (7 * t + j) % 7 = j by omega]
abbrev I1 (w q d : Nat → Int32) (T : Nat → Nat → Int32) (nz nt : Nat) (P : Nat → Nat → Int32) (n : Nat → Int32) (Wi Ti : Nat → Nat → Int32) (zo ke ff fg tk : Nat → Int32) (sq dn : Nat → Nat) (pp wi ti dd : Nat → Nat → Nat) (g gk : Nat → Nat) : Prop := INV w q d T nz nt P n Wi Ti zo ke ff fg tk (m5 P) (m7 Wi) (m7 Ti) zo ke sq dn pp wi ti dd g gk
abbrev V1 (w q d : Nat → Int32) (T : Nat → Nat → Int32) (nz nt : Nat) (P : Nat → Nat → Int32) (n : Nat → Int32) (Wi Ti : Nat → Nat → Int32) (zo ke ff fg tk : Nat → Int32) : Prop := IV w q d T nz nt P n Wi Ti zo ke ff fg tk (m5 P) (m7 Wi) (m7 Ti) zo ke
-- ===== the two =====
def TV (w q : Nat → Int32) (T : Nat → Nat → Int32) (ff fg tk w8 q8 : Nat → Int32) (T8 : Nat → Nat → Int32) (ff8 fg8 tk8 d : Nat → Int32) (nz nt : Nat) (P : Nat → Nat → Int32) (n : Nat → Int32) (Wi Ti : Nat → Nat → Int32) (zo ke : Nat → Int32) : Prop :=
  (∀ s, s < 64 → w8 (tnS s) = w s) ∧ ∃ (sq sq8 dn : Nat → Nat) (pp wi ti dd : Nat → Nat → Nat) (g gk : Nat → Nat), (∀ o, o < nz → sq8 o = tnS (sq o)) ∧ I1 w q d T nz nt P n Wi Ti zo ke ff fg tk sq dn pp wi ti dd g gk ∧ I1 w8 q8 d T8 nz nt P n Wi Ti zo ke ff8 fg8 tk8 sq8 dn pp wi ti dd g gk
section
variable {w q d : Nat → Int32} {T : Nat → Nat → Int32} {nz nt : Nat} {P : Nat → Nat → Int32} {n : Nat → Int32} {Wi Ti : Nat → Nat → Int32} {zo ke ff fg tk : Nat → Int32} {sq sq8 dn : Nat → Nat} {pp wi ti dd : Nat → Nat → Nat} {g gk : Nat → Nat}
variable {w8 q8 ff8 fg8 tk8 : Nat → Int32} {T8 : Nat → Nat → Int32}
def tQ (nz : Nat) (q q8 : Nat → Int32) : Prop := ∀ o s, o < nz → s < 64 → q o = nI s → q8 o = nI (tnS s)
theorem tq_of (hs : ∀ o, o < nz → sq8 o = tnS (sq o)) (hq : ∀ o, o < nz → q o = nI (sq o) ∧ sq o < 64 ∧ w (sq o) = 0) (hq8 : ∀ o, o < nz → q8 o = nI (sq8 o) ∧ sq8 o < 64 ∧ w8 (sq8 o) = 0) : tQ nz q q8 := fun o s ho hs9 e => by
  have h1 : sq o = s := z_eq (by have := (hq o ho).2.1; omega) (by omega) ((hq o ho).1.symm.trans e)
  rw [(hq8 o ho).1, hs o ho, h1]
theorem tv_join (hw : ∀ s, s < 64 → w8 (tnS s) = w s) (hQ : tQ nz q q8) (a : V1 w q d T nz nt P n Wi Ti zo ke ff fg tk) (b : V1 w8 q8 d T8 nz nt P n Wi Ti zo ke ff8 fg8 tk8) : TV w q T ff fg tk w8 q8 T8 ff8 fg8 tk8 d nz nt P n Wi Ti zo ke := by
  obtain ⟨sq, dn, pp, wi, ti, dd, g, gk, I⟩ := a
  obtain ⟨sq8, dn8, pp8, wi8, ti8, dd8, g8, gk8, J⟩ := b
  obtain ⟨hN, hw1, hq, hT, hTd, hdn, hPp, hnn, hwi, hti, hv, hzo, hke, hvg, hvk, hfG, hff, hfg, htk, hpP, hmW, hmT, hmz, hmk⟩ := id I
  obtain ⟨-, hw2, hq2, hT2, -, -, -, -, -, -, -, -, -, -, -, -, hff2, hfg2, htk2, -, -, -, -, -⟩ := J
  have hs : ∀ o, o < nz → sq8 o = tnS (sq o) := fun o ho => z_eq (by have := (hq2 o ho).2.1; omega) (by have := tnS_lt (hq o ho).2.1; omega) ((hq2 o ho).1.symm.trans (hQ o (sq o) ho (hq o ho).2.1 (hq o ho).1))
  have hTT : ∀ u v, u < nz → v < nz → T8 u v = T u v := fun u v hu hv9 => by
    have h1 := isD_turn hw (hq u hu).2.1 (hq v hv9).2.1 (hT u v hu hv9)
    have h2 := hT2 u v hu hv9
    rw [hs u hu, hs v hv9] at h2
    exact isD_inj h2 h1
  exact ⟨hw, sq, sq8, dn, pp, wi, ti, dd, g, gk, hs, I, hN, hw2, hq2, hT2, fun u v hu hv9 => (hTT u v hu hv9).trans (hTd u v hu hv9), hdn, hPp, hnn, hwi, hti, hv, hzo, hke, hvg, hvk, hfG, hff2, hfg2, htk2, hpP, hmW, hmT, hmz, hmk⟩
theorem hasZ_iff {s : Nat} (hs : s < 64) (hq : ∀ o, o < nz → q o = nI (sq o) ∧ sq o < 64 ∧ w (sq o) = 0) : hasZ nz q s ↔ ∃ o, o < nz ∧ sq o = s := by
  unfold hasZ
  rw [anyN_iff]
  constructor
  · rintro ⟨k, h1, h2⟩
    have h3 := of_decide_eq_true h2
    exact ⟨k, h1, z_eq (by have := (hq k h1).2.1; omega) (by omega) ((hq k h1).1.symm.trans h3)⟩
  · rintro ⟨k, h1, h2⟩
    exact ⟨k, h1, by rw [decide_eq_true_eq, (hq k h1).1, h2]⟩
theorem hasZ_turn {s : Nat} (hs : s < 64) (hS : ∀ o, o < nz → sq8 o = tnS (sq o)) (hq : ∀ o, o < nz → q o = nI (sq o) ∧ sq o < 64 ∧ w (sq o) = 0) (hq8 : ∀ o, o < nz → q8 o = nI (sq8 o) ∧ sq8 o < 64 ∧ w8 (sq8 o) = 0) : hasZ nz q8 (tnS s) ↔ hasZ nz q s := by
  rw [hasZ_iff hs hq, hasZ_iff (tnS_lt hs) hq8]
  constructor
  · rintro ⟨o, h1, h2⟩
    exact ⟨o, h1, tnS_inj (hq o h1).2.1 hs ((hS o h1).symm.trans h2)⟩
  · rintro ⟨o, h1, h2⟩
    exact ⟨o, h1, by rw [hS o h1, h2]⟩
theorem sqI_turn {i j : Nat} (hi : i < 8) (hj : j < 8) : sqI (nI (7 - j)) (nI i) = tnS (sqI (nI i) (nI j)) ∧ sqI (nI i) (nI j) < 64 := by
  rw [sqI_nat (by omega) (by omega), sqI_nat (by omega) (by omega), tnS_at hi hj]
  exact ⟨rfl, by omega⟩
theorem two_setWall {i j : Nat} {b v v8 : Int32} {k k8 : Nat} {w2 w28 : Nat → Int32} (hi : i < 8) (hj : j < 8) (hw : ∀ s, s < 64 → w8 (tnS s) = w s) (hS : ∀ o, o < nz → sq8 o = tnS (sq o)) (hq : ∀ o, o < nz → q o = nI (sq o) ∧ sq o < 64 ∧ w (sq o) = 0) (hq8 : ∀ o, o < nz → q8 o = nI (sq8 o) ∧ sq8 o < 64 ∧ w8 (sq8 o) = 0)
    (h1 : sSetWall nz q w (nI i) (nI j) b k v w2) (h2 : sSetWall nz q8 w8 (nI (7 - j)) (nI i) b k8 v8 w28) : k8 = k ∧ (k = 0 → v = v8) ∧ ∀ s, s < 64 → w28 (tnS s) = w2 s := by
  have e1 : inSq (nI i) (nI j) := (inSq_iff (by omega) (by omega)).mpr ⟨hi, hj⟩
  have e2 : inSq (nI (7 - j)) (nI i) := (inSq_iff (by omega) (by omega)).mpr ⟨by omega, hi⟩
  obtain ⟨e3, e4⟩ := sqI_turn hi hj
  have e5 := hasZ_turn e4 hS hq hq8
  unfold sSetWall at h1 h2
  rw [e3, e5] at h2
  rcases h1 with ⟨a, _⟩ | ⟨_, a, a2, a3⟩ | ⟨_, a, a2, a3, a4⟩
  · exact absurd e1 a
  · rcases h2 with ⟨c, _⟩ | ⟨_, c, c2, c3⟩ | ⟨_, c, _⟩
    · exact absurd e2 c
    · subst a3; subst c3
      exact ⟨by omega, fun q => by omega, hw⟩
    · exact absurd a c
  · rcases h2 with ⟨c, _⟩ | ⟨_, c, _⟩ | ⟨_, c, c2, c3, c4⟩
    · exact absurd e2 c
    · exact absurd c a
    · subst a4; subst c4
      refine ⟨by omega, fun _ => by rw [a3, c3, hw _ e4], fun s hs => ?_⟩
      by_cases e : s = sqI (nI i) (nI j)
      · rw [e, pk_us, pk_us]
      · rw [pk_un e, pk_un (fun q9 => e (tnS_inj hs e4 q9))]
        exact hw s hs
theorem two_addZone {i j : Nat} {m v v8 : Int32} {k k8 nz2 nz28 : Nat} {q2 d2 q28 d28 : Nat → Int32} (hi : i < 8) (hj : j < 8) (hw : ∀ s, s < 64 → w8 (tnS s) = w s) (hS : ∀ o, o < nz → sq8 o = tnS (sq o)) (hq : ∀ o, o < nz → q o = nI (sq o) ∧ sq o < 64 ∧ w (sq o) = 0) (hq8 : ∀ o, o < nz → q8 o = nI (sq8 o) ∧ sq8 o < 64 ∧ w8 (sq8 o) = 0)
    (h1 : sAddZone nz q d w (nI i) (nI j) m k v nz2 q2 d2) (h2 : sAddZone nz q8 d w8 (nI (7 - j)) (nI i) m k8 v8 nz28 q28 d28) : k8 = k ∧ (k = 0 → v = v8) ∧ nz28 = nz2 ∧ d28 = d2 ∧ tQ nz2 q2 q28 := by
  have e1 : inSq (nI i) (nI j) := (inSq_iff (by omega) (by omega)).mpr ⟨hi, hj⟩
  have e2 : inSq (nI (7 - j)) (nI i) := (inSq_iff (by omega) (by omega)).mpr ⟨by omega, hi⟩
  obtain ⟨e3, e4⟩ := sqI_turn hi hj
  have e5 := hasZ_turn e4 hS hq hq8
  have hQ := tq_of hS hq hq8
  unfold sAddZone at h1 h2
  rw [e3, e5, hw _ e4] at h2
  rcases h1 with ⟨a, _⟩ | ⟨_, a, a2, a3, a4, a5⟩ | ⟨_, a0, a, a2, a3, a4, a5⟩ | ⟨_, a0, a, a2, a3, a4, a5, a6⟩
  · exact absurd e1 a
  · rcases h2 with ⟨c, _⟩ | ⟨_, c, c2, c3, c4, c5⟩ | ⟨_, c0, _⟩ | ⟨_, c0, _⟩
    · exact absurd e2 c
    · subst a3; subst a4; subst a5; subst c3; subst c4; subst c5
      exact ⟨by omega, fun q => by omega, rfl, rfl, hQ⟩
    · exact absurd c0 a
    · exact absurd c0 a
  · rcases h2 with ⟨c, _⟩ | ⟨_, c, _⟩ | ⟨_, c0, c, c2, c3, c4, c5⟩ | ⟨_, c0, c, _⟩
    · exact absurd e2 c
    · exact absurd a0 c
    · subst a3; subst a4; subst a5; subst c3; subst c4; subst c5
      exact ⟨by omega, fun q => by omega, rfl, rfl, hQ⟩
    · exact absurd a c
  · rcases h2 with ⟨c, _⟩ | ⟨_, c, _⟩ | ⟨_, c0, c, _⟩ | ⟨_, c0, c, c2, c3, c4, c5, c6⟩
    · exact absurd e2 c
    · exact absurd a0 c
    · exact absurd c a
    · subst a4; subst a5; subst a6; subst c4; subst c5; subst c6
      refine ⟨by omega, fun _ => by rw [a3, c3], rfl, rfl, fun o s ho hs e => ?_⟩
      by_cases e9 : o = nz
      · rw [e9, pk_us] at e
        rw [e9, pk_us, z_eq (by omega) (by omega) e]
      · rw [pk_un e9] at e
        rw [pk_un e9]
        exact hQ o s (by omega) hs e
theorem sPlace_zo {t z : Int32} {k : Nat} {v : Int32} {zo2 : Nat → Int32} (h : sPlace nt nz zo n d t z k v zo2) : zo2 = if k = 0 then upd zo t.toNatClampNeg z else zo := by
  rcases h with ⟨_, ek, e⟩ | ⟨_, _, ek, e⟩ | ⟨_, _, ek, _, e⟩
  · rw [ek, if_neg (by omega)]; exact e
  · rw [ek, if_neg (by omega)]; exact e
  · rw [ek, if_pos rfl]; exact e
theorem sAddTeam_zo {k nt2 : Nat} {v : Int32} {P2 : Nat → Nat → Int32} {n2 : Nat → Int32} (hzo : pOK 7 zo g) (hvg : vG nz nt g) (h : sAddTeam nt P n k v nt2 P2 n2) : zo = if k = 0 then upd zo nt (-1 : Int32) else zo := by
  rcases h with ⟨_, ek, _⟩ | ⟨h1, ek, _⟩
  · rw [ek, if_neg (by omega)]
  · rw [ek, if_pos rfl]
    exact (upd_id (by rw [hzo nt (by omega), vG_out hvg nt (Nat.le_refl _) (by omega)]; rfl)).symm
theorem sBest_k2 {wb : Bool} {k : Nat} {v : Int32} {b : Nat → Int32} (h : sBest wb nt nz n d wi ti dd k v b) : k = 0 ∨ k = 1 := by
  obtain ⟨kc, b0, hS, hk⟩ := h
  omega
theorem v1_best {wb : Bool} {k : Nat} {v : Int32} {zo2 ff2 fg2 : Nat → Int32} (I : I1 w q d T nz nt P n Wi Ti zo ke ff fg tk sq dn pp wi ti dd g gk) (hs : sBest wb nt nz n d wi ti dd k v zo2) (hkz : k = 1 → zo2 = zo) (hz2 : ∀ u, nt ≤ u → u < 7 → zo2 u = -1) (hf2 : ∀ u, nt ≤ u → u < 7 → ff2 u = -1) (hg2 : ∀ u, nt ≤ u → u < 7 → fg2 u = -1) : V1 w q d T nz nt P n Wi Ti zo2 ke ff2 fg2 tk :=
  (iv_best I hs hs hkz hz2 hf2 hg2 (mzo2 := zo2) (fun t _ => by
    rcases sBest_k2 hs with e | e
    · rw [if_pos e]
    · rw [if_neg (by omega), hkz e])).2.2
theorem v1_remember (I : I1 w q d T nz nt P n Wi Ti zo ke ff fg tk sq dn pp wi ti dd g gk) : V1 w q d T nz nt P n Wi Ti zo zo ff fg tk := by
  obtain ⟨hN, hw, hq, hT, hTd, hdn, hPp, hnn, hwi, hti, hv, hzo, hke, hvg, hvk, hfG, hff, hfg, htk, hpP, hmW, hmT, hmz, hmk⟩ := I
  exact ⟨sq, dn, pp, wi, ti, dd, g, g, hN, hw, hq, hT, hTd, hdn, hPp, hnn, hwi, hti, hv, hzo, hzo, hvg, hvg, hfG, hff, hfg, htk, hpP, hmW, hmT, hmz, hzo⟩
theorem pOK_le {m : Nat} {F : Nat → Int32} (h : pOK 7 F g) (hm : m ≤ 7) : pOK m F g := fun t ht => h t (by omega)
theorem pOK_same {F G : Nat → Int32} (h : pOK 7 F g) (h2 : pOK 7 G g) : ∀ j, j < 7 → F j = G j := fun j hj => (h j hj).trans (h2 j hj).symm
theorem best_same {wb : Bool} {k k8 : Nat} {v v8 : Int32} {b b8 : Nat → Int32} (hv : vOK nz wi ti dd) (hnt : nt ≤ 7) (hnz : nz ≤ 7) (h1 : sBest wb nt nz n d wi ti dd k v b) (h2 : sBest wb nt nz n d wi ti dd k8 v8 b8) (hk : k = 1 → b = zo) (hk8 : k8 = 1 → b8 = zo) (hz : ∀ u, nt ≤ u → u < 7 → b u = -1) (hz8 : ∀ u, nt ≤ u → u < 7 → b8 u = -1) : k8 = k ∧ (k = 0 → v = v8) ∧ ∀ j, j < 7 → b8 j = b j := by
  obtain ⟨e1, e2, e3⟩ := sBest_fn hv hnt hnz h1 h2
  refine ⟨e1, e2, fun j hj => ?_⟩
  rcases e3 with e3 | ⟨_, h, _, h4, h5⟩
  · rw [hk e3, hk8 (by omega)]
  · by_cases q9 : j < nt
    · rw [h4 j q9, h5 j q9]
    · rw [hz j (by omega) hj, hz8 j (by omega) hj]
theorem dist_same {u v : Nat} (hw : ∀ s, s < 64 → w8 (tnS s) = w s) (hS : ∀ o, o < nz → sq8 o = tnS (sq o)) (hq : ∀ o, o < nz → q o = nI (sq o) ∧ sq o < 64 ∧ w (sq o) = 0) (hq8 : ∀ o, o < nz → q8 o = nI (sq8 o) ∧ sq8 o < 64 ∧ w8 (sq8 o) = 0) (hT : ∀ u v, u < nz → v < nz → isD w (sq u) (sq v) (T u v)) (hT8 : ∀ u v, u < nz → v < nz → isD w8 (sq8 u) (sq8 v) (T8 u v)) (hu : u < nz) (hv : v < nz) : T u v = T8 v u := by
  have h1 := isD_turn hw (hq u hu).2.1 (hq v hv).2.1 (hT u v hu hv)
  rw [← hS u hu, ← hS v hv] at h1
  exact isD_inj h1 (isD_sym (hq8 v hv).2.1 (hq8 u hu).2.1 (hq8 v hv).2.2 (hq8 u hu).2.2 (hT8 v u hv hu))
theorem sDist_same {u v : Nat} {k k8 : Nat} {x x8 : Int32} (hnz : nz ≤ 7) (hu : u < nz) (hv : v < nz) (he : T u v = T8 v u) (h1 : sDist nz T (nI u) (nI v) k x) (h2 : sDist nz T8 (nI v) (nI u) k8 x8) : k8 = k ∧ (k = 0 → x = x8) := by
  have hn : inN (nI u) nz ∧ inN (nI v) nz := ⟨⟨u, hu, rfl⟩, ⟨v, hv, rfl⟩⟩
  unfold sDist at h1 h2
  rw [nIc (show u < 2 ^ 31 by omega), nIc (show v < 2 ^ 31 by omega)] at h1 h2
  rcases h1 with ⟨a, _⟩ | ⟨_, a, a2⟩
  · exact absurd hn a
  · rcases h2 with ⟨c, _⟩ | ⟨_, c, c2⟩
    · exact absurd hn.symm c
    · exact ⟨by omega, fun _ => by rw [a2, c2, he]⟩
/-- what the law's own methods answer: the class's answer, -70 where it throws -/
def an (k : Nat) (v : Int32) : Int32 := if k = 0 then v else -70
def anB (k : Nat) (v : Int32) : Int32 := if k = 0 then (if v = 0 then nI 0 else nI 1) else -70
theorem an_eq {k k8 : Nat} {v v8 : Int32} (h : k8 = k) (h2 : k = 0 → v = v8) : an k v = an k8 v8 := by
  unfold an
  rw [h]
  by_cases e : k = 0
  · rw [if_pos e, if_pos e, h2 e]
  · rw [if_neg e, if_neg e]
theorem anB_eq {k k8 : Nat} {v v8 : Int32} (h : k8 = k) (h2 : k = 0 → v = v8) : anB k v = anB k8 v8 := by
  unfold anB
  rw [h]
  by_cases e : k = 0
  · rw [if_pos e, if_pos e, h2 e]
  · rw [if_neg e, if_neg e]
end
theorem nx_ex {zo ke : Nat → Int32} : ∃ nx : Nat → Nat, ∀ t, t < 7 → tAt zo (ke t) = zI (nx t) ∧ nx t ≤ 7 := by
  have h : ∀ t, ∃ x, tAt zo (ke t) = zI x ∧ x ≤ 7 := fun t => by
    by_cases e : tAt zo (ke t) = -1
    · exact ⟨7, e.trans (zI_7 (by omega)).symm, by omega⟩
    · obtain ⟨x, h1, h2, -⟩ := tAt_some e
      exact ⟨x, h2.trans (zI_lt h1).symm, by omega⟩
  exact ⟨fun t => Classical.choose (h t), fun t _ => Classical.choose_spec (h t)⟩
end
