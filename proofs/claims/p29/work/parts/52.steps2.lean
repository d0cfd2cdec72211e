section
variable {w q d : Nat → Int32} {T : Nat → Nat → Int32} {nz nt : Nat} {P : Nat → Nat → Int32} {n : Nat → Int32} {Wi Ti : Nat → Nat → Int32} {zo ke ff fg tk mpr mwi mti mzo mke : Nat → Int32} {sq dn : Nat → Nat} {pp wi ti dd : Nat → Nat → Nat} {g gk : Nat → Nat}
theorem fG_aP (h : aP nz nt (fun t9 z9 => n t9 ≤ d z9) g) : fG nt n d g := fun t ht _ => (h.1.1 t ht).2
theorem upd_01 {b : Int32} {s : Nat} (hb : b = 0 ∨ b = 1) (hw : ∀ k, k < 64 → w k = 0 ∨ w k = 1) : ∀ k, k < 64 → upd w s b k = 0 ∨ upd w s b k = 1 := fun k hk => by
  by_cases e : k = s
  · rw [e, pk_us]; exact hb
  · rw [pk_un e]; exact hw k hk
theorem iv_setWall {co ro b : Int32} {k : Nat} {v : Int32} {w2 : Nat → Int32} {T2 : Nat → Nat → Int32} (I : INV w q d T nz nt P n Wi Ti zo ke ff fg tk mpr mwi mti mzo mke sq dn pp wi ti dd g gk) (hb : b = 0 ∨ b = 1) (hs : sSetWall nz q w co ro b k v w2) (hT2 : ∀ u v, u < nz → v < nz → isD w2 (sq u) (sq v) (T2 u v)) : IV w2 q d T2 nz nt P n Wi Ti zo ke ff fg tk mpr mwi mti mzo mke := by
  obtain ⟨hN, hw, hq, hT, hTd, hdn, hPp, hnn, hwi, hti, hv, hzo, hke, hvg, hvk, hfG, hff, hfg, htk, hpP, hmW, hmT, hmz, hmk⟩ := I
  obtain ⟨d2, hd1, hd2⟩ := dd_of hT2
  have hw2 : (∀ k, k < 64 → w2 k = 0 ∨ w2 k = 1) ∧ ∀ o, o < nz → w2 (sq o) = 0 := by
    rcases hs with ⟨_, _, e⟩ | ⟨_, _, _, e⟩ | ⟨_, h2, _, _, e⟩
    · rw [e]; exact ⟨hw, fun o ho => (hq o ho).2.2⟩
    · rw [e]; exact ⟨hw, fun o ho => (hq o ho).2.2⟩
    · rw [e]
      exact ⟨upd_01 hb hw, fun o ho => by rw [pk_un (hasZ_not h2 (fun o ho => (hq o ho).1) o ho)]; exact (hq o ho).2.2⟩
  exact ⟨sq, dn, pp, wi, ti, d2, g, gk, hN, hw2.1, fun o ho => ⟨(hq o ho).1, (hq o ho).2.1, hw2.2 o ho⟩, hT2, hd1, hdn, hPp, hnn, hwi, hti, ⟨hv.1, hv.2.1, hd2⟩, hzo, hke, hvg, hvk, hfG, hff, hfg, htk, hpP, hmW, hmT, hmz, hmk⟩
theorem vG_nz (h : vG nz nt g) : vG (nz + 1) nt g := ⟨fun t => by rcases h.1 t with q | q <;> omega, h.2⟩
theorem iv_addZone {co ro m : Int32} {k : Nat} {v : Int32} {nz2 : Nat} {q2 d2 : Nat → Int32} {T2 : Nat → Nat → Int32} (I : INV w q d T nz nt P n Wi Ti zo ke ff fg tk mpr mwi mti mzo mke sq dn pp wi ti dd g gk) (hs : sAddZone nz q d w co ro m k v nz2 q2 d2) (hT2 : ∀ u v, u < nz2 → v < nz2 → isD w (updN sq nz (sqI co ro) u) (updN sq nz (sqI co ro) v) (T2 u v)) : IV w q2 d2 T2 nz2 nt P n Wi Ti zo ke ff fg tk mpr mwi mti mzo mke := by
  obtain ⟨hN, hw, hq, hT, hTd, hdn, hPp, hnn, hwi, hti, hv, hzo, hke, hvg, hvk, hfG, hff, hfg, htk, hpP, hmW, hmT, hmz, hmk⟩ := I
  have hold : nz2 = nz → q2 = q → d2 = d → IV w q2 d2 T2 nz2 nt P n Wi Ti zo ke ff fg tk mpr mwi mti mzo mke := fun e1 e2 e3 => by
    subst e1; subst e2; subst e3
    have hT3 : ∀ u v, u < nz2 → v < nz2 → isD w (sq u) (sq v) (T2 u v) := fun u v hu hv => by
      have := hT2 u v hu hv
      rw [updN_n _ _ (by omega), updN_n _ _ (by omega)] at this
      exact this
    obtain ⟨dd2, hd1, hd2⟩ := dd_of hT3
    exact ⟨sq, dn, pp, wi, ti, dd2, g, gk, hN, hw, hq, hT3, hd1, hdn, hPp, hnn, hwi, hti, ⟨hv.1, hv.2.1, hd2⟩, hzo, hke, hvg, hvk, hfG, hff, hfg, htk, hpP, hmW, hmT, hmz, hmk⟩
  rcases hs with ⟨_, _, e1, e2, e3⟩ | ⟨_, _, _, e1, e2, e3⟩ | ⟨_, _, _, _, e1, e2, e3⟩ | ⟨h1, ⟨m0, _, hm, em⟩, h3, _, _, e1, e2, e3⟩
  · exact hold e1 e2 e3
  · exact hold e1 e2 e3
  · exact hold e1 e2 e3
  · have hnz : nz < 7 := Nat.lt_of_not_le fun q9 => h3 (Or.inl q9)
    have hws : w (sqI co ro) = 0 := Classical.byContradiction fun q9 => h3 (Or.inr (Or.inl q9))
    obtain ⟨i0, j0, hi, hj, rfl, rfl⟩ := inSq_nat h1
    have hsq : sqI (nI i0) (nI j0) < 64 := by rw [sqI_nat (by omega) (by omega)]; omega
    obtain ⟨dd2, hd1, hd2⟩ := dd_of hT2
    subst e1; subst e2; subst e3
    refine ⟨updN sq nz (sqI (nI i0) (nI j0)), updN dn nz m0, pp, wi, ti, dd2, g, gk, ⟨by omega, hN.2⟩, hw, fun o ho => ?_, hT2, hd1, fun o ho => ?_, hPp, hnn, hwi, hti, ⟨hv.1, hv.2.1, hd2⟩, hzo, hke, vG_nz hvg, vG_nz hvk, fun t ht h7 => ?_, hff, hfg, htk, hpP, hmW, hmT, hmz, hmk⟩
    · by_cases e : o = nz
      · rw [e, pk_us, updN_s]; exact ⟨rfl, hsq, hws⟩
      · rw [pk_un e, updN_n _ _ e]; exact hq o (by omega)
    · by_cases e : o = nz
      · rw [e, pk_us, updN_s]; exact ⟨em, hm⟩
      · rw [pk_un e, updN_n _ _ e]; exact hdn o (by omega)
    · rw [pk_un (show g t ≠ nz by rcases hvg.1 t with q9 | q9 <;> omega)]
      exact hfG t ht h7
theorem iv_setDesks {z m : Int32} {k : Nat} {v : Int32} {d2 : Nat → Int32} (I : INV w q d T nz nt P n Wi Ti zo ke ff fg tk mpr mwi mti mzo mke sq dn pp wi ti dd g gk) (hs : sSetDesks nz d zo n z m k v d2) : IV w q d2 T nz nt P n Wi Ti zo ke ff fg tk mpr mwi mti mzo mke := by
  obtain ⟨hN, hw, hq, hT, hTd, hdn, hPp, hnn, hwi, hti, hv, hzo, hke, hvg, hvk, hfG, hff, hfg, htk, hpP, hmW, hmT, hmz, hmk⟩ := I
  have hold : d2 = d → IV w q d2 T nz nt P n Wi Ti zo ke ff fg tk mpr mwi mti mzo mke := fun e => by
    rw [e]
    exact ⟨sq, dn, pp, wi, ti, dd, g, gk, hN, hw, hq, hT, hTd, hdn, hPp, hnn, hwi, hti, hv, hzo, hke, hvg, hvk, hfG, hff, hfg, htk, hpP, hmW, hmT, hmz, hmk⟩
  rcases hs with ⟨_, _, e⟩ | ⟨_, _, _, e⟩ | ⟨_, _, _, _, e⟩ | ⟨⟨zz, hz, ez⟩, ⟨m0, _, hm, em⟩, h3, _, _, e⟩
  · exact hold e
  · exact hold e
  · exact hold e
  · subst ez; subst em
    rw [nIc (by omega)] at e
    rw [e]
    refine ⟨sq, updN dn zz m0, pp, wi, ti, dd, g, gk, hN, hw, hq, hT, hTd, fun o ho => ?_, hPp, hnn, hwi, hti, hv, hzo, hke, hvg, hvk, fun t ht h7 => ?_, hff, hfg, htk, hpP, hmW, hmT, hmz, hmk⟩
    · by_cases e2 : o = zz
      · rw [e2, pk_us, updN_s]; exact ⟨rfl, hm⟩
      · rw [pk_un e2, updN_n _ _ e2]; exact hdn o ho
    · by_cases e2 : g t = zz
      · rw [e2, pk_us]
        have h5 := tAt_only hzo hvg hN.1 (show zz < 7 by omega) (show t < 7 by omega) e2
        exact Int32.not_lt.mp fun q9 => h3 ⟨t, by omega, h5, q9⟩
      · rw [pk_un e2]; exact hfG t ht h7
theorem nd1 : ndN (fun _ => 1) = 1 := by decide
theorem iv_addTeam {k : Nat} {v : Int32} {nt2 : Nat} {P2 : Nat → Nat → Int32} {n2 mpr2 mzo2 : Nat → Int32} (I : INV w q d T nz nt P n Wi Ti zo ke ff fg tk mpr mwi mti mzo mke sq dn pp wi ti dd g gk) (hs : sAddTeam nt P n k v nt2 P2 n2) (hp2 : ∀ t j, t < 7 → j < 5 → mpr2 (5 * t + j) = P2 t j) (hz2 : mzo2 = if k = 0 then upd mzo nt (-1 : Int32) else mzo) : IV w q d T nz nt2 P2 n2 Wi Ti zo ke ff fg tk mpr2 mwi mti mzo2 mke := by
  obtain ⟨hN, hw, hq, hT, hTd, hdn, hPp, hnn, hwi, hti, hv, hzo, hke, hvg, hvk, hfG, hff, hfg, htk, hpP, hmW, hmT, hmz, hmk⟩ := I
  rcases hs with ⟨_, ek, e1, e2, e3⟩ | ⟨h1, ek, _, e1, e2, e3⟩
  · rw [ek, if_neg (by omega)] at hz2
    subst e1; subst e2; subst e3; subst hz2
    exact ⟨sq, dn, pp, wi, ti, dd, g, gk, hN, hw, hq, hT, hTd, hdn, hPp, hnn, hwi, hti, hv, hzo, hke, hvg, hvk, hfG, hff, hfg, htk, hp2, hmW, hmT, hmz, hmk⟩
  · rw [ek, if_pos rfl] at hz2
    subst e1; subst e2; subst e3; subst hz2
    have hg7 : g nt = 7 := by rcases hvg.1 nt with q9 | q9 <;> omega
    have vs : ∀ {h : Nat → Nat}, vG nz nt h → vG nz (nt + 1) h := fun {h} q9 => ⟨fun t => by rcases q9.1 t with a | a <;> omega, q9.2⟩
    refine ⟨sq, dn, fun t => if t = nt then fun _ => 1 else pp t, wi, ti, dd, g, gk, ⟨hN.1, by omega⟩, hw, hq, hT, hTd, hdn, fun t ht j hj => ?_, fun t ht => ?_, hwi, hti, hv, hzo, hke, vs hvg, vs hvk, fun t ht h7 => ?_, fun u h1 h2 => hff u (by omega) h2, fun u h1 h2 => hfg u (by omega) h2, htk, hp2, hmW, hmT, fun t ht => ?_, hmk⟩
    · by_cases e : t = nt
      · simp only [ub, if_pos e]
        exact ⟨trivial, by omega⟩
      · simp only [ub, if_neg e]
        exact hPp t (by omega) j hj
    · by_cases e : t = nt
      · simp only [if_pos e]
        rw [e, pk_us, nd1]
      · simp only [if_neg e]
        rw [pk_un e]; exact hnn t (by omega)
    · by_cases e : t = nt
      · rw [e, hg7] at h7; omega
      · rw [pk_un e]; exact hfG t (by omega) h7
    · by_cases e : t = nt
      · rw [e, pk_us, hg7]; rfl
      · rw [pk_un e]; exact hmz t (by omega)
theorem iv_setPresent {t j m : Int32} {k : Nat} {v : Int32} {P2 : Nat → Nat → Int32} {n2 mpr2 : Nat → Int32} (I : INV w q d T nz nt P n Wi Ti zo ke ff fg tk mpr mwi mti mzo mke sq dn pp wi ti dd g gk) (hs : sSetPresent nt P n d zo t j m k v P2 n2) (hp2 : ∀ t j, t < 7 → j < 5 → mpr2 (5 * t + j) = P2 t j) : IV w q d T nz nt P2 n2 Wi Ti zo ke ff fg tk mpr2 mwi mti mzo mke := by
  obtain ⟨hN, hw, hq, hT, hTd, hdn, hPp, hnn, hwi, hti, hv, hzo, hke, hvg, hvk, hfG, hff, hfg, htk, hpP, hmW, hmT, hmz, hmk⟩ := I
  have hold : P2 = P → n2 = n → IV w q d T nz nt P2 n2 Wi Ti zo ke ff fg tk mpr2 mwi mti mzo mke := fun e e2 => by
    subst e; subst e2
    exact ⟨sq, dn, pp, wi, ti, dd, g, gk, hN, hw, hq, hT, hTd, hdn, hPp, hnn, hwi, hti, hv, hzo, hke, hvg, hvk, hfG, hff, hfg, htk, hp2, hmW, hmT, hmz, hmk⟩
  rcases hs with ⟨_, _, e, e2⟩ | ⟨_, _, _, e, e2⟩ | ⟨_, _, _, _, e, e2⟩ | ⟨⟨⟨tt, ht, et⟩, ⟨jj, hj, ej⟩⟩, ⟨m0, _, hm, em⟩, h3, _, _, e, e2⟩
  · exact hold e e2
  · exact hold e e2
  · exact hold e e2
  · subst et; subst ej; subst em
    rw [nIc (by omega), nIc (by omega)] at h3 e e2
    subst e; subst e2
    have hmx := mxN_ndN (f := P tt) (p := pp tt) hj hm (hPp tt ht)
    refine ⟨sq, dn, fun a => if a = tt then updN (pp tt) jj m0 else pp a, wi, ti, dd, g, gk, hN, hw, hq, hT, hTd, hdn, fun a ha b hb => ?_, fun a ha => ?_, hwi, hti, hv, hzo, hke, hvg, hvk, fun a ha h7 => ?_, hff, hfg, htk, hp2, hmW, hmT, hmz, hmk⟩
    · by_cases e : a = tt
      · subst e
        simp only [u2, if_pos]
        by_cases e2 : b = jj
        · rw [e2, pk_us, updN_s]; exact ⟨rfl, hm⟩
        · rw [pk_un e2, updN_n _ _ e2]; exact hPp a ha b hb
      · simp only [u2, if_neg e]
        exact hPp a ha b hb
    · by_cases e : a = tt
      · simp only [if_pos e]
        rw [e, pk_us, hmx]
      · simp only [if_neg e]
        rw [pk_un e]; exact hnn a ha
    · by_cases e : a = tt
      · subst e
        rw [pk_us]
        exact Int32.not_lt.mp fun q9 => h3 ⟨g a, h7, by rw [hzo a (by omega), zI_lt h7], q9⟩
      · rw [pk_un e]; exact hfG a ha h7
theorem rOK_u2 {F : Nat → Nat → Int32} {f : Nat → Nat → Nat} {a b m : Nat} (h : rOK 7 7 F f) : rOK 7 7 (u2 F a b (nI m)) (fun x y => if x = a ∧ y = b then m else f x y) := fun x y hx hy => by
  by_cases e : x = a
  · subst e
    by_cases e2 : y = b
    · subst e2
      simp [u2, upd]
    · have h1 : (if x = x ∧ y = b then m else f x y) = f x y := if_neg (fun q9 => e2 q9.2)
      show u2 F x b (nI m) x y = nI (if x = x ∧ y = b then m else f x y)
      rw [h1]
      simp only [u2, if_true, pk_un e2]
      exact h x y hx hy
  · simp only [u2, if_neg e, if_neg (fun q9 : x = a ∧ y = b => e q9.1)]
    exact h x y hx hy
theorem iv_setWish {t z m : Int32} {k : Nat} {v : Int32} {W2 : Nat → Nat → Int32} {mw2 : Nat → Int32} (I : INV w q d T nz nt P n Wi Ti zo ke ff fg tk mpr mwi mti mzo mke sq dn pp wi ti dd g gk) (hs : sSetWish nt nz Wi t z m k v W2) (hm2 : ∀ t j, t < 7 → j < 7 → mw2 (7 * t + j) = W2 t j) : IV w q d T nz nt P n W2 Ti zo ke ff fg tk mpr mw2 mti mzo mke := by
  obtain ⟨hN, hw, hq, hT, hTd, hdn, hPp, hnn, hwi, hti, hv, hzo, hke, hvg, hvk, hfG, hff, hfg, htk, hpP, hmW, hmT, hmz, hmk⟩ := I
  rcases hs with ⟨_, _, e⟩ | ⟨_, _, _, e⟩ | ⟨⟨⟨tt, ht, et⟩, ⟨zz, hz, ez⟩⟩, ⟨m0, _, hm, em⟩, _, _, e⟩
  · subst e
    exact ⟨sq, dn, pp, wi, ti, dd, g, gk, hN, hw, hq, hT, hTd, hdn, hPp, hnn, hwi, hti, hv, hzo, hke, hvg, hvk, hfG, hff, hfg, htk, hpP, hm2, hmT, hmz, hmk⟩
  · subst e
    exact ⟨sq, dn, pp, wi, ti, dd, g, gk, hN, hw, hq, hT, hTd, hdn, hPp, hnn, hwi, hti, hv, hzo, hke, hvg, hvk, hfG, hff, hfg, htk, hpP, hm2, hmT, hmz, hmk⟩
  · subst et; subst ez; subst em
    rw [nIc (by omega), nIc (by omega)] at e
    subst e
    refine ⟨sq, dn, pp, _, ti, dd, g, gk, hN, hw, hq, hT, hTd, hdn, hPp, hnn, rOK_u2 hwi, hti, ⟨fun a b ha hb => ?_, hv.2⟩, hzo, hke, hvg, hvk, hfG, hff, hfg, htk, hpP, hm2, hmT, hmz, hmk⟩
    show (if a = tt ∧ b = zz then m0 else wi a b) ≤ 99
    split
    · exact hm
    · exact hv.1 a b ha hb
theorem iv_setTie {t z m : Int32} {k : Nat} {v : Int32} {W2 : Nat → Nat → Int32} {mw2 : Nat → Int32} (I : INV w q d T nz nt P n Wi Ti zo ke ff fg tk mpr mwi mti mzo mke sq dn pp wi ti dd g gk) (hs : sSetTie nt Ti t z m k v W2) (hm2 : ∀ t j, t < 7 → j < 7 → mw2 (7 * t + j) = W2 t j) : IV w q d T nz nt P n Wi W2 zo ke ff fg tk mpr mwi mw2 mzo mke := by
  obtain ⟨hN, hw, hq, hT, hTd, hdn, hPp, hnn, hwi, hti, hv, hzo, hke, hvg, hvk, hfG, hff, hfg, htk, hpP, hmW, hmT, hmz, hmk⟩ := I
  rcases hs with ⟨_, _, e⟩ | ⟨_, _, _, e⟩ | ⟨⟨⟨tt, ht, et⟩, ⟨zz, hz, ez⟩⟩, ⟨⟨m0, _, hm, em⟩, _⟩, _, _, e⟩
  · subst e
    exact ⟨sq, dn, pp, wi, ti, dd, g, gk, hN, hw, hq, hT, hTd, hdn, hPp, hnn, hwi, hti, hv, hzo, hke, hvg, hvk, hfG, hff, hfg, htk, hpP, hmW, hm2, hmz, hmk⟩
  · subst e
    exact ⟨sq, dn, pp, wi, ti, dd, g, gk, hN, hw, hq, hT, hTd, hdn, hPp, hnn, hwi, hti, hv, hzo, hke, hvg, hvk, hfG, hff, hfg, htk, hpP, hmW, hm2, hmz, hmk⟩
  · subst et; subst ez; subst em
    rw [nIc (by omega), nIc (by omega)] at e
    subst e
    refine ⟨sq, dn, pp, wi, _, dd, g, gk, hN, hw, hq, hT, hTd, hdn, hPp, hnn, hwi, rOK_u2 (rOK_u2 hti), ⟨hv.1, fun a b ha hb => ?_, hv.2.2⟩, hzo, hke, hvg, hvk, hfG, hff, hfg, htk, hpP, hmW, hm2, hmz, hmk⟩
    show (if a = zz ∧ b = tt then m0 else if a = tt ∧ b = zz then m0 else ti a b) ≤ 9
    split
    · exact hm
    · split
      · exact hm
      · exact hv.2.1 a b ha hb
theorem iv_place {t z : Int32} {k : Nat} {v : Int32} {zo2 mzo2 : Nat → Int32} (I : INV w q d T nz nt P n Wi Ti zo ke ff fg tk mpr mwi mti mzo mke sq dn pp wi ti dd g gk) (hs : sPlace nt nz zo n d t z k v zo2) (hz2 : mzo2 = if k = 0 then upd mzo t.toNatClampNeg z else mzo) : IV w q d T nz nt P n Wi Ti zo2 ke ff fg tk mpr mwi mti mzo2 mke := by
  obtain ⟨hN, hw, hq, hT, hTd, hdn, hPp, hnn, hwi, hti, hv, hzo, hke, hvg, hvk, hfG, hff, hfg, htk, hpP, hmW, hmT, hmz, hmk⟩ := I
  rcases hs with ⟨_, ek, e⟩ | ⟨_, _, ek, e⟩ | ⟨⟨⟨tt, ht, et⟩, h1⟩, h2, ek, _, e⟩
  · rw [ek, if_neg (by omega)] at hz2
    subst e; subst hz2
    exact ⟨sq, dn, pp, wi, ti, dd, g, gk, hN, hw, hq, hT, hTd, hdn, hPp, hnn, hwi, hti, hv, hzo, hke, hvg, hvk, hfG, hff, hfg, htk, hpP, hmW, hmT, hmz, hmk⟩
  · rw [ek, if_neg (by omega)] at hz2
    subst e; subst hz2
    exact ⟨sq, dn, pp, wi, ti, dd, g, gk, hN, hw, hq, hT, hTd, hdn, hPp, hnn, hwi, hti, hv, hzo, hke, hvg, hvk, hfG, hff, hfg, htk, hpP, hmW, hmT, hmz, hmk⟩
  · subst et
    rw [ek, if_pos rfl, nIc (by omega)] at hz2
    rw [nIc (by omega)] at e h2
    subst e; subst hz2
    -- the zone as a number, 7 for none
    have key : ∃ x, z = zI x ∧ (x < nz ∨ x = 7) ∧ (x < 7 → n tt ≤ d x) ∧ (x < 7 → ∀ s, s ≠ tt → g s ≠ x) := by
      rcases h1 with h1 | ⟨zz, hz, ez⟩
      · exact ⟨7, h1, Or.inr rfl, fun q9 => by omega, fun q9 => by omega⟩
      · subst ez
        refine ⟨zz, (zI_lt (by omega)).symm, Or.inl hz, fun _ => ?_, fun _ s hs e => ?_⟩
        · rcases h2 with h2 | ⟨-, h2⟩
          · exact absurd h2 (z_m1 (by omega))
          · rw [nIc (by omega)] at h2; exact h2
        · have hst : s < nt := by rcases hvg.1 s with q9 | q9 <;> omega
          have h5 := tAt_only hzo hvg hN.1 (show zz < 7 by omega) (show s < 7 by omega) e
          rcases h2 with h2 | ⟨h2 | h2, -⟩
          · exact absurd h2 (z_m1 (by omega))
          · rw [h5] at h2; exact absurd h2 (z_m1 (by omega))
          · rw [h5] at h2; exact hs (z_eq (by omega) (by omega) h2)
    obtain ⟨x, rfl, hx1, hx2, hx3⟩ := key
    refine ⟨sq, dn, pp, wi, ti, dd, updN g tt x, gk, hN, hw, hq, hT, hTd, hdn, hPp, hnn, hwi, hti, hv, pOK_upd hzo, hke, ⟨fun s => ?_, fun a b e hne => ?_⟩, hvk, fun s hs h7 => ?_, hff, hfg, htk, hpP, hmW, hmT, pOK_upd hmz, hmk⟩
    · by_cases e : s = tt
      · rw [e, updN_s]; rcases hx1 with q9 | q9
        · exact Or.inl ⟨ht, q9⟩
        · exact Or.inr q9
      · rw [updN_n _ _ e]; exact hvg.1 s
    · by_cases e1 : a = tt
      · by_cases e2 : b = tt
        · omega
        · rw [e1, updN_s, updN_n _ _ e2] at e
          rw [e1, updN_s]
          by_cases q9 : x < 7
          · exact absurd e.symm (hx3 q9 b e2)
          · omega
      · by_cases e2 : b = tt
        · rw [e2, updN_s, updN_n _ _ e1] at e
          rw [updN_n _ _ e1]
          by_cases q9 : x < 7
          · exact absurd e (hx3 q9 a e1)
          · omega
        · rw [updN_n _ _ e1] at e ⊢
          rw [updN_n _ _ e2] at e
          exact hvg.2 a b e hne
    · by_cases e : s = tt
      · rw [e, updN_s] at h7 ⊢; exact hx2 h7
      · rw [updN_n _ _ e] at h7 ⊢; exact hfG s hs h7
theorem iv_best {wb : Bool} {k k' : Nat} {v v' : Int32} {zo2 ff2 fg2 mzo2 mbe : Nat → Int32} (I : INV w q d T nz nt P n Wi Ti zo ke ff fg tk mpr mwi mti mzo mke sq dn pp wi ti dd g gk) (hs : sBest wb nt nz n d wi ti dd k v zo2) (hs' : sBest wb nt nz n d wi ti dd k' v' mbe) (hkz : k = 1 → zo2 = zo) (hz2 : ∀ u, nt ≤ u → u < 7 → zo2 u = -1) (hf2 : ∀ u, nt ≤ u → u < 7 → ff2 u = -1) (hg2 : ∀ u, nt ≤ u → u < 7 → fg2 u = -1) (hm2 : ∀ t, t < nt → mzo2 t = if k' = 0 then mbe t else mzo t) : k' = k ∧ (k = 0 → v = v') ∧ IV w q d T nz nt P n Wi Ti zo2 ke ff2 fg2 tk mpr mwi mti mzo2 mke := by
  obtain ⟨hN, hw, hq, hT, hTd, hdn, hPp, hnn, hwi, hti, hv, hzo, hke, hvg, hvk, hfG, hff, hfg, htk, hpP, hmW, hmT, hmz, hmk⟩ := I
  obtain ⟨e1, e2, h3⟩ := sBest_fn hv hN.2 hN.1 hs hs'
  refine ⟨e1, e2, ?_⟩
  rcases h3 with h3 | ⟨h3, h, hc, hb1, hb2⟩
  · have e3 := hkz h3
    subst e3
    exact ⟨sq, dn, pp, wi, ti, dd, g, gk, hN, hw, hq, hT, hTd, hdn, hPp, hnn, hwi, hti, hv, hzo, hke, hvg, hvk, hfG, hf2, hg2, htk, hpP, hmW, hmT, fun t ht => by rw [hm2 t ht, if_neg (by omega)]; exact hmz t ht, hmk⟩
  · have haP : aP nz nt (fun t9 z9 => n t9 ≤ d z9) (fun t => if t < nt then h t else 7) := by
      refine ⟨⟨fun t ht => ?_, fun s t hst ht => ?_⟩, fun t ht => if_neg (by omega)⟩
      · show (if t < nt then h t else 7) < nz ∧ n t ≤ d (if t < nt then h t else 7)
        rw [if_pos ht]; exact hc.1 t ht
      · show (if s < nt then h s else 7) ≠ (if t < nt then h t else 7)
        rw [if_pos ht, if_pos (by omega)]; exact hc.2 s t hst ht
    refine ⟨sq, dn, pp, wi, ti, dd, _, gk, hN, hw, hq, hT, hTd, hdn, hPp, hnn, hwi, hti, hv, fun t ht => ?_, hke, vG_aP haP, hvk, fG_aP haP, hf2, hg2, htk, hpP, hmW, hmT, fun t ht => ?_, hmk⟩
    · show zo2 t = zI (if t < nt then h t else 7)
      by_cases e : t < nt
      · rw [if_pos e]; exact hb1 t e
      · rw [if_neg e]; exact hz2 t (by omega) ht
    · show mzo2 t = zI (if t < nt then h t else 7)
      rw [hm2 t ht, if_pos (by omega), if_pos ht]; exact hb2 t ht
theorem iv_least {ff2 fg2 : Nat → Int32} (I : INV w q d T nz nt P n Wi Ti zo ke ff fg tk mpr mwi mti mzo mke sq dn pp wi ti dd g gk) (hf2 : ∀ u, nt ≤ u → u < 7 → ff2 u = -1) (hg2 : ∀ u, nt ≤ u → u < 7 → fg2 u = -1) : IV w q d T nz nt P n Wi Ti zo ke ff2 fg2 tk mpr mwi mti mzo mke := by
  obtain ⟨hN, hw, hq, hT, hTd, hdn, hPp, hnn, hwi, hti, hv, hzo, hke, hvg, hvk, hfG, hff, hfg, htk, hpP, hmW, hmT, hmz, hmk⟩ := I
  exact ⟨sq, dn, pp, wi, ti, dd, g, gk, hN, hw, hq, hT, hTd, hdn, hPp, hnn, hwi, hti, hv, hzo, hke, hvg, hvk, hfG, hf2, hg2, htk, hpP, hmW, hmT, hmz, hmk⟩
theorem iv_search {a r : Int32} {k : Nat} {v : Int32} {h : Nat → Nat} {zo2 mzo2 : Nat → Int32} (I : INV w q d T nz nt P n Wi Ti zo ke ff fg tk mpr mwi mti mzo mke sq dn pp wi ti dd g gk) (hs : sSearch nt nz n d wi ti dd g a r k v h) (hz2 : pOK 7 zo2 h) (hm2 : pOK nt mzo2 h) : IV w q d T nz nt P n Wi Ti zo2 ke ff fg tk mpr mwi mti mzo2 mke := by
  obtain ⟨hN, hw, hq, hT, hTd, hdn, hPp, hnn, hwi, hti, hv, hzo, hke, hvg, hvk, hfG, hff, hfg, htk, hpP, hmW, hmT, hmz, hmk⟩ := I
  have key : vG nz nt h ∧ fG nt n d h := by
    rcases hs with ⟨_, _, e⟩ | ⟨_, _, _, e⟩ | ⟨_, hall, _, _, e⟩
    · rw [e]; exact ⟨hvg, hfG⟩
    · rw [e]; exact ⟨hvg, hfG⟩
    · have haP := (rn_aP (cs := fun g9 => costN wi ti dd g9 nt) (rest := r.toNatClampNeg) (aP_of hvg hfG hall) hN.2 a.toNatClampNeg).2
      rw [← e] at haP
      exact ⟨vG_aP haP, fG_aP haP⟩
  exact ⟨sq, dn, pp, wi, ti, dd, h, gk, hN, hw, hq, hT, hTd, hdn, hPp, hnn, hwi, hti, hv, hz2, hke, key.1, hvk, key.2, hff, hfg, htk, hpP, hmW, hmT, hm2, hmk⟩
theorem iv_recall {k : Nat} {v : Int32} {h : Nat → Nat} {zo2 mzo2 : Nat → Int32} (I : INV w q d T nz nt P n Wi Ti zo ke ff fg tk mpr mwi mti mzo mke sq dn pp wi ti dd g gk) (hs : sRecall nt n d g gk k v h) (hz2 : pOK 7 zo2 h) (hm2 : pOK nt mzo2 h) : IV w q d T nz nt P n Wi Ti zo2 ke ff fg tk mpr mwi mti mzo2 mke := by
  obtain ⟨hN, hw, hq, hT, hTd, hdn, hPp, hnn, hwi, hti, hv, hzo, hke, hvg, hvk, hfG, hff, hfg, htk, hpP, hmW, hmT, hmz, hmk⟩ := I
  have key : vG nz nt h ∧ fG nt n d h := by
    rcases hs with ⟨_, _, e⟩ | ⟨hall, _, _, e⟩
    · rw [e]; exact ⟨hvg, hfG⟩
    · rw [e]; exact ⟨hvk, fun t ht h7 => (hall t ht).resolve_left (by omega)⟩
  exact ⟨sq, dn, pp, wi, ti, dd, h, gk, hN, hw, hq, hT, hTd, hdn, hPp, hnn, hwi, hti, hv, hz2, hke, key.1, hvk, key.2, hff, hfg, htk, hpP, hmW, hmT, hm2, hmk⟩
theorem iv_remember {mke2 : Nat → Int32} (I : INV w q d T nz nt P n Wi Ti zo ke ff fg tk mpr mwi mti mzo mke sq dn pp wi ti dd g gk) (h1 : ∀ t, t < nt → mke2 t = mzo t) (h2 : ∀ t, nt ≤ t → mke2 t = mke t) : cnt (fun k => !decide (zo k = -1)) 7 = cnt (fun u9 => !decide (mzo u9 = -1)) nt ∧ IV w q d T nz nt P n Wi Ti zo zo ff fg tk mpr mwi mti mzo mke2 := by
  obtain ⟨hN, hw, hq, hT, hTd, hdn, hPp, hnn, hwi, hti, hv, hzo, hke, hvg, hvk, hfG, hff, hfg, htk, hpP, hmW, hmT, hmz, hmk⟩ := I
  constructor
  · rw [cnt_cut (n := nt) 7 hN.2 (fun t a b => by rw [hzo t b, vG_out hvg t a b]; rfl)]
    exact cnt_ext fun t ht => by rw [hzo t (by omega), hmz t ht]
  · refine ⟨sq, dn, pp, wi, ti, dd, g, g, hN, hw, hq, hT, hTd, hdn, hPp, hnn, hwi, hti, hv, hzo, hzo, hvg, hvg, hfG, hff, hfg, htk, hpP, hmW, hmT, hmz, fun t ht => ?_⟩
    by_cases e : t < nt
    · rw [h1 t e]; exact hmz t e
    · rw [h2 t (by omega), hmk t ht, vG_out hvg t (by omega) ht, vG_out hvk t (by omega) ht]
end
