section
/-! what holds between the calls, of the class and of the reference; what each call makes of it -/
def INV (w q d : Nat → Int32) (T : Nat → Nat → Int32) (nz nt : Nat) (P : Nat → Nat → Int32) (n : Nat → Int32) (Wi Ti : Nat → Nat → Int32) (zo ke ff fg tk mpr mwi mti mzo mke : Nat → Int32) (sq dn : Nat → Nat) (pp wi ti dd : Nat → Nat → Nat) (g gk : Nat → Nat) : Prop :=
  (nz ≤ 7 ∧ nt ≤ 7) ∧ (∀ k, k < 64 → w k = 0 ∨ w k = 1) ∧ (∀ o, o < nz → q o = nI (sq o) ∧ sq o < 64 ∧ w (sq o) = 0) ∧ (∀ u v, u < nz → v < nz → isD w (sq u) (sq v) (T u v)) ∧ rOK nz nz T dd ∧ (∀ o, o < nz → d o = nI (dn o) ∧ dn o ≤ 60) ∧
  (∀ t, t < nt → ∀ j, j < 5 → P t j = nI (pp t j) ∧ pp t j ≤ 60) ∧ (∀ t, t < nt → n t = nI (ndN (pp t))) ∧ rOK 7 7 Wi wi ∧ rOK 7 7 Ti ti ∧ vOK nz wi ti dd ∧ pOK 7 zo g ∧ pOK 7 ke gk ∧ vG nz nt g ∧ vG nz nt gk ∧ fG nt n d g ∧
  (∀ u, nt ≤ u → u < 7 → ff u = -1) ∧ (∀ u, nt ≤ u → u < 7 → fg u = -1) ∧ (∀ u, u < 7 → tk u = 0) ∧
  (∀ t j, t < 7 → j < 5 → mpr (5 * t + j) = P t j) ∧ (∀ t j, t < 7 → j < 7 → mwi (7 * t + j) = Wi t j) ∧ (∀ t j, t < 7 → j < 7 → mti (7 * t + j) = Ti t j) ∧ pOK nt mzo g ∧ pOK 7 mke gk
def IV (w q d : Nat → Int32) (T : Nat → Nat → Int32) (nz nt : Nat) (P : Nat → Nat → Int32) (n : Nat → Int32) (Wi Ti : Nat → Nat → Int32) (zo ke ff fg tk mpr mwi mti mzo mke : Nat → Int32) : Prop :=
  ∃ (sq dn : Nat → Nat) (pp wi ti dd : Nat → Nat → Nat) (g gk : Nat → Nat), INV w q d T nz nt P n Wi Ti zo ke ff fg tk mpr mwi mti mzo mke sq dn pp wi ti dd g gk
theorem dd_of {w : Nat → Int32} {sq : Nat → Nat} {T : Nat → Nat → Int32} {nz : Nat} (h : ∀ u v, u < nz → v < nz → isD w (sq u) (sq v) (T u v)) : ∃ dd, rOK nz nz T dd ∧ ∀ u v, u < nz → v < nz → dd u v ≤ 100 := by
  refine ⟨fun u v => (T u v).toNatClampNeg, fun u v hu hv => ?_, fun u v hu hv => ?_⟩
  · obtain ⟨x, h1, h2⟩ := isD_le (h u v hu hv)
    show T u v = nI ((T u v).toNatClampNeg)
    rw [h2, nIc (show x < 2 ^ 31 by omega)]
  · obtain ⟨x, h1, h2⟩ := isD_le (h u v hu hv)
    show (T u v).toNatClampNeg ≤ 100
    rw [h2, nIc (show x < 2 ^ 31 by omega)]
    exact h1
section
variable {w q d : Nat → Int32} {T : Nat → Nat → Int32} {nz nt : Nat} {P : Nat → Nat → Int32} {n : Nat → Int32} {Wi Ti : Nat → Nat → Int32} {zo ke ff fg tk mpr mwi mti mzo mke : Nat → Int32} {sq dn : Nat → Nat} {pp wi ti dd : Nat → Nat → Nat} {g gk : Nat → Nat}
theorem sSetWall_fn {co ro b : Int32} {k k' : Nat} {v v' : Int32} {w2 w3 : Nat → Int32} (h1 : sSetWall nz q w co ro b k v w2) (h2 : sSetWall nz q w co ro b k' v' w3) : k' = k ∧ (k = 0 → v = v') ∧ w3 = w2 := by
  unfold sSetWall at h1 h2
  grind
theorem sAddZone_fn {co ro m : Int32} {k k' : Nat} {v v' : Int32} {nz2 nz3 : Nat} {q2 d2 q3 d3 : Nat → Int32} (h1 : sAddZone nz q d w co ro m k v nz2 q2 d2) (h2 : sAddZone nz q d w co ro m k' v' nz3 q3 d3) : k' = k ∧ (k = 0 → v = v') ∧ nz3 = nz2 ∧ q3 = q2 ∧ d3 = d2 := by
  unfold sAddZone at h1 h2
  grind
theorem sSetDesks_fn {z m : Int32} {k k' : Nat} {v v' : Int32} {d2 d3 : Nat → Int32} (h1 : sSetDesks nz d zo n z m k v d2) (h2 : sSetDesks nz d zo n z m k' v' d3) : k' = k ∧ (k = 0 → v = v') ∧ d3 = d2 := by
  unfold sSetDesks at h1 h2
  grind
theorem sAddTeam_fn {k k' : Nat} {v v' : Int32} {nt2 nt3 : Nat} {P2 P3 : Nat → Nat → Int32} {n2 n3 : Nat → Int32} (h1 : sAddTeam nt P n k v nt2 P2 n2) (h2 : sAddTeam nt P n k' v' nt3 P3 n3) : k' = k ∧ (k = 0 → v = v') ∧ nt3 = nt2 ∧ P3 = P2 ∧ n3 = n2 := by
  unfold sAddTeam at h1 h2
  grind
theorem sSetPresent_fn {t j m : Int32} {k k' : Nat} {v v' : Int32} {P2 P3 : Nat → Nat → Int32} {n2 n3 : Nat → Int32} (h1 : sSetPresent nt P n d zo t j m k v P2 n2) (h2 : sSetPresent nt P n d zo t j m k' v' P3 n3) : k' = k ∧ (k = 0 → v = v') ∧ P3 = P2 ∧ n3 = n2 := by
  unfold sSetPresent at h1 h2
  generalize (∃ z, z < 7 ∧ zo t.toNatClampNeg = nI z ∧ d z < mxN (P t.toNatClampNeg) j.toNatClampNeg m 5) = X at h1 h2
  grind
theorem sSetWish_fn {t z m : Int32} {k k' : Nat} {v v' : Int32} {W2 W3 : Nat → Nat → Int32} (h1 : sSetWish nt nz Wi t z m k v W2) (h2 : sSetWish nt nz Wi t z m k' v' W3) : k' = k ∧ (k = 0 → v = v') ∧ W3 = W2 := by
  unfold sSetWish at h1 h2
  grind
theorem sSetTie_fn {t z m : Int32} {k k' : Nat} {v v' : Int32} {W2 W3 : Nat → Nat → Int32} (h1 : sSetTie nt Ti t z m k v W2) (h2 : sSetTie nt Ti t z m k' v' W3) : k' = k ∧ (k = 0 → v = v') ∧ W3 = W2 := by
  unfold sSetTie at h1 h2
  grind
theorem sPlace_fn {t z : Int32} {k k' : Nat} {v v' : Int32} {z2 z3 : Nat → Int32} (h1 : sPlace nt nz zo n d t z k v z2) (h2 : sPlace nt nz zo n d t z k' v' z3) : k' = k ∧ (k = 0 → v = v') ∧ z3 = z2 := by
  unfold sPlace at h1 h2
  grind
theorem sSearch_fn {a r : Int32} {k k' : Nat} {v v' : Int32} {h h' : Nat → Nat} (h1 : sSearch nt nz n d wi ti dd g a r k v h) (h2 : sSearch nt nz n d wi ti dd g a r k' v' h') : k' = k ∧ (k = 0 → v = v') ∧ h' = h := by
  unfold sSearch at h1 h2
  generalize (∀ t, t < nt → g t < 7) = X at h1 h2
  grind
theorem sRecall_fn {k k' : Nat} {v v' : Int32} {h h' : Nat → Nat} (h1 : sRecall nt n d g gk k v h) (h2 : sRecall nt n d g gk k' v' h') : k' = k ∧ (k = 0 → v = v') ∧ h' = h := by
  unfold sRecall at h1 h2
  generalize (∀ t, t < nt → gk t = 7 ∨ n t ≤ d (gk t)) = X at h1 h2
  grind
theorem sOne_fn {m : Nat} {f : Nat → Int32} {t : Int32} {k k' : Nat} {v v' : Int32} (h1 : sOne m f t k v) (h2 : sOne m f t k' v') : k' = k ∧ (k = 0 → v = v') := by
  unfold sOne at h1 h2
  grind
theorem sFree_fn {z j : Int32} {k k' : Nat} {v v' : Int32} (h1 : sFree nz d zo P z j k v) (h2 : sFree nz d zo P z j k' v') : k' = k ∧ (k = 0 → v = v') := by
  unfold sFree at h1 h2
  grind
theorem sDist_fn {a b : Int32} {k k' : Nat} {v v' : Int32} (h1 : sDist nz T a b k v) (h2 : sDist nz T a b k' v') : k' = k ∧ (k = 0 → v = v') := by
  unfold sDist at h1 h2
  grind
theorem cs_lt {wb : Bool} (hv : vOK nz wi ti dd) (hnt : nt ≤ 7) (hnz : nz ≤ 7) {ft : Nat → Nat → Prop} : ∀ g, cmp nz nt ft g → pcN wb wi ti dd g nt < 1000000 := fun g h => Nat.lt_of_le_of_lt (pcN_le hv (fun t ht => Or.inl (h.1 t ht).1) hnt hnz) (by omega)
theorem sBest_fn {wb : Bool} {k k' : Nat} {v v' : Int32} {b b' : Nat → Int32} (hv : vOK nz wi ti dd) (hnt : nt ≤ 7) (hnz : nz ≤ 7) (h1 : sBest wb nt nz n d wi ti dd k v b) (h2 : sBest wb nt nz n d wi ti dd k' v' b') : k' = k ∧ (k = 0 → v = v') ∧ (k = 1 ∨ (k = 0 ∧ ∃ h, cmp nz nt (fun t9 z9 => n t9 ≤ d z9) h ∧ pOK nt b h ∧ pOK nt b' h)) := by
  obtain ⟨kc, b0, hS, hk⟩ := h1
  obtain ⟨kc', b0', hS', hk'⟩ := h2
  obtain ⟨e, hu⟩ := SR_uniq (cs_lt hv hnt hnz) hS hS'
  subst e
  rcases hk with ⟨a1, a2⟩ | ⟨a1, a2, a3⟩
  · rcases hk' with ⟨c1, c2⟩ | ⟨c1, c2, c3⟩
    · exact ⟨by omega, fun q => by omega, Or.inl a2⟩
    · omega
  · rcases hk' with ⟨c1, c2⟩ | ⟨c1, c2, c3⟩
    · omega
    · refine ⟨by omega, fun _ => by rw [a3, c3], Or.inr ⟨a2, ?_⟩⟩
      rcases hu with q | ⟨_, h, q1, q2, q3, q4⟩
      · omega
      · exact ⟨h, q1, q3, q4⟩
theorem sSetWall_k {co ro b : Int32} {k : Nat} {v : Int32} {w2 : Nat → Int32} (h1 : sSetWall nz q w co ro b k v w2) : k ≤ 3 := by
  unfold sSetWall at h1; omega
theorem sAddZone_k {co ro m : Int32} {k : Nat} {v : Int32} {nz2 : Nat} {q2 d2 : Nat → Int32} (h1 : sAddZone nz q d w co ro m k v nz2 q2 d2) : k ≤ 3 := by
  unfold sAddZone at h1; omega
theorem sSetDesks_k {z m : Int32} {k : Nat} {v : Int32} {d2 : Nat → Int32} (h1 : sSetDesks nz d zo n z m k v d2) : k ≤ 3 := by
  unfold sSetDesks at h1; omega
theorem sAddTeam_k {k : Nat} {v : Int32} {nt2 : Nat} {P2 : Nat → Nat → Int32} {n2 : Nat → Int32} (h1 : sAddTeam nt P n k v nt2 P2 n2) : k ≤ 3 := by
  unfold sAddTeam at h1; omega
theorem sSetPresent_k {t j m : Int32} {k : Nat} {v : Int32} {P2 : Nat → Nat → Int32} {n2 : Nat → Int32} (h1 : sSetPresent nt P n d zo t j m k v P2 n2) : k ≤ 3 := by
  unfold sSetPresent at h1; omega
theorem sSetWish_k {t z m : Int32} {k : Nat} {v : Int32} {W2 : Nat → Nat → Int32} (h1 : sSetWish nt nz Wi t z m k v W2) : k ≤ 3 := by
  unfold sSetWish at h1; omega
theorem sSetTie_k {t z m : Int32} {k : Nat} {v : Int32} {W2 : Nat → Nat → Int32} (h1 : sSetTie nt Ti t z m k v W2) : k ≤ 3 := by
  unfold sSetTie at h1; omega
theorem sPlace_k {t z : Int32} {k : Nat} {v : Int32} {z2 : Nat → Int32} (h1 : sPlace nt nz zo n d t z k v z2) : k ≤ 3 := by
  unfold sPlace at h1; omega
theorem sSearch_k {a r : Int32} {k : Nat} {v : Int32} {h : Nat → Nat} (h1 : sSearch nt nz n d wi ti dd g a r k v h) : k ≤ 3 := by
  unfold sSearch at h1; omega
theorem sRecall_k {k : Nat} {v : Int32} {h : Nat → Nat} (h1 : sRecall nt n d g gk k v h) : k ≤ 3 := by
  unfold sRecall at h1; omega
theorem sOne_k {m : Nat} {f : Nat → Int32} {t : Int32} {k : Nat} {v : Int32} (h1 : sOne m f t k v) : k ≤ 3 := by
  unfold sOne at h1; omega
theorem sFree_k {z j : Int32} {k : Nat} {v : Int32} (h1 : sFree nz d zo P z j k v) : k ≤ 3 := by
  unfold sFree at h1; omega
theorem sDist_k {a b : Int32} {k : Nat} {v : Int32} (h1 : sDist nz T a b k v) : k ≤ 3 := by
  unfold sDist at h1; omega
theorem sBest_k {wb : Bool} {k : Nat} {v : Int32} {b : Nat → Int32} (h1 : sBest wb nt nz n d wi ti dd k v b) : k ≤ 3 := by
  obtain ⟨kc, b0, hS, hk⟩ := h1
  omega
theorem sLeast_fn {v v' : Int32} (hv : vOK nz wi ti dd) (hnt : nt ≤ 7) (hnz : nz ≤ 7) (h1 : sLeast nt nz n d wi ti dd v) (h2 : sLeast nt nz n d wi ti dd v') : v = v' := by
  obtain ⟨kc, b0, b, hS, hk⟩ := h1
  obtain ⟨kc', b0', b', hS', hk'⟩ := h2
  obtain ⟨e, -⟩ := SR_uniq (cs_lt hv hnt hnz) hS hS'
  rw [hk, hk', e]
end
end
