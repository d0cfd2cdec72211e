section
/-! what each call does, said once for the class and the reference: k is the number of its exception (0: none), v its answer, then what is new -/
def hasZ (nz : Nat) (q : Nat → Int32) (s : Nat) : Prop := anyN (fun o => decide (q o = nI s)) nz = true
def sSetWall (nz : Nat) (q w : Nat → Int32) (co ro b : Int32) (k : Nat) (v : Int32) (w2 : Nat → Int32) : Prop :=
  (¬ inSq co ro ∧ k = 1 ∧ w2 = w) ∨ (inSq co ro ∧ hasZ nz q (sqI co ro) ∧ k = 2 ∧ w2 = w) ∨ (inSq co ro ∧ ¬ hasZ nz q (sqI co ro) ∧ k = 0 ∧ v = w (sqI co ro) ∧ w2 = upd w (sqI co ro) b)
def sAddZone (nz : Nat) (q d w : Nat → Int32) (co ro m : Int32) (k : Nat) (v : Int32) (nz2 : Nat) (q2 d2 : Nat → Int32) : Prop :=
  (¬ inSq co ro ∧ k = 1 ∧ nz2 = nz ∧ q2 = q ∧ d2 = d) ∨ (inSq co ro ∧ ¬ inR m 1 60 ∧ k = 2 ∧ nz2 = nz ∧ q2 = q ∧ d2 = d) ∨
  (inSq co ro ∧ inR m 1 60 ∧ (7 ≤ nz ∨ ¬ w (sqI co ro) = 0 ∨ hasZ nz q (sqI co ro)) ∧ k = 3 ∧ nz2 = nz ∧ q2 = q ∧ d2 = d) ∨
  (inSq co ro ∧ inR m 1 60 ∧ ¬ (7 ≤ nz ∨ ¬ w (sqI co ro) = 0 ∨ hasZ nz q (sqI co ro)) ∧ k = 0 ∧ v = nI nz ∧ nz2 = nz + 1 ∧ q2 = upd q nz (nI (sqI co ro)) ∧ d2 = upd d nz m)
def sSetDesks (nz : Nat) (d zo n : Nat → Int32) (z m : Int32) (k : Nat) (v : Int32) (d2 : Nat → Int32) : Prop :=
  (¬ inN z nz ∧ k = 1 ∧ d2 = d) ∨ (inN z nz ∧ ¬ inR m 1 60 ∧ k = 2 ∧ d2 = d) ∨ (inN z nz ∧ inR m 1 60 ∧ (∃ t, t < 7 ∧ tAt zo z = nI t ∧ m < n t) ∧ k = 3 ∧ d2 = d) ∨
  (inN z nz ∧ inR m 1 60 ∧ ¬ (∃ t, t < 7 ∧ tAt zo z = nI t ∧ m < n t) ∧ k = 0 ∧ v = d z.toNatClampNeg ∧ d2 = upd d z.toNatClampNeg m)
def sAddTeam (nt : Nat) (P : Nat → Nat → Int32) (n : Nat → Int32) (k : Nat) (v : Int32) (nt2 : Nat) (P2 : Nat → Nat → Int32) (n2 : Nat → Int32) : Prop :=
  (7 ≤ nt ∧ k = 1 ∧ nt2 = nt ∧ P2 = P ∧ n2 = n) ∨ (¬ 7 ≤ nt ∧ k = 0 ∧ v = nI nt ∧ nt2 = nt + 1 ∧ P2 = ub P nt (fun _ => nI 1) ∧ n2 = upd n nt (nI 1))
def sSetPresent (nt : Nat) (P : Nat → Nat → Int32) (n d zo : Nat → Int32) (t j m : Int32) (k : Nat) (v : Int32) (P2 : Nat → Nat → Int32) (n2 : Nat → Int32) : Prop :=
  (¬ (inN t nt ∧ inN j 5) ∧ k = 1 ∧ P2 = P ∧ n2 = n) ∨ ((inN t nt ∧ inN j 5) ∧ ¬ inR m 0 60 ∧ k = 2 ∧ P2 = P ∧ n2 = n) ∨
  ((inN t nt ∧ inN j 5) ∧ inR m 0 60 ∧ (∃ z, z < 7 ∧ zo t.toNatClampNeg = nI z ∧ d z < mxN (P t.toNatClampNeg) j.toNatClampNeg m 5) ∧ k = 3 ∧ P2 = P ∧ n2 = n) ∨
  ((inN t nt ∧ inN j 5) ∧ inR m 0 60 ∧ ¬ (∃ z, z < 7 ∧ zo t.toNatClampNeg = nI z ∧ d z < mxN (P t.toNatClampNeg) j.toNatClampNeg m 5) ∧ k = 0 ∧ v = P t.toNatClampNeg j.toNatClampNeg ∧ P2 = u2 P t.toNatClampNeg j.toNatClampNeg m ∧ n2 = upd n t.toNatClampNeg (mxN (P t.toNatClampNeg) j.toNatClampNeg m 5))
def sSetWish (nt nz : Nat) (W : Nat → Nat → Int32) (t z m : Int32) (k : Nat) (v : Int32) (W2 : Nat → Nat → Int32) : Prop :=
  (¬ (inN t nt ∧ inN z nz) ∧ k = 1 ∧ W2 = W) ∨ ((inN t nt ∧ inN z nz) ∧ ¬ inR m 0 99 ∧ k = 2 ∧ W2 = W) ∨ ((inN t nt ∧ inN z nz) ∧ inR m 0 99 ∧ k = 0 ∧ v = W t.toNatClampNeg z.toNatClampNeg ∧ W2 = u2 W t.toNatClampNeg z.toNatClampNeg m)
def sSetTie (nt : Nat) (W : Nat → Nat → Int32) (t o m : Int32) (k : Nat) (v : Int32) (W2 : Nat → Nat → Int32) : Prop :=
  (¬ (inN t nt ∧ inN o nt) ∧ k = 1 ∧ W2 = W) ∨ ((inN t nt ∧ inN o nt) ∧ ¬ (inR m 0 9 ∧ ¬ t = o) ∧ k = 2 ∧ W2 = W) ∨ ((inN t nt ∧ inN o nt) ∧ (inR m 0 9 ∧ ¬ t = o) ∧ k = 0 ∧ v = W t.toNatClampNeg o.toNatClampNeg ∧ W2 = u2 (u2 W t.toNatClampNeg o.toNatClampNeg m) o.toNatClampNeg t.toNatClampNeg m)
def sPlace (nt nz : Nat) (zo n d : Nat → Int32) (t z : Int32) (k : Nat) (v : Int32) (zo2 : Nat → Int32) : Prop :=
  (¬ (inN t nt ∧ (z = -1 ∨ inN z nz)) ∧ k = 1 ∧ zo2 = zo) ∨ ((inN t nt ∧ (z = -1 ∨ inN z nz)) ∧ ¬ (z = -1 ∨ ((tAt zo z = -1 ∨ tAt zo z = t) ∧ n t.toNatClampNeg ≤ d z.toNatClampNeg)) ∧ k = 2 ∧ zo2 = zo) ∨
  ((inN t nt ∧ (z = -1 ∨ inN z nz)) ∧ (z = -1 ∨ ((tAt zo z = -1 ∨ tAt zo z = t) ∧ n t.toNatClampNeg ≤ d z.toNatClampNeg)) ∧ k = 0 ∧ v = zo t.toNatClampNeg ∧ zo2 = upd zo t.toNatClampNeg z)
/-- placeByWishes, placeBest: new is b, of the teams -/
def sBest (wb : Bool) (nt nz : Nat) (n d : Nat → Int32) (wi ti dd : Nat → Nat → Nat) (k : Nat) (v : Int32) (b : Nat → Int32) : Prop :=
  ∃ (kc : Nat) (b0 : Nat → Int32), SR nt (fun g9 => pcN wb wi ti dd g9 nt) (cmp nz nt (fun t9 z9 => n t9 ≤ d z9)) 1000000 b0 kc b ∧ ((kc = 1000000 ∧ k = 1) ∨ (kc < 1000000 ∧ k = 0 ∧ v = nI kc))
def sLeast (nt nz : Nat) (n d : Nat → Int32) (wi ti dd : Nat → Nat → Nat) (v : Int32) : Prop :=
  ∃ (kc : Nat) (b0 b : Nat → Int32), SR nt (fun g9 => pcN false wi ti dd g9 nt) (cmp nz nt (fun t9 z9 => n t9 ≤ d z9)) 1000000 b0 kc b ∧ v = lI kc
/-- search: new is the placement h -/
def sSearch (nt nz : Nat) (n d : Nat → Int32) (wi ti dd : Nat → Nat → Nat) (g : Nat → Nat) (a r : Int32) (k : Nat) (v : Int32) (h : Nat → Nat) : Prop :=
  (¬ (inR a 1 40 ∧ inR r 0 5) ∧ k = 1 ∧ h = g) ∨ ((inR a 1 40 ∧ inR r 0 5) ∧ ¬ (∀ t, t < nt → g t < 7) ∧ k = 2 ∧ h = g) ∨
  ((inR a 1 40 ∧ inR r 0 5) ∧ (∀ t, t < nt → g t < 7) ∧ k = 0 ∧ v = nI (rn (fun g9 => costN wi ti dd g9 nt) (fun t9 z9 => n t9 ≤ d z9) nt nz r.toNatClampNeg g a.toNatClampNeg).2.2.2.1 ∧ h = (rn (fun g9 => costN wi ti dd g9 nt) (fun t9 z9 => n t9 ≤ d z9) nt nz r.toNatClampNeg g a.toNatClampNeg).2.2.2.2)
/-- how many teams are elsewhere -/
def cntO (g h : Nat → Nat) (n : Nat) : Nat := cnt (fun t => !decide (g t = h t)) n
def sRecall (nt : Nat) (n d : Nat → Int32) (g gk : Nat → Nat) (k : Nat) (v : Int32) (h : Nat → Nat) : Prop :=
  (¬ (∀ t, t < nt → gk t = 7 ∨ n t ≤ d (gk t)) ∧ k = 1 ∧ h = g) ∨ ((∀ t, t < nt → gk t = 7 ∨ n t ≤ d (gk t)) ∧ k = 0 ∧ v = nI (cntO g gk nt) ∧ h = gk)
def sOne (m : Nat) (f : Nat → Int32) (t : Int32) (k : Nat) (v : Int32) : Prop := (¬ inN t m ∧ k = 1) ∨ (inN t m ∧ k = 0 ∧ v = f t.toNatClampNeg)
def sFree (nz : Nat) (d zo : Nat → Int32) (P : Nat → Nat → Int32) (z j : Int32) (k : Nat) (v : Int32) : Prop :=
  (¬ (inN z nz ∧ inN j 5) ∧ k = 1) ∨ ((inN z nz ∧ inN j 5) ∧ k = 0 ∧ v = d z.toNatClampNeg - (if tAt zo z = -1 then nI 0 else P (tAt zo z).toNatClampNeg j.toNatClampNeg))
def sDist (nz : Nat) (T : Nat → Nat → Int32) (a b : Int32) (k : Nat) (v : Int32) : Prop :=
  (¬ (inN a nz ∧ inN b nz) ∧ k = 1) ∨ ((inN a nz ∧ inN b nz) ∧ k = 0 ∧ v = T a.toNatClampNeg b.toNatClampNeg)
/-- the need of people on five days -/
def ndN (p : Nat → Nat) : Nat := Nat.max (p 0) (Nat.max (p 1) (Nat.max (p 2) (Nat.max (p 3) (p 4))))
def shN (p : Nat → Nat) : Nat := if ndN p = 0 then 100 else sumT p 5 * 100 / (5 * ndN p)
end
