section
/-! the circles: as the class walks them and as the reference does -/
theorem cnt_add {V : Nat → Bool} {y : Nat} (hV : V y = false) : ∀ n, cnt (fun v => if v = y then true else V v) n = cnt V n + (if y < n then 1 else 0)
  | 0 => by simp [cnt]
  | n + 1 => by
    rw [cnt, cnt, cnt_add hV n]
    by_cases e : n = y
    · subst e
      simp [hV]
    · by_cases e2 : y < n
      · simp only [if_neg e, if_pos e2, if_pos (show y < n + 1 by omega)]
        omega
      · simp only [if_neg e, if_neg e2, if_neg (show ¬ y < n + 1 by omega)]
        omega
theorem circ_go {nx nm g gk : Nat → Nat} {nt t : Nat} (ht : t < nt) (hnt : nt ≤ 7)
    (F1 : ∀ x, x < 7 → nx x < 7 → gk x < 7 ∧ g (nx x) = gk x ∧ nx x < nt) (F2 : ∀ u x, u < 7 → x < 7 → nx u = nx x → nx x < 7 → u = x) (F4 : ∀ x, x < nt → g x < 7 → nx x ≠ x → nm x = nx x) :
    ∀ (f f2 len x : Nat) (V : Nat → Bool), f ≤ f2 → cnt V nt + f = nt → V t = false → (∀ v, V v = true → v < nt) → (x = t ∨ V x = true) → x < 7 → (∀ v, V v = true → ∃ u, (u = t ∨ V u = true) ∧ u ≠ x ∧ nx u = v) → nm x = nx x → (x = t → nx x ≠ t) → (1 ≤ len ∧ (x ≠ t → 1 < len)) →
      lmC nm t f x = if lwC nx t f2 len (nx x) = true then 1 else 0
  | 0, _, _, _, V, _, hc, hVt, _, _, _, _, _, _, _ => by
    have h := cnt_full.mp (show nt ≤ cnt V nt by omega) t ht
    rw [hVt] at h
    exact absurd h (by decide)
  | f + 1, 0, _, _, _, hf, _, _, _, _, _, _, _, _, _ => absurd hf (by omega)
  | f + 1, g2 + 1, len, x, V, hf, hc, hVt, hVn, hxV, hx, hVu, hnm, hxt, hlen => by
    rw [lmC, lwC, hnm]
    by_cases e1 : nx x = t
    · have e2 : x ≠ t := fun q => hxt q e1
      rw [if_pos e1, e1, if_neg (show ¬ (7 ≤ t ∨ t < t) by omega), if_pos rfl, decide_eq_true (hlen.2 e2), if_pos rfl]
    · rw [if_neg e1]
      by_cases e2 : 7 ≤ nx x ∨ nx x < t
      · rw [if_pos e2, if_pos e2, if_neg (by decide)]
      · rw [if_neg e2, if_neg e2, if_neg e1]
        have hy : nx x < 7 := by omega
        obtain ⟨h1, h2, h3⟩ := F1 x hx hy
        have hyV : V (nx x) = false := by
          by_cases q : V (nx x) = true
          · obtain ⟨u, hu1, hu2, hu3⟩ := hVu _ q
            have hu7 : u < 7 := by
              rcases hu1 with q2 | q2
              · omega
              · have := hVn u q2; omega
            exact absurd (F2 u x hu7 hx hu3 hy) hu2
          · simpa using q
        have hxy : x ≠ nx x := fun q => by
          rcases hxV with q2 | q2
          · exact e1 (q.symm.trans q2)
          · rw [← q, q2] at hyV; exact absurd hyV (by decide)
        have hyy : nx (nx x) ≠ nx x := fun q => hxy (F2 x (nx x) hx hy q.symm (by rw [q]; exact hy))
        refine circ_go ht hnt F1 F2 F4 f g2 (len + 1) (nx x) (fun v => if v = nx x then true else V v) (by omega) ?_ ?_ ?_ ?_ hy ?_ (F4 _ h3 (by rw [h2]; exact h1) hyy) (fun q => absurd q e1) ⟨by omega, fun _ => by have := hlen.1; omega⟩
        · rw [cnt_add hyV, if_pos h3]; omega
        · show (if t = nx x then true else V t) = false
          rw [if_neg (fun q => e1 q.symm)]; exact hVt
        · intro v hv
          have hv : (if v = nx x then true else V v) = true := hv
          by_cases q : v = nx x
          · rw [q]; exact h3
          · rw [if_neg q] at hv; exact hVn v hv
        · exact Or.inr (if_pos rfl)
        · intro v hv
          have hv : (if v = nx x then true else V v) = true := hv
          by_cases q : v = nx x
          · refine ⟨x, ?_, hxy, q.symm⟩
            rcases hxV with q2 | q2
            · exact Or.inl q2
            · exact Or.inr (by show (if x = nx x then true else V x) = true; rw [if_neg hxy]; exact q2)
          · rw [if_neg q] at hv
            obtain ⟨u, hu1, hu2, hu3⟩ := hVu v hv
            have huy : u ≠ nx x := fun q2 => by
              rcases hu1 with q3 | q3
              · exact e1 (q2.symm.trans q3)
              · rw [q2, hyV] at q3; exact absurd q3 (by decide)
            refine ⟨u, ?_, huy, hu3⟩
            rcases hu1 with q3 | q3
            · exact Or.inl q3
            · exact Or.inr (by show (if u = nx x then true else V u) = true; rw [if_neg huy]; exact q3)
theorem lw_no {nx : Nat → Nat} {t : Nat} (h : ∀ u, u < 7 → nx u ≠ t) : ∀ (f len x : Nat), x ≠ t → lwC nx t f len x = false
  | 0, _, _, _ => rfl
  | f + 1, len, x, hx => by
    rw [lwC]
    by_cases e : 7 ≤ x ∨ x < t
    · rw [if_pos e]
    · rw [if_neg e, if_neg hx]
      exact lw_no h f (len + 1) (nx x) (h x (by omega))
theorem sumT_cnt {h : Nat → Nat} {p : Nat → Bool} : ∀ n, (∀ t, t < n → h t = if p t = true then 1 else 0) → sumT h n = cnt p n
  | 0, _ => rfl
  | n + 1, e => by rw [sumT, cnt, sumT_cnt n (fun t ht => e t (by omega)), e n (by omega)]
variable {zo ke : Nat → Int32} {g gk : Nat → Nat} {nz nt : Nat}
theorem tAt_m {z : Int32} (h : z = -1) : tAt zo z = -1 := if_pos h
theorem nx_ex : ∃ nx : Nat → Nat, ∀ t, t < 7 → tAt zo (ke t) = zI (nx t) ∧ nx t ≤ 7 := by
  have h : ∀ t, ∃ x, tAt zo (ke t) = zI x ∧ x ≤ 7 := fun t => by
    by_cases e : tAt zo (ke t) = -1
    · exact ⟨7, e.trans (zI_7 (by omega)).symm, by omega⟩
    · obtain ⟨x, h1, h2, -⟩ := tAt_some e
      exact ⟨x, h2.trans (zI_lt h1).symm, by omega⟩
  exact ⟨fun t => Classical.choose (h t), fun t _ => Classical.choose_spec (h t)⟩
theorem nm_ex (hzo : pOK 7 zo g) (hvg : vG nz nt g) (hnz : nz ≤ 7) : ∃ nm : Nat → Nat, nmO nt zo g gk nm := by
  have h : ∀ t, ∃ x, x ≤ 7 ∧ (x < 7 → x < nt) ∧ ((gk t = 7 ∨ g t = 7 ∨ gk t = g t) → x = 7) ∧ (¬ (gk t = 7 ∨ g t = 7 ∨ gk t = g t) → tAt zo (nI (gk t)) = zI x) := fun t => by
    by_cases e : gk t = 7 ∨ g t = 7 ∨ gk t = g t
    · exact ⟨7, by omega, by omega, fun _ => rfl, fun q => absurd e q⟩
    · by_cases e2 : tAt zo (nI (gk t)) = -1
      · exact ⟨7, by omega, by omega, fun _ => rfl, fun _ => e2.trans (zI_7 (by omega)).symm⟩
      · obtain ⟨x, h1, h2, h3, -⟩ := tAt_some e2
        refine ⟨x, by omega, fun _ => ?_, fun q => absurd q e, fun _ => h2.trans (zI_lt h1).symm⟩
        rcases hvg.1 x with q | q
        · exact q.1
        · refine absurd h2 (fun _ => ?_)
          rw [hzo x h1, q, zI_7 (by omega)] at h3
          exact e2 (tAt_m h3.symm)
  exact ⟨fun t => Classical.choose (h t), fun t _ => Classical.choose_spec (h t)⟩
theorem circ_eq {nx nm : Nat → Nat} (hzo : pOK 7 zo g) (hke : pOK 7 ke gk) (hvg : vG nz nt g) (hvk : vG nz nt gk) (hnz : nz ≤ 7) (hnt : nt ≤ 7) (hnx : ∀ t, t < 7 → tAt zo (ke t) = zI (nx t) ∧ nx t ≤ 7) (hnm : nmO nt zo g gk nm) : cnt (fun u9 => lwC nx u9 7 1 (nx u9)) nt = sumT (fun u9 => lmC nm u9 nt u9) nt := by
  have hk7 : ∀ x, gk x ≤ 7 := fun x => by rcases hvk.1 x with q | q <;> omega
  have hg7 : ∀ x, g x ≤ 7 := fun x => by rcases hvg.1 x with q | q <;> omega
  have F1 : ∀ x, x < 7 → nx x < 7 → gk x < 7 ∧ g (nx x) = gk x ∧ nx x < nt := fun x hx hn => by
    have h1 := (hnx x hx).1
    rw [zI_lt hn] at h1
    have h2 : ¬ tAt zo (ke x) = -1 := fun q => z_m1 (a := nx x) (by omega) (h1.symm.trans q)
    obtain ⟨y, hy, h3, h4, -⟩ := tAt_some h2
    have e : y = nx x := z_eq (by omega) (by omega) (h3.symm.trans h1)
    subst e
    have hkx : gk x < 7 := by
      refine Nat.lt_of_not_le fun q => h2 (tAt_m ?_)
      rw [hke x hx, zI_7 (by omega)]
    rw [hzo _ hy, hke x hx] at h4
    have h5 := zI_inj (hg7 _) (hk7 _) h4
    refine ⟨hkx, h5, ?_⟩
    rcases hvg.1 (nx x) with q | q
    · exact q.1
    · omega
  have F2 : ∀ u x, u < 7 → x < 7 → nx u = nx x → nx x < 7 → u = x := fun u x hu hx he hn => by
    obtain ⟨a1, a2, -⟩ := F1 u hu (by omega)
    obtain ⟨b1, b2, -⟩ := F1 x hx hn
    by_cases q : u = x
    · exact q
    · have := hvk.2 u x (by rw [← a2, ← b2, he]) q
      omega
  have FS : ∀ x, x < 7 → gk x < 7 → gk x = g x → nx x = x := fun x hx h1 h2 => by
    have h3 := (hnx x hx).1
    rw [hke x hx, zI_lt h1, tAt_only hzo hvg hnz h1 hx h2.symm, ← zI_lt hx] at h3
    exact (zI_inj (by omega) (hnx x hx).2 h3).symm
  have F4 : ∀ x, x < nt → g x < 7 → nx x ≠ x → nm x = nx x := fun x hx hgx hne => by
    obtain ⟨m1, m2, m3, m4⟩ := hnm x hx
    by_cases e : gk x = 7
    · rw [m3 (Or.inl e)]
      have h3 := hnx x (by omega)
      have : ¬ nx x < 7 := fun q => by have := (F1 x (by omega) q).1; omega
      omega
    · have hkx : gk x < 7 := by have := hk7 x; omega
      have e2 : gk x ≠ g x := fun q => hne (FS x (by omega) hkx q)
      have h4 := m4 (by omega)
      have h5 := (hnx x (by omega)).1
      rw [hke x (by omega), zI_lt hkx, h4] at h5
      exact zI_inj m1 (hnx x (by omega)).2 h5
  refine (sumT_cnt nt fun t ht => ?_).symm
  have hpos : nt = (nt - 1) + 1 := by omega
  by_cases e : g t = 7 ∨ nx t = t
  · have m7 : nm t = 7 := by
      obtain ⟨m1, m2, m3, m4⟩ := hnm t ht
      rcases e with q | q
      · exact m3 (Or.inr (Or.inl q))
      · have := F1 t (by omega) (by omega)
        rw [q] at this
        exact m3 (Or.inr (Or.inr this.2.1.symm))
    have hl : lmC nm t nt t = 0 := by
      rw [hpos, lmC, m7, if_neg (show ¬ 7 = t by omega), if_pos (Or.inl (Nat.le_refl 7))]
    rw [hl]
    have hw : lwC nx t 7 1 (nx t) = false := by
      by_cases q : nx t = t
      · rw [q, lwC, if_neg (by omega), if_pos rfl]; rfl
      · have hgt : g t = 7 := e.resolve_right q
        refine lw_no (fun u hu q2 => ?_) 7 1 _ q
        have := F1 u hu (by omega)
        rw [q2] at this
        omega
    rw [hw]; rfl
  · have e1 : g t < 7 := by have := hg7 t; omega
    have e2 : nx t ≠ t := fun q => e (Or.inr q)
    exact circ_go ht hnt F1 F2 F4 nt 7 1 t (fun _ => false) (by omega) (by rw [cnt_cut (n := 0) nt (by omega) (fun _ _ _ => rfl)]; simp [cnt]) rfl (fun v hv => absurd hv (by decide)) (Or.inl rfl) (by omega) (fun v hv => absurd hv (by decide)) (F4 t ht e1 e2) (fun _ => e2) ⟨Nat.le_refl 1, fun q => absurd rfl q⟩
theorem moves_eq {mzo mke : Nat → Int32} {C C' : Nat} (hzo : pOK 7 zo g) (hke : pOK 7 ke gk) (hvg : vG nz nt g) (hvk : vG nz nt gk) (hnz : nz ≤ 7) (hnt : nt ≤ 7) (hmz : pOK nt mzo g) (hmk : pOK 7 mke gk) (hC : C = C') : cnt (fun k => !decide (zo k = ke k)) 7 + C = C' + cnt (fun u9 => !decide (mke u9 = mzo u9)) nt := by
  have e1 : cnt (fun k => !decide (zo k = ke k)) 7 = cntO g gk nt := cnt_other hzo hke (vG_7 hvg hnz) (vG_7 hvk hnz) (vG_out hvg) (vG_out hvk) hnt
  have e2 : cnt (fun u9 => !decide (mzo u9 = mke u9)) nt = cntO g gk nt := cnt_o2 hmz (fun t ht => hmk t (by omega)) (fun t ht => vG_7 hvg hnz t (by omega)) (fun t ht => vG_7 hvk hnz t (by omega))
  have e3 : cnt (fun u9 => !decide (mke u9 = mzo u9)) nt = cnt (fun u9 => !decide (mzo u9 = mke u9)) nt := cnt_ext fun t _ => by
    rw [show decide (mke t = mzo t) = decide (mzo t = mke t) from decide_eq_decide.mpr eq_comm]
  rw [e1, e3, e2, hC]; omega
end
