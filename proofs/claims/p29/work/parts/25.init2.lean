set_option maxHeartbeats 4000000 in
set_option maxRecDepth 100000 in
/-- how many teams are in another zone than in the other placement -/
theorem c_X4_countOtherwise (l : Launch) (D : va_G) (cI cZ cQ cJ : ClassId) (a : Nat) (b : Nat) (f : Nat → Int32) (a2 : Nat) (b2 : Nat) (g : Nat → Int32)  : Met l yX4_countOtherwise (.code yX4_countOtherwise cX4_countOtherwise 4 (some .int) :: ALL) ({ frames := 0, cells := 0, slots := 0, locals := 0 } : Room) (va_Pc [.ref a, .ref a2] (ro_P D cI cZ cQ cJ ((wPl a b cI f) ++ (wPl a2 b2 cI g)))) (vp_Si (fun r9 => r9 = nI (cnt (fun k => !decide (f k = g k)) 7))) 0 0 (fun _ => False) := by
  refine Met.ofW (cc := cX4_countOtherwise) (maxL := 4) (ret := (some .int)) (by decide) rfl ?_
  intro p e s m args below meth c s₁ B hml hv
  obtain ⟨rfl, hP, hSt⟩ := hv
  have hx := B.exec
  have hb := B.bytes
  have hr := B.returns
  have hts : ∀ w ∈ ALL, w.before ([.ref a, .ref a2] : List Value).toArray s = true := fun w h => atoms_spec (ws := (.code yX4_countOtherwise cX4_countOtherwise 4 (some .int) :: ALL)) B.pre w (List.mem_cons_of_mem _ h)
  have hown : s.vm.findClass RX4 = some m.cls := findClass_of_methodNamed B.named
  have hlocks := B.notSynchronized
  have hl := lv_entry ([.ref a, .ref a2]) (n := 4) (Nat.le_of_ble_eq_true rfl)
  rw [lg_entry_eq]
  generalize (lg_sl ([.ref a, .ref a2]) ++ List.replicate (4 - (lg_sl ([.ref a, .ref a2])).length) Slot.unset).toArray = ls at hl ⊢
  have hl : lv_has ls 4 [(0, .ref a), (1, .ref a2)] := hl
  refine lv_iconst (v := nI 0) hx hb dX4_countOtherwise_0 (by decide) ?_
  refine lv_istore_n (lv' := [(2, .int (nI 0)), (0, .ref a), (1, .ref a2)]) hx hb dX4_countOtherwise_1 rfl hl (by decide) rfl (fun ls hl => ?_)
  refine lv_iconst (v := nI 0) hx hb dX4_countOtherwise_2 (by decide) ?_
  refine lv_istore_n (lv' := [(3, .int (nI 0)), (2, .int (nI 0)), (0, .ref a), (1, .ref a2)]) hx hb dX4_countOtherwise_3 rfl hl (by decide) rfl (fun ls hl => ?_)
  have L4 : ∀ (n : Nat) (i : Nat) (n1 : Nat), (i ≤ 7) → (n1 = cnt (fun k => !decide (f k = g k)) i) → (7 - i) < n → ∀ (ls : Array Slot), lv_has ls 4 [(0, .ref a), (1, .ref a2), (2, .int (nI n1)), (3, .int (nI i))] → W p l e ({ frames := 0, cells := 0, slots := 0, locals := 0 } : Room) s m ([.ref a, .ref a2] : List Value).toArray below meth c s.heap [] 0 0 (MQ below (vp_Si (fun r9 => r9 = nI (cnt (fun k => !decide (f k = g k)) 7))) ([.ref a, .ref a2] : List Value).toArray s 0 0 (fun _ => False)) (F0 m 4 ls []) := by
    intro n
    induction n with
    | zero =>
      intro i n1 hi hn hm
      exact absurd hm (by omega)
    | succ n ih =>
      intro i n1 hi hn hm ls hl
      have ih_L4 := ih
      refine lv_iload_n hx hb dX4_countOtherwise_4 rfl (lv_at hl 3 rfl) ?_
      refine lv_bipush (v := nI 7) hx hb dX4_countOtherwise_5 (by decide) ?_
      refine lv_icmp_ge (tgt := 34) hx hb dX4_countOtherwise_7 (by decide) (fun c_1 => ?_) (fun c_1 => ?_)
      · have c_1 := z_le (by omega) (by omega) c_1
        refine lv_iload_n hx hb dX4_countOtherwise_34 rfl (lv_at hl 2 rfl) ?_
        exact W.iret (v := nI n1) hx hb hr (fun t9 ht9 hW9 => ⟨_, rfl, (by rw [hn, show i = 7 by omega]), ht9⟩) (fun q h => nomatch h) dX4_countOtherwise_35
      · have c_1 := z_nle (by omega) (by omega) c_1
        refine lv_aload_n hx hb dX4_countOtherwise_10 rfl (lv_at hl 0 rfl) ?_
        refine va_get (D := D) (ci := 4) (v := .ref b) (C := RX4) (T := TX4) (N := 1) hx hb hts tu_X4 hown hSt.1 hP 0 rfl rfl 0 (by decide) (hts _ t1_130) (fun _ h9 => h9) rfl dX4_countOtherwise_11 ?_
        refine lv_iload_n hx hb dX4_countOtherwise_14 rfl (lv_at hl 3 rfl) ?_
        refine r_iald hx hb hSt.1 hP 1 0 rfl rfl (k := i) (by omega) (by omega) dX4_countOtherwise_15 ?_
        refine lv_aload_n hx hb dX4_countOtherwise_16 rfl (lv_at hl 1 rfl) ?_
        refine va_get (D := D) (ci := 4) (v := .ref b2) (C := RX4) (T := TX4) (N := 1) hx hb hts tu_X4 hown hSt.1 hP 2 rfl rfl 0 (by decide) (hts _ t1_130) (fun _ h9 => h9) rfl dX4_countOtherwise_17 ?_
        refine lv_iload_n hx hb dX4_countOtherwise_20 rfl (lv_at hl 3 rfl) ?_
        refine r_iald hx hb hSt.1 hP 3 0 rfl rfl (k := i) (by omega) (by omega) dX4_countOtherwise_21 ?_
        refine lv_icmp_eq (tgt := 28) hx hb dX4_countOtherwise_22 (by decide) (fun c_2 => ?_) (fun c_2 => ?_)
        · refine lv_iinc (v := nI (i + 1)) (lv' := [(3, .int (nI (i + 1))), (0, .ref a), (1, .ref a2), (2, .int (nI n1))]) hx hb dX4_countOtherwise_28 hl (k := 3) rfl (z_inc _) (by decide) rfl (fun ls hl => ?_)
          refine lv_goto (tgt := 4) hx hb dX4_countOtherwise_31 (by decide) ?_
          exact ih_L4 (i + 1) n1 (by omega) (by rw [cnt, ← hn]; simp [c_2]) (by omega) _ (lv_sub hl [1, 2, 3, 0] rfl)
        · refine lv_iinc (v := nI (n1 + 1)) (lv' := [(2, .int (nI (n1 + 1))), (0, .ref a), (1, .ref a2), (3, .int (nI i))]) hx hb dX4_countOtherwise_25 hl (k := 2) rfl (z_inc _) (by decide) rfl (fun ls hl => ?_)
          refine lv_iinc (v := nI (i + 1)) (lv' := [(3, .int (nI (i + 1))), (2, .int (nI (n1 + 1))), (0, .ref a), (1, .ref a2)]) hx hb dX4_countOtherwise_28 hl (k := 3) rfl (z_inc _) (by decide) rfl (fun ls hl => ?_)
          refine lv_goto (tgt := 4) hx hb dX4_countOtherwise_31 (by decide) ?_
          exact ih_L4 (i + 1) (n1 + 1) (by omega) (by rw [cnt, ← hn]; simp [c_2]) (by omega) _ (lv_sub hl [2, 3, 1, 0] rfl)
  exact L4 _ 0 0 (by omega) rfl (Nat.lt_succ_self _) _ (lv_sub hl [2, 3, 1, 0] rfl)
set_option maxHeartbeats 4000000 in
set_option maxRecDepth 100000 in
/-- the zones of the other placement -/
theorem c_X4_layLike (l : Launch) (D : va_G) (cI cZ cQ cJ : ClassId) (a : Nat) (b : Nat) (f : Nat → Int32) (a2 : Nat) (b2 : Nat) (g : Nat → Int32) (sz : Nat)  : Met l yX4_layLike (.code yX4_layLike cX4_layLike 2 none :: ALL) ({ frames := 1, cells := 0, slots := 0, locals := 60 } : Room) (va_Pc [.ref a, .ref a2] (rw_P D cI cZ cQ cJ ((wPl a b cI f) ++ (wPl a2 b2 cI g)) sz)) (va_Qv (fun u9 : Unit => True) (rw_B D (va_A ((wPl a b cI f) ++ (wPl a2 b2 cI g)) sz) (fun u9 : Unit => (wPl a b cI g) ++ (wPl a2 b2 cI g))) (va_A ((wPl a b cI f) ++ (wPl a2 b2 cI g)) sz)) 0 0 (va_A ((wPl a b cI f) ++ (wPl a2 b2 cI g)) sz) := by
  refine Met.ofW (cc := cX4_layLike) (maxL := 2) (ret := none) (by decide) rfl ?_
  intro p e s m args below meth c s₁ B hml hv
  obtain ⟨rfl, hsz, hP, hSt, hD0⟩ := hv
  have hx := B.exec
  have hb := B.bytes
  have hr := B.returns
  have hts : ∀ w ∈ ALL, w.before ([.ref a, .ref a2] : List Value).toArray s = true := fun w h => atoms_spec (ws := (.code yX4_layLike cX4_layLike 2 none :: ALL)) B.pre w (List.mem_cons_of_mem _ h)
  have hown : s.vm.findClass RX4 = some m.cls := findClass_of_methodNamed B.named
  have hlocks := B.notSynchronized
  subst hsz
  have hD := hD0.self (sz := s.heap.size)
  clear hD0
  generalize hAe : va_A ((wPl a b cI f) ++ (wPl a2 b2 cI g)) s.heap.size = A at hD ⊢
  have hA : ∀ q : Nat, s.heap.size ≤ q → A q := fun q h => by rw [← hAe]; exact Or.inr h
  have hS : va_S A s.heap s.heap [] := va_S.rf
  have hl := lv_entry ([.ref a, .ref a2]) (n := 2) (Nat.le_of_ble_eq_true rfl)
  rw [lg_entry_eq]
  generalize (lg_sl ([.ref a, .ref a2]) ++ List.replicate (2 - (lg_sl ([.ref a, .ref a2])).length) Slot.unset).toArray = ls at hl ⊢
  have hl : lv_has ls 2 [(0, .ref a), (1, .ref a2)] := hl
  obtain ⟨H, hHe⟩ : ∃ H : Heap, H = s.heap := ⟨_, rfl⟩
  obtain ⟨locs, hLe⟩ : ∃ L : List Loc, L = [] := ⟨_, rfl⟩
  have hP : va_P D vwCl ((wPl a b cI f) ++ (wPl a2 b2 cI g)) H := by rw [hHe]; exact hP
  have hS : va_S A s.heap H locs := by rw [hHe, hLe]; exact hS
  refine W.eqHL hHe hLe ?_
  refine lv_aload_n hx hb dX4_layLike_0 rfl (lv_at hl 1 rfl) ?_
  refine va_get (D := D) (ci := 4) (v := .ref b2) (C := RX4) (T := TX4) (N := 1) hx hb hts tu_X4 hown hSt.1 hP 2 rfl rfl 0 (by decide) (hts _ t1_130) (fun _ h9 => h9) rfl dX4_layLike_1 ?_
  refine lv_iconst (v := nI 0) hx hb dX4_layLike_4 (by decide) ?_
  refine lv_aload_n hx hb dX4_layLike_5 rfl (lv_at hl 0 rfl) ?_
  refine va_get (D := D) (ci := 4) (v := .ref b) (C := RX4) (T := TX4) (N := 1) hx hb hts tu_X4 hown hSt.1 hP 0 rfl rfl 0 (by decide) (hts _ t1_130) (fun _ h9 => h9) rfl dX4_layLike_6 ?_
  refine lv_iconst (v := nI 0) hx hb dX4_layLike_9 (by decide) ?_
  refine lv_bipush (v := nI 7) hx hb dX4_layLike_10 (by decide) ?_
  refine va_copyi (ty := .int) hx hb (by rw [hml]; exact hl.1.symm) hown (hts _ t1_232) (hts _ t1_234) (hts _ t1_233) (hts _ t1_16) hSt.1 hP hD hS 3 1 0 0 rfl rfl rfl rfl rfl (by decide) (by decide) (by decide) (by decide) (by decide) (fun _ _ => rfl) (Nat.le_of_ble_eq_true rfl) (Nat.le_of_ble_eq_true rfl) dX4_layLike_12 (fun H locs hP hD hS => ?_)
  have hP : va_P D vwCl ((wPl a b cI (va_cpy g f ((nI 0).toNatClampNeg) ((nI 0).toNatClampNeg) ((nI 7).toNatClampNeg))) ++ (wPl a2 b2 cI g)) H := hP
  have hD : va_D A ((wPl a b cI (va_cpy g f ((nI 0).toNatClampNeg) ((nI 0).toNatClampNeg) ((nI 7).toNatClampNeg))) ++ (wPl a2 b2 cI g)) := hD
  obtain ⟨hP, hD⟩ := P_fi hP hD 1 (g) rfl (fun j hj => by rw [va_cpy, if_pos ⟨by show (0 : Nat) ≤ j; omega, by show j < 0 + 7; omega⟩]; show g (0 + (j - 0)) = _; congr 1; omega)
  have hP : va_P D vwCl ((wPl a b cI g) ++ (wPl a2 b2 cI g)) H := hP
  have hD : va_D A ((wPl a b cI g) ++ (wPl a2 b2 cI g)) := hD
  have hP9 : va_P D vwCl ((wPl a b cI g) ++ (wPl a2 b2 cI g)) H := hP
  have hD9 : va_D A ((wPl a b cI g) ++ (wPl a2 b2 cI g)) := hD
  exact W.vret hx hb hr (fun t9 ht9 hW9 => ⟨⟨(), rfl, trivial, by rw [ht9]; exact hP9, hD9⟩, hS.F ht9⟩) hS.2.2 dX4_layLike_15
set_option maxHeartbeats 4000000 in
set_option maxRecDepth 100000 in
/-- the change, if it is the first one, or costs less -/
theorem c_X0_keepIfLess (l : Launch) (D : va_G) (cI cZ cQ cJ : ClassId) (a : Nat) (fo : Int32) (te : Int32) (ot : Int32) (zo : Int32) (co : Int32) (t2 : Int32) (o2 : Int32) (z2 : Int32) (c2 : Int32) (sz : Nat)  : Met l yX0_keepIfLess (.code yX0_keepIfLess cX0_keepIfLess 5 none :: ALL) ({ frames := 0, cells := 0, slots := 0, locals := 0 } : Room) (va_Pc [.ref a, .int t2, .int o2, .int z2, .int c2] (rw_P D cI cZ cQ cJ (wCh a fo te ot zo co) sz)) (va_Qv (fun u9 : Unit => True) (rw_B D (va_A (wCh a fo te ot zo co) sz) (fun u9 : Unit => wCh a (if (fo = 0 ∨ c2 < co) then nI 1 else fo) (if (fo = 0 ∨ c2 < co) then t2 else te) (if (fo = 0 ∨ c2 < co) then o2 else ot) (if (fo = 0 ∨ c2 < co) then z2 else zo) (if (fo = 0 ∨ c2 < co) then c2 else co))) (va_A (wCh a fo te ot zo co) sz)) 0 0 (va_A (wCh a fo te ot zo co) sz) := by
  refine Met.ofW (cc := cX0_keepIfLess) (maxL := 5) (ret := none) (by decide) rfl ?_
  intro p e s m args below meth c s₁ B hml hv
  obtain ⟨rfl, hsz, hP, hSt, hD0⟩ := hv
  have hx := B.exec
  have hb := B.bytes
  have hr := B.returns
  have hts : ∀ w ∈ ALL, w.before ([.ref a, .int t2, .int o2, .int z2, .int c2] : List Value).toArray s = true := fun w h => atoms_spec (ws := (.code yX0_keepIfLess cX0_keepIfLess 5 none :: ALL)) B.pre w (List.mem_cons_of_mem _ h)
  have hown : s.vm.findClass RX0 = some m.cls := findClass_of_methodNamed B.named
  have hlocks := B.notSynchronized
  subst hsz
  have hD := hD0.self (sz := s.heap.size)
  clear hD0
  generalize hAe : va_A (wCh a fo te ot zo co) s.heap.size = A at hD ⊢
  have hA : ∀ q : Nat, s.heap.size ≤ q → A q := fun q h => by rw [← hAe]; exact Or.inr h
  have hS : va_S A s.heap s.heap [] := va_S.rf
  have hl := lv_entry ([.ref a, .int t2, .int o2, .int z2, .int c2]) (n := 5) (Nat.le_of_ble_eq_true rfl)
  rw [lg_entry_eq]
  generalize (lg_sl ([.ref a, .int t2, .int o2, .int z2, .int c2]) ++ List.replicate (5 - (lg_sl ([.ref a, .int t2, .int o2, .int z2, .int c2])).length) Slot.unset).toArray = ls at hl ⊢
  have hl : lv_has ls 5 [(0, .ref a), (1, .int t2), (2, .int o2), (3, .int z2), (4, .int c2)] := hl
  obtain ⟨H, hHe⟩ : ∃ H : Heap, H = s.heap := ⟨_, rfl⟩
  obtain ⟨locs, hLe⟩ : ∃ L : List Loc, L = [] := ⟨_, rfl⟩
  have hP : va_P D vwCl (wCh a fo te ot zo co) H := by rw [hHe]; exact hP
  have hS : va_S A s.heap H locs := by rw [hHe, hLe]; exact hS
  refine W.eqHL hHe hLe ?_
  refine lv_aload_n hx hb dX0_keepIfLess_0 rfl (lv_at hl 0 rfl) ?_
  refine va_get (D := D) (ci := 0) (v := .int fo) (C := RX0) (T := TX0) (N := 5) hx hb hts tu_X0 hown hSt.1 hP 0 rfl rfl 0 (by decide) (hts _ t1_173) (fun _ h9 => h9) rfl dX0_keepIfLess_1 ?_
  refine lv_if_eq (tgt := 17) hx hb dX0_keepIfLess_4 (by decide) (fun c_1 => ?_) (fun c_1 => ?_)
  · refine lv_aload_n hx hb dX0_keepIfLess_17 rfl (lv_at hl 0 rfl) ?_
    refine lv_iconst (v := nI 1) hx hb dX0_keepIfLess_18 (by decide) ?_
    refine va_put (D := D) (ci := 0) (v := .int (nI 1)) (ty := .boolean) (C := RX0) (T := TX0) (N := 5) hx hb hts tu_X0 tyX0 tyX0_ok nmX0 hown hSt.1 hP hD hS 0 rfl rfl 0 (by decide) (hts _ t1_173) (fun _ h9 => h9) rfl (by decide +kernel) rfl rfl (Nat.le_of_ble_eq_true rfl) dX0_keepIfLess_19 (fun H locs hP hD hS => ?_)
    have hP : va_P D vwCl (wCh a (nI 1) te ot zo co) H := hP
    have hD : va_D A (wCh a (nI 1) te ot zo co) := hD
    refine lv_aload_n hx hb dX0_keepIfLess_22 rfl (lv_at hl 0 rfl) ?_
    refine lv_iload_n hx hb dX0_keepIfLess_23 rfl (lv_at hl 1 rfl) ?_
    refine va_put (D := D) (ci := 0) (v := .int t2) (ty := .int) (C := RX0) (T := TX0) (N := 5) hx hb hts tu_X0 tyX0 tyX0_ok nmX0 hown hSt.1 hP hD hS 0 rfl rfl 1 (by decide) (hts _ t1_175) (fun _ h9 => h9) rfl (by decide +kernel) rfl rfl (Nat.le_of_ble_eq_true rfl) dX0_keepIfLess_24 (fun H locs hP hD hS => ?_)
    have hP : va_P D vwCl (wCh a (nI 1) t2 ot zo co) H := hP
    have hD : va_D A (wCh a (nI 1) t2 ot zo co) := hD
    refine lv_aload_n hx hb dX0_keepIfLess_27 rfl (lv_at hl 0 rfl) ?_
    refine lv_iload_n hx hb dX0_keepIfLess_28 rfl (lv_at hl 2 rfl) ?_
    refine va_put (D := D) (ci := 0) (v := .int o2) (ty := .int) (C := RX0) (T := TX0) (N := 5) hx hb hts tu_X0 tyX0 tyX0_ok nmX0 hown hSt.1 hP hD hS 0 rfl rfl 2 (by decide) (hts _ t1_177) (fun _ h9 => h9) rfl (by decide +kernel) rfl rfl (Nat.le_of_ble_eq_true rfl) dX0_keepIfLess_29 (fun H locs hP hD hS => ?_)
    have hP : va_P D vwCl (wCh a (nI 1) t2 o2 zo co) H := hP
    have hD : va_D A (wCh a (nI 1) t2 o2 zo co) := hD
    refine lv_aload_n hx hb dX0_keepIfLess_32 rfl (lv_at hl 0 rfl) ?_
    refine lv_iload_n hx hb dX0_keepIfLess_33 rfl (lv_at hl 3 rfl) ?_
    refine va_put (D := D) (ci := 0) (v := .int z2) (ty := .int) (C := RX0) (T := TX0) (N := 5) hx hb hts tu_X0 tyX0 tyX0_ok nmX0 hown hSt.1 hP hD hS 0 rfl rfl 3 (by decide) (hts _ t1_179) (fun _ h9 => h9) rfl (by decide +kernel) rfl rfl (Nat.le_of_ble_eq_true rfl) dX0_keepIfLess_34 (fun H locs hP hD hS => ?_)
    have hP : va_P D vwCl (wCh a (nI 1) t2 o2 z2 co) H := hP
    have hD : va_D A (wCh a (nI 1) t2 o2 z2 co) := hD
    refine lv_aload_n hx hb dX0_keepIfLess_37 rfl (lv_at hl 0 rfl) ?_
    refine lv_iload hx hb dX0_keepIfLess_38 (lv_at hl 4 rfl) ?_
    refine va_put (D := D) (ci := 0) (v := .int c2) (ty := .int) (C := RX0) (T := TX0) (N := 5) hx hb hts tu_X0 tyX0 tyX0_ok nmX0 hown hSt.1 hP hD hS 0 rfl rfl 4 (by decide) (hts _ t1_181) (fun _ h9 => h9) rfl (by decide +kernel) rfl rfl (Nat.le_of_ble_eq_true rfl) dX0_keepIfLess_40 (fun H locs hP hD hS => ?_)
    have hP : va_P D vwCl (wCh a (nI 1) t2 o2 z2 c2) H := hP
    have hD : va_D A (wCh a (nI 1) t2 o2 z2 c2) := hD
    have e9 : (fo = 0 ∨ c2 < co) := Or.inl c_1
    have hP9 : va_P D vwCl (wCh a (if (fo = 0 ∨ c2 < co) then nI 1 else fo) (if (fo = 0 ∨ c2 < co) then t2 else te) (if (fo = 0 ∨ c2 < co) then o2 else ot) (if (fo = 0 ∨ c2 < co) then z2 else zo) (if (fo = 0 ∨ c2 < co) then c2 else co)) H := by simp only [if_pos e9]; exact hP
    have hD9 : va_D A (wCh a (if (fo = 0 ∨ c2 < co) then nI 1 else fo) (if (fo = 0 ∨ c2 < co) then t2 else te) (if (fo = 0 ∨ c2 < co) then o2 else ot) (if (fo = 0 ∨ c2 < co) then z2 else zo) (if (fo = 0 ∨ c2 < co) then c2 else co)) := by simp only [if_pos e9]; exact hD
    exact W.vret hx hb hr (fun t9 ht9 hW9 => ⟨⟨(), rfl, trivial, by rw [ht9]; exact hP9, hD9⟩, hS.F ht9⟩) hS.2.2 dX0_keepIfLess_43
  · refine lv_iload hx hb dX0_keepIfLess_7 (lv_at hl 4 rfl) ?_
    refine lv_aload_n hx hb dX0_keepIfLess_9 rfl (lv_at hl 0 rfl) ?_
    refine va_get (D := D) (ci := 0) (v := .int co) (C := RX0) (T := TX0) (N := 5) hx hb hts tu_X0 hown hSt.1 hP 0 rfl rfl 4 (by decide) (hts _ t1_181) (fun _ h9 => h9) rfl dX0_keepIfLess_10 ?_
    refine lv_icmp_lt (tgt := 17) hx hb dX0_keepIfLess_13 (by decide) (fun c_2 => ?_) (fun c_2 => ?_)
    · refine lv_aload_n hx hb dX0_keepIfLess_17 rfl (lv_at hl 0 rfl) ?_
      refine lv_iconst (v := nI 1) hx hb dX0_keepIfLess_18 (by decide) ?_
      refine va_put (D := D) (ci := 0) (v := .int (nI 1)) (ty := .boolean) (C := RX0) (T := TX0) (N := 5) hx hb hts tu_X0 tyX0 tyX0_ok nmX0 hown hSt.1 hP hD hS 0 rfl rfl 0 (by decide) (hts _ t1_173) (fun _ h9 => h9) rfl (by decide +kernel) rfl rfl (Nat.le_of_ble_eq_true rfl) dX0_keepIfLess_19 (fun H locs hP hD hS => ?_)
      have hP : va_P D vwCl (wCh a (nI 1) te ot zo co) H := hP
      have hD : va_D A (wCh a (nI 1) te ot zo co) := hD
      refine lv_aload_n hx hb dX0_keepIfLess_22 rfl (lv_at hl 0 rfl) ?_
      refine lv_iload_n hx hb dX0_keepIfLess_23 rfl (lv_at hl 1 rfl) ?_
      refine va_put (D := D) (ci := 0) (v := .int t2) (ty := .int) (C := RX0) (T := TX0) (N := 5) hx hb hts tu_X0 tyX0 tyX0_ok nmX0 hown hSt.1 hP hD hS 0 rfl rfl 1 (by decide) (hts _ t1_175) (fun _ h9 => h9) rfl (by decide +kernel) rfl rfl (Nat.le_of_ble_eq_true rfl) dX0_keepIfLess_24 (fun H locs hP hD hS => ?_)
      have hP : va_P D vwCl (wCh a (nI 1) t2 ot zo co) H := hP
      have hD : va_D A (wCh a (nI 1) t2 ot zo co) := hD
      refine lv_aload_n hx hb dX0_keepIfLess_27 rfl (lv_at hl 0 rfl) ?_
      refine lv_iload_n hx hb dX0_keepIfLess_28 rfl (lv_at hl 2 rfl) ?_
      refine va_put (D := D) (ci := 0) (v := .int o2) (ty := .int) (C := RX0) (T := TX0) (N := 5) hx hb hts tu_X0 tyX0 tyX0_ok nmX0 hown hSt.1 hP hD hS 0 rfl rfl 2 (by decide) (hts _ t1_177) (fun _ h9 => h9) rfl (by decide +kernel) rfl rfl (Nat.le_of_ble_eq_true rfl) dX0_keepIfLess_29 (fun H locs hP hD hS => ?_)
      have hP : va_P D vwCl (wCh a (nI 1) t2 o2 zo co) H := hP
      have hD : va_D A (wCh a (nI 1) t2 o2 zo co) := hD
      refine lv_aload_n hx hb dX0_keepIfLess_32 rfl (lv_at hl 0 rfl) ?_
      refine lv_iload_n hx hb dX0_keepIfLess_33 rfl (lv_at hl 3 rfl) ?_
      refine va_put (D := D) (ci := 0) (v := .int z2) (ty := .int) (C := RX0) (T := TX0) (N := 5) hx hb hts tu_X0 tyX0 tyX0_ok nmX0 hown hSt.1 hP hD hS 0 rfl rfl 3 (by decide) (hts _ t1_179) (fun _ h9 => h9) rfl (by decide +kernel) rfl rfl (Nat.le_of_ble_eq_true rfl) dX0_keepIfLess_34 (fun H locs hP hD hS => ?_)
      have hP : va_P D vwCl (wCh a (nI 1) t2 o2 z2 co) H := hP
      have hD : va_D A (wCh a (nI 1) t2 o2 z2 co) := hD
      refine lv_aload_n hx hb dX0_keepIfLess_37 rfl (lv_at hl 0 rfl) ?_
      refine lv_iload hx hb dX0_keepIfLess_38 (lv_at hl 4 rfl) ?_
      refine va_put (D := D) (ci := 0) (v := .int c2) (ty := .int) (C := RX0) (T := TX0) (N := 5) hx hb hts tu_X0 tyX0 tyX0_ok nmX0 hown hSt.1 hP hD hS 0 rfl rfl 4 (by decide) (hts _ t1_181) (fun _ h9 => h9) rfl (by decide +kernel) rfl rfl (Nat.le_of_ble_eq_true rfl) dX0_keepIfLess_40 (fun H locs hP hD hS => ?_)
      have hP : va_P D vwCl (wCh a (nI 1) t2 o2 z2 c2) H := hP
      have hD : va_D A (wCh a (nI 1) t2 o2 z2 c2) := hD
      have e9 : (fo = 0 ∨ c2 < co) := Or.inr c_2
      have hP9 : va_P D vwCl (wCh a (if (fo = 0 ∨ c2 < co) then nI 1 else fo) (if (fo = 0 ∨ c2 < co) then t2 else te) (if (fo = 0 ∨ c2 < co) then o2 else ot) (if (fo = 0 ∨ c2 < co) then z2 else zo) (if (fo = 0 ∨ c2 < co) then c2 else co)) H := by simp only [if_pos e9]; exact hP
      have hD9 : va_D A (wCh a (if (fo = 0 ∨ c2 < co) then nI 1 else fo) (if (fo = 0 ∨ c2 < co) then t2 else te) (if (fo = 0 ∨ c2 < co) then o2 else ot) (if (fo = 0 ∨ c2 < co) then z2 else zo) (if (fo = 0 ∨ c2 < co) then c2 else co)) := by simp only [if_pos e9]; exact hD
      exact W.vret hx hb hr (fun t9 ht9 hW9 => ⟨⟨(), rfl, trivial, by rw [ht9]; exact hP9, hD9⟩, hS.F ht9⟩) hS.2.2 dX0_keepIfLess_43
    · have e9 : ¬ (fo = 0 ∨ c2 < co) := fun q => q.elim c_1 c_2
      have hP9 : va_P D vwCl (wCh a (if (fo = 0 ∨ c2 < co) then nI 1 else fo) (if (fo = 0 ∨ c2 < co) then t2 else te) (if (fo = 0 ∨ c2 < co) then o2 else ot) (if (fo = 0 ∨ c2 < co) then z2 else zo) (if (fo = 0 ∨ c2 < co) then c2 else co)) H := by simp only [if_neg e9]; exact hP
      have hD9 : va_D A (wCh a (if (fo = 0 ∨ c2 < co) then nI 1 else fo) (if (fo = 0 ∨ c2 < co) then t2 else te) (if (fo = 0 ∨ c2 < co) then o2 else ot) (if (fo = 0 ∨ c2 < co) then z2 else zo) (if (fo = 0 ∨ c2 < co) then c2 else co)) := by simp only [if_neg e9]; exact hD
      exact W.vret hx hb hr (fun t9 ht9 hW9 => ⟨⟨(), rfl, trivial, by rw [ht9]; exact hP9, hD9⟩, hS.F ht9⟩) hS.2.2 dX0_keepIfLess_16
set_option maxHeartbeats 4000000 in
set_option maxRecDepth 100000 in
/-- Office() -/
theorem c_X3_init (l : Launch) (D : va_G) (cI cZ cQ cJ : ClassId) (a : Nat) (sz : Nat)  : Met l yX3_init (.code yX3_init cX3_init 1 none :: ALL) ({ frames := 2, cells := 40, slots := 436, locals := 36 } : Room) (va_Pc [.ref a] (rw_P D cI cZ cQ cJ ([(a, .inr (3, [.null, .null]))] : va_W) sz)) (va_Qv (fun u9 : (Nat → Nat) × (Nat → Nat) × (Nat → Nat) × (Nat → Nat) × (Nat → Nat) × (Nat → Nat) => True) (rw_B D (va_A ([(a, .inr (3, [.null, .null]))] : va_W) sz) (fun u9 : (Nat → Nat) × (Nat → Nat) × (Nat → Nat) × (Nat → Nat) × (Nat → Nat) × (Nat → Nat) => (wOf a (u9.1 0) (u9.2.2.1 0)) ++ ((wFl u9.1 u9.2.1 cI cZ cQ (fun _ => nI 0) (fun _ => nI 0) (fun _ => nI 0) (fun _ _ => nI 0) (fun _ => nI 0) (fun _ => nI 0) (nI 0) (nI 0)) ++ (wSt u9.2.2.1 u9.2.2.2.1 u9.2.2.2.2.1 u9.2.2.2.2.2 cI cQ (fun _ _ => nI 0) (fun _ => nI 0) (fun _ _ => nI 0) (fun _ _ => nI 0) (nI 0))))) (va_A ([(a, .inr (3, [.null, .null]))] : va_W) sz)) 40 436 (va_A ([(a, .inr (3, [.null, .null]))] : va_W) sz) := by
  refine Met.ofW (cc := cX3_init) (maxL := 1) (ret := none) (by decide) rfl ?_
  intro p e s m args below meth c s₁ B hml hv
  obtain ⟨rfl, hsz, hP, hSt, hD0⟩ := hv
  have hx := B.exec
  have hb := B.bytes
  have hr := B.returns
  have hts : ∀ w ∈ ALL, w.before ([.ref a] : List Value).toArray s = true := fun w h => atoms_spec (ws := (.code yX3_init cX3_init 1 none :: ALL)) B.pre w (List.mem_cons_of_mem _ h)
  have hown : s.vm.findClass RX3 = some m.cls := findClass_of_methodNamed B.named
  have hlocks := B.notSynchronized
  have hin : meth.name = "<init>" := (name_of_methodNamed B.named B.method).1
  subst hsz
  have hD := hD0.self (sz := s.heap.size)
  clear hD0
  generalize hAe : va_A ([(a, .inr (3, [.null, .null]))] : va_W) s.heap.size = A at hD ⊢
  have hA : ∀ q : Nat, s.heap.size ≤ q → A q := fun q h => by rw [← hAe]; exact Or.inr h
  have hS : va_S A s.heap s.heap [] := va_S.rf
  have hl := lv_entry ([.ref a]) (n := 1) (Nat.le_of_ble_eq_true rfl)
  rw [lg_entry_eq]
  generalize (lg_sl ([.ref a]) ++ List.replicate (1 - (lg_sl ([.ref a])).length) Slot.unset).toArray = ls at hl ⊢
  have hl : lv_has ls 1 [(0, .ref a)] := hl
  obtain ⟨H, hHe⟩ : ∃ H : Heap, H = s.heap := ⟨_, rfl⟩
  obtain ⟨locs, hLe⟩ : ∃ L : List Loc, L = [] := ⟨_, rfl⟩
  have hP : va_P D vwCl ([(a, .inr (3, [.null, .null]))] : va_W) H := by rw [hHe]; exact hP
  have hS : va_S A s.heap H locs := by rw [hHe, hLe]; exact hS
  refine W.eqHL hHe hLe ?_
  refine lv_aload_n hx hb dX3_init_0 rfl (lv_at hl 0 rfl) ?_
  refine W.objInit hx hb hown (hts _ t1_31) (hts _ t1_24) (hts _ t1_25) rfl (by rw [hml]; exact hl.1) rfl dX3_init_1 (Nat.le_of_ble_eq_true rfl) (Nat.le_of_ble_eq_true rfl) ?_
  refine W.eq (g2 := F0 m 4 ls []) rfl ?_
  refine lv_aload_n hx hb dX3_init_4 rfl (lv_at hl 0 rfl) ?_
  refine va_new (ci := 1) (fs := [.null, .null, .null, .null, .null, .null, .int (nI 0), .int (nI 0)]) (C := RX1) (T := TX1) (N := 8) hx hb hts tu_X1 tyX1 tyX1_ok hown (hts _ t1_32) (hts _ t1_33) (hts _ t1_3) hSt.1 hP hD hS hA rfl (fun j hj => by rcases (show j = 0 ∨ j = 1 ∨ j = 2 ∨ j = 3 ∨ j = 4 ∨ j = 5 ∨ j = 6 ∨ j = 7 by omega) with rfl | rfl | rfl | rfl | rfl | rfl | rfl | rfl <;> rfl) (Nat.le_of_ble_eq_true rfl) (Nat.le_of_ble_eq_true rfl) dX3_init_5 (fun q_1 H hP hD hS => ?_)
  have hP : va_P D vwCl (([(a, .inr (3, [.null, .null]))] : va_W) ++ ([(q_1, .inr (1, [.null, .null, .null, .null, .null, .null, .int (nI 0), .int (nI 0)]))] : va_W)) H := hP
  have hD : va_D A (([(a, .inr (3, [.null, .null]))] : va_W) ++ ([(q_1, .inr (1, [.null, .null, .null, .null, .null, .null, .int (nI 0), .int (nI 0)]))] : va_W)) := hD
  refine lv_dup hx hb dX3_init_8 rfl ?_
  refine rw_v (wr := ([(a, .inr (3, [.null, .null]))] : va_W)) (w_IN (As := []) ⟨hx, hb, hml, hown, hts⟩ (c_X1_init l D cI cZ cQ cJ q_1 H.size) (hSt.2.m 1 rfl) t1_35 t1_3 t1_36 rfl rfl hd_X1_init ⟨Nat.le_of_ble_eq_true rfl, Nat.le_of_ble_eq_true rfl⟩ (rw_pre hP hD hSt [1] rfl (by decide)) rfl hl.1 (rest := [.ref q_1, .ref a]) rfl (Nat.le_of_ble_eq_true rfl) dX3_init_9 ⟨Nat.le_of_ble_eq_true rfl, Nat.le_of_ble_eq_true rfl⟩) hP hD hS hA [1] [0] rfl rfl (by decide) (by decide) (fun u_4 H locs hw hP hD hS => ?_)
  obtain ⟨j_2, j_3⟩ := u_4
  have f_5 := hw
  have f_5x : j_2 0 = q_1 := f_5
  have hP : va_P D vwCl (([(a, .inr (3, [.null, .null]))] : va_W) ++ (wFl j_2 j_3 cI cZ cQ (fun _ => nI 0) (fun _ => nI 0) (fun _ => nI 0) (fun _ _ => nI 0) (fun _ => nI 0) (fun _ => nI 0) (nI 0) (nI 0))) H := hP
  have hD : va_D A (([(a, .inr (3, [.null, .null]))] : va_W) ++ (wFl j_2 j_3 cI cZ cQ (fun _ => nI 0) (fun _ => nI 0) (fun _ => nI 0) (fun _ _ => nI 0) (fun _ => nI 0) (fun _ => nI 0) (nI 0) (nI 0))) := hD
  have hP77 := hP
  have hD77 := hD
  subst f_5x
  have hP := hP77
  have hD := hD77
  refine va_putF (D := D) (ci := 3) (v := .ref (j_2 0)) (ty := (.object "DeskPlanner$Floor")) (C := RX3) (T := TX3) (N := 2) hx hb hts tu_X3 tyX3 tyX3_ok nmX3 hown hSt.1 hP hD hS 0 rfl rfl 0 (by decide) (hts _ t1_108) (fun _ h9 => h9) rfl hin rfl (by decide +kernel) rfl rfl (Nat.le_of_ble_eq_true rfl) dX3_init_12 (fun H locs hP hD hS => ?_)
  have hP : va_P D vwCl (([(a, .inr (3, [.ref (j_2 0), .null]))] : va_W) ++ (wFl j_2 j_3 cI cZ cQ (fun _ => nI 0) (fun _ => nI 0) (fun _ => nI 0) (fun _ _ => nI 0) (fun _ => nI 0) (fun _ => nI 0) (nI 0) (nI 0))) H := hP
  have hD : va_D A (([(a, .inr (3, [.ref (j_2 0), .null]))] : va_W) ++ (wFl j_2 j_3 cI cZ cQ (fun _ => nI 0) (fun _ => nI 0) (fun _ => nI 0) (fun _ _ => nI 0) (fun _ => nI 0) (fun _ => nI 0) (nI 0) (nI 0))) := hD
  refine lv_aload_n hx hb dX3_init_15 rfl (lv_at hl 0 rfl) ?_
  refine va_new (ci := 5) (fs := [.null, .null, .null, .null, .int (nI 0)]) (C := RX5) (T := TX5) (N := 5) hx hb hts tu_X5 tyX5 tyX5_ok hown (hts _ t1_74) (hts _ t1_75) (hts _ t1_4) hSt.1 hP hD hS hA rfl (fun j hj => by rcases (show j = 0 ∨ j = 1 ∨ j = 2 ∨ j = 3 ∨ j = 4 by omega) with rfl | rfl | rfl | rfl | rfl <;> rfl) (Nat.le_of_ble_eq_true rfl) (Nat.le_of_ble_eq_true rfl) dX3_init_16 (fun q_6 H hP hD hS => ?_)
  have hP : va_P D vwCl ((([(a, .inr (3, [.ref (j_2 0), .null]))] : va_W) ++ (wFl j_2 j_3 cI cZ cQ (fun _ => nI 0) (fun _ => nI 0) (fun _ => nI 0) (fun _ _ => nI 0) (fun _ => nI 0) (fun _ => nI 0) (nI 0) (nI 0))) ++ ([(q_6, .inr (5, [.null, .null, .null, .null, .int (nI 0)]))] : va_W)) H := hP
  have hD : va_D A ((([(a, .inr (3, [.ref (j_2 0), .null]))] : va_W) ++ (wFl j_2 j_3 cI cZ cQ (fun _ => nI 0) (fun _ => nI 0) (fun _ => nI 0) (fun _ _ => nI 0) (fun _ => nI 0) (fun _ => nI 0) (nI 0) (nI 0))) ++ ([(q_6, .inr (5, [.null, .null, .null, .null, .int (nI 0)]))] : va_W)) := hD
  refine lv_dup hx hb dX3_init_19 rfl ?_
  refine rw_v (wr := ([(a, .inr (3, [.ref (j_2 0), .null]))] : va_W) ++ (wFl j_2 j_3 cI cZ cQ (fun _ => nI 0) (fun _ => nI 0) (fun _ => nI 0) (fun _ _ => nI 0) (fun _ => nI 0) (fun _ => nI 0) (nI 0) (nI 0))) (w_IN (As := []) ⟨hx, hb, hml, hown, hts⟩ (c_X5_init l D cI cZ cQ cJ q_6 H.size) (hSt.2.m 2 rfl) t1_77 t1_4 t1_78 rfl rfl hd_X5_init ⟨Nat.le_of_ble_eq_true rfl, Nat.le_of_ble_eq_true rfl⟩ (rw_pre hP hD hSt [15] rfl (by decide)) rfl hl.1 (rest := [.ref q_6, .ref a]) rfl (Nat.le_of_ble_eq_true rfl) dX3_init_20 ⟨Nat.le_of_ble_eq_true rfl, Nat.le_of_ble_eq_true rfl⟩) hP hD hS hA [15] [0, 1, 2, 3, 4, 5, 6, 7, 8, 9, 10, 11, 12, 13, 14] rfl rfl (by decide) (by decide) (fun u_11 H locs hw hP hD hS => ?_)
  obtain ⟨j_7, j_8, j_9, j_10⟩ := u_11
  have f_12 := hw
  have f_12x : j_7 0 = q_6 := f_12
  have hP : va_P D vwCl ((([(a, .inr (3, [.ref (j_2 0), .null]))] : va_W) ++ (wFl j_2 j_3 cI cZ cQ (fun _ => nI 0) (fun _ => nI 0) (fun _ => nI 0) (fun _ _ => nI 0) (fun _ => nI 0) (fun _ => nI 0) (nI 0) (nI 0))) ++ (wSt j_7 j_8 j_9 j_10 cI cQ (fun _ _ => nI 0) (fun _ => nI 0) (fun _ _ => nI 0) (fun _ _ => nI 0) (nI 0))) H := hP
  have hD : va_D A ((([(a, .inr (3, [.ref (j_2 0), .null]))] : va_W) ++ (wFl j_2 j_3 cI cZ cQ (fun _ => nI 0) (fun _ => nI 0) (fun _ => nI 0) (fun _ _ => nI 0) (fun _ => nI 0) (fun _ => nI 0) (nI 0) (nI 0))) ++ (wSt j_7 j_8 j_9 j_10 cI cQ (fun _ _ => nI 0) (fun _ => nI 0) (fun _ _ => nI 0) (fun _ _ => nI 0) (nI 0))) := hD
  have hP77 := hP
  have hD77 := hD
  subst f_12x
  have hP := hP77
  have hD := hD77
  refine va_putF (D := D) (ci := 3) (v := .ref (j_7 0)) (ty := (.object "DeskPlanner$Staff")) (C := RX3) (T := TX3) (N := 2) hx hb hts tu_X3 tyX3 tyX3_ok nmX3 hown hSt.1 hP hD hS 0 rfl rfl 1 (by decide) (hts _ t1_112) (fun _ h9 => h9) rfl hin rfl (by decide +kernel) rfl rfl (Nat.le_of_ble_eq_true rfl) dX3_init_23 (fun H locs hP hD hS => ?_)
  have hP : va_P D vwCl ((([(a, .inr (3, [.ref (j_2 0), .ref (j_7 0)]))] : va_W) ++ (wFl j_2 j_3 cI cZ cQ (fun _ => nI 0) (fun _ => nI 0) (fun _ => nI 0) (fun _ _ => nI 0) (fun _ => nI 0) (fun _ => nI 0) (nI 0) (nI 0))) ++ (wSt j_7 j_8 j_9 j_10 cI cQ (fun _ _ => nI 0) (fun _ => nI 0) (fun _ _ => nI 0) (fun _ _ => nI 0) (nI 0))) H := hP
  have hD : va_D A ((([(a, .inr (3, [.ref (j_2 0), .ref (j_7 0)]))] : va_W) ++ (wFl j_2 j_3 cI cZ cQ (fun _ => nI 0) (fun _ => nI 0) (fun _ => nI 0) (fun _ _ => nI 0) (fun _ => nI 0) (fun _ => nI 0) (nI 0) (nI 0))) ++ (wSt j_7 j_8 j_9 j_10 cI cQ (fun _ _ => nI 0) (fun _ => nI 0) (fun _ _ => nI 0) (fun _ _ => nI 0) (nI 0))) := hD
  have hP9 : va_P D vwCl ((wOf a (j_2 0) (j_7 0)) ++ ((wFl j_2 j_3 cI cZ cQ (fun _ => nI 0) (fun _ => nI 0) (fun _ => nI 0) (fun _ _ => nI 0) (fun _ => nI 0) (fun _ => nI 0) (nI 0) (nI 0)) ++ (wSt j_7 j_8 j_9 j_10 cI cQ (fun _ _ => nI 0) (fun _ => nI 0) (fun _ _ => nI 0) (fun _ _ => nI 0) (nI 0)))) H := (show va_P D vwCl ((wOf a (j_2 0) (j_7 0)) ++ ((wFl j_2 j_3 cI cZ cQ (fun _ => nI 0) (fun _ => nI 0) (fun _ => nI 0) (fun _ _ => nI 0) (fun _ => nI 0) (fun _ => nI 0) (nI 0) (nI 0)) ++ (wSt j_7 j_8 j_9 j_10 cI cQ (fun _ _ => nI 0) (fun _ => nI 0) (fun _ _ => nI 0) (fun _ _ => nI 0) (nI 0)))) H from hP)
  have hD9 : va_D A ((wOf a (j_2 0) (j_7 0)) ++ ((wFl j_2 j_3 cI cZ cQ (fun _ => nI 0) (fun _ => nI 0) (fun _ => nI 0) (fun _ _ => nI 0) (fun _ => nI 0) (fun _ => nI 0) (nI 0) (nI 0)) ++ (wSt j_7 j_8 j_9 j_10 cI cQ (fun _ _ => nI 0) (fun _ => nI 0) (fun _ _ => nI 0) (fun _ _ => nI 0) (nI 0)))) := (show va_D A ((wOf a (j_2 0) (j_7 0)) ++ ((wFl j_2 j_3 cI cZ cQ (fun _ => nI 0) (fun _ => nI 0) (fun _ => nI 0) (fun _ _ => nI 0) (fun _ => nI 0) (fun _ => nI 0) (nI 0) (nI 0)) ++ (wSt j_7 j_8 j_9 j_10 cI cQ (fun _ _ => nI 0) (fun _ => nI 0) (fun _ _ => nI 0) (fun _ _ => nI 0) (nI 0)))) from hD)
  refine W.widen (k := 40) (n := 436) (by omega) (by omega) ?_
  exact W.vret hx hb hr (fun t9 ht9 hW9 => ⟨⟨(j_2, j_3, j_7, j_8, j_9, j_10), rfl, trivial, by rw [ht9]; exact hP9, hD9⟩, hS.F ht9⟩) hS.2.2 dX3_init_26
set_option maxHeartbeats 4000000 in
set_option maxRecDepth 100000 in
/-- FullSearch() -/
theorem c_X2_init (l : Launch) (D : va_G) (cI cZ cQ cJ : ClassId) (a : Nat) (sz : Nat)  : Met l yX2_init (.code yX2_init cX2_init 1 none :: ALL) ({ frames := 2, cells := 5, slots := 23, locals := 43 } : Room) (va_Pc [.ref a] (rw_P D cI cZ cQ cJ ([(a, .inr (2, [.null, .null, .null, .int (nI 0), .int (nI 0)]))] : va_W) sz)) (va_Qv (fun u9 : (Nat → Nat) => u9 0 = a) (rw_B D (va_A ([(a, .inr (2, [.null, .null, .null, .int (nI 0), .int (nI 0)]))] : va_W) sz) (fun u9 : (Nat → Nat) => wFs u9 cI cZ (fun _ => (-1 : Int32)) (fun _ => (-1 : Int32)) (fun _ => nI 0) (nI 0) (-1 : Int32))) (va_A ([(a, .inr (2, [.null, .null, .null, .int (nI 0), .int (nI 0)]))] : va_W) sz)) 5 23 (va_A ([(a, .inr (2, [.null, .null, .null, .int (nI 0), .int (nI 0)]))] : va_W) sz) := by
  refine Met.ofW (cc := cX2_init) (maxL := 1) (ret := none) (by decide) rfl ?_
  intro p e s m args below meth c s₁ B hml hv
  obtain ⟨rfl, hsz, hP, hSt, hD0⟩ := hv
  have hx := B.exec
  have hb := B.bytes
  have hr := B.returns
  have hts : ∀ w ∈ ALL, w.before ([.ref a] : List Value).toArray s = true := fun w h => atoms_spec (ws := (.code yX2_init cX2_init 1 none :: ALL)) B.pre w (List.mem_cons_of_mem _ h)
  have hown : s.vm.findClass RX2 = some m.cls := findClass_of_methodNamed B.named
  have hlocks := B.notSynchronized
  have hin : meth.name = "<init>" := (name_of_methodNamed B.named B.method).1
  subst hsz
  have hD := hD0.self (sz := s.heap.size)
  clear hD0
  generalize hAe : va_A ([(a, .inr (2, [.null, .null, .null, .int (nI 0), .int (nI 0)]))] : va_W) s.heap.size = A at hD ⊢
  have hA : ∀ q : Nat, s.heap.size ≤ q → A q := fun q h => by rw [← hAe]; exact Or.inr h
  have hS : va_S A s.heap s.heap [] := va_S.rf
  have hl := lv_entry ([.ref a]) (n := 1) (Nat.le_of_ble_eq_true rfl)
  rw [lg_entry_eq]
  generalize (lg_sl ([.ref a]) ++ List.replicate (1 - (lg_sl ([.ref a])).length) Slot.unset).toArray = ls at hl ⊢
  have hl : lv_has ls 1 [(0, .ref a)] := hl
  obtain ⟨H, hHe⟩ : ∃ H : Heap, H = s.heap := ⟨_, rfl⟩
  obtain ⟨locs, hLe⟩ : ∃ L : List Loc, L = [] := ⟨_, rfl⟩
  have hP : va_P D vwCl ([(a, .inr (2, [.null, .null, .null, .int (nI 0), .int (nI 0)]))] : va_W) H := by rw [hHe]; exact hP
  have hS : va_S A s.heap H locs := by rw [hHe, hLe]; exact hS
  refine W.eqHL hHe hLe ?_
  refine lv_aload_n hx hb dX2_init_0 rfl (lv_at hl 0 rfl) ?_
  refine W.objInit hx hb hown (hts _ t1_139) (hts _ t1_24) (hts _ t1_25) rfl (by rw [hml]; exact hl.1) rfl dX2_init_1 (Nat.le_of_ble_eq_true rfl) (Nat.le_of_ble_eq_true rfl) ?_
  refine W.eq (g2 := F0 m 4 ls []) rfl ?_
  refine lv_aload_n hx hb dX2_init_4 rfl (lv_at hl 0 rfl) ?_
  refine va_new (ci := 4) (fs := [.null]) (C := RX4) (T := TX4) (N := 1) hx hb hts tu_X4 tyX4 tyX4_ok hown (hts _ t1_140) (hts _ t1_122) (hts _ t1_5) hSt.1 hP hD hS hA rfl (fun j hj => by rcases (show j = 0 by omega) with rfl <;> rfl) (Nat.le_of_ble_eq_true rfl) (Nat.le_of_ble_eq_true rfl) dX2_init_5 (fun q_1 H hP hD hS => ?_)
  have hP : va_P D vwCl (([(a, .inr (2, [.null, .null, .null, .int (nI 0), .int (nI 0)]))] : va_W) ++ ([(q_1, .inr (4, [.null]))] : va_W)) H := hP
  have hD : va_D A (([(a, .inr (2, [.null, .null, .null, .int (nI 0), .int (nI 0)]))] : va_W) ++ ([(q_1, .inr (4, [.null]))] : va_W)) := hD
  refine lv_dup hx hb dX2_init_8 rfl ?_
  refine rw_v (wr := ([(a, .inr (2, [.null, .null, .null, .int (nI 0), .int (nI 0)]))] : va_W)) (w_I (As := []) ⟨hx, hb, hml, hown, hts⟩ (c_X4_init l D cI cZ cQ cJ q_1 H.size) t1_141 t1_124 t1_5 t1_125 rfl rfl hd_X4_init ⟨Nat.le_of_ble_eq_true rfl, Nat.le_of_ble_eq_true rfl⟩ (rw_pre hP hD hSt [1] rfl (by decide)) rfl hl.1 (rest := [.ref q_1, .ref a]) rfl (Nat.le_of_ble_eq_true rfl) dX2_init_9 ⟨Nat.le_of_ble_eq_true rfl, Nat.le_of_ble_eq_true rfl⟩) hP hD hS hA [1] [0] rfl rfl (by decide) (by decide) (fun u_3 H locs hw hP hD hS => ?_)
  obtain ⟨j_2, rfl⟩ : ∃ z9, z9 = u_3 := ⟨_, rfl⟩
  have hP : va_P D vwCl (([(a, .inr (2, [.null, .null, .null, .int (nI 0), .int (nI 0)]))] : va_W) ++ (wPl q_1 j_2 cI (fun _ => (-1 : Int32)))) H := hP
  have hD : va_D A (([(a, .inr (2, [.null, .null, .null, .int (nI 0), .int (nI 0)]))] : va_W) ++ (wPl q_1 j_2 cI (fun _ => (-1 : Int32)))) := hD
  refine va_putF (D := D) (ci := 2) (v := .ref q_1) (ty := (.object "DeskPlanner$Placement")) (C := RX2) (T := TX2) (N := 5) hx hb hts tu_X2 tyX2 tyX2_ok nmX2 hown hSt.1 hP hD hS 0 rfl rfl 0 (by decide) (hts _ t1_142) (fun _ h9 => h9) rfl hin rfl (by decide +kernel) rfl rfl (Nat.le_of_ble_eq_true rfl) dX2_init_12 (fun H locs hP hD hS => ?_)
  have hP : va_P D vwCl (([(a, .inr (2, [.ref q_1, .null, .null, .int (nI 0), .int (nI 0)]))] : va_W) ++ (wPl q_1 j_2 cI (fun _ => (-1 : Int32)))) H := hP
  have hD : va_D A (([(a, .inr (2, [.ref q_1, .null, .null, .int (nI 0), .int (nI 0)]))] : va_W) ++ (wPl q_1 j_2 cI (fun _ => (-1 : Int32)))) := hD
  refine lv_aload_n hx hb dX2_init_15 rfl (lv_at hl 0 rfl) ?_
  refine va_new (ci := 4) (fs := [.null]) (C := RX4) (T := TX4) (N := 1) hx hb hts tu_X4 tyX4 tyX4_ok hown (hts _ t1_140) (hts _ t1_122) (hts _ t1_5) hSt.1 hP hD hS hA rfl (fun j hj => by rcases (show j = 0 by omega) with rfl <;> rfl) (Nat.le_of_ble_eq_true rfl) (Nat.le_of_ble_eq_true rfl) dX2_init_16 (fun q_4 H hP hD hS => ?_)
  have hP : va_P D vwCl ((([(a, .inr (2, [.ref q_1, .null, .null, .int (nI 0), .int (nI 0)]))] : va_W) ++ (wPl q_1 j_2 cI (fun _ => (-1 : Int32)))) ++ ([(q_4, .inr (4, [.null]))] : va_W)) H := hP
  have hD : va_D A ((([(a, .inr (2, [.ref q_1, .null, .null, .int (nI 0), .int (nI 0)]))] : va_W) ++ (wPl q_1 j_2 cI (fun _ => (-1 : Int32)))) ++ ([(q_4, .inr (4, [.null]))] : va_W)) := hD
  refine lv_dup hx hb dX2_init_19 rfl ?_
  refine rw_v (wr := ([(a, .inr (2, [.ref q_1, .null, .null, .int (nI 0), .int (nI 0)]))] : va_W) ++ (wPl q_1 j_2 cI (fun _ => (-1 : Int32)))) (w_I (As := []) ⟨hx, hb, hml, hown, hts⟩ (c_X4_init l D cI cZ cQ cJ q_4 H.size) t1_141 t1_124 t1_5 t1_125 rfl rfl hd_X4_init ⟨Nat.le_of_ble_eq_true rfl, Nat.le_of_ble_eq_true rfl⟩ (rw_pre hP hD hSt [3] rfl (by decide)) rfl hl.1 (rest := [.ref q_4, .ref a]) rfl (Nat.le_of_ble_eq_true rfl) dX2_init_20 ⟨Nat.le_of_ble_eq_true rfl, Nat.le_of_ble_eq_true rfl⟩) hP hD hS hA [3] [0, 1, 2] rfl rfl (by decide) (by decide) (fun u_6 H locs hw hP hD hS => ?_)
  obtain ⟨j_5, rfl⟩ : ∃ z9, z9 = u_6 := ⟨_, rfl⟩
  have hP : va_P D vwCl ((([(a, .inr (2, [.ref q_1, .null, .null, .int (nI 0), .int (nI 0)]))] : va_W) ++ (wPl q_1 j_2 cI (fun _ => (-1 : Int32)))) ++ (wPl q_4 j_5 cI (fun _ => (-1 : Int32)))) H := hP
  have hD : va_D A ((([(a, .inr (2, [.ref q_1, .null, .null, .int (nI 0), .int (nI 0)]))] : va_W) ++ (wPl q_1 j_2 cI (fun _ => (-1 : Int32)))) ++ (wPl q_4 j_5 cI (fun _ => (-1 : Int32)))) := hD
  refine va_putF (D := D) (ci := 2) (v := .ref q_4) (ty := (.object "DeskPlanner$Placement")) (C := RX2) (T := TX2) (N := 5) hx hb hts tu_X2 tyX2 tyX2_ok nmX2 hown hSt.1 hP hD hS 0 rfl rfl 1 (by decide) (hts _ t1_143) (fun _ h9 => h9) rfl hin rfl (by decide +kernel) rfl rfl (Nat.le_of_ble_eq_true rfl) dX2_init_23 (fun H locs hP hD hS => ?_)
  have hP : va_P D vwCl ((([(a, .inr (2, [.ref q_1, .ref q_4, .null, .int (nI 0), .int (nI 0)]))] : va_W) ++ (wPl q_1 j_2 cI (fun _ => (-1 : Int32)))) ++ (wPl q_4 j_5 cI (fun _ => (-1 : Int32)))) H := hP
  have hD : va_D A ((([(a, .inr (2, [.ref q_1, .ref q_4, .null, .int (nI 0), .int (nI 0)]))] : va_W) ++ (wPl q_1 j_2 cI (fun _ => (-1 : Int32)))) ++ (wPl q_4 j_5 cI (fun _ => (-1 : Int32)))) := hD
  refine lv_aload_n hx hb dX2_init_26 rfl (lv_at hl 0 rfl) ?_
  refine lv_bipush (v := nI 7) hx hb dX2_init_27 (by decide) ?_
  refine r_newZ hx hb (hts _ t1_72) hSt hP hD hS hA (N := 7) (by omega) (Nat.le_of_ble_eq_true rfl) (Nat.le_of_ble_eq_true rfl) dX2_init_29 (fun q_7 H hP hD hS => ?_)
  have hP : va_P D vwCl (((([(a, .inr (2, [.ref q_1, .ref q_4, .null, .int (nI 0), .int (nI 0)]))] : va_W) ++ (wPl q_1 j_2 cI (fun _ => (-1 : Int32)))) ++ (wPl q_4 j_5 cI (fun _ => (-1 : Int32)))) ++ ([(q_7, .inl (cZ, 7, .inl (fun _ => nI 0)))] : va_W)) H := hP
  have hD : va_D A (((([(a, .inr (2, [.ref q_1, .ref q_4, .null, .int (nI 0), .int (nI 0)]))] : va_W) ++ (wPl q_1 j_2 cI (fun _ => (-1 : Int32)))) ++ (wPl q_4 j_5 cI (fun _ => (-1 : Int32)))) ++ ([(q_7, .inl (cZ, 7, .inl (fun _ => nI 0)))] : va_W)) := hD
  refine va_putF (D := D) (ci := 2) (v := .ref q_7) (ty := (.array .boolean)) (C := RX2) (T := TX2) (N := 5) hx hb hts tu_X2 tyX2 tyX2_ok nmX2 hown hSt.1 hP hD hS 0 rfl rfl 2 (by decide) (hts _ t1_145) (fun _ h9 => h9) rfl hin rfl (by decide +kernel) rfl rfl (Nat.le_of_ble_eq_true rfl) dX2_init_31 (fun H locs hP hD hS => ?_)
  have hP : va_P D vwCl (((([(a, .inr (2, [.ref q_1, .ref q_4, .ref q_7, .int (nI 0), .int (nI 0)]))] : va_W) ++ (wPl q_1 j_2 cI (fun _ => (-1 : Int32)))) ++ (wPl q_4 j_5 cI (fun _ => (-1 : Int32)))) ++ ([(q_7, .inl (cZ, 7, .inl (fun _ => nI 0)))] : va_W)) H := hP
  have hD : va_D A (((([(a, .inr (2, [.ref q_1, .ref q_4, .ref q_7, .int (nI 0), .int (nI 0)]))] : va_W) ++ (wPl q_1 j_2 cI (fun _ => (-1 : Int32)))) ++ (wPl q_4 j_5 cI (fun _ => (-1 : Int32)))) ++ ([(q_7, .inl (cZ, 7, .inl (fun _ => nI 0)))] : va_W)) := hD
  refine lv_aload_n hx hb dX2_init_34 rfl (lv_at hl 0 rfl) ?_
  refine lv_iconst (v := nI 0) hx hb dX2_init_35 (by decide) ?_
  refine va_put (D := D) (ci := 2) (v := .int (nI 0)) (ty := .boolean) (C := RX2) (T := TX2) (N := 5) hx hb hts tu_X2 tyX2 tyX2_ok nmX2 hown hSt.1 hP hD hS 0 rfl rfl 3 (by decide) (hts _ t1_146) (fun _ h9 => h9) rfl (by decide +kernel) rfl rfl (Nat.le_of_ble_eq_true rfl) dX2_init_36 (fun H locs hP hD hS => ?_)
  have hP : va_P D vwCl (((([(a, .inr (2, [.ref q_1, .ref q_4, .ref q_7, .int (nI 0), .int (nI 0)]))] : va_W) ++ (wPl q_1 j_2 cI (fun _ => (-1 : Int32)))) ++ (wPl q_4 j_5 cI (fun _ => (-1 : Int32)))) ++ ([(q_7, .inl (cZ, 7, .inl (fun _ => nI 0)))] : va_W)) H := hP
  have hD : va_D A (((([(a, .inr (2, [.ref q_1, .ref q_4, .ref q_7, .int (nI 0), .int (nI 0)]))] : va_W) ++ (wPl q_1 j_2 cI (fun _ => (-1 : Int32)))) ++ (wPl q_4 j_5 cI (fun _ => (-1 : Int32)))) ++ ([(q_7, .inl (cZ, 7, .inl (fun _ => nI 0)))] : va_W)) := hD
  refine lv_aload_n hx hb dX2_init_39 rfl (lv_at hl 0 rfl) ?_
  refine lv_iconst (v := (-1 : Int32)) hx hb dX2_init_40 (by decide) ?_
  refine va_put (D := D) (ci := 2) (v := .int (-1 : Int32)) (ty := .int) (C := RX2) (T := TX2) (N := 5) hx hb hts tu_X2 tyX2 tyX2_ok nmX2 hown hSt.1 hP hD hS 0 rfl rfl 4 (by decide) (hts _ t1_147) (fun _ h9 => h9) rfl (by decide +kernel) rfl rfl (Nat.le_of_ble_eq_true rfl) dX2_init_41 (fun H locs hP hD hS => ?_)
  have hP : va_P D vwCl (((([(a, .inr (2, [.ref q_1, .ref q_4, .ref q_7, .int (nI 0), .int (-1 : Int32)]))] : va_W) ++ (wPl q_1 j_2 cI (fun _ => (-1 : Int32)))) ++ (wPl q_4 j_5 cI (fun _ => (-1 : Int32)))) ++ ([(q_7, .inl (cZ, 7, .inl (fun _ => nI 0)))] : va_W)) H := hP
  have hD : va_D A (((([(a, .inr (2, [.ref q_1, .ref q_4, .ref q_7, .int (nI 0), .int (-1 : Int32)]))] : va_W) ++ (wPl q_1 j_2 cI (fun _ => (-1 : Int32)))) ++ (wPl q_4 j_5 cI (fun _ => (-1 : Int32)))) ++ ([(q_7, .inl (cZ, 7, .inl (fun _ => nI 0)))] : va_W)) := hD
  have hP9 : va_P D vwCl (wFs (adl [a, q_1, j_2, q_4, j_5, q_7]) cI cZ (fun _ => (-1 : Int32)) (fun _ => (-1 : Int32)) (fun _ => nI 0) (nI 0) (-1 : Int32)) H := (show va_P D vwCl (wFs (adl [a, q_1, j_2, q_4, j_5, q_7]) cI cZ (fun _ => (-1 : Int32)) (fun _ => (-1 : Int32)) (fun _ => nI 0) (nI 0) (-1 : Int32)) H from hP)
  have hD9 : va_D A (wFs (adl [a, q_1, j_2, q_4, j_5, q_7]) cI cZ (fun _ => (-1 : Int32)) (fun _ => (-1 : Int32)) (fun _ => nI 0) (nI 0) (-1 : Int32)) := (show va_D A (wFs (adl [a, q_1, j_2, q_4, j_5, q_7]) cI cZ (fun _ => (-1 : Int32)) (fun _ => (-1 : Int32)) (fun _ => nI 0) (nI 0) (-1 : Int32)) from hD)
  refine W.widen (k := 5) (n := 23) (by omega) (by omega) ?_
  exact W.vret hx hb hr (fun t9 ht9 hW9 => ⟨⟨(adl [a, q_1, j_2, q_4, j_5, q_7]), rfl, rfl, by rw [ht9]; exact hP9, hD9⟩, hS.F ht9⟩) hS.2.2 dX2_init_44
set_option maxHeartbeats 4000000 in
set_option maxRecDepth 100000 in
/-- StepSearch() -/
theorem c_X6_init (l : Launch) (D : va_G) (cI cZ cQ cJ : ClassId) (a : Nat) (sz : Nat)  : Met l yX6_init (.code yX6_init cX6_init 1 none :: ALL) ({ frames := 2, cells := 6, slots := 28, locals := 43 } : Room) (va_Pc [.ref a] (rw_P D cI cZ cQ cJ ([(a, .inr (6, [.null, .null, .null, .null]))] : va_W) sz)) (va_Qv (fun u9 : (Nat → Nat) => u9 0 = a) (rw_B D (va_A ([(a, .inr (6, [.null, .null, .null, .null]))] : va_W) sz) (fun u9 : (Nat → Nat) => wSs u9 cI (fun _ => (-1 : Int32)) (fun _ => (-1 : Int32)) (fun _ => nI 0) (nI 0) (nI 0) (-1 : Int32) (nI 0) (nI 0))) (va_A ([(a, .inr (6, [.null, .null, .null, .null]))] : va_W) sz)) 6 28 (va_A ([(a, .inr (6, [.null, .null, .null, .null]))] : va_W) sz) := by
  refine Met.ofW (cc := cX6_init) (maxL := 1) (ret := none) (by decide) rfl ?_
  intro p e s m args below meth c s₁ B hml hv
  obtain ⟨rfl, hsz, hP, hSt, hD0⟩ := hv
  have hx := B.exec
  have hb := B.bytes
  have hr := B.returns
  have hts : ∀ w ∈ ALL, w.before ([.ref a] : List Value).toArray s = true := fun w h => atoms_spec (ws := (.code yX6_init cX6_init 1 none :: ALL)) B.pre w (List.mem_cons_of_mem _ h)
  have hown : s.vm.findClass RX6 = some m.cls := findClass_of_methodNamed B.named
  have hlocks := B.notSynchronized
  have hin : meth.name = "<init>" := (name_of_methodNamed B.named B.method).1
  subst hsz
  have hD := hD0.self (sz := s.heap.size)
  clear hD0
  generalize hAe : va_A ([(a, .inr (6, [.null, .null, .null, .null]))] : va_W) s.heap.size = A at hD ⊢
  have hA : ∀ q : Nat, s.heap.size ≤ q → A q := fun q h => by rw [← hAe]; exact Or.inr h
  have hS : va_S A s.heap s.heap [] := va_S.rf
  have hl := lv_entry ([.ref a]) (n := 1) (Nat.le_of_ble_eq_true rfl)
  rw [lg_entry_eq]
  generalize (lg_sl ([.ref a]) ++ List.replicate (1 - (lg_sl ([.ref a])).length) Slot.unset).toArray = ls at hl ⊢
  have hl : lv_has ls 1 [(0, .ref a)] := hl
  obtain ⟨H, hHe⟩ : ∃ H : Heap, H = s.heap := ⟨_, rfl⟩
  obtain ⟨locs, hLe⟩ : ∃ L : List Loc, L = [] := ⟨_, rfl⟩
  have hP : va_P D vwCl ([(a, .inr (6, [.null, .null, .null, .null]))] : va_W) H := by rw [hHe]; exact hP
  have hS : va_S A s.heap H locs := by rw [hHe, hLe]; exact hS
  refine W.eqHL hHe hLe ?_
  refine lv_aload_n hx hb dX6_init_0 rfl (lv_at hl 0 rfl) ?_
  refine W.objInit hx hb hown (hts _ t1_164) (hts _ t1_24) (hts _ t1_25) rfl (by rw [hml]; exact hl.1) rfl dX6_init_1 (Nat.le_of_ble_eq_true rfl) (Nat.le_of_ble_eq_true rfl) ?_
  refine W.eq (g2 := F0 m 4 ls []) rfl ?_
  refine lv_aload_n hx hb dX6_init_4 rfl (lv_at hl 0 rfl) ?_
  refine va_new (ci := 4) (fs := [.null]) (C := RX4) (T := TX4) (N := 1) hx hb hts tu_X4 tyX4 tyX4_ok hown (hts _ t1_165) (hts _ t1_122) (hts _ t1_5) hSt.1 hP hD hS hA rfl (fun j hj => by rcases (show j = 0 by omega) with rfl <;> rfl) (Nat.le_of_ble_eq_true rfl) (Nat.le_of_ble_eq_true rfl) dX6_init_5 (fun q_1 H hP hD hS => ?_)
  have hP : va_P D vwCl (([(a, .inr (6, [.null, .null, .null, .null]))] : va_W) ++ ([(q_1, .inr (4, [.null]))] : va_W)) H := hP
  have hD : va_D A (([(a, .inr (6, [.null, .null, .null, .null]))] : va_W) ++ ([(q_1, .inr (4, [.null]))] : va_W)) := hD
  refine lv_dup hx hb dX6_init_8 rfl ?_
  refine rw_v (wr := ([(a, .inr (6, [.null, .null, .null, .null]))] : va_W)) (w_I (As := []) ⟨hx, hb, hml, hown, hts⟩ (c_X4_init l D cI cZ cQ cJ q_1 H.size) t1_166 t1_124 t1_5 t1_125 rfl rfl hd_X4_init ⟨Nat.le_of_ble_eq_true rfl, Nat.le_of_ble_eq_true rfl⟩ (rw_pre hP hD hSt [1] rfl (by decide)) rfl hl.1 (rest := [.ref q_1, .ref a]) rfl (Nat.le_of_ble_eq_true rfl) dX6_init_9 ⟨Nat.le_of_ble_eq_true rfl, Nat.le_of_ble_eq_true rfl⟩) hP hD hS hA [1] [0] rfl rfl (by decide) (by decide) (fun u_3 H locs hw hP hD hS => ?_)
  obtain ⟨j_2, rfl⟩ : ∃ z9, z9 = u_3 := ⟨_, rfl⟩
  have hP : va_P D vwCl (([(a, .inr (6, [.null, .null, .null, .null]))] : va_W) ++ (wPl q_1 j_2 cI (fun _ => (-1 : Int32)))) H := hP
  have hD : va_D A (([(a, .inr (6, [.null, .null, .null, .null]))] : va_W) ++ (wPl q_1 j_2 cI (fun _ => (-1 : Int32)))) := hD
  refine va_putF (D := D) (ci := 6) (v := .ref q_1) (ty := (.object "DeskPlanner$Placement")) (C := RX6) (T := TX6) (N := 4) hx hb hts tu_X6 tyX6 tyX6_ok nmX6 hown hSt.1 hP hD hS 0 rfl rfl 0 (by decide) (hts _ t1_194) (fun _ h9 => h9) rfl hin rfl (by decide +kernel) rfl rfl (Nat.le_of_ble_eq_true rfl) dX6_init_12 (fun H locs hP hD hS => ?_)
  have hP : va_P D vwCl (([(a, .inr (6, [.ref q_1, .null, .null, .null]))] : va_W) ++ (wPl q_1 j_2 cI (fun _ => (-1 : Int32)))) H := hP
  have hD : va_D A (([(a, .inr (6, [.ref q_1, .null, .null, .null]))] : va_W) ++ (wPl q_1 j_2 cI (fun _ => (-1 : Int32)))) := hD
  refine lv_aload_n hx hb dX6_init_15 rfl (lv_at hl 0 rfl) ?_
  refine va_new (ci := 4) (fs := [.null]) (C := RX4) (T := TX4) (N := 1) hx hb hts tu_X4 tyX4 tyX4_ok hown (hts _ t1_165) (hts _ t1_122) (hts _ t1_5) hSt.1 hP hD hS hA rfl (fun j hj => by rcases (show j = 0 by omega) with rfl <;> rfl) (Nat.le_of_ble_eq_true rfl) (Nat.le_of_ble_eq_true rfl) dX6_init_16 (fun q_4 H hP hD hS => ?_)
  have hP : va_P D vwCl ((([(a, .inr (6, [.ref q_1, .null, .null, .null]))] : va_W) ++ (wPl q_1 j_2 cI (fun _ => (-1 : Int32)))) ++ ([(q_4, .inr (4, [.null]))] : va_W)) H := hP
  have hD : va_D A ((([(a, .inr (6, [.ref q_1, .null, .null, .null]))] : va_W) ++ (wPl q_1 j_2 cI (fun _ => (-1 : Int32)))) ++ ([(q_4, .inr (4, [.null]))] : va_W)) := hD
  refine lv_dup hx hb dX6_init_19 rfl ?_
  refine rw_v (wr := ([(a, .inr (6, [.ref q_1, .null, .null, .null]))] : va_W) ++ (wPl q_1 j_2 cI (fun _ => (-1 : Int32)))) (w_I (As := []) ⟨hx, hb, hml, hown, hts⟩ (c_X4_init l D cI cZ cQ cJ q_4 H.size) t1_166 t1_124 t1_5 t1_125 rfl rfl hd_X4_init ⟨Nat.le_of_ble_eq_true rfl, Nat.le_of_ble_eq_true rfl⟩ (rw_pre hP hD hSt [3] rfl (by decide)) rfl hl.1 (rest := [.ref q_4, .ref a]) rfl (Nat.le_of_ble_eq_true rfl) dX6_init_20 ⟨Nat.le_of_ble_eq_true rfl, Nat.le_of_ble_eq_true rfl⟩) hP hD hS hA [3] [0, 1, 2] rfl rfl (by decide) (by decide) (fun u_6 H locs hw hP hD hS => ?_)
  obtain ⟨j_5, rfl⟩ : ∃ z9, z9 = u_6 := ⟨_, rfl⟩
  have hP : va_P D vwCl ((([(a, .inr (6, [.ref q_1, .null, .null, .null]))] : va_W) ++ (wPl q_1 j_2 cI (fun _ => (-1 : Int32)))) ++ (wPl q_4 j_5 cI (fun _ => (-1 : Int32)))) H := hP
  have hD : va_D A ((([(a, .inr (6, [.ref q_1, .null, .null, .null]))] : va_W) ++ (wPl q_1 j_2 cI (fun _ => (-1 : Int32)))) ++ (wPl q_4 j_5 cI (fun _ => (-1 : Int32)))) := hD
  refine va_putF (D := D) (ci := 6) (v := .ref q_4) (ty := (.object "DeskPlanner$Placement")) (C := RX6) (T := TX6) (N := 4) hx hb hts tu_X6 tyX6 tyX6_ok nmX6 hown hSt.1 hP hD hS 0 rfl rfl 1 (by decide) (hts _ t1_195) (fun _ h9 => h9) rfl hin rfl (by decide +kernel) rfl rfl (Nat.le_of_ble_eq_true rfl) dX6_init_23 (fun H locs hP hD hS => ?_)
  have hP : va_P D vwCl ((([(a, .inr (6, [.ref q_1, .ref q_4, .null, .null]))] : va_W) ++ (wPl q_1 j_2 cI (fun _ => (-1 : Int32)))) ++ (wPl q_4 j_5 cI (fun _ => (-1 : Int32)))) H := hP
  have hD : va_D A ((([(a, .inr (6, [.ref q_1, .ref q_4, .null, .null]))] : va_W) ++ (wPl q_1 j_2 cI (fun _ => (-1 : Int32)))) ++ (wPl q_4 j_5 cI (fun _ => (-1 : Int32)))) := hD
  refine lv_aload_n hx hb dX6_init_26 rfl (lv_at hl 0 rfl) ?_
  refine lv_bipush (v := nI 7) hx hb dX6_init_27 (by decide) ?_
  refine r_newI hx hb (hts _ t1_73) hSt hP hD hS hA (N := 7) (by omega) (Nat.le_of_ble_eq_true rfl) (Nat.le_of_ble_eq_true rfl) dX6_init_29 (fun q_7 H hP hD hS => ?_)
  have hP : va_P D vwCl (((([(a, .inr (6, [.ref q_1, .ref q_4, .null, .null]))] : va_W) ++ (wPl q_1 j_2 cI (fun _ => (-1 : Int32)))) ++ (wPl q_4 j_5 cI (fun _ => (-1 : Int32)))) ++ ([(q_7, .inl (cI, 7, .inl (fun _ => nI 0)))] : va_W)) H := hP
  have hD : va_D A (((([(a, .inr (6, [.ref q_1, .ref q_4, .null, .null]))] : va_W) ++ (wPl q_1 j_2 cI (fun _ => (-1 : Int32)))) ++ (wPl q_4 j_5 cI (fun _ => (-1 : Int32)))) ++ ([(q_7, .inl (cI, 7, .inl (fun _ => nI 0)))] : va_W)) := hD
  refine va_putF (D := D) (ci := 6) (v := .ref q_7) (ty := (.array .int)) (C := RX6) (T := TX6) (N := 4) hx hb hts tu_X6 tyX6 tyX6_ok nmX6 hown hSt.1 hP hD hS 0 rfl rfl 2 (by decide) (hts _ t1_197) (fun _ h9 => h9) rfl hin rfl (by decide +kernel) rfl rfl (Nat.le_of_ble_eq_true rfl) dX6_init_31 (fun H locs hP hD hS => ?_)
  have hP : va_P D vwCl (((([(a, .inr (6, [.ref q_1, .ref q_4, .ref q_7, .null]))] : va_W) ++ (wPl q_1 j_2 cI (fun _ => (-1 : Int32)))) ++ (wPl q_4 j_5 cI (fun _ => (-1 : Int32)))) ++ ([(q_7, .inl (cI, 7, .inl (fun _ => nI 0)))] : va_W)) H := hP
  have hD : va_D A (((([(a, .inr (6, [.ref q_1, .ref q_4, .ref q_7, .null]))] : va_W) ++ (wPl q_1 j_2 cI (fun _ => (-1 : Int32)))) ++ (wPl q_4 j_5 cI (fun _ => (-1 : Int32)))) ++ ([(q_7, .inl (cI, 7, .inl (fun _ => nI 0)))] : va_W)) := hD
  refine lv_aload_n hx hb dX6_init_34 rfl (lv_at hl 0 rfl) ?_
  refine va_new (ci := 0) (fs := [.int (nI 0), .int (nI 0), .int (nI 0), .int (nI 0), .int (nI 0)]) (C := RX0) (T := TX0) (N := 5) hx hb hts tu_X0 tyX0 tyX0_ok hown (hts _ t1_167) (hts _ t1_168) (hts _ t1_9) hSt.1 hP hD hS hA rfl (fun j hj => by rcases (show j = 0 ∨ j = 1 ∨ j = 2 ∨ j = 3 ∨ j = 4 by omega) with rfl | rfl | rfl | rfl | rfl <;> rfl) (Nat.le_of_ble_eq_true rfl) (Nat.le_of_ble_eq_true rfl) dX6_init_35 (fun q_8 H hP hD hS => ?_)
  have hP : va_P D vwCl ((((([(a, .inr (6, [.ref q_1, .ref q_4, .ref q_7, .null]))] : va_W) ++ (wPl q_1 j_2 cI (fun _ => (-1 : Int32)))) ++ (wPl q_4 j_5 cI (fun _ => (-1 : Int32)))) ++ ([(q_7, .inl (cI, 7, .inl (fun _ => nI 0)))] : va_W)) ++ ([(q_8, .inr (0, [.int (nI 0), .int (nI 0), .int (nI 0), .int (nI 0), .int (nI 0)]))] : va_W)) H := hP
  have hD : va_D A ((((([(a, .inr (6, [.ref q_1, .ref q_4, .ref q_7, .null]))] : va_W) ++ (wPl q_1 j_2 cI (fun _ => (-1 : Int32)))) ++ (wPl q_4 j_5 cI (fun _ => (-1 : Int32)))) ++ ([(q_7, .inl (cI, 7, .inl (fun _ => nI 0)))] : va_W)) ++ ([(q_8, .inr (0, [.int (nI 0), .int (nI 0), .int (nI 0), .int (nI 0), .int (nI 0)]))] : va_W)) := hD
  refine lv_dup hx hb dX6_init_38 rfl ?_
  refine rw_v (wr := ((([(a, .inr (6, [.ref q_1, .ref q_4, .ref q_7, .null]))] : va_W) ++ (wPl q_1 j_2 cI (fun _ => (-1 : Int32)))) ++ (wPl q_4 j_5 cI (fun _ => (-1 : Int32)))) ++ ([(q_7, .inl (cI, 7, .inl (fun _ => nI 0)))] : va_W)) (w_IN (As := []) ⟨hx, hb, hml, hown, hts⟩ (c_X0_init l D cI cZ cQ cJ q_8 H.size) (hSt.2.m 5 rfl) t1_170 t1_9 t1_171 rfl rfl hd_X0_init ⟨Nat.le_of_ble_eq_true rfl, Nat.le_of_ble_eq_true rfl⟩ (rw_pre hP hD hSt [6] rfl (by decide)) rfl hl.1 (rest := [.ref q_8, .ref a]) rfl (Nat.le_of_ble_eq_true rfl) dX6_init_39 ⟨Nat.le_of_ble_eq_true rfl, Nat.le_of_ble_eq_true rfl⟩) hP hD hS hA [6] [0, 1, 2, 3, 4, 5] rfl rfl (by decide) (by decide) (fun u_9 H locs hw hP hD hS => ?_)
  have hP : va_P D vwCl ((((([(a, .inr (6, [.ref q_1, .ref q_4, .ref q_7, .null]))] : va_W) ++ (wPl q_1 j_2 cI (fun _ => (-1 : Int32)))) ++ (wPl q_4 j_5 cI (fun _ => (-1 : Int32)))) ++ ([(q_7, .inl (cI, 7, .inl (fun _ => nI 0)))] : va_W)) ++ (wCh q_8 (nI 0) (nI 0) (-1 : Int32) (nI 0) (nI 0))) H := hP
  have hD : va_D A ((((([(a, .inr (6, [.ref q_1, .ref q_4, .ref q_7, .null]))] : va_W) ++ (wPl q_1 j_2 cI (fun _ => (-1 : Int32)))) ++ (wPl q_4 j_5 cI (fun _ => (-1 : Int32)))) ++ ([(q_7, .inl (cI, 7, .inl (fun _ => nI 0)))] : va_W)) ++ (wCh q_8 (nI 0) (nI 0) (-1 : Int32) (nI 0) (nI 0))) := hD
  refine va_putF (D := D) (ci := 6) (v := .ref q_8) (ty := (.object "DeskPlanner$Change")) (C := RX6) (T := TX6) (N := 4) hx hb hts tu_X6 tyX6 tyX6_ok nmX6 hown hSt.1 hP hD hS 0 rfl rfl 3 (by decide) (hts _ t1_198) (fun _ h9 => h9) rfl hin rfl (by decide +kernel) rfl rfl (Nat.le_of_ble_eq_true rfl) dX6_init_42 (fun H locs hP hD hS => ?_)
  have hP : va_P D vwCl ((((([(a, .inr (6, [.ref q_1, .ref q_4, .ref q_7, .ref q_8]))] : va_W) ++ (wPl q_1 j_2 cI (fun _ => (-1 : Int32)))) ++ (wPl q_4 j_5 cI (fun _ => (-1 : Int32)))) ++ ([(q_7, .inl (cI, 7, .inl (fun _ => nI 0)))] : va_W)) ++ (wCh q_8 (nI 0) (nI 0) (-1 : Int32) (nI 0) (nI 0))) H := hP
  have hD : va_D A ((((([(a, .inr (6, [.ref q_1, .ref q_4, .ref q_7, .ref q_8]))] : va_W) ++ (wPl q_1 j_2 cI (fun _ => (-1 : Int32)))) ++ (wPl q_4 j_5 cI (fun _ => (-1 : Int32)))) ++ ([(q_7, .inl (cI, 7, .inl (fun _ => nI 0)))] : va_W)) ++ (wCh q_8 (nI 0) (nI 0) (-1 : Int32) (nI 0) (nI 0))) := hD
  have hP9 : va_P D vwCl (wSs (adl [a, q_1, j_2, q_4, j_5, q_7, q_8]) cI (fun _ => (-1 : Int32)) (fun _ => (-1 : Int32)) (fun _ => nI 0) (nI 0) (nI 0) (-1 : Int32) (nI 0) (nI 0)) H := (show va_P D vwCl (wSs (adl [a, q_1, j_2, q_4, j_5, q_7, q_8]) cI (fun _ => (-1 : Int32)) (fun _ => (-1 : Int32)) (fun _ => nI 0) (nI 0) (nI 0) (-1 : Int32) (nI 0) (nI 0)) H from hP)
  have hD9 : va_D A (wSs (adl [a, q_1, j_2, q_4, j_5, q_7, q_8]) cI (fun _ => (-1 : Int32)) (fun _ => (-1 : Int32)) (fun _ => nI 0) (nI 0) (nI 0) (-1 : Int32) (nI 0) (nI 0)) := (show va_D A (wSs (adl [a, q_1, j_2, q_4, j_5, q_7, q_8]) cI (fun _ => (-1 : Int32)) (fun _ => (-1 : Int32)) (fun _ => nI 0) (nI 0) (nI 0) (-1 : Int32) (nI 0) (nI 0)) from hD)
  refine W.widen (k := 6) (n := 28) (by omega) (by omega) ?_
  exact W.vret hx hb hr (fun t9 ht9 hW9 => ⟨⟨(adl [a, q_1, j_2, q_4, j_5, q_7, q_8]), rfl, rfl, by rw [ht9]; exact hP9, hD9⟩, hS.F ht9⟩) hS.2.2 dX6_init_45
theorem hd_X3_init : yX3_init.name = "<init>" ∧ yX3_init.cls ≠ "java/lang/invoke/MethodHandle" ∧ yX3_init.cls ≠ "java/lang/invoke/VarHandle" ∧ (parseMethodDescriptor yX3_init.desc).map (fun d => d.parameters.length) = some 0 := by decide +kernel
theorem hd_X2_init : yX2_init.name = "<init>" ∧ yX2_init.cls ≠ "java/lang/invoke/MethodHandle" ∧ yX2_init.cls ≠ "java/lang/invoke/VarHandle" ∧ (parseMethodDescriptor yX2_init.desc).map (fun d => d.parameters.length) = some 0 := by decide +kernel
theorem hd_X6_init : yX6_init.name = "<init>" ∧ yX6_init.cls ≠ "java/lang/invoke/MethodHandle" ∧ yX6_init.cls ≠ "java/lang/invoke/VarHandle" ∧ (parseMethodDescriptor yX6_init.desc).map (fun d => d.parameters.length) = some 0 := by decide +kernel
set_option maxHeartbeats 4000000 in
set_option maxRecDepth 100000 in
/-- DeskPlanner() -/
theorem c_X7_init (l : Launch) (D : va_G) (cI cZ cQ cJ : ClassId) (a : Nat) (sz : Nat)  : Met l yX7_init (.code yX7_init cX7_init 1 none :: ALL) ({ frames := 3, cells := 58, slots := 514, locals := 63 } : Room) (va_Pc [.ref a] (rw_P D cI cZ cQ cJ ([(a, .inr (7, [.null, .null, .null, .null, .null]))] : va_W) sz)) (va_Qv (fun u9 : Nat × Nat × Nat × Nat × Nat × (Nat → Nat) × (Nat → Nat) × (Nat → Nat) × (Nat → Nat) × (Nat → Nat) × (Nat → Nat) × (Nat → Nat) × (Nat → Nat) => True) (rw_B D (va_A ([(a, .inr (7, [.null, .null, .null, .null, .null]))] : va_W) sz) (fun u9 : Nat × Nat × Nat × Nat × Nat × (Nat → Nat) × (Nat → Nat) × (Nat → Nat) × (Nat → Nat) × (Nat → Nat) × (Nat → Nat) × (Nat → Nat) × (Nat → Nat) => (wDp a u9.1 u9.2.1 u9.2.2.2.1 (u9.2.2.2.2.2.2.2.2.2.2.2.1 0) (u9.2.2.2.2.2.2.2.2.2.2.2.2 0)) ++ ((wOf u9.1 (u9.2.2.2.2.2.1 0) (u9.2.2.2.2.2.2.2.1 0)) ++ ((wFl u9.2.2.2.2.2.1 u9.2.2.2.2.2.2.1 cI cZ cQ (fun _ => nI 0) (fun _ => nI 0) (fun _ => nI 0) (fun _ _ => nI 0) (fun _ => nI 0) (fun _ => nI 0) (nI 0) (nI 0)) ++ ((wSt u9.2.2.2.2.2.2.2.1 u9.2.2.2.2.2.2.2.2.1 u9.2.2.2.2.2.2.2.2.2.1 u9.2.2.2.2.2.2.2.2.2.2.1 cI cQ (fun _ _ => nI 0) (fun _ => nI 0) (fun _ _ => nI 0) (fun _ _ => nI 0) (nI 0)) ++ ((wPl u9.2.1 u9.2.2.1 cI (fun _ => (-1 : Int32))) ++ ((wPl u9.2.2.2.1 u9.2.2.2.2.1 cI (fun _ => (-1 : Int32))) ++ ((wFs u9.2.2.2.2.2.2.2.2.2.2.2.1 cI cZ (fun _ => (-1 : Int32)) (fun _ => (-1 : Int32)) (fun _ => nI 0) (nI 0) (-1 : Int32)) ++ (wSs u9.2.2.2.2.2.2.2.2.2.2.2.2 cI (fun _ => (-1 : Int32)) (fun _ => (-1 : Int32)) (fun _ => nI 0) (nI 0) (nI 0) (-1 : Int32) (nI 0) (nI 0)))))))))) (va_A ([(a, .inr (7, [.null, .null, .null, .null, .null]))] : va_W) sz)) 58 514 (va_A ([(a, .inr (7, [.null, .null, .null, .null, .null]))] : va_W) sz) := by
  refine Met.ofW (cc := cX7_init) (maxL := 1) (ret := none) (by decide) rfl ?_
  intro p e s m args below meth c s₁ B hml hv
  obtain ⟨rfl, hsz, hP, hSt, hD0⟩ := hv
  have hx := B.exec
  have hb := B.bytes
  have hr := B.returns
  have hts : ∀ w ∈ ALL, w.before ([.ref a] : List Value).toArray s = true := fun w h => atoms_spec (ws := (.code yX7_init cX7_init 1 none :: ALL)) B.pre w (List.mem_cons_of_mem _ h)
  have hown : s.vm.findClass RX7 = some m.cls := findClass_of_methodNamed B.named
  have hlocks := B.notSynchronized
  have hin : meth.name = "<init>" := (name_of_methodNamed B.named B.method).1
  subst hsz
  have hD := hD0.self (sz := s.heap.size)
  clear hD0
  generalize hAe : va_A ([(a, .inr (7, [.null, .null, .null, .null, .null]))] : va_W) s.heap.size = A at hD ⊢
  have hA : ∀ q : Nat, s.heap.size ≤ q → A q := fun q h => by rw [← hAe]; exact Or.inr h
  have hS : va_S A s.heap s.heap [] := va_S.rf
  have hl := lv_entry ([.ref a]) (n := 1) (Nat.le_of_ble_eq_true rfl)
  rw [lg_entry_eq]
  generalize (lg_sl ([.ref a]) ++ List.replicate (1 - (lg_sl ([.ref a])).length) Slot.unset).toArray = ls at hl ⊢
  have hl : lv_has ls 1 [(0, .ref a)] := hl
  obtain ⟨H, hHe⟩ : ∃ H : Heap, H = s.heap := ⟨_, rfl⟩
  obtain ⟨locs, hLe⟩ : ∃ L : List Loc, L = [] := ⟨_, rfl⟩
  have hP : va_P D vwCl ([(a, .inr (7, [.null, .null, .null, .null, .null]))] : va_W) H := by rw [hHe]; exact hP
  have hS : va_S A s.heap H locs := by rw [hHe, hLe]; exact hS
  refine W.eqHL hHe hLe ?_
  refine lv_aload_n hx hb dX7_init_0 rfl (lv_at hl 0 rfl) ?_
  refine W.objInit hx hb hown (hts _ t1_23) (hts _ t1_24) (hts _ t1_25) rfl (by rw [hml]; exact hl.1) rfl dX7_init_1 (Nat.le_of_ble_eq_true rfl) (Nat.le_of_ble_eq_true rfl) ?_
  refine W.eq (g2 := F0 m 4 ls []) rfl ?_
  refine lv_aload_n hx hb dX7_init_4 rfl (lv_at hl 0 rfl) ?_
  refine va_new (ci := 3) (fs := [.null, .null]) (C := RX3) (T := TX3) (N := 2) hx hb hts tu_X3 tyX3 tyX3_ok hown (hts _ t1_26) (hts _ t1_27) (hts _ t1_2) hSt.1 hP hD hS hA rfl (fun j hj => by rcases (show j = 0 ∨ j = 1 by omega) with rfl | rfl <;> rfl) (Nat.le_of_ble_eq_true rfl) (Nat.le_of_ble_eq_true rfl) dX7_init_5 (fun q_1 H hP hD hS => ?_)
  have hP : va_P D vwCl (([(a, .inr (7, [.null, .null, .null, .null, .null]))] : va_W) ++ ([(q_1, .inr (3, [.null, .null]))] : va_W)) H := hP
  have hD : va_D A (([(a, .inr (7, [.null, .null, .null, .null, .null]))] : va_W) ++ ([(q_1, .inr (3, [.null, .null]))] : va_W)) := hD
  refine lv_dup hx hb dX7_init_8 rfl ?_
  refine rw_v (wr := ([(a, .inr (7, [.null, .null, .null, .null, .null]))] : va_W)) (w_IN (As := []) ⟨hx, hb, hml, hown, hts⟩ (c_X3_init l D cI cZ cQ cJ q_1 H.size) (hSt.2.m 0 rfl) t1_29 t1_2 t1_30 rfl rfl hd_X3_init ⟨Nat.le_of_ble_eq_true rfl, Nat.le_of_ble_eq_true rfl⟩ (rw_pre hP hD hSt [1] rfl (by decide)) rfl hl.1 (rest := [.ref q_1, .ref a]) rfl (Nat.le_of_ble_eq_true rfl) dX7_init_9 ⟨Nat.le_of_ble_eq_true rfl, Nat.le_of_ble_eq_true rfl⟩) hP hD hS hA [1] [0] rfl rfl (by decide) (by decide) (fun u_8 H locs hw hP hD hS => ?_)
  obtain ⟨j_2, j_3, j_4, j_5, j_6, j_7⟩ := u_8
  have hP : va_P D vwCl (([(a, .inr (7, [.null, .null, .null, .null, .null]))] : va_W) ++ ((wOf q_1 (j_2 0) (j_4 0)) ++ ((wFl j_2 j_3 cI cZ cQ (fun _ => nI 0) (fun _ => nI 0) (fun _ => nI 0) (fun _ _ => nI 0) (fun _ => nI 0) (fun _ => nI 0) (nI 0) (nI 0)) ++ (wSt j_4 j_5 j_6 j_7 cI cQ (fun _ _ => nI 0) (fun _ => nI 0) (fun _ _ => nI 0) (fun _ _ => nI 0) (nI 0))))) H := hP
  have hD : va_D A (([(a, .inr (7, [.null, .null, .null, .null, .null]))] : va_W) ++ ((wOf q_1 (j_2 0) (j_4 0)) ++ ((wFl j_2 j_3 cI cZ cQ (fun _ => nI 0) (fun _ => nI 0) (fun _ => nI 0) (fun _ _ => nI 0) (fun _ => nI 0) (fun _ => nI 0) (nI 0) (nI 0)) ++ (wSt j_4 j_5 j_6 j_7 cI cQ (fun _ _ => nI 0) (fun _ => nI 0) (fun _ _ => nI 0) (fun _ _ => nI 0) (nI 0))))) := hD
  refine va_putF (D := D) (ci := 7) (v := .ref q_1) (ty := (.object "DeskPlanner$Office")) (C := RX7) (T := TX7) (N := 5) hx hb hts tu_X7 tyX7 tyX7_ok nmX7 hown hSt.1 hP hD hS 0 rfl rfl 0 (by decide) (hts _ t1_208) (fun _ h9 => h9) rfl hin rfl (by decide +kernel) rfl rfl (Nat.le_of_ble_eq_true rfl) dX7_init_12 (fun H locs hP hD hS => ?_)
  have hP : va_P D vwCl (([(a, .inr (7, [.ref q_1, .null, .null, .null, .null]))] : va_W) ++ ((wOf q_1 (j_2 0) (j_4 0)) ++ ((wFl j_2 j_3 cI cZ cQ (fun _ => nI 0) (fun _ => nI 0) (fun _ => nI 0) (fun _ _ => nI 0) (fun _ => nI 0) (fun _ => nI 0) (nI 0) (nI 0)) ++ (wSt j_4 j_5 j_6 j_7 cI cQ (fun _ _ => nI 0) (fun _ => nI 0) (fun _ _ => nI 0) (fun _ _ => nI 0) (nI 0))))) H := hP
  have hD : va_D A (([(a, .inr (7, [.ref q_1, .null, .null, .null, .null]))] : va_W) ++ ((wOf q_1 (j_2 0) (j_4 0)) ++ ((wFl j_2 j_3 cI cZ cQ (fun _ => nI 0) (fun _ => nI 0) (fun _ => nI 0) (fun _ _ => nI 0) (fun _ => nI 0) (fun _ => nI 0) (nI 0) (nI 0)) ++ (wSt j_4 j_5 j_6 j_7 cI cQ (fun _ _ => nI 0) (fun _ => nI 0) (fun _ _ => nI 0) (fun _ _ => nI 0) (nI 0))))) := hD
  refine lv_aload_n hx hb dX7_init_15 rfl (lv_at hl 0 rfl) ?_
  refine va_new (ci := 4) (fs := [.null]) (C := RX4) (T := TX4) (N := 1) hx hb hts tu_X4 tyX4 tyX4_ok hown (hts _ t1_121) (hts _ t1_122) (hts _ t1_5) hSt.1 hP hD hS hA rfl (fun j hj => by rcases (show j = 0 by omega) with rfl <;> rfl) (Nat.le_of_ble_eq_true rfl) (Nat.le_of_ble_eq_true rfl) dX7_init_16 (fun q_9 H hP hD hS => ?_)
  have hP : va_P D vwCl ((([(a, .inr (7, [.ref q_1, .null, .null, .null, .null]))] : va_W) ++ ((wOf q_1 (j_2 0) (j_4 0)) ++ ((wFl j_2 j_3 cI cZ cQ (fun _ => nI 0) (fun _ => nI 0) (fun _ => nI 0) (fun _ _ => nI 0) (fun _ => nI 0) (fun _ => nI 0) (nI 0) (nI 0)) ++ (wSt j_4 j_5 j_6 j_7 cI cQ (fun _ _ => nI 0) (fun _ => nI 0) (fun _ _ => nI 0) (fun _ _ => nI 0) (nI 0))))) ++ ([(q_9, .inr (4, [.null]))] : va_W)) H := hP
  have hD : va_D A ((([(a, .inr (7, [.ref q_1, .null, .null, .null, .null]))] : va_W) ++ ((wOf q_1 (j_2 0) (j_4 0)) ++ ((wFl j_2 j_3 cI cZ cQ (fun _ => nI 0) (fun _ => nI 0) (fun _ => nI 0) (fun _ _ => nI 0) (fun _ => nI 0) (fun _ => nI 0) (nI 0) (nI 0)) ++ (wSt j_4 j_5 j_6 j_7 cI cQ (fun _ _ => nI 0) (fun _ => nI 0) (fun _ _ => nI 0) (fun _ _ => nI 0) (nI 0))))) ++ ([(q_9, .inr (4, [.null]))] : va_W)) := hD
  refine lv_dup hx hb dX7_init_19 rfl ?_
  refine rw_v (wr := ([(a, .inr (7, [.ref q_1, .null, .null, .null, .null]))] : va_W) ++ ((wOf q_1 (j_2 0) (j_4 0)) ++ ((wFl j_2 j_3 cI cZ cQ (fun _ => nI 0) (fun _ => nI 0) (fun _ => nI 0) (fun _ _ => nI 0) (fun _ => nI 0) (fun _ => nI 0) (nI 0) (nI 0)) ++ (wSt j_4 j_5 j_6 j_7 cI cQ (fun _ _ => nI 0) (fun _ => nI 0) (fun _ _ => nI 0) (fun _ _ => nI 0) (nI 0))))) (w_I (As := []) ⟨hx, hb, hml, hown, hts⟩ (c_X4_init l D cI cZ cQ cJ q_9 H.size) t1_123 t1_124 t1_5 t1_125 rfl rfl hd_X4_init ⟨Nat.le_of_ble_eq_true rfl, Nat.le_of_ble_eq_true rfl⟩ (rw_pre hP hD hSt [42] rfl (by decide)) rfl hl.1 (rest := [.ref q_9, .ref a]) rfl (Nat.le_of_ble_eq_true rfl) dX7_init_20 ⟨Nat.le_of_ble_eq_true rfl, Nat.le_of_ble_eq_true rfl⟩) hP hD hS hA [42] [0, 1, 2, 3, 4, 5, 6, 7, 8, 9, 10, 11, 12, 13, 14, 15, 16, 17, 18, 19, 20, 21, 22, 23, 24, 25, 26, 27, 28, 29, 30, 31, 32, 33, 34, 35, 36, 37, 38, 39, 40, 41] rfl rfl (by decide) (by decide) (fun u_11 H locs hw hP hD hS => ?_)
  obtain ⟨j_10, rfl⟩ : ∃ z9, z9 = u_11 := ⟨_, rfl⟩
  have hP : va_P D vwCl ((([(a, .inr (7, [.ref q_1, .null, .null, .null, .null]))] : va_W) ++ ((wOf q_1 (j_2 0) (j_4 0)) ++ ((wFl j_2 j_3 cI cZ cQ (fun _ => nI 0) (fun _ => nI 0) (fun _ => nI 0) (fun _ _ => nI 0) (fun _ => nI 0) (fun _ => nI 0) (nI 0) (nI 0)) ++ (wSt j_4 j_5 j_6 j_7 cI cQ (fun _ _ => nI 0) (fun _ => nI 0) (fun _ _ => nI 0) (fun _ _ => nI 0) (nI 0))))) ++ (wPl q_9 j_10 cI (fun _ => (-1 : Int32)))) H := hP
  have hD : va_D A ((([(a, .inr (7, [.ref q_1, .null, .null, .null, .null]))] : va_W) ++ ((wOf q_1 (j_2 0) (j_4 0)) ++ ((wFl j_2 j_3 cI cZ cQ (fun _ => nI 0) (fun _ => nI 0) (fun _ => nI 0) (fun _ _ => nI 0) (fun _ => nI 0) (fun _ => nI 0) (nI 0) (nI 0)) ++ (wSt j_4 j_5 j_6 j_7 cI cQ (fun _ _ => nI 0) (fun _ => nI 0) (fun _ _ => nI 0) (fun _ _ => nI 0) (nI 0))))) ++ (wPl q_9 j_10 cI (fun _ => (-1 : Int32)))) := hD
  refine va_putF (D := D) (ci := 7) (v := .ref q_9) (ty := (.object "DeskPlanner$Placement")) (C := RX7) (T := TX7) (N := 5) hx hb hts tu_X7 tyX7 tyX7_ok nmX7 hown hSt.1 hP hD hS 0 rfl rfl 1 (by decide) (hts _ t1_209) (fun _ h9 => h9) rfl hin rfl (by decide +kernel) rfl rfl (Nat.le_of_ble_eq_true rfl) dX7_init_23 (fun H locs hP hD hS => ?_)
  have hP : va_P D vwCl ((([(a, .inr (7, [.ref q_1, .ref q_9, .null, .null, .null]))] : va_W) ++ ((wOf q_1 (j_2 0) (j_4 0)) ++ ((wFl j_2 j_3 cI cZ cQ (fun _ => nI 0) (fun _ => nI 0) (fun _ => nI 0) (fun _ _ => nI 0) (fun _ => nI 0) (fun _ => nI 0) (nI 0) (nI 0)) ++ (wSt j_4 j_5 j_6 j_7 cI cQ (fun _ _ => nI 0) (fun _ => nI 0) (fun _ _ => nI 0) (fun _ _ => nI 0) (nI 0))))) ++ (wPl q_9 j_10 cI (fun _ => (-1 : Int32)))) H := hP
  have hD : va_D A ((([(a, .inr (7, [.ref q_1, .ref q_9, .null, .null, .null]))] : va_W) ++ ((wOf q_1 (j_2 0) (j_4 0)) ++ ((wFl j_2 j_3 cI cZ cQ (fun _ => nI 0) (fun _ => nI 0) (fun _ => nI 0) (fun _ _ => nI 0) (fun _ => nI 0) (fun _ => nI 0) (nI 0) (nI 0)) ++ (wSt j_4 j_5 j_6 j_7 cI cQ (fun _ _ => nI 0) (fun _ => nI 0) (fun _ _ => nI 0) (fun _ _ => nI 0) (nI 0))))) ++ (wPl q_9 j_10 cI (fun _ => (-1 : Int32)))) := hD
  refine lv_aload_n hx hb dX7_init_26 rfl (lv_at hl 0 rfl) ?_
  refine va_new (ci := 4) (fs := [.null]) (C := RX4) (T := TX4) (N := 1) hx hb hts tu_X4 tyX4 tyX4_ok hown (hts _ t1_121) (hts _ t1_122) (hts _ t1_5) hSt.1 hP hD hS hA rfl (fun j hj => by rcases (show j = 0 by omega) with rfl <;> rfl) (Nat.le_of_ble_eq_true rfl) (Nat.le_of_ble_eq_true rfl) dX7_init_27 (fun q_12 H hP hD hS => ?_)
  have hP : va_P D vwCl (((([(a, .inr (7, [.ref q_1, .ref q_9, .null, .null, .null]))] : va_W) ++ ((wOf q_1 (j_2 0) (j_4 0)) ++ ((wFl j_2 j_3 cI cZ cQ (fun _ => nI 0) (fun _ => nI 0) (fun _ => nI 0) (fun _ _ => nI 0) (fun _ => nI 0) (fun _ => nI 0) (nI 0) (nI 0)) ++ (wSt j_4 j_5 j_6 j_7 cI cQ (fun _ _ => nI 0) (fun _ => nI 0) (fun _ _ => nI 0) (fun _ _ => nI 0) (nI 0))))) ++ (wPl q_9 j_10 cI (fun _ => (-1 : Int32)))) ++ ([(q_12, .inr (4, [.null]))] : va_W)) H := hP
  have hD : va_D A (((([(a, .inr (7, [.ref q_1, .ref q_9, .null, .null, .null]))] : va_W) ++ ((wOf q_1 (j_2 0) (j_4 0)) ++ ((wFl j_2 j_3 cI cZ cQ (fun _ => nI 0) (fun _ => nI 0) (fun _ => nI 0) (fun _ _ => nI 0) (fun _ => nI 0) (fun _ => nI 0) (nI 0) (nI 0)) ++ (wSt j_4 j_5 j_6 j_7 cI cQ (fun _ _ => nI 0) (fun _ => nI 0) (fun _ _ => nI 0) (fun _ _ => nI 0) (nI 0))))) ++ (wPl q_9 j_10 cI (fun _ => (-1 : Int32)))) ++ ([(q_12, .inr (4, [.null]))] : va_W)) := hD
  refine lv_dup hx hb dX7_init_30 rfl ?_
  refine rw_v (wr := (([(a, .inr (7, [.ref q_1, .ref q_9, .null, .null, .null]))] : va_W) ++ ((wOf q_1 (j_2 0) (j_4 0)) ++ ((wFl j_2 j_3 cI cZ cQ (fun _ => nI 0) (fun _ => nI 0) (fun _ => nI 0) (fun _ _ => nI 0) (fun _ => nI 0) (fun _ => nI 0) (nI 0) (nI 0)) ++ (wSt j_4 j_5 j_6 j_7 cI cQ (fun _ _ => nI 0) (fun _ => nI 0) (fun _ _ => nI 0) (fun _ _ => nI 0) (nI 0))))) ++ (wPl q_9 j_10 cI (fun _ => (-1 : Int32)))) (w_I (As := []) ⟨hx, hb, hml, hown, hts⟩ (c_X4_init l D cI cZ cQ cJ q_12 H.size) t1_123 t1_124 t1_5 t1_125 rfl rfl hd_X4_init ⟨Nat.le_of_ble_eq_true rfl, Nat.le_of_ble_eq_true rfl⟩ (rw_pre hP hD hSt [44] rfl (by decide)) rfl hl.1 (rest := [.ref q_12, .ref a]) rfl (Nat.le_of_ble_eq_true rfl) dX7_init_31 ⟨Nat.le_of_ble_eq_true rfl, Nat.le_of_ble_eq_true rfl⟩) hP hD hS hA [44] [0, 1, 2, 3, 4, 5, 6, 7, 8, 9, 10, 11, 12, 13, 14, 15, 16, 17, 18, 19, 20, 21, 22, 23, 24, 25, 26, 27, 28, 29, 30, 31, 32, 33, 34, 35, 36, 37, 38, 39, 40, 41, 42, 43] rfl rfl (by decide) (by decide) (fun u_14 H locs hw hP hD hS => ?_)
  obtain ⟨j_13, rfl⟩ : ∃ z9, z9 = u_14 := ⟨_, rfl⟩
  have hP : va_P D vwCl (((([(a, .inr (7, [.ref q_1, .ref q_9, .null, .null, .null]))] : va_W) ++ ((wOf q_1 (j_2 0) (j_4 0)) ++ ((wFl j_2 j_3 cI cZ cQ (fun _ => nI 0) (fun _ => nI 0) (fun _ => nI 0) (fun _ _ => nI 0) (fun _ => nI 0) (fun _ => nI 0) (nI 0) (nI 0)) ++ (wSt j_4 j_5 j_6 j_7 cI cQ (fun _ _ => nI 0) (fun _ => nI 0) (fun _ _ => nI 0) (fun _ _ => nI 0) (nI 0))))) ++ (wPl q_9 j_10 cI (fun _ => (-1 : Int32)))) ++ (wPl q_12 j_13 cI (fun _ => (-1 : Int32)))) H := hP
  have hD : va_D A (((([(a, .inr (7, [.ref q_1, .ref q_9, .null, .null, .null]))] : va_W) ++ ((wOf q_1 (j_2 0) (j_4 0)) ++ ((wFl j_2 j_3 cI cZ cQ (fun _ => nI 0) (fun _ => nI 0) (fun _ => nI 0) (fun _ _ => nI 0) (fun _ => nI 0) (fun _ => nI 0) (nI 0) (nI 0)) ++ (wSt j_4 j_5 j_6 j_7 cI cQ (fun _ _ => nI 0) (fun _ => nI 0) (fun _ _ => nI 0) (fun _ _ => nI 0) (nI 0))))) ++ (wPl q_9 j_10 cI (fun _ => (-1 : Int32)))) ++ (wPl q_12 j_13 cI (fun _ => (-1 : Int32)))) := hD
  refine va_putF (D := D) (ci := 7) (v := .ref q_12) (ty := (.object "DeskPlanner$Placement")) (C := RX7) (T := TX7) (N := 5) hx hb hts tu_X7 tyX7 tyX7_ok nmX7 hown hSt.1 hP hD hS 0 rfl rfl 2 (by decide) (hts _ t1_210) (fun _ h9 => h9) rfl hin rfl (by decide +kernel) rfl rfl (Nat.le_of_ble_eq_true rfl) dX7_init_34 (fun H locs hP hD hS => ?_)
  have hP : va_P D vwCl (((([(a, .inr (7, [.ref q_1, .ref q_9, .ref q_12, .null, .null]))] : va_W) ++ ((wOf q_1 (j_2 0) (j_4 0)) ++ ((wFl j_2 j_3 cI cZ cQ (fun _ => nI 0) (fun _ => nI 0) (fun _ => nI 0) (fun _ _ => nI 0) (fun _ => nI 0) (fun _ => nI 0) (nI 0) (nI 0)) ++ (wSt j_4 j_5 j_6 j_7 cI cQ (fun _ _ => nI 0) (fun _ => nI 0) (fun _ _ => nI 0) (fun _ _ => nI 0) (nI 0))))) ++ (wPl q_9 j_10 cI (fun _ => (-1 : Int32)))) ++ (wPl q_12 j_13 cI (fun _ => (-1 : Int32)))) H := hP
  have hD : va_D A (((([(a, .inr (7, [.ref q_1, .ref q_9, .ref q_12, .null, .null]))] : va_W) ++ ((wOf q_1 (j_2 0) (j_4 0)) ++ ((wFl j_2 j_3 cI cZ cQ (fun _ => nI 0) (fun _ => nI 0) (fun _ => nI 0) (fun _ _ => nI 0) (fun _ => nI 0) (fun _ => nI 0) (nI 0) (nI 0)) ++ (wSt j_4 j_5 j_6 j_7 cI cQ (fun _ _ => nI 0) (fun _ => nI 0) (fun _ _ => nI 0) (fun _ _ => nI 0) (nI 0))))) ++ (wPl q_9 j_10 cI (fun _ => (-1 : Int32)))) ++ (wPl q_12 j_13 cI (fun _ => (-1 : Int32)))) := hD
  refine lv_aload_n hx hb dX7_init_37 rfl (lv_at hl 0 rfl) ?_
  refine va_new (ci := 2) (fs := [.null, .null, .null, .int (nI 0), .int (nI 0)]) (C := RX2) (T := TX2) (N := 5) hx hb hts tu_X2 tyX2 tyX2_ok hown (hts _ t1_134) (hts _ t1_135) (hts _ t1_7) hSt.1 hP hD hS hA rfl (fun j hj => by rcases (show j = 0 ∨ j = 1 ∨ j = 2 ∨ j = 3 ∨ j = 4 by omega) with rfl | rfl | rfl | rfl | rfl <;> rfl) (Nat.le_of_ble_eq_true rfl) (Nat.le_of_ble_eq_true rfl) dX7_init_38 (fun q_15 H hP hD hS => ?_)
  have hP : va_P D vwCl ((((([(a, .inr (7, [.ref q_1, .ref q_9, .ref q_12, .null, .null]))] : va_W) ++ ((wOf q_1 (j_2 0) (j_4 0)) ++ ((wFl j_2 j_3 cI cZ cQ (fun _ => nI 0) (fun _ => nI 0) (fun _ => nI 0) (fun _ _ => nI 0) (fun _ => nI 0) (fun _ => nI 0) (nI 0) (nI 0)) ++ (wSt j_4 j_5 j_6 j_7 cI cQ (fun _ _ => nI 0) (fun _ => nI 0) (fun _ _ => nI 0) (fun _ _ => nI 0) (nI 0))))) ++ (wPl q_9 j_10 cI (fun _ => (-1 : Int32)))) ++ (wPl q_12 j_13 cI (fun _ => (-1 : Int32)))) ++ ([(q_15, .inr (2, [.null, .null, .null, .int (nI 0), .int (nI 0)]))] : va_W)) H := hP
  have hD : va_D A ((((([(a, .inr (7, [.ref q_1, .ref q_9, .ref q_12, .null, .null]))] : va_W) ++ ((wOf q_1 (j_2 0) (j_4 0)) ++ ((wFl j_2 j_3 cI cZ cQ (fun _ => nI 0) (fun _ => nI 0) (fun _ => nI 0) (fun _ _ => nI 0) (fun _ => nI 0) (fun _ => nI 0) (nI 0) (nI 0)) ++ (wSt j_4 j_5 j_6 j_7 cI cQ (fun _ _ => nI 0) (fun _ => nI 0) (fun _ _ => nI 0) (fun _ _ => nI 0) (nI 0))))) ++ (wPl q_9 j_10 cI (fun _ => (-1 : Int32)))) ++ (wPl q_12 j_13 cI (fun _ => (-1 : Int32)))) ++ ([(q_15, .inr (2, [.null, .null, .null, .int (nI 0), .int (nI 0)]))] : va_W)) := hD
  refine lv_dup hx hb dX7_init_41 rfl ?_
  refine rw_v (wr := ((([(a, .inr (7, [.ref q_1, .ref q_9, .ref q_12, .null, .null]))] : va_W) ++ ((wOf q_1 (j_2 0) (j_4 0)) ++ ((wFl j_2 j_3 cI cZ cQ (fun _ => nI 0) (fun _ => nI 0) (fun _ => nI 0) (fun _ _ => nI 0) (fun _ => nI 0) (fun _ => nI 0) (nI 0) (nI 0)) ++ (wSt j_4 j_5 j_6 j_7 cI cQ (fun _ _ => nI 0) (fun _ => nI 0) (fun _ _ => nI 0) (fun _ _ => nI 0) (nI 0))))) ++ (wPl q_9 j_10 cI (fun _ => (-1 : Int32)))) ++ (wPl q_12 j_13 cI (fun _ => (-1 : Int32)))) (w_IN (As := []) ⟨hx, hb, hml, hown, hts⟩ (c_X2_init l D cI cZ cQ cJ q_15 H.size) (hSt.2.m 3 rfl) t1_137 t1_7 t1_138 rfl rfl hd_X2_init ⟨Nat.le_of_ble_eq_true rfl, Nat.le_of_ble_eq_true rfl⟩ (rw_pre hP hD hSt [46] rfl (by decide)) rfl hl.1 (rest := [.ref q_15, .ref a]) rfl (Nat.le_of_ble_eq_true rfl) dX7_init_42 ⟨Nat.le_of_ble_eq_true rfl, Nat.le_of_ble_eq_true rfl⟩) hP hD hS hA [46] [0, 1, 2, 3, 4, 5, 6, 7, 8, 9, 10, 11, 12, 13, 14, 15, 16, 17, 18, 19, 20, 21, 22, 23, 24, 25, 26, 27, 28, 29, 30, 31, 32, 33, 34, 35, 36, 37, 38, 39, 40, 41, 42, 43, 44, 45] rfl rfl (by decide) (by decide) (fun u_17 H locs hw hP hD hS => ?_)
  obtain ⟨j_16, rfl⟩ : ∃ z9, z9 = u_17 := ⟨_, rfl⟩
  have f_18 := hw
  have f_18x : j_16 0 = q_15 := f_18
  have hP : va_P D vwCl ((((([(a, .inr (7, [.ref q_1, .ref q_9, .ref q_12, .null, .null]))] : va_W) ++ ((wOf q_1 (j_2 0) (j_4 0)) ++ ((wFl j_2 j_3 cI cZ cQ (fun _ => nI 0) (fun _ => nI 0) (fun _ => nI 0) (fun _ _ => nI 0) (fun _ => nI 0) (fun _ => nI 0) (nI 0) (nI 0)) ++ (wSt j_4 j_5 j_6 j_7 cI cQ (fun _ _ => nI 0) (fun _ => nI 0) (fun _ _ => nI 0) (fun _ _ => nI 0) (nI 0))))) ++ (wPl q_9 j_10 cI (fun _ => (-1 : Int32)))) ++ (wPl q_12 j_13 cI (fun _ => (-1 : Int32)))) ++ (wFs j_16 cI cZ (fun _ => (-1 : Int32)) (fun _ => (-1 : Int32)) (fun _ => nI 0) (nI 0) (-1 : Int32))) H := hP
  have hD : va_D A ((((([(a, .inr (7, [.ref q_1, .ref q_9, .ref q_12, .null, .null]))] : va_W) ++ ((wOf q_1 (j_2 0) (j_4 0)) ++ ((wFl j_2 j_3 cI cZ cQ (fun _ => nI 0) (fun _ => nI 0) (fun _ => nI 0) (fun _ _ => nI 0) (fun _ => nI 0) (fun _ => nI 0) (nI 0) (nI 0)) ++ (wSt j_4 j_5 j_6 j_7 cI cQ (fun _ _ => nI 0) (fun _ => nI 0) (fun _ _ => nI 0) (fun _ _ => nI 0) (nI 0))))) ++ (wPl q_9 j_10 cI (fun _ => (-1 : Int32)))) ++ (wPl q_12 j_13 cI (fun _ => (-1 : Int32)))) ++ (wFs j_16 cI cZ (fun _ => (-1 : Int32)) (fun _ => (-1 : Int32)) (fun _ => nI 0) (nI 0) (-1 : Int32))) := hD
  have hP77 := hP
  have hD77 := hD
  subst f_18x
  have hP := hP77
  have hD := hD77
  refine va_putF (D := D) (ci := 7) (v := .ref (j_16 0)) (ty := (.object "DeskPlanner$FullSearch")) (C := RX7) (T := TX7) (N := 5) hx hb hts tu_X7 tyX7 tyX7_ok nmX7 hown hSt.1 hP hD hS 0 rfl rfl 3 (by decide) (hts _ t1_211) (fun _ h9 => h9) rfl hin rfl (by decide +kernel) rfl rfl (Nat.le_of_ble_eq_true rfl) dX7_init_45 (fun H locs hP hD hS => ?_)
  have hP : va_P D vwCl ((((([(a, .inr (7, [.ref q_1, .ref q_9, .ref q_12, .ref (j_16 0), .null]))] : va_W) ++ ((wOf q_1 (j_2 0) (j_4 0)) ++ ((wFl j_2 j_3 cI cZ cQ (fun _ => nI 0) (fun _ => nI 0) (fun _ => nI 0) (fun _ _ => nI 0) (fun _ => nI 0) (fun _ => nI 0) (nI 0) (nI 0)) ++ (wSt j_4 j_5 j_6 j_7 cI cQ (fun _ _ => nI 0) (fun _ => nI 0) (fun _ _ => nI 0) (fun _ _ => nI 0) (nI 0))))) ++ (wPl q_9 j_10 cI (fun _ => (-1 : Int32)))) ++ (wPl q_12 j_13 cI (fun _ => (-1 : Int32)))) ++ (wFs j_16 cI cZ (fun _ => (-1 : Int32)) (fun _ => (-1 : Int32)) (fun _ => nI 0) (nI 0) (-1 : Int32))) H := hP
  have hD : va_D A ((((([(a, .inr (7, [.ref q_1, .ref q_9, .ref q_12, .ref (j_16 0), .null]))] : va_W) ++ ((wOf q_1 (j_2 0) (j_4 0)) ++ ((wFl j_2 j_3 cI cZ cQ (fun _ => nI 0) (fun _ => nI 0) (fun _ => nI 0) (fun _ _ => nI 0) (fun _ => nI 0) (fun _ => nI 0) (nI 0) (nI 0)) ++ (wSt j_4 j_5 j_6 j_7 cI cQ (fun _ _ => nI 0) (fun _ => nI 0) (fun _ _ => nI 0) (fun _ _ => nI 0) (nI 0))))) ++ (wPl q_9 j_10 cI (fun _ => (-1 : Int32)))) ++ (wPl q_12 j_13 cI (fun _ => (-1 : Int32)))) ++ (wFs j_16 cI cZ (fun _ => (-1 : Int32)) (fun _ => (-1 : Int32)) (fun _ => nI 0) (nI 0) (-1 : Int32))) := hD
  refine lv_aload_n hx hb dX7_init_48 rfl (lv_at hl 0 rfl) ?_
  refine va_new (ci := 6) (fs := [.null, .null, .null, .null]) (C := RX6) (T := TX6) (N := 4) hx hb hts tu_X6 tyX6 tyX6_ok hown (hts _ t1_159) (hts _ t1_160) (hts _ t1_8) hSt.1 hP hD hS hA rfl (fun j hj => by rcases (show j = 0 ∨ j = 1 ∨ j = 2 ∨ j = 3 by omega) with rfl | rfl | rfl | rfl <;> rfl) (Nat.le_of_ble_eq_true rfl) (Nat.le_of_ble_eq_true rfl) dX7_init_49 (fun q_19 H hP hD hS => ?_)
  have hP : va_P D vwCl (((((([(a, .inr (7, [.ref q_1, .ref q_9, .ref q_12, .ref (j_16 0), .null]))] : va_W) ++ ((wOf q_1 (j_2 0) (j_4 0)) ++ ((wFl j_2 j_3 cI cZ cQ (fun _ => nI 0) (fun _ => nI 0) (fun _ => nI 0) (fun _ _ => nI 0) (fun _ => nI 0) (fun _ => nI 0) (nI 0) (nI 0)) ++ (wSt j_4 j_5 j_6 j_7 cI cQ (fun _ _ => nI 0) (fun _ => nI 0) (fun _ _ => nI 0) (fun _ _ => nI 0) (nI 0))))) ++ (wPl q_9 j_10 cI (fun _ => (-1 : Int32)))) ++ (wPl q_12 j_13 cI (fun _ => (-1 : Int32)))) ++ (wFs j_16 cI cZ (fun _ => (-1 : Int32)) (fun _ => (-1 : Int32)) (fun _ => nI 0) (nI 0) (-1 : Int32))) ++ ([(q_19, .inr (6, [.null, .null, .null, .null]))] : va_W)) H := hP
  have hD : va_D A (((((([(a, .inr (7, [.ref q_1, .ref q_9, .ref q_12, .ref (j_16 0), .null]))] : va_W) ++ ((wOf q_1 (j_2 0) (j_4 0)) ++ ((wFl j_2 j_3 cI cZ cQ (fun _ => nI 0) (fun _ => nI 0) (fun _ => nI 0) (fun _ _ => nI 0) (fun _ => nI 0) (fun _ => nI 0) (nI 0) (nI 0)) ++ (wSt j_4 j_5 j_6 j_7 cI cQ (fun _ _ => nI 0) (fun _ => nI 0) (fun _ _ => nI 0) (fun _ _ => nI 0) (nI 0))))) ++ (wPl q_9 j_10 cI (fun _ => (-1 : Int32)))) ++ (wPl q_12 j_13 cI (fun _ => (-1 : Int32)))) ++ (wFs j_16 cI cZ (fun _ => (-1 : Int32)) (fun _ => (-1 : Int32)) (fun _ => nI 0) (nI 0) (-1 : Int32))) ++ ([(q_19, .inr (6, [.null, .null, .null, .null]))] : va_W)) := hD
  refine lv_dup hx hb dX7_init_52 rfl ?_
  refine rw_v (wr := (((([(a, .inr (7, [.ref q_1, .ref q_9, .ref q_12, .ref (j_16 0), .null]))] : va_W) ++ ((wOf q_1 (j_2 0) (j_4 0)) ++ ((wFl j_2 j_3 cI cZ cQ (fun _ => nI 0) (fun _ => nI 0) (fun _ => nI 0) (fun _ _ => nI 0) (fun _ => nI 0) (fun _ => nI 0) (nI 0) (nI 0)) ++ (wSt j_4 j_5 j_6 j_7 cI cQ (fun _ _ => nI 0) (fun _ => nI 0) (fun _ _ => nI 0) (fun _ _ => nI 0) (nI 0))))) ++ (wPl q_9 j_10 cI (fun _ => (-1 : Int32)))) ++ (wPl q_12 j_13 cI (fun _ => (-1 : Int32)))) ++ (wFs j_16 cI cZ (fun _ => (-1 : Int32)) (fun _ => (-1 : Int32)) (fun _ => nI 0) (nI 0) (-1 : Int32))) (w_IN (As := []) ⟨hx, hb, hml, hown, hts⟩ (c_X6_init l D cI cZ cQ cJ q_19 H.size) (hSt.2.m 4 rfl) t1_162 t1_8 t1_163 rfl rfl hd_X6_init ⟨Nat.le_of_ble_eq_true rfl, Nat.le_of_ble_eq_true rfl⟩ (rw_pre hP hD hSt [52] rfl (by decide)) rfl hl.1 (rest := [.ref q_19, .ref a]) rfl (Nat.le_of_ble_eq_true rfl) dX7_init_53 ⟨Nat.le_of_ble_eq_true rfl, Nat.le_of_ble_eq_true rfl⟩) hP hD hS hA [52] [0, 1, 2, 3, 4, 5, 6, 7, 8, 9, 10, 11, 12, 13, 14, 15, 16, 17, 18, 19, 20, 21, 22, 23, 24, 25, 26, 27, 28, 29, 30, 31, 32, 33, 34, 35, 36, 37, 38, 39, 40, 41, 42, 43, 44, 45, 46, 47, 48, 49, 50, 51] rfl rfl (by decide) (by decide) (fun u_21 H locs hw hP hD hS => ?_)
  obtain ⟨j_20, rfl⟩ : ∃ z9, z9 = u_21 := ⟨_, rfl⟩
  have f_22 := hw
  have f_22x : j_20 0 = q_19 := f_22
  have hP : va_P D vwCl (((((([(a, .inr (7, [.ref q_1, .ref q_9, .ref q_12, .ref (j_16 0), .null]))] : va_W) ++ ((wOf q_1 (j_2 0) (j_4 0)) ++ ((wFl j_2 j_3 cI cZ cQ (fun _ => nI 0) (fun _ => nI 0) (fun _ => nI 0) (fun _ _ => nI 0) (fun _ => nI 0) (fun _ => nI 0) (nI 0) (nI 0)) ++ (wSt j_4 j_5 j_6 j_7 cI cQ (fun _ _ => nI 0) (fun _ => nI 0) (fun _ _ => nI 0) (fun _ _ => nI 0) (nI 0))))) ++ (wPl q_9 j_10 cI (fun _ => (-1 : Int32)))) ++ (wPl q_12 j_13 cI (fun _ => (-1 : Int32)))) ++ (wFs j_16 cI cZ (fun _ => (-1 : Int32)) (fun _ => (-1 : Int32)) (fun _ => nI 0) (nI 0) (-1 : Int32))) ++ (wSs j_20 cI (fun _ => (-1 : Int32)) (fun _ => (-1 : Int32)) (fun _ => nI 0) (nI 0) (nI 0) (-1 : Int32) (nI 0) (nI 0))) H := hP
  have hD : va_D A (((((([(a, .inr (7, [.ref q_1, .ref q_9, .ref q_12, .ref (j_16 0), .null]))] : va_W) ++ ((wOf q_1 (j_2 0) (j_4 0)) ++ ((wFl j_2 j_3 cI cZ cQ (fun _ => nI 0) (fun _ => nI 0) (fun _ => nI 0) (fun _ _ => nI 0) (fun _ => nI 0) (fun _ => nI 0) (nI 0) (nI 0)) ++ (wSt j_4 j_5 j_6 j_7 cI cQ (fun _ _ => nI 0) (fun _ => nI 0) (fun _ _ => nI 0) (fun _ _ => nI 0) (nI 0))))) ++ (wPl q_9 j_10 cI (fun _ => (-1 : Int32)))) ++ (wPl q_12 j_13 cI (fun _ => (-1 : Int32)))) ++ (wFs j_16 cI cZ (fun _ => (-1 : Int32)) (fun _ => (-1 : Int32)) (fun _ => nI 0) (nI 0) (-1 : Int32))) ++ (wSs j_20 cI (fun _ => (-1 : Int32)) (fun _ => (-1 : Int32)) (fun _ => nI 0) (nI 0) (nI 0) (-1 : Int32) (nI 0) (nI 0))) := hD
  have hP77 := hP
  have hD77 := hD
  subst f_22x
  have hP := hP77
  have hD := hD77
  refine va_putF (D := D) (ci := 7) (v := .ref (j_20 0)) (ty := (.object "DeskPlanner$StepSearch")) (C := RX7) (T := TX7) (N := 5) hx hb hts tu_X7 tyX7 tyX7_ok nmX7 hown hSt.1 hP hD hS 0 rfl rfl 4 (by decide) (hts _ t1_212) (fun _ h9 => h9) rfl hin rfl (by decide +kernel) rfl rfl (Nat.le_of_ble_eq_true rfl) dX7_init_56 (fun H locs hP hD hS => ?_)
  have hP : va_P D vwCl (((((([(a, .inr (7, [.ref q_1, .ref q_9, .ref q_12, .ref (j_16 0), .ref (j_20 0)]))] : va_W) ++ ((wOf q_1 (j_2 0) (j_4 0)) ++ ((wFl j_2 j_3 cI cZ cQ (fun _ => nI 0) (fun _ => nI 0) (fun _ => nI 0) (fun _ _ => nI 0) (fun _ => nI 0) (fun _ => nI 0) (nI 0) (nI 0)) ++ (wSt j_4 j_5 j_6 j_7 cI cQ (fun _ _ => nI 0) (fun _ => nI 0) (fun _ _ => nI 0) (fun _ _ => nI 0) (nI 0))))) ++ (wPl q_9 j_10 cI (fun _ => (-1 : Int32)))) ++ (wPl q_12 j_13 cI (fun _ => (-1 : Int32)))) ++ (wFs j_16 cI cZ (fun _ => (-1 : Int32)) (fun _ => (-1 : Int32)) (fun _ => nI 0) (nI 0) (-1 : Int32))) ++ (wSs j_20 cI (fun _ => (-1 : Int32)) (fun _ => (-1 : Int32)) (fun _ => nI 0) (nI 0) (nI 0) (-1 : Int32) (nI 0) (nI 0))) H := hP
  have hD : va_D A (((((([(a, .inr (7, [.ref q_1, .ref q_9, .ref q_12, .ref (j_16 0), .ref (j_20 0)]))] : va_W) ++ ((wOf q_1 (j_2 0) (j_4 0)) ++ ((wFl j_2 j_3 cI cZ cQ (fun _ => nI 0) (fun _ => nI 0) (fun _ => nI 0) (fun _ _ => nI 0) (fun _ => nI 0) (fun _ => nI 0) (nI 0) (nI 0)) ++ (wSt j_4 j_5 j_6 j_7 cI cQ (fun _ _ => nI 0) (fun _ => nI 0) (fun _ _ => nI 0) (fun _ _ => nI 0) (nI 0))))) ++ (wPl q_9 j_10 cI (fun _ => (-1 : Int32)))) ++ (wPl q_12 j_13 cI (fun _ => (-1 : Int32)))) ++ (wFs j_16 cI cZ (fun _ => (-1 : Int32)) (fun _ => (-1 : Int32)) (fun _ => nI 0) (nI 0) (-1 : Int32))) ++ (wSs j_20 cI (fun _ => (-1 : Int32)) (fun _ => (-1 : Int32)) (fun _ => nI 0) (nI 0) (nI 0) (-1 : Int32) (nI 0) (nI 0))) := hD
  have hP9 : va_P D vwCl ((wDp a q_1 q_9 q_12 (j_16 0) (j_20 0)) ++ ((wOf q_1 (j_2 0) (j_4 0)) ++ ((wFl j_2 j_3 cI cZ cQ (fun _ => nI 0) (fun _ => nI 0) (fun _ => nI 0) (fun _ _ => nI 0) (fun _ => nI 0) (fun _ => nI 0) (nI 0) (nI 0)) ++ ((wSt j_4 j_5 j_6 j_7 cI cQ (fun _ _ => nI 0) (fun _ => nI 0) (fun _ _ => nI 0) (fun _ _ => nI 0) (nI 0)) ++ ((wPl q_9 j_10 cI (fun _ => (-1 : Int32))) ++ ((wPl q_12 j_13 cI (fun _ => (-1 : Int32))) ++ ((wFs j_16 cI cZ (fun _ => (-1 : Int32)) (fun _ => (-1 : Int32)) (fun _ => nI 0) (nI 0) (-1 : Int32)) ++ (wSs j_20 cI (fun _ => (-1 : Int32)) (fun _ => (-1 : Int32)) (fun _ => nI 0) (nI 0) (nI 0) (-1 : Int32) (nI 0) (nI 0))))))))) H := (show va_P D vwCl ((wDp a q_1 q_9 q_12 (j_16 0) (j_20 0)) ++ ((wOf q_1 (j_2 0) (j_4 0)) ++ ((wFl j_2 j_3 cI cZ cQ (fun _ => nI 0) (fun _ => nI 0) (fun _ => nI 0) (fun _ _ => nI 0) (fun _ => nI 0) (fun _ => nI 0) (nI 0) (nI 0)) ++ ((wSt j_4 j_5 j_6 j_7 cI cQ (fun _ _ => nI 0) (fun _ => nI 0) (fun _ _ => nI 0) (fun _ _ => nI 0) (nI 0)) ++ ((wPl q_9 j_10 cI (fun _ => (-1 : Int32))) ++ ((wPl q_12 j_13 cI (fun _ => (-1 : Int32))) ++ ((wFs j_16 cI cZ (fun _ => (-1 : Int32)) (fun _ => (-1 : Int32)) (fun _ => nI 0) (nI 0) (-1 : Int32)) ++ (wSs j_20 cI (fun _ => (-1 : Int32)) (fun _ => (-1 : Int32)) (fun _ => nI 0) (nI 0) (nI 0) (-1 : Int32) (nI 0) (nI 0))))))))) H from hP)
  have hD9 : va_D A ((wDp a q_1 q_9 q_12 (j_16 0) (j_20 0)) ++ ((wOf q_1 (j_2 0) (j_4 0)) ++ ((wFl j_2 j_3 cI cZ cQ (fun _ => nI 0) (fun _ => nI 0) (fun _ => nI 0) (fun _ _ => nI 0) (fun _ => nI 0) (fun _ => nI 0) (nI 0) (nI 0)) ++ ((wSt j_4 j_5 j_6 j_7 cI cQ (fun _ _ => nI 0) (fun _ => nI 0) (fun _ _ => nI 0) (fun _ _ => nI 0) (nI 0)) ++ ((wPl q_9 j_10 cI (fun _ => (-1 : Int32))) ++ ((wPl q_12 j_13 cI (fun _ => (-1 : Int32))) ++ ((wFs j_16 cI cZ (fun _ => (-1 : Int32)) (fun _ => (-1 : Int32)) (fun _ => nI 0) (nI 0) (-1 : Int32)) ++ (wSs j_20 cI (fun _ => (-1 : Int32)) (fun _ => (-1 : Int32)) (fun _ => nI 0) (nI 0) (nI 0) (-1 : Int32) (nI 0) (nI 0))))))))) := (show va_D A ((wDp a q_1 q_9 q_12 (j_16 0) (j_20 0)) ++ ((wOf q_1 (j_2 0) (j_4 0)) ++ ((wFl j_2 j_3 cI cZ cQ (fun _ => nI 0) (fun _ => nI 0) (fun _ => nI 0) (fun _ _ => nI 0) (fun _ => nI 0) (fun _ => nI 0) (nI 0) (nI 0)) ++ ((wSt j_4 j_5 j_6 j_7 cI cQ (fun _ _ => nI 0) (fun _ => nI 0) (fun _ _ => nI 0) (fun _ _ => nI 0) (nI 0)) ++ ((wPl q_9 j_10 cI (fun _ => (-1 : Int32))) ++ ((wPl q_12 j_13 cI (fun _ => (-1 : Int32))) ++ ((wFs j_16 cI cZ (fun _ => (-1 : Int32)) (fun _ => (-1 : Int32)) (fun _ => nI 0) (nI 0) (-1 : Int32)) ++ (wSs j_20 cI (fun _ => (-1 : Int32)) (fun _ => (-1 : Int32)) (fun _ => nI 0) (nI 0) (nI 0) (-1 : Int32) (nI 0) (nI 0))))))))) from hD)
  refine W.widen (k := 58) (n := 514) (by omega) (by omega) ?_
  exact W.vret hx hb hr (fun t9 ht9 hW9 => ⟨⟨(q_1, q_9, j_10, q_12, j_13, j_2, j_3, j_4, j_5, j_6, j_7, j_16, j_20), rfl, trivial, by rw [ht9]; exact hP9, hD9⟩, hS.F ht9⟩) hS.2.2 dX7_init_59
theorem hd_X4_countOtherwise : yX4_countOtherwise.cls = RX4 ∧ yX4_countOtherwise.cls ≠ "java/lang/invoke/MethodHandle" ∧ yX4_countOtherwise.cls ≠ "java/lang/invoke/VarHandle" ∧ (parseMethodDescriptor yX4_countOtherwise.desc).map (fun d => d.parameters.length) = some 1 := by decide +kernel
theorem hd_X4_layLike : yX4_layLike.cls = RX4 ∧ yX4_layLike.cls ≠ "java/lang/invoke/MethodHandle" ∧ yX4_layLike.cls ≠ "java/lang/invoke/VarHandle" ∧ (parseMethodDescriptor yX4_layLike.desc).map (fun d => d.parameters.length) = some 1 := by decide +kernel
theorem hd_X0_keepIfLess : yX0_keepIfLess.cls = RX0 ∧ yX0_keepIfLess.cls ≠ "java/lang/invoke/MethodHandle" ∧ yX0_keepIfLess.cls ≠ "java/lang/invoke/VarHandle" ∧ (parseMethodDescriptor yX0_keepIfLess.desc).map (fun d => d.parameters.length) = some 4 := by decide +kernel
theorem hd_X7_init : yX7_init.name = "<init>" ∧ yX7_init.cls ≠ "java/lang/invoke/MethodHandle" ∧ yX7_init.cls ≠ "java/lang/invoke/VarHandle" ∧ (parseMethodDescriptor yX7_init.desc).map (fun d => d.parameters.length) = some 0 := by decide +kernel
