/-- the first of the places n - k, .., n - 1 where f is z, the place as the machine has it; -1 if there is none -/
def fs (f : Nat → Int32) (z : Int32) (n : Nat) : Nat → Int32
  | 0 => -1
  | k + 1 => if f (n - (k + 1)) = z then nI (n - (k + 1)) else fs f z n k
/-- the team of a zone (-1 for none) -/
def tAt (f : Nat → Int32) (z : Int32) : Int32 := if z = -1 then -1 else fs f z 7 7
/-- how many of the first n are true -/
def cnt (g : Nat → Bool) : Nat → Nat
  | 0 => 0
  | n + 1 => cnt g n + (if g n then 1 else 0)
theorem cnt_le (g : Nat → Bool) : ∀ n, cnt g n ≤ n
  | 0 => Nat.le_refl 0
  | n + 1 => by
    have := cnt_le g n
    unfold cnt
    split <;> omega

set_option maxHeartbeats 4000000 in
set_option maxRecDepth 100000 in
/-- the zone of a team -/
theorem c_X4_zoneWith (l : Launch) (D : va_G) (cI cZ cQ cJ : ClassId) (a : Nat) (b : Nat) (f : Nat → Int32) (t : Nat) (ht : t < 7) : Met l yX4_zoneWith (.code yX4_zoneWith cX4_zoneWith 2 (some .int) :: ALL) ({ frames := 0, cells := 0, slots := 0, locals := 0 } : Room) (va_Pc [.ref a, .int (nI t)] (ro_P D cI cZ cQ cJ (wPl a b cI f))) (vp_Si (fun r9 => r9 = f t)) 0 0 (fun _ => False) := by
  refine Met.ofW (cc := cX4_zoneWith) (maxL := 2) (ret := (some .int)) (by decide) rfl ?_
  intro p e s m args below meth c s₁ B hml hv
  obtain ⟨rfl, hP, hSt⟩ := hv
  have hx := B.exec
  have hb := B.bytes
  have hr := B.returns
  have hts : ∀ w ∈ ALL, w.before ([.ref a, .int (nI t)] : List Value).toArray s = true := fun w h => atoms_spec (ws := (.code yX4_zoneWith cX4_zoneWith 2 (some .int) :: ALL)) B.pre w (List.mem_cons_of_mem _ h)
  have hown : s.vm.findClass RX4 = some m.cls := findClass_of_methodNamed B.named
  have hlocks := B.notSynchronized
  have hl := lv_entry ([.ref a, .int (nI t)]) (n := 2) (Nat.le_of_ble_eq_true rfl)
  rw [lg_entry_eq]
  generalize (lg_sl ([.ref a, .int (nI t)]) ++ List.replicate (2 - (lg_sl ([.ref a, .int (nI t)])).length) Slot.unset).toArray = ls at hl ⊢
  have hl : lv_has ls 2 [(0, .ref a), (1, .int (nI t))] := hl
  refine lv_aload_n hx hb dX4_zoneWith_0 rfl (lv_at hl 0 rfl) ?_
  refine va_get (D := D) (ci := 4) (v := .ref b) (C := RX4) (T := TX4) (N := 1) hx hb hts tu_X4 hown hSt.1 hP 0 rfl rfl 0 (by decide) (hts _ t1_130) (fun _ h9 => h9) rfl dX4_zoneWith_1 ?_
  refine lv_iload_n hx hb dX4_zoneWith_4 rfl (lv_at hl 1 rfl) ?_
  refine r_iald hx hb hSt.1 hP 1 0 rfl rfl (k := t) (by omega) (by omega) dX4_zoneWith_5 ?_
  exact W.iret (v := f t) hx hb hr (fun t9 ht9 hW9 => ⟨_, rfl, (rfl), ht9⟩) (fun q h => nomatch h) dX4_zoneWith_6
set_option maxHeartbeats 4000000 in
set_option maxRecDepth 100000 in
/-- the team of a zone -/
theorem c_X4_teamAt (l : Launch) (D : va_G) (cI cZ cQ cJ : ClassId) (a : Nat) (b : Nat) (f : Nat → Int32) (z : Int32)  : Met l yX4_teamAt (.code yX4_teamAt cX4_teamAt 3 (some .int) :: ALL) ({ frames := 0, cells := 0, slots := 0, locals := 0 } : Room) (va_Pc [.ref a, .int z] (ro_P D cI cZ cQ cJ (wPl a b cI f))) (vp_Si (fun r9 => r9 = tAt f z)) 0 0 (fun _ => False) := by
  refine Met.ofW (cc := cX4_teamAt) (maxL := 3) (ret := (some .int)) (by decide) rfl ?_
  intro p e s m args below meth c s₁ B hml hv
  obtain ⟨rfl, hP, hSt⟩ := hv
  have hx := B.exec
  have hb := B.bytes
  have hr := B.returns
  have hts : ∀ w ∈ ALL, w.before ([.ref a, .int z] : List Value).toArray s = true := fun w h => atoms_spec (ws := (.code yX4_teamAt cX4_teamAt 3 (some .int) :: ALL)) B.pre w (List.mem_cons_of_mem _ h)
  have hown : s.vm.findClass RX4 = some m.cls := findClass_of_methodNamed B.named
  have hlocks := B.notSynchronized
  have hl := lv_entry ([.ref a, .int z]) (n := 3) (Nat.le_of_ble_eq_true rfl)
  rw [lg_entry_eq]
  generalize (lg_sl ([.ref a, .int z]) ++ List.replicate (3 - (lg_sl ([.ref a, .int z])).length) Slot.unset).toArray = ls at hl ⊢
  have hl : lv_has ls 3 [(0, .ref a), (1, .int z)] := hl
  refine lv_iload_n hx hb dX4_teamAt_0 rfl (lv_at hl 1 rfl) ?_
  refine lv_iconst (v := (-1 : Int32)) hx hb dX4_teamAt_1 (by decide) ?_
  refine lv_icmp_ne (tgt := 7) hx hb dX4_teamAt_2 (by decide) (fun c_1 => ?_) (fun c_1 => ?_)
  · refine lv_iconst (v := nI 0) hx hb dX4_teamAt_7 (by decide) ?_
    refine lv_istore_n (lv' := [(2, .int (nI 0)), (0, .ref a), (1, .int z)]) hx hb dX4_teamAt_8 rfl hl (by decide) rfl (fun ls hl => ?_)
    have L9 : ∀ (n : Nat) (i : Nat), (i ≤ 7) → (tAt f z = fs f z 7 (7 - i)) → (7 - i) < n → ∀ (ls : Array Slot), lv_has ls 3 [(0, .ref a), (1, .int z), (2, .int (nI i))] → W p l e ({ frames := 0, cells := 0, slots := 0, locals := 0 } : Room) s m ([.ref a, .int z] : List Value).toArray below meth c s.heap [] 0 0 (MQ below (vp_Si (fun r9 => r9 = tAt f z)) ([.ref a, .int z] : List Value).toArray s 0 0 (fun _ => False)) (F0 m 9 ls []) := by
      intro n
      induction n with
      | zero =>
        intro i hi hq hm
        exact absurd hm (by omega)
      | succ n ih =>
        intro i hi hq hm ls hl
        have ih_L9 := ih
        refine lv_iload_n hx hb dX4_teamAt_9 rfl (lv_at hl 2 rfl) ?_
        refine lv_bipush (v := nI 7) hx hb dX4_teamAt_10 (by decide) ?_
        refine lv_icmp_ge (tgt := 33) hx hb dX4_teamAt_12 (by decide) (fun c_2 => ?_) (fun c_2 => ?_)
        · have c_2 := z_le (by omega) (by omega) c_2
          refine lv_iconst (v := (-1 : Int32)) hx hb dX4_teamAt_33 (by decide) ?_
          exact W.iret (v := (-1 : Int32)) hx hb hr (fun t9 ht9 hW9 => ⟨_, rfl, (by rw [hq, show 7 - i = 0 by omega]; rfl), ht9⟩) (fun q h => nomatch h) dX4_teamAt_34
        · have c_2 := z_nle (by omega) (by omega) c_2
          refine lv_aload_n hx hb dX4_teamAt_15 rfl (lv_at hl 0 rfl) ?_
          refine va_get (D := D) (ci := 4) (v := .ref b) (C := RX4) (T := TX4) (N := 1) hx hb hts tu_X4 hown hSt.1 hP 0 rfl rfl 0 (by decide) (hts _ t1_130) (fun _ h9 => h9) rfl dX4_teamAt_16 ?_
          refine lv_iload_n hx hb dX4_teamAt_19 rfl (lv_at hl 2 rfl) ?_
          refine r_iald hx hb hSt.1 hP 1 0 rfl rfl (k := i) (by omega) (by omega) dX4_teamAt_20 ?_
          refine lv_iload_n hx hb dX4_teamAt_21 rfl (lv_at hl 1 rfl) ?_
          refine lv_icmp_ne (tgt := 27) hx hb dX4_teamAt_22 (by decide) (fun c_3 => ?_) (fun c_3 => ?_)
          · refine lv_iinc (v := nI (i + 1)) (lv' := [(2, .int (nI (i + 1))), (0, .ref a), (1, .int z)]) hx hb dX4_teamAt_27 hl (k := 2) rfl (z_inc _) (by decide) rfl (fun ls hl => ?_)
            refine lv_goto (tgt := 9) hx hb dX4_teamAt_30 (by decide) ?_
            exact ih_L9 (i + 1) (by omega) (hq.trans (by rw [show 7 - i = (7 - (i + 1)) + 1 by omega, fs, if_neg (by rw [show 7 - (7 - (i + 1) + 1) = i by omega]; assumption)])) (by omega) _ (lv_sub hl [1, 2, 0] rfl)
          · refine lv_iload_n hx hb dX4_teamAt_25 rfl (lv_at hl 2 rfl) ?_
            exact W.iret (v := nI i) hx hb hr (fun t9 ht9 hW9 => ⟨_, rfl, (by rw [hq, show 7 - i = (7 - (i + 1)) + 1 by omega, fs, show 7 - (7 - (i + 1) + 1) = i by omega, if_pos (by assumption)]), ht9⟩) (fun q h => nomatch h) dX4_teamAt_26
    exact L9 _ 0 (by omega) (by rw [tAt, if_neg (by assumption)]) (Nat.lt_succ_self _) _ (lv_sub hl [1, 2, 0] rfl)
  · refine lv_iconst (v := (-1 : Int32)) hx hb dX4_teamAt_5 (by decide) ?_
    exact W.iret (v := (-1 : Int32)) hx hb hr (fun t9 ht9 hW9 => ⟨_, rfl, (by rw [tAt, if_pos (by assumption)]), ht9⟩) (fun q h => nomatch h) dX4_teamAt_6
set_option maxHeartbeats 4000000 in
set_option maxRecDepth 100000 in
/-- a team comes into a zone -/
theorem c_X4_lay (l : Launch) (D : va_G) (cI cZ cQ cJ : ClassId) (a : Nat) (b : Nat) (f : Nat → Int32) (t : Nat) (z : Int32) (sz : Nat) (ht : t < 7) : Met l yX4_lay (.code yX4_lay cX4_lay 3 none :: ALL) ({ frames := 0, cells := 0, slots := 0, locals := 0 } : Room) (va_Pc [.ref a, .int (nI t), .int z] (rw_P D cI cZ cQ cJ (wPl a b cI f) sz)) (va_Qv (fun u9 : Unit => True) (rw_B D (va_A (wPl a b cI f) sz) (fun u9 : Unit => wPl a b cI (upd f t z))) (va_A (wPl a b cI f) sz)) 0 0 (va_A (wPl a b cI f) sz) := by
  refine Met.ofW (cc := cX4_lay) (maxL := 3) (ret := none) (by decide) rfl ?_
  intro p e s m args below meth c s₁ B hml hv
  obtain ⟨rfl, hsz, hP, hSt, hD0⟩ := hv
  have hx := B.exec
  have hb := B.bytes
  have hr := B.returns
  have hts : ∀ w ∈ ALL, w.before ([.ref a, .int (nI t), .int z] : List Value).toArray s = true := fun w h => atoms_spec (ws := (.code yX4_lay cX4_lay 3 none :: ALL)) B.pre w (List.mem_cons_of_mem _ h)
  have hown : s.vm.findClass RX4 = some m.cls := findClass_of_methodNamed B.named
  have hlocks := B.notSynchronized
  subst hsz
  have hD := hD0.self (sz := s.heap.size)
  clear hD0
  generalize hAe : va_A (wPl a b cI f) s.heap.size = A at hD ⊢
  have hA : ∀ q : Nat, s.heap.size ≤ q → A q := fun q h => by rw [← hAe]; exact Or.inr h
  have hS : va_S A s.heap s.heap [] := va_S.rf
  have hl := lv_entry ([.ref a, .int (nI t), .int z]) (n := 3) (Nat.le_of_ble_eq_true rfl)
  rw [lg_entry_eq]
  generalize (lg_sl ([.ref a, .int (nI t), .int z]) ++ List.replicate (3 - (lg_sl ([.ref a, .int (nI t), .int z])).length) Slot.unset).toArray = ls at hl ⊢
  have hl : lv_has ls 3 [(0, .ref a), (1, .int (nI t)), (2, .int z)] := hl
  obtain ⟨H, hHe⟩ : ∃ H : Heap, H = s.heap := ⟨_, rfl⟩
  obtain ⟨locs, hLe⟩ : ∃ L : List Loc, L = [] := ⟨_, rfl⟩
  have hP : va_P D vwCl (wPl a b cI f) H := by rw [hHe]; exact hP
  have hS : va_S A s.heap H locs := by rw [hHe, hLe]; exact hS
  refine W.eqHL hHe hLe ?_
  refine lv_aload_n hx hb dX4_lay_0 rfl (lv_at hl 0 rfl) ?_
  refine va_get (D := D) (ci := 4) (v := .ref b) (C := RX4) (T := TX4) (N := 1) hx hb hts tu_X4 hown hSt.1 hP 0 rfl rfl 0 (by decide) (hts _ t1_130) (fun _ h9 => h9) rfl dX4_lay_1 ?_
  refine lv_iload_n hx hb dX4_lay_4 rfl (lv_at hl 1 rfl) ?_
  refine lv_iload_n hx hb dX4_lay_5 rfl (lv_at hl 2 rfl) ?_
  refine r_iast hx hb hSt.1 hP hD hS 1 0 rfl rfl (k := t) (by omega) (by omega) dX4_lay_6 (fun H locs hP hD hS => ?_)
  have hP : va_P D vwCl (wPl a b cI (upd f t z)) H := hP
  have hD : va_D A (wPl a b cI (upd f t z)) := hD
  have hP9 : va_P D vwCl (wPl a b cI (upd f t z)) H := hP
  have hD9 : va_D A (wPl a b cI (upd f t z)) := hD
  exact W.vret hx hb hr (fun t9 ht9 hW9 => ⟨⟨(), rfl, trivial, by rw [ht9]; exact hP9, hD9⟩, hS.F ht9⟩) hS.2.2 dX4_lay_7
set_option maxHeartbeats 4000000 in
set_option maxRecDepth 100000 in
/-- two teams exchange their zones -/
theorem c_X4_exchange (l : Launch) (D : va_G) (cI cZ cQ cJ : ClassId) (a : Nat) (b : Nat) (f : Nat → Int32) (t : Nat) (o : Nat) (sz : Nat) (ht : t < 7) (ho : o < 7) : Met l yX4_exchange (.code yX4_exchange cX4_exchange 4 none :: ALL) ({ frames := 0, cells := 0, slots := 0, locals := 0 } : Room) (va_Pc [.ref a, .int (nI t), .int (nI o)] (rw_P D cI cZ cQ cJ (wPl a b cI f) sz)) (va_Qv (fun u9 : Unit => True) (rw_B D (va_A (wPl a b cI f) sz) (fun u9 : Unit => wPl a b cI (upd (upd f t (f o)) o (f t)))) (va_A (wPl a b cI f) sz)) 0 0 (va_A (wPl a b cI f) sz) := by
  refine Met.ofW (cc := cX4_exchange) (maxL := 4) (ret := none) (by decide) rfl ?_
  intro p e s m args below meth c s₁ B hml hv
  obtain ⟨rfl, hsz, hP, hSt, hD0⟩ := hv
  have hx := B.exec
  have hb := B.bytes
  have hr := B.returns
  have hts : ∀ w ∈ ALL, w.before ([.ref a, .int (nI t), .int (nI o)] : List Value).toArray s = true := fun w h => atoms_spec (ws := (.code yX4_exchange cX4_exchange 4 none :: ALL)) B.pre w (List.mem_cons_of_mem _ h)
  have hown : s.vm.findClass RX4 = some m.cls := findClass_of_methodNamed B.named
  have hlocks := B.notSynchronized
  subst hsz
  have hD := hD0.self (sz := s.heap.size)
  clear hD0
  generalize hAe : va_A (wPl a b cI f) s.heap.size = A at hD ⊢
  have hA : ∀ q : Nat, s.heap.size ≤ q → A q := fun q h => by rw [← hAe]; exact Or.inr h
  have hS : va_S A s.heap s.heap [] := va_S.rf
  have hl := lv_entry ([.ref a, .int (nI t), .int (nI o)]) (n := 4) (Nat.le_of_ble_eq_true rfl)
  rw [lg_entry_eq]
  generalize (lg_sl ([.ref a, .int (nI t), .int (nI o)]) ++ List.replicate (4 - (lg_sl ([.ref a, .int (nI t), .int (nI o)])).length) Slot.unset).toArray = ls at hl ⊢
  have hl : lv_has ls 4 [(0, .ref a), (1, .int (nI t)), (2, .int (nI o))] := hl
  obtain ⟨H, hHe⟩ : ∃ H : Heap, H = s.heap := ⟨_, rfl⟩
  obtain ⟨locs, hLe⟩ : ∃ L : List Loc, L = [] := ⟨_, rfl⟩
  have hP : va_P D vwCl (wPl a b cI f) H := by rw [hHe]; exact hP
  have hS : va_S A s.heap H locs := by rw [hHe, hLe]; exact hS
  refine W.eqHL hHe hLe ?_
  refine lv_aload_n hx hb dX4_exchange_0 rfl (lv_at hl 0 rfl) ?_
  refine va_get (D := D) (ci := 4) (v := .ref b) (C := RX4) (T := TX4) (N := 1) hx hb hts tu_X4 hown hSt.1 hP 0 rfl rfl 0 (by decide) (hts _ t1_130) (fun _ h9 => h9) rfl dX4_exchange_1 ?_
  refine lv_iload_n hx hb dX4_exchange_4 rfl (lv_at hl 1 rfl) ?_
  refine r_iald hx hb hSt.1 hP 1 0 rfl rfl (k := t) (by omega) (by omega) dX4_exchange_5 ?_
  refine lv_istore_n (lv' := [(3, .int (f t)), (0, .ref a), (1, .int (nI t)), (2, .int (nI o))]) hx hb dX4_exchange_6 rfl hl (by decide) rfl (fun ls hl => ?_)
  refine lv_aload_n hx hb dX4_exchange_7 rfl (lv_at hl 1 rfl) ?_
  refine va_get (D := D) (ci := 4) (v := .ref b) (C := RX4) (T := TX4) (N := 1) hx hb hts tu_X4 hown hSt.1 hP 0 rfl rfl 0 (by decide) (hts _ t1_130) (fun _ h9 => h9) rfl dX4_exchange_8 ?_
  refine lv_iload_n hx hb dX4_exchange_11 rfl (lv_at hl 2 rfl) ?_
  refine lv_aload_n hx hb dX4_exchange_12 rfl (lv_at hl 1 rfl) ?_
  refine va_get (D := D) (ci := 4) (v := .ref b) (C := RX4) (T := TX4) (N := 1) hx hb hts tu_X4 hown hSt.1 hP 0 rfl rfl 0 (by decide) (hts _ t1_130) (fun _ h9 => h9) rfl dX4_exchange_13 ?_
  refine lv_iload_n hx hb dX4_exchange_16 rfl (lv_at hl 3 rfl) ?_
  refine r_iald hx hb hSt.1 hP 1 0 rfl rfl (k := o) (by omega) (by omega) dX4_exchange_17 ?_
  refine r_iast hx hb hSt.1 hP hD hS 1 0 rfl rfl (k := t) (by omega) (by omega) dX4_exchange_18 (fun H locs hP hD hS => ?_)
  have hP : va_P D vwCl (wPl a b cI (upd f t (f o))) H := hP
  have hD : va_D A (wPl a b cI (upd f t (f o))) := hD
  refine lv_aload_n hx hb dX4_exchange_19 rfl (lv_at hl 1 rfl) ?_
  refine va_get (D := D) (ci := 4) (v := .ref b) (C := RX4) (T := TX4) (N := 1) hx hb hts tu_X4 hown hSt.1 hP 0 rfl rfl 0 (by decide) (hts _ t1_130) (fun _ h9 => h9) rfl dX4_exchange_20 ?_
  refine lv_iload_n hx hb dX4_exchange_23 rfl (lv_at hl 3 rfl) ?_
  refine lv_iload_n hx hb dX4_exchange_24 rfl (lv_at hl 0 rfl) ?_
  refine r_iast hx hb hSt.1 hP hD hS 1 0 rfl rfl (k := o) (by omega) (by omega) dX4_exchange_25 (fun H locs hP hD hS => ?_)
  have hP : va_P D vwCl (wPl a b cI (upd (upd f t (f o)) o (f t))) H := hP
  have hD : va_D A (wPl a b cI (upd (upd f t (f o)) o (f t))) := hD
  have hP9 : va_P D vwCl (wPl a b cI (upd (upd f t (f o)) o (f t))) H := hP
  have hD9 : va_D A (wPl a b cI (upd (upd f t (f o)) o (f t))) := hD
  exact W.vret hx hb hr (fun t9 ht9 hW9 => ⟨⟨(), rfl, trivial, by rw [ht9]; exact hP9, hD9⟩, hS.F ht9⟩) hS.2.2 dX4_exchange_26
set_option maxHeartbeats 4000000 in
set_option maxRecDepth 100000 in
/-- how many teams are in a zone -/
theorem c_X4_countPlaced (l : Launch) (D : va_G) (cI cZ cQ cJ : ClassId) (a : Nat) (b : Nat) (f : Nat → Int32)  : Met l yX4_countPlaced (.code yX4_countPlaced cX4_countPlaced 3 (some .int) :: ALL) ({ frames := 0, cells := 0, slots := 0, locals := 0 } : Room) (va_Pc [.ref a] (ro_P D cI cZ cQ cJ (wPl a b cI f))) (vp_Si (fun r9 => r9 = nI (cnt (fun k => !decide (f k = -1)) 7))) 0 0 (fun _ => False) := by
  refine Met.ofW (cc := cX4_countPlaced) (maxL := 3) (ret := (some .int)) (by decide) rfl ?_
  intro p e s m args below meth c s₁ B hml hv
  obtain ⟨rfl, hP, hSt⟩ := hv
  have hx := B.exec
  have hb := B.bytes
  have hr := B.returns
  have hts : ∀ w ∈ ALL, w.before ([.ref a] : List Value).toArray s = true := fun w h => atoms_spec (ws := (.code yX4_countPlaced cX4_countPlaced 3 (some .int) :: ALL)) B.pre w (List.mem_cons_of_mem _ h)
  have hown : s.vm.findClass RX4 = some m.cls := findClass_of_methodNamed B.named
  have hlocks := B.notSynchronized
  have hl := lv_entry ([.ref a]) (n := 3) (Nat.le_of_ble_eq_true rfl)
  rw [lg_entry_eq]
  generalize (lg_sl ([.ref a]) ++ List.replicate (3 - (lg_sl ([.ref a])).length) Slot.unset).toArray = ls at hl ⊢
  have hl : lv_has ls 3 [(0, .ref a)] := hl
  refine lv_iconst (v := nI 0) hx hb dX4_countPlaced_0 (by decide) ?_
  refine lv_istore_n (lv' := [(1, .int (nI 0)), (0, .ref a)]) hx hb dX4_countPlaced_1 rfl hl (by decide) rfl (fun ls hl => ?_)
  refine lv_iconst (v := nI 0) hx hb dX4_countPlaced_2 (by decide) ?_
  refine lv_istore_n (lv' := [(2, .int (nI 0)), (1, .int (nI 0)), (0, .ref a)]) hx hb dX4_countPlaced_3 rfl hl (by decide) rfl (fun ls hl => ?_)
  have L4 : ∀ (n : Nat) (i : Nat) (n1 : Nat), (i ≤ 7) → (n1 = cnt (fun k => !decide (f k = -1)) i) → (7 - i) < n → ∀ (ls : Array Slot), lv_has ls 3 [(0, .ref a), (1, .int (nI n1)), (2, .int (nI i))] → W p l e ({ frames := 0, cells := 0, slots := 0, locals := 0 } : Room) s m ([.ref a] : List Value).toArray below meth c s.heap [] 0 0 (MQ below (vp_Si (fun r9 => r9 = nI (cnt (fun k => !decide (f k = -1)) 7))) ([.ref a] : List Value).toArray s 0 0 (fun _ => False)) (F0 m 4 ls []) := by
    intro n
    induction n with
    | zero =>
      intro i n1 hi hn hm
      exact absurd hm (by omega)
    | succ n ih =>
      intro i n1 hi hn hm ls hl
      have ih_L4 := ih
      refine lv_iload_n hx hb dX4_countPlaced_4 rfl (lv_at hl 2 rfl) ?_
      refine lv_bipush (v := nI 7) hx hb dX4_countPlaced_5 (by decide) ?_
      refine lv_icmp_ge (tgt := 29) hx hb dX4_countPlaced_7 (by decide) (fun c_1 => ?_) (fun c_1 => ?_)
      · have c_1 := z_le (by omega) (by omega) c_1
        refine lv_iload_n hx hb dX4_countPlaced_29 rfl (lv_at hl 1 rfl) ?_
        exact W.iret (v := nI n1) hx hb hr (fun t9 ht9 hW9 => ⟨_, rfl, (by rw [hn, show i = 7 by omega]), ht9⟩) (fun q h => nomatch h) dX4_countPlaced_30
      · have c_1 := z_nle (by omega) (by omega) c_1
        refine lv_aload_n hx hb dX4_countPlaced_10 rfl (lv_at hl 0 rfl) ?_
        refine va_get (D := D) (ci := 4) (v := .ref b) (C := RX4) (T := TX4) (N := 1) hx hb hts tu_X4 hown hSt.1 hP 0 rfl rfl 0 (by decide) (hts _ t1_130) (fun _ h9 => h9) rfl dX4_countPlaced_11 ?_
        refine lv_iload_n hx hb dX4_countPlaced_14 rfl (lv_at hl 2 rfl) ?_
        refine r_iald hx hb hSt.1 hP 1 0 rfl rfl (k := i) (by omega) (by omega) dX4_countPlaced_15 ?_
        refine lv_iconst (v := (-1 : Int32)) hx hb dX4_countPlaced_16 (by decide) ?_
        refine lv_icmp_eq (tgt := 23) hx hb dX4_countPlaced_17 (by decide) (fun c_2 => ?_) (fun c_2 => ?_)
        · refine lv_iinc (v := nI (i + 1)) (lv' := [(2, .int (nI (i + 1))), (0, .ref a), (1, .int (nI n1))]) hx hb dX4_countPlaced_23 hl (k := 2) rfl (z_inc _) (by decide) rfl (fun ls hl => ?_)
          refine lv_goto (tgt := 4) hx hb dX4_countPlaced_26 (by decide) ?_
          exact ih_L4 (i + 1) n1 (by omega) (by rw [cnt, ← hn]; simp [c_2]) (by omega) _ (lv_sub hl [1, 2, 0] rfl)
        · refine lv_iinc (v := nI (n1 + 1)) (lv' := [(1, .int (nI (n1 + 1))), (0, .ref a), (2, .int (nI i))]) hx hb dX4_countPlaced_20 hl (k := 1) rfl (z_inc _) (by decide) rfl (fun ls hl => ?_)
          refine lv_iinc (v := nI (i + 1)) (lv' := [(2, .int (nI (i + 1))), (1, .int (nI (n1 + 1))), (0, .ref a)]) hx hb dX4_countPlaced_23 hl (k := 2) rfl (z_inc _) (by decide) rfl (fun ls hl => ?_)
          refine lv_goto (tgt := 4) hx hb dX4_countPlaced_26 (by decide) ?_
          exact ih_L4 (i + 1) (n1 + 1) (by omega) (by rw [cnt, ← hn]; simp [c_2]) (by omega) _ (lv_sub hl [2, 1, 0] rfl)
  exact L4 _ 0 0 (by omega) rfl (Nat.lt_succ_self _) _ (lv_sub hl [2, 1, 0] rfl)
theorem hd_X4_zoneWith : yX4_zoneWith.cls = RX4 ∧ yX4_zoneWith.cls ≠ "java/lang/invoke/MethodHandle" ∧ yX4_zoneWith.cls ≠ "java/lang/invoke/VarHandle" ∧ (parseMethodDescriptor yX4_zoneWith.desc).map (fun d => d.parameters.length) = some 1 := by decide +kernel
theorem hd_X4_teamAt : yX4_teamAt.cls = RX4 ∧ yX4_teamAt.cls ≠ "java/lang/invoke/MethodHandle" ∧ yX4_teamAt.cls ≠ "java/lang/invoke/VarHandle" ∧ (parseMethodDescriptor yX4_teamAt.desc).map (fun d => d.parameters.length) = some 1 := by decide +kernel
theorem hd_X4_lay : yX4_lay.cls = RX4 ∧ yX4_lay.cls ≠ "java/lang/invoke/MethodHandle" ∧ yX4_lay.cls ≠ "java/lang/invoke/VarHandle" ∧ (parseMethodDescriptor yX4_lay.desc).map (fun d => d.parameters.length) = some 2 := by decide +kernel
theorem hd_X4_exchange : yX4_exchange.cls = RX4 ∧ yX4_exchange.cls ≠ "java/lang/invoke/MethodHandle" ∧ yX4_exchange.cls ≠ "java/lang/invoke/VarHandle" ∧ (parseMethodDescriptor yX4_exchange.desc).map (fun d => d.parameters.length) = some 2 := by decide +kernel
theorem hd_X4_countPlaced : yX4_countPlaced.cls = RX4 ∧ yX4_countPlaced.cls ≠ "java/lang/invoke/MethodHandle" ∧ yX4_countPlaced.cls ≠ "java/lang/invoke/VarHandle" ∧ (parseMethodDescriptor yX4_countPlaced.desc).map (fun d => d.parameters.length) = some 0 := by decide +kernel
