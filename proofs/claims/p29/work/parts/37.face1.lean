set_option maxHeartbeats 4000000 in
set_option maxRecDepth 100000 in
theorem c_X7_requireSquare (l : Launch) (D : va_G) (cI cZ cQ cJ : ClassId) (ad : Nat) (o : Nat) (pa : Nat) (ka : Nat) (fx : Nat → Nat) (sx : Nat → Nat) (co : Int32) (ro : Int32) (sz : Nat) (hfl : l.stackTraces = false) : vx_Met l yX7_requireSquare (.code yX7_requireSquare cX7_requireSquare 3 none :: ALL) ({ frames := 6, cells := 1, slots := 6, locals := 82 } : Room) (va_Pc [.ref ad, .int co, .int ro] (rx_P D cI cZ cQ cJ (wDp ad o pa ka (fx 0) (sx 0)) sz)) (va_Qv (fun u9 : Unit => (inSq co ro)) (rw_B D (va_A (wDp ad o pa ka (fx 0) (sx 0)) sz) (fun u9 : Unit => wDp ad o pa ka (fx 0) (sx 0))) (va_A (wDp ad o pa ka (fx 0) (sx 0)) sz)) (rx_X (fun (E9 : String) (x9 : Unit) => E9 = "java/lang/IndexOutOfBoundsException" ∧ ¬ inSq co ro) D (va_A (wDp ad o pa ka (fx 0) (sx 0)) sz) (fun x9 : Unit => wDp ad o pa ka (fx 0) (sx 0))) 1 6 (va_A (wDp ad o pa ka (fx 0) (sx 0)) sz) := by
  refine vx_ofW (cc := cX7_requireSquare) (maxL := 3) (ret := none) (by decide) rfl ?_
  intro p e s m args below meth c s₁ B hml ht hv
  obtain ⟨rfl, ⟨hsz, hP, hSt, hD0⟩, hDc, hZ⟩ := hv
  change W p l e ({ frames := 6, cells := 1, slots := 6, locals := 82 } : Room) s m _ below meth c s.heap [] 0 0 _ _
  have hx := B.exec
  have hb := B.bytes
  have hr := B.returns
  have hts : ∀ w ∈ ALL, w.before ([.ref ad, .int co, .int ro] : List Value).toArray s = true := fun w h => atoms_spec (ws := (.code yX7_requireSquare cX7_requireSquare 3 none :: ALL)) B.pre w (List.mem_cons_of_mem _ h)
  have hown : s.vm.findClass RX7 = some m.cls := findClass_of_methodNamed B.named
  have hlocks := B.notSynchronized
  subst hsz
  have hD := hD0.self (sz := s.heap.size)
  clear hD0
  generalize hAe : va_A (wDp ad o pa ka (fx 0) (sx 0)) s.heap.size = A at hD hZ ⊢
  have hA : ∀ q : Nat, s.heap.size ≤ q → A q := fun q h => by rw [← hAe]; exact Or.inr h
  have hS : va_S A s.heap s.heap [] := va_S.rf
  have hl := lv_entry ([.ref ad, .int co, .int ro]) (n := 3) (Nat.le_of_ble_eq_true rfl)
  rw [lg_entry_eq]
  generalize (lg_sl ([.ref ad, .int co, .int ro]) ++ List.replicate (3 - (lg_sl ([.ref ad, .int co, .int ro])).length) Slot.unset).toArray = ls at hl ⊢
  have hl : lv_has ls 3 [(0, .ref ad), (1, .int co), (2, .int ro)] := hl
  obtain ⟨H, hHe⟩ : ∃ H : Heap, H = s.heap := ⟨_, rfl⟩
  obtain ⟨locs, hLe⟩ : ∃ L : List Loc, L = [] := ⟨_, rfl⟩
  have hP : va_P D vwCl (wDp ad o pa ka (fx 0) (sx 0)) H := by rw [hHe]; exact hP
  have hS : va_S A s.heap H locs := by rw [hHe, hLe]; exact hS
  refine W.eqHL hHe hLe ?_
  refine lv_iload_n hx hb dX7_requireSquare_0 rfl (lv_at hl 1 rfl) ?_
  refine lv_iload_n hx hb dX7_requireSquare_1 rfl (lv_at hl 2 rfl) ?_
  refine ro_SX (As := [.int co, .int ro]) (rest := []) (v := bI (inSq co ro)) ⟨hx, hb, hml, hown, hts⟩ (c_X1_isSquare l D cI cZ cQ cJ co ro) (gSX t2_57 t2_58 t1_3 t2_59) rfl rfl hdx_X1_isSquare ⟨Nat.le_of_ble_eq_true rfl, Nat.le_of_ble_eq_true rfl⟩ va_P_nil hSt rfl hl.1 rfl (Nat.le_of_ble_eq_true rfl) dX7_requireSquare_2 (Nat.zero_le _) (Nat.zero_le _) ?_
  refine lv_if_ne (tgt := 18) hx hb dX7_requireSquare_5 (by decide) (fun c_1 => ?_) (fun c_1 => ?_)
  · have c_1 := bI_n0.mp c_1
    have hP9 : va_P D vwCl (wDp ad o pa ka (fx 0) (sx 0)) H := hP
    have hD9 : va_D A (wDp ad o pa ka (fx 0) (sx 0)) := hD
    have g_2 : inSq co ro := c_1
    refine W.widen (k := 1) (n := 6) (by omega) (by omega) ?_
    exact vx_ret (W.vret hx hb hr (fun t9 ht9 hW9 => ⟨⟨(), rfl, g_2, by rw [ht9]; exact hP9, hD9⟩, hS.F ht9⟩) hS.2.2 dX7_requireSquare_18)
  · have c_1 := bI_0.mp c_1
    have hP9 : va_P D vwCl (wDp ad o pa ka (fx 0) (sx 0)) H := hP
    have hD9 : va_D A (wDp ad o pa ka (fx 0) (sx 0)) := hD
    exact tw_0 hx hb hfl hown hts hSt hDc hZ hS (hl.1.trans hml.symm) 0 rfl dX7_requireSquare_8 dX7_requireSquare_11 dX7_requireSquare_12 dX7_requireSquare_14 dX7_requireSquare_17 ht (Nat.le_of_ble_eq_true rfl) (Nat.le_of_ble_eq_true rfl) (Nat.le_of_ble_eq_true rfl) (Nat.le_of_ble_eq_true rfl) hlocks (rx_new (u := ()) (⟨rfl, c_1⟩) hP9 hD9 hS) hS.2.2 (Nat.le_of_ble_eq_true rfl) (Nat.le_of_ble_eq_true rfl)
set_option maxHeartbeats 4000000 in
set_option maxRecDepth 100000 in
theorem c_X7_requireZone (l : Launch) (D : va_G) (cI cZ cQ cJ : ClassId) (ad : Nat) (o : Nat) (pa : Nat) (ka : Nat) (fx : Nat → Nat) (sx : Nat → Nat) (x : Nat → Nat) (r : Nat → Nat) (w : Nat → Int32) (q : Nat → Int32) (d : Nat → Int32) (T : Nat → Nat → Int32) (st : Nat → Int32) (re : Nat → Int32) (rc : Int32) (nz : Nat) (y : Nat → Nat) (z : Int32) (sz : Nat) (hnz : nz ≤ 7) (hfl : l.stackTraces = false) : vx_Met l yX7_requireZone (.code yX7_requireZone cX7_requireZone 2 none :: ALL) ({ frames := 6, cells := 1, slots := 6, locals := 82 } : Room) (va_Pc [.ref ad, .int z] (rx_P D cI cZ cQ cJ ((wDp ad o pa ka (fx 0) (sx 0)) ++ ((wOf o (x 0) (y 0)) ++ (wFl x r cI cZ cQ w q d T st re rc (nI nz)))) sz)) (va_Qv (fun u9 : Unit => (inN z nz)) (rw_B D (va_A ((wDp ad o pa ka (fx 0) (sx 0)) ++ ((wOf o (x 0) (y 0)) ++ (wFl x r cI cZ cQ w q d T st re rc (nI nz)))) sz) (fun u9 : Unit => (wDp ad o pa ka (fx 0) (sx 0)) ++ ((wOf o (x 0) (y 0)) ++ (wFl x r cI cZ cQ w q d T st re rc (nI nz))))) (va_A ((wDp ad o pa ka (fx 0) (sx 0)) ++ ((wOf o (x 0) (y 0)) ++ (wFl x r cI cZ cQ w q d T st re rc (nI nz)))) sz)) (rx_X (fun (E9 : String) (x9 : Unit) => E9 = "java/lang/IndexOutOfBoundsException" ∧ ¬ inN z nz) D (va_A ((wDp ad o pa ka (fx 0) (sx 0)) ++ ((wOf o (x 0) (y 0)) ++ (wFl x r cI cZ cQ w q d T st re rc (nI nz)))) sz) (fun x9 : Unit => (wDp ad o pa ka (fx 0) (sx 0)) ++ ((wOf o (x 0) (y 0)) ++ (wFl x r cI cZ cQ w q d T st re rc (nI nz))))) 1 6 (va_A ((wDp ad o pa ka (fx 0) (sx 0)) ++ ((wOf o (x 0) (y 0)) ++ (wFl x r cI cZ cQ w q d T st re rc (nI nz)))) sz) := by
  refine vx_ofW (cc := cX7_requireZone) (maxL := 2) (ret := none) (by decide) rfl ?_
  intro p e s m args below meth c s₁ B hml ht hv
  obtain ⟨rfl, ⟨hsz, hP, hSt, hD0⟩, hDc, hZ⟩ := hv
  change W p l e ({ frames := 6, cells := 1, slots := 6, locals := 82 } : Room) s m _ below meth c s.heap [] 0 0 _ _
  have hx := B.exec
  have hb := B.bytes
  have hr := B.returns
  have hts : ∀ w ∈ ALL, w.before ([.ref ad, .int z] : List Value).toArray s = true := fun w h => atoms_spec (ws := (.code yX7_requireZone cX7_requireZone 2 none :: ALL)) B.pre w (List.mem_cons_of_mem _ h)
  have hown : s.vm.findClass RX7 = some m.cls := findClass_of_methodNamed B.named
  have hlocks := B.notSynchronized
  subst hsz
  have hD := hD0.self (sz := s.heap.size)
  clear hD0
  generalize hAe : va_A ((wDp ad o pa ka (fx 0) (sx 0)) ++ ((wOf o (x 0) (y 0)) ++ (wFl x r cI cZ cQ w q d T st re rc (nI nz)))) s.heap.size = A at hD hZ ⊢
  have hA : ∀ q : Nat, s.heap.size ≤ q → A q := fun q h => by rw [← hAe]; exact Or.inr h
  have hS : va_S A s.heap s.heap [] := va_S.rf
  have hl := lv_entry ([.ref ad, .int z]) (n := 2) (Nat.le_of_ble_eq_true rfl)
  rw [lg_entry_eq]
  generalize (lg_sl ([.ref ad, .int z]) ++ List.replicate (2 - (lg_sl ([.ref ad, .int z])).length) Slot.unset).toArray = ls at hl ⊢
  have hl : lv_has ls 2 [(0, .ref ad), (1, .int z)] := hl
  obtain ⟨H, hHe⟩ : ∃ H : Heap, H = s.heap := ⟨_, rfl⟩
  obtain ⟨locs, hLe⟩ : ∃ L : List Loc, L = [] := ⟨_, rfl⟩
  have hP : va_P D vwCl ((wDp ad o pa ka (fx 0) (sx 0)) ++ ((wOf o (x 0) (y 0)) ++ (wFl x r cI cZ cQ w q d T st re rc (nI nz)))) H := by rw [hHe]; exact hP
  have hS : va_S A s.heap H locs := by rw [hHe, hLe]; exact hS
  refine W.eqHL hHe hLe ?_
  refine lv_iload_n hx hb dX7_requireZone_0 rfl (lv_at hl 1 rfl) ?_
  refine lv_if_lt (tgt := 18) hx hb dX7_requireZone_1 (by decide) (fun c_1 => ?_) (fun c_1 => ?_)
  · have hP9 : va_P D vwCl ((wDp ad o pa ka (fx 0) (sx 0)) ++ ((wOf o (x 0) (y 0)) ++ (wFl x r cI cZ cQ w q d T st re rc (nI nz)))) H := hP
    have hD9 : va_D A ((wDp ad o pa ka (fx 0) (sx 0)) ++ ((wOf o (x 0) (y 0)) ++ (wFl x r cI cZ cQ w q d T st re rc (nI nz)))) := hD
    exact tw_0 hx hb hfl hown hts hSt hDc hZ hS (hl.1.trans hml.symm) 5 rfl dX7_requireZone_18 dX7_requireZone_21 dX7_requireZone_22 dX7_requireZone_24 dX7_requireZone_27 ht (Nat.le_of_ble_eq_true rfl) (Nat.le_of_ble_eq_true rfl) (Nat.le_of_ble_eq_true rfl) (Nat.le_of_ble_eq_true rfl) hlocks (rx_new (u := ()) (⟨rfl, inN_lo (by omega) c_1⟩) hP9 hD9 hS) hS.2.2 (Nat.le_of_ble_eq_true rfl) (Nat.le_of_ble_eq_true rfl)
  · refine lv_iload_n hx hb dX7_requireZone_4 rfl (lv_at hl 1 rfl) ?_
    refine lv_aload_n hx hb dX7_requireZone_5 rfl (lv_at hl 0 rfl) ?_
    refine va_get (D := D) (ci := 7) (v := .ref o) (C := RX7) (T := TX7) (N := 5) hx hb hts tu_X7 hown hSt.1 hP 0 rfl rfl 0 (by decide) (hts _ t1_208) (fun _ h9 => h9) rfl dX7_requireZone_6 ?_
    refine va_getN (D := D) (ci := 3) (v := .ref (x 0)) (C := RX3) (T := TX3) (N := 2) hx hb hts tu_X3 hown hSt.1 hP 1 rfl rfl 0 (by decide) (nf_7 hSt.2) (fun _ h9 => h9) rfl dX7_requireZone_9 ?_
    refine va_getN (D := D) (ci := 1) (v := .int (nI nz)) (C := RX1) (T := TX1) (N := 8) hx hb hts tu_X1 hown hSt.1 hP 2 rfl rfl 7 (by decide) (nf_8 hSt.2) (fun _ h9 => h9) rfl dX7_requireZone_12 ?_
    refine lv_icmp_lt (tgt := 28) hx hb dX7_requireZone_15 (by decide) (fun c_2 => ?_) (fun c_2 => ?_)
    · have hP9 : va_P D vwCl ((wDp ad o pa ka (fx 0) (sx 0)) ++ ((wOf o (x 0) (y 0)) ++ (wFl x r cI cZ cQ w q d T st re rc (nI nz)))) H := hP
      have hD9 : va_D A ((wDp ad o pa ka (fx 0) (sx 0)) ++ ((wOf o (x 0) (y 0)) ++ (wFl x r cI cZ cQ w q d T st re rc (nI nz)))) := hD
      have g_3 : inN z nz := inN_ok (by omega) c_1 (Int32.not_le.mpr c_2)
      refine W.widen (k := 1) (n := 6) (by omega) (by omega) ?_
      exact vx_ret (W.vret hx hb hr (fun t9 ht9 hW9 => ⟨⟨(), rfl, g_3, by rw [ht9]; exact hP9, hD9⟩, hS.F ht9⟩) hS.2.2 dX7_requireZone_28)
    · have hP9 : va_P D vwCl ((wDp ad o pa ka (fx 0) (sx 0)) ++ ((wOf o (x 0) (y 0)) ++ (wFl x r cI cZ cQ w q d T st re rc (nI nz)))) H := hP
      have hD9 : va_D A ((wDp ad o pa ka (fx 0) (sx 0)) ++ ((wOf o (x 0) (y 0)) ++ (wFl x r cI cZ cQ w q d T st re rc (nI nz)))) := hD
      exact tw_0 hx hb hfl hown hts hSt hDc hZ hS (hl.1.trans hml.symm) 5 rfl dX7_requireZone_18 dX7_requireZone_21 dX7_requireZone_22 dX7_requireZone_24 dX7_requireZone_27 ht (Nat.le_of_ble_eq_true rfl) (Nat.le_of_ble_eq_true rfl) (Nat.le_of_ble_eq_true rfl) (Nat.le_of_ble_eq_true rfl) hlocks (rx_new (u := ()) (⟨rfl, inN_hi (by omega) (Int32.not_lt.mp c_2)⟩) hP9 hD9 hS) hS.2.2 (Nat.le_of_ble_eq_true rfl) (Nat.le_of_ble_eq_true rfl)
set_option maxHeartbeats 4000000 in
set_option maxRecDepth 100000 in
theorem c_X7_requireTeam (l : Launch) (D : va_G) (cI cZ cQ cJ : ClassId) (ad : Nat) (o : Nat) (pa : Nat) (ka : Nat) (fx : Nat → Nat) (sx : Nat → Nat) (x : Nat → Nat) (y : Nat → Nat) (rp : Nat → Nat) (rw : Nat → Nat) (rt : Nat → Nat) (P : Nat → Nat → Int32) (n : Nat → Int32) (Wi : Nat → Nat → Int32) (Ti : Nat → Nat → Int32) (nt : Nat) (t : Int32) (sz : Nat) (hnt : nt ≤ 7) (hfl : l.stackTraces = false) : vx_Met l yX7_requireTeam (.code yX7_requireTeam cX7_requireTeam 2 none :: ALL) ({ frames := 6, cells := 1, slots := 6, locals := 82 } : Room) (va_Pc [.ref ad, .int t] (rx_P D cI cZ cQ cJ ((wDp ad o pa ka (fx 0) (sx 0)) ++ ((wOf o (x 0) (y 0)) ++ (wSt y rp rw rt cI cQ P n Wi Ti (nI nt)))) sz)) (va_Qv (fun u9 : Unit => (inN t nt)) (rw_B D (va_A ((wDp ad o pa ka (fx 0) (sx 0)) ++ ((wOf o (x 0) (y 0)) ++ (wSt y rp rw rt cI cQ P n Wi Ti (nI nt)))) sz) (fun u9 : Unit => (wDp ad o pa ka (fx 0) (sx 0)) ++ ((wOf o (x 0) (y 0)) ++ (wSt y rp rw rt cI cQ P n Wi Ti (nI nt))))) (va_A ((wDp ad o pa ka (fx 0) (sx 0)) ++ ((wOf o (x 0) (y 0)) ++ (wSt y rp rw rt cI cQ P n Wi Ti (nI nt)))) sz)) (rx_X (fun (E9 : String) (x9 : Unit) => E9 = "java/lang/IndexOutOfBoundsException" ∧ ¬ inN t nt) D (va_A ((wDp ad o pa ka (fx 0) (sx 0)) ++ ((wOf o (x 0) (y 0)) ++ (wSt y rp rw rt cI cQ P n Wi Ti (nI nt)))) sz) (fun x9 : Unit => (wDp ad o pa ka (fx 0) (sx 0)) ++ ((wOf o (x 0) (y 0)) ++ (wSt y rp rw rt cI cQ P n Wi Ti (nI nt))))) 1 6 (va_A ((wDp ad o pa ka (fx 0) (sx 0)) ++ ((wOf o (x 0) (y 0)) ++ (wSt y rp rw rt cI cQ P n Wi Ti (nI nt)))) sz) := by
  refine vx_ofW (cc := cX7_requireTeam) (maxL := 2) (ret := none) (by decide) rfl ?_
  intro p e s m args below meth c s₁ B hml ht hv
  obtain ⟨rfl, ⟨hsz, hP, hSt, hD0⟩, hDc, hZ⟩ := hv
  change W p l e ({ frames := 6, cells := 1, slots := 6, locals := 82 } : Room) s m _ below meth c s.heap [] 0 0 _ _
  have hx := B.exec
  have hb := B.bytes
  have hr := B.returns
  have hts : ∀ w ∈ ALL, w.before ([.ref ad, .int t] : List Value).toArray s = true := fun w h => atoms_spec (ws := (.code yX7_requireTeam cX7_requireTeam 2 none :: ALL)) B.pre w (List.mem_cons_of_mem _ h)
  have hown : s.vm.findClass RX7 = some m.cls := findClass_of_methodNamed B.named
  have hlocks := B.notSynchronized
  subst hsz
  have hD := hD0.self (sz := s.heap.size)
  clear hD0
  generalize hAe : va_A ((wDp ad o pa ka (fx 0) (sx 0)) ++ ((wOf o (x 0) (y 0)) ++ (wSt y rp rw rt cI cQ P n Wi Ti (nI nt)))) s.heap.size = A at hD hZ ⊢
  have hA : ∀ q : Nat, s.heap.size ≤ q → A q := fun q h => by rw [← hAe]; exact Or.inr h
  have hS : va_S A s.heap s.heap [] := va_S.rf
  have hl := lv_entry ([.ref ad, .int t]) (n := 2) (Nat.le_of_ble_eq_true rfl)
  rw [lg_entry_eq]
  generalize (lg_sl ([.ref ad, .int t]) ++ List.replicate (2 - (lg_sl ([.ref ad, .int t])).length) Slot.unset).toArray = ls at hl ⊢
  have hl : lv_has ls 2 [(0, .ref ad), (1, .int t)] := hl
  obtain ⟨H, hHe⟩ : ∃ H : Heap, H = s.heap := ⟨_, rfl⟩
  obtain ⟨locs, hLe⟩ : ∃ L : List Loc, L = [] := ⟨_, rfl⟩
  have hP : va_P D vwCl ((wDp ad o pa ka (fx 0) (sx 0)) ++ ((wOf o (x 0) (y 0)) ++ (wSt y rp rw rt cI cQ P n Wi Ti (nI nt)))) H := by rw [hHe]; exact hP
  have hS : va_S A s.heap H locs := by rw [hHe, hLe]; exact hS
  refine W.eqHL hHe hLe ?_
  refine lv_iload_n hx hb dX7_requireTeam_0 rfl (lv_at hl 1 rfl) ?_
  refine lv_if_lt (tgt := 18) hx hb dX7_requireTeam_1 (by decide) (fun c_1 => ?_) (fun c_1 => ?_)
  · have hP9 : va_P D vwCl ((wDp ad o pa ka (fx 0) (sx 0)) ++ ((wOf o (x 0) (y 0)) ++ (wSt y rp rw rt cI cQ P n Wi Ti (nI nt)))) H := hP
    have hD9 : va_D A ((wDp ad o pa ka (fx 0) (sx 0)) ++ ((wOf o (x 0) (y 0)) ++ (wSt y rp rw rt cI cQ P n Wi Ti (nI nt)))) := hD
    exact tw_0 hx hb hfl hown hts hSt hDc hZ hS (hl.1.trans hml.symm) 8 rfl dX7_requireTeam_18 dX7_requireTeam_21 dX7_requireTeam_22 dX7_requireTeam_24 dX7_requireTeam_27 ht (Nat.le_of_ble_eq_true rfl) (Nat.le_of_ble_eq_true rfl) (Nat.le_of_ble_eq_true rfl) (Nat.le_of_ble_eq_true rfl) hlocks (rx_new (u := ()) (⟨rfl, inN_lo (by omega) c_1⟩) hP9 hD9 hS) hS.2.2 (Nat.le_of_ble_eq_true rfl) (Nat.le_of_ble_eq_true rfl)
  · refine lv_iload_n hx hb dX7_requireTeam_4 rfl (lv_at hl 1 rfl) ?_
    refine lv_aload_n hx hb dX7_requireTeam_5 rfl (lv_at hl 0 rfl) ?_
    refine va_get (D := D) (ci := 7) (v := .ref o) (C := RX7) (T := TX7) (N := 5) hx hb hts tu_X7 hown hSt.1 hP 0 rfl rfl 0 (by decide) (hts _ t1_208) (fun _ h9 => h9) rfl dX7_requireTeam_6 ?_
    refine va_getN (D := D) (ci := 3) (v := .ref (y 0)) (C := RX3) (T := TX3) (N := 2) hx hb hts tu_X3 hown hSt.1 hP 1 rfl rfl 1 (by decide) (nf_9 hSt.2) (fun _ h9 => h9) rfl dX7_requireTeam_9 ?_
    refine va_getN (D := D) (ci := 5) (v := .int (nI nt)) (C := RX5) (T := TX5) (N := 5) hx hb hts tu_X5 hown hSt.1 hP 2 rfl rfl 4 (by decide) (nf_1 hSt.2) (fun _ h9 => h9) rfl dX7_requireTeam_12 ?_
    refine lv_icmp_lt (tgt := 28) hx hb dX7_requireTeam_15 (by decide) (fun c_2 => ?_) (fun c_2 => ?_)
    · have hP9 : va_P D vwCl ((wDp ad o pa ka (fx 0) (sx 0)) ++ ((wOf o (x 0) (y 0)) ++ (wSt y rp rw rt cI cQ P n Wi Ti (nI nt)))) H := hP
      have hD9 : va_D A ((wDp ad o pa ka (fx 0) (sx 0)) ++ ((wOf o (x 0) (y 0)) ++ (wSt y rp rw rt cI cQ P n Wi Ti (nI nt)))) := hD
      have g_3 : inN t nt := inN_ok (by omega) c_1 (Int32.not_le.mpr c_2)
      refine W.widen (k := 1) (n := 6) (by omega) (by omega) ?_
      exact vx_ret (W.vret hx hb hr (fun t9 ht9 hW9 => ⟨⟨(), rfl, g_3, by rw [ht9]; exact hP9, hD9⟩, hS.F ht9⟩) hS.2.2 dX7_requireTeam_28)
    · have hP9 : va_P D vwCl ((wDp ad o pa ka (fx 0) (sx 0)) ++ ((wOf o (x 0) (y 0)) ++ (wSt y rp rw rt cI cQ P n Wi Ti (nI nt)))) H := hP
      have hD9 : va_D A ((wDp ad o pa ka (fx 0) (sx 0)) ++ ((wOf o (x 0) (y 0)) ++ (wSt y rp rw rt cI cQ P n Wi Ti (nI nt)))) := hD
      exact tw_0 hx hb hfl hown hts hSt hDc hZ hS (hl.1.trans hml.symm) 8 rfl dX7_requireTeam_18 dX7_requireTeam_21 dX7_requireTeam_22 dX7_requireTeam_24 dX7_requireTeam_27 ht (Nat.le_of_ble_eq_true rfl) (Nat.le_of_ble_eq_true rfl) (Nat.le_of_ble_eq_true rfl) (Nat.le_of_ble_eq_true rfl) hlocks (rx_new (u := ()) (⟨rfl, inN_hi (by omega) (Int32.not_lt.mp c_2)⟩) hP9 hD9 hS) hS.2.2 (Nat.le_of_ble_eq_true rfl) (Nat.le_of_ble_eq_true rfl)
set_option maxHeartbeats 4000000 in
set_option maxRecDepth 100000 in
theorem c_X7_requireDay (l : Launch) (D : va_G) (cI cZ cQ cJ : ClassId) (ad : Nat) (o : Nat) (pa : Nat) (ka : Nat) (fx : Nat → Nat) (sx : Nat → Nat) (t : Int32) (sz : Nat) (hfl : l.stackTraces = false) : vx_Met l yX7_requireDay (.code yX7_requireDay cX7_requireDay 2 none :: ALL) ({ frames := 6, cells := 1, slots := 6, locals := 82 } : Room) (va_Pc [.ref ad, .int t] (rx_P D cI cZ cQ cJ (wDp ad o pa ka (fx 0) (sx 0)) sz)) (va_Qv (fun u9 : Unit => (inN t 5)) (rw_B D (va_A (wDp ad o pa ka (fx 0) (sx 0)) sz) (fun u9 : Unit => wDp ad o pa ka (fx 0) (sx 0))) (va_A (wDp ad o pa ka (fx 0) (sx 0)) sz)) (rx_X (fun (E9 : String) (x9 : Unit) => E9 = "java/lang/IndexOutOfBoundsException" ∧ ¬ inN t 5) D (va_A (wDp ad o pa ka (fx 0) (sx 0)) sz) (fun x9 : Unit => wDp ad o pa ka (fx 0) (sx 0))) 1 6 (va_A (wDp ad o pa ka (fx 0) (sx 0)) sz) := by
  refine vx_ofW (cc := cX7_requireDay) (maxL := 2) (ret := none) (by decide) rfl ?_
  intro p e s m args below meth c s₁ B hml ht hv
  obtain ⟨rfl, ⟨hsz, hP, hSt, hD0⟩, hDc, hZ⟩ := hv
  change W p l e ({ frames := 6, cells := 1, slots := 6, locals := 82 } : Room) s m _ below meth c s.heap [] 0 0 _ _
  have hx := B.exec
  have hb := B.bytes
  have hr := B.returns
  have hts : ∀ w ∈ ALL, w.before ([.ref ad, .int t] : List Value).toArray s = true := fun w h => atoms_spec (ws := (.code yX7_requireDay cX7_requireDay 2 none :: ALL)) B.pre w (List.mem_cons_of_mem _ h)
  have hown : s.vm.findClass RX7 = some m.cls := findClass_of_methodNamed B.named
  have hlocks := B.notSynchronized
  subst hsz
  have hD := hD0.self (sz := s.heap.size)
  clear hD0
  generalize hAe : va_A (wDp ad o pa ka (fx 0) (sx 0)) s.heap.size = A at hD hZ ⊢
  have hA : ∀ q : Nat, s.heap.size ≤ q → A q := fun q h => by rw [← hAe]; exact Or.inr h
  have hS : va_S A s.heap s.heap [] := va_S.rf
  have hl := lv_entry ([.ref ad, .int t]) (n := 2) (Nat.le_of_ble_eq_true rfl)
  rw [lg_entry_eq]
  generalize (lg_sl ([.ref ad, .int t]) ++ List.replicate (2 - (lg_sl ([.ref ad, .int t])).length) Slot.unset).toArray = ls at hl ⊢
  have hl : lv_has ls 2 [(0, .ref ad), (1, .int t)] := hl
  obtain ⟨H, hHe⟩ : ∃ H : Heap, H = s.heap := ⟨_, rfl⟩
  obtain ⟨locs, hLe⟩ : ∃ L : List Loc, L = [] := ⟨_, rfl⟩
  have hP : va_P D vwCl (wDp ad o pa ka (fx 0) (sx 0)) H := by rw [hHe]; exact hP
  have hS : va_S A s.heap H locs := by rw [hHe, hLe]; exact hS
  refine W.eqHL hHe hLe ?_
  refine lv_iload_n hx hb dX7_requireDay_0 rfl (lv_at hl 1 rfl) ?_
  refine lv_if_lt (tgt := 9) hx hb dX7_requireDay_1 (by decide) (fun c_1 => ?_) (fun c_1 => ?_)
  · have hP9 : va_P D vwCl (wDp ad o pa ka (fx 0) (sx 0)) H := hP
    have hD9 : va_D A (wDp ad o pa ka (fx 0) (sx 0)) := hD
    exact tw_0 hx hb hfl hown hts hSt hDc hZ hS (hl.1.trans hml.symm) 9 rfl dX7_requireDay_9 dX7_requireDay_12 dX7_requireDay_13 dX7_requireDay_15 dX7_requireDay_18 ht (Nat.le_of_ble_eq_true rfl) (Nat.le_of_ble_eq_true rfl) (Nat.le_of_ble_eq_true rfl) (Nat.le_of_ble_eq_true rfl) hlocks (rx_new (u := ()) (⟨rfl, inN_lo (by omega) c_1⟩) hP9 hD9 hS) hS.2.2 (Nat.le_of_ble_eq_true rfl) (Nat.le_of_ble_eq_true rfl)
  · refine lv_iload_n hx hb dX7_requireDay_4 rfl (lv_at hl 1 rfl) ?_
    refine lv_iconst (v := nI 5) hx hb dX7_requireDay_5 (by decide) ?_
    refine lv_icmp_lt (tgt := 19) hx hb dX7_requireDay_6 (by decide) (fun c_2 => ?_) (fun c_2 => ?_)
    · have hP9 : va_P D vwCl (wDp ad o pa ka (fx 0) (sx 0)) H := hP
      have hD9 : va_D A (wDp ad o pa ka (fx 0) (sx 0)) := hD
      have g_3 : inN t 5 := inN_ok (by omega) c_1 (Int32.not_le.mpr c_2)
      refine W.widen (k := 1) (n := 6) (by omega) (by omega) ?_
      exact vx_ret (W.vret hx hb hr (fun t9 ht9 hW9 => ⟨⟨(), rfl, g_3, by rw [ht9]; exact hP9, hD9⟩, hS.F ht9⟩) hS.2.2 dX7_requireDay_19)
    · have hP9 : va_P D vwCl (wDp ad o pa ka (fx 0) (sx 0)) H := hP
      have hD9 : va_D A (wDp ad o pa ka (fx 0) (sx 0)) := hD
      exact tw_0 hx hb hfl hown hts hSt hDc hZ hS (hl.1.trans hml.symm) 9 rfl dX7_requireDay_9 dX7_requireDay_12 dX7_requireDay_13 dX7_requireDay_15 dX7_requireDay_18 ht (Nat.le_of_ble_eq_true rfl) (Nat.le_of_ble_eq_true rfl) (Nat.le_of_ble_eq_true rfl) (Nat.le_of_ble_eq_true rfl) hlocks (rx_new (u := ()) (⟨rfl, inN_hi (by omega) (Int32.not_lt.mp c_2)⟩) hP9 hD9 hS) hS.2.2 (Nat.le_of_ble_eq_true rfl) (Nat.le_of_ble_eq_true rfl)
set_option maxHeartbeats 4000000 in
set_option maxRecDepth 100000 in
theorem c_X7_requireRange (l : Launch) (D : va_G) (cI cZ cQ cJ : ClassId) (ad : Nat) (o : Nat) (pa : Nat) (ka : Nat) (fx : Nat → Nat) (sx : Nat → Nat) (v : Int32) (lo : Nat) (hi : Nat) (sz : Nat) (hlo : lo < 1000) (hhi : hi < 1000) (hfl : l.stackTraces = false) : vx_Met l yX7_requireRange (.code yX7_requireRange cX7_requireRange 4 none :: ALL) ({ frames := 6, cells := 1, slots := 6, locals := 82 } : Room) (va_Pc [.ref ad, .int v, .int (nI lo), .int (nI hi)] (rx_P D cI cZ cQ cJ (wDp ad o pa ka (fx 0) (sx 0)) sz)) (va_Qv (fun u9 : Unit => (inR v lo hi)) (rw_B D (va_A (wDp ad o pa ka (fx 0) (sx 0)) sz) (fun u9 : Unit => wDp ad o pa ka (fx 0) (sx 0))) (va_A (wDp ad o pa ka (fx 0) (sx 0)) sz)) (rx_X (fun (E9 : String) (x9 : Unit) => E9 = "java/lang/IllegalArgumentException" ∧ ¬ inR v lo hi) D (va_A (wDp ad o pa ka (fx 0) (sx 0)) sz) (fun x9 : Unit => wDp ad o pa ka (fx 0) (sx 0))) 1 6 (va_A (wDp ad o pa ka (fx 0) (sx 0)) sz) := by
  refine vx_ofW (cc := cX7_requireRange) (maxL := 4) (ret := none) (by decide) rfl ?_
  intro p e s m args below meth c s₁ B hml ht hv
  obtain ⟨rfl, ⟨hsz, hP, hSt, hD0⟩, hDc, hZ⟩ := hv
  change W p l e ({ frames := 6, cells := 1, slots := 6, locals := 82 } : Room) s m _ below meth c s.heap [] 0 0 _ _
  have hx := B.exec
  have hb := B.bytes
  have hr := B.returns
  have hts : ∀ w ∈ ALL, w.before ([.ref ad, .int v, .int (nI lo), .int (nI hi)] : List Value).toArray s = true := fun w h => atoms_spec (ws := (.code yX7_requireRange cX7_requireRange 4 none :: ALL)) B.pre w (List.mem_cons_of_mem _ h)
  have hown : s.vm.findClass RX7 = some m.cls := findClass_of_methodNamed B.named
  have hlocks := B.notSynchronized
  subst hsz
  have hD := hD0.self (sz := s.heap.size)
  clear hD0
  generalize hAe : va_A (wDp ad o pa ka (fx 0) (sx 0)) s.heap.size = A at hD hZ ⊢
  have hA : ∀ q : Nat, s.heap.size ≤ q → A q := fun q h => by rw [← hAe]; exact Or.inr h
  have hS : va_S A s.heap s.heap [] := va_S.rf
  have hl := lv_entry ([.ref ad, .int v, .int (nI lo), .int (nI hi)]) (n := 4) (Nat.le_of_ble_eq_true rfl)
  rw [lg_entry_eq]
  generalize (lg_sl ([.ref ad, .int v, .int (nI lo), .int (nI hi)]) ++ List.replicate (4 - (lg_sl ([.ref ad, .int v, .int (nI lo), .int (nI hi)])).length) Slot.unset).toArray = ls at hl ⊢
  have hl : lv_has ls 4 [(0, .ref ad), (1, .int v), (2, .int (nI lo)), (3, .int (nI hi))] := hl
  obtain ⟨H, hHe⟩ : ∃ H : Heap, H = s.heap := ⟨_, rfl⟩
  obtain ⟨locs, hLe⟩ : ∃ L : List Loc, L = [] := ⟨_, rfl⟩
  have hP : va_P D vwCl (wDp ad o pa ka (fx 0) (sx 0)) H := by rw [hHe]; exact hP
  have hS : va_S A s.heap H locs := by rw [hHe, hLe]; exact hS
  refine W.eqHL hHe hLe ?_
  refine lv_iload_n hx hb dX7_requireRange_0 rfl (lv_at hl 1 rfl) ?_
  refine lv_iload_n hx hb dX7_requireRange_1 rfl (lv_at hl 2 rfl) ?_
  refine lv_icmp_lt (tgt := 10) hx hb dX7_requireRange_2 (by decide) (fun c_1 => ?_) (fun c_1 => ?_)
  · have hP9 : va_P D vwCl (wDp ad o pa ka (fx 0) (sx 0)) H := hP
    have hD9 : va_D A (wDp ad o pa ka (fx 0) (sx 0)) := hD
    exact tw_1 hx hb hfl hown hts hSt hDc hZ hS (hl.1.trans hml.symm) 2 rfl dX7_requireRange_10 dX7_requireRange_13 dX7_requireRange_14 dX7_requireRange_16 dX7_requireRange_19 ht (Nat.le_of_ble_eq_true rfl) (Nat.le_of_ble_eq_true rfl) (Nat.le_of_ble_eq_true rfl) (Nat.le_of_ble_eq_true rfl) hlocks (rx_new (u := ()) (⟨rfl, inR_lo (by omega) c_1⟩) hP9 hD9 hS) hS.2.2 (Nat.le_of_ble_eq_true rfl) (Nat.le_of_ble_eq_true rfl)
  · refine lv_iload_n hx hb dX7_requireRange_5 rfl (lv_at hl 1 rfl) ?_
    refine lv_iload_n hx hb dX7_requireRange_6 rfl (lv_at hl 3 rfl) ?_
    refine lv_icmp_le (tgt := 20) hx hb dX7_requireRange_7 (by decide) (fun c_2 => ?_) (fun c_2 => ?_)
    · have hP9 : va_P D vwCl (wDp ad o pa ka (fx 0) (sx 0)) H := hP
      have hD9 : va_D A (wDp ad o pa ka (fx 0) (sx 0)) := hD
      have g_3 : inR v lo hi := inR_ok (by omega) (by omega) c_1 (Int32.not_lt.mpr c_2)
      refine W.widen (k := 1) (n := 6) (by omega) (by omega) ?_
      exact vx_ret (W.vret hx hb hr (fun t9 ht9 hW9 => ⟨⟨(), rfl, g_3, by rw [ht9]; exact hP9, hD9⟩, hS.F ht9⟩) hS.2.2 dX7_requireRange_20)
    · have hP9 : va_P D vwCl (wDp ad o pa ka (fx 0) (sx 0)) H := hP
      have hD9 : va_D A (wDp ad o pa ka (fx 0) (sx 0)) := hD
      exact tw_1 hx hb hfl hown hts hSt hDc hZ hS (hl.1.trans hml.symm) 2 rfl dX7_requireRange_10 dX7_requireRange_13 dX7_requireRange_14 dX7_requireRange_16 dX7_requireRange_19 ht (Nat.le_of_ble_eq_true rfl) (Nat.le_of_ble_eq_true rfl) (Nat.le_of_ble_eq_true rfl) (Nat.le_of_ble_eq_true rfl) hlocks (rx_new (u := ()) (⟨rfl, inR_hi (by omega) (Int32.not_le.mp c_2)⟩) hP9 hD9 hS) hS.2.2 (Nat.le_of_ble_eq_true rfl) (Nat.le_of_ble_eq_true rfl)
set_option maxHeartbeats 4000000 in
set_option maxRecDepth 100000 in
theorem c_X7_requireRoom (l : Launch) (D : va_G) (cI cZ cQ cJ : ClassId) (ad : Nat) (o : Nat) (pa : Nat) (ka : Nat) (fx : Nat → Nat) (sx : Nat → Nat) (x : Nat → Nat) (r : Nat → Nat) (w : Nat → Int32) (q : Nat → Int32) (d : Nat → Int32) (T : Nat → Nat → Int32) (st : Nat → Int32) (re : Nat → Int32) (rc : Int32) (nz : Nat) (y : Nat → Nat) (rp : Nat → Nat) (rw : Nat → Nat) (rt : Nat → Nat) (P : Nat → Nat → Int32) (n : Nat → Int32) (Wi : Nat → Nat → Int32) (Ti : Nat → Nat → Int32) (nt : Nat) (pb : Nat) (zo : Nat → Int32) (t : Nat) (z : Nat) (sz : Nat) (ht : t < 7) (hz : z < 7) (hfl : l.stackTraces = false) : vx_Met l yX7_requireRoom (.code yX7_requireRoom cX7_requireRoom 4 none :: ALL) ({ frames := 6, cells := 1, slots := 6, locals := 82 } : Room) (va_Pc [.ref ad, .int (nI t), .int (nI z)] (rx_P D cI cZ cQ cJ ((wDp ad o pa ka (fx 0) (sx 0)) ++ ((wOf o (x 0) (y 0)) ++ ((wFl x r cI cZ cQ w q d T st re rc (nI nz)) ++ ((wSt y rp rw rt cI cQ P n Wi Ti (nI nt)) ++ (wPl pa pb cI zo))))) sz)) (va_Qv (fun u9 : Unit => ((tAt zo (nI z) = -1 ∨ tAt zo (nI z) = nI t) ∧ n t ≤ d z)) (rw_B D (va_A ((wDp ad o pa ka (fx 0) (sx 0)) ++ ((wOf o (x 0) (y 0)) ++ ((wFl x r cI cZ cQ w q d T st re rc (nI nz)) ++ ((wSt y rp rw rt cI cQ P n Wi Ti (nI nt)) ++ (wPl pa pb cI zo))))) sz) (fun u9 : Unit => (wDp ad o pa ka (fx 0) (sx 0)) ++ ((wOf o (x 0) (y 0)) ++ ((wFl x r cI cZ cQ w q d T st re rc (nI nz)) ++ ((wSt y rp rw rt cI cQ P n Wi Ti (nI nt)) ++ (wPl pa pb cI zo)))))) (va_A ((wDp ad o pa ka (fx 0) (sx 0)) ++ ((wOf o (x 0) (y 0)) ++ ((wFl x r cI cZ cQ w q d T st re rc (nI nz)) ++ ((wSt y rp rw rt cI cQ P n Wi Ti (nI nt)) ++ (wPl pa pb cI zo))))) sz)) (rx_X (fun (E9 : String) (x9 : Unit) => E9 = "java/lang/IllegalStateException" ∧ ¬ ((tAt zo (nI z) = -1 ∨ tAt zo (nI z) = nI t) ∧ n t ≤ d z)) D (va_A ((wDp ad o pa ka (fx 0) (sx 0)) ++ ((wOf o (x 0) (y 0)) ++ ((wFl x r cI cZ cQ w q d T st re rc (nI nz)) ++ ((wSt y rp rw rt cI cQ P n Wi Ti (nI nt)) ++ (wPl pa pb cI zo))))) sz) (fun x9 : Unit => (wDp ad o pa ka (fx 0) (sx 0)) ++ ((wOf o (x 0) (y 0)) ++ ((wFl x r cI cZ cQ w q d T st re rc (nI nz)) ++ ((wSt y rp rw rt cI cQ P n Wi Ti (nI nt)) ++ (wPl pa pb cI zo)))))) 1 6 (va_A ((wDp ad o pa ka (fx 0) (sx 0)) ++ ((wOf o (x 0) (y 0)) ++ ((wFl x r cI cZ cQ w q d T st re rc (nI nz)) ++ ((wSt y rp rw rt cI cQ P n Wi Ti (nI nt)) ++ (wPl pa pb cI zo))))) sz) := by
  refine vx_ofW (cc := cX7_requireRoom) (maxL := 4) (ret := none) (by decide) rfl ?_
  intro p e s m args below meth c s₁ B hml ht hv
  obtain ⟨rfl, ⟨hsz, hP, hSt, hD0⟩, hDc, hZ⟩ := hv
  change W p l e ({ frames := 6, cells := 1, slots := 6, locals := 82 } : Room) s m _ below meth c s.heap [] 0 0 _ _
  have hx := B.exec
  have hb := B.bytes
  have hr := B.returns
  have hts : ∀ w ∈ ALL, w.before ([.ref ad, .int (nI t), .int (nI z)] : List Value).toArray s = true := fun w h => atoms_spec (ws := (.code yX7_requireRoom cX7_requireRoom 4 none :: ALL)) B.pre w (List.mem_cons_of_mem _ h)
  have hown : s.vm.findClass RX7 = some m.cls := findClass_of_methodNamed B.named
  have hlocks := B.notSynchronized
  subst hsz
  have hD := hD0.self (sz := s.heap.size)
  clear hD0
  generalize hAe : va_A ((wDp ad o pa ka (fx 0) (sx 0)) ++ ((wOf o (x 0) (y 0)) ++ ((wFl x r cI cZ cQ w q d T st re rc (nI nz)) ++ ((wSt y rp rw rt cI cQ P n Wi Ti (nI nt)) ++ (wPl pa pb cI zo))))) s.heap.size = A at hD hZ ⊢
  have hA : ∀ q : Nat, s.heap.size ≤ q → A q := fun q h => by rw [← hAe]; exact Or.inr h
  have hS : va_S A s.heap s.heap [] := va_S.rf
  have hl := lv_entry ([.ref ad, .int (nI t), .int (nI z)]) (n := 4) (Nat.le_of_ble_eq_true rfl)
  rw [lg_entry_eq]
  generalize (lg_sl ([.ref ad, .int (nI t), .int (nI z)]) ++ List.replicate (4 - (lg_sl ([.ref ad, .int (nI t), .int (nI z)])).length) Slot.unset).toArray = ls at hl ⊢
  have hl : lv_has ls 4 [(0, .ref ad), (1, .int (nI t)), (2, .int (nI z))] := hl
  obtain ⟨H, hHe⟩ : ∃ H : Heap, H = s.heap := ⟨_, rfl⟩
  obtain ⟨locs, hLe⟩ : ∃ L : List Loc, L = [] := ⟨_, rfl⟩
  have hP : va_P D vwCl ((wDp ad o pa ka (fx 0) (sx 0)) ++ ((wOf o (x 0) (y 0)) ++ ((wFl x r cI cZ cQ w q d T st re rc (nI nz)) ++ ((wSt y rp rw rt cI cQ P n Wi Ti (nI nt)) ++ (wPl pa pb cI zo))))) H := by rw [hHe]; exact hP
  have hS : va_S A s.heap H locs := by rw [hHe, hLe]; exact hS
  refine W.eqHL hHe hLe ?_
  refine lv_aload_n hx hb dX7_requireRoom_0 rfl (lv_at hl 0 rfl) ?_
  refine va_get (D := D) (ci := 7) (v := .ref pa) (C := RX7) (T := TX7) (N := 5) hx hb hts tu_X7 hown hSt.1 hP 0 rfl rfl 1 (by decide) (hts _ t1_209) (fun _ h9 => h9) rfl dX7_requireRoom_1 ?_
  refine lv_iload_n hx hb dX7_requireRoom_4 rfl (lv_at hl 2 rfl) ?_
  refine ro_V (As := [.int (nI z)]) (rest := []) (v := tAt zo (nI z)) ⟨hx, hb, hml, hown, hts⟩ (c_X4_teamAt l D cI cZ cQ cJ pa pb zo (nI z)) (gV t2_219 t2_220 t2_221 t1_5 t2_222) rfl rfl hd_X4_teamAt ⟨Nat.le_of_ble_eq_true rfl, Nat.le_of_ble_eq_true rfl⟩ (hP.sub (ws' := wPl pa pb cI zo) [42, 43] rfl) hSt (va_recv hSt.1 hP (ci := 4) (q0 := 42) rfl rfl) rfl hl.1 rfl (Nat.le_of_ble_eq_true rfl) dX7_requireRoom_5 (Nat.zero_le _) (Nat.zero_le _) ?_
  refine lv_istore_n (lv' := [(3, .int (tAt zo (nI z))), (0, .ref ad), (1, .int (nI t)), (2, .int (nI z))]) hx hb dX7_requireRoom_8 rfl hl (by decide) rfl (fun ls hl => ?_)
  refine lv_iload_n hx hb dX7_requireRoom_9 rfl (lv_at hl 0 rfl) ?_
  refine lv_iconst (v := (-1 : Int32)) hx hb dX7_requireRoom_10 (by decide) ?_
  refine lv_icmp_eq (tgt := 29) hx hb dX7_requireRoom_11 (by decide) (fun c_1 => ?_) (fun c_1 => ?_)
  · refine lv_aload_n hx hb dX7_requireRoom_29 rfl (lv_at hl 1 rfl) ?_
    refine va_get (D := D) (ci := 7) (v := .ref o) (C := RX7) (T := TX7) (N := 5) hx hb hts tu_X7 hown hSt.1 hP 0 rfl rfl 0 (by decide) (hts _ t1_208) (fun _ h9 => h9) rfl dX7_requireRoom_30 ?_
    refine lv_iload_n hx hb dX7_requireRoom_33 rfl (lv_at hl 2 rfl) ?_
    refine lv_iload_n hx hb dX7_requireRoom_34 rfl (lv_at hl 3 rfl) ?_
    refine ro_V (As := [.int (nI t), .int (nI z)]) (rest := []) (v := bI (n t ≤ d z)) ⟨hx, hb, hml, hown, hts⟩ (c_X3_fits l D cI cZ cQ cJ o x r w q d T st re rc (nI nz) y rp rw rt P n Wi Ti (nI nt) t z (by first | assumption | omega) (by first | assumption | omega)) (gV t3_34 t2_21 t2_22 t1_2 t2_23) rfl rfl hd_X3_fits ⟨Nat.le_of_ble_eq_true rfl, Nat.le_of_ble_eq_true rfl⟩ (hP.sub (ws' := (wOf o (x 0) (y 0)) ++ ((wFl x r cI cZ cQ w q d T st re rc (nI nz)) ++ (wSt y rp rw rt cI cQ P n Wi Ti (nI nt)))) [1, 2, 3, 4, 5, 6, 7, 8, 9, 10, 11, 12, 13, 14, 15, 16, 17, 18, 19, 20, 21, 22, 23, 24, 25, 26, 27, 28, 29, 30, 31, 32, 33, 34, 35, 36, 37, 38, 39, 40, 41] rfl) hSt (va_recv hSt.1 hP (ci := 3) (q0 := 1) rfl rfl) rfl hl.1 rfl (Nat.le_of_ble_eq_true rfl) dX7_requireRoom_35 (Nat.zero_le _) (Nat.zero_le _) ?_
    refine lv_if_ne (tgt := 51) hx hb dX7_requireRoom_38 (by decide) (fun c_2 => ?_) (fun c_2 => ?_)
    · have c_2 := bI_n0.mp c_2
      have hP9 : va_P D vwCl ((wDp ad o pa ka (fx 0) (sx 0)) ++ ((wOf o (x 0) (y 0)) ++ ((wFl x r cI cZ cQ w q d T st re rc (nI nz)) ++ ((wSt y rp rw rt cI cQ P n Wi Ti (nI nt)) ++ (wPl pa pb cI zo))))) H := hP
      have hD9 : va_D A ((wDp ad o pa ka (fx 0) (sx 0)) ++ ((wOf o (x 0) (y 0)) ++ ((wFl x r cI cZ cQ w q d T st re rc (nI nz)) ++ ((wSt y rp rw rt cI cQ P n Wi Ti (nI nt)) ++ (wPl pa pb cI zo))))) := hD
      have g_3 : (tAt zo (nI z) = -1 ∨ tAt zo (nI z) = nI t) ∧ n t ≤ d z := ⟨Or.inl c_1, c_2⟩
      refine W.widen (k := 1) (n := 6) (by omega) (by omega) ?_
      exact vx_ret (W.vret hx hb hr (fun t9 ht9 hW9 => ⟨⟨(), rfl, g_3, by rw [ht9]; exact hP9, hD9⟩, hS.F ht9⟩) hS.2.2 dX7_requireRoom_51)
    · have c_2 := bI_0.mp c_2
      have hP9 : va_P D vwCl ((wDp ad o pa ka (fx 0) (sx 0)) ++ ((wOf o (x 0) (y 0)) ++ ((wFl x r cI cZ cQ w q d T st re rc (nI nz)) ++ ((wSt y rp rw rt cI cQ P n Wi Ti (nI nt)) ++ (wPl pa pb cI zo))))) H := hP
      have hD9 : va_D A ((wDp ad o pa ka (fx 0) (sx 0)) ++ ((wOf o (x 0) (y 0)) ++ ((wFl x r cI cZ cQ w q d T st re rc (nI nz)) ++ ((wSt y rp rw rt cI cQ P n Wi Ti (nI nt)) ++ (wPl pa pb cI zo))))) := hD
      exact tw_2 hx hb hfl hown hts hSt hDc hZ hS (hl.1.trans hml.symm) 13 rfl dX7_requireRoom_41 dX7_requireRoom_44 dX7_requireRoom_45 dX7_requireRoom_47 dX7_requireRoom_50 ht (Nat.le_of_ble_eq_true rfl) (Nat.le_of_ble_eq_true rfl) (Nat.le_of_ble_eq_true rfl) (Nat.le_of_ble_eq_true rfl) hlocks (rx_new (u := ()) (⟨rfl, fun q9 => c_2 q9.2⟩) hP9 hD9 hS) hS.2.2 (Nat.le_of_ble_eq_true rfl) (Nat.le_of_ble_eq_true rfl)
  · refine lv_iload_n hx hb dX7_requireRoom_14 rfl (lv_at hl 0 rfl) ?_
    refine lv_iload_n hx hb dX7_requireRoom_15 rfl (lv_at hl 2 rfl) ?_
    refine lv_icmp_eq (tgt := 29) hx hb dX7_requireRoom_16 (by decide) (fun c_4 => ?_) (fun c_4 => ?_)
    · refine lv_aload_n hx hb dX7_requireRoom_29 rfl (lv_at hl 1 rfl) ?_
      refine va_get (D := D) (ci := 7) (v := .ref o) (C := RX7) (T := TX7) (N := 5) hx hb hts tu_X7 hown hSt.1 hP 0 rfl rfl 0 (by decide) (hts _ t1_208) (fun _ h9 => h9) rfl dX7_requireRoom_30 ?_
      refine lv_iload_n hx hb dX7_requireRoom_33 rfl (lv_at hl 2 rfl) ?_
      refine lv_iload_n hx hb dX7_requireRoom_34 rfl (lv_at hl 3 rfl) ?_
      refine ro_V (As := [.int (nI t), .int (nI z)]) (rest := []) (v := bI (n t ≤ d z)) ⟨hx, hb, hml, hown, hts⟩ (c_X3_fits l D cI cZ cQ cJ o x r w q d T st re rc (nI nz) y rp rw rt P n Wi Ti (nI nt) t z (by first | assumption | omega) (by first | assumption | omega)) (gV t3_34 t2_21 t2_22 t1_2 t2_23) rfl rfl hd_X3_fits ⟨Nat.le_of_ble_eq_true rfl, Nat.le_of_ble_eq_true rfl⟩ (hP.sub (ws' := (wOf o (x 0) (y 0)) ++ ((wFl x r cI cZ cQ w q d T st re rc (nI nz)) ++ (wSt y rp rw rt cI cQ P n Wi Ti (nI nt)))) [1, 2, 3, 4, 5, 6, 7, 8, 9, 10, 11, 12, 13, 14, 15, 16, 17, 18, 19, 20, 21, 22, 23, 24, 25, 26, 27, 28, 29, 30, 31, 32, 33, 34, 35, 36, 37, 38, 39, 40, 41] rfl) hSt (va_recv hSt.1 hP (ci := 3) (q0 := 1) rfl rfl) rfl hl.1 rfl (Nat.le_of_ble_eq_true rfl) dX7_requireRoom_35 (Nat.zero_le _) (Nat.zero_le _) ?_
      refine lv_if_ne (tgt := 51) hx hb dX7_requireRoom_38 (by decide) (fun c_5 => ?_) (fun c_5 => ?_)
      · have c_5 := bI_n0.mp c_5
        have hP9 : va_P D vwCl ((wDp ad o pa ka (fx 0) (sx 0)) ++ ((wOf o (x 0) (y 0)) ++ ((wFl x r cI cZ cQ w q d T st re rc (nI nz)) ++ ((wSt y rp rw rt cI cQ P n Wi Ti (nI nt)) ++ (wPl pa pb cI zo))))) H := hP
        have hD9 : va_D A ((wDp ad o pa ka (fx 0) (sx 0)) ++ ((wOf o (x 0) (y 0)) ++ ((wFl x r cI cZ cQ w q d T st re rc (nI nz)) ++ ((wSt y rp rw rt cI cQ P n Wi Ti (nI nt)) ++ (wPl pa pb cI zo))))) := hD
        have g_6 : (tAt zo (nI z) = -1 ∨ tAt zo (nI z) = nI t) ∧ n t ≤ d z := ⟨Or.inr c_4, c_5⟩
        refine W.widen (k := 1) (n := 6) (by omega) (by omega) ?_
        exact vx_ret (W.vret hx hb hr (fun t9 ht9 hW9 => ⟨⟨(), rfl, g_6, by rw [ht9]; exact hP9, hD9⟩, hS.F ht9⟩) hS.2.2 dX7_requireRoom_51)
      · have c_5 := bI_0.mp c_5
        have hP9 : va_P D vwCl ((wDp ad o pa ka (fx 0) (sx 0)) ++ ((wOf o (x 0) (y 0)) ++ ((wFl x r cI cZ cQ w q d T st re rc (nI nz)) ++ ((wSt y rp rw rt cI cQ P n Wi Ti (nI nt)) ++ (wPl pa pb cI zo))))) H := hP
        have hD9 : va_D A ((wDp ad o pa ka (fx 0) (sx 0)) ++ ((wOf o (x 0) (y 0)) ++ ((wFl x r cI cZ cQ w q d T st re rc (nI nz)) ++ ((wSt y rp rw rt cI cQ P n Wi Ti (nI nt)) ++ (wPl pa pb cI zo))))) := hD
        exact tw_2 hx hb hfl hown hts hSt hDc hZ hS (hl.1.trans hml.symm) 13 rfl dX7_requireRoom_41 dX7_requireRoom_44 dX7_requireRoom_45 dX7_requireRoom_47 dX7_requireRoom_50 ht (Nat.le_of_ble_eq_true rfl) (Nat.le_of_ble_eq_true rfl) (Nat.le_of_ble_eq_true rfl) (Nat.le_of_ble_eq_true rfl) hlocks (rx_new (u := ()) (⟨rfl, fun q9 => c_5 q9.2⟩) hP9 hD9 hS) hS.2.2 (Nat.le_of_ble_eq_true rfl) (Nat.le_of_ble_eq_true rfl)
    · have hP9 : va_P D vwCl ((wDp ad o pa ka (fx 0) (sx 0)) ++ ((wOf o (x 0) (y 0)) ++ ((wFl x r cI cZ cQ w q d T st re rc (nI nz)) ++ ((wSt y rp rw rt cI cQ P n Wi Ti (nI nt)) ++ (wPl pa pb cI zo))))) H := hP
      have hD9 : va_D A ((wDp ad o pa ka (fx 0) (sx 0)) ++ ((wOf o (x 0) (y 0)) ++ ((wFl x r cI cZ cQ w q d T st re rc (nI nz)) ++ ((wSt y rp rw rt cI cQ P n Wi Ti (nI nt)) ++ (wPl pa pb cI zo))))) := hD
      exact tw_2 hx hb hfl hown hts hSt hDc hZ hS (hl.1.trans hml.symm) 12 rfl dX7_requireRoom_19 dX7_requireRoom_22 dX7_requireRoom_23 dX7_requireRoom_25 dX7_requireRoom_28 ht (Nat.le_of_ble_eq_true rfl) (Nat.le_of_ble_eq_true rfl) (Nat.le_of_ble_eq_true rfl) (Nat.le_of_ble_eq_true rfl) hlocks (rx_new (u := ()) (⟨rfl, fun q9 => q9.1.elim c_1 c_4⟩) hP9 hD9 hS) hS.2.2 (Nat.le_of_ble_eq_true rfl) (Nat.le_of_ble_eq_true rfl)
theorem hd_X7_requireSquare : yX7_requireSquare.cls = RX7 ∧ yX7_requireSquare.cls ≠ "java/lang/invoke/MethodHandle" ∧ yX7_requireSquare.cls ≠ "java/lang/invoke/VarHandle" ∧ (parseMethodDescriptor yX7_requireSquare.desc).map (fun d => d.parameters.length) = some 2 := by decide +kernel
theorem hd_X7_requireZone : yX7_requireZone.cls = RX7 ∧ yX7_requireZone.cls ≠ "java/lang/invoke/MethodHandle" ∧ yX7_requireZone.cls ≠ "java/lang/invoke/VarHandle" ∧ (parseMethodDescriptor yX7_requireZone.desc).map (fun d => d.parameters.length) = some 1 := by decide +kernel
theorem hd_X7_requireTeam : yX7_requireTeam.cls = RX7 ∧ yX7_requireTeam.cls ≠ "java/lang/invoke/MethodHandle" ∧ yX7_requireTeam.cls ≠ "java/lang/invoke/VarHandle" ∧ (parseMethodDescriptor yX7_requireTeam.desc).map (fun d => d.parameters.length) = some 1 := by decide +kernel
theorem hd_X7_requireDay : yX7_requireDay.cls = RX7 ∧ yX7_requireDay.cls ≠ "java/lang/invoke/MethodHandle" ∧ yX7_requireDay.cls ≠ "java/lang/invoke/VarHandle" ∧ (parseMethodDescriptor yX7_requireDay.desc).map (fun d => d.parameters.length) = some 1 := by decide +kernel
theorem hd_X7_requireRange : yX7_requireRange.cls = RX7 ∧ yX7_requireRange.cls ≠ "java/lang/invoke/MethodHandle" ∧ yX7_requireRange.cls ≠ "java/lang/invoke/VarHandle" ∧ (parseMethodDescriptor yX7_requireRange.desc).map (fun d => d.parameters.length) = some 3 := by decide +kernel
theorem hd_X7_requireRoom : yX7_requireRoom.cls = RX7 ∧ yX7_requireRoom.cls ≠ "java/lang/invoke/MethodHandle" ∧ yX7_requireRoom.cls ≠ "java/lang/invoke/VarHandle" ∧ (parseMethodDescriptor yX7_requireRoom.desc).map (fun d => d.parameters.length) = some 2 := by decide +kernel
set_option maxHeartbeats 4000000 in
set_option maxRecDepth 100000 in
theorem c_X7_setWall (l : Launch) (D : va_G) (cI cZ cQ cJ : ClassId) (ad : Nat) (o : Nat) (pa : Nat) (ka : Nat) (fx : Nat → Nat) (sx : Nat → Nat) (x : Nat → Nat) (r : Nat → Nat) (w : Nat → Int32) (q : Nat → Int32) (d : Nat → Int32) (T : Nat → Nat → Int32) (st : Nat → Int32) (re : Nat → Int32) (rc : Int32) (nz : Nat) (y : Nat → Nat) (sq : Nat → Nat) (co : Int32) (ro : Int32) (b : Int32) (sz : Nat) (hnz : nz ≤ 7) (hq : ∀ o, o < nz → q o = nI (sq o) ∧ sq o < 64 ∧ w (sq o) = 0) (hw : ∀ k, k < 64 → w k = 0 ∨ w k = 1) (hb1 : b = 0 ∨ b = 1) (hT : ∀ u v, u < nz → v < nz → isD w (sq u) (sq v) (T u v)) (hfl : l.stackTraces = false) : vx_Met l yX7_setWall (.code yX7_setWall cX7_setWall 4 (some .boolean) :: ALL) ({ frames := 7, cells := 2, slots := 12, locals := 116 } : Room) (va_Pc [.ref ad, .int co, .int ro, .int b] (rx_P D cI cZ cQ cJ ((wDp ad o pa ka (fx 0) (sx 0)) ++ ((wOf o (x 0) (y 0)) ++ (wFl x r cI cZ cQ w q d T st re rc (nI nz)))) sz)) (va_Qi (fun (r9 : Int32) (u9 : Int32 × (Nat → Int32) × (Nat → Nat → Int32) × (Nat → Int32) × (Nat → Int32) × Int32) => (r9 = u9.1) ∧ (sSetWall nz q w co ro b 0 u9.1 u9.2.1) ∧ (∀ u v, u < nz → v < nz → isD u9.2.1 (sq u) (sq v) (u9.2.2.1 u v))) (rw_B D (va_A ((wDp ad o pa ka (fx 0) (sx 0)) ++ ((wOf o (x 0) (y 0)) ++ (wFl x r cI cZ cQ w q d T st re rc (nI nz)))) sz) (fun u9 : Int32 × (Nat → Int32) × (Nat → Nat → Int32) × (Nat → Int32) × (Nat → Int32) × Int32 => (wDp ad o pa ka (fx 0) (sx 0)) ++ ((wOf o (x 0) (y 0)) ++ (wFl x r cI cZ cQ u9.2.1 q d u9.2.2.1 u9.2.2.2.1 u9.2.2.2.2.1 u9.2.2.2.2.2 (nI nz))))) (va_A ((wDp ad o pa ka (fx 0) (sx 0)) ++ ((wOf o (x 0) (y 0)) ++ (wFl x r cI cZ cQ w q d T st re rc (nI nz)))) sz)) (rx_X (fun (E9 : String) (x9 : Unit) => (E9 = "java/lang/IndexOutOfBoundsException" ∧ sSetWall nz q w co ro b 1 0 w) ∨ (E9 = "java/lang/IllegalStateException" ∧ sSetWall nz q w co ro b 2 0 w)) D (va_A ((wDp ad o pa ka (fx 0) (sx 0)) ++ ((wOf o (x 0) (y 0)) ++ (wFl x r cI cZ cQ w q d T st re rc (nI nz)))) sz) (fun x9 : Unit => (wDp ad o pa ka (fx 0) (sx 0)) ++ ((wOf o (x 0) (y 0)) ++ (wFl x r cI cZ cQ w q d T st re rc (nI nz))))) 2 12 (va_A ((wDp ad o pa ka (fx 0) (sx 0)) ++ ((wOf o (x 0) (y 0)) ++ (wFl x r cI cZ cQ w q d T st re rc (nI nz)))) sz) := by
  refine vx_ofW (cc := cX7_setWall) (maxL := 4) (ret := (some .boolean)) (by decide) rfl ?_
  intro p e s m args below meth c s₁ B hml ht hv
  obtain ⟨rfl, ⟨hsz, hP, hSt, hD0⟩, hDc, hZ⟩ := hv
  change W p l e ({ frames := 7, cells := 2, slots := 12, locals := 116 } : Room) s m _ below meth c s.heap [] 0 0 _ _
  have hx := B.exec
  have hb := B.bytes
  have hr := B.returns
  have hts : ∀ w ∈ ALL, w.before ([.ref ad, .int co, .int ro, .int b] : List Value).toArray s = true := fun w h => atoms_spec (ws := (.code yX7_setWall cX7_setWall 4 (some .boolean) :: ALL)) B.pre w (List.mem_cons_of_mem _ h)
  have hown : s.vm.findClass RX7 = some m.cls := findClass_of_methodNamed B.named
  have hlocks := B.notSynchronized
  subst hsz
  have hD := hD0.self (sz := s.heap.size)
  clear hD0
  generalize hAe : va_A ((wDp ad o pa ka (fx 0) (sx 0)) ++ ((wOf o (x 0) (y 0)) ++ (wFl x r cI cZ cQ w q d T st re rc (nI nz)))) s.heap.size = A at hD hZ ⊢
  have hA : ∀ q : Nat, s.heap.size ≤ q → A q := fun q h => by rw [← hAe]; exact Or.inr h
  have hS : va_S A s.heap s.heap [] := va_S.rf
  have hl := lv_entry ([.ref ad, .int co, .int ro, .int b]) (n := 4) (Nat.le_of_ble_eq_true rfl)
  rw [lg_entry_eq]
  generalize (lg_sl ([.ref ad, .int co, .int ro, .int b]) ++ List.replicate (4 - (lg_sl ([.ref ad, .int co, .int ro, .int b])).length) Slot.unset).toArray = ls at hl ⊢
  have hl : lv_has ls 4 [(0, .ref ad), (1, .int co), (2, .int ro), (3, .int b)] := hl
  obtain ⟨H, hHe⟩ : ∃ H : Heap, H = s.heap := ⟨_, rfl⟩
  obtain ⟨locs, hLe⟩ : ∃ L : List Loc, L = [] := ⟨_, rfl⟩
  have hP : va_P D vwCl ((wDp ad o pa ka (fx 0) (sx 0)) ++ ((wOf o (x 0) (y 0)) ++ (wFl x r cI cZ cQ w q d T st re rc (nI nz)))) H := by rw [hHe]; exact hP
  have hS : va_S A s.heap H locs := by rw [hHe, hLe]; exact hS
  refine W.eqHL hHe hLe ?_
  refine lv_aload_n hx hb dX7_setWall_0 rfl (lv_at hl 0 rfl) ?_
  refine lv_iload_n hx hb dX7_setWall_1 rfl (lv_at hl 1 rfl) ?_
  refine lv_iload_n hx hb dX7_setWall_2 rfl (lv_at hl 2 rfl) ?_
  refine rx_v (wr := (wOf o (x 0) (y 0)) ++ (wFl x r cI cZ cQ w q d T st re rc (nI nz))) (w_VX (As := [.int co, .int ro]) ⟨hx, hb, hml, hown, hts⟩ (c_X7_requireSquare l D cI cZ cQ cJ ad o pa ka fx sx co ro H.size (by first | assumption | omega)) (gV t2_53 t2_55 t0_2 t1_1 t2_56) rfl rfl hd_X7_requireSquare ⟨Nat.le_of_ble_eq_true rfl, Nat.le_of_ble_eq_true rfl⟩ (rx_pre hP hD hSt hDc hZ hS hA [0] rfl (by decide)) (va_recv hSt.1 hP (ci := 7) (q0 := 0) rfl rfl) rfl hl.1 (rest := []) rfl (Nat.le_of_ble_eq_true rfl) dX7_setWall_3 ⟨Nat.le_of_ble_eq_true rfl, Nat.le_of_ble_eq_true rfl⟩) hP hD hS hA [0] [1, 2, 3, 4, 5, 6, 7, 8, 9, 10, 11, 12, 13, 14, 15] rfl rfl (by decide) (by decide) (fun E9 ce9 q9 x9 H locs hx9 hP hD hS hc91 hc92 hc93 => ?_) (fun  u_1 H locs hw9 hP hD hS => ?_)
  · have hx9 : E9 = "java/lang/IndexOutOfBoundsException" ∧ ¬ inSq co ro := hx9
    have hP : va_P D vwCl (((wOf o (x 0) (y 0)) ++ (wFl x r cI cZ cQ w q d T st re rc (nI nz))) ++ (wDp ad o pa ka (fx 0) (sx 0))) H := hP
    have hD : va_D A (((wOf o (x 0) (y 0)) ++ (wFl x r cI cZ cQ w q d T st re rc (nI nz))) ++ (wDp ad o pa ka (fx 0) (sx 0))) := hD
    have hP9 : va_P D vwCl ((wDp ad o pa ka (fx 0) (sx 0)) ++ ((wOf o (x 0) (y 0)) ++ (wFl x r cI cZ cQ w q d T st re rc (nI nz)))) H := (hP.sub (ws' := (wDp ad o pa ka (fx 0) (sx 0)) ++ ((wOf o (x 0) (y 0)) ++ (wFl x r cI cZ cQ w q d T st re rc (nI nz)))) [15, 0, 1, 2, 3, 4, 5, 6, 7, 8, 9, 10, 11, 12, 13, 14] rfl)
    have hD9 : va_D A ((wDp ad o pa ka (fx 0) (sx 0)) ++ ((wOf o (x 0) (y 0)) ++ (wFl x r cI cZ cQ w q d T st re rc (nI nz)))) := (hD.sub (ws' := (wDp ad o pa ka (fx 0) (sx 0)) ++ ((wOf o (x 0) (y 0)) ++ (wFl x r cI cZ cQ w q d T st re rc (nI nz)))) [15, 0, 1, 2, 3, 4, 5, 6, 7, 8, 9, 10, 11, 12, 13, 14] (by decide) rfl)
    exact vx_widen (k := 2) (n := 12) (by omega) (by omega) (rx_on (u := ()) ht hlocks (Or.inl ⟨hx9.1, Or.inl ⟨hx9.2, rfl, rfl⟩⟩) hP9 hD9 hS hc91 hc92 hc93 (Nat.le_refl _) (Nat.le_refl _))
  · have f_2 := hw9
    have hsq : inSq co ro := f_2
    have hP : va_P D vwCl (((wOf o (x 0) (y 0)) ++ (wFl x r cI cZ cQ w q d T st re rc (nI nz))) ++ (wDp ad o pa ka (fx 0) (sx 0))) H := hP
    have hD : va_D A (((wOf o (x 0) (y 0)) ++ (wFl x r cI cZ cQ w q d T st re rc (nI nz))) ++ (wDp ad o pa ka (fx 0) (sx 0))) := hD
    obtain ⟨i0, j0, hi0, hj0, rfl, rfl⟩ := inSq_nat hsq
    have e9 : sqI (nI i0) (nI j0) = j0 * 8 + i0 := sqI_nat (by omega) (by omega)
    refine lv_aload_n hx hb dX7_setWall_6 rfl (lv_at hl 0 rfl) ?_
    refine va_get (D := D) (ci := 7) (v := .ref o) (C := RX7) (T := TX7) (N := 5) hx hb hts tu_X7 hown hSt.1 hP 15 rfl rfl 0 (by decide) (hts _ t1_208) (fun _ h9 => h9) rfl dX7_setWall_7 ?_
    refine va_getN (D := D) (ci := 3) (v := .ref (x 0)) (C := RX3) (T := TX3) (N := 2) hx hb hts tu_X3 hown hSt.1 hP 0 rfl rfl 0 (by decide) (nf_7 hSt.2) (fun _ h9 => h9) rfl dX7_setWall_10 ?_
    refine lv_iload_n hx hb dX7_setWall_13 rfl (lv_at hl 1 rfl) ?_
    refine lv_iload_n hx hb dX7_setWall_14 rfl (lv_at hl 2 rfl) ?_
    refine ro_V (As := [.int (nI i0), .int (nI j0)]) (rest := []) (v := bI (anyN (fun k => decide (q k = nI (j0 * 8 + i0))) nz = true)) ⟨hx, hb, hml, hown, hts⟩ (c_X1_hasZone l D cI cZ cQ cJ x r w q d T st re rc nz i0 j0 (by first | assumption | omega) (by first | assumption | omega) (by first | assumption | omega)) (gV t2_128 t2_129 t2_130 t1_3 t2_131) rfl rfl hd_X1_hasZone ⟨Nat.le_of_ble_eq_true rfl, Nat.le_of_ble_eq_true rfl⟩ (hP.sub (ws' := wFl x r cI cZ cQ w q d T st re rc (nI nz)) [1, 2, 3, 4, 5, 6, 7, 8, 9, 10, 11, 12, 13, 14] rfl) hSt (va_recv hSt.1 hP (ci := 1) (q0 := 1) rfl rfl) rfl hl.1 rfl (Nat.le_of_ble_eq_true rfl) dX7_setWall_15 (Nat.le_of_ble_eq_true rfl) (Nat.le_of_ble_eq_true rfl) ?_
    refine lv_if_eq (tgt := 31) hx hb dX7_setWall_18 (by decide) (fun c_3 => ?_) (fun c_3 => ?_)
    · have c_3 := bI_0.mp c_3
      refine lv_aload_n hx hb dX7_setWall_31 rfl (lv_at hl 0 rfl) ?_
      refine va_get (D := D) (ci := 7) (v := .ref o) (C := RX7) (T := TX7) (N := 5) hx hb hts tu_X7 hown hSt.1 hP 15 rfl rfl 0 (by decide) (hts _ t1_208) (fun _ h9 => h9) rfl dX7_setWall_32 ?_
      refine va_getN (D := D) (ci := 3) (v := .ref (x 0)) (C := RX3) (T := TX3) (N := 2) hx hb hts tu_X3 hown hSt.1 hP 0 rfl rfl 0 (by decide) (nf_7 hSt.2) (fun _ h9 => h9) rfl dX7_setWall_35 ?_
      refine lv_iload_n hx hb dX7_setWall_38 rfl (lv_at hl 1 rfl) ?_
      refine lv_iload_n hx hb dX7_setWall_39 rfl (lv_at hl 2 rfl) ?_
      refine lv_iload_n hx hb dX7_setWall_40 rfl (lv_at hl 3 rfl) ?_
      refine rw_i (wr := (wOf o (x 0) (y 0)) ++ (wDp ad o pa ka (fx 0) (sx 0))) (w_V (As := [.int (nI i0), .int (nI j0), .int b]) ⟨hx, hb, hml, hown, hts⟩ (c_X1_buildWall l D cI cZ cQ cJ x r w q d T st re rc sq nz i0 j0 b H.size (by first | assumption | omega) (by first | assumption | omega) hnz (by first | assumption | omega) (by first | assumption | omega) hb1 (by first | assumption | omega) (hasZ_not c_3 (fun o ho => (hq o ho).1))) (gV t2_151 t2_152 t2_153 t1_3 t2_154) rfl rfl hd_X1_buildWall ⟨Nat.le_of_ble_eq_true rfl, Nat.le_of_ble_eq_true rfl⟩ (rw_pre hP hD hSt [1, 2, 3, 4, 5, 6, 7, 8, 9, 10, 11, 12, 13, 14] rfl (by decide)) (va_recv hSt.1 hP (ci := 1) (q0 := 1) rfl rfl) rfl hl.1 (rest := []) rfl (Nat.le_of_ble_eq_true rfl) dX7_setWall_41 ⟨Nat.le_of_ble_eq_true rfl, Nat.le_of_ble_eq_true rfl⟩) hP hD hS hA [1, 2, 3, 4, 5, 6, 7, 8, 9, 10, 11, 12, 13, 14] [0, 15] rfl rfl (by decide) (by decide) (fun r u_8 H locs hw9 hP hD hS => ?_)
      obtain ⟨j_4, j_5, j_6, j_7⟩ := u_8
      obtain ⟨rfl, f_9⟩ := hw9
      have hT2 : ∀ u v, u < nz → v < nz → isD (upd w (j0 * 8 + i0) b) (sq u) (sq v) (j_4 u v) := f_9
      have hP : va_P D vwCl (((wOf o (x 0) (y 0)) ++ (wDp ad o pa ka (fx 0) (sx 0))) ++ (wFl x r cI cZ cQ (upd w (j0 * 8 + i0) b) q d j_4 j_5 j_6 j_7 (nI nz))) H := hP
      have hD : va_D A (((wOf o (x 0) (y 0)) ++ (wDp ad o pa ka (fx 0) (sx 0))) ++ (wFl x r cI cZ cQ (upd w (j0 * 8 + i0) b) q d j_4 j_5 j_6 j_7 (nI nz))) := hD
      have hP9 : va_P D vwCl ((wDp ad o pa ka (fx 0) (sx 0)) ++ ((wOf o (x 0) (y 0)) ++ (wFl x r cI cZ cQ (upd w (j0 * 8 + i0) b) q d j_4 j_5 j_6 j_7 (nI nz)))) H := (hP.sub (ws' := (wDp ad o pa ka (fx 0) (sx 0)) ++ ((wOf o (x 0) (y 0)) ++ (wFl x r cI cZ cQ (upd w (j0 * 8 + i0) b) q d j_4 j_5 j_6 j_7 (nI nz)))) [1, 0, 2, 3, 4, 5, 6, 7, 8, 9, 10, 11, 12, 13, 14, 15] rfl)
      have hD9 : va_D A ((wDp ad o pa ka (fx 0) (sx 0)) ++ ((wOf o (x 0) (y 0)) ++ (wFl x r cI cZ cQ (upd w (j0 * 8 + i0) b) q d j_4 j_5 j_6 j_7 (nI nz)))) := (hD.sub (ws' := (wDp ad o pa ka (fx 0) (sx 0)) ++ ((wOf o (x 0) (y 0)) ++ (wFl x r cI cZ cQ (upd w (j0 * 8 + i0) b) q d j_4 j_5 j_6 j_7 (nI nz)))) [1, 0, 2, 3, 4, 5, 6, 7, 8, 9, 10, 11, 12, 13, 14, 15] (by decide) rfl)
      have g_10 : sSetWall nz q w (nI i0) (nI j0) b 0 (w (j0 * 8 + i0)) (upd w (j0 * 8 + i0) b) := Or.inr (Or.inr ⟨hsq, by rw [e9]; exact c_3, rfl, by rw [e9], by rw [e9]⟩)
      have g_11 : ∀ u v, u < nz → v < nz → isD (upd w (j0 * 8 + i0) b) (sq u) (sq v) (j_4 u v) := hT2
      refine W.widen (k := 2) (n := 12) (by omega) (by omega) ?_
      exact vx_ret (W.zret (v := w (j0 * 8 + i0)) hx hb hr (b01_nar' (hw _ (by omega))) (fun t9 ht9 hW9 => ⟨⟨w (j0 * 8 + i0), (w (j0 * 8 + i0), upd w (j0 * 8 + i0) b, j_4, j_5, j_6, j_7), rfl, ⟨rfl, g_10, g_11⟩, by rw [ht9]; exact hP9, hD9⟩, hS.F ht9⟩) hS.2.2 dX7_setWall_44)
    · have c_3 := bI_n0.mp c_3
      have hP9 : va_P D vwCl ((wDp ad o pa ka (fx 0) (sx 0)) ++ ((wOf o (x 0) (y 0)) ++ (wFl x r cI cZ cQ w q d T st re rc (nI nz)))) H := (hP.sub (ws' := (wDp ad o pa ka (fx 0) (sx 0)) ++ ((wOf o (x 0) (y 0)) ++ (wFl x r cI cZ cQ w q d T st re rc (nI nz)))) [15, 0, 1, 2, 3, 4, 5, 6, 7, 8, 9, 10, 11, 12, 13, 14] rfl)
      have hD9 : va_D A ((wDp ad o pa ka (fx 0) (sx 0)) ++ ((wOf o (x 0) (y 0)) ++ (wFl x r cI cZ cQ w q d T st re rc (nI nz)))) := (hD.sub (ws' := (wDp ad o pa ka (fx 0) (sx 0)) ++ ((wOf o (x 0) (y 0)) ++ (wFl x r cI cZ cQ w q d T st re rc (nI nz)))) [15, 0, 1, 2, 3, 4, 5, 6, 7, 8, 9, 10, 11, 12, 13, 14] (by decide) rfl)
      exact tw_2 hx hb hfl hown hts hSt hDc hZ hS (hl.1.trans hml.symm) 1 rfl dX7_setWall_21 dX7_setWall_24 dX7_setWall_25 dX7_setWall_27 dX7_setWall_30 ht (Nat.le_of_ble_eq_true rfl) (Nat.le_of_ble_eq_true rfl) (Nat.le_of_ble_eq_true rfl) (Nat.le_of_ble_eq_true rfl) hlocks (rx_new (u := ()) (Or.inr ⟨rfl, Or.inr (Or.inl ⟨hsq, by rw [e9]; exact c_3, rfl, rfl⟩)⟩) hP9 hD9 hS) hS.2.2 (Nat.le_of_ble_eq_true rfl) (Nat.le_of_ble_eq_true rfl)
set_option maxHeartbeats 4000000 in
set_option maxRecDepth 100000 in
theorem c_X7_addZone (l : Launch) (D : va_G) (cI cZ cQ cJ : ClassId) (ad : Nat) (o : Nat) (pa : Nat) (ka : Nat) (fx : Nat → Nat) (sx : Nat → Nat) (x : Nat → Nat) (r : Nat → Nat) (w : Nat → Int32) (q : Nat → Int32) (d : Nat → Int32) (T : Nat → Nat → Int32) (st : Nat → Int32) (re : Nat → Int32) (rc : Int32) (nz : Nat) (y : Nat → Nat) (sq : Nat → Nat) (co : Int32) (ro : Int32) (m9 : Int32) (sz : Nat) (hnz : nz ≤ 7) (hq : ∀ o, o < nz → q o = nI (sq o) ∧ sq o < 64 ∧ w (sq o) = 0) (hw : ∀ k, k < 64 → w k = 0 ∨ w k = 1) (hfl : l.stackTraces = false) : vx_Met l yX7_addZone (.code yX7_addZone cX7_addZone 4 (some .int) :: ALL) ({ frames := 7, cells := 3, slots := 18, locals := 115 } : Room) (va_Pc [.ref ad, .int co, .int ro, .int m9] (rx_P D cI cZ cQ cJ ((wDp ad o pa ka (fx 0) (sx 0)) ++ ((wOf o (x 0) (y 0)) ++ (wFl x r cI cZ cQ w q d T st re rc (nI nz)))) sz)) (va_Qi (fun (r9 : Int32) (u9 : Int32 × (Nat → Int32) × (Nat → Int32) × Nat × (Nat → Nat → Int32) × (Nat → Int32) × (Nat → Int32) × Int32) => (r9 = u9.1) ∧ (sAddZone nz q d w co ro m9 0 u9.1 u9.2.2.2.1 u9.2.1 u9.2.2.1) ∧ (∀ u v, u < u9.2.2.2.1 → v < u9.2.2.2.1 → isD w ((updN sq nz (sqI co ro)) u) ((updN sq nz (sqI co ro)) v) (u9.2.2.2.2.1 u v))) (rw_B D (va_A ((wDp ad o pa ka (fx 0) (sx 0)) ++ ((wOf o (x 0) (y 0)) ++ (wFl x r cI cZ cQ w q d T st re rc (nI nz)))) sz) (fun u9 : Int32 × (Nat → Int32) × (Nat → Int32) × Nat × (Nat → Nat → Int32) × (Nat → Int32) × (Nat → Int32) × Int32 => (wDp ad o pa ka (fx 0) (sx 0)) ++ ((wOf o (x 0) (y 0)) ++ (wFl x r cI cZ cQ w u9.2.1 u9.2.2.1 u9.2.2.2.2.1 u9.2.2.2.2.2.1 u9.2.2.2.2.2.2.1 u9.2.2.2.2.2.2.2 (nI u9.2.2.2.1))))) (va_A ((wDp ad o pa ka (fx 0) (sx 0)) ++ ((wOf o (x 0) (y 0)) ++ (wFl x r cI cZ cQ w q d T st re rc (nI nz)))) sz)) (rx_X (fun (E9 : String) (x9 : Unit) => (E9 = "java/lang/IndexOutOfBoundsException" ∧ sAddZone nz q d w co ro m9 1 0 nz q d) ∨ (E9 = "java/lang/IllegalArgumentException" ∧ sAddZone nz q d w co ro m9 2 0 nz q d) ∨ (E9 = "java/lang/IllegalStateException" ∧ sAddZone nz q d w co ro m9 3 0 nz q d)) D (va_A ((wDp ad o pa ka (fx 0) (sx 0)) ++ ((wOf o (x 0) (y 0)) ++ (wFl x r cI cZ cQ w q d T st re rc (nI nz)))) sz) (fun x9 : Unit => (wDp ad o pa ka (fx 0) (sx 0)) ++ ((wOf o (x 0) (y 0)) ++ (wFl x r cI cZ cQ w q d T st re rc (nI nz))))) 3 18 (va_A ((wDp ad o pa ka (fx 0) (sx 0)) ++ ((wOf o (x 0) (y 0)) ++ (wFl x r cI cZ cQ w q d T st re rc (nI nz)))) sz) := by
  refine vx_ofW (cc := cX7_addZone) (maxL := 4) (ret := (some .int)) (by decide) rfl ?_
  intro p e s m args below meth c s₁ B hml ht hv
  obtain ⟨rfl, ⟨hsz, hP, hSt, hD0⟩, hDc, hZ⟩ := hv
  change W p l e ({ frames := 7, cells := 3, slots := 18, locals := 115 } : Room) s m _ below meth c s.heap [] 0 0 _ _
  have hx := B.exec
  have hb := B.bytes
  have hr := B.returns
  have hts : ∀ w ∈ ALL, w.before ([.ref ad, .int co, .int ro, .int m9] : List Value).toArray s = true := fun w h => atoms_spec (ws := (.code yX7_addZone cX7_addZone 4 (some .int) :: ALL)) B.pre w (List.mem_cons_of_mem _ h)
  have hown : s.vm.findClass RX7 = some m.cls := findClass_of_methodNamed B.named
  have hlocks := B.notSynchronized
  subst hsz
  have hD := hD0.self (sz := s.heap.size)
  clear hD0
  generalize hAe : va_A ((wDp ad o pa ka (fx 0) (sx 0)) ++ ((wOf o (x 0) (y 0)) ++ (wFl x r cI cZ cQ w q d T st re rc (nI nz)))) s.heap.size = A at hD hZ ⊢
  have hA : ∀ q : Nat, s.heap.size ≤ q → A q := fun q h => by rw [← hAe]; exact Or.inr h
  have hS : va_S A s.heap s.heap [] := va_S.rf
  have hl := lv_entry ([.ref ad, .int co, .int ro, .int m9]) (n := 4) (Nat.le_of_ble_eq_true rfl)
  rw [lg_entry_eq]
  generalize (lg_sl ([.ref ad, .int co, .int ro, .int m9]) ++ List.replicate (4 - (lg_sl ([.ref ad, .int co, .int ro, .int m9])).length) Slot.unset).toArray = ls at hl ⊢
  have hl : lv_has ls 4 [(0, .ref ad), (1, .int co), (2, .int ro), (3, .int m9)] := hl
  obtain ⟨H, hHe⟩ : ∃ H : Heap, H = s.heap := ⟨_, rfl⟩
  obtain ⟨locs, hLe⟩ : ∃ L : List Loc, L = [] := ⟨_, rfl⟩
  have hP : va_P D vwCl ((wDp ad o pa ka (fx 0) (sx 0)) ++ ((wOf o (x 0) (y 0)) ++ (wFl x r cI cZ cQ w q d T st re rc (nI nz)))) H := by rw [hHe]; exact hP
  have hS : va_S A s.heap H locs := by rw [hHe, hLe]; exact hS
  refine W.eqHL hHe hLe ?_
  refine lv_aload_n hx hb dX7_addZone_0 rfl (lv_at hl 0 rfl) ?_
  refine lv_iload_n hx hb dX7_addZone_1 rfl (lv_at hl 1 rfl) ?_
  refine lv_iload_n hx hb dX7_addZone_2 rfl (lv_at hl 2 rfl) ?_
  refine rx_v (wr := (wOf o (x 0) (y 0)) ++ (wFl x r cI cZ cQ w q d T st re rc (nI nz))) (w_VX (As := [.int co, .int ro]) ⟨hx, hb, hml, hown, hts⟩ (c_X7_requireSquare l D cI cZ cQ cJ ad o pa ka fx sx co ro H.size (by first | assumption | omega)) (gV t2_53 t2_55 t0_2 t1_1 t2_56) rfl rfl hd_X7_requireSquare ⟨Nat.le_of_ble_eq_true rfl, Nat.le_of_ble_eq_true rfl⟩ (rx_pre hP hD hSt hDc hZ hS hA [0] rfl (by decide)) (va_recv hSt.1 hP (ci := 7) (q0 := 0) rfl rfl) rfl hl.1 (rest := []) rfl (Nat.le_of_ble_eq_true rfl) dX7_addZone_3 ⟨Nat.le_of_ble_eq_true rfl, Nat.le_of_ble_eq_true rfl⟩) hP hD hS hA [0] [1, 2, 3, 4, 5, 6, 7, 8, 9, 10, 11, 12, 13, 14, 15] rfl rfl (by decide) (by decide) (fun E9 ce9 q9 x9 H locs hx9 hP hD hS hc91 hc92 hc93 => ?_) (fun  u_1 H locs hw9 hP hD hS => ?_)
  · have hx9 : E9 = "java/lang/IndexOutOfBoundsException" ∧ ¬ inSq co ro := hx9
    have hP : va_P D vwCl (((wOf o (x 0) (y 0)) ++ (wFl x r cI cZ cQ w q d T st re rc (nI nz))) ++ (wDp ad o pa ka (fx 0) (sx 0))) H := hP
    have hD : va_D A (((wOf o (x 0) (y 0)) ++ (wFl x r cI cZ cQ w q d T st re rc (nI nz))) ++ (wDp ad o pa ka (fx 0) (sx 0))) := hD
    have hP9 : va_P D vwCl ((wDp ad o pa ka (fx 0) (sx 0)) ++ ((wOf o (x 0) (y 0)) ++ (wFl x r cI cZ cQ w q d T st re rc (nI nz)))) H := (hP.sub (ws' := (wDp ad o pa ka (fx 0) (sx 0)) ++ ((wOf o (x 0) (y 0)) ++ (wFl x r cI cZ cQ w q d T st re rc (nI nz)))) [15, 0, 1, 2, 3, 4, 5, 6, 7, 8, 9, 10, 11, 12, 13, 14] rfl)
    have hD9 : va_D A ((wDp ad o pa ka (fx 0) (sx 0)) ++ ((wOf o (x 0) (y 0)) ++ (wFl x r cI cZ cQ w q d T st re rc (nI nz)))) := (hD.sub (ws' := (wDp ad o pa ka (fx 0) (sx 0)) ++ ((wOf o (x 0) (y 0)) ++ (wFl x r cI cZ cQ w q d T st re rc (nI nz)))) [15, 0, 1, 2, 3, 4, 5, 6, 7, 8, 9, 10, 11, 12, 13, 14] (by decide) rfl)
    exact vx_widen (k := 3) (n := 18) (by omega) (by omega) (rx_on (u := ()) ht hlocks (Or.inl ⟨hx9.1, Or.inl ⟨hx9.2, rfl, rfl, rfl, rfl⟩⟩) hP9 hD9 hS hc91 hc92 hc93 (Nat.le_refl _) (Nat.le_refl _))
  · have f_2 := hw9
    have hsq : inSq co ro := f_2
    have hP : va_P D vwCl (((wOf o (x 0) (y 0)) ++ (wFl x r cI cZ cQ w q d T st re rc (nI nz))) ++ (wDp ad o pa ka (fx 0) (sx 0))) H := hP
    have hD : va_D A (((wOf o (x 0) (y 0)) ++ (wFl x r cI cZ cQ w q d T st re rc (nI nz))) ++ (wDp ad o pa ka (fx 0) (sx 0))) := hD
    obtain ⟨i0, j0, hi0, hj0, rfl, rfl⟩ := inSq_nat hsq
    have e9 : sqI (nI i0) (nI j0) = j0 * 8 + i0 := sqI_nat (by omega) (by omega)
    refine lv_aload_n hx hb dX7_addZone_6 rfl (lv_at hl 0 rfl) ?_
    refine lv_iload_n hx hb dX7_addZone_7 rfl (lv_at hl 3 rfl) ?_
    refine lv_iconst (v := nI 1) hx hb dX7_addZone_8 (by decide) ?_
    refine lv_bipush (v := nI 60) hx hb dX7_addZone_9 (by decide) ?_
    refine rx_v (wr := (wOf o (x 0) (y 0)) ++ (wFl x r cI cZ cQ w q d T st re rc (nI nz))) (w_VX (As := [.int m9, .int (nI 1), .int (nI 60)]) ⟨hx, hb, hml, hown, hts⟩ (c_X7_requireRange l D cI cZ cQ cJ ad o pa ka fx sx m9 1 60 H.size (by first | assumption | omega) (by first | assumption | omega) (by first | assumption | omega)) (gV t2_177 t2_179 t0_7 t1_1 t2_180) rfl rfl hd_X7_requireRange ⟨Nat.le_of_ble_eq_true rfl, Nat.le_of_ble_eq_true rfl⟩ (rx_pre hP hD hSt hDc hZ hS hA [15] rfl (by decide)) (va_recv hSt.1 hP (ci := 7) (q0 := 15) rfl rfl) rfl hl.1 (rest := []) rfl (Nat.le_of_ble_eq_true rfl) dX7_addZone_11 ⟨Nat.le_of_ble_eq_true rfl, Nat.le_of_ble_eq_true rfl⟩) hP hD hS hA [15] [0, 1, 2, 3, 4, 5, 6, 7, 8, 9, 10, 11, 12, 13, 14] rfl rfl (by decide) (by decide) (fun E9 ce9 q9 x9 H locs hx9 hP hD hS hc91 hc92 hc93 => ?_) (fun  u_3 H locs hw9 hP hD hS => ?_)
    · have hx9 : E9 = "java/lang/IllegalArgumentException" ∧ ¬ inR m9 1 60 := hx9
      have hP : va_P D vwCl (((wOf o (x 0) (y 0)) ++ (wFl x r cI cZ cQ w q d T st re rc (nI nz))) ++ (wDp ad o pa ka (fx 0) (sx 0))) H := hP
      have hD : va_D A (((wOf o (x 0) (y 0)) ++ (wFl x r cI cZ cQ w q d T st re rc (nI nz))) ++ (wDp ad o pa ka (fx 0) (sx 0))) := hD
      have hP9 : va_P D vwCl ((wDp ad o pa ka (fx 0) (sx 0)) ++ ((wOf o (x 0) (y 0)) ++ (wFl x r cI cZ cQ w q d T st re rc (nI nz)))) H := (hP.sub (ws' := (wDp ad o pa ka (fx 0) (sx 0)) ++ ((wOf o (x 0) (y 0)) ++ (wFl x r cI cZ cQ w q d T st re rc (nI nz)))) [15, 0, 1, 2, 3, 4, 5, 6, 7, 8, 9, 10, 11, 12, 13, 14] rfl)
      have hD9 : va_D A ((wDp ad o pa ka (fx 0) (sx 0)) ++ ((wOf o (x 0) (y 0)) ++ (wFl x r cI cZ cQ w q d T st re rc (nI nz)))) := (hD.sub (ws' := (wDp ad o pa ka (fx 0) (sx 0)) ++ ((wOf o (x 0) (y 0)) ++ (wFl x r cI cZ cQ w q d T st re rc (nI nz)))) [15, 0, 1, 2, 3, 4, 5, 6, 7, 8, 9, 10, 11, 12, 13, 14] (by decide) rfl)
      exact vx_widen (k := 3) (n := 18) (by omega) (by omega) (rx_on (u := ()) ht hlocks (Or.inr (Or.inl ⟨hx9.1, Or.inr (Or.inl ⟨hsq, hx9.2, rfl, rfl, rfl, rfl⟩)⟩)) hP9 hD9 hS hc91 hc92 hc93 (Nat.le_refl _) (Nat.le_refl _))
    · have f_4 := hw9
      have hr9 : inR m9 1 60 := f_4
      have hP : va_P D vwCl (((wOf o (x 0) (y 0)) ++ (wFl x r cI cZ cQ w q d T st re rc (nI nz))) ++ (wDp ad o pa ka (fx 0) (sx 0))) H := hP
      have hD : va_D A (((wOf o (x 0) (y 0)) ++ (wFl x r cI cZ cQ w q d T st re rc (nI nz))) ++ (wDp ad o pa ka (fx 0) (sx 0))) := hD
      refine lv_aload_n hx hb dX7_addZone_14 rfl (lv_at hl 0 rfl) ?_
      refine va_get (D := D) (ci := 7) (v := .ref o) (C := RX7) (T := TX7) (N := 5) hx hb hts tu_X7 hown hSt.1 hP 15 rfl rfl 0 (by decide) (hts _ t1_208) (fun _ h9 => h9) rfl dX7_addZone_15 ?_
      refine va_getN (D := D) (ci := 3) (v := .ref (x 0)) (C := RX3) (T := TX3) (N := 2) hx hb hts tu_X3 hown hSt.1 hP 0 rfl rfl 0 (by decide) (nf_7 hSt.2) (fun _ h9 => h9) rfl dX7_addZone_18 ?_
      refine va_getN (D := D) (ci := 1) (v := .int (nI nz)) (C := RX1) (T := TX1) (N := 8) hx hb hts tu_X1 hown hSt.1 hP 1 rfl rfl 7 (by decide) (nf_8 hSt.2) (fun _ h9 => h9) rfl dX7_addZone_21 ?_
      refine lv_bipush (v := nI 7) hx hb dX7_addZone_24 (by decide) ?_
      refine lv_icmp_lt (tgt := 39) hx hb dX7_addZone_26 (by decide) (fun c_5 => ?_) (fun c_5 => ?_)
      · have c_5 := z_lt (by omega) (by omega) c_5
        refine lv_aload_n hx hb dX7_addZone_39 rfl (lv_at hl 0 rfl) ?_
        refine va_get (D := D) (ci := 7) (v := .ref o) (C := RX7) (T := TX7) (N := 5) hx hb hts tu_X7 hown hSt.1 hP 15 rfl rfl 0 (by decide) (hts _ t1_208) (fun _ h9 => h9) rfl dX7_addZone_40 ?_
        refine va_getN (D := D) (ci := 3) (v := .ref (x 0)) (C := RX3) (T := TX3) (N := 2) hx hb hts tu_X3 hown hSt.1 hP 0 rfl rfl 0 (by decide) (nf_7 hSt.2) (fun _ h9 => h9) rfl dX7_addZone_43 ?_
        refine lv_iload_n hx hb dX7_addZone_46 rfl (lv_at hl 1 rfl) ?_
        refine lv_iload_n hx hb dX7_addZone_47 rfl (lv_at hl 2 rfl) ?_
        refine ro_V (As := [.int (nI i0), .int (nI j0)]) (rest := []) (v := w (j0 * 8 + i0)) ⟨hx, hb, hml, hown, hts⟩ (c_X1_hasWall l D cI cZ cQ cJ x r w q d T st re rc (nI nz) i0 j0 (by first | assumption | omega) (by first | assumption | omega) (by first | assumption | omega)) (gV t2_198 t2_199 t2_200 t1_3 t2_201) rfl rfl hd_X1_hasWall ⟨Nat.le_of_ble_eq_true rfl, Nat.le_of_ble_eq_true rfl⟩ (hP.sub (ws' := wFl x r cI cZ cQ w q d T st re rc (nI nz)) [1, 2, 3, 4, 5, 6, 7, 8, 9, 10, 11, 12, 13, 14] rfl) hSt (va_recv hSt.1 hP (ci := 1) (q0 := 1) rfl rfl) rfl hl.1 rfl (Nat.le_of_ble_eq_true rfl) dX7_addZone_48 (Nat.le_of_ble_eq_true rfl) (Nat.le_of_ble_eq_true rfl) ?_
        refine lv_if_ne (tgt := 69) hx hb dX7_addZone_51 (by decide) (fun c_6 => ?_) (fun c_6 => ?_)
        · have hP9 : va_P D vwCl ((wDp ad o pa ka (fx 0) (sx 0)) ++ ((wOf o (x 0) (y 0)) ++ (wFl x r cI cZ cQ w q d T st re rc (nI nz)))) H := (hP.sub (ws' := (wDp ad o pa ka (fx 0) (sx 0)) ++ ((wOf o (x 0) (y 0)) ++ (wFl x r cI cZ cQ w q d T st re rc (nI nz)))) [15, 0, 1, 2, 3, 4, 5, 6, 7, 8, 9, 10, 11, 12, 13, 14] rfl)
          have hD9 : va_D A ((wDp ad o pa ka (fx 0) (sx 0)) ++ ((wOf o (x 0) (y 0)) ++ (wFl x r cI cZ cQ w q d T st re rc (nI nz)))) := (hD.sub (ws' := (wDp ad o pa ka (fx 0) (sx 0)) ++ ((wOf o (x 0) (y 0)) ++ (wFl x r cI cZ cQ w q d T st re rc (nI nz)))) [15, 0, 1, 2, 3, 4, 5, 6, 7, 8, 9, 10, 11, 12, 13, 14] (by decide) rfl)
          exact tw_2 hx hb hfl hown hts hSt hDc hZ hS (hl.1.trans hml.symm) 4 rfl dX7_addZone_69 dX7_addZone_72 dX7_addZone_73 dX7_addZone_75 dX7_addZone_78 ht (Nat.le_of_ble_eq_true rfl) (Nat.le_of_ble_eq_true rfl) (Nat.le_of_ble_eq_true rfl) (Nat.le_of_ble_eq_true rfl) hlocks (rx_new (u := ()) (Or.inr (Or.inr ⟨rfl, Or.inr (Or.inr (Or.inl ⟨hsq, hr9, Or.inr (Or.inl (by rw [e9]; exact c_6)), rfl, rfl, rfl, rfl⟩))⟩)) hP9 hD9 hS) hS.2.2 (Nat.le_of_ble_eq_true rfl) (Nat.le_of_ble_eq_true rfl)
        · refine lv_aload_n hx hb dX7_addZone_54 rfl (lv_at hl 0 rfl) ?_
          refine va_get (D := D) (ci := 7) (v := .ref o) (C := RX7) (T := TX7) (N := 5) hx hb hts tu_X7 hown hSt.1 hP 15 rfl rfl 0 (by decide) (hts _ t1_208) (fun _ h9 => h9) rfl dX7_addZone_55 ?_
          refine va_getN (D := D) (ci := 3) (v := .ref (x 0)) (C := RX3) (T := TX3) (N := 2) hx hb hts tu_X3 hown hSt.1 hP 0 rfl rfl 0 (by decide) (nf_7 hSt.2) (fun _ h9 => h9) rfl dX7_addZone_58 ?_
          refine lv_iload_n hx hb dX7_addZone_61 rfl (lv_at hl 1 rfl) ?_
          refine lv_iload_n hx hb dX7_addZone_62 rfl (lv_at hl 2 rfl) ?_
          refine ro_V (As := [.int (nI i0), .int (nI j0)]) (rest := []) (v := bI (anyN (fun k => decide (q k = nI (j0 * 8 + i0))) nz = true)) ⟨hx, hb, hml, hown, hts⟩ (c_X1_hasZone l D cI cZ cQ cJ x r w q d T st re rc nz i0 j0 (by first | assumption | omega) (by first | assumption | omega) (by first | assumption | omega)) (gV t2_128 t2_129 t2_130 t1_3 t2_131) rfl rfl hd_X1_hasZone ⟨Nat.le_of_ble_eq_true rfl, Nat.le_of_ble_eq_true rfl⟩ (hP.sub (ws' := wFl x r cI cZ cQ w q d T st re rc (nI nz)) [1, 2, 3, 4, 5, 6, 7, 8, 9, 10, 11, 12, 13, 14] rfl) hSt (va_recv hSt.1 hP (ci := 1) (q0 := 1) rfl rfl) rfl hl.1 rfl (Nat.le_of_ble_eq_true rfl) dX7_addZone_63 (Nat.le_of_ble_eq_true rfl) (Nat.le_of_ble_eq_true rfl) ?_
          refine lv_if_eq (tgt := 79) hx hb dX7_addZone_66 (by decide) (fun c_7 => ?_) (fun c_7 => ?_)
          · have c_7 := bI_0.mp c_7
            refine lv_aload_n hx hb dX7_addZone_79 rfl (lv_at hl 0 rfl) ?_
            refine va_get (D := D) (ci := 7) (v := .ref o) (C := RX7) (T := TX7) (N := 5) hx hb hts tu_X7 hown hSt.1 hP 15 rfl rfl 0 (by decide) (hts _ t1_208) (fun _ h9 => h9) rfl dX7_addZone_80 ?_
            refine va_getN (D := D) (ci := 3) (v := .ref (x 0)) (C := RX3) (T := TX3) (N := 2) hx hb hts tu_X3 hown hSt.1 hP 0 rfl rfl 0 (by decide) (nf_7 hSt.2) (fun _ h9 => h9) rfl dX7_addZone_83 ?_
            refine lv_iload_n hx hb dX7_addZone_86 rfl (lv_at hl 1 rfl) ?_
            refine lv_iload_n hx hb dX7_addZone_87 rfl (lv_at hl 2 rfl) ?_
            refine lv_iload_n hx hb dX7_addZone_88 rfl (lv_at hl 3 rfl) ?_
            refine rw_i (wr := (wOf o (x 0) (y 0)) ++ (wDp ad o pa ka (fx 0) (sx 0))) (w_V (As := [.int (nI i0), .int (nI j0), .int m9]) ⟨hx, hb, hml, hown, hts⟩ (c_X1_openZone l D cI cZ cQ cJ x r w q d T st re rc sq nz i0 j0 m9 H.size (by first | assumption | omega) (by first | assumption | omega) (by omega) (by first | assumption | omega) c_6) (gV t2_203 t2_204 t2_205 t1_3 t2_206) rfl rfl hd_X1_openZone ⟨Nat.le_of_ble_eq_true rfl, Nat.le_of_ble_eq_true rfl⟩ (rw_pre hP hD hSt [1, 2, 3, 4, 5, 6, 7, 8, 9, 10, 11, 12, 13, 14] rfl (by decide)) (va_recv hSt.1 hP (ci := 1) (q0 := 1) rfl rfl) rfl hl.1 (rest := []) rfl (Nat.le_of_ble_eq_true rfl) dX7_addZone_89 ⟨Nat.le_of_ble_eq_true rfl, Nat.le_of_ble_eq_true rfl⟩) hP hD hS hA [1, 2, 3, 4, 5, 6, 7, 8, 9, 10, 11, 12, 13, 14] [0, 15] rfl rfl (by decide) (by decide) (fun r u_12 H locs hw9 hP hD hS => ?_)
            obtain ⟨j_8, j_9, j_10, j_11⟩ := u_12
            obtain ⟨rfl, f_13⟩ := hw9
            have hT2 : ∀ u v, u < nz + 1 → v < nz + 1 → isD w (updN sq nz (j0 * 8 + i0) u) (updN sq nz (j0 * 8 + i0) v) (j_8 u v) := f_13
            have hP : va_P D vwCl (((wOf o (x 0) (y 0)) ++ (wDp ad o pa ka (fx 0) (sx 0))) ++ (wFl x r cI cZ cQ w (upd q nz (nI (j0 * 8 + i0))) (upd d nz m9) j_8 j_9 j_10 j_11 (nI (nz + 1)))) H := hP
            have hD : va_D A (((wOf o (x 0) (y 0)) ++ (wDp ad o pa ka (fx 0) (sx 0))) ++ (wFl x r cI cZ cQ w (upd q nz (nI (j0 * 8 + i0))) (upd d nz m9) j_8 j_9 j_10 j_11 (nI (nz + 1)))) := hD
            have hP9 : va_P D vwCl ((wDp ad o pa ka (fx 0) (sx 0)) ++ ((wOf o (x 0) (y 0)) ++ (wFl x r cI cZ cQ w (upd q nz (nI (j0 * 8 + i0))) (upd d nz m9) j_8 j_9 j_10 j_11 (nI (nz + 1))))) H := (hP.sub (ws' := (wDp ad o pa ka (fx 0) (sx 0)) ++ ((wOf o (x 0) (y 0)) ++ (wFl x r cI cZ cQ w (upd q nz (nI (j0 * 8 + i0))) (upd d nz m9) j_8 j_9 j_10 j_11 (nI (nz + 1))))) [1, 0, 2, 3, 4, 5, 6, 7, 8, 9, 10, 11, 12, 13, 14, 15] rfl)
            have hD9 : va_D A ((wDp ad o pa ka (fx 0) (sx 0)) ++ ((wOf o (x 0) (y 0)) ++ (wFl x r cI cZ cQ w (upd q nz (nI (j0 * 8 + i0))) (upd d nz m9) j_8 j_9 j_10 j_11 (nI (nz + 1))))) := (hD.sub (ws' := (wDp ad o pa ka (fx 0) (sx 0)) ++ ((wOf o (x 0) (y 0)) ++ (wFl x r cI cZ cQ w (upd q nz (nI (j0 * 8 + i0))) (upd d nz m9) j_8 j_9 j_10 j_11 (nI (nz + 1))))) [1, 0, 2, 3, 4, 5, 6, 7, 8, 9, 10, 11, 12, 13, 14, 15] (by decide) rfl)
            have g_14 : sAddZone nz q d w (nI i0) (nI j0) m9 0 (nI nz) (nz + 1) (upd q nz (nI (j0 * 8 + i0))) (upd d nz m9) := Or.inr (Or.inr (Or.inr ⟨hsq, hr9, fun q9 => by rcases q9 with q9 | q9 | q9; exact absurd q9 (by omega); exact q9 (by rw [e9]; exact c_6); exact c_7 (by rw [e9] at q9; exact q9), rfl, rfl, rfl, by rw [e9], rfl⟩))
            have g_15 : ∀ u v, u < (nz + 1) → v < (nz + 1) → isD w ((updN sq nz (sqI (nI i0) (nI j0))) u) ((updN sq nz (sqI (nI i0) (nI j0))) v) (j_8 u v) := by rw [e9]; exact fun u v hu hv => hT2 u v hu hv
            refine W.widen (k := 3) (n := 18) (by omega) (by omega) ?_
            exact vx_ret (W.iret (v := nI nz) hx hb hr (fun t9 ht9 hW9 => ⟨⟨nI nz, (nI nz, upd q nz (nI (j0 * 8 + i0)), upd d nz m9, nz + 1, j_8, j_9, j_10, j_11), rfl, ⟨rfl, g_14, g_15⟩, by rw [ht9]; exact hP9, hD9⟩, hS.F ht9⟩) hS.2.2 dX7_addZone_92)
          · have c_7 := bI_n0.mp c_7
            have hP9 : va_P D vwCl ((wDp ad o pa ka (fx 0) (sx 0)) ++ ((wOf o (x 0) (y 0)) ++ (wFl x r cI cZ cQ w q d T st re rc (nI nz)))) H := (hP.sub (ws' := (wDp ad o pa ka (fx 0) (sx 0)) ++ ((wOf o (x 0) (y 0)) ++ (wFl x r cI cZ cQ w q d T st re rc (nI nz)))) [15, 0, 1, 2, 3, 4, 5, 6, 7, 8, 9, 10, 11, 12, 13, 14] rfl)
            have hD9 : va_D A ((wDp ad o pa ka (fx 0) (sx 0)) ++ ((wOf o (x 0) (y 0)) ++ (wFl x r cI cZ cQ w q d T st re rc (nI nz)))) := (hD.sub (ws' := (wDp ad o pa ka (fx 0) (sx 0)) ++ ((wOf o (x 0) (y 0)) ++ (wFl x r cI cZ cQ w q d T st re rc (nI nz)))) [15, 0, 1, 2, 3, 4, 5, 6, 7, 8, 9, 10, 11, 12, 13, 14] (by decide) rfl)
            exact tw_2 hx hb hfl hown hts hSt hDc hZ hS (hl.1.trans hml.symm) 4 rfl dX7_addZone_69 dX7_addZone_72 dX7_addZone_73 dX7_addZone_75 dX7_addZone_78 ht (Nat.le_of_ble_eq_true rfl) (Nat.le_of_ble_eq_true rfl) (Nat.le_of_ble_eq_true rfl) (Nat.le_of_ble_eq_true rfl) hlocks (rx_new (u := ()) (Or.inr (Or.inr ⟨rfl, Or.inr (Or.inr (Or.inl ⟨hsq, hr9, Or.inr (Or.inr (by rw [e9]; exact c_7)), rfl, rfl, rfl, rfl⟩))⟩)) hP9 hD9 hS) hS.2.2 (Nat.le_of_ble_eq_true rfl) (Nat.le_of_ble_eq_true rfl)
      · have c_5 := z_nlt (by omega) (by omega) c_5
        have hP9 : va_P D vwCl ((wDp ad o pa ka (fx 0) (sx 0)) ++ ((wOf o (x 0) (y 0)) ++ (wFl x r cI cZ cQ w q d T st re rc (nI nz)))) H := (hP.sub (ws' := (wDp ad o pa ka (fx 0) (sx 0)) ++ ((wOf o (x 0) (y 0)) ++ (wFl x r cI cZ cQ w q d T st re rc (nI nz)))) [15, 0, 1, 2, 3, 4, 5, 6, 7, 8, 9, 10, 11, 12, 13, 14] rfl)
        have hD9 : va_D A ((wDp ad o pa ka (fx 0) (sx 0)) ++ ((wOf o (x 0) (y 0)) ++ (wFl x r cI cZ cQ w q d T st re rc (nI nz)))) := (hD.sub (ws' := (wDp ad o pa ka (fx 0) (sx 0)) ++ ((wOf o (x 0) (y 0)) ++ (wFl x r cI cZ cQ w q d T st re rc (nI nz)))) [15, 0, 1, 2, 3, 4, 5, 6, 7, 8, 9, 10, 11, 12, 13, 14] (by decide) rfl)
        exact tw_2 hx hb hfl hown hts hSt hDc hZ hS (hl.1.trans hml.symm) 3 rfl dX7_addZone_29 dX7_addZone_32 dX7_addZone_33 dX7_addZone_35 dX7_addZone_38 ht (Nat.le_of_ble_eq_true rfl) (Nat.le_of_ble_eq_true rfl) (Nat.le_of_ble_eq_true rfl) (Nat.le_of_ble_eq_true rfl) hlocks (rx_new (u := ()) (Or.inr (Or.inr ⟨rfl, Or.inr (Or.inr (Or.inl ⟨hsq, hr9, Or.inl (by omega), rfl, rfl, rfl, rfl⟩))⟩)) hP9 hD9 hS) hS.2.2 (Nat.le_of_ble_eq_true rfl) (Nat.le_of_ble_eq_true rfl)
set_option maxHeartbeats 4000000 in
set_option maxRecDepth 100000 in
theorem c_X7_setDesks (l : Launch) (D : va_G) (cI cZ cQ cJ : ClassId) (ad : Nat) (o : Nat) (pa : Nat) (ka : Nat) (fx : Nat → Nat) (sx : Nat → Nat) (x : Nat → Nat) (r : Nat → Nat) (w : Nat → Int32) (q : Nat → Int32) (d : Nat → Int32) (T : Nat → Nat → Int32) (st : Nat → Int32) (re : Nat → Int32) (rc : Int32) (nz : Nat) (y : Nat → Nat) (rp : Nat → Nat) (rw : Nat → Nat) (rt : Nat → Nat) (P : Nat → Nat → Int32) (n : Nat → Int32) (Wi : Nat → Nat → Int32) (Ti : Nat → Nat → Int32) (nt : Nat) (pb : Nat) (zo : Nat → Int32) (z : Int32) (m9 : Int32) (sz : Nat) (hnz : nz ≤ 7) (hfl : l.stackTraces = false) : vx_Met l yX7_setDesks (.code yX7_setDesks cX7_setDesks 5 (some .int) :: ALL) ({ frames := 7, cells := 3, slots := 18, locals := 105 } : Room) (va_Pc [.ref ad, .int z, .int m9] (rx_P D cI cZ cQ cJ ((wDp ad o pa ka (fx 0) (sx 0)) ++ ((wOf o (x 0) (y 0)) ++ ((wFl x r cI cZ cQ w q d T st re rc (nI nz)) ++ ((wSt y rp rw rt cI cQ P n Wi Ti (nI nt)) ++ (wPl pa pb cI zo))))) sz)) (va_Qi (fun (r9 : Int32) (u9 : Int32 × (Nat → Int32)) => (r9 = u9.1) ∧ (sSetDesks nz d zo n z m9 0 u9.1 u9.2)) (rw_B D (va_A ((wDp ad o pa ka (fx 0) (sx 0)) ++ ((wOf o (x 0) (y 0)) ++ ((wFl x r cI cZ cQ w q d T st re rc (nI nz)) ++ ((wSt y rp rw rt cI cQ P n Wi Ti (nI nt)) ++ (wPl pa pb cI zo))))) sz) (fun u9 : Int32 × (Nat → Int32) => (wDp ad o pa ka (fx 0) (sx 0)) ++ ((wOf o (x 0) (y 0)) ++ ((wFl x r cI cZ cQ w q u9.2 T st re rc (nI nz)) ++ ((wSt y rp rw rt cI cQ P n Wi Ti (nI nt)) ++ (wPl pa pb cI zo)))))) (va_A ((wDp ad o pa ka (fx 0) (sx 0)) ++ ((wOf o (x 0) (y 0)) ++ ((wFl x r cI cZ cQ w q d T st re rc (nI nz)) ++ ((wSt y rp rw rt cI cQ P n Wi Ti (nI nt)) ++ (wPl pa pb cI zo))))) sz)) (rx_X (fun (E9 : String) (x9 : Unit) => (E9 = "java/lang/IndexOutOfBoundsException" ∧ sSetDesks nz d zo n z m9 1 0 d) ∨ (E9 = "java/lang/IllegalArgumentException" ∧ sSetDesks nz d zo n z m9 2 0 d) ∨ (E9 = "java/lang/IllegalStateException" ∧ sSetDesks nz d zo n z m9 3 0 d)) D (va_A ((wDp ad o pa ka (fx 0) (sx 0)) ++ ((wOf o (x 0) (y 0)) ++ ((wFl x r cI cZ cQ w q d T st re rc (nI nz)) ++ ((wSt y rp rw rt cI cQ P n Wi Ti (nI nt)) ++ (wPl pa pb cI zo))))) sz) (fun x9 : Unit => (wDp ad o pa ka (fx 0) (sx 0)) ++ ((wOf o (x 0) (y 0)) ++ ((wFl x r cI cZ cQ w q d T st re rc (nI nz)) ++ ((wSt y rp rw rt cI cQ P n Wi Ti (nI nt)) ++ (wPl pa pb cI zo)))))) 3 18 (va_A ((wDp ad o pa ka (fx 0) (sx 0)) ++ ((wOf o (x 0) (y 0)) ++ ((wFl x r cI cZ cQ w q d T st re rc (nI nz)) ++ ((wSt y rp rw rt cI cQ P n Wi Ti (nI nt)) ++ (wPl pa pb cI zo))))) sz) := by
  refine vx_ofW (cc := cX7_setDesks) (maxL := 5) (ret := (some .int)) (by decide) rfl ?_
  intro p e s m args below meth c s₁ B hml ht hv
  obtain ⟨rfl, ⟨hsz, hP, hSt, hD0⟩, hDc, hZ⟩ := hv
  change W p l e ({ frames := 7, cells := 3, slots := 18, locals := 105 } : Room) s m _ below meth c s.heap [] 0 0 _ _
  have hx := B.exec
  have hb := B.bytes
  have hr := B.returns
  have hts : ∀ w ∈ ALL, w.before ([.ref ad, .int z, .int m9] : List Value).toArray s = true := fun w h => atoms_spec (ws := (.code yX7_setDesks cX7_setDesks 5 (some .int) :: ALL)) B.pre w (List.mem_cons_of_mem _ h)
  have hown : s.vm.findClass RX7 = some m.cls := findClass_of_methodNamed B.named
  have hlocks := B.notSynchronized
  subst hsz
  have hD := hD0.self (sz := s.heap.size)
  clear hD0
  generalize hAe : va_A ((wDp ad o pa ka (fx 0) (sx 0)) ++ ((wOf o (x 0) (y 0)) ++ ((wFl x r cI cZ cQ w q d T st re rc (nI nz)) ++ ((wSt y rp rw rt cI cQ P n Wi Ti (nI nt)) ++ (wPl pa pb cI zo))))) s.heap.size = A at hD hZ ⊢
  have hA : ∀ q : Nat, s.heap.size ≤ q → A q := fun q h => by rw [← hAe]; exact Or.inr h
  have hS : va_S A s.heap s.heap [] := va_S.rf
  have hl := lv_entry ([.ref ad, .int z, .int m9]) (n := 5) (Nat.le_of_ble_eq_true rfl)
  rw [lg_entry_eq]
  generalize (lg_sl ([.ref ad, .int z, .int m9]) ++ List.replicate (5 - (lg_sl ([.ref ad, .int z, .int m9])).length) Slot.unset).toArray = ls at hl ⊢
  have hl : lv_has ls 5 [(0, .ref ad), (1, .int z), (2, .int m9)] := hl
  obtain ⟨H, hHe⟩ : ∃ H : Heap, H = s.heap := ⟨_, rfl⟩
  obtain ⟨locs, hLe⟩ : ∃ L : List Loc, L = [] := ⟨_, rfl⟩
  have hP : va_P D vwCl ((wDp ad o pa ka (fx 0) (sx 0)) ++ ((wOf o (x 0) (y 0)) ++ ((wFl x r cI cZ cQ w q d T st re rc (nI nz)) ++ ((wSt y rp rw rt cI cQ P n Wi Ti (nI nt)) ++ (wPl pa pb cI zo))))) H := by rw [hHe]; exact hP
  have hS : va_S A s.heap H locs := by rw [hHe, hLe]; exact hS
  refine W.eqHL hHe hLe ?_
  refine lv_aload_n hx hb dX7_setDesks_0 rfl (lv_at hl 0 rfl) ?_
  refine lv_iload_n hx hb dX7_setDesks_1 rfl (lv_at hl 1 rfl) ?_
  refine rx_v (wr := (wSt y rp rw rt cI cQ P n Wi Ti (nI nt)) ++ (wPl pa pb cI zo)) (w_VX (As := [.int z]) ⟨hx, hb, hml, hown, hts⟩ (c_X7_requireZone l D cI cZ cQ cJ ad o pa ka fx sx x r w q d T st re rc nz y z H.size (by first | assumption | omega) (by first | assumption | omega)) (gV t2_214 t2_216 t0_8 t1_1 t2_217) rfl rfl hd_X7_requireZone ⟨Nat.le_of_ble_eq_true rfl, Nat.le_of_ble_eq_true rfl⟩ (rx_pre hP hD hSt hDc hZ hS hA [0, 1, 2, 3, 4, 5, 6, 7, 8, 9, 10, 11, 12, 13, 14, 15] rfl (by decide)) (va_recv hSt.1 hP (ci := 7) (q0 := 0) rfl rfl) rfl hl.1 (rest := []) rfl (Nat.le_of_ble_eq_true rfl) dX7_setDesks_2 ⟨Nat.le_of_ble_eq_true rfl, Nat.le_of_ble_eq_true rfl⟩) hP hD hS hA [0, 1, 2, 3, 4, 5, 6, 7, 8, 9, 10, 11, 12, 13, 14, 15] [16, 17, 18, 19, 20, 21, 22, 23, 24, 25, 26, 27, 28, 29, 30, 31, 32, 33, 34, 35, 36, 37, 38, 39, 40, 41, 42, 43] rfl rfl (by decide) (by decide) (fun E9 ce9 q9 x9 H locs hx9 hP hD hS hc91 hc92 hc93 => ?_) (fun  u_1 H locs hw9 hP hD hS => ?_)
  · have hx9 : E9 = "java/lang/IndexOutOfBoundsException" ∧ ¬ inN z nz := hx9
    have hP : va_P D vwCl (((wSt y rp rw rt cI cQ P n Wi Ti (nI nt)) ++ (wPl pa pb cI zo)) ++ ((wDp ad o pa ka (fx 0) (sx 0)) ++ ((wOf o (x 0) (y 0)) ++ (wFl x r cI cZ cQ w q d T st re rc (nI nz))))) H := hP
    have hD : va_D A (((wSt y rp rw rt cI cQ P n Wi Ti (nI nt)) ++ (wPl pa pb cI zo)) ++ ((wDp ad o pa ka (fx 0) (sx 0)) ++ ((wOf o (x 0) (y 0)) ++ (wFl x r cI cZ cQ w q d T st re rc (nI nz))))) := hD
    have hP9 : va_P D vwCl ((wDp ad o pa ka (fx 0) (sx 0)) ++ ((wOf o (x 0) (y 0)) ++ ((wFl x r cI cZ cQ w q d T st re rc (nI nz)) ++ ((wSt y rp rw rt cI cQ P n Wi Ti (nI nt)) ++ (wPl pa pb cI zo))))) H := (hP.sub (ws' := (wDp ad o pa ka (fx 0) (sx 0)) ++ ((wOf o (x 0) (y 0)) ++ ((wFl x r cI cZ cQ w q d T st re rc (nI nz)) ++ ((wSt y rp rw rt cI cQ P n Wi Ti (nI nt)) ++ (wPl pa pb cI zo))))) [28, 29, 30, 31, 32, 33, 34, 35, 36, 37, 38, 39, 40, 41, 42, 43, 0, 1, 2, 3, 4, 5, 6, 7, 8, 9, 10, 11, 12, 13, 14, 15, 16, 17, 18, 19, 20, 21, 22, 23, 24, 25, 26, 27] rfl)
    have hD9 : va_D A ((wDp ad o pa ka (fx 0) (sx 0)) ++ ((wOf o (x 0) (y 0)) ++ ((wFl x r cI cZ cQ w q d T st re rc (nI nz)) ++ ((wSt y rp rw rt cI cQ P n Wi Ti (nI nt)) ++ (wPl pa pb cI zo))))) := (hD.sub (ws' := (wDp ad o pa ka (fx 0) (sx 0)) ++ ((wOf o (x 0) (y 0)) ++ ((wFl x r cI cZ cQ w q d T st re rc (nI nz)) ++ ((wSt y rp rw rt cI cQ P n Wi Ti (nI nt)) ++ (wPl pa pb cI zo))))) [28, 29, 30, 31, 32, 33, 34, 35, 36, 37, 38, 39, 40, 41, 42, 43, 0, 1, 2, 3, 4, 5, 6, 7, 8, 9, 10, 11, 12, 13, 14, 15, 16, 17, 18, 19, 20, 21, 22, 23, 24, 25, 26, 27] (by decide) rfl)
    exact vx_widen (k := 3) (n := 18) (by omega) (by omega) (rx_on (u := ()) ht hlocks (Or.inl ⟨hx9.1, Or.inl ⟨hx9.2, rfl, rfl⟩⟩) hP9 hD9 hS hc91 hc92 hc93 (Nat.le_refl _) (Nat.le_refl _))
  · have f_2 := hw9
    have hin : inN z nz := f_2
    have hP : va_P D vwCl (((wSt y rp rw rt cI cQ P n Wi Ti (nI nt)) ++ (wPl pa pb cI zo)) ++ ((wDp ad o pa ka (fx 0) (sx 0)) ++ ((wOf o (x 0) (y 0)) ++ (wFl x r cI cZ cQ w q d T st re rc (nI nz))))) H := hP
    have hD : va_D A (((wSt y rp rw rt cI cQ P n Wi Ti (nI nt)) ++ (wPl pa pb cI zo)) ++ ((wDp ad o pa ka (fx 0) (sx 0)) ++ ((wOf o (x 0) (y 0)) ++ (wFl x r cI cZ cQ w q d T st re rc (nI nz))))) := hD
    obtain ⟨zz, h_zz, rfl⟩ := hin
    refine lv_aload_n hx hb dX7_setDesks_5 rfl (lv_at hl 0 rfl) ?_
    refine lv_iload_n hx hb dX7_setDesks_6 rfl (lv_at hl 2 rfl) ?_
    refine lv_iconst (v := nI 1) hx hb dX7_setDesks_7 (by decide) ?_
    refine lv_bipush (v := nI 60) hx hb dX7_setDesks_8 (by decide) ?_
    refine rx_v (wr := (wSt y rp rw rt cI cQ P n Wi Ti (nI nt)) ++ ((wPl pa pb cI zo) ++ ((wOf o (x 0) (y 0)) ++ (wFl x r cI cZ cQ w q d T st re rc (nI nz))))) (w_VX (As := [.int m9, .int (nI 1), .int (nI 60)]) ⟨hx, hb, hml, hown, hts⟩ (c_X7_requireRange l D cI cZ cQ cJ ad o pa ka fx sx m9 1 60 H.size (by first | assumption | omega) (by first | assumption | omega) (by first | assumption | omega)) (gV t2_177 t2_179 t0_7 t1_1 t2_180) rfl rfl hd_X7_requireRange ⟨Nat.le_of_ble_eq_true rfl, Nat.le_of_ble_eq_true rfl⟩ (rx_pre hP hD hSt hDc hZ hS hA [28] rfl (by decide)) (va_recv hSt.1 hP (ci := 7) (q0 := 28) rfl rfl) rfl hl.1 (rest := []) rfl (Nat.le_of_ble_eq_true rfl) dX7_setDesks_10 ⟨Nat.le_of_ble_eq_true rfl, Nat.le_of_ble_eq_true rfl⟩) hP hD hS hA [28] [0, 1, 2, 3, 4, 5, 6, 7, 8, 9, 10, 11, 12, 13, 14, 15, 16, 17, 18, 19, 20, 21, 22, 23, 24, 25, 26, 27, 29, 30, 31, 32, 33, 34, 35, 36, 37, 38, 39, 40, 41, 42, 43] rfl rfl (by decide) (by decide) (fun E9 ce9 q9 x9 H locs hx9 hP hD hS hc91 hc92 hc93 => ?_) (fun  u_3 H locs hw9 hP hD hS => ?_)
    · have hx9 : E9 = "java/lang/IllegalArgumentException" ∧ ¬ inR m9 1 60 := hx9
      have hP : va_P D vwCl (((wSt y rp rw rt cI cQ P n Wi Ti (nI nt)) ++ ((wPl pa pb cI zo) ++ ((wOf o (x 0) (y 0)) ++ (wFl x r cI cZ cQ w q d T st re rc (nI nz))))) ++ (wDp ad o pa ka (fx 0) (sx 0))) H := hP
      have hD : va_D A (((wSt y rp rw rt cI cQ P n Wi Ti (nI nt)) ++ ((wPl pa pb cI zo) ++ ((wOf o (x 0) (y 0)) ++ (wFl x r cI cZ cQ w q d T st re rc (nI nz))))) ++ (wDp ad o pa ka (fx 0) (sx 0))) := hD
      have hP9 : va_P D vwCl ((wDp ad o pa ka (fx 0) (sx 0)) ++ ((wOf o (x 0) (y 0)) ++ ((wFl x r cI cZ cQ w q d T st re rc (nI nz)) ++ ((wSt y rp rw rt cI cQ P n Wi Ti (nI nt)) ++ (wPl pa pb cI zo))))) H := (hP.sub (ws' := (wDp ad o pa ka (fx 0) (sx 0)) ++ ((wOf o (x 0) (y 0)) ++ ((wFl x r cI cZ cQ w q d T st re rc (nI nz)) ++ ((wSt y rp rw rt cI cQ P n Wi Ti (nI nt)) ++ (wPl pa pb cI zo))))) [43, 28, 29, 30, 31, 32, 33, 34, 35, 36, 37, 38, 39, 40, 41, 42, 0, 1, 2, 3, 4, 5, 6, 7, 8, 9, 10, 11, 12, 13, 14, 15, 16, 17, 18, 19, 20, 21, 22, 23, 24, 25, 26, 27] rfl)
      have hD9 : va_D A ((wDp ad o pa ka (fx 0) (sx 0)) ++ ((wOf o (x 0) (y 0)) ++ ((wFl x r cI cZ cQ w q d T st re rc (nI nz)) ++ ((wSt y rp rw rt cI cQ P n Wi Ti (nI nt)) ++ (wPl pa pb cI zo))))) := (hD.sub (ws' := (wDp ad o pa ka (fx 0) (sx 0)) ++ ((wOf o (x 0) (y 0)) ++ ((wFl x r cI cZ cQ w q d T st re rc (nI nz)) ++ ((wSt y rp rw rt cI cQ P n Wi Ti (nI nt)) ++ (wPl pa pb cI zo))))) [43, 28, 29, 30, 31, 32, 33, 34, 35, 36, 37, 38, 39, 40, 41, 42, 0, 1, 2, 3, 4, 5, 6, 7, 8, 9, 10, 11, 12, 13, 14, 15, 16, 17, 18, 19, 20, 21, 22, 23, 24, 25, 26, 27] (by decide) rfl)
      exact vx_widen (k := 3) (n := 18) (by omega) (by omega) (rx_on (u := ()) ht hlocks (Or.inr (Or.inl ⟨hx9.1, Or.inr (Or.inl ⟨⟨zz, h_zz, rfl⟩, hx9.2, rfl, rfl⟩)⟩)) hP9 hD9 hS hc91 hc92 hc93 (Nat.le_refl _) (Nat.le_refl _))
    · have f_4 := hw9
      have hr9 : inR m9 1 60 := f_4
      have hP : va_P D vwCl (((wSt y rp rw rt cI cQ P n Wi Ti (nI nt)) ++ ((wPl pa pb cI zo) ++ ((wOf o (x 0) (y 0)) ++ (wFl x r cI cZ cQ w q d T st re rc (nI nz))))) ++ (wDp ad o pa ka (fx 0) (sx 0))) H := hP
      have hD : va_D A (((wSt y rp rw rt cI cQ P n Wi Ti (nI nt)) ++ ((wPl pa pb cI zo) ++ ((wOf o (x 0) (y 0)) ++ (wFl x r cI cZ cQ w q d T st re rc (nI nz))))) ++ (wDp ad o pa ka (fx 0) (sx 0))) := hD
      refine lv_aload_n hx hb dX7_setDesks_13 rfl (lv_at hl 0 rfl) ?_
      refine va_get (D := D) (ci := 7) (v := .ref pa) (C := RX7) (T := TX7) (N := 5) hx hb hts tu_X7 hown hSt.1 hP 43 rfl rfl 1 (by decide) (hts _ t1_209) (fun _ h9 => h9) rfl dX7_setDesks_14 ?_
      refine lv_iload_n hx hb dX7_setDesks_17 rfl (lv_at hl 1 rfl) ?_
      refine ro_V (As := [.int (nI zz)]) (rest := []) (v := tAt zo (nI zz)) ⟨hx, hb, hml, hown, hts⟩ (c_X4_teamAt l D cI cZ cQ cJ pa pb zo (nI zz)) (gV t2_219 t2_220 t2_221 t1_5 t2_222) rfl rfl hd_X4_teamAt ⟨Nat.le_of_ble_eq_true rfl, Nat.le_of_ble_eq_true rfl⟩ (hP.sub (ws' := wPl pa pb cI zo) [26, 27] rfl) hSt (va_recv hSt.1 hP (ci := 4) (q0 := 26) rfl rfl) rfl hl.1 rfl (Nat.le_of_ble_eq_true rfl) dX7_setDesks_18 (Nat.le_of_ble_eq_true rfl) (Nat.le_of_ble_eq_true rfl) ?_
      refine lv_istore_n (lv' := [(3, .int (tAt zo (nI zz))), (0, .ref ad), (1, .int (nI zz)), (2, .int m9)]) hx hb dX7_setDesks_21 rfl hl (by decide) rfl (fun ls hl => ?_)
      refine lv_iload_n hx hb dX7_setDesks_22 rfl (lv_at hl 0 rfl) ?_
      refine lv_iconst (v := (-1 : Int32)) hx hb dX7_setDesks_23 (by decide) ?_
      refine lv_icmp_eq (tgt := 53) hx hb dX7_setDesks_24 (by decide) (fun c_5 => ?_) (fun c_5 => ?_)
      · refine lv_aload_n hx hb dX7_setDesks_53 rfl (lv_at hl 1 rfl) ?_
        refine va_get (D := D) (ci := 7) (v := .ref o) (C := RX7) (T := TX7) (N := 5) hx hb hts tu_X7 hown hSt.1 hP 43 rfl rfl 0 (by decide) (hts _ t1_208) (fun _ h9 => h9) rfl dX7_setDesks_54 ?_
        refine va_getN (D := D) (ci := 3) (v := .ref (x 0)) (C := RX3) (T := TX3) (N := 2) hx hb hts tu_X3 hown hSt.1 hP 28 rfl rfl 0 (by decide) (nf_7 hSt.2) (fun _ h9 => h9) rfl dX7_setDesks_57 ?_
        refine va_getN (D := D) (ci := 1) (v := .ref (x 3)) (C := RX1) (T := TX1) (N := 8) hx hb hts tu_X1 hown hSt.1 hP 29 rfl rfl 2 (by decide) (nf_0 hSt.2) (fun _ h9 => h9) rfl dX7_setDesks_60 ?_
        refine lv_iload_n hx hb dX7_setDesks_63 rfl (lv_at hl 2 rfl) ?_
        refine r_iald hx hb hSt.1 hP 32 0 rfl rfl (k := zz) (by omega) (by omega) dX7_setDesks_64 ?_
        refine lv_istore (lv' := [(4, .int (d zz)), (3, .int (tAt zo (nI zz))), (0, .ref ad), (1, .int (nI zz)), (2, .int m9)]) hx hb dX7_setDesks_65 hl (by decide) rfl (fun ls hl => ?_)
        refine lv_aload_n hx hb dX7_setDesks_67 rfl (lv_at hl 2 rfl) ?_
        refine va_get (D := D) (ci := 7) (v := .ref o) (C := RX7) (T := TX7) (N := 5) hx hb hts tu_X7 hown hSt.1 hP 43 rfl rfl 0 (by decide) (hts _ t1_208) (fun _ h9 => h9) rfl dX7_setDesks_68 ?_
        refine va_getN (D := D) (ci := 3) (v := .ref (x 0)) (C := RX3) (T := TX3) (N := 2) hx hb hts tu_X3 hown hSt.1 hP 28 rfl rfl 0 (by decide) (nf_7 hSt.2) (fun _ h9 => h9) rfl dX7_setDesks_71 ?_
        refine va_getN (D := D) (ci := 1) (v := .ref (x 3)) (C := RX1) (T := TX1) (N := 8) hx hb hts tu_X1 hown hSt.1 hP 29 rfl rfl 2 (by decide) (nf_0 hSt.2) (fun _ h9 => h9) rfl dX7_setDesks_74 ?_
        refine lv_iload_n hx hb dX7_setDesks_77 rfl (lv_at hl 3 rfl) ?_
        refine lv_iload_n hx hb dX7_setDesks_78 rfl (lv_at hl 4 rfl) ?_
        refine r_iast hx hb hSt.1 hP hD hS 32 0 rfl rfl (k := zz) (by omega) (by omega) dX7_setDesks_79 (fun H locs hP hD hS => ?_)
        have hP : va_P D vwCl (((wSt y rp rw rt cI cQ P n Wi Ti (nI nt)) ++ ((wPl pa pb cI zo) ++ ((wOf o (x 0) (y 0)) ++ (wFl x r cI cZ cQ w q (upd d zz m9) T st re rc (nI nz))))) ++ (wDp ad o pa ka (fx 0) (sx 0))) H := hP
        have hD : va_D A (((wSt y rp rw rt cI cQ P n Wi Ti (nI nt)) ++ ((wPl pa pb cI zo) ++ ((wOf o (x 0) (y 0)) ++ (wFl x r cI cZ cQ w q (upd d zz m9) T st re rc (nI nz))))) ++ (wDp ad o pa ka (fx 0) (sx 0))) := hD
        refine lv_iload hx hb dX7_setDesks_80 (lv_at hl 0 rfl) ?_
        have hP9 : va_P D vwCl ((wDp ad o pa ka (fx 0) (sx 0)) ++ ((wOf o (x 0) (y 0)) ++ ((wFl x r cI cZ cQ w q (upd d zz m9) T st re rc (nI nz)) ++ ((wSt y rp rw rt cI cQ P n Wi Ti (nI nt)) ++ (wPl pa pb cI zo))))) H := (hP.sub (ws' := (wDp ad o pa ka (fx 0) (sx 0)) ++ ((wOf o (x 0) (y 0)) ++ ((wFl x r cI cZ cQ w q (upd d zz m9) T st re rc (nI nz)) ++ ((wSt y rp rw rt cI cQ P n Wi Ti (nI nt)) ++ (wPl pa pb cI zo))))) [43, 28, 29, 30, 31, 32, 33, 34, 35, 36, 37, 38, 39, 40, 41, 42, 0, 1, 2, 3, 4, 5, 6, 7, 8, 9, 10, 11, 12, 13, 14, 15, 16, 17, 18, 19, 20, 21, 22, 23, 24, 25, 26, 27] rfl)
        have hD9 : va_D A ((wDp ad o pa ka (fx 0) (sx 0)) ++ ((wOf o (x 0) (y 0)) ++ ((wFl x r cI cZ cQ w q (upd d zz m9) T st re rc (nI nz)) ++ ((wSt y rp rw rt cI cQ P n Wi Ti (nI nt)) ++ (wPl pa pb cI zo))))) := (hD.sub (ws' := (wDp ad o pa ka (fx 0) (sx 0)) ++ ((wOf o (x 0) (y 0)) ++ ((wFl x r cI cZ cQ w q (upd d zz m9) T st re rc (nI nz)) ++ ((wSt y rp rw rt cI cQ P n Wi Ti (nI nt)) ++ (wPl pa pb cI zo))))) [43, 28, 29, 30, 31, 32, 33, 34, 35, 36, 37, 38, 39, 40, 41, 42, 0, 1, 2, 3, 4, 5, 6, 7, 8, 9, 10, 11, 12, 13, 14, 15, 16, 17, 18, 19, 20, 21, 22, 23, 24, 25, 26, 27] (by decide) rfl)
        have g_6 : sSetDesks nz d zo n (nI zz) m9 0 (d zz) (upd d zz m9) := Or.inr (Or.inr (Or.inr ⟨⟨zz, h_zz, rfl⟩, hr9, fun ⟨t8, h8, e8, _⟩ => z_m1 (a := t8) (by omega) (e8.symm.trans c_5), rfl, by rw [nIc (by omega)], by rw [nIc (by omega)]⟩))
        refine W.widen (k := 3) (n := 18) (by omega) (by omega) ?_
        exact vx_ret (W.iret (v := d zz) hx hb hr (fun t9 ht9 hW9 => ⟨⟨d zz, (d zz, upd d zz m9), rfl, ⟨rfl, g_6⟩, by rw [ht9]; exact hP9, hD9⟩, hS.F ht9⟩) hS.2.2 dX7_setDesks_82)
      · obtain ⟨t9, ht9, et9, -⟩ := tAt_some c_5
        refine lv_aload_n hx hb dX7_setDesks_27 rfl (lv_at hl 1 rfl) ?_
        refine va_get (D := D) (ci := 7) (v := .ref o) (C := RX7) (T := TX7) (N := 5) hx hb hts tu_X7 hown hSt.1 hP 43 rfl rfl 0 (by decide) (hts _ t1_208) (fun _ h9 => h9) rfl dX7_setDesks_28 ?_
        refine va_getN (D := D) (ci := 3) (v := .ref (y 0)) (C := RX3) (T := TX3) (N := 2) hx hb hts tu_X3 hown hSt.1 hP 28 rfl rfl 1 (by decide) (nf_9 hSt.2) (fun _ h9 => h9) rfl dX7_setDesks_31 ?_
        refine va_getN (D := D) (ci := 5) (v := .ref (y 2)) (C := RX5) (T := TX5) (N := 5) hx hb hts tu_X5 hown hSt.1 hP 0 rfl rfl 1 (by decide) (nf_10 hSt.2) (fun _ h9 => h9) rfl dX7_setDesks_34 ?_
        refine lv_iload_n hx hb dX7_setDesks_37 rfl (lv_at hl 0 rfl) ?_
        refine lv_as (y := nI t9) (et9) ?_
        refine r_iald hx hb hSt.1 hP 2 0 rfl rfl (k := t9) (by omega) (by omega) dX7_setDesks_38 ?_
        refine lv_iload_n hx hb dX7_setDesks_39 rfl (lv_at hl 3 rfl) ?_
        refine lv_icmp_le (tgt := 53) hx hb dX7_setDesks_40 (by decide) (fun c_7 => ?_) (fun c_7 => ?_)
        · refine lv_aload_n hx hb dX7_setDesks_53 rfl (lv_at hl 1 rfl) ?_
          refine va_get (D := D) (ci := 7) (v := .ref o) (C := RX7) (T := TX7) (N := 5) hx hb hts tu_X7 hown hSt.1 hP 43 rfl rfl 0 (by decide) (hts _ t1_208) (fun _ h9 => h9) rfl dX7_setDesks_54 ?_
          refine va_getN (D := D) (ci := 3) (v := .ref (x 0)) (C := RX3) (T := TX3) (N := 2) hx hb hts tu_X3 hown hSt.1 hP 28 rfl rfl 0 (by decide) (nf_7 hSt.2) (fun _ h9 => h9) rfl dX7_setDesks_57 ?_
          refine va_getN (D := D) (ci := 1) (v := .ref (x 3)) (C := RX1) (T := TX1) (N := 8) hx hb hts tu_X1 hown hSt.1 hP 29 rfl rfl 2 (by decide) (nf_0 hSt.2) (fun _ h9 => h9) rfl dX7_setDesks_60 ?_
          refine lv_iload_n hx hb dX7_setDesks_63 rfl (lv_at hl 2 rfl) ?_
          refine r_iald hx hb hSt.1 hP 32 0 rfl rfl (k := zz) (by omega) (by omega) dX7_setDesks_64 ?_
          refine lv_istore (lv' := [(4, .int (d zz)), (3, .int (tAt zo (nI zz))), (0, .ref ad), (1, .int (nI zz)), (2, .int m9)]) hx hb dX7_setDesks_65 hl (by decide) rfl (fun ls hl => ?_)
          refine lv_aload_n hx hb dX7_setDesks_67 rfl (lv_at hl 2 rfl) ?_
          refine va_get (D := D) (ci := 7) (v := .ref o) (C := RX7) (T := TX7) (N := 5) hx hb hts tu_X7 hown hSt.1 hP 43 rfl rfl 0 (by decide) (hts _ t1_208) (fun _ h9 => h9) rfl dX7_setDesks_68 ?_
          refine va_getN (D := D) (ci := 3) (v := .ref (x 0)) (C := RX3) (T := TX3) (N := 2) hx hb hts tu_X3 hown hSt.1 hP 28 rfl rfl 0 (by decide) (nf_7 hSt.2) (fun _ h9 => h9) rfl dX7_setDesks_71 ?_
          refine va_getN (D := D) (ci := 1) (v := .ref (x 3)) (C := RX1) (T := TX1) (N := 8) hx hb hts tu_X1 hown hSt.1 hP 29 rfl rfl 2 (by decide) (nf_0 hSt.2) (fun _ h9 => h9) rfl dX7_setDesks_74 ?_
          refine lv_iload_n hx hb dX7_setDesks_77 rfl (lv_at hl 3 rfl) ?_
          refine lv_iload_n hx hb dX7_setDesks_78 rfl (lv_at hl 4 rfl) ?_
          refine r_iast hx hb hSt.1 hP hD hS 32 0 rfl rfl (k := zz) (by omega) (by omega) dX7_setDesks_79 (fun H locs hP hD hS => ?_)
          have hP : va_P D vwCl (((wSt y rp rw rt cI cQ P n Wi Ti (nI nt)) ++ ((wPl pa pb cI zo) ++ ((wOf o (x 0) (y 0)) ++ (wFl x r cI cZ cQ w q (upd d zz m9) T st re rc (nI nz))))) ++ (wDp ad o pa ka (fx 0) (sx 0))) H := hP
          have hD : va_D A (((wSt y rp rw rt cI cQ P n Wi Ti (nI nt)) ++ ((wPl pa pb cI zo) ++ ((wOf o (x 0) (y 0)) ++ (wFl x r cI cZ cQ w q (upd d zz m9) T st re rc (nI nz))))) ++ (wDp ad o pa ka (fx 0) (sx 0))) := hD
          refine lv_iload hx hb dX7_setDesks_80 (lv_at hl 0 rfl) ?_
          have hP9 : va_P D vwCl ((wDp ad o pa ka (fx 0) (sx 0)) ++ ((wOf o (x 0) (y 0)) ++ ((wFl x r cI cZ cQ w q (upd d zz m9) T st re rc (nI nz)) ++ ((wSt y rp rw rt cI cQ P n Wi Ti (nI nt)) ++ (wPl pa pb cI zo))))) H := (hP.sub (ws' := (wDp ad o pa ka (fx 0) (sx 0)) ++ ((wOf o (x 0) (y 0)) ++ ((wFl x r cI cZ cQ w q (upd d zz m9) T st re rc (nI nz)) ++ ((wSt y rp rw rt cI cQ P n Wi Ti (nI nt)) ++ (wPl pa pb cI zo))))) [43, 28, 29, 30, 31, 32, 33, 34, 35, 36, 37, 38, 39, 40, 41, 42, 0, 1, 2, 3, 4, 5, 6, 7, 8, 9, 10, 11, 12, 13, 14, 15, 16, 17, 18, 19, 20, 21, 22, 23, 24, 25, 26, 27] rfl)
          have hD9 : va_D A ((wDp ad o pa ka (fx 0) (sx 0)) ++ ((wOf o (x 0) (y 0)) ++ ((wFl x r cI cZ cQ w q (upd d zz m9) T st re rc (nI nz)) ++ ((wSt y rp rw rt cI cQ P n Wi Ti (nI nt)) ++ (wPl pa pb cI zo))))) := (hD.sub (ws' := (wDp ad o pa ka (fx 0) (sx 0)) ++ ((wOf o (x 0) (y 0)) ++ ((wFl x r cI cZ cQ w q (upd d zz m9) T st re rc (nI nz)) ++ ((wSt y rp rw rt cI cQ P n Wi Ti (nI nt)) ++ (wPl pa pb cI zo))))) [43, 28, 29, 30, 31, 32, 33, 34, 35, 36, 37, 38, 39, 40, 41, 42, 0, 1, 2, 3, 4, 5, 6, 7, 8, 9, 10, 11, 12, 13, 14, 15, 16, 17, 18, 19, 20, 21, 22, 23, 24, 25, 26, 27] (by decide) rfl)
          have g_8 : sSetDesks nz d zo n (nI zz) m9 0 (d zz) (upd d zz m9) := Or.inr (Or.inr (Or.inr ⟨⟨zz, h_zz, rfl⟩, hr9, fun ⟨t8, h8, e8, l8⟩ => by rw [et9] at e8; have e7 := z_eq (by omega) (by omega) e8; subst e7; exact Int32.not_le.mpr l8 c_7, rfl, by rw [nIc (by omega)], by rw [nIc (by omega)]⟩))
          refine W.widen (k := 3) (n := 18) (by omega) (by omega) ?_
          exact vx_ret (W.iret (v := d zz) hx hb hr (fun t9 ht9 hW9 => ⟨⟨d zz, (d zz, upd d zz m9), rfl, ⟨rfl, g_8⟩, by rw [ht9]; exact hP9, hD9⟩, hS.F ht9⟩) hS.2.2 dX7_setDesks_82)
        · have hP9 : va_P D vwCl ((wDp ad o pa ka (fx 0) (sx 0)) ++ ((wOf o (x 0) (y 0)) ++ ((wFl x r cI cZ cQ w q d T st re rc (nI nz)) ++ ((wSt y rp rw rt cI cQ P n Wi Ti (nI nt)) ++ (wPl pa pb cI zo))))) H := (hP.sub (ws' := (wDp ad o pa ka (fx 0) (sx 0)) ++ ((wOf o (x 0) (y 0)) ++ ((wFl x r cI cZ cQ w q d T st re rc (nI nz)) ++ ((wSt y rp rw rt cI cQ P n Wi Ti (nI nt)) ++ (wPl pa pb cI zo))))) [43, 28, 29, 30, 31, 32, 33, 34, 35, 36, 37, 38, 39, 40, 41, 42, 0, 1, 2, 3, 4, 5, 6, 7, 8, 9, 10, 11, 12, 13, 14, 15, 16, 17, 18, 19, 20, 21, 22, 23, 24, 25, 26, 27] rfl)
          have hD9 : va_D A ((wDp ad o pa ka (fx 0) (sx 0)) ++ ((wOf o (x 0) (y 0)) ++ ((wFl x r cI cZ cQ w q d T st re rc (nI nz)) ++ ((wSt y rp rw rt cI cQ P n Wi Ti (nI nt)) ++ (wPl pa pb cI zo))))) := (hD.sub (ws' := (wDp ad o pa ka (fx 0) (sx 0)) ++ ((wOf o (x 0) (y 0)) ++ ((wFl x r cI cZ cQ w q d T st re rc (nI nz)) ++ ((wSt y rp rw rt cI cQ P n Wi Ti (nI nt)) ++ (wPl pa pb cI zo))))) [43, 28, 29, 30, 31, 32, 33, 34, 35, 36, 37, 38, 39, 40, 41, 42, 0, 1, 2, 3, 4, 5, 6, 7, 8, 9, 10, 11, 12, 13, 14, 15, 16, 17, 18, 19, 20, 21, 22, 23, 24, 25, 26, 27] (by decide) rfl)
          exact tw_2 hx hb hfl hown hts hSt hDc hZ hS (hl.1.trans hml.symm) 6 rfl dX7_setDesks_43 dX7_setDesks_46 dX7_setDesks_47 dX7_setDesks_49 dX7_setDesks_52 ht (Nat.le_of_ble_eq_true rfl) (Nat.le_of_ble_eq_true rfl) (Nat.le_of_ble_eq_true rfl) (Nat.le_of_ble_eq_true rfl) hlocks (rx_new (u := ()) (Or.inr (Or.inr ⟨rfl, Or.inr (Or.inr (Or.inl ⟨⟨zz, h_zz, rfl⟩, hr9, ⟨t9, ht9, et9, Int32.not_le.mp c_7⟩, rfl, rfl⟩))⟩)) hP9 hD9 hS) hS.2.2 (Nat.le_of_ble_eq_true rfl) (Nat.le_of_ble_eq_true rfl)
set_option maxHeartbeats 4000000 in
set_option maxRecDepth 100000 in
theorem c_X7_addTeam (l : Launch) (D : va_G) (cI cZ cQ cJ : ClassId) (ad : Nat) (o : Nat) (pa : Nat) (ka : Nat) (fx : Nat → Nat) (sx : Nat → Nat) (x : Nat → Nat) (y : Nat → Nat) (rp : Nat → Nat) (rw : Nat → Nat) (rt : Nat → Nat) (P : Nat → Nat → Int32) (n : Nat → Int32) (Wi : Nat → Nat → Int32) (Ti : Nat → Nat → Int32) (nt : Nat) (sz : Nat) (hnt : nt ≤ 7) (hfl : l.stackTraces = false) : vx_Met l yX7_addTeam (.code yX7_addTeam cX7_addTeam 1 (some .int) :: ALL) ({ frames := 6, cells := 1, slots := 6, locals := 82 } : Room) (va_Pc [.ref ad] (rx_P D cI cZ cQ cJ ((wDp ad o pa ka (fx 0) (sx 0)) ++ ((wOf o (x 0) (y 0)) ++ (wSt y rp rw rt cI cQ P n Wi Ti (nI nt)))) sz)) (va_Qi (fun (r9 : Int32) (u9 : Int32 × (Nat → Nat → Int32) × (Nat → Int32) × Nat) => (r9 = u9.1) ∧ (sAddTeam nt P n 0 u9.1 u9.2.2.2 u9.2.1 u9.2.2.1)) (rw_B D (va_A ((wDp ad o pa ka (fx 0) (sx 0)) ++ ((wOf o (x 0) (y 0)) ++ (wSt y rp rw rt cI cQ P n Wi Ti (nI nt)))) sz) (fun u9 : Int32 × (Nat → Nat → Int32) × (Nat → Int32) × Nat => (wDp ad o pa ka (fx 0) (sx 0)) ++ ((wOf o (x 0) (y 0)) ++ (wSt y rp rw rt cI cQ u9.2.1 u9.2.2.1 Wi Ti (nI u9.2.2.2))))) (va_A ((wDp ad o pa ka (fx 0) (sx 0)) ++ ((wOf o (x 0) (y 0)) ++ (wSt y rp rw rt cI cQ P n Wi Ti (nI nt)))) sz)) (rx_X (fun (E9 : String) (x9 : Unit) => (E9 = "java/lang/IllegalStateException" ∧ sAddTeam nt P n 1 0 nt P n)) D (va_A ((wDp ad o pa ka (fx 0) (sx 0)) ++ ((wOf o (x 0) (y 0)) ++ (wSt y rp rw rt cI cQ P n Wi Ti (nI nt)))) sz) (fun x9 : Unit => (wDp ad o pa ka (fx 0) (sx 0)) ++ ((wOf o (x 0) (y 0)) ++ (wSt y rp rw rt cI cQ P n Wi Ti (nI nt))))) 1 6 (va_A ((wDp ad o pa ka (fx 0) (sx 0)) ++ ((wOf o (x 0) (y 0)) ++ (wSt y rp rw rt cI cQ P n Wi Ti (nI nt)))) sz) := by
  refine vx_ofW (cc := cX7_addTeam) (maxL := 1) (ret := (some .int)) (by decide) rfl ?_
  intro p e s m args below meth c s₁ B hml ht hv
  obtain ⟨rfl, ⟨hsz, hP, hSt, hD0⟩, hDc, hZ⟩ := hv
  change W p l e ({ frames := 6, cells := 1, slots := 6, locals := 82 } : Room) s m _ below meth c s.heap [] 0 0 _ _
  have hx := B.exec
  have hb := B.bytes
  have hr := B.returns
  have hts : ∀ w ∈ ALL, w.before ([.ref ad] : List Value).toArray s = true := fun w h => atoms_spec (ws := (.code yX7_addTeam cX7_addTeam 1 (some .int) :: ALL)) B.pre w (List.mem_cons_of_mem _ h)
  have hown : s.vm.findClass RX7 = some m.cls := findClass_of_methodNamed B.named
  have hlocks := B.notSynchronized
  subst hsz
  have hD := hD0.self (sz := s.heap.size)
  clear hD0
  generalize hAe : va_A ((wDp ad o pa ka (fx 0) (sx 0)) ++ ((wOf o (x 0) (y 0)) ++ (wSt y rp rw rt cI cQ P n Wi Ti (nI nt)))) s.heap.size = A at hD hZ ⊢
  have hA : ∀ q : Nat, s.heap.size ≤ q → A q := fun q h => by rw [← hAe]; exact Or.inr h
  have hS : va_S A s.heap s.heap [] := va_S.rf
  have hl := lv_entry ([.ref ad]) (n := 1) (Nat.le_of_ble_eq_true rfl)
  rw [lg_entry_eq]
  generalize (lg_sl ([.ref ad]) ++ List.replicate (1 - (lg_sl ([.ref ad])).length) Slot.unset).toArray = ls at hl ⊢
  have hl : lv_has ls 1 [(0, .ref ad)] := hl
  obtain ⟨H, hHe⟩ : ∃ H : Heap, H = s.heap := ⟨_, rfl⟩
  obtain ⟨locs, hLe⟩ : ∃ L : List Loc, L = [] := ⟨_, rfl⟩
  have hP : va_P D vwCl ((wDp ad o pa ka (fx 0) (sx 0)) ++ ((wOf o (x 0) (y 0)) ++ (wSt y rp rw rt cI cQ P n Wi Ti (nI nt)))) H := by rw [hHe]; exact hP
  have hS : va_S A s.heap H locs := by rw [hHe, hLe]; exact hS
  refine W.eqHL hHe hLe ?_
  refine lv_aload_n hx hb dX7_addTeam_0 rfl (lv_at hl 0 rfl) ?_
  refine va_get (D := D) (ci := 7) (v := .ref o) (C := RX7) (T := TX7) (N := 5) hx hb hts tu_X7 hown hSt.1 hP 0 rfl rfl 0 (by decide) (hts _ t1_208) (fun _ h9 => h9) rfl dX7_addTeam_1 ?_
  refine va_getN (D := D) (ci := 3) (v := .ref (y 0)) (C := RX3) (T := TX3) (N := 2) hx hb hts tu_X3 hown hSt.1 hP 1 rfl rfl 1 (by decide) (nf_9 hSt.2) (fun _ h9 => h9) rfl dX7_addTeam_4 ?_
  refine va_getN (D := D) (ci := 5) (v := .int (nI nt)) (C := RX5) (T := TX5) (N := 5) hx hb hts tu_X5 hown hSt.1 hP 2 rfl rfl 4 (by decide) (nf_1 hSt.2) (fun _ h9 => h9) rfl dX7_addTeam_7 ?_
  refine lv_bipush (v := nI 7) hx hb dX7_addTeam_10 (by decide) ?_
  refine lv_icmp_lt (tgt := 25) hx hb dX7_addTeam_12 (by decide) (fun c_1 => ?_) (fun c_1 => ?_)
  · have c_1 := z_lt (by omega) (by omega) c_1
    refine lv_aload_n hx hb dX7_addTeam_25 rfl (lv_at hl 0 rfl) ?_
    refine va_get (D := D) (ci := 7) (v := .ref o) (C := RX7) (T := TX7) (N := 5) hx hb hts tu_X7 hown hSt.1 hP 0 rfl rfl 0 (by decide) (hts _ t1_208) (fun _ h9 => h9) rfl dX7_addTeam_26 ?_
    refine va_getN (D := D) (ci := 3) (v := .ref (y 0)) (C := RX3) (T := TX3) (N := 2) hx hb hts tu_X3 hown hSt.1 hP 1 rfl rfl 1 (by decide) (nf_9 hSt.2) (fun _ h9 => h9) rfl dX7_addTeam_29 ?_
    refine rw_i (wr := (wDp ad o pa ka (fx 0) (sx 0)) ++ (wOf o (x 0) (y 0))) (w_V (As := []) ⟨hx, hb, hml, hown, hts⟩ (c_X5_enter l D cI cZ cQ cJ y rp rw rt P n Wi Ti nt H.size (by first | assumption | omega)) (gV t3_45 t3_46 t3_47 t1_4 t3_48) rfl rfl hd_X5_enter ⟨Nat.le_of_ble_eq_true rfl, Nat.le_of_ble_eq_true rfl⟩ (rw_pre hP hD hSt [2, 3, 4, 5, 6, 7, 8, 9, 10, 11, 12, 13, 14, 15, 16, 17, 18, 19, 20, 21, 22, 23, 24, 25, 26, 27] rfl (by decide)) (va_recv hSt.1 hP (ci := 5) (q0 := 2) rfl rfl) rfl hl.1 (rest := []) rfl (Nat.le_of_ble_eq_true rfl) dX7_addTeam_32 ⟨Nat.le_of_ble_eq_true rfl, Nat.le_of_ble_eq_true rfl⟩) hP hD hS hA [2, 3, 4, 5, 6, 7, 8, 9, 10, 11, 12, 13, 14, 15, 16, 17, 18, 19, 20, 21, 22, 23, 24, 25, 26, 27] [0, 1] rfl rfl (by decide) (by decide) (fun r u_2 H locs hw9 hP hD hS => ?_)
    obtain rfl := hw9
    have hP : va_P D vwCl (((wDp ad o pa ka (fx 0) (sx 0)) ++ (wOf o (x 0) (y 0))) ++ (wSt y rp rw rt cI cQ (ub P nt (fun _ => nI 1)) (upd n nt (nI 1)) Wi Ti (nI (nt + 1)))) H := hP
    have hD : va_D A (((wDp ad o pa ka (fx 0) (sx 0)) ++ (wOf o (x 0) (y 0))) ++ (wSt y rp rw rt cI cQ (ub P nt (fun _ => nI 1)) (upd n nt (nI 1)) Wi Ti (nI (nt + 1)))) := hD
    have hP9 : va_P D vwCl ((wDp ad o pa ka (fx 0) (sx 0)) ++ ((wOf o (x 0) (y 0)) ++ (wSt y rp rw rt cI cQ (ub P nt (fun _ => nI 1)) (upd n nt (nI 1)) Wi Ti (nI (nt + 1))))) H := (show va_P D vwCl ((wDp ad o pa ka (fx 0) (sx 0)) ++ ((wOf o (x 0) (y 0)) ++ (wSt y rp rw rt cI cQ (ub P nt (fun _ => nI 1)) (upd n nt (nI 1)) Wi Ti (nI (nt + 1))))) H from hP)
    have hD9 : va_D A ((wDp ad o pa ka (fx 0) (sx 0)) ++ ((wOf o (x 0) (y 0)) ++ (wSt y rp rw rt cI cQ (ub P nt (fun _ => nI 1)) (upd n nt (nI 1)) Wi Ti (nI (nt + 1))))) := (show va_D A ((wDp ad o pa ka (fx 0) (sx 0)) ++ ((wOf o (x 0) (y 0)) ++ (wSt y rp rw rt cI cQ (ub P nt (fun _ => nI 1)) (upd n nt (nI 1)) Wi Ti (nI (nt + 1))))) from hD)
    have g_3 : sAddTeam nt P n 0 (nI nt) (nt + 1) (ub P nt (fun _ => nI 1)) (upd n nt (nI 1)) := Or.inr ⟨by omega, rfl, rfl, rfl, rfl, rfl⟩
    refine W.widen (k := 1) (n := 6) (by omega) (by omega) ?_
    exact vx_ret (W.iret (v := nI nt) hx hb hr (fun t9 ht9 hW9 => ⟨⟨nI nt, (nI nt, ub P nt (fun _ => nI 1), upd n nt (nI 1), nt + 1), rfl, ⟨rfl, g_3⟩, by rw [ht9]; exact hP9, hD9⟩, hS.F ht9⟩) hS.2.2 dX7_addTeam_35)
  · have c_1 := z_nlt (by omega) (by omega) c_1
    have hP9 : va_P D vwCl ((wDp ad o pa ka (fx 0) (sx 0)) ++ ((wOf o (x 0) (y 0)) ++ (wSt y rp rw rt cI cQ P n Wi Ti (nI nt)))) H := hP
    have hD9 : va_D A ((wDp ad o pa ka (fx 0) (sx 0)) ++ ((wOf o (x 0) (y 0)) ++ (wSt y rp rw rt cI cQ P n Wi Ti (nI nt)))) := hD
    exact tw_2 hx hb hfl hown hts hSt hDc hZ hS (hl.1.trans hml.symm) 7 rfl dX7_addTeam_15 dX7_addTeam_18 dX7_addTeam_19 dX7_addTeam_21 dX7_addTeam_24 ht (Nat.le_of_ble_eq_true rfl) (Nat.le_of_ble_eq_true rfl) (Nat.le_of_ble_eq_true rfl) (Nat.le_of_ble_eq_true rfl) hlocks (rx_new (u := ()) (⟨rfl, Or.inl ⟨by omega, rfl, rfl, rfl, rfl⟩⟩) hP9 hD9 hS) hS.2.2 (Nat.le_of_ble_eq_true rfl) (Nat.le_of_ble_eq_true rfl)
set_option maxHeartbeats 4000000 in
set_option maxRecDepth 100000 in
theorem c_X7_setPresent (l : Launch) (D : va_G) (cI cZ cQ cJ : ClassId) (ad : Nat) (o : Nat) (pa : Nat) (ka : Nat) (fx : Nat → Nat) (sx : Nat → Nat) (x : Nat → Nat) (r : Nat → Nat) (w : Nat → Int32) (q : Nat → Int32) (d : Nat → Int32) (T : Nat → Nat → Int32) (st : Nat → Int32) (re : Nat → Int32) (rc : Int32) (nz : Nat) (y : Nat → Nat) (rp : Nat → Nat) (rw : Nat → Nat) (rt : Nat → Nat) (P : Nat → Nat → Int32) (n : Nat → Int32) (Wi : Nat → Nat → Int32) (Ti : Nat → Nat → Int32) (nt : Nat) (pb : Nat) (zo : Nat → Int32) (g : Nat → Nat) (t : Int32) (j9 : Int32) (m9 : Int32) (sz : Nat) (hnz : nz ≤ 7) (hnt : nt ≤ 7) (hzo : pOK 7 zo g) (hvg : vG nz nt g) (hfl : l.stackTraces = false) : vx_Met l yX7_setPresent (.code yX7_setPresent cX7_setPresent 5 (some .int) :: ALL) ({ frames := 7, cells := 4, slots := 24, locals := 105 } : Room) (va_Pc [.ref ad, .int t, .int j9, .int m9] (rx_P D cI cZ cQ cJ ((wDp ad o pa ka (fx 0) (sx 0)) ++ ((wOf o (x 0) (y 0)) ++ ((wFl x r cI cZ cQ w q d T st re rc (nI nz)) ++ ((wSt y rp rw rt cI cQ P n Wi Ti (nI nt)) ++ (wPl pa pb cI zo))))) sz)) (va_Qi (fun (r9 : Int32) (u9 : Int32 × (Nat → Nat → Int32) × (Nat → Int32)) => (r9 = u9.1) ∧ (sSetPresent nt P n d zo t j9 m9 0 u9.1 u9.2.1 u9.2.2)) (rw_B D (va_A ((wDp ad o pa ka (fx 0) (sx 0)) ++ ((wOf o (x 0) (y 0)) ++ ((wFl x r cI cZ cQ w q d T st re rc (nI nz)) ++ ((wSt y rp rw rt cI cQ P n Wi Ti (nI nt)) ++ (wPl pa pb cI zo))))) sz) (fun u9 : Int32 × (Nat → Nat → Int32) × (Nat → Int32) => (wDp ad o pa ka (fx 0) (sx 0)) ++ ((wOf o (x 0) (y 0)) ++ ((wFl x r cI cZ cQ w q d T st re rc (nI nz)) ++ ((wSt y rp rw rt cI cQ u9.2.1 u9.2.2 Wi Ti (nI nt)) ++ (wPl pa pb cI zo)))))) (va_A ((wDp ad o pa ka (fx 0) (sx 0)) ++ ((wOf o (x 0) (y 0)) ++ ((wFl x r cI cZ cQ w q d T st re rc (nI nz)) ++ ((wSt y rp rw rt cI cQ P n Wi Ti (nI nt)) ++ (wPl pa pb cI zo))))) sz)) (rx_X (fun (E9 : String) (x9 : Unit) => (E9 = "java/lang/IndexOutOfBoundsException" ∧ sSetPresent nt P n d zo t j9 m9 1 0 P n) ∨ (E9 = "java/lang/IllegalArgumentException" ∧ sSetPresent nt P n d zo t j9 m9 2 0 P n) ∨ (E9 = "java/lang/IllegalStateException" ∧ sSetPresent nt P n d zo t j9 m9 3 0 P n)) D (va_A ((wDp ad o pa ka (fx 0) (sx 0)) ++ ((wOf o (x 0) (y 0)) ++ ((wFl x r cI cZ cQ w q d T st re rc (nI nz)) ++ ((wSt y rp rw rt cI cQ P n Wi Ti (nI nt)) ++ (wPl pa pb cI zo))))) sz) (fun x9 : Unit => (wDp ad o pa ka (fx 0) (sx 0)) ++ ((wOf o (x 0) (y 0)) ++ ((wFl x r cI cZ cQ w q d T st re rc (nI nz)) ++ ((wSt y rp rw rt cI cQ P n Wi Ti (nI nt)) ++ (wPl pa pb cI zo)))))) 4 24 (va_A ((wDp ad o pa ka (fx 0) (sx 0)) ++ ((wOf o (x 0) (y 0)) ++ ((wFl x r cI cZ cQ w q d T st re rc (nI nz)) ++ ((wSt y rp rw rt cI cQ P n Wi Ti (nI nt)) ++ (wPl pa pb cI zo))))) sz) := by
  refine vx_ofW (cc := cX7_setPresent) (maxL := 5) (ret := (some .int)) (by decide) rfl ?_
  intro p e s m args below meth c s₁ B hml ht hv
  obtain ⟨rfl, ⟨hsz, hP, hSt, hD0⟩, hDc, hZ⟩ := hv
  change W p l e ({ frames := 7, cells := 4, slots := 24, locals := 105 } : Room) s m _ below meth c s.heap [] 0 0 _ _
  have hx := B.exec
  have hb := B.bytes
  have hr := B.returns
  have hts : ∀ w ∈ ALL, w.before ([.ref ad, .int t, .int j9, .int m9] : List Value).toArray s = true := fun w h => atoms_spec (ws := (.code yX7_setPresent cX7_setPresent 5 (some .int) :: ALL)) B.pre w (List.mem_cons_of_mem _ h)
  have hown : s.vm.findClass RX7 = some m.cls := findClass_of_methodNamed B.named
  have hlocks := B.notSynchronized
  subst hsz
  have hD := hD0.self (sz := s.heap.size)
  clear hD0
  generalize hAe : va_A ((wDp ad o pa ka (fx 0) (sx 0)) ++ ((wOf o (x 0) (y 0)) ++ ((wFl x r cI cZ cQ w q d T st re rc (nI nz)) ++ ((wSt y rp rw rt cI cQ P n Wi Ti (nI nt)) ++ (wPl pa pb cI zo))))) s.heap.size = A at hD hZ ⊢
  have hA : ∀ q : Nat, s.heap.size ≤ q → A q := fun q h => by rw [← hAe]; exact Or.inr h
  have hS : va_S A s.heap s.heap [] := va_S.rf
  have hl := lv_entry ([.ref ad, .int t, .int j9, .int m9]) (n := 5) (Nat.le_of_ble_eq_true rfl)
  rw [lg_entry_eq]
  generalize (lg_sl ([.ref ad, .int t, .int j9, .int m9]) ++ List.replicate (5 - (lg_sl ([.ref ad, .int t, .int j9, .int m9])).length) Slot.unset).toArray = ls at hl ⊢
  have hl : lv_has ls 5 [(0, .ref ad), (1, .int t), (2, .int j9), (3, .int m9)] := hl
  obtain ⟨H, hHe⟩ : ∃ H : Heap, H = s.heap := ⟨_, rfl⟩
  obtain ⟨locs, hLe⟩ : ∃ L : List Loc, L = [] := ⟨_, rfl⟩
  have hP : va_P D vwCl ((wDp ad o pa ka (fx 0) (sx 0)) ++ ((wOf o (x 0) (y 0)) ++ ((wFl x r cI cZ cQ w q d T st re rc (nI nz)) ++ ((wSt y rp rw rt cI cQ P n Wi Ti (nI nt)) ++ (wPl pa pb cI zo))))) H := by rw [hHe]; exact hP
  have hS : va_S A s.heap H locs := by rw [hHe, hLe]; exact hS
  refine W.eqHL hHe hLe ?_
  refine lv_aload_n hx hb dX7_setPresent_0 rfl (lv_at hl 0 rfl) ?_
  refine lv_iload_n hx hb dX7_setPresent_1 rfl (lv_at hl 1 rfl) ?_
  refine rx_v (wr := (wFl x r cI cZ cQ w q d T st re rc (nI nz)) ++ (wPl pa pb cI zo)) (w_VX (As := [.int t]) ⟨hx, hb, hml, hown, hts⟩ (c_X7_requireTeam l D cI cZ cQ cJ ad o pa ka fx sx x y rp rw rt P n Wi Ti nt t H.size (by first | assumption | omega) (by first | assumption | omega)) (gV t2_228 t2_230 t0_9 t1_1 t2_231) rfl rfl hd_X7_requireTeam ⟨Nat.le_of_ble_eq_true rfl, Nat.le_of_ble_eq_true rfl⟩ (rx_pre hP hD hSt hDc hZ hS hA [0, 1, 16, 17, 18, 19, 20, 21, 22, 23, 24, 25, 26, 27, 28, 29, 30, 31, 32, 33, 34, 35, 36, 37, 38, 39, 40, 41] rfl (by decide)) (va_recv hSt.1 hP (ci := 7) (q0 := 0) rfl rfl) rfl hl.1 (rest := []) rfl (Nat.le_of_ble_eq_true rfl) dX7_setPresent_2 ⟨Nat.le_of_ble_eq_true rfl, Nat.le_of_ble_eq_true rfl⟩) hP hD hS hA [0, 1, 16, 17, 18, 19, 20, 21, 22, 23, 24, 25, 26, 27, 28, 29, 30, 31, 32, 33, 34, 35, 36, 37, 38, 39, 40, 41] [2, 3, 4, 5, 6, 7, 8, 9, 10, 11, 12, 13, 14, 15, 42, 43] rfl rfl (by decide) (by decide) (fun E9 ce9 q9 x9 H locs hx9 hP hD hS hc91 hc92 hc93 => ?_) (fun  u_1 H locs hw9 hP hD hS => ?_)
  · have hx9 : E9 = "java/lang/IndexOutOfBoundsException" ∧ ¬ inN t nt := hx9
    have hP : va_P D vwCl (((wFl x r cI cZ cQ w q d T st re rc (nI nz)) ++ (wPl pa pb cI zo)) ++ ((wDp ad o pa ka (fx 0) (sx 0)) ++ ((wOf o (x 0) (y 0)) ++ (wSt y rp rw rt cI cQ P n Wi Ti (nI nt))))) H := hP
    have hD : va_D A (((wFl x r cI cZ cQ w q d T st re rc (nI nz)) ++ (wPl pa pb cI zo)) ++ ((wDp ad o pa ka (fx 0) (sx 0)) ++ ((wOf o (x 0) (y 0)) ++ (wSt y rp rw rt cI cQ P n Wi Ti (nI nt))))) := hD
    have hP9 : va_P D vwCl ((wDp ad o pa ka (fx 0) (sx 0)) ++ ((wOf o (x 0) (y 0)) ++ ((wFl x r cI cZ cQ w q d T st re rc (nI nz)) ++ ((wSt y rp rw rt cI cQ P n Wi Ti (nI nt)) ++ (wPl pa pb cI zo))))) H := (hP.sub (ws' := (wDp ad o pa ka (fx 0) (sx 0)) ++ ((wOf o (x 0) (y 0)) ++ ((wFl x r cI cZ cQ w q d T st re rc (nI nz)) ++ ((wSt y rp rw rt cI cQ P n Wi Ti (nI nt)) ++ (wPl pa pb cI zo))))) [16, 17, 0, 1, 2, 3, 4, 5, 6, 7, 8, 9, 10, 11, 12, 13, 18, 19, 20, 21, 22, 23, 24, 25, 26, 27, 28, 29, 30, 31, 32, 33, 34, 35, 36, 37, 38, 39, 40, 41, 42, 43, 14, 15] rfl)
    have hD9 : va_D A ((wDp ad o pa ka (fx 0) (sx 0)) ++ ((wOf o (x 0) (y 0)) ++ ((wFl x r cI cZ cQ w q d T st re rc (nI nz)) ++ ((wSt y rp rw rt cI cQ P n Wi Ti (nI nt)) ++ (wPl pa pb cI zo))))) := (hD.sub (ws' := (wDp ad o pa ka (fx 0) (sx 0)) ++ ((wOf o (x 0) (y 0)) ++ ((wFl x r cI cZ cQ w q d T st re rc (nI nz)) ++ ((wSt y rp rw rt cI cQ P n Wi Ti (nI nt)) ++ (wPl pa pb cI zo))))) [16, 17, 0, 1, 2, 3, 4, 5, 6, 7, 8, 9, 10, 11, 12, 13, 18, 19, 20, 21, 22, 23, 24, 25, 26, 27, 28, 29, 30, 31, 32, 33, 34, 35, 36, 37, 38, 39, 40, 41, 42, 43, 14, 15] (by decide) rfl)
    exact vx_widen (k := 4) (n := 24) (by omega) (by omega) (rx_on (u := ()) ht hlocks (Or.inl ⟨hx9.1, Or.inl ⟨fun q9 => hx9.2 q9.1, rfl, rfl, rfl⟩⟩) hP9 hD9 hS hc91 hc92 hc93 (Nat.le_refl _) (Nat.le_refl _))
  · have f_2 := hw9
    have hin : inN t nt := f_2
    have hP : va_P D vwCl (((wFl x r cI cZ cQ w q d T st re rc (nI nz)) ++ (wPl pa pb cI zo)) ++ ((wDp ad o pa ka (fx 0) (sx 0)) ++ ((wOf o (x 0) (y 0)) ++ (wSt y rp rw rt cI cQ P n Wi Ti (nI nt))))) H := hP
    have hD : va_D A (((wFl x r cI cZ cQ w q d T st re rc (nI nz)) ++ (wPl pa pb cI zo)) ++ ((wDp ad o pa ka (fx 0) (sx 0)) ++ ((wOf o (x 0) (y 0)) ++ (wSt y rp rw rt cI cQ P n Wi Ti (nI nt))))) := hD
    obtain ⟨tt, h_tt, rfl⟩ := hin
    refine lv_aload_n hx hb dX7_setPresent_5 rfl (lv_at hl 0 rfl) ?_
    refine lv_iload_n hx hb dX7_setPresent_6 rfl (lv_at hl 2 rfl) ?_
    refine rx_v (wr := (wFl x r cI cZ cQ w q d T st re rc (nI nz)) ++ ((wPl pa pb cI zo) ++ ((wOf o (x 0) (y 0)) ++ (wSt y rp rw rt cI cQ P n Wi Ti (nI nt))))) (w_VX (As := [.int j9]) ⟨hx, hb, hml, hown, hts⟩ (c_X7_requireDay l D cI cZ cQ cJ ad o pa ka fx sx j9 H.size (by first | assumption | omega)) (gV t2_233 t2_235 t0_10 t1_1 t2_236) rfl rfl hd_X7_requireDay ⟨Nat.le_of_ble_eq_true rfl, Nat.le_of_ble_eq_true rfl⟩ (rx_pre hP hD hSt hDc hZ hS hA [16] rfl (by decide)) (va_recv hSt.1 hP (ci := 7) (q0 := 16) rfl rfl) rfl hl.1 (rest := []) rfl (Nat.le_of_ble_eq_true rfl) dX7_setPresent_7 ⟨Nat.le_of_ble_eq_true rfl, Nat.le_of_ble_eq_true rfl⟩) hP hD hS hA [16] [0, 1, 2, 3, 4, 5, 6, 7, 8, 9, 10, 11, 12, 13, 14, 15, 17, 18, 19, 20, 21, 22, 23, 24, 25, 26, 27, 28, 29, 30, 31, 32, 33, 34, 35, 36, 37, 38, 39, 40, 41, 42, 43] rfl rfl (by decide) (by decide) (fun E9 ce9 q9 x9 H locs hx9 hP hD hS hc91 hc92 hc93 => ?_) (fun  u_3 H locs hw9 hP hD hS => ?_)
    · have hx9 : E9 = "java/lang/IndexOutOfBoundsException" ∧ ¬ inN j9 5 := hx9
      have hP : va_P D vwCl (((wFl x r cI cZ cQ w q d T st re rc (nI nz)) ++ ((wPl pa pb cI zo) ++ ((wOf o (x 0) (y 0)) ++ (wSt y rp rw rt cI cQ P n Wi Ti (nI nt))))) ++ (wDp ad o pa ka (fx 0) (sx 0))) H := hP
      have hD : va_D A (((wFl x r cI cZ cQ w q d T st re rc (nI nz)) ++ ((wPl pa pb cI zo) ++ ((wOf o (x 0) (y 0)) ++ (wSt y rp rw rt cI cQ P n Wi Ti (nI nt))))) ++ (wDp ad o pa ka (fx 0) (sx 0))) := hD
      have hP9 : va_P D vwCl ((wDp ad o pa ka (fx 0) (sx 0)) ++ ((wOf o (x 0) (y 0)) ++ ((wFl x r cI cZ cQ w q d T st re rc (nI nz)) ++ ((wSt y rp rw rt cI cQ P n Wi Ti (nI nt)) ++ (wPl pa pb cI zo))))) H := (hP.sub (ws' := (wDp ad o pa ka (fx 0) (sx 0)) ++ ((wOf o (x 0) (y 0)) ++ ((wFl x r cI cZ cQ w q d T st re rc (nI nz)) ++ ((wSt y rp rw rt cI cQ P n Wi Ti (nI nt)) ++ (wPl pa pb cI zo))))) [43, 16, 0, 1, 2, 3, 4, 5, 6, 7, 8, 9, 10, 11, 12, 13, 17, 18, 19, 20, 21, 22, 23, 24, 25, 26, 27, 28, 29, 30, 31, 32, 33, 34, 35, 36, 37, 38, 39, 40, 41, 42, 14, 15] rfl)
      have hD9 : va_D A ((wDp ad o pa ka (fx 0) (sx 0)) ++ ((wOf o (x 0) (y 0)) ++ ((wFl x r cI cZ cQ w q d T st re rc (nI nz)) ++ ((wSt y rp rw rt cI cQ P n Wi Ti (nI nt)) ++ (wPl pa pb cI zo))))) := (hD.sub (ws' := (wDp ad o pa ka (fx 0) (sx 0)) ++ ((wOf o (x 0) (y 0)) ++ ((wFl x r cI cZ cQ w q d T st re rc (nI nz)) ++ ((wSt y rp rw rt cI cQ P n Wi Ti (nI nt)) ++ (wPl pa pb cI zo))))) [43, 16, 0, 1, 2, 3, 4, 5, 6, 7, 8, 9, 10, 11, 12, 13, 17, 18, 19, 20, 21, 22, 23, 24, 25, 26, 27, 28, 29, 30, 31, 32, 33, 34, 35, 36, 37, 38, 39, 40, 41, 42, 14, 15] (by decide) rfl)
      exact vx_widen (k := 4) (n := 24) (by omega) (by omega) (rx_on (u := ()) ht hlocks (Or.inl ⟨hx9.1, Or.inl ⟨fun q9 => hx9.2 q9.2, rfl, rfl, rfl⟩⟩) hP9 hD9 hS hc91 hc92 hc93 (Nat.le_refl _) (Nat.le_refl _))
    · have f_4 := hw9
      have hin2 : inN j9 5 := f_4
      have hP : va_P D vwCl (((wFl x r cI cZ cQ w q d T st re rc (nI nz)) ++ ((wPl pa pb cI zo) ++ ((wOf o (x 0) (y 0)) ++ (wSt y rp rw rt cI cQ P n Wi Ti (nI nt))))) ++ (wDp ad o pa ka (fx 0) (sx 0))) H := hP
      have hD : va_D A (((wFl x r cI cZ cQ w q d T st re rc (nI nz)) ++ ((wPl pa pb cI zo) ++ ((wOf o (x 0) (y 0)) ++ (wSt y rp rw rt cI cQ P n Wi Ti (nI nt))))) ++ (wDp ad o pa ka (fx 0) (sx 0))) := hD
      obtain ⟨jj, h_jj, rfl⟩ := hin2
      refine lv_aload_n hx hb dX7_setPresent_10 rfl (lv_at hl 0 rfl) ?_
      refine lv_iload_n hx hb dX7_setPresent_11 rfl (lv_at hl 3 rfl) ?_
      refine lv_iconst (v := nI 0) hx hb dX7_setPresent_12 (by decide) ?_
      refine lv_bipush (v := nI 60) hx hb dX7_setPresent_13 (by decide) ?_
      refine rx_v (wr := (wFl x r cI cZ cQ w q d T st re rc (nI nz)) ++ ((wPl pa pb cI zo) ++ ((wOf o (x 0) (y 0)) ++ (wSt y rp rw rt cI cQ P n Wi Ti (nI nt))))) (w_VX (As := [.int m9, .int (nI 0), .int (nI 60)]) ⟨hx, hb, hml, hown, hts⟩ (c_X7_requireRange l D cI cZ cQ cJ ad o pa ka fx sx m9 0 60 H.size (by first | assumption | omega) (by first | assumption | omega) (by first | assumption | omega)) (gV t2_177 t2_179 t0_7 t1_1 t2_180) rfl rfl hd_X7_requireRange ⟨Nat.le_of_ble_eq_true rfl, Nat.le_of_ble_eq_true rfl⟩ (rx_pre hP hD hSt hDc hZ hS hA [43] rfl (by decide)) (va_recv hSt.1 hP (ci := 7) (q0 := 43) rfl rfl) rfl hl.1 (rest := []) rfl (Nat.le_of_ble_eq_true rfl) dX7_setPresent_15 ⟨Nat.le_of_ble_eq_true rfl, Nat.le_of_ble_eq_true rfl⟩) hP hD hS hA [43] [0, 1, 2, 3, 4, 5, 6, 7, 8, 9, 10, 11, 12, 13, 14, 15, 16, 17, 18, 19, 20, 21, 22, 23, 24, 25, 26, 27, 28, 29, 30, 31, 32, 33, 34, 35, 36, 37, 38, 39, 40, 41, 42] rfl rfl (by decide) (by decide) (fun E9 ce9 q9 x9 H locs hx9 hP hD hS hc91 hc92 hc93 => ?_) (fun  u_5 H locs hw9 hP hD hS => ?_)
      · have hx9 : E9 = "java/lang/IllegalArgumentException" ∧ ¬ inR m9 0 60 := hx9
        have hP : va_P D vwCl (((wFl x r cI cZ cQ w q d T st re rc (nI nz)) ++ ((wPl pa pb cI zo) ++ ((wOf o (x 0) (y 0)) ++ (wSt y rp rw rt cI cQ P n Wi Ti (nI nt))))) ++ (wDp ad o pa ka (fx 0) (sx 0))) H := hP
        have hD : va_D A (((wFl x r cI cZ cQ w q d T st re rc (nI nz)) ++ ((wPl pa pb cI zo) ++ ((wOf o (x 0) (y 0)) ++ (wSt y rp rw rt cI cQ P n Wi Ti (nI nt))))) ++ (wDp ad o pa ka (fx 0) (sx 0))) := hD
        have hP9 : va_P D vwCl ((wDp ad o pa ka (fx 0) (sx 0)) ++ ((wOf o (x 0) (y 0)) ++ ((wFl x r cI cZ cQ w q d T st re rc (nI nz)) ++ ((wSt y rp rw rt cI cQ P n Wi Ti (nI nt)) ++ (wPl pa pb cI zo))))) H := (hP.sub (ws' := (wDp ad o pa ka (fx 0) (sx 0)) ++ ((wOf o (x 0) (y 0)) ++ ((wFl x r cI cZ cQ w q d T st re rc (nI nz)) ++ ((wSt y rp rw rt cI cQ P n Wi Ti (nI nt)) ++ (wPl pa pb cI zo))))) [43, 16, 0, 1, 2, 3, 4, 5, 6, 7, 8, 9, 10, 11, 12, 13, 17, 18, 19, 20, 21, 22, 23, 24, 25, 26, 27, 28, 29, 30, 31, 32, 33, 34, 35, 36, 37, 38, 39, 40, 41, 42, 14, 15] rfl)
        have hD9 : va_D A ((wDp ad o pa ka (fx 0) (sx 0)) ++ ((wOf o (x 0) (y 0)) ++ ((wFl x r cI cZ cQ w q d T st re rc (nI nz)) ++ ((wSt y rp rw rt cI cQ P n Wi Ti (nI nt)) ++ (wPl pa pb cI zo))))) := (hD.sub (ws' := (wDp ad o pa ka (fx 0) (sx 0)) ++ ((wOf o (x 0) (y 0)) ++ ((wFl x r cI cZ cQ w q d T st re rc (nI nz)) ++ ((wSt y rp rw rt cI cQ P n Wi Ti (nI nt)) ++ (wPl pa pb cI zo))))) [43, 16, 0, 1, 2, 3, 4, 5, 6, 7, 8, 9, 10, 11, 12, 13, 17, 18, 19, 20, 21, 22, 23, 24, 25, 26, 27, 28, 29, 30, 31, 32, 33, 34, 35, 36, 37, 38, 39, 40, 41, 42, 14, 15] (by decide) rfl)
        exact vx_widen (k := 4) (n := 24) (by omega) (by omega) (rx_on (u := ()) ht hlocks (Or.inr (Or.inl ⟨hx9.1, Or.inr (Or.inl ⟨⟨⟨tt, h_tt, rfl⟩, ⟨jj, h_jj, rfl⟩⟩, hx9.2, rfl, rfl, rfl⟩)⟩)) hP9 hD9 hS hc91 hc92 hc93 (Nat.le_refl _) (Nat.le_refl _))
      · have f_6 := hw9
        have hr9 : inR m9 0 60 := f_6
        have hP : va_P D vwCl (((wFl x r cI cZ cQ w q d T st re rc (nI nz)) ++ ((wPl pa pb cI zo) ++ ((wOf o (x 0) (y 0)) ++ (wSt y rp rw rt cI cQ P n Wi Ti (nI nt))))) ++ (wDp ad o pa ka (fx 0) (sx 0))) H := hP
        have hD : va_D A (((wFl x r cI cZ cQ w q d T st re rc (nI nz)) ++ ((wPl pa pb cI zo) ++ ((wOf o (x 0) (y 0)) ++ (wSt y rp rw rt cI cQ P n Wi Ti (nI nt))))) ++ (wDp ad o pa ka (fx 0) (sx 0))) := hD
        refine lv_aload_n hx hb dX7_setPresent_18 rfl (lv_at hl 0 rfl) ?_
        refine va_get (D := D) (ci := 7) (v := .ref pa) (C := RX7) (T := TX7) (N := 5) hx hb hts tu_X7 hown hSt.1 hP 43 rfl rfl 1 (by decide) (hts _ t1_209) (fun _ h9 => h9) rfl dX7_setPresent_19 ?_
        refine lv_iload_n hx hb dX7_setPresent_22 rfl (lv_at hl 1 rfl) ?_
        refine ro_V (As := [.int (nI tt)]) (rest := []) (v := zo tt) ⟨hx, hb, hml, hown, hts⟩ (c_X4_zoneWith l D cI cZ cQ cJ pa pb zo tt (by first | assumption | omega)) (gV t2_238 t2_37 t2_38 t1_5 t2_39) rfl rfl hd_X4_zoneWith ⟨Nat.le_of_ble_eq_true rfl, Nat.le_of_ble_eq_true rfl⟩ (hP.sub (ws' := wPl pa pb cI zo) [14, 15] rfl) hSt (va_recv hSt.1 hP (ci := 4) (q0 := 14) rfl rfl) rfl hl.1 rfl (Nat.le_of_ble_eq_true rfl) dX7_setPresent_23 (Nat.le_of_ble_eq_true rfl) (Nat.le_of_ble_eq_true rfl) ?_
        refine lv_as (y := zI (g tt)) (hzo tt (by omega)) ?_
        refine lv_istore (lv' := [(4, .int (zI (g tt))), (0, .ref ad), (1, .int (nI tt)), (2, .int (nI jj)), (3, .int m9)]) hx hb dX7_setPresent_26 hl (by decide) rfl (fun ls hl => ?_)
        refine lv_iload hx hb dX7_setPresent_28 (lv_at hl 0 rfl) ?_
        refine lv_iconst (v := (-1 : Int32)) hx hb dX7_setPresent_30 (by decide) ?_
        refine lv_icmp_eq (tgt := 73) hx hb dX7_setPresent_31 (by decide) (fun c_7 => ?_) (fun c_7 => ?_)
        · refine lv_aload_n hx hb dX7_setPresent_73 rfl (lv_at hl 1 rfl) ?_
          refine va_get (D := D) (ci := 7) (v := .ref o) (C := RX7) (T := TX7) (N := 5) hx hb hts tu_X7 hown hSt.1 hP 43 rfl rfl 0 (by decide) (hts _ t1_208) (fun _ h9 => h9) rfl dX7_setPresent_74 ?_
          refine va_getN (D := D) (ci := 3) (v := .ref (y 0)) (C := RX3) (T := TX3) (N := 2) hx hb hts tu_X3 hown hSt.1 hP 16 rfl rfl 1 (by decide) (nf_9 hSt.2) (fun _ h9 => h9) rfl dX7_setPresent_77 ?_
          refine lv_iload_n hx hb dX7_setPresent_80 rfl (lv_at hl 2 rfl) ?_
          refine lv_iload_n hx hb dX7_setPresent_81 rfl (lv_at hl 3 rfl) ?_
          refine lv_iload_n hx hb dX7_setPresent_82 rfl (lv_at hl 4 rfl) ?_
          refine rw_i (wr := (wFl x r cI cZ cQ w q d T st re rc (nI nz)) ++ ((wPl pa pb cI zo) ++ ((wOf o (x 0) (y 0)) ++ (wDp ad o pa ka (fx 0) (sx 0))))) (w_V (As := [.int (nI tt), .int (nI jj), .int m9]) ⟨hx, hb, hml, hown, hts⟩ (c_X5_changePresent l D cI cZ cQ cJ y rp rw rt P n Wi Ti (nI nt) tt jj m9 H.size (by first | assumption | omega) (by first | assumption | omega)) (gV t3_7 t3_8 t3_9 t1_4 t3_10) rfl rfl hd_X5_changePresent ⟨Nat.le_of_ble_eq_true rfl, Nat.le_of_ble_eq_true rfl⟩ (rw_pre hP hD hSt [17, 18, 19, 20, 21, 22, 23, 24, 25, 26, 27, 28, 29, 30, 31, 32, 33, 34, 35, 36, 37, 38, 39, 40, 41, 42] rfl (by decide)) (va_recv hSt.1 hP (ci := 5) (q0 := 17) rfl rfl) rfl hl.1 (rest := []) rfl (Nat.le_of_ble_eq_true rfl) dX7_setPresent_83 ⟨Nat.le_of_ble_eq_true rfl, Nat.le_of_ble_eq_true rfl⟩) hP hD hS hA [17, 18, 19, 20, 21, 22, 23, 24, 25, 26, 27, 28, 29, 30, 31, 32, 33, 34, 35, 36, 37, 38, 39, 40, 41, 42] [0, 1, 2, 3, 4, 5, 6, 7, 8, 9, 10, 11, 12, 13, 14, 15, 16, 43] rfl rfl (by decide) (by decide) (fun r u_8 H locs hw9 hP hD hS => ?_)
          obtain rfl := hw9
          have hP : va_P D vwCl (((wFl x r cI cZ cQ w q d T st re rc (nI nz)) ++ ((wPl pa pb cI zo) ++ ((wOf o (x 0) (y 0)) ++ (wDp ad o pa ka (fx 0) (sx 0))))) ++ (wSt y rp rw rt cI cQ (u2 P tt jj m9) (upd n tt (mxN (P tt) jj m9 5)) Wi Ti (nI nt))) H := hP
          have hD : va_D A (((wFl x r cI cZ cQ w q d T st re rc (nI nz)) ++ ((wPl pa pb cI zo) ++ ((wOf o (x 0) (y 0)) ++ (wDp ad o pa ka (fx 0) (sx 0))))) ++ (wSt y rp rw rt cI cQ (u2 P tt jj m9) (upd n tt (mxN (P tt) jj m9 5)) Wi Ti (nI nt))) := hD
          have hP9 : va_P D vwCl ((wDp ad o pa ka (fx 0) (sx 0)) ++ ((wOf o (x 0) (y 0)) ++ ((wFl x r cI cZ cQ w q d T st re rc (nI nz)) ++ ((wSt y rp rw rt cI cQ (u2 P tt jj m9) (upd n tt (mxN (P tt) jj m9 5)) Wi Ti (nI nt)) ++ (wPl pa pb cI zo))))) H := (hP.sub (ws' := (wDp ad o pa ka (fx 0) (sx 0)) ++ ((wOf o (x 0) (y 0)) ++ ((wFl x r cI cZ cQ w q d T st re rc (nI nz)) ++ ((wSt y rp rw rt cI cQ (u2 P tt jj m9) (upd n tt (mxN (P tt) jj m9 5)) Wi Ti (nI nt)) ++ (wPl pa pb cI zo))))) [17, 16, 0, 1, 2, 3, 4, 5, 6, 7, 8, 9, 10, 11, 12, 13, 18, 19, 20, 21, 22, 23, 24, 25, 26, 27, 28, 29, 30, 31, 32, 33, 34, 35, 36, 37, 38, 39, 40, 41, 42, 43, 14, 15] rfl)
          have hD9 : va_D A ((wDp ad o pa ka (fx 0) (sx 0)) ++ ((wOf o (x 0) (y 0)) ++ ((wFl x r cI cZ cQ w q d T st re rc (nI nz)) ++ ((wSt y rp rw rt cI cQ (u2 P tt jj m9) (upd n tt (mxN (P tt) jj m9 5)) Wi Ti (nI nt)) ++ (wPl pa pb cI zo))))) := (hD.sub (ws' := (wDp ad o pa ka (fx 0) (sx 0)) ++ ((wOf o (x 0) (y 0)) ++ ((wFl x r cI cZ cQ w q d T st re rc (nI nz)) ++ ((wSt y rp rw rt cI cQ (u2 P tt jj m9) (upd n tt (mxN (P tt) jj m9 5)) Wi Ti (nI nt)) ++ (wPl pa pb cI zo))))) [17, 16, 0, 1, 2, 3, 4, 5, 6, 7, 8, 9, 10, 11, 12, 13, 18, 19, 20, 21, 22, 23, 24, 25, 26, 27, 28, 29, 30, 31, 32, 33, 34, 35, 36, 37, 38, 39, 40, 41, 42, 43, 14, 15] (by decide) rfl)
          have g_9 : sSetPresent nt P n d zo (nI tt) (nI jj) m9 0 (P tt jj) (u2 P tt jj m9) (upd n tt (mxN (P tt) jj m9 5)) := Or.inr (Or.inr (Or.inr ⟨⟨⟨tt, h_tt, rfl⟩, ⟨jj, h_jj, rfl⟩⟩, hr9, fun ⟨z8, h8, e8, _⟩ => by rw [nIc (by omega), hzo tt (by omega), c_7] at e8; exact z_m1 (a := z8) (by omega) e8.symm, rfl, by rw [nIc (by omega), nIc (by omega)], by rw [nIc (by omega), nIc (by omega)], by rw [nIc (by omega), nIc (by omega)]⟩))
          refine W.widen (k := 4) (n := 24) (by omega) (by omega) ?_
          exact vx_ret (W.iret (v := P tt jj) hx hb hr (fun t9 ht9 hW9 => ⟨⟨P tt jj, (P tt jj, u2 P tt jj m9, upd n tt (mxN (P tt) jj m9 5)), rfl, ⟨rfl, g_9⟩, by rw [ht9]; exact hP9, hD9⟩, hS.F ht9⟩) hS.2.2 dX7_setPresent_86)
        · have hg9 := zI_some c_7
          refine lv_aload_n hx hb dX7_setPresent_34 rfl (lv_at hl 1 rfl) ?_
          refine va_get (D := D) (ci := 7) (v := .ref o) (C := RX7) (T := TX7) (N := 5) hx hb hts tu_X7 hown hSt.1 hP 43 rfl rfl 0 (by decide) (hts _ t1_208) (fun _ h9 => h9) rfl dX7_setPresent_35 ?_
          refine va_getN (D := D) (ci := 3) (v := .ref (y 0)) (C := RX3) (T := TX3) (N := 2) hx hb hts tu_X3 hown hSt.1 hP 16 rfl rfl 1 (by decide) (nf_9 hSt.2) (fun _ h9 => h9) rfl dX7_setPresent_38 ?_
          refine lv_iload_n hx hb dX7_setPresent_41 rfl (lv_at hl 2 rfl) ?_
          refine lv_iload_n hx hb dX7_setPresent_42 rfl (lv_at hl 3 rfl) ?_
          refine lv_iload_n hx hb dX7_setPresent_43 rfl (lv_at hl 4 rfl) ?_
          refine ro_V (As := [.int (nI tt), .int (nI jj), .int m9]) (rest := []) (v := mxN (P tt) jj m9 5) ⟨hx, hb, hml, hown, hts⟩ (c_X5_needWith l D cI cZ cQ cJ y rp rw rt P n Wi Ti (nI nt) tt jj m9 (by first | assumption | omega) (by first | assumption | omega)) (gV t2_239 t3_0 t3_1 t1_4 t3_2) rfl rfl hd_X5_needWith ⟨Nat.le_of_ble_eq_true rfl, Nat.le_of_ble_eq_true rfl⟩ (hP.sub (ws' := wSt y rp rw rt cI cQ P n Wi Ti (nI nt)) [17, 18, 19, 20, 21, 22, 23, 24, 25, 26, 27, 28, 29, 30, 31, 32, 33, 34, 35, 36, 37, 38, 39, 40, 41, 42] rfl) hSt (va_recv hSt.1 hP (ci := 5) (q0 := 17) rfl rfl) rfl hl.1 rfl (Nat.le_of_ble_eq_true rfl) dX7_setPresent_44 (Nat.le_of_ble_eq_true rfl) (Nat.le_of_ble_eq_true rfl) ?_
          refine lv_aload_n hx hb dX7_setPresent_47 rfl (lv_at hl 1 rfl) ?_
          refine va_get (D := D) (ci := 7) (v := .ref o) (C := RX7) (T := TX7) (N := 5) hx hb hts tu_X7 hown hSt.1 hP 43 rfl rfl 0 (by decide) (hts _ t1_208) (fun _ h9 => h9) rfl dX7_setPresent_48 ?_
          refine va_getN (D := D) (ci := 3) (v := .ref (x 0)) (C := RX3) (T := TX3) (N := 2) hx hb hts tu_X3 hown hSt.1 hP 16 rfl rfl 0 (by decide) (nf_7 hSt.2) (fun _ h9 => h9) rfl dX7_setPresent_51 ?_
          refine va_getN (D := D) (ci := 1) (v := .ref (x 3)) (C := RX1) (T := TX1) (N := 8) hx hb hts tu_X1 hown hSt.1 hP 0 rfl rfl 2 (by decide) (nf_0 hSt.2) (fun _ h9 => h9) rfl dX7_setPresent_54 ?_
          refine lv_iload hx hb dX7_setPresent_57 (lv_at hl 0 rfl) ?_
          refine lv_as (y := nI (g tt)) (zI_lt hg9) ?_
          refine r_iald hx hb hSt.1 hP 3 0 rfl rfl (k := (g tt)) (by omega) (by omega) dX7_setPresent_59 ?_
          refine lv_icmp_le (tgt := 73) hx hb dX7_setPresent_60 (by decide) (fun c_10 => ?_) (fun c_10 => ?_)
          · refine lv_aload_n hx hb dX7_setPresent_73 rfl (lv_at hl 1 rfl) ?_
            refine va_get (D := D) (ci := 7) (v := .ref o) (C := RX7) (T := TX7) (N := 5) hx hb hts tu_X7 hown hSt.1 hP 43 rfl rfl 0 (by decide) (hts _ t1_208) (fun _ h9 => h9) rfl dX7_setPresent_74 ?_
            refine va_getN (D := D) (ci := 3) (v := .ref (y 0)) (C := RX3) (T := TX3) (N := 2) hx hb hts tu_X3 hown hSt.1 hP 16 rfl rfl 1 (by decide) (nf_9 hSt.2) (fun _ h9 => h9) rfl dX7_setPresent_77 ?_
            refine lv_iload_n hx hb dX7_setPresent_80 rfl (lv_at hl 2 rfl) ?_
            refine lv_iload_n hx hb dX7_setPresent_81 rfl (lv_at hl 3 rfl) ?_
            refine lv_iload_n hx hb dX7_setPresent_82 rfl (lv_at hl 4 rfl) ?_
            refine rw_i (wr := (wFl x r cI cZ cQ w q d T st re rc (nI nz)) ++ ((wPl pa pb cI zo) ++ ((wOf o (x 0) (y 0)) ++ (wDp ad o pa ka (fx 0) (sx 0))))) (w_V (As := [.int (nI tt), .int (nI jj), .int m9]) ⟨hx, hb, hml, hown, hts⟩ (c_X5_changePresent l D cI cZ cQ cJ y rp rw rt P n Wi Ti (nI nt) tt jj m9 H.size (by first | assumption | omega) (by first | assumption | omega)) (gV t3_7 t3_8 t3_9 t1_4 t3_10) rfl rfl hd_X5_changePresent ⟨Nat.le_of_ble_eq_true rfl, Nat.le_of_ble_eq_true rfl⟩ (rw_pre hP hD hSt [17, 18, 19, 20, 21, 22, 23, 24, 25, 26, 27, 28, 29, 30, 31, 32, 33, 34, 35, 36, 37, 38, 39, 40, 41, 42] rfl (by decide)) (va_recv hSt.1 hP (ci := 5) (q0 := 17) rfl rfl) rfl hl.1 (rest := []) rfl (Nat.le_of_ble_eq_true rfl) dX7_setPresent_83 ⟨Nat.le_of_ble_eq_true rfl, Nat.le_of_ble_eq_true rfl⟩) hP hD hS hA [17, 18, 19, 20, 21, 22, 23, 24, 25, 26, 27, 28, 29, 30, 31, 32, 33, 34, 35, 36, 37, 38, 39, 40, 41, 42] [0, 1, 2, 3, 4, 5, 6, 7, 8, 9, 10, 11, 12, 13, 14, 15, 16, 43] rfl rfl (by decide) (by decide) (fun r u_11 H locs hw9 hP hD hS => ?_)
            obtain rfl := hw9
            have hP : va_P D vwCl (((wFl x r cI cZ cQ w q d T st re rc (nI nz)) ++ ((wPl pa pb cI zo) ++ ((wOf o (x 0) (y 0)) ++ (wDp ad o pa ka (fx 0) (sx 0))))) ++ (wSt y rp rw rt cI cQ (u2 P tt jj m9) (upd n tt (mxN (P tt) jj m9 5)) Wi Ti (nI nt))) H := hP
            have hD : va_D A (((wFl x r cI cZ cQ w q d T st re rc (nI nz)) ++ ((wPl pa pb cI zo) ++ ((wOf o (x 0) (y 0)) ++ (wDp ad o pa ka (fx 0) (sx 0))))) ++ (wSt y rp rw rt cI cQ (u2 P tt jj m9) (upd n tt (mxN (P tt) jj m9 5)) Wi Ti (nI nt))) := hD
            have hP9 : va_P D vwCl ((wDp ad o pa ka (fx 0) (sx 0)) ++ ((wOf o (x 0) (y 0)) ++ ((wFl x r cI cZ cQ w q d T st re rc (nI nz)) ++ ((wSt y rp rw rt cI cQ (u2 P tt jj m9) (upd n tt (mxN (P tt) jj m9 5)) Wi Ti (nI nt)) ++ (wPl pa pb cI zo))))) H := (hP.sub (ws' := (wDp ad o pa ka (fx 0) (sx 0)) ++ ((wOf o (x 0) (y 0)) ++ ((wFl x r cI cZ cQ w q d T st re rc (nI nz)) ++ ((wSt y rp rw rt cI cQ (u2 P tt jj m9) (upd n tt (mxN (P tt) jj m9 5)) Wi Ti (nI nt)) ++ (wPl pa pb cI zo))))) [17, 16, 0, 1, 2, 3, 4, 5, 6, 7, 8, 9, 10, 11, 12, 13, 18, 19, 20, 21, 22, 23, 24, 25, 26, 27, 28, 29, 30, 31, 32, 33, 34, 35, 36, 37, 38, 39, 40, 41, 42, 43, 14, 15] rfl)
            have hD9 : va_D A ((wDp ad o pa ka (fx 0) (sx 0)) ++ ((wOf o (x 0) (y 0)) ++ ((wFl x r cI cZ cQ w q d T st re rc (nI nz)) ++ ((wSt y rp rw rt cI cQ (u2 P tt jj m9) (upd n tt (mxN (P tt) jj m9 5)) Wi Ti (nI nt)) ++ (wPl pa pb cI zo))))) := (hD.sub (ws' := (wDp ad o pa ka (fx 0) (sx 0)) ++ ((wOf o (x 0) (y 0)) ++ ((wFl x r cI cZ cQ w q d T st re rc (nI nz)) ++ ((wSt y rp rw rt cI cQ (u2 P tt jj m9) (upd n tt (mxN (P tt) jj m9 5)) Wi Ti (nI nt)) ++ (wPl pa pb cI zo))))) [17, 16, 0, 1, 2, 3, 4, 5, 6, 7, 8, 9, 10, 11, 12, 13, 18, 19, 20, 21, 22, 23, 24, 25, 26, 27, 28, 29, 30, 31, 32, 33, 34, 35, 36, 37, 38, 39, 40, 41, 42, 43, 14, 15] (by decide) rfl)
            have g_12 : sSetPresent nt P n d zo (nI tt) (nI jj) m9 0 (P tt jj) (u2 P tt jj m9) (upd n tt (mxN (P tt) jj m9 5)) := Or.inr (Or.inr (Or.inr ⟨⟨⟨tt, h_tt, rfl⟩, ⟨jj, h_jj, rfl⟩⟩, hr9, fun ⟨z8, h8, e8, l8⟩ => by rw [nIc (by omega), hzo tt (by omega), zI_lt hg9] at e8; have e7 := z_eq (by omega) (by omega) e8; subst e7; rw [nIc (by omega), nIc (by omega)] at l8; exact Int32.not_le.mpr l8 c_10, rfl, by rw [nIc (by omega), nIc (by omega)], by rw [nIc (by omega), nIc (by omega)], by rw [nIc (by omega), nIc (by omega)]⟩))
            refine W.widen (k := 4) (n := 24) (by omega) (by omega) ?_
            exact vx_ret (W.iret (v := P tt jj) hx hb hr (fun t9 ht9 hW9 => ⟨⟨P tt jj, (P tt jj, u2 P tt jj m9, upd n tt (mxN (P tt) jj m9 5)), rfl, ⟨rfl, g_12⟩, by rw [ht9]; exact hP9, hD9⟩, hS.F ht9⟩) hS.2.2 dX7_setPresent_86)
          · have hP9 : va_P D vwCl ((wDp ad o pa ka (fx 0) (sx 0)) ++ ((wOf o (x 0) (y 0)) ++ ((wFl x r cI cZ cQ w q d T st re rc (nI nz)) ++ ((wSt y rp rw rt cI cQ P n Wi Ti (nI nt)) ++ (wPl pa pb cI zo))))) H := (hP.sub (ws' := (wDp ad o pa ka (fx 0) (sx 0)) ++ ((wOf o (x 0) (y 0)) ++ ((wFl x r cI cZ cQ w q d T st re rc (nI nz)) ++ ((wSt y rp rw rt cI cQ P n Wi Ti (nI nt)) ++ (wPl pa pb cI zo))))) [43, 16, 0, 1, 2, 3, 4, 5, 6, 7, 8, 9, 10, 11, 12, 13, 17, 18, 19, 20, 21, 22, 23, 24, 25, 26, 27, 28, 29, 30, 31, 32, 33, 34, 35, 36, 37, 38, 39, 40, 41, 42, 14, 15] rfl)
            have hD9 : va_D A ((wDp ad o pa ka (fx 0) (sx 0)) ++ ((wOf o (x 0) (y 0)) ++ ((wFl x r cI cZ cQ w q d T st re rc (nI nz)) ++ ((wSt y rp rw rt cI cQ P n Wi Ti (nI nt)) ++ (wPl pa pb cI zo))))) := (hD.sub (ws' := (wDp ad o pa ka (fx 0) (sx 0)) ++ ((wOf o (x 0) (y 0)) ++ ((wFl x r cI cZ cQ w q d T st re rc (nI nz)) ++ ((wSt y rp rw rt cI cQ P n Wi Ti (nI nt)) ++ (wPl pa pb cI zo))))) [43, 16, 0, 1, 2, 3, 4, 5, 6, 7, 8, 9, 10, 11, 12, 13, 17, 18, 19, 20, 21, 22, 23, 24, 25, 26, 27, 28, 29, 30, 31, 32, 33, 34, 35, 36, 37, 38, 39, 40, 41, 42, 14, 15] (by decide) rfl)
            exact tw_2 hx hb hfl hown hts hSt hDc hZ hS (hl.1.trans hml.symm) 10 rfl dX7_setPresent_63 dX7_setPresent_66 dX7_setPresent_67 dX7_setPresent_69 dX7_setPresent_72 ht (Nat.le_of_ble_eq_true rfl) (Nat.le_of_ble_eq_true rfl) (Nat.le_of_ble_eq_true rfl) (Nat.le_of_ble_eq_true rfl) hlocks (rx_new (u := ()) (Or.inr (Or.inr ⟨rfl, Or.inr (Or.inr (Or.inl ⟨⟨⟨tt, h_tt, rfl⟩, ⟨jj, h_jj, rfl⟩⟩, hr9, ⟨g tt, hg9, by rw [nIc (by omega)]; exact (hzo tt (by omega)).trans (zI_lt hg9), by rw [nIc (by omega), nIc (by omega)]; exact Int32.not_le.mp c_10⟩, rfl, rfl, rfl⟩))⟩)) hP9 hD9 hS) hS.2.2 (Nat.le_of_ble_eq_true rfl) (Nat.le_of_ble_eq_true rfl)
set_option maxHeartbeats 4000000 in
set_option maxRecDepth 100000 in
theorem c_X7_setWish (l : Launch) (D : va_G) (cI cZ cQ cJ : ClassId) (ad : Nat) (o : Nat) (pa : Nat) (ka : Nat) (fx : Nat → Nat) (sx : Nat → Nat) (x : Nat → Nat) (r : Nat → Nat) (w : Nat → Int32) (q : Nat → Int32) (d : Nat → Int32) (T : Nat → Nat → Int32) (st : Nat → Int32) (re : Nat → Int32) (rc : Int32) (nz : Nat) (y : Nat → Nat) (rp : Nat → Nat) (rw : Nat → Nat) (rt : Nat → Nat) (P : Nat → Nat → Int32) (n : Nat → Int32) (Wi : Nat → Nat → Int32) (Ti : Nat → Nat → Int32) (nt : Nat) (t : Int32) (z : Int32) (m9 : Int32) (sz : Nat) (hnz : nz ≤ 7) (hnt : nt ≤ 7) (hfl : l.stackTraces = false) : vx_Met l yX7_setWish (.code yX7_setWish cX7_setWish 5 (some .int) :: ALL) ({ frames := 7, cells := 3, slots := 18, locals := 105 } : Room) (va_Pc [.ref ad, .int t, .int z, .int m9] (rx_P D cI cZ cQ cJ ((wDp ad o pa ka (fx 0) (sx 0)) ++ ((wOf o (x 0) (y 0)) ++ ((wFl x r cI cZ cQ w q d T st re rc (nI nz)) ++ (wSt y rp rw rt cI cQ P n Wi Ti (nI nt))))) sz)) (va_Qi (fun (r9 : Int32) (u9 : Int32 × (Nat → Nat → Int32)) => (r9 = u9.1) ∧ (sSetWish nt nz Wi t z m9 0 u9.1 u9.2)) (rw_B D (va_A ((wDp ad o pa ka (fx 0) (sx 0)) ++ ((wOf o (x 0) (y 0)) ++ ((wFl x r cI cZ cQ w q d T st re rc (nI nz)) ++ (wSt y rp rw rt cI cQ P n Wi Ti (nI nt))))) sz) (fun u9 : Int32 × (Nat → Nat → Int32) => (wDp ad o pa ka (fx 0) (sx 0)) ++ ((wOf o (x 0) (y 0)) ++ ((wFl x r cI cZ cQ w q d T st re rc (nI nz)) ++ (wSt y rp rw rt cI cQ P n u9.2 Ti (nI nt)))))) (va_A ((wDp ad o pa ka (fx 0) (sx 0)) ++ ((wOf o (x 0) (y 0)) ++ ((wFl x r cI cZ cQ w q d T st re rc (nI nz)) ++ (wSt y rp rw rt cI cQ P n Wi Ti (nI nt))))) sz)) (rx_X (fun (E9 : String) (x9 : Unit) => (E9 = "java/lang/IndexOutOfBoundsException" ∧ sSetWish nt nz Wi t z m9 1 0 Wi) ∨ (E9 = "java/lang/IllegalArgumentException" ∧ sSetWish nt nz Wi t z m9 2 0 Wi)) D (va_A ((wDp ad o pa ka (fx 0) (sx 0)) ++ ((wOf o (x 0) (y 0)) ++ ((wFl x r cI cZ cQ w q d T st re rc (nI nz)) ++ (wSt y rp rw rt cI cQ P n Wi Ti (nI nt))))) sz) (fun x9 : Unit => (wDp ad o pa ka (fx 0) (sx 0)) ++ ((wOf o (x 0) (y 0)) ++ ((wFl x r cI cZ cQ w q d T st re rc (nI nz)) ++ (wSt y rp rw rt cI cQ P n Wi Ti (nI nt)))))) 3 18 (va_A ((wDp ad o pa ka (fx 0) (sx 0)) ++ ((wOf o (x 0) (y 0)) ++ ((wFl x r cI cZ cQ w q d T st re rc (nI nz)) ++ (wSt y rp rw rt cI cQ P n Wi Ti (nI nt))))) sz) := by
  refine vx_ofW (cc := cX7_setWish) (maxL := 5) (ret := (some .int)) (by decide) rfl ?_
  intro p e s m args below meth c s₁ B hml ht hv
  obtain ⟨rfl, ⟨hsz, hP, hSt, hD0⟩, hDc, hZ⟩ := hv
  change W p l e ({ frames := 7, cells := 3, slots := 18, locals := 105 } : Room) s m _ below meth c s.heap [] 0 0 _ _
  have hx := B.exec
  have hb := B.bytes
  have hr := B.returns
  have hts : ∀ w ∈ ALL, w.before ([.ref ad, .int t, .int z, .int m9] : List Value).toArray s = true := fun w h => atoms_spec (ws := (.code yX7_setWish cX7_setWish 5 (some .int) :: ALL)) B.pre w (List.mem_cons_of_mem _ h)
  have hown : s.vm.findClass RX7 = some m.cls := findClass_of_methodNamed B.named
  have hlocks := B.notSynchronized
  subst hsz
  have hD := hD0.self (sz := s.heap.size)
  clear hD0
  generalize hAe : va_A ((wDp ad o pa ka (fx 0) (sx 0)) ++ ((wOf o (x 0) (y 0)) ++ ((wFl x r cI cZ cQ w q d T st re rc (nI nz)) ++ (wSt y rp rw rt cI cQ P n Wi Ti (nI nt))))) s.heap.size = A at hD hZ ⊢
  have hA : ∀ q : Nat, s.heap.size ≤ q → A q := fun q h => by rw [← hAe]; exact Or.inr h
  have hS : va_S A s.heap s.heap [] := va_S.rf
  have hl := lv_entry ([.ref ad, .int t, .int z, .int m9]) (n := 5) (Nat.le_of_ble_eq_true rfl)
  rw [lg_entry_eq]
  generalize (lg_sl ([.ref ad, .int t, .int z, .int m9]) ++ List.replicate (5 - (lg_sl ([.ref ad, .int t, .int z, .int m9])).length) Slot.unset).toArray = ls at hl ⊢
  have hl : lv_has ls 5 [(0, .ref ad), (1, .int t), (2, .int z), (3, .int m9)] := hl
  obtain ⟨H, hHe⟩ : ∃ H : Heap, H = s.heap := ⟨_, rfl⟩
  obtain ⟨locs, hLe⟩ : ∃ L : List Loc, L = [] := ⟨_, rfl⟩
  have hP : va_P D vwCl ((wDp ad o pa ka (fx 0) (sx 0)) ++ ((wOf o (x 0) (y 0)) ++ ((wFl x r cI cZ cQ w q d T st re rc (nI nz)) ++ (wSt y rp rw rt cI cQ P n Wi Ti (nI nt))))) H := by rw [hHe]; exact hP
  have hS : va_S A s.heap H locs := by rw [hHe, hLe]; exact hS
  refine W.eqHL hHe hLe ?_
  refine lv_aload_n hx hb dX7_setWish_0 rfl (lv_at hl 0 rfl) ?_
  refine lv_iload_n hx hb dX7_setWish_1 rfl (lv_at hl 1 rfl) ?_
  refine rx_v (wr := wFl x r cI cZ cQ w q d T st re rc (nI nz)) (w_VX (As := [.int t]) ⟨hx, hb, hml, hown, hts⟩ (c_X7_requireTeam l D cI cZ cQ cJ ad o pa ka fx sx x y rp rw rt P n Wi Ti nt t H.size (by first | assumption | omega) (by first | assumption | omega)) (gV t2_228 t2_230 t0_9 t1_1 t2_231) rfl rfl hd_X7_requireTeam ⟨Nat.le_of_ble_eq_true rfl, Nat.le_of_ble_eq_true rfl⟩ (rx_pre hP hD hSt hDc hZ hS hA [0, 1, 16, 17, 18, 19, 20, 21, 22, 23, 24, 25, 26, 27, 28, 29, 30, 31, 32, 33, 34, 35, 36, 37, 38, 39, 40, 41] rfl (by decide)) (va_recv hSt.1 hP (ci := 7) (q0 := 0) rfl rfl) rfl hl.1 (rest := []) rfl (Nat.le_of_ble_eq_true rfl) dX7_setWish_2 ⟨Nat.le_of_ble_eq_true rfl, Nat.le_of_ble_eq_true rfl⟩) hP hD hS hA [0, 1, 16, 17, 18, 19, 20, 21, 22, 23, 24, 25, 26, 27, 28, 29, 30, 31, 32, 33, 34, 35, 36, 37, 38, 39, 40, 41] [2, 3, 4, 5, 6, 7, 8, 9, 10, 11, 12, 13, 14, 15] rfl rfl (by decide) (by decide) (fun E9 ce9 q9 x9 H locs hx9 hP hD hS hc91 hc92 hc93 => ?_) (fun  u_1 H locs hw9 hP hD hS => ?_)
  · have hx9 : E9 = "java/lang/IndexOutOfBoundsException" ∧ ¬ inN t nt := hx9
    have hP : va_P D vwCl ((wFl x r cI cZ cQ w q d T st re rc (nI nz)) ++ ((wDp ad o pa ka (fx 0) (sx 0)) ++ ((wOf o (x 0) (y 0)) ++ (wSt y rp rw rt cI cQ P n Wi Ti (nI nt))))) H := hP
    have hD : va_D A ((wFl x r cI cZ cQ w q d T st re rc (nI nz)) ++ ((wDp ad o pa ka (fx 0) (sx 0)) ++ ((wOf o (x 0) (y 0)) ++ (wSt y rp rw rt cI cQ P n Wi Ti (nI nt))))) := hD
    have hP9 : va_P D vwCl ((wDp ad o pa ka (fx 0) (sx 0)) ++ ((wOf o (x 0) (y 0)) ++ ((wFl x r cI cZ cQ w q d T st re rc (nI nz)) ++ (wSt y rp rw rt cI cQ P n Wi Ti (nI nt))))) H := (hP.sub (ws' := (wDp ad o pa ka (fx 0) (sx 0)) ++ ((wOf o (x 0) (y 0)) ++ ((wFl x r cI cZ cQ w q d T st re rc (nI nz)) ++ (wSt y rp rw rt cI cQ P n Wi Ti (nI nt))))) [14, 15, 0, 1, 2, 3, 4, 5, 6, 7, 8, 9, 10, 11, 12, 13, 16, 17, 18, 19, 20, 21, 22, 23, 24, 25, 26, 27, 28, 29, 30, 31, 32, 33, 34, 35, 36, 37, 38, 39, 40, 41] rfl)
    have hD9 : va_D A ((wDp ad o pa ka (fx 0) (sx 0)) ++ ((wOf o (x 0) (y 0)) ++ ((wFl x r cI cZ cQ w q d T st re rc (nI nz)) ++ (wSt y rp rw rt cI cQ P n Wi Ti (nI nt))))) := (hD.sub (ws' := (wDp ad o pa ka (fx 0) (sx 0)) ++ ((wOf o (x 0) (y 0)) ++ ((wFl x r cI cZ cQ w q d T st re rc (nI nz)) ++ (wSt y rp rw rt cI cQ P n Wi Ti (nI nt))))) [14, 15, 0, 1, 2, 3, 4, 5, 6, 7, 8, 9, 10, 11, 12, 13, 16, 17, 18, 19, 20, 21, 22, 23, 24, 25, 26, 27, 28, 29, 30, 31, 32, 33, 34, 35, 36, 37, 38, 39, 40, 41] (by decide) rfl)
    exact vx_widen (k := 3) (n := 18) (by omega) (by omega) (rx_on (u := ()) ht hlocks (Or.inl ⟨hx9.1, Or.inl ⟨fun q9 => hx9.2 q9.1, rfl, rfl⟩⟩) hP9 hD9 hS hc91 hc92 hc93 (Nat.le_refl _) (Nat.le_refl _))
  · have f_2 := hw9
    have hin : inN t nt := f_2
    have hP : va_P D vwCl ((wFl x r cI cZ cQ w q d T st re rc (nI nz)) ++ ((wDp ad o pa ka (fx 0) (sx 0)) ++ ((wOf o (x 0) (y 0)) ++ (wSt y rp rw rt cI cQ P n Wi Ti (nI nt))))) H := hP
    have hD : va_D A ((wFl x r cI cZ cQ w q d T st re rc (nI nz)) ++ ((wDp ad o pa ka (fx 0) (sx 0)) ++ ((wOf o (x 0) (y 0)) ++ (wSt y rp rw rt cI cQ P n Wi Ti (nI nt))))) := hD
    obtain ⟨tt, h_tt, rfl⟩ := hin
    refine lv_aload_n hx hb dX7_setWish_5 rfl (lv_at hl 0 rfl) ?_
    refine lv_iload_n hx hb dX7_setWish_6 rfl (lv_at hl 2 rfl) ?_
    refine rx_v (wr := wSt y rp rw rt cI cQ P n Wi Ti (nI nt)) (w_VX (As := [.int z]) ⟨hx, hb, hml, hown, hts⟩ (c_X7_requireZone l D cI cZ cQ cJ ad o pa ka fx sx x r w q d T st re rc nz y z H.size (by first | assumption | omega) (by first | assumption | omega)) (gV t2_214 t2_216 t0_8 t1_1 t2_217) rfl rfl hd_X7_requireZone ⟨Nat.le_of_ble_eq_true rfl, Nat.le_of_ble_eq_true rfl⟩ (rx_pre hP hD hSt hDc hZ hS hA [14, 15, 0, 1, 2, 3, 4, 5, 6, 7, 8, 9, 10, 11, 12, 13] rfl (by decide)) (va_recv hSt.1 hP (ci := 7) (q0 := 14) rfl rfl) rfl hl.1 (rest := []) rfl (Nat.le_of_ble_eq_true rfl) dX7_setWish_7 ⟨Nat.le_of_ble_eq_true rfl, Nat.le_of_ble_eq_true rfl⟩) hP hD hS hA [14, 15, 0, 1, 2, 3, 4, 5, 6, 7, 8, 9, 10, 11, 12, 13] [16, 17, 18, 19, 20, 21, 22, 23, 24, 25, 26, 27, 28, 29, 30, 31, 32, 33, 34, 35, 36, 37, 38, 39, 40, 41] rfl rfl (by decide) (by decide) (fun E9 ce9 q9 x9 H locs hx9 hP hD hS hc91 hc92 hc93 => ?_) (fun  u_3 H locs hw9 hP hD hS => ?_)
    · have hx9 : E9 = "java/lang/IndexOutOfBoundsException" ∧ ¬ inN z nz := hx9
      have hP : va_P D vwCl ((wSt y rp rw rt cI cQ P n Wi Ti (nI nt)) ++ ((wDp ad o pa ka (fx 0) (sx 0)) ++ ((wOf o (x 0) (y 0)) ++ (wFl x r cI cZ cQ w q d T st re rc (nI nz))))) H := hP
      have hD : va_D A ((wSt y rp rw rt cI cQ P n Wi Ti (nI nt)) ++ ((wDp ad o pa ka (fx 0) (sx 0)) ++ ((wOf o (x 0) (y 0)) ++ (wFl x r cI cZ cQ w q d T st re rc (nI nz))))) := hD
      have hP9 : va_P D vwCl ((wDp ad o pa ka (fx 0) (sx 0)) ++ ((wOf o (x 0) (y 0)) ++ ((wFl x r cI cZ cQ w q d T st re rc (nI nz)) ++ (wSt y rp rw rt cI cQ P n Wi Ti (nI nt))))) H := (hP.sub (ws' := (wDp ad o pa ka (fx 0) (sx 0)) ++ ((wOf o (x 0) (y 0)) ++ ((wFl x r cI cZ cQ w q d T st re rc (nI nz)) ++ (wSt y rp rw rt cI cQ P n Wi Ti (nI nt))))) [26, 27, 28, 29, 30, 31, 32, 33, 34, 35, 36, 37, 38, 39, 40, 41, 0, 1, 2, 3, 4, 5, 6, 7, 8, 9, 10, 11, 12, 13, 14, 15, 16, 17, 18, 19, 20, 21, 22, 23, 24, 25] rfl)
      have hD9 : va_D A ((wDp ad o pa ka (fx 0) (sx 0)) ++ ((wOf o (x 0) (y 0)) ++ ((wFl x r cI cZ cQ w q d T st re rc (nI nz)) ++ (wSt y rp rw rt cI cQ P n Wi Ti (nI nt))))) := (hD.sub (ws' := (wDp ad o pa ka (fx 0) (sx 0)) ++ ((wOf o (x 0) (y 0)) ++ ((wFl x r cI cZ cQ w q d T st re rc (nI nz)) ++ (wSt y rp rw rt cI cQ P n Wi Ti (nI nt))))) [26, 27, 28, 29, 30, 31, 32, 33, 34, 35, 36, 37, 38, 39, 40, 41, 0, 1, 2, 3, 4, 5, 6, 7, 8, 9, 10, 11, 12, 13, 14, 15, 16, 17, 18, 19, 20, 21, 22, 23, 24, 25] (by decide) rfl)
      exact vx_widen (k := 3) (n := 18) (by omega) (by omega) (rx_on (u := ()) ht hlocks (Or.inl ⟨hx9.1, Or.inl ⟨fun q9 => hx9.2 q9.2, rfl, rfl⟩⟩) hP9 hD9 hS hc91 hc92 hc93 (Nat.le_refl _) (Nat.le_refl _))
    · have f_4 := hw9
      have hin2 : inN z nz := f_4
      have hP : va_P D vwCl ((wSt y rp rw rt cI cQ P n Wi Ti (nI nt)) ++ ((wDp ad o pa ka (fx 0) (sx 0)) ++ ((wOf o (x 0) (y 0)) ++ (wFl x r cI cZ cQ w q d T st re rc (nI nz))))) H := hP
      have hD : va_D A ((wSt y rp rw rt cI cQ P n Wi Ti (nI nt)) ++ ((wDp ad o pa ka (fx 0) (sx 0)) ++ ((wOf o (x 0) (y 0)) ++ (wFl x r cI cZ cQ w q d T st re rc (nI nz))))) := hD
      obtain ⟨zz, h_zz, rfl⟩ := hin2
      refine lv_aload_n hx hb dX7_setWish_10 rfl (lv_at hl 0 rfl) ?_
      refine lv_iload_n hx hb dX7_setWish_11 rfl (lv_at hl 3 rfl) ?_
      refine lv_iconst (v := nI 0) hx hb dX7_setWish_12 (by decide) ?_
      refine lv_bipush (v := nI 99) hx hb dX7_setWish_13 (by decide) ?_
      refine rx_v (wr := (wSt y rp rw rt cI cQ P n Wi Ti (nI nt)) ++ ((wOf o (x 0) (y 0)) ++ (wFl x r cI cZ cQ w q d T st re rc (nI nz)))) (w_VX (As := [.int m9, .int (nI 0), .int (nI 99)]) ⟨hx, hb, hml, hown, hts⟩ (c_X7_requireRange l D cI cZ cQ cJ ad o pa ka fx sx m9 0 99 H.size (by first | assumption | omega) (by first | assumption | omega) (by first | assumption | omega)) (gV t2_177 t2_179 t0_7 t1_1 t2_180) rfl rfl hd_X7_requireRange ⟨Nat.le_of_ble_eq_true rfl, Nat.le_of_ble_eq_true rfl⟩ (rx_pre hP hD hSt hDc hZ hS hA [26] rfl (by decide)) (va_recv hSt.1 hP (ci := 7) (q0 := 26) rfl rfl) rfl hl.1 (rest := []) rfl (Nat.le_of_ble_eq_true rfl) dX7_setWish_15 ⟨Nat.le_of_ble_eq_true rfl, Nat.le_of_ble_eq_true rfl⟩) hP hD hS hA [26] [0, 1, 2, 3, 4, 5, 6, 7, 8, 9, 10, 11, 12, 13, 14, 15, 16, 17, 18, 19, 20, 21, 22, 23, 24, 25, 27, 28, 29, 30, 31, 32, 33, 34, 35, 36, 37, 38, 39, 40, 41] rfl rfl (by decide) (by decide) (fun E9 ce9 q9 x9 H locs hx9 hP hD hS hc91 hc92 hc93 => ?_) (fun  u_5 H locs hw9 hP hD hS => ?_)
      · have hx9 : E9 = "java/lang/IllegalArgumentException" ∧ ¬ inR m9 0 99 := hx9
        have hP : va_P D vwCl (((wSt y rp rw rt cI cQ P n Wi Ti (nI nt)) ++ ((wOf o (x 0) (y 0)) ++ (wFl x r cI cZ cQ w q d T st re rc (nI nz)))) ++ (wDp ad o pa ka (fx 0) (sx 0))) H := hP
        have hD : va_D A (((wSt y rp rw rt cI cQ P n Wi Ti (nI nt)) ++ ((wOf o (x 0) (y 0)) ++ (wFl x r cI cZ cQ w q d T st re rc (nI nz)))) ++ (wDp ad o pa ka (fx 0) (sx 0))) := hD
        have hP9 : va_P D vwCl ((wDp ad o pa ka (fx 0) (sx 0)) ++ ((wOf o (x 0) (y 0)) ++ ((wFl x r cI cZ cQ w q d T st re rc (nI nz)) ++ (wSt y rp rw rt cI cQ P n Wi Ti (nI nt))))) H := (hP.sub (ws' := (wDp ad o pa ka (fx 0) (sx 0)) ++ ((wOf o (x 0) (y 0)) ++ ((wFl x r cI cZ cQ w q d T st re rc (nI nz)) ++ (wSt y rp rw rt cI cQ P n Wi Ti (nI nt))))) [41, 26, 27, 28, 29, 30, 31, 32, 33, 34, 35, 36, 37, 38, 39, 40, 0, 1, 2, 3, 4, 5, 6, 7, 8, 9, 10, 11, 12, 13, 14, 15, 16, 17, 18, 19, 20, 21, 22, 23, 24, 25] rfl)
        have hD9 : va_D A ((wDp ad o pa ka (fx 0) (sx 0)) ++ ((wOf o (x 0) (y 0)) ++ ((wFl x r cI cZ cQ w q d T st re rc (nI nz)) ++ (wSt y rp rw rt cI cQ P n Wi Ti (nI nt))))) := (hD.sub (ws' := (wDp ad o pa ka (fx 0) (sx 0)) ++ ((wOf o (x 0) (y 0)) ++ ((wFl x r cI cZ cQ w q d T st re rc (nI nz)) ++ (wSt y rp rw rt cI cQ P n Wi Ti (nI nt))))) [41, 26, 27, 28, 29, 30, 31, 32, 33, 34, 35, 36, 37, 38, 39, 40, 0, 1, 2, 3, 4, 5, 6, 7, 8, 9, 10, 11, 12, 13, 14, 15, 16, 17, 18, 19, 20, 21, 22, 23, 24, 25] (by decide) rfl)
        exact vx_widen (k := 3) (n := 18) (by omega) (by omega) (rx_on (u := ()) ht hlocks (Or.inr ⟨hx9.1, Or.inr (Or.inl ⟨⟨⟨tt, h_tt, rfl⟩, ⟨zz, h_zz, rfl⟩⟩, hx9.2, rfl, rfl⟩)⟩) hP9 hD9 hS hc91 hc92 hc93 (Nat.le_refl _) (Nat.le_refl _))
      · have f_6 := hw9
        have hr9 : inR m9 0 99 := f_6
        have hP : va_P D vwCl (((wSt y rp rw rt cI cQ P n Wi Ti (nI nt)) ++ ((wOf o (x 0) (y 0)) ++ (wFl x r cI cZ cQ w q d T st re rc (nI nz)))) ++ (wDp ad o pa ka (fx 0) (sx 0))) H := hP
        have hD : va_D A (((wSt y rp rw rt cI cQ P n Wi Ti (nI nt)) ++ ((wOf o (x 0) (y 0)) ++ (wFl x r cI cZ cQ w q d T st re rc (nI nz)))) ++ (wDp ad o pa ka (fx 0) (sx 0))) := hD
        refine lv_aload_n hx hb dX7_setWish_18 rfl (lv_at hl 0 rfl) ?_
        refine va_get (D := D) (ci := 7) (v := .ref o) (C := RX7) (T := TX7) (N := 5) hx hb hts tu_X7 hown hSt.1 hP 41 rfl rfl 0 (by decide) (hts _ t1_208) (fun _ h9 => h9) rfl dX7_setWish_19 ?_
        refine va_getN (D := D) (ci := 3) (v := .ref (y 0)) (C := RX3) (T := TX3) (N := 2) hx hb hts tu_X3 hown hSt.1 hP 26 rfl rfl 1 (by decide) (nf_9 hSt.2) (fun _ h9 => h9) rfl dX7_setWish_22 ?_
        refine va_getN (D := D) (ci := 5) (v := .ref (y 3)) (C := RX5) (T := TX5) (N := 5) hx hb hts tu_X5 hown hSt.1 hP 0 rfl rfl 2 (by decide) (nf_2 hSt.2) (fun _ h9 => h9) rfl dX7_setWish_25 ?_
        refine lv_iload_n hx hb dX7_setWish_28 rfl (lv_at hl 1 rfl) ?_
        refine r_aald (r := rw) hx hb hSt.1 hP 3 2 rfl rfl (k := tt) (by omega) dX7_setWish_29 ?_
        refine lv_iload_n hx hb dX7_setWish_30 rfl (lv_at hl 2 rfl) ?_
        refine r_iald hx hb hSt.1 hP _ 0 (f := Wi tt) (at_l (at_l (wSt_W (k := tt) (by omega)))) rfl (k := zz) (by omega) (by omega) dX7_setWish_31 ?_
        refine lv_istore (lv' := [(4, .int (Wi tt zz)), (0, .ref ad), (1, .int (nI tt)), (2, .int (nI zz)), (3, .int m9)]) hx hb dX7_setWish_32 hl (by decide) rfl (fun ls hl => ?_)
        refine lv_aload_n hx hb dX7_setWish_34 rfl (lv_at hl 1 rfl) ?_
        refine va_get (D := D) (ci := 7) (v := .ref o) (C := RX7) (T := TX7) (N := 5) hx hb hts tu_X7 hown hSt.1 hP 41 rfl rfl 0 (by decide) (hts _ t1_208) (fun _ h9 => h9) rfl dX7_setWish_35 ?_
        refine va_getN (D := D) (ci := 3) (v := .ref (y 0)) (C := RX3) (T := TX3) (N := 2) hx hb hts tu_X3 hown hSt.1 hP 26 rfl rfl 1 (by decide) (nf_9 hSt.2) (fun _ h9 => h9) rfl dX7_setWish_38 ?_
        refine va_getN (D := D) (ci := 5) (v := .ref (y 3)) (C := RX5) (T := TX5) (N := 5) hx hb hts tu_X5 hown hSt.1 hP 0 rfl rfl 2 (by decide) (nf_2 hSt.2) (fun _ h9 => h9) rfl dX7_setWish_41 ?_
        refine lv_iload_n hx hb dX7_setWish_44 rfl (lv_at hl 2 rfl) ?_
        refine r_aald (r := rw) hx hb hSt.1 hP 3 2 rfl rfl (k := tt) (by omega) dX7_setWish_45 ?_
        refine lv_iload_n hx hb dX7_setWish_46 rfl (lv_at hl 3 rfl) ?_
        refine lv_iload_n hx hb dX7_setWish_47 rfl (lv_at hl 4 rfl) ?_
        refine r_iast hx hb hSt.1 hP hD hS _ 0 (f := Wi tt) (at_l (at_l (wSt_W (k := tt) (by omega)))) rfl (k := zz) (by omega) (by omega) dX7_setWish_48 (fun H locs hP hD hS => ?_)
        have hP : va_P D vwCl (((wSt y rp rw rt cI cQ P n (u2 Wi tt zz m9) Ti (nI nt)) ++ ((wOf o (x 0) (y 0)) ++ (wFl x r cI cZ cQ w q d T st re rc (nI nz)))) ++ (wDp ad o pa ka (fx 0) (sx 0))) H := P_eq (set_l (at_l (wSt_W (k := tt) (by omega))) (set_l (wSt_W (k := tt) (by omega)) (wSt_Ws (k := tt) (j := zz) (v := m9) (by omega)))) hP
        have hD : va_D A (((wSt y rp rw rt cI cQ P n (u2 Wi tt zz m9) Ti (nI nt)) ++ ((wOf o (x 0) (y 0)) ++ (wFl x r cI cZ cQ w q d T st re rc (nI nz)))) ++ (wDp ad o pa ka (fx 0) (sx 0))) := D_eq (set_l (at_l (wSt_W (k := tt) (by omega))) (set_l (wSt_W (k := tt) (by omega)) (wSt_Ws (k := tt) (j := zz) (v := m9) (by omega)))) hD
        refine lv_iload hx hb dX7_setWish_49 (lv_at hl 0 rfl) ?_
        have hP9 : va_P D vwCl ((wDp ad o pa ka (fx 0) (sx 0)) ++ ((wOf o (x 0) (y 0)) ++ ((wFl x r cI cZ cQ w q d T st re rc (nI nz)) ++ (wSt y rp rw rt cI cQ P n (u2 Wi tt zz m9) Ti (nI nt))))) H := (hP.sub (ws' := (wDp ad o pa ka (fx 0) (sx 0)) ++ ((wOf o (x 0) (y 0)) ++ ((wFl x r cI cZ cQ w q d T st re rc (nI nz)) ++ (wSt y rp rw rt cI cQ P n (u2 Wi tt zz m9) Ti (nI nt))))) [41, 26, 27, 28, 29, 30, 31, 32, 33, 34, 35, 36, 37, 38, 39, 40, 0, 1, 2, 3, 4, 5, 6, 7, 8, 9, 10, 11, 12, 13, 14, 15, 16, 17, 18, 19, 20, 21, 22, 23, 24, 25] rfl)
        have hD9 : va_D A ((wDp ad o pa ka (fx 0) (sx 0)) ++ ((wOf o (x 0) (y 0)) ++ ((wFl x r cI cZ cQ w q d T st re rc (nI nz)) ++ (wSt y rp rw rt cI cQ P n (u2 Wi tt zz m9) Ti (nI nt))))) := (hD.sub (ws' := (wDp ad o pa ka (fx 0) (sx 0)) ++ ((wOf o (x 0) (y 0)) ++ ((wFl x r cI cZ cQ w q d T st re rc (nI nz)) ++ (wSt y rp rw rt cI cQ P n (u2 Wi tt zz m9) Ti (nI nt))))) [41, 26, 27, 28, 29, 30, 31, 32, 33, 34, 35, 36, 37, 38, 39, 40, 0, 1, 2, 3, 4, 5, 6, 7, 8, 9, 10, 11, 12, 13, 14, 15, 16, 17, 18, 19, 20, 21, 22, 23, 24, 25] (by decide) rfl)
        have g_7 : sSetWish nt nz Wi (nI tt) (nI zz) m9 0 (Wi tt zz) (u2 Wi tt zz m9) := Or.inr (Or.inr ⟨⟨⟨tt, h_tt, rfl⟩, ⟨zz, h_zz, rfl⟩⟩, hr9, rfl, by rw [nIc (by omega), nIc (by omega)], by rw [nIc (by omega), nIc (by omega)]⟩)
        refine W.widen (k := 3) (n := 18) (by omega) (by omega) ?_
        exact vx_ret (W.iret (v := Wi tt zz) hx hb hr (fun t9 ht9 hW9 => ⟨⟨Wi tt zz, (Wi tt zz, u2 Wi tt zz m9), rfl, ⟨rfl, g_7⟩, by rw [ht9]; exact hP9, hD9⟩, hS.F ht9⟩) hS.2.2 dX7_setWish_51)
set_option maxHeartbeats 4000000 in
set_option maxRecDepth 100000 in
theorem c_X7_setTie (l : Launch) (D : va_G) (cI cZ cQ cJ : ClassId) (ad : Nat) (o : Nat) (pa : Nat) (ka : Nat) (fx : Nat → Nat) (sx : Nat → Nat) (x : Nat → Nat) (y : Nat → Nat) (rp : Nat → Nat) (rw : Nat → Nat) (rt : Nat → Nat) (P : Nat → Nat → Int32) (n : Nat → Int32) (Wi : Nat → Nat → Int32) (Ti : Nat → Nat → Int32) (nt : Nat) (t : Int32) (z : Int32) (m9 : Int32) (sz : Nat) (hnt : nt ≤ 7) (hfl : l.stackTraces = false) : vx_Met l yX7_setTie (.code yX7_setTie cX7_setTie 4 (some .int) :: ALL) ({ frames := 7, cells := 4, slots := 24, locals := 105 } : Room) (va_Pc [.ref ad, .int t, .int z, .int m9] (rx_P D cI cZ cQ cJ ((wDp ad o pa ka (fx 0) (sx 0)) ++ ((wOf o (x 0) (y 0)) ++ (wSt y rp rw rt cI cQ P n Wi Ti (nI nt)))) sz)) (va_Qi (fun (r9 : Int32) (u9 : Int32 × (Nat → Nat → Int32)) => (r9 = u9.1) ∧ (sSetTie nt Ti t z m9 0 u9.1 u9.2)) (rw_B D (va_A ((wDp ad o pa ka (fx 0) (sx 0)) ++ ((wOf o (x 0) (y 0)) ++ (wSt y rp rw rt cI cQ P n Wi Ti (nI nt)))) sz) (fun u9 : Int32 × (Nat → Nat → Int32) => (wDp ad o pa ka (fx 0) (sx 0)) ++ ((wOf o (x 0) (y 0)) ++ (wSt y rp rw rt cI cQ P n Wi u9.2 (nI nt))))) (va_A ((wDp ad o pa ka (fx 0) (sx 0)) ++ ((wOf o (x 0) (y 0)) ++ (wSt y rp rw rt cI cQ P n Wi Ti (nI nt)))) sz)) (rx_X (fun (E9 : String) (x9 : Unit) => (E9 = "java/lang/IndexOutOfBoundsException" ∧ sSetTie nt Ti t z m9 1 0 Ti) ∨ (E9 = "java/lang/IllegalArgumentException" ∧ sSetTie nt Ti t z m9 2 0 Ti)) D (va_A ((wDp ad o pa ka (fx 0) (sx 0)) ++ ((wOf o (x 0) (y 0)) ++ (wSt y rp rw rt cI cQ P n Wi Ti (nI nt)))) sz) (fun x9 : Unit => (wDp ad o pa ka (fx 0) (sx 0)) ++ ((wOf o (x 0) (y 0)) ++ (wSt y rp rw rt cI cQ P n Wi Ti (nI nt))))) 4 24 (va_A ((wDp ad o pa ka (fx 0) (sx 0)) ++ ((wOf o (x 0) (y 0)) ++ (wSt y rp rw rt cI cQ P n Wi Ti (nI nt)))) sz) := by
  refine vx_ofW (cc := cX7_setTie) (maxL := 4) (ret := (some .int)) (by decide) rfl ?_
  intro p e s m args below meth c s₁ B hml ht hv
  obtain ⟨rfl, ⟨hsz, hP, hSt, hD0⟩, hDc, hZ⟩ := hv
  change W p l e ({ frames := 7, cells := 4, slots := 24, locals := 105 } : Room) s m _ below meth c s.heap [] 0 0 _ _
  have hx := B.exec
  have hb := B.bytes
  have hr := B.returns
  have hts : ∀ w ∈ ALL, w.before ([.ref ad, .int t, .int z, .int m9] : List Value).toArray s = true := fun w h => atoms_spec (ws := (.code yX7_setTie cX7_setTie 4 (some .int) :: ALL)) B.pre w (List.mem_cons_of_mem _ h)
  have hown : s.vm.findClass RX7 = some m.cls := findClass_of_methodNamed B.named
  have hlocks := B.notSynchronized
  subst hsz
  have hD := hD0.self (sz := s.heap.size)
  clear hD0
  generalize hAe : va_A ((wDp ad o pa ka (fx 0) (sx 0)) ++ ((wOf o (x 0) (y 0)) ++ (wSt y rp rw rt cI cQ P n Wi Ti (nI nt)))) s.heap.size = A at hD hZ ⊢
  have hA : ∀ q : Nat, s.heap.size ≤ q → A q := fun q h => by rw [← hAe]; exact Or.inr h
  have hS : va_S A s.heap s.heap [] := va_S.rf
  have hl := lv_entry ([.ref ad, .int t, .int z, .int m9]) (n := 4) (Nat.le_of_ble_eq_true rfl)
  rw [lg_entry_eq]
  generalize (lg_sl ([.ref ad, .int t, .int z, .int m9]) ++ List.replicate (4 - (lg_sl ([.ref ad, .int t, .int z, .int m9])).length) Slot.unset).toArray = ls at hl ⊢
  have hl : lv_has ls 4 [(0, .ref ad), (1, .int t), (2, .int z), (3, .int m9)] := hl
  obtain ⟨H, hHe⟩ : ∃ H : Heap, H = s.heap := ⟨_, rfl⟩
  obtain ⟨locs, hLe⟩ : ∃ L : List Loc, L = [] := ⟨_, rfl⟩
  have hP : va_P D vwCl ((wDp ad o pa ka (fx 0) (sx 0)) ++ ((wOf o (x 0) (y 0)) ++ (wSt y rp rw rt cI cQ P n Wi Ti (nI nt)))) H := by rw [hHe]; exact hP
  have hS : va_S A s.heap H locs := by rw [hHe, hLe]; exact hS
  refine W.eqHL hHe hLe ?_
  refine lv_aload_n hx hb dX7_setTie_0 rfl (lv_at hl 0 rfl) ?_
  refine lv_iload_n hx hb dX7_setTie_1 rfl (lv_at hl 1 rfl) ?_
  refine rx_v (wr := ([] : va_W)) (w_VX (As := [.int t]) ⟨hx, hb, hml, hown, hts⟩ (c_X7_requireTeam l D cI cZ cQ cJ ad o pa ka fx sx x y rp rw rt P n Wi Ti nt t H.size (by first | assumption | omega) (by first | assumption | omega)) (gV t2_228 t2_230 t0_9 t1_1 t2_231) rfl rfl hd_X7_requireTeam ⟨Nat.le_of_ble_eq_true rfl, Nat.le_of_ble_eq_true rfl⟩ (rx_pre hP hD hSt hDc hZ hS hA [0, 1, 2, 3, 4, 5, 6, 7, 8, 9, 10, 11, 12, 13, 14, 15, 16, 17, 18, 19, 20, 21, 22, 23, 24, 25, 26, 27] rfl (by decide)) (va_recv hSt.1 hP (ci := 7) (q0 := 0) rfl rfl) rfl hl.1 (rest := []) rfl (Nat.le_of_ble_eq_true rfl) dX7_setTie_2 ⟨Nat.le_of_ble_eq_true rfl, Nat.le_of_ble_eq_true rfl⟩) hP hD hS hA [0, 1, 2, 3, 4, 5, 6, 7, 8, 9, 10, 11, 12, 13, 14, 15, 16, 17, 18, 19, 20, 21, 22, 23, 24, 25, 26, 27] [] rfl rfl (by decide) (by decide) (fun E9 ce9 q9 x9 H locs hx9 hP hD hS hc91 hc92 hc93 => ?_) (fun  u_1 H locs hw9 hP hD hS => ?_)
  · have hx9 : E9 = "java/lang/IndexOutOfBoundsException" ∧ ¬ inN t nt := hx9
    have hP : va_P D vwCl ((wDp ad o pa ka (fx 0) (sx 0)) ++ ((wOf o (x 0) (y 0)) ++ (wSt y rp rw rt cI cQ P n Wi Ti (nI nt)))) H := hP
    have hD : va_D A ((wDp ad o pa ka (fx 0) (sx 0)) ++ ((wOf o (x 0) (y 0)) ++ (wSt y rp rw rt cI cQ P n Wi Ti (nI nt)))) := hD
    have hP9 : va_P D vwCl ((wDp ad o pa ka (fx 0) (sx 0)) ++ ((wOf o (x 0) (y 0)) ++ (wSt y rp rw rt cI cQ P n Wi Ti (nI nt)))) H := hP
    have hD9 : va_D A ((wDp ad o pa ka (fx 0) (sx 0)) ++ ((wOf o (x 0) (y 0)) ++ (wSt y rp rw rt cI cQ P n Wi Ti (nI nt)))) := hD
    exact vx_widen (k := 4) (n := 24) (by omega) (by omega) (rx_on (u := ()) ht hlocks (Or.inl ⟨hx9.1, Or.inl ⟨fun q9 => hx9.2 q9.1, rfl, rfl⟩⟩) hP9 hD9 hS hc91 hc92 hc93 (Nat.le_refl _) (Nat.le_refl _))
  · have f_2 := hw9
    have hin : inN t nt := f_2
    have hP : va_P D vwCl ((wDp ad o pa ka (fx 0) (sx 0)) ++ ((wOf o (x 0) (y 0)) ++ (wSt y rp rw rt cI cQ P n Wi Ti (nI nt)))) H := hP
    have hD : va_D A ((wDp ad o pa ka (fx 0) (sx 0)) ++ ((wOf o (x 0) (y 0)) ++ (wSt y rp rw rt cI cQ P n Wi Ti (nI nt)))) := hD
    obtain ⟨tt, h_tt, rfl⟩ := hin
    refine lv_aload_n hx hb dX7_setTie_5 rfl (lv_at hl 0 rfl) ?_
    refine lv_iload_n hx hb dX7_setTie_6 rfl (lv_at hl 2 rfl) ?_
    refine rx_v (wr := ([] : va_W)) (w_VX (As := [.int z]) ⟨hx, hb, hml, hown, hts⟩ (c_X7_requireTeam l D cI cZ cQ cJ ad o pa ka fx sx x y rp rw rt P n Wi Ti nt z H.size (by first | assumption | omega) (by first | assumption | omega)) (gV t2_228 t2_230 t0_9 t1_1 t2_231) rfl rfl hd_X7_requireTeam ⟨Nat.le_of_ble_eq_true rfl, Nat.le_of_ble_eq_true rfl⟩ (rx_pre hP hD hSt hDc hZ hS hA [0, 1, 2, 3, 4, 5, 6, 7, 8, 9, 10, 11, 12, 13, 14, 15, 16, 17, 18, 19, 20, 21, 22, 23, 24, 25, 26, 27] rfl (by decide)) (va_recv hSt.1 hP (ci := 7) (q0 := 0) rfl rfl) rfl hl.1 (rest := []) rfl (Nat.le_of_ble_eq_true rfl) dX7_setTie_7 ⟨Nat.le_of_ble_eq_true rfl, Nat.le_of_ble_eq_true rfl⟩) hP hD hS hA [0, 1, 2, 3, 4, 5, 6, 7, 8, 9, 10, 11, 12, 13, 14, 15, 16, 17, 18, 19, 20, 21, 22, 23, 24, 25, 26, 27] [] rfl rfl (by decide) (by decide) (fun E9 ce9 q9 x9 H locs hx9 hP hD hS hc91 hc92 hc93 => ?_) (fun  u_3 H locs hw9 hP hD hS => ?_)
    · have hx9 : E9 = "java/lang/IndexOutOfBoundsException" ∧ ¬ inN z nt := hx9
      have hP : va_P D vwCl ((wDp ad o pa ka (fx 0) (sx 0)) ++ ((wOf o (x 0) (y 0)) ++ (wSt y rp rw rt cI cQ P n Wi Ti (nI nt)))) H := hP
      have hD : va_D A ((wDp ad o pa ka (fx 0) (sx 0)) ++ ((wOf o (x 0) (y 0)) ++ (wSt y rp rw rt cI cQ P n Wi Ti (nI nt)))) := hD
      have hP9 : va_P D vwCl ((wDp ad o pa ka (fx 0) (sx 0)) ++ ((wOf o (x 0) (y 0)) ++ (wSt y rp rw rt cI cQ P n Wi Ti (nI nt)))) H := hP
      have hD9 : va_D A ((wDp ad o pa ka (fx 0) (sx 0)) ++ ((wOf o (x 0) (y 0)) ++ (wSt y rp rw rt cI cQ P n Wi Ti (nI nt)))) := hD
      exact vx_widen (k := 4) (n := 24) (by omega) (by omega) (rx_on (u := ()) ht hlocks (Or.inl ⟨hx9.1, Or.inl ⟨fun q9 => hx9.2 q9.2, rfl, rfl⟩⟩) hP9 hD9 hS hc91 hc92 hc93 (Nat.le_refl _) (Nat.le_refl _))
    · have f_4 := hw9
      have hin2 : inN z nt := f_4
      have hP : va_P D vwCl ((wDp ad o pa ka (fx 0) (sx 0)) ++ ((wOf o (x 0) (y 0)) ++ (wSt y rp rw rt cI cQ P n Wi Ti (nI nt)))) H := hP
      have hD : va_D A ((wDp ad o pa ka (fx 0) (sx 0)) ++ ((wOf o (x 0) (y 0)) ++ (wSt y rp rw rt cI cQ P n Wi Ti (nI nt)))) := hD
      obtain ⟨zz, h_zz, rfl⟩ := hin2
      refine lv_aload_n hx hb dX7_setTie_10 rfl (lv_at hl 0 rfl) ?_
      refine lv_iload_n hx hb dX7_setTie_11 rfl (lv_at hl 3 rfl) ?_
      refine lv_iconst (v := nI 0) hx hb dX7_setTie_12 (by decide) ?_
      refine lv_bipush (v := nI 9) hx hb dX7_setTie_13 (by decide) ?_
      refine rx_v (wr := (wOf o (x 0) (y 0)) ++ (wSt y rp rw rt cI cQ P n Wi Ti (nI nt))) (w_VX (As := [.int m9, .int (nI 0), .int (nI 9)]) ⟨hx, hb, hml, hown, hts⟩ (c_X7_requireRange l D cI cZ cQ cJ ad o pa ka fx sx m9 0 9 H.size (by first | assumption | omega) (by first | assumption | omega) (by first | assumption | omega)) (gV t2_177 t2_179 t0_7 t1_1 t2_180) rfl rfl hd_X7_requireRange ⟨Nat.le_of_ble_eq_true rfl, Nat.le_of_ble_eq_true rfl⟩ (rx_pre hP hD hSt hDc hZ hS hA [0] rfl (by decide)) (va_recv hSt.1 hP (ci := 7) (q0 := 0) rfl rfl) rfl hl.1 (rest := []) rfl (Nat.le_of_ble_eq_true rfl) dX7_setTie_15 ⟨Nat.le_of_ble_eq_true rfl, Nat.le_of_ble_eq_true rfl⟩) hP hD hS hA [0] [1, 2, 3, 4, 5, 6, 7, 8, 9, 10, 11, 12, 13, 14, 15, 16, 17, 18, 19, 20, 21, 22, 23, 24, 25, 26, 27] rfl rfl (by decide) (by decide) (fun E9 ce9 q9 x9 H locs hx9 hP hD hS hc91 hc92 hc93 => ?_) (fun  u_5 H locs hw9 hP hD hS => ?_)
      · have hx9 : E9 = "java/lang/IllegalArgumentException" ∧ ¬ inR m9 0 9 := hx9
        have hP : va_P D vwCl (((wOf o (x 0) (y 0)) ++ (wSt y rp rw rt cI cQ P n Wi Ti (nI nt))) ++ (wDp ad o pa ka (fx 0) (sx 0))) H := hP
        have hD : va_D A (((wOf o (x 0) (y 0)) ++ (wSt y rp rw rt cI cQ P n Wi Ti (nI nt))) ++ (wDp ad o pa ka (fx 0) (sx 0))) := hD
        have hP9 : va_P D vwCl ((wDp ad o pa ka (fx 0) (sx 0)) ++ ((wOf o (x 0) (y 0)) ++ (wSt y rp rw rt cI cQ P n Wi Ti (nI nt)))) H := (hP.sub (ws' := (wDp ad o pa ka (fx 0) (sx 0)) ++ ((wOf o (x 0) (y 0)) ++ (wSt y rp rw rt cI cQ P n Wi Ti (nI nt)))) [27, 0, 1, 2, 3, 4, 5, 6, 7, 8, 9, 10, 11, 12, 13, 14, 15, 16, 17, 18, 19, 20, 21, 22, 23, 24, 25, 26] rfl)
        have hD9 : va_D A ((wDp ad o pa ka (fx 0) (sx 0)) ++ ((wOf o (x 0) (y 0)) ++ (wSt y rp rw rt cI cQ P n Wi Ti (nI nt)))) := (hD.sub (ws' := (wDp ad o pa ka (fx 0) (sx 0)) ++ ((wOf o (x 0) (y 0)) ++ (wSt y rp rw rt cI cQ P n Wi Ti (nI nt)))) [27, 0, 1, 2, 3, 4, 5, 6, 7, 8, 9, 10, 11, 12, 13, 14, 15, 16, 17, 18, 19, 20, 21, 22, 23, 24, 25, 26] (by decide) rfl)
        exact vx_widen (k := 4) (n := 24) (by omega) (by omega) (rx_on (u := ()) ht hlocks (Or.inr ⟨hx9.1, Or.inr (Or.inl ⟨⟨⟨tt, h_tt, rfl⟩, ⟨zz, h_zz, rfl⟩⟩, fun q9 => hx9.2 q9.1, rfl, rfl⟩)⟩) hP9 hD9 hS hc91 hc92 hc93 (Nat.le_refl _) (Nat.le_refl _))
      · have f_6 := hw9
        have hr9 : inR m9 0 9 := f_6
        have hP : va_P D vwCl (((wOf o (x 0) (y 0)) ++ (wSt y rp rw rt cI cQ P n Wi Ti (nI nt))) ++ (wDp ad o pa ka (fx 0) (sx 0))) H := hP
        have hD : va_D A (((wOf o (x 0) (y 0)) ++ (wSt y rp rw rt cI cQ P n Wi Ti (nI nt))) ++ (wDp ad o pa ka (fx 0) (sx 0))) := hD
        refine lv_iload_n hx hb dX7_setTie_18 rfl (lv_at hl 1 rfl) ?_
        refine lv_iload_n hx hb dX7_setTie_19 rfl (lv_at hl 2 rfl) ?_
        refine lv_icmp_ne (tgt := 33) hx hb dX7_setTie_20 (by decide) (fun c_7 => ?_) (fun c_7 => ?_)
        · have c_7 := z_ne (by omega) (by omega) c_7
          refine lv_aload_n hx hb dX7_setTie_33 rfl (lv_at hl 0 rfl) ?_
          refine va_get (D := D) (ci := 7) (v := .ref o) (C := RX7) (T := TX7) (N := 5) hx hb hts tu_X7 hown hSt.1 hP 27 rfl rfl 0 (by decide) (hts _ t1_208) (fun _ h9 => h9) rfl dX7_setTie_34 ?_
          refine va_getN (D := D) (ci := 3) (v := .ref (y 0)) (C := RX3) (T := TX3) (N := 2) hx hb hts tu_X3 hown hSt.1 hP 0 rfl rfl 1 (by decide) (nf_9 hSt.2) (fun _ h9 => h9) rfl dX7_setTie_37 ?_
          refine lv_iload_n hx hb dX7_setTie_40 rfl (lv_at hl 1 rfl) ?_
          refine lv_iload_n hx hb dX7_setTie_41 rfl (lv_at hl 2 rfl) ?_
          refine lv_iload_n hx hb dX7_setTie_42 rfl (lv_at hl 3 rfl) ?_
          refine rw_i (wr := (wOf o (x 0) (y 0)) ++ (wDp ad o pa ka (fx 0) (sx 0))) (w_V (As := [.int (nI tt), .int (nI zz), .int m9]) ⟨hx, hb, hml, hown, hts⟩ (c_X5_changeTie l D cI cZ cQ cJ y rp rw rt P n Wi Ti (nI nt) tt zz m9 H.size (by first | assumption | omega) (by first | assumption | omega)) (gV t3_21 t3_22 t3_23 t1_4 t3_24) rfl rfl hd_X5_changeTie ⟨Nat.le_of_ble_eq_true rfl, Nat.le_of_ble_eq_true rfl⟩ (rw_pre hP hD hSt [1, 2, 3, 4, 5, 6, 7, 8, 9, 10, 11, 12, 13, 14, 15, 16, 17, 18, 19, 20, 21, 22, 23, 24, 25, 26] rfl (by decide)) (va_recv hSt.1 hP (ci := 5) (q0 := 1) rfl rfl) rfl hl.1 (rest := []) rfl (Nat.le_of_ble_eq_true rfl) dX7_setTie_43 ⟨Nat.le_of_ble_eq_true rfl, Nat.le_of_ble_eq_true rfl⟩) hP hD hS hA [1, 2, 3, 4, 5, 6, 7, 8, 9, 10, 11, 12, 13, 14, 15, 16, 17, 18, 19, 20, 21, 22, 23, 24, 25, 26] [0, 27] rfl rfl (by decide) (by decide) (fun r u_8 H locs hw9 hP hD hS => ?_)
          obtain rfl := hw9
          have hP : va_P D vwCl (((wOf o (x 0) (y 0)) ++ (wDp ad o pa ka (fx 0) (sx 0))) ++ (wSt y rp rw rt cI cQ P n Wi (u2 (u2 Ti tt zz m9) zz tt m9) (nI nt))) H := hP
          have hD : va_D A (((wOf o (x 0) (y 0)) ++ (wDp ad o pa ka (fx 0) (sx 0))) ++ (wSt y rp rw rt cI cQ P n Wi (u2 (u2 Ti tt zz m9) zz tt m9) (nI nt))) := hD
          have hP9 : va_P D vwCl ((wDp ad o pa ka (fx 0) (sx 0)) ++ ((wOf o (x 0) (y 0)) ++ (wSt y rp rw rt cI cQ P n Wi (u2 (u2 Ti tt zz m9) zz tt m9) (nI nt)))) H := (hP.sub (ws' := (wDp ad o pa ka (fx 0) (sx 0)) ++ ((wOf o (x 0) (y 0)) ++ (wSt y rp rw rt cI cQ P n Wi (u2 (u2 Ti tt zz m9) zz tt m9) (nI nt)))) [1, 0, 2, 3, 4, 5, 6, 7, 8, 9, 10, 11, 12, 13, 14, 15, 16, 17, 18, 19, 20, 21, 22, 23, 24, 25, 26, 27] rfl)
          have hD9 : va_D A ((wDp ad o pa ka (fx 0) (sx 0)) ++ ((wOf o (x 0) (y 0)) ++ (wSt y rp rw rt cI cQ P n Wi (u2 (u2 Ti tt zz m9) zz tt m9) (nI nt)))) := (hD.sub (ws' := (wDp ad o pa ka (fx 0) (sx 0)) ++ ((wOf o (x 0) (y 0)) ++ (wSt y rp rw rt cI cQ P n Wi (u2 (u2 Ti tt zz m9) zz tt m9) (nI nt)))) [1, 0, 2, 3, 4, 5, 6, 7, 8, 9, 10, 11, 12, 13, 14, 15, 16, 17, 18, 19, 20, 21, 22, 23, 24, 25, 26, 27] (by decide) rfl)
          have g_9 : sSetTie nt Ti (nI tt) (nI zz) m9 0 (Ti tt zz) (u2 (u2 Ti tt zz m9) zz tt m9) := Or.inr (Or.inr ⟨⟨⟨tt, h_tt, rfl⟩, ⟨zz, h_zz, rfl⟩⟩, ⟨hr9, fun q9 => c_7 (z_eq (by omega) (by omega) q9)⟩, rfl, by rw [nIc (by omega), nIc (by omega)], by rw [nIc (by omega), nIc (by omega)]⟩)
          refine W.widen (k := 4) (n := 24) (by omega) (by omega) ?_
          exact vx_ret (W.iret (v := Ti tt zz) hx hb hr (fun t9 ht9 hW9 => ⟨⟨Ti tt zz, (Ti tt zz, u2 (u2 Ti tt zz m9) zz tt m9), rfl, ⟨rfl, g_9⟩, by rw [ht9]; exact hP9, hD9⟩, hS.F ht9⟩) hS.2.2 dX7_setTie_46)
        · have c_7 := z_eq (by omega) (by omega) c_7
          have hP9 : va_P D vwCl ((wDp ad o pa ka (fx 0) (sx 0)) ++ ((wOf o (x 0) (y 0)) ++ (wSt y rp rw rt cI cQ P n Wi Ti (nI nt)))) H := (hP.sub (ws' := (wDp ad o pa ka (fx 0) (sx 0)) ++ ((wOf o (x 0) (y 0)) ++ (wSt y rp rw rt cI cQ P n Wi Ti (nI nt)))) [27, 0, 1, 2, 3, 4, 5, 6, 7, 8, 9, 10, 11, 12, 13, 14, 15, 16, 17, 18, 19, 20, 21, 22, 23, 24, 25, 26] rfl)
          have hD9 : va_D A ((wDp ad o pa ka (fx 0) (sx 0)) ++ ((wOf o (x 0) (y 0)) ++ (wSt y rp rw rt cI cQ P n Wi Ti (nI nt)))) := (hD.sub (ws' := (wDp ad o pa ka (fx 0) (sx 0)) ++ ((wOf o (x 0) (y 0)) ++ (wSt y rp rw rt cI cQ P n Wi Ti (nI nt)))) [27, 0, 1, 2, 3, 4, 5, 6, 7, 8, 9, 10, 11, 12, 13, 14, 15, 16, 17, 18, 19, 20, 21, 22, 23, 24, 25, 26] (by decide) rfl)
          exact tw_1 hx hb hfl hown hts hSt hDc hZ hS (hl.1.trans hml.symm) 11 rfl dX7_setTie_23 dX7_setTie_26 dX7_setTie_27 dX7_setTie_29 dX7_setTie_32 ht (Nat.le_of_ble_eq_true rfl) (Nat.le_of_ble_eq_true rfl) (Nat.le_of_ble_eq_true rfl) (Nat.le_of_ble_eq_true rfl) hlocks (rx_new (u := ()) (Or.inr ⟨rfl, Or.inr (Or.inl ⟨⟨⟨tt, h_tt, rfl⟩, ⟨zz, h_zz, rfl⟩⟩, fun q9 => q9.2 (by rw [c_7]), rfl, rfl⟩)⟩) hP9 hD9 hS) hS.2.2 (Nat.le_of_ble_eq_true rfl) (Nat.le_of_ble_eq_true rfl)
set_option maxHeartbeats 4000000 in
set_option maxRecDepth 100000 in
theorem c_X7_place (l : Launch) (D : va_G) (cI cZ cQ cJ : ClassId) (ad : Nat) (o : Nat) (pa : Nat) (ka : Nat) (fx : Nat → Nat) (sx : Nat → Nat) (x : Nat → Nat) (r : Nat → Nat) (w : Nat → Int32) (q : Nat → Int32) (d : Nat → Int32) (T : Nat → Nat → Int32) (st : Nat → Int32) (re : Nat → Int32) (rc : Int32) (nz : Nat) (y : Nat → Nat) (rp : Nat → Nat) (rw : Nat → Nat) (rt : Nat → Nat) (P : Nat → Nat → Int32) (n : Nat → Int32) (Wi : Nat → Nat → Int32) (Ti : Nat → Nat → Int32) (nt : Nat) (pb : Nat) (zo : Nat → Int32) (t : Int32) (z : Int32) (sz : Nat) (hnz : nz ≤ 7) (hnt : nt ≤ 7) (hfl : l.stackTraces = false) : vx_Met l yX7_place (.code yX7_place cX7_place 4 (some .int) :: ALL) ({ frames := 7, cells := 3, slots := 18, locals := 105 } : Room) (va_Pc [.ref ad, .int t, .int z] (rx_P D cI cZ cQ cJ ((wDp ad o pa ka (fx 0) (sx 0)) ++ ((wOf o (x 0) (y 0)) ++ ((wFl x r cI cZ cQ w q d T st re rc (nI nz)) ++ ((wSt y rp rw rt cI cQ P n Wi Ti (nI nt)) ++ (wPl pa pb cI zo))))) sz)) (va_Qi (fun (r9 : Int32) (u9 : Int32 × (Nat → Int32)) => (r9 = u9.1) ∧ (sPlace nt nz zo n d t z 0 u9.1 u9.2)) (rw_B D (va_A ((wDp ad o pa ka (fx 0) (sx 0)) ++ ((wOf o (x 0) (y 0)) ++ ((wFl x r cI cZ cQ w q d T st re rc (nI nz)) ++ ((wSt y rp rw rt cI cQ P n Wi Ti (nI nt)) ++ (wPl pa pb cI zo))))) sz) (fun u9 : Int32 × (Nat → Int32) => (wDp ad o pa ka (fx 0) (sx 0)) ++ ((wOf o (x 0) (y 0)) ++ ((wFl x r cI cZ cQ w q d T st re rc (nI nz)) ++ ((wSt y rp rw rt cI cQ P n Wi Ti (nI nt)) ++ (wPl pa pb cI u9.2)))))) (va_A ((wDp ad o pa ka (fx 0) (sx 0)) ++ ((wOf o (x 0) (y 0)) ++ ((wFl x r cI cZ cQ w q d T st re rc (nI nz)) ++ ((wSt y rp rw rt cI cQ P n Wi Ti (nI nt)) ++ (wPl pa pb cI zo))))) sz)) (rx_X (fun (E9 : String) (x9 : Unit) => (E9 = "java/lang/IndexOutOfBoundsException" ∧ sPlace nt nz zo n d t z 1 0 zo) ∨ (E9 = "java/lang/IllegalStateException" ∧ sPlace nt nz zo n d t z 2 0 zo)) D (va_A ((wDp ad o pa ka (fx 0) (sx 0)) ++ ((wOf o (x 0) (y 0)) ++ ((wFl x r cI cZ cQ w q d T st re rc (nI nz)) ++ ((wSt y rp rw rt cI cQ P n Wi Ti (nI nt)) ++ (wPl pa pb cI zo))))) sz) (fun x9 : Unit => (wDp ad o pa ka (fx 0) (sx 0)) ++ ((wOf o (x 0) (y 0)) ++ ((wFl x r cI cZ cQ w q d T st re rc (nI nz)) ++ ((wSt y rp rw rt cI cQ P n Wi Ti (nI nt)) ++ (wPl pa pb cI zo)))))) 3 18 (va_A ((wDp ad o pa ka (fx 0) (sx 0)) ++ ((wOf o (x 0) (y 0)) ++ ((wFl x r cI cZ cQ w q d T st re rc (nI nz)) ++ ((wSt y rp rw rt cI cQ P n Wi Ti (nI nt)) ++ (wPl pa pb cI zo))))) sz) := by
  refine vx_ofW (cc := cX7_place) (maxL := 4) (ret := (some .int)) (by decide) rfl ?_
  intro p e s m args below meth c s₁ B hml ht hv
  obtain ⟨rfl, ⟨hsz, hP, hSt, hD0⟩, hDc, hZ⟩ := hv
  change W p l e ({ frames := 7, cells := 3, slots := 18, locals := 105 } : Room) s m _ below meth c s.heap [] 0 0 _ _
  have hx := B.exec
  have hb := B.bytes
  have hr := B.returns
  have hts : ∀ w ∈ ALL, w.before ([.ref ad, .int t, .int z] : List Value).toArray s = true := fun w h => atoms_spec (ws := (.code yX7_place cX7_place 4 (some .int) :: ALL)) B.pre w (List.mem_cons_of_mem _ h)
  have hown : s.vm.findClass RX7 = some m.cls := findClass_of_methodNamed B.named
  have hlocks := B.notSynchronized
  subst hsz
  have hD := hD0.self (sz := s.heap.size)
  clear hD0
  generalize hAe : va_A ((wDp ad o pa ka (fx 0) (sx 0)) ++ ((wOf o (x 0) (y 0)) ++ ((wFl x r cI cZ cQ w q d T st re rc (nI nz)) ++ ((wSt y rp rw rt cI cQ P n Wi Ti (nI nt)) ++ (wPl pa pb cI zo))))) s.heap.size = A at hD hZ ⊢
  have hA : ∀ q : Nat, s.heap.size ≤ q → A q := fun q h => by rw [← hAe]; exact Or.inr h
  have hS : va_S A s.heap s.heap [] := va_S.rf
  have hl := lv_entry ([.ref ad, .int t, .int z]) (n := 4) (Nat.le_of_ble_eq_true rfl)
  rw [lg_entry_eq]
  generalize (lg_sl ([.ref ad, .int t, .int z]) ++ List.replicate (4 - (lg_sl ([.ref ad, .int t, .int z])).length) Slot.unset).toArray = ls at hl ⊢
  have hl : lv_has ls 4 [(0, .ref ad), (1, .int t), (2, .int z)] := hl
  obtain ⟨H, hHe⟩ : ∃ H : Heap, H = s.heap := ⟨_, rfl⟩
  obtain ⟨locs, hLe⟩ : ∃ L : List Loc, L = [] := ⟨_, rfl⟩
  have hP : va_P D vwCl ((wDp ad o pa ka (fx 0) (sx 0)) ++ ((wOf o (x 0) (y 0)) ++ ((wFl x r cI cZ cQ w q d T st re rc (nI nz)) ++ ((wSt y rp rw rt cI cQ P n Wi Ti (nI nt)) ++ (wPl pa pb cI zo))))) H := by rw [hHe]; exact hP
  have hS : va_S A s.heap H locs := by rw [hHe, hLe]; exact hS
  refine W.eqHL hHe hLe ?_
  refine lv_aload_n hx hb dX7_place_0 rfl (lv_at hl 0 rfl) ?_
  refine lv_iload_n hx hb dX7_place_1 rfl (lv_at hl 1 rfl) ?_
  refine rx_v (wr := (wFl x r cI cZ cQ w q d T st re rc (nI nz)) ++ (wPl pa pb cI zo)) (w_VX (As := [.int t]) ⟨hx, hb, hml, hown, hts⟩ (c_X7_requireTeam l D cI cZ cQ cJ ad o pa ka fx sx x y rp rw rt P n Wi Ti nt t H.size (by first | assumption | omega) (by first | assumption | omega)) (gV t2_228 t2_230 t0_9 t1_1 t2_231) rfl rfl hd_X7_requireTeam ⟨Nat.le_of_ble_eq_true rfl, Nat.le_of_ble_eq_true rfl⟩ (rx_pre hP hD hSt hDc hZ hS hA [0, 1, 16, 17, 18, 19, 20, 21, 22, 23, 24, 25, 26, 27, 28, 29, 30, 31, 32, 33, 34, 35, 36, 37, 38, 39, 40, 41] rfl (by decide)) (va_recv hSt.1 hP (ci := 7) (q0 := 0) rfl rfl) rfl hl.1 (rest := []) rfl (Nat.le_of_ble_eq_true rfl) dX7_place_2 ⟨Nat.le_of_ble_eq_true rfl, Nat.le_of_ble_eq_true rfl⟩) hP hD hS hA [0, 1, 16, 17, 18, 19, 20, 21, 22, 23, 24, 25, 26, 27, 28, 29, 30, 31, 32, 33, 34, 35, 36, 37, 38, 39, 40, 41] [2, 3, 4, 5, 6, 7, 8, 9, 10, 11, 12, 13, 14, 15, 42, 43] rfl rfl (by decide) (by decide) (fun E9 ce9 q9 x9 H locs hx9 hP hD hS hc91 hc92 hc93 => ?_) (fun  u_1 H locs hw9 hP hD hS => ?_)
  · have hx9 : E9 = "java/lang/IndexOutOfBoundsException" ∧ ¬ inN t nt := hx9
    have hP : va_P D vwCl (((wFl x r cI cZ cQ w q d T st re rc (nI nz)) ++ (wPl pa pb cI zo)) ++ ((wDp ad o pa ka (fx 0) (sx 0)) ++ ((wOf o (x 0) (y 0)) ++ (wSt y rp rw rt cI cQ P n Wi Ti (nI nt))))) H := hP
    have hD : va_D A (((wFl x r cI cZ cQ w q d T st re rc (nI nz)) ++ (wPl pa pb cI zo)) ++ ((wDp ad o pa ka (fx 0) (sx 0)) ++ ((wOf o (x 0) (y 0)) ++ (wSt y rp rw rt cI cQ P n Wi Ti (nI nt))))) := hD
    have hP9 : va_P D vwCl ((wDp ad o pa ka (fx 0) (sx 0)) ++ ((wOf o (x 0) (y 0)) ++ ((wFl x r cI cZ cQ w q d T st re rc (nI nz)) ++ ((wSt y rp rw rt cI cQ P n Wi Ti (nI nt)) ++ (wPl pa pb cI zo))))) H := (hP.sub (ws' := (wDp ad o pa ka (fx 0) (sx 0)) ++ ((wOf o (x 0) (y 0)) ++ ((wFl x r cI cZ cQ w q d T st re rc (nI nz)) ++ ((wSt y rp rw rt cI cQ P n Wi Ti (nI nt)) ++ (wPl pa pb cI zo))))) [16, 17, 0, 1, 2, 3, 4, 5, 6, 7, 8, 9, 10, 11, 12, 13, 18, 19, 20, 21, 22, 23, 24, 25, 26, 27, 28, 29, 30, 31, 32, 33, 34, 35, 36, 37, 38, 39, 40, 41, 42, 43, 14, 15] rfl)
    have hD9 : va_D A ((wDp ad o pa ka (fx 0) (sx 0)) ++ ((wOf o (x 0) (y 0)) ++ ((wFl x r cI cZ cQ w q d T st re rc (nI nz)) ++ ((wSt y rp rw rt cI cQ P n Wi Ti (nI nt)) ++ (wPl pa pb cI zo))))) := (hD.sub (ws' := (wDp ad o pa ka (fx 0) (sx 0)) ++ ((wOf o (x 0) (y 0)) ++ ((wFl x r cI cZ cQ w q d T st re rc (nI nz)) ++ ((wSt y rp rw rt cI cQ P n Wi Ti (nI nt)) ++ (wPl pa pb cI zo))))) [16, 17, 0, 1, 2, 3, 4, 5, 6, 7, 8, 9, 10, 11, 12, 13, 18, 19, 20, 21, 22, 23, 24, 25, 26, 27, 28, 29, 30, 31, 32, 33, 34, 35, 36, 37, 38, 39, 40, 41, 42, 43, 14, 15] (by decide) rfl)
    exact vx_widen (k := 3) (n := 18) (by omega) (by omega) (rx_on (u := ()) ht hlocks (Or.inl ⟨hx9.1, Or.inl ⟨fun q9 => hx9.2 q9.1, rfl, rfl⟩⟩) hP9 hD9 hS hc91 hc92 hc93 (Nat.le_refl _) (Nat.le_refl _))
  · have f_2 := hw9
    have hin : inN t nt := f_2
    have hP : va_P D vwCl (((wFl x r cI cZ cQ w q d T st re rc (nI nz)) ++ (wPl pa pb cI zo)) ++ ((wDp ad o pa ka (fx 0) (sx 0)) ++ ((wOf o (x 0) (y 0)) ++ (wSt y rp rw rt cI cQ P n Wi Ti (nI nt))))) H := hP
    have hD : va_D A (((wFl x r cI cZ cQ w q d T st re rc (nI nz)) ++ (wPl pa pb cI zo)) ++ ((wDp ad o pa ka (fx 0) (sx 0)) ++ ((wOf o (x 0) (y 0)) ++ (wSt y rp rw rt cI cQ P n Wi Ti (nI nt))))) := hD
    obtain ⟨tt, h_tt, rfl⟩ := hin
    refine lv_iload_n hx hb dX7_place_5 rfl (lv_at hl 2 rfl) ?_
    refine lv_iconst (v := (-1 : Int32)) hx hb dX7_place_6 (by decide) ?_
    refine lv_icmp_eq (tgt := 21) hx hb dX7_place_7 (by decide) (fun c_3 => ?_) (fun c_3 => ?_)
    · refine lv_aload_n hx hb dX7_place_21 rfl (lv_at hl 0 rfl) ?_
      refine va_get (D := D) (ci := 7) (v := .ref pa) (C := RX7) (T := TX7) (N := 5) hx hb hts tu_X7 hown hSt.1 hP 16 rfl rfl 1 (by decide) (hts _ t1_209) (fun _ h9 => h9) rfl dX7_place_22 ?_
      refine lv_iload_n hx hb dX7_place_25 rfl (lv_at hl 1 rfl) ?_
      refine ro_V (As := [.int (nI tt)]) (rest := []) (v := zo tt) ⟨hx, hb, hml, hown, hts⟩ (c_X4_zoneWith l D cI cZ cQ cJ pa pb zo tt (by first | assumption | omega)) (gV t2_238 t2_37 t2_38 t1_5 t2_39) rfl rfl hd_X4_zoneWith ⟨Nat.le_of_ble_eq_true rfl, Nat.le_of_ble_eq_true rfl⟩ (hP.sub (ws' := wPl pa pb cI zo) [14, 15] rfl) hSt (va_recv hSt.1 hP (ci := 4) (q0 := 14) rfl rfl) rfl hl.1 rfl (Nat.le_of_ble_eq_true rfl) dX7_place_26 (Nat.le_of_ble_eq_true rfl) (Nat.le_of_ble_eq_true rfl) ?_
      refine lv_istore_n (lv' := [(3, .int (zo tt)), (0, .ref ad), (1, .int (nI tt)), (2, .int z)]) hx hb dX7_place_29 rfl hl (by decide) rfl (fun ls hl => ?_)
      refine lv_aload_n hx hb dX7_place_30 rfl (lv_at hl 1 rfl) ?_
      refine va_get (D := D) (ci := 7) (v := .ref pa) (C := RX7) (T := TX7) (N := 5) hx hb hts tu_X7 hown hSt.1 hP 16 rfl rfl 1 (by decide) (hts _ t1_209) (fun _ h9 => h9) rfl dX7_place_31 ?_
      refine lv_iload_n hx hb dX7_place_34 rfl (lv_at hl 2 rfl) ?_
      refine lv_iload_n hx hb dX7_place_35 rfl (lv_at hl 3 rfl) ?_
      refine rw_v (wr := (wFl x r cI cZ cQ w q d T st re rc (nI nz)) ++ ((wDp ad o pa ka (fx 0) (sx 0)) ++ ((wOf o (x 0) (y 0)) ++ (wSt y rp rw rt cI cQ P n Wi Ti (nI nt))))) (w_V (As := [.int (nI tt), .int z]) ⟨hx, hb, hml, hown, hts⟩ (c_X4_lay l D cI cZ cQ cJ pa pb zo tt z H.size (by first | assumption | omega)) (gV t3_36 t2_29 t2_30 t1_5 t2_31) rfl rfl hd_X4_lay ⟨Nat.le_of_ble_eq_true rfl, Nat.le_of_ble_eq_true rfl⟩ (rw_pre hP hD hSt [14, 15] rfl (by decide)) (va_recv hSt.1 hP (ci := 4) (q0 := 14) rfl rfl) rfl hl.1 (rest := []) rfl (Nat.le_of_ble_eq_true rfl) dX7_place_36 ⟨Nat.le_of_ble_eq_true rfl, Nat.le_of_ble_eq_true rfl⟩) hP hD hS hA [14, 15] [0, 1, 2, 3, 4, 5, 6, 7, 8, 9, 10, 11, 12, 13, 16, 17, 18, 19, 20, 21, 22, 23, 24, 25, 26, 27, 28, 29, 30, 31, 32, 33, 34, 35, 36, 37, 38, 39, 40, 41, 42, 43] rfl rfl (by decide) (by decide) (fun  u_4 H locs hw9 hP hD hS => ?_)
      have hP : va_P D vwCl (((wFl x r cI cZ cQ w q d T st re rc (nI nz)) ++ ((wDp ad o pa ka (fx 0) (sx 0)) ++ ((wOf o (x 0) (y 0)) ++ (wSt y rp rw rt cI cQ P n Wi Ti (nI nt))))) ++ (wPl pa pb cI (upd zo tt z))) H := hP
      have hD : va_D A (((wFl x r cI cZ cQ w q d T st re rc (nI nz)) ++ ((wDp ad o pa ka (fx 0) (sx 0)) ++ ((wOf o (x 0) (y 0)) ++ (wSt y rp rw rt cI cQ P n Wi Ti (nI nt))))) ++ (wPl pa pb cI (upd zo tt z))) := hD
      refine lv_iload_n hx hb dX7_place_39 rfl (lv_at hl 0 rfl) ?_
      have hP9 : va_P D vwCl ((wDp ad o pa ka (fx 0) (sx 0)) ++ ((wOf o (x 0) (y 0)) ++ ((wFl x r cI cZ cQ w q d T st re rc (nI nz)) ++ ((wSt y rp rw rt cI cQ P n Wi Ti (nI nt)) ++ (wPl pa pb cI (upd zo tt z)))))) H := (hP.sub (ws' := (wDp ad o pa ka (fx 0) (sx 0)) ++ ((wOf o (x 0) (y 0)) ++ ((wFl x r cI cZ cQ w q d T st re rc (nI nz)) ++ ((wSt y rp rw rt cI cQ P n Wi Ti (nI nt)) ++ (wPl pa pb cI (upd zo tt z)))))) [14, 15, 0, 1, 2, 3, 4, 5, 6, 7, 8, 9, 10, 11, 12, 13, 16, 17, 18, 19, 20, 21, 22, 23, 24, 25, 26, 27, 28, 29, 30, 31, 32, 33, 34, 35, 36, 37, 38, 39, 40, 41, 42, 43] rfl)
      have hD9 : va_D A ((wDp ad o pa ka (fx 0) (sx 0)) ++ ((wOf o (x 0) (y 0)) ++ ((wFl x r cI cZ cQ w q d T st re rc (nI nz)) ++ ((wSt y rp rw rt cI cQ P n Wi Ti (nI nt)) ++ (wPl pa pb cI (upd zo tt z)))))) := (hD.sub (ws' := (wDp ad o pa ka (fx 0) (sx 0)) ++ ((wOf o (x 0) (y 0)) ++ ((wFl x r cI cZ cQ w q d T st re rc (nI nz)) ++ ((wSt y rp rw rt cI cQ P n Wi Ti (nI nt)) ++ (wPl pa pb cI (upd zo tt z)))))) [14, 15, 0, 1, 2, 3, 4, 5, 6, 7, 8, 9, 10, 11, 12, 13, 16, 17, 18, 19, 20, 21, 22, 23, 24, 25, 26, 27, 28, 29, 30, 31, 32, 33, 34, 35, 36, 37, 38, 39, 40, 41, 42, 43] (by decide) rfl)
      have g_5 : sPlace nt nz zo n d (nI tt) z 0 (zo tt) (upd zo tt z) := Or.inr (Or.inr ⟨⟨⟨tt, h_tt, rfl⟩, Or.inl c_3⟩, Or.inl c_3, rfl, by rw [nIc (by omega)], by rw [nIc (by omega)]⟩)
      refine W.widen (k := 3) (n := 18) (by omega) (by omega) ?_
      exact vx_ret (W.iret (v := zo tt) hx hb hr (fun t9 ht9 hW9 => ⟨⟨zo tt, (zo tt, upd zo tt z), rfl, ⟨rfl, g_5⟩, by rw [ht9]; exact hP9, hD9⟩, hS.F ht9⟩) hS.2.2 dX7_place_40)
    · refine lv_aload_n hx hb dX7_place_10 rfl (lv_at hl 0 rfl) ?_
      refine lv_iload_n hx hb dX7_place_11 rfl (lv_at hl 2 rfl) ?_
      refine rx_v (wr := (wPl pa pb cI zo) ++ (wSt y rp rw rt cI cQ P n Wi Ti (nI nt))) (w_VX (As := [.int z]) ⟨hx, hb, hml, hown, hts⟩ (c_X7_requireZone l D cI cZ cQ cJ ad o pa ka fx sx x r w q d T st re rc nz y z H.size (by first | assumption | omega) (by first | assumption | omega)) (gV t2_214 t2_216 t0_8 t1_1 t2_217) rfl rfl hd_X7_requireZone ⟨Nat.le_of_ble_eq_true rfl, Nat.le_of_ble_eq_true rfl⟩ (rx_pre hP hD hSt hDc hZ hS hA [16, 17, 0, 1, 2, 3, 4, 5, 6, 7, 8, 9, 10, 11, 12, 13] rfl (by decide)) (va_recv hSt.1 hP (ci := 7) (q0 := 16) rfl rfl) rfl hl.1 (rest := []) rfl (Nat.le_of_ble_eq_true rfl) dX7_place_12 ⟨Nat.le_of_ble_eq_true rfl, Nat.le_of_ble_eq_true rfl⟩) hP hD hS hA [16, 17, 0, 1, 2, 3, 4, 5, 6, 7, 8, 9, 10, 11, 12, 13] [14, 15, 18, 19, 20, 21, 22, 23, 24, 25, 26, 27, 28, 29, 30, 31, 32, 33, 34, 35, 36, 37, 38, 39, 40, 41, 42, 43] rfl rfl (by decide) (by decide) (fun E9 ce9 q9 x9 H locs hx9 hP hD hS hc91 hc92 hc93 => ?_) (fun  u_6 H locs hw9 hP hD hS => ?_)
      · have hx9 : E9 = "java/lang/IndexOutOfBoundsException" ∧ ¬ inN z nz := hx9
        have hP : va_P D vwCl (((wPl pa pb cI zo) ++ (wSt y rp rw rt cI cQ P n Wi Ti (nI nt))) ++ ((wDp ad o pa ka (fx 0) (sx 0)) ++ ((wOf o (x 0) (y 0)) ++ (wFl x r cI cZ cQ w q d T st re rc (nI nz))))) H := hP
        have hD : va_D A (((wPl pa pb cI zo) ++ (wSt y rp rw rt cI cQ P n Wi Ti (nI nt))) ++ ((wDp ad o pa ka (fx 0) (sx 0)) ++ ((wOf o (x 0) (y 0)) ++ (wFl x r cI cZ cQ w q d T st re rc (nI nz))))) := hD
        have hP9 : va_P D vwCl ((wDp ad o pa ka (fx 0) (sx 0)) ++ ((wOf o (x 0) (y 0)) ++ ((wFl x r cI cZ cQ w q d T st re rc (nI nz)) ++ ((wSt y rp rw rt cI cQ P n Wi Ti (nI nt)) ++ (wPl pa pb cI zo))))) H := (hP.sub (ws' := (wDp ad o pa ka (fx 0) (sx 0)) ++ ((wOf o (x 0) (y 0)) ++ ((wFl x r cI cZ cQ w q d T st re rc (nI nz)) ++ ((wSt y rp rw rt cI cQ P n Wi Ti (nI nt)) ++ (wPl pa pb cI zo))))) [28, 29, 30, 31, 32, 33, 34, 35, 36, 37, 38, 39, 40, 41, 42, 43, 2, 3, 4, 5, 6, 7, 8, 9, 10, 11, 12, 13, 14, 15, 16, 17, 18, 19, 20, 21, 22, 23, 24, 25, 26, 27, 0, 1] rfl)
        have hD9 : va_D A ((wDp ad o pa ka (fx 0) (sx 0)) ++ ((wOf o (x 0) (y 0)) ++ ((wFl x r cI cZ cQ w q d T st re rc (nI nz)) ++ ((wSt y rp rw rt cI cQ P n Wi Ti (nI nt)) ++ (wPl pa pb cI zo))))) := (hD.sub (ws' := (wDp ad o pa ka (fx 0) (sx 0)) ++ ((wOf o (x 0) (y 0)) ++ ((wFl x r cI cZ cQ w q d T st re rc (nI nz)) ++ ((wSt y rp rw rt cI cQ P n Wi Ti (nI nt)) ++ (wPl pa pb cI zo))))) [28, 29, 30, 31, 32, 33, 34, 35, 36, 37, 38, 39, 40, 41, 42, 43, 2, 3, 4, 5, 6, 7, 8, 9, 10, 11, 12, 13, 14, 15, 16, 17, 18, 19, 20, 21, 22, 23, 24, 25, 26, 27, 0, 1] (by decide) rfl)
        exact vx_widen (k := 3) (n := 18) (by omega) (by omega) (rx_on (u := ()) ht hlocks (Or.inl ⟨hx9.1, Or.inl ⟨fun q9 => q9.2.elim c_3 hx9.2, rfl, rfl⟩⟩) hP9 hD9 hS hc91 hc92 hc93 (Nat.le_refl _) (Nat.le_refl _))
      · have f_7 := hw9
        have hin2 : inN z nz := f_7
        have hP : va_P D vwCl (((wPl pa pb cI zo) ++ (wSt y rp rw rt cI cQ P n Wi Ti (nI nt))) ++ ((wDp ad o pa ka (fx 0) (sx 0)) ++ ((wOf o (x 0) (y 0)) ++ (wFl x r cI cZ cQ w q d T st re rc (nI nz))))) H := hP
        have hD : va_D A (((wPl pa pb cI zo) ++ (wSt y rp rw rt cI cQ P n Wi Ti (nI nt))) ++ ((wDp ad o pa ka (fx 0) (sx 0)) ++ ((wOf o (x 0) (y 0)) ++ (wFl x r cI cZ cQ w q d T st re rc (nI nz))))) := hD
        obtain ⟨zz, h_zz, rfl⟩ := hin2
        refine lv_aload_n hx hb dX7_place_15 rfl (lv_at hl 0 rfl) ?_
        refine lv_iload_n hx hb dX7_place_16 rfl (lv_at hl 1 rfl) ?_
        refine lv_iload_n hx hb dX7_place_17 rfl (lv_at hl 2 rfl) ?_
        refine rx_v (wr := ([] : va_W)) (w_VX (As := [.int (nI tt), .int (nI zz)]) ⟨hx, hb, hml, hown, hts⟩ (c_X7_requireRoom l D cI cZ cQ cJ ad o pa ka fx sx x r w q d T st re rc nz y rp rw rt P n Wi Ti nt pb zo tt zz H.size (by first | assumption | omega) (by first | assumption | omega) (by first | assumption | omega)) (gV t3_29 t3_31 t0_11 t1_1 t3_32) rfl rfl hd_X7_requireRoom ⟨Nat.le_of_ble_eq_true rfl, Nat.le_of_ble_eq_true rfl⟩ (rx_pre hP hD hSt hDc hZ hS hA [28, 29, 30, 31, 32, 33, 34, 35, 36, 37, 38, 39, 40, 41, 42, 43, 2, 3, 4, 5, 6, 7, 8, 9, 10, 11, 12, 13, 14, 15, 16, 17, 18, 19, 20, 21, 22, 23, 24, 25, 26, 27, 0, 1] rfl (by decide)) (va_recv hSt.1 hP (ci := 7) (q0 := 28) rfl rfl) rfl hl.1 (rest := []) rfl (Nat.le_of_ble_eq_true rfl) dX7_place_18 ⟨Nat.le_of_ble_eq_true rfl, Nat.le_of_ble_eq_true rfl⟩) hP hD hS hA [28, 29, 30, 31, 32, 33, 34, 35, 36, 37, 38, 39, 40, 41, 42, 43, 2, 3, 4, 5, 6, 7, 8, 9, 10, 11, 12, 13, 14, 15, 16, 17, 18, 19, 20, 21, 22, 23, 24, 25, 26, 27, 0, 1] [] rfl rfl (by decide) (by decide) (fun E9 ce9 q9 x9 H locs hx9 hP hD hS hc91 hc92 hc93 => ?_) (fun  u_8 H locs hw9 hP hD hS => ?_)
        · have hx9 : E9 = "java/lang/IllegalStateException" ∧ ¬ ((tAt zo (nI zz) = -1 ∨ tAt zo (nI zz) = nI tt) ∧ n tt ≤ d zz) := hx9
          have hP : va_P D vwCl ((wDp ad o pa ka (fx 0) (sx 0)) ++ ((wOf o (x 0) (y 0)) ++ ((wFl x r cI cZ cQ w q d T st re rc (nI nz)) ++ ((wSt y rp rw rt cI cQ P n Wi Ti (nI nt)) ++ (wPl pa pb cI zo))))) H := hP
          have hD : va_D A ((wDp ad o pa ka (fx 0) (sx 0)) ++ ((wOf o (x 0) (y 0)) ++ ((wFl x r cI cZ cQ w q d T st re rc (nI nz)) ++ ((wSt y rp rw rt cI cQ P n Wi Ti (nI nt)) ++ (wPl pa pb cI zo))))) := hD
          have hP9 : va_P D vwCl ((wDp ad o pa ka (fx 0) (sx 0)) ++ ((wOf o (x 0) (y 0)) ++ ((wFl x r cI cZ cQ w q d T st re rc (nI nz)) ++ ((wSt y rp rw rt cI cQ P n Wi Ti (nI nt)) ++ (wPl pa pb cI zo))))) H := hP
          have hD9 : va_D A ((wDp ad o pa ka (fx 0) (sx 0)) ++ ((wOf o (x 0) (y 0)) ++ ((wFl x r cI cZ cQ w q d T st re rc (nI nz)) ++ ((wSt y rp rw rt cI cQ P n Wi Ti (nI nt)) ++ (wPl pa pb cI zo))))) := hD
          exact vx_widen (k := 3) (n := 18) (by omega) (by omega) (rx_on (u := ()) ht hlocks (Or.inr ⟨hx9.1, Or.inr (Or.inl ⟨⟨⟨tt, h_tt, rfl⟩, Or.inr ⟨zz, h_zz, rfl⟩⟩, fun q9 => q9.elim c_3 (fun q8 => hx9.2 (by rw [nIc (by omega), nIc (by omega)] at q8; exact q8)), rfl, rfl⟩)⟩) hP9 hD9 hS hc91 hc92 hc93 (Nat.le_refl _) (Nat.le_refl _))
        · have f_9 := hw9
          have hro : (tAt zo (nI zz) = -1 ∨ tAt zo (nI zz) = nI tt) ∧ n tt ≤ d zz := f_9
          have hP : va_P D vwCl ((wDp ad o pa ka (fx 0) (sx 0)) ++ ((wOf o (x 0) (y 0)) ++ ((wFl x r cI cZ cQ w q d T st re rc (nI nz)) ++ ((wSt y rp rw rt cI cQ P n Wi Ti (nI nt)) ++ (wPl pa pb cI zo))))) H := hP
          have hD : va_D A ((wDp ad o pa ka (fx 0) (sx 0)) ++ ((wOf o (x 0) (y 0)) ++ ((wFl x r cI cZ cQ w q d T st re rc (nI nz)) ++ ((wSt y rp rw rt cI cQ P n Wi Ti (nI nt)) ++ (wPl pa pb cI zo))))) := hD
          refine lv_aload_n hx hb dX7_place_21 rfl (lv_at hl 0 rfl) ?_
          refine va_get (D := D) (ci := 7) (v := .ref pa) (C := RX7) (T := TX7) (N := 5) hx hb hts tu_X7 hown hSt.1 hP 0 rfl rfl 1 (by decide) (hts _ t1_209) (fun _ h9 => h9) rfl dX7_place_22 ?_
          refine lv_iload_n hx hb dX7_place_25 rfl (lv_at hl 1 rfl) ?_
          refine ro_V (As := [.int (nI tt)]) (rest := []) (v := zo tt) ⟨hx, hb, hml, hown, hts⟩ (c_X4_zoneWith l D cI cZ cQ cJ pa pb zo tt (by first | assumption | omega)) (gV t2_238 t2_37 t2_38 t1_5 t2_39) rfl rfl hd_X4_zoneWith ⟨Nat.le_of_ble_eq_true rfl, Nat.le_of_ble_eq_true rfl⟩ (hP.sub (ws' := wPl pa pb cI zo) [42, 43] rfl) hSt (va_recv hSt.1 hP (ci := 4) (q0 := 42) rfl rfl) rfl hl.1 rfl (Nat.le_of_ble_eq_true rfl) dX7_place_26 (Nat.le_of_ble_eq_true rfl) (Nat.le_of_ble_eq_true rfl) ?_
          refine lv_istore_n (lv' := [(3, .int (zo tt)), (0, .ref ad), (1, .int (nI tt)), (2, .int (nI zz))]) hx hb dX7_place_29 rfl hl (by decide) rfl (fun ls hl => ?_)
          refine lv_aload_n hx hb dX7_place_30 rfl (lv_at hl 1 rfl) ?_
          refine va_get (D := D) (ci := 7) (v := .ref pa) (C := RX7) (T := TX7) (N := 5) hx hb hts tu_X7 hown hSt.1 hP 0 rfl rfl 1 (by decide) (hts _ t1_209) (fun _ h9 => h9) rfl dX7_place_31 ?_
          refine lv_iload_n hx hb dX7_place_34 rfl (lv_at hl 2 rfl) ?_
          refine lv_iload_n hx hb dX7_place_35 rfl (lv_at hl 3 rfl) ?_
          refine rw_v (wr := (wDp ad o pa ka (fx 0) (sx 0)) ++ ((wOf o (x 0) (y 0)) ++ ((wFl x r cI cZ cQ w q d T st re rc (nI nz)) ++ (wSt y rp rw rt cI cQ P n Wi Ti (nI nt))))) (w_V (As := [.int (nI tt), .int (nI zz)]) ⟨hx, hb, hml, hown, hts⟩ (c_X4_lay l D cI cZ cQ cJ pa pb zo tt (nI zz) H.size (by first | assumption | omega)) (gV t3_36 t2_29 t2_30 t1_5 t2_31) rfl rfl hd_X4_lay ⟨Nat.le_of_ble_eq_true rfl, Nat.le_of_ble_eq_true rfl⟩ (rw_pre hP hD hSt [42, 43] rfl (by decide)) (va_recv hSt.1 hP (ci := 4) (q0 := 42) rfl rfl) rfl hl.1 (rest := []) rfl (Nat.le_of_ble_eq_true rfl) dX7_place_36 ⟨Nat.le_of_ble_eq_true rfl, Nat.le_of_ble_eq_true rfl⟩) hP hD hS hA [42, 43] [0, 1, 2, 3, 4, 5, 6, 7, 8, 9, 10, 11, 12, 13, 14, 15, 16, 17, 18, 19, 20, 21, 22, 23, 24, 25, 26, 27, 28, 29, 30, 31, 32, 33, 34, 35, 36, 37, 38, 39, 40, 41] rfl rfl (by decide) (by decide) (fun  u_10 H locs hw9 hP hD hS => ?_)
          have hP : va_P D vwCl (((wDp ad o pa ka (fx 0) (sx 0)) ++ ((wOf o (x 0) (y 0)) ++ ((wFl x r cI cZ cQ w q d T st re rc (nI nz)) ++ (wSt y rp rw rt cI cQ P n Wi Ti (nI nt))))) ++ (wPl pa pb cI (upd zo tt (nI zz)))) H := hP
          have hD : va_D A (((wDp ad o pa ka (fx 0) (sx 0)) ++ ((wOf o (x 0) (y 0)) ++ ((wFl x r cI cZ cQ w q d T st re rc (nI nz)) ++ (wSt y rp rw rt cI cQ P n Wi Ti (nI nt))))) ++ (wPl pa pb cI (upd zo tt (nI zz)))) := hD
          refine lv_iload_n hx hb dX7_place_39 rfl (lv_at hl 0 rfl) ?_
          have hP9 : va_P D vwCl ((wDp ad o pa ka (fx 0) (sx 0)) ++ ((wOf o (x 0) (y 0)) ++ ((wFl x r cI cZ cQ w q d T st re rc (nI nz)) ++ ((wSt y rp rw rt cI cQ P n Wi Ti (nI nt)) ++ (wPl pa pb cI (upd zo tt (nI zz))))))) H := (show va_P D vwCl ((wDp ad o pa ka (fx 0) (sx 0)) ++ ((wOf o (x 0) (y 0)) ++ ((wFl x r cI cZ cQ w q d T st re rc (nI nz)) ++ ((wSt y rp rw rt cI cQ P n Wi Ti (nI nt)) ++ (wPl pa pb cI (upd zo tt (nI zz))))))) H from hP)
          have hD9 : va_D A ((wDp ad o pa ka (fx 0) (sx 0)) ++ ((wOf o (x 0) (y 0)) ++ ((wFl x r cI cZ cQ w q d T st re rc (nI nz)) ++ ((wSt y rp rw rt cI cQ P n Wi Ti (nI nt)) ++ (wPl pa pb cI (upd zo tt (nI zz))))))) := (show va_D A ((wDp ad o pa ka (fx 0) (sx 0)) ++ ((wOf o (x 0) (y 0)) ++ ((wFl x r cI cZ cQ w q d T st re rc (nI nz)) ++ ((wSt y rp rw rt cI cQ P n Wi Ti (nI nt)) ++ (wPl pa pb cI (upd zo tt (nI zz))))))) from hD)
          have g_11 : sPlace nt nz zo n d (nI tt) (nI zz) 0 (zo tt) (upd zo tt (nI zz)) := Or.inr (Or.inr ⟨⟨⟨tt, h_tt, rfl⟩, Or.inr ⟨zz, h_zz, rfl⟩⟩, Or.inr ⟨hro.1, by rw [nIc (by omega), nIc (by omega)]; exact hro.2⟩, rfl, by rw [nIc (by omega)], by rw [nIc (by omega)]⟩)
          refine W.widen (k := 3) (n := 18) (by omega) (by omega) ?_
          exact vx_ret (W.iret (v := zo tt) hx hb hr (fun t9 ht9 hW9 => ⟨⟨zo tt, (zo tt, upd zo tt (nI zz)), rfl, ⟨rfl, g_11⟩, by rw [ht9]; exact hP9, hD9⟩, hS.F ht9⟩) hS.2.2 dX7_place_40)
theorem hd_X7_setWall : yX7_setWall.cls = RX7 ∧ yX7_setWall.cls ≠ "java/lang/invoke/MethodHandle" ∧ yX7_setWall.cls ≠ "java/lang/invoke/VarHandle" ∧ (parseMethodDescriptor yX7_setWall.desc).map (fun d => d.parameters.length) = some 3 := by decide +kernel
theorem hd_X7_addZone : yX7_addZone.cls = RX7 ∧ yX7_addZone.cls ≠ "java/lang/invoke/MethodHandle" ∧ yX7_addZone.cls ≠ "java/lang/invoke/VarHandle" ∧ (parseMethodDescriptor yX7_addZone.desc).map (fun d => d.parameters.length) = some 3 := by decide +kernel
theorem hd_X7_setDesks : yX7_setDesks.cls = RX7 ∧ yX7_setDesks.cls ≠ "java/lang/invoke/MethodHandle" ∧ yX7_setDesks.cls ≠ "java/lang/invoke/VarHandle" ∧ (parseMethodDescriptor yX7_setDesks.desc).map (fun d => d.parameters.length) = some 2 := by decide +kernel
theorem hd_X7_addTeam : yX7_addTeam.cls = RX7 ∧ yX7_addTeam.cls ≠ "java/lang/invoke/MethodHandle" ∧ yX7_addTeam.cls ≠ "java/lang/invoke/VarHandle" ∧ (parseMethodDescriptor yX7_addTeam.desc).map (fun d => d.parameters.length) = some 0 := by decide +kernel
theorem hd_X7_setPresent : yX7_setPresent.cls = RX7 ∧ yX7_setPresent.cls ≠ "java/lang/invoke/MethodHandle" ∧ yX7_setPresent.cls ≠ "java/lang/invoke/VarHandle" ∧ (parseMethodDescriptor yX7_setPresent.desc).map (fun d => d.parameters.length) = some 3 := by decide +kernel
theorem hd_X7_setWish : yX7_setWish.cls = RX7 ∧ yX7_setWish.cls ≠ "java/lang/invoke/MethodHandle" ∧ yX7_setWish.cls ≠ "java/lang/invoke/VarHandle" ∧ (parseMethodDescriptor yX7_setWish.desc).map (fun d => d.parameters.length) = some 3 := by decide +kernel
theorem hd_X7_setTie : yX7_setTie.cls = RX7 ∧ yX7_setTie.cls ≠ "java/lang/invoke/MethodHandle" ∧ yX7_setTie.cls ≠ "java/lang/invoke/VarHandle" ∧ (parseMethodDescriptor yX7_setTie.desc).map (fun d => d.parameters.length) = some 3 := by decide +kernel
theorem hd_X7_place : yX7_place.cls = RX7 ∧ yX7_place.cls ≠ "java/lang/invoke/MethodHandle" ∧ yX7_place.cls ≠ "java/lang/invoke/VarHandle" ∧ (parseMethodDescriptor yX7_place.desc).map (fun d => d.parameters.length) = some 2 := by decide +kernel
