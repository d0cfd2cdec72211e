set_option maxHeartbeats 4000000 in
set_option maxRecDepth 100000 in
theorem c_X8_in (l : Launch) (D : va_G) (cI cZ cQ cJ : ClassId) (v : Int32) (lo : Int32) (hi : Int32)  : Met l yX8_in (.code yX8_in cX8_in 3 (some .boolean) :: ALL) ({ frames := 0, cells := 0, slots := 0, locals := 0 } : Room) (va_Pc [.int v, .int lo, .int hi] (ro_P D cI cZ cQ cJ ([] : va_W))) (vp_Si (fun r9 => r9 = bI (inI v lo hi))) 0 0 (fun _ => False) := by
  refine Met.ofW (cc := cX8_in) (maxL := 3) (ret := (some .boolean)) (by decide) rfl ?_
  intro p e s m args below meth c s₁ B hml hv
  obtain ⟨rfl, hP, hSt⟩ := hv
  have hx := B.exec
  have hb := B.bytes
  have hr := B.returns
  have hts : ∀ w ∈ ALL, w.before ([.int v, .int lo, .int hi] : List Value).toArray s = true := fun w h => atoms_spec (ws := (.code yX8_in cX8_in 3 (some .boolean) :: ALL)) B.pre w (List.mem_cons_of_mem _ h)
  have hown : s.vm.findClass RX8 = some m.cls := findClass_of_methodNamed B.named
  have hlocks := B.notSynchronized
  have hl := lv_entry ([.int v, .int lo, .int hi]) (n := 3) (Nat.le_of_ble_eq_true rfl)
  rw [lg_entry_eq]
  generalize (lg_sl ([.int v, .int lo, .int hi]) ++ List.replicate (3 - (lg_sl ([.int v, .int lo, .int hi])).length) Slot.unset).toArray = ls at hl ⊢
  have hl : lv_has ls 3 [(0, .int v), (1, .int lo), (2, .int hi)] := hl
  refine lv_iload_n hx hb dX8_in_0 rfl (lv_at hl 0 rfl) ?_
  refine lv_iload_n hx hb dX8_in_1 rfl (lv_at hl 1 rfl) ?_
  refine lv_icmp_lt (tgt := 14) hx hb dX8_in_2 (by decide) (fun c_1 => ?_) (fun c_1 => ?_)
  · refine lv_iconst (v := nI 0) hx hb dX8_in_14 (by decide) ?_
    exact W.zret (v := nI 0) hx hb hr (rfl) (fun t9 ht9 hW9 => ⟨_, rfl, ((bI_f (fun q9 => Int32.not_le.mpr c_1 q9.1)).symm), ht9⟩) (fun q h => nomatch h) dX8_in_15
  · refine lv_iload_n hx hb dX8_in_5 rfl (lv_at hl 0 rfl) ?_
    refine lv_iload_n hx hb dX8_in_6 rfl (lv_at hl 2 rfl) ?_
    refine lv_icmp_gt (tgt := 14) hx hb dX8_in_7 (by decide) (fun c_2 => ?_) (fun c_2 => ?_)
    · refine lv_iconst (v := nI 0) hx hb dX8_in_14 (by decide) ?_
      exact W.zret (v := nI 0) hx hb hr (rfl) (fun t9 ht9 hW9 => ⟨_, rfl, ((bI_f (fun q9 => Int32.not_le.mpr c_2 q9.2)).symm), ht9⟩) (fun q h => nomatch h) dX8_in_15
    · refine lv_iconst (v := nI 1) hx hb dX8_in_10 (by decide) ?_
      refine lv_goto (tgt := 15) hx hb dX8_in_11 (by decide) ?_
      exact W.zret (v := nI 1) hx hb hr (rfl) (fun t9 ht9 hW9 => ⟨_, rfl, ((bI_t ⟨Int32.not_lt.mp c_1, Int32.not_lt.mp c_2⟩).symm), ht9⟩) (fun q h => nomatch h) dX8_in_15
theorem hd_X8_in : yX8_in.cls = RX8 ∧ yX8_in.cls ≠ "java/lang/invoke/MethodHandle" ∧ yX8_in.cls ≠ "java/lang/invoke/VarHandle" ∧ (parseMethodDescriptor yX8_in.desc).map (fun d => d.parameters.length) = some 3 := by decide +kernel
set_option maxHeartbeats 4000000 in
set_option maxRecDepth 100000 in
theorem c_X8_isSquare (l : Launch) (D : va_G) (cI cZ cQ cJ : ClassId) (co : Int32) (ro : Int32)  : Met l yX8_isSquare (.code yX8_isSquare cX8_isSquare 2 (some .boolean) :: ALL) ({ frames := 1, cells := 0, slots := 0, locals := 22 } : Room) (va_Pc [.int co, .int ro] (ro_P D cI cZ cQ cJ ([] : va_W))) (vp_Si (fun r9 => r9 = bI (inSq co ro))) 0 0 (fun _ => False) := by
  refine Met.ofW (cc := cX8_isSquare) (maxL := 2) (ret := (some .boolean)) (by decide) rfl ?_
  intro p e s m args below meth c s₁ B hml hv
  obtain ⟨rfl, hP, hSt⟩ := hv
  have hx := B.exec
  have hb := B.bytes
  have hr := B.returns
  have hts : ∀ w ∈ ALL, w.before ([.int co, .int ro] : List Value).toArray s = true := fun w h => atoms_spec (ws := (.code yX8_isSquare cX8_isSquare 2 (some .boolean) :: ALL)) B.pre w (List.mem_cons_of_mem _ h)
  have hown : s.vm.findClass RX8 = some m.cls := findClass_of_methodNamed B.named
  have hlocks := B.notSynchronized
  have hl := lv_entry ([.int co, .int ro]) (n := 2) (Nat.le_of_ble_eq_true rfl)
  rw [lg_entry_eq]
  generalize (lg_sl ([.int co, .int ro]) ++ List.replicate (2 - (lg_sl ([.int co, .int ro])).length) Slot.unset).toArray = ls at hl ⊢
  have hl : lv_has ls 2 [(0, .int co), (1, .int ro)] := hl
  refine lv_iload_n hx hb dX8_isSquare_0 rfl (lv_at hl 0 rfl) ?_
  refine lv_iconst (v := nI 0) hx hb dX8_isSquare_1 (by decide) ?_
  refine lv_bipush (v := nI 7) hx hb dX8_isSquare_2 (by decide) ?_
  refine ro_S (As := [.int co, .int (nI 0), .int (nI 7)]) (rest := []) (v := bI (inI co (nI 0) (nI 7))) ⟨hx, hb, hml, hown, hts⟩ (c_X8_in l D cI cZ cQ cJ co (nI 0) (nI 7)) (gS t4_40 t4_41 t1_10 t4_42) rfl rfl hd_X8_in ⟨Nat.le_of_ble_eq_true rfl, Nat.le_of_ble_eq_true rfl⟩ va_P_nil hSt rfl hl.1 rfl (Nat.le_of_ble_eq_true rfl) dX8_isSquare_4 (Nat.zero_le _) (Nat.zero_le _) ?_
  refine lv_if_eq (tgt := 24) hx hb dX8_isSquare_7 (by decide) (fun c_1 => ?_) (fun c_1 => ?_)
  · have c_1 := bI_0.mp c_1
    refine lv_iconst (v := nI 0) hx hb dX8_isSquare_24 (by decide) ?_
    exact W.zret (v := nI 0) hx hb hr (rfl) (fun t9 ht9 hW9 => ⟨_, rfl, ((bI_f (fun q9 => c_1 (inI_sq.mpr q9).1)).symm), ht9⟩) (fun q h => nomatch h) dX8_isSquare_25
  · have c_1 := bI_n0.mp c_1
    refine lv_iload_n hx hb dX8_isSquare_10 rfl (lv_at hl 1 rfl) ?_
    refine lv_iconst (v := nI 0) hx hb dX8_isSquare_11 (by decide) ?_
    refine lv_bipush (v := nI 7) hx hb dX8_isSquare_12 (by decide) ?_
    refine ro_S (As := [.int ro, .int (nI 0), .int (nI 7)]) (rest := []) (v := bI (inI ro (nI 0) (nI 7))) ⟨hx, hb, hml, hown, hts⟩ (c_X8_in l D cI cZ cQ cJ ro (nI 0) (nI 7)) (gS t4_40 t4_41 t1_10 t4_42) rfl rfl hd_X8_in ⟨Nat.le_of_ble_eq_true rfl, Nat.le_of_ble_eq_true rfl⟩ va_P_nil hSt rfl hl.1 rfl (Nat.le_of_ble_eq_true rfl) dX8_isSquare_14 (Nat.zero_le _) (Nat.zero_le _) ?_
    refine lv_if_eq (tgt := 24) hx hb dX8_isSquare_17 (by decide) (fun c_2 => ?_) (fun c_2 => ?_)
    · have c_2 := bI_0.mp c_2
      refine lv_iconst (v := nI 0) hx hb dX8_isSquare_24 (by decide) ?_
      exact W.zret (v := nI 0) hx hb hr (rfl) (fun t9 ht9 hW9 => ⟨_, rfl, ((bI_f (fun q9 => c_2 (inI_sq.mpr q9).2)).symm), ht9⟩) (fun q h => nomatch h) dX8_isSquare_25
    · have c_2 := bI_n0.mp c_2
      refine lv_iconst (v := nI 1) hx hb dX8_isSquare_20 (by decide) ?_
      refine lv_goto (tgt := 25) hx hb dX8_isSquare_21 (by decide) ?_
      exact W.zret (v := nI 1) hx hb hr (rfl) (fun t9 ht9 hW9 => ⟨_, rfl, ((bI_t (inI_sq.mp ⟨c_1, c_2⟩)).symm), ht9⟩) (fun q h => nomatch h) dX8_isSquare_25
set_option maxHeartbeats 4000000 in
set_option maxRecDepth 100000 in
theorem c_X8_isZone (l : Launch) (D : va_G) (cI cZ cQ cJ : ClassId) (mx : Nat → Nat) (w : Nat → Int32) (nz : Nat) (q : Nat → Int32) (d : Nat → Int32) (nt : Nat) (pr : Nat → Int32) (mw : Nat → Int32) (mt : Nat → Int32) (zo : Nat → Int32) (ke : Nat → Int32) (wy : Nat → Int32) (st : Nat → Int32) (tr : Nat → Int32) (be : Nat → Int32) (ch : Nat → Int32) (th : Int32) (z : Int32)  : Met l yX8_isZone (.code yX8_isZone cX8_isZone 2 (some .boolean) :: ALL) ({ frames := 1, cells := 0, slots := 0, locals := 22 } : Room) (va_Pc [.ref (mx 0), .int z] (ro_P D cI cZ cQ cJ (wMo mx cI cZ w (nI nz) q d (nI nt) pr mw mt zo ke wy st tr be ch th))) (vp_Si (fun r9 => r9 = bI (inI z (nI 0) (nI nz - nI 1)))) 0 0 (fun _ => False) := by
  refine Met.ofW (cc := cX8_isZone) (maxL := 2) (ret := (some .boolean)) (by decide) rfl ?_
  intro p e s m args below meth c s₁ B hml hv
  obtain ⟨rfl, hP, hSt⟩ := hv
  have hx := B.exec
  have hb := B.bytes
  have hr := B.returns
  have hts : ∀ w ∈ ALL, w.before ([.ref (mx 0), .int z] : List Value).toArray s = true := fun w h => atoms_spec (ws := (.code yX8_isZone cX8_isZone 2 (some .boolean) :: ALL)) B.pre w (List.mem_cons_of_mem _ h)
  have hown : s.vm.findClass RX8 = some m.cls := findClass_of_methodNamed B.named
  have hlocks := B.notSynchronized
  have hl := lv_entry ([.ref (mx 0), .int z]) (n := 2) (Nat.le_of_ble_eq_true rfl)
  rw [lg_entry_eq]
  generalize (lg_sl ([.ref (mx 0), .int z]) ++ List.replicate (2 - (lg_sl ([.ref (mx 0), .int z])).length) Slot.unset).toArray = ls at hl ⊢
  have hl : lv_has ls 2 [(0, .ref (mx 0)), (1, .int z)] := hl
  refine lv_iload_n hx hb dX8_isZone_0 rfl (lv_at hl 1 rfl) ?_
  refine lv_iconst (v := nI 0) hx hb dX8_isZone_1 (by decide) ?_
  refine lv_aload_n hx hb dX8_isZone_2 rfl (lv_at hl 0 rfl) ?_
  refine va_get (D := D) (ci := 8) (v := .int (nI nz)) (C := RX8) (T := TX8) (N := 16) hx hb hts tu_X8 hown hSt.1 hP 0 rfl rfl 1 (by decide) (hts _ t3_221) (fun _ h9 => h9) rfl dX8_isZone_3 ?_
  refine lv_iconst (v := nI 1) hx hb dX8_isZone_6 (by decide) ?_
  refine lv_isub hx hb dX8_isZone_7 ?_
  refine ro_S (As := [.int z, .int (nI 0), .int ((nI nz) - (nI 1))]) (rest := []) (v := bI (inI z (nI 0) ((nI nz) - (nI 1)))) ⟨hx, hb, hml, hown, hts⟩ (c_X8_in l D cI cZ cQ cJ z (nI 0) ((nI nz) - (nI 1))) (gS t4_40 t4_41 t1_10 t4_42) rfl rfl hd_X8_in ⟨Nat.le_of_ble_eq_true rfl, Nat.le_of_ble_eq_true rfl⟩ va_P_nil hSt rfl hl.1 rfl (Nat.le_of_ble_eq_true rfl) dX8_isZone_8 (Nat.zero_le _) (Nat.zero_le _) ?_
  exact W.zret (v := bI (inI z (nI 0) ((nI nz) - (nI 1)))) hx hb hr (bI_nar _) (fun t9 ht9 hW9 => ⟨_, rfl, (rfl), ht9⟩) (fun q h => nomatch h) dX8_isZone_11
set_option maxHeartbeats 4000000 in
set_option maxRecDepth 100000 in
theorem c_X8_isTeam (l : Launch) (D : va_G) (cI cZ cQ cJ : ClassId) (mx : Nat → Nat) (w : Nat → Int32) (nz : Nat) (q : Nat → Int32) (d : Nat → Int32) (nt : Nat) (pr : Nat → Int32) (mw : Nat → Int32) (mt : Nat → Int32) (zo : Nat → Int32) (ke : Nat → Int32) (wy : Nat → Int32) (st : Nat → Int32) (tr : Nat → Int32) (be : Nat → Int32) (ch : Nat → Int32) (th : Int32) (t : Int32)  : Met l yX8_isTeam (.code yX8_isTeam cX8_isTeam 2 (some .boolean) :: ALL) ({ frames := 1, cells := 0, slots := 0, locals := 22 } : Room) (va_Pc [.ref (mx 0), .int t] (ro_P D cI cZ cQ cJ (wMo mx cI cZ w (nI nz) q d (nI nt) pr mw mt zo ke wy st tr be ch th))) (vp_Si (fun r9 => r9 = bI (inI t (nI 0) (nI nt - nI 1)))) 0 0 (fun _ => False) := by
  refine Met.ofW (cc := cX8_isTeam) (maxL := 2) (ret := (some .boolean)) (by decide) rfl ?_
  intro p e s m args below meth c s₁ B hml hv
  obtain ⟨rfl, hP, hSt⟩ := hv
  have hx := B.exec
  have hb := B.bytes
  have hr := B.returns
  have hts : ∀ w ∈ ALL, w.before ([.ref (mx 0), .int t] : List Value).toArray s = true := fun w h => atoms_spec (ws := (.code yX8_isTeam cX8_isTeam 2 (some .boolean) :: ALL)) B.pre w (List.mem_cons_of_mem _ h)
  have hown : s.vm.findClass RX8 = some m.cls := findClass_of_methodNamed B.named
  have hlocks := B.notSynchronized
  have hl := lv_entry ([.ref (mx 0), .int t]) (n := 2) (Nat.le_of_ble_eq_true rfl)
  rw [lg_entry_eq]
  generalize (lg_sl ([.ref (mx 0), .int t]) ++ List.replicate (2 - (lg_sl ([.ref (mx 0), .int t])).length) Slot.unset).toArray = ls at hl ⊢
  have hl : lv_has ls 2 [(0, .ref (mx 0)), (1, .int t)] := hl
  refine lv_iload_n hx hb dX8_isTeam_0 rfl (lv_at hl 1 rfl) ?_
  refine lv_iconst (v := nI 0) hx hb dX8_isTeam_1 (by decide) ?_
  refine lv_aload_n hx hb dX8_isTeam_2 rfl (lv_at hl 0 rfl) ?_
  refine va_get (D := D) (ci := 8) (v := .int (nI nt)) (C := RX8) (T := TX8) (N := 16) hx hb hts tu_X8 hown hSt.1 hP 0 rfl rfl 4 (by decide) (hts _ t3_224) (fun _ h9 => h9) rfl dX8_isTeam_3 ?_
  refine lv_iconst (v := nI 1) hx hb dX8_isTeam_6 (by decide) ?_
  refine lv_isub hx hb dX8_isTeam_7 ?_
  refine ro_S (As := [.int t, .int (nI 0), .int ((nI nt) - (nI 1))]) (rest := []) (v := bI (inI t (nI 0) ((nI nt) - (nI 1)))) ⟨hx, hb, hml, hown, hts⟩ (c_X8_in l D cI cZ cQ cJ t (nI 0) ((nI nt) - (nI 1))) (gS t4_40 t4_41 t1_10 t4_42) rfl rfl hd_X8_in ⟨Nat.le_of_ble_eq_true rfl, Nat.le_of_ble_eq_true rfl⟩ va_P_nil hSt rfl hl.1 rfl (Nat.le_of_ble_eq_true rfl) dX8_isTeam_8 (Nat.zero_le _) (Nat.zero_le _) ?_
  exact W.zret (v := bI (inI t (nI 0) ((nI nt) - (nI 1)))) hx hb hr (bI_nar _) (fun t9 ht9 hW9 => ⟨_, rfl, (rfl), ht9⟩) (fun q h => nomatch h) dX8_isTeam_11
set_option maxHeartbeats 4000000 in
set_option maxRecDepth 100000 in
theorem c_X8_thrown (l : Launch) (D : va_G) (cI cZ cQ cJ : ClassId) (mx : Nat → Nat) (w : Nat → Int32) (nz : Nat) (q : Nat → Int32) (d : Nat → Int32) (nt : Nat) (pr : Nat → Int32) (mw : Nat → Int32) (mt : Nat → Int32) (zo : Nat → Int32) (ke : Nat → Int32) (wy : Nat → Int32) (st : Nat → Int32) (tr : Nat → Int32) (be : Nat → Int32) (ch : Nat → Int32) (th : Int32)  : Met l yX8_thrown (.code yX8_thrown cX8_thrown 1 (some .int) :: ALL) ({ frames := 0, cells := 0, slots := 0, locals := 0 } : Room) (va_Pc [.ref (mx 0)] (ro_P D cI cZ cQ cJ (wMo mx cI cZ w (nI nz) q d (nI nt) pr mw mt zo ke wy st tr be ch th))) (vp_Si (fun r9 => r9 = th)) 0 0 (fun _ => False) := by
  refine Met.ofW (cc := cX8_thrown) (maxL := 1) (ret := (some .int)) (by decide) rfl ?_
  intro p e s m args below meth c s₁ B hml hv
  obtain ⟨rfl, hP, hSt⟩ := hv
  have hx := B.exec
  have hb := B.bytes
  have hr := B.returns
  have hts : ∀ w ∈ ALL, w.before ([.ref (mx 0)] : List Value).toArray s = true := fun w h => atoms_spec (ws := (.code yX8_thrown cX8_thrown 1 (some .int) :: ALL)) B.pre w (List.mem_cons_of_mem _ h)
  have hown : s.vm.findClass RX8 = some m.cls := findClass_of_methodNamed B.named
  have hlocks := B.notSynchronized
  have hl := lv_entry ([.ref (mx 0)]) (n := 1) (Nat.le_of_ble_eq_true rfl)
  rw [lg_entry_eq]
  generalize (lg_sl ([.ref (mx 0)]) ++ List.replicate (1 - (lg_sl ([.ref (mx 0)])).length) Slot.unset).toArray = ls at hl ⊢
  have hl : lv_has ls 1 [(0, .ref (mx 0))] := hl
  refine lv_aload_n hx hb dX8_thrown_0 rfl (lv_at hl 0 rfl) ?_
  refine va_get (D := D) (ci := 8) (v := .int th) (C := RX8) (T := TX8) (N := 16) hx hb hts tu_X8 hown hSt.1 hP 0 rfl rfl 15 (by decide) (hts _ t3_235) (fun _ h9 => h9) rfl dX8_thrown_1 ?_
  exact W.iret (v := th) hx hb hr (fun t9 ht9 hW9 => ⟨_, rfl, (rfl), ht9⟩) (fun q h => nomatch h) dX8_thrown_4
set_option maxHeartbeats 4000000 in
set_option maxRecDepth 100000 in
theorem c_X8_told (l : Launch) (D : va_G) (cI cZ cQ cJ : ClassId) (mx : Nat → Nat) (w : Nat → Int32) (nz : Nat) (q : Nat → Int32) (d : Nat → Int32) (nt : Nat) (pr : Nat → Int32) (mw : Nat → Int32) (mt : Nat → Int32) (zo : Nat → Int32) (ke : Nat → Int32) (wy : Nat → Int32) (st : Nat → Int32) (tr : Nat → Int32) (be : Nat → Int32) (ch : Nat → Int32) (th : Int32) (v : Int32) (sz : Nat)  : Met l yX8_told (.code yX8_told cX8_told 2 (some .int) :: ALL) ({ frames := 0, cells := 0, slots := 0, locals := 0 } : Room) (va_Pc [.ref (mx 0), .int v] (rw_P D cI cZ cQ cJ (wMo mx cI cZ w (nI nz) q d (nI nt) pr mw mt zo ke wy st tr be ch th) sz)) (va_Qi (fun (r9 : Int32) (u9 : Unit) => (r9 = v)) (rw_B D (va_A (wMo mx cI cZ w (nI nz) q d (nI nt) pr mw mt zo ke wy st tr be ch th) sz) (fun u9 : Unit => wMo mx cI cZ w (nI nz) q d (nI nt) pr mw mt zo ke wy st tr be ch (nI 0))) (va_A (wMo mx cI cZ w (nI nz) q d (nI nt) pr mw mt zo ke wy st tr be ch th) sz)) 0 0 (va_A (wMo mx cI cZ w (nI nz) q d (nI nt) pr mw mt zo ke wy st tr be ch th) sz) := by
  refine Met.ofW (cc := cX8_told) (maxL := 2) (ret := (some .int)) (by decide) rfl ?_
  intro p e s m args below meth c s₁ B hml hv
  obtain ⟨rfl, hsz, hP, hSt, hD0⟩ := hv
  have hx := B.exec
  have hb := B.bytes
  have hr := B.returns
  have hts : ∀ w ∈ ALL, w.before ([.ref (mx 0), .int v] : List Value).toArray s = true := fun w h => atoms_spec (ws := (.code yX8_told cX8_told 2 (some .int) :: ALL)) B.pre w (List.mem_cons_of_mem _ h)
  have hown : s.vm.findClass RX8 = some m.cls := findClass_of_methodNamed B.named
  have hlocks := B.notSynchronized
  subst hsz
  have hD := hD0.self (sz := s.heap.size)
  clear hD0
  generalize hAe : va_A (wMo mx cI cZ w (nI nz) q d (nI nt) pr mw mt zo ke wy st tr be ch th) s.heap.size = A at hD ⊢
  have hA : ∀ q : Nat, s.heap.size ≤ q → A q := fun q h => by rw [← hAe]; exact Or.inr h
  have hS : va_S A s.heap s.heap [] := va_S.rf
  have hl := lv_entry ([.ref (mx 0), .int v]) (n := 2) (Nat.le_of_ble_eq_true rfl)
  rw [lg_entry_eq]
  generalize (lg_sl ([.ref (mx 0), .int v]) ++ List.replicate (2 - (lg_sl ([.ref (mx 0), .int v])).length) Slot.unset).toArray = ls at hl ⊢
  have hl : lv_has ls 2 [(0, .ref (mx 0)), (1, .int v)] := hl
  obtain ⟨H, hHe⟩ : ∃ H : Heap, H = s.heap := ⟨_, rfl⟩
  obtain ⟨locs, hLe⟩ : ∃ L : List Loc, L = [] := ⟨_, rfl⟩
  have hP : va_P D vwCl (wMo mx cI cZ w (nI nz) q d (nI nt) pr mw mt zo ke wy st tr be ch th) H := by rw [hHe]; exact hP
  have hS : va_S A s.heap H locs := by rw [hHe, hLe]; exact hS
  refine W.eqHL hHe hLe ?_
  refine lv_aload_n hx hb dX8_told_0 rfl (lv_at hl 0 rfl) ?_
  refine lv_iconst (v := nI 0) hx hb dX8_told_1 (by decide) ?_
  refine va_put (D := D) (ci := 8) (v := .int (nI 0)) (ty := .int) (C := RX8) (T := TX8) (N := 16) hx hb hts tu_X8 tyX8 tyX8_ok nmX8 hown hSt.1 hP hD hS 0 rfl rfl 15 (by decide) (hts _ t3_235) (fun _ h9 => h9) rfl (by decide +kernel) rfl rfl (Nat.le_of_ble_eq_true rfl) dX8_told_2 (fun H locs hP hD hS => ?_)
  have hP : va_P D vwCl (wMo mx cI cZ w (nI nz) q d (nI nt) pr mw mt zo ke wy st tr be ch (nI 0)) H := hP
  have hD : va_D A (wMo mx cI cZ w (nI nz) q d (nI nt) pr mw mt zo ke wy st tr be ch (nI 0)) := hD
  refine lv_iload_n hx hb dX8_told_5 rfl (lv_at hl 1 rfl) ?_
  have hP9 : va_P D vwCl (wMo mx cI cZ w (nI nz) q d (nI nt) pr mw mt zo ke wy st tr be ch (nI 0)) H := hP
  have hD9 : va_D A (wMo mx cI cZ w (nI nz) q d (nI nt) pr mw mt zo ke wy st tr be ch (nI 0)) := hD
  exact W.iret (v := v) hx hb hr (fun t9 ht9 hW9 => ⟨⟨v, (), rfl, rfl, by rw [ht9]; exact hP9, hD9⟩, hS.F ht9⟩) hS.2.2 dX8_told_6
set_option maxHeartbeats 4000000 in
set_option maxRecDepth 100000 in
theorem c_X8_asked (l : Launch) (D : va_G) (cI cZ cQ cJ : ClassId) (mx : Nat → Nat) (w : Nat → Int32) (nz : Nat) (q : Nat → Int32) (d : Nat → Int32) (nt : Nat) (pr : Nat → Int32) (mw : Nat → Int32) (mt : Nat → Int32) (zo : Nat → Int32) (ke : Nat → Int32) (wy : Nat → Int32) (st : Nat → Int32) (tr : Nat → Int32) (be : Nat → Int32) (ch : Nat → Int32) (th : Int32) (x1 : Int32) (sz : Nat) (h1x1 : x1 = 0 ∨ x1 = 1) : Met l yX8_asked (.code yX8_asked cX8_asked 2 (some .boolean) :: ALL) ({ frames := 0, cells := 0, slots := 0, locals := 0 } : Room) (va_Pc [.ref (mx 0), .int x1] (rw_P D cI cZ cQ cJ (wMo mx cI cZ w (nI nz) q d (nI nt) pr mw mt zo ke wy st tr be ch th) sz)) (va_Qi (fun (r9 : Int32) (u9 : Unit) => (r9 = x1)) (rw_B D (va_A (wMo mx cI cZ w (nI nz) q d (nI nt) pr mw mt zo ke wy st tr be ch th) sz) (fun u9 : Unit => wMo mx cI cZ w (nI nz) q d (nI nt) pr mw mt zo ke wy st tr be ch (nI (as1 x1)))) (va_A (wMo mx cI cZ w (nI nz) q d (nI nt) pr mw mt zo ke wy st tr be ch th) sz)) 0 0 (va_A (wMo mx cI cZ w (nI nz) q d (nI nt) pr mw mt zo ke wy st tr be ch th) sz) := by
  refine Met.ofW (cc := cX8_asked) (maxL := 2) (ret := (some .boolean)) (by decide) rfl ?_
  intro p e s m args below meth c s₁ B hml hv
  obtain ⟨rfl, hsz, hP, hSt, hD0⟩ := hv
  have hx := B.exec
  have hb := B.bytes
  have hr := B.returns
  have hts : ∀ w ∈ ALL, w.before ([.ref (mx 0), .int x1] : List Value).toArray s = true := fun w h => atoms_spec (ws := (.code yX8_asked cX8_asked 2 (some .boolean) :: ALL)) B.pre w (List.mem_cons_of_mem _ h)
  have hown : s.vm.findClass RX8 = some m.cls := findClass_of_methodNamed B.named
  have hlocks := B.notSynchronized
  subst hsz
  have hD := hD0.self (sz := s.heap.size)
  clear hD0
  generalize hAe : va_A (wMo mx cI cZ w (nI nz) q d (nI nt) pr mw mt zo ke wy st tr be ch th) s.heap.size = A at hD ⊢
  have hA : ∀ q : Nat, s.heap.size ≤ q → A q := fun q h => by rw [← hAe]; exact Or.inr h
  have hS : va_S A s.heap s.heap [] := va_S.rf
  have hl := lv_entry ([.ref (mx 0), .int x1]) (n := 2) (Nat.le_of_ble_eq_true rfl)
  rw [lg_entry_eq]
  generalize (lg_sl ([.ref (mx 0), .int x1]) ++ List.replicate (2 - (lg_sl ([.ref (mx 0), .int x1])).length) Slot.unset).toArray = ls at hl ⊢
  have hl : lv_has ls 2 [(0, .ref (mx 0)), (1, .int x1)] := hl
  obtain ⟨H, hHe⟩ : ∃ H : Heap, H = s.heap := ⟨_, rfl⟩
  obtain ⟨locs, hLe⟩ : ∃ L : List Loc, L = [] := ⟨_, rfl⟩
  have hP : va_P D vwCl (wMo mx cI cZ w (nI nz) q d (nI nt) pr mw mt zo ke wy st tr be ch th) H := by rw [hHe]; exact hP
  have hS : va_S A s.heap H locs := by rw [hHe, hLe]; exact hS
  refine W.eqHL hHe hLe ?_
  refine lv_aload_n hx hb dX8_asked_0 rfl (lv_at hl 0 rfl) ?_
  refine lv_iload_n hx hb dX8_asked_1 rfl (lv_at hl 1 rfl) ?_
  refine lv_if_eq (tgt := 9) hx hb dX8_asked_2 (by decide) (fun c_1 => ?_) (fun c_1 => ?_)
  · refine lv_iconst (v := nI 1) hx hb dX8_asked_9 (by decide) ?_
    refine va_put (D := D) (ci := 8) (v := .int (nI 1)) (ty := .int) (C := RX8) (T := TX8) (N := 16) hx hb hts tu_X8 tyX8 tyX8_ok nmX8 hown hSt.1 hP hD hS 0 rfl rfl 15 (by decide) (hts _ t3_235) (fun _ h9 => h9) rfl (by decide +kernel) rfl rfl (Nat.le_of_ble_eq_true rfl) dX8_asked_10 (fun H locs hP hD hS => ?_)
    have hP : va_P D vwCl (wMo mx cI cZ w (nI nz) q d (nI nt) pr mw mt zo ke wy st tr be ch (nI 1)) H := hP
    have hD : va_D A (wMo mx cI cZ w (nI nz) q d (nI nt) pr mw mt zo ke wy st tr be ch (nI 1)) := hD
    refine lv_iload_n hx hb dX8_asked_13 rfl (lv_at hl 1 rfl) ?_
    have e9 : as1 x1 = 1 := if_pos c_1
    have hP9 : va_P D vwCl (wMo mx cI cZ w (nI nz) q d (nI nt) pr mw mt zo ke wy st tr be ch (nI (as1 x1))) H := by rw [e9]; exact hP
    have hD9 : va_D A (wMo mx cI cZ w (nI nz) q d (nI nt) pr mw mt zo ke wy st tr be ch (nI (as1 x1))) := by rw [e9]; exact hD
    exact W.zret (v := x1) hx hb hr (b01_nar' h1x1) (fun t9 ht9 hW9 => ⟨⟨x1, (), rfl, rfl, by rw [ht9]; exact hP9, hD9⟩, hS.F ht9⟩) hS.2.2 dX8_asked_14
  · refine lv_iconst (v := nI 0) hx hb dX8_asked_5 (by decide) ?_
    refine lv_goto (tgt := 10) hx hb dX8_asked_6 (by decide) ?_
    refine va_put (D := D) (ci := 8) (v := .int (nI 0)) (ty := .int) (C := RX8) (T := TX8) (N := 16) hx hb hts tu_X8 tyX8 tyX8_ok nmX8 hown hSt.1 hP hD hS 0 rfl rfl 15 (by decide) (hts _ t3_235) (fun _ h9 => h9) rfl (by decide +kernel) rfl rfl (Nat.le_of_ble_eq_true rfl) dX8_asked_10 (fun H locs hP hD hS => ?_)
    have hP : va_P D vwCl (wMo mx cI cZ w (nI nz) q d (nI nt) pr mw mt zo ke wy st tr be ch (nI 0)) H := hP
    have hD : va_D A (wMo mx cI cZ w (nI nz) q d (nI nt) pr mw mt zo ke wy st tr be ch (nI 0)) := hD
    refine lv_iload_n hx hb dX8_asked_13 rfl (lv_at hl 1 rfl) ?_
    have e9 : as1 x1 = 0 := if_neg c_1
    have hP9 : va_P D vwCl (wMo mx cI cZ w (nI nz) q d (nI nt) pr mw mt zo ke wy st tr be ch (nI (as1 x1))) H := by rw [e9]; exact hP
    have hD9 : va_D A (wMo mx cI cZ w (nI nz) q d (nI nt) pr mw mt zo ke wy st tr be ch (nI (as1 x1))) := by rw [e9]; exact hD
    exact W.zret (v := x1) hx hb hr (b01_nar' h1x1) (fun t9 ht9 hW9 => ⟨⟨x1, (), rfl, rfl, by rw [ht9]; exact hP9, hD9⟩, hS.F ht9⟩) hS.2.2 dX8_asked_14
set_option maxHeartbeats 4000000 in
set_option maxRecDepth 100000 in
theorem c_X8_asked_ (l : Launch) (D : va_G) (cI cZ cQ cJ : ClassId) (mx : Nat → Nat) (w : Nat → Int32) (nz : Nat) (q : Nat → Int32) (d : Nat → Int32) (nt : Nat) (pr : Nat → Int32) (mw : Nat → Int32) (mt : Nat → Int32) (zo : Nat → Int32) (ke : Nat → Int32) (wy : Nat → Int32) (st : Nat → Int32) (tr : Nat → Int32) (be : Nat → Int32) (ch : Nat → Int32) (th : Int32) (x1 : Int32) (x2 : Int32) (sz : Nat)  : Met l yX8_asked_ (.code yX8_asked_ cX8_asked_ 3 (some .boolean) :: ALL) ({ frames := 0, cells := 0, slots := 0, locals := 0 } : Room) (va_Pc [.ref (mx 0), .int x1, .int x2] (rw_P D cI cZ cQ cJ (wMo mx cI cZ w (nI nz) q d (nI nt) pr mw mt zo ke wy st tr be ch th) sz)) (va_Qi (fun (r9 : Int32) (u9 : Unit) => (r9 = (bI (as2 x1 x2 = 0)))) (rw_B D (va_A (wMo mx cI cZ w (nI nz) q d (nI nt) pr mw mt zo ke wy st tr be ch th) sz) (fun u9 : Unit => wMo mx cI cZ w (nI nz) q d (nI nt) pr mw mt zo ke wy st tr be ch (nI (as2 x1 x2)))) (va_A (wMo mx cI cZ w (nI nz) q d (nI nt) pr mw mt zo ke wy st tr be ch th) sz)) 0 0 (va_A (wMo mx cI cZ w (nI nz) q d (nI nt) pr mw mt zo ke wy st tr be ch th) sz) := by
  refine Met.ofW (cc := cX8_asked_) (maxL := 3) (ret := (some .boolean)) (by decide) rfl ?_
  intro p e s m args below meth c s₁ B hml hv
  obtain ⟨rfl, hsz, hP, hSt, hD0⟩ := hv
  have hx := B.exec
  have hb := B.bytes
  have hr := B.returns
  have hts : ∀ w ∈ ALL, w.before ([.ref (mx 0), .int x1, .int x2] : List Value).toArray s = true := fun w h => atoms_spec (ws := (.code yX8_asked_ cX8_asked_ 3 (some .boolean) :: ALL)) B.pre w (List.mem_cons_of_mem _ h)
  have hown : s.vm.findClass RX8 = some m.cls := findClass_of_methodNamed B.named
  have hlocks := B.notSynchronized
  subst hsz
  have hD := hD0.self (sz := s.heap.size)
  clear hD0
  generalize hAe : va_A (wMo mx cI cZ w (nI nz) q d (nI nt) pr mw mt zo ke wy st tr be ch th) s.heap.size = A at hD ⊢
  have hA : ∀ q : Nat, s.heap.size ≤ q → A q := fun q h => by rw [← hAe]; exact Or.inr h
  have hS : va_S A s.heap s.heap [] := va_S.rf
  have hl := lv_entry ([.ref (mx 0), .int x1, .int x2]) (n := 3) (Nat.le_of_ble_eq_true rfl)
  rw [lg_entry_eq]
  generalize (lg_sl ([.ref (mx 0), .int x1, .int x2]) ++ List.replicate (3 - (lg_sl ([.ref (mx 0), .int x1, .int x2])).length) Slot.unset).toArray = ls at hl ⊢
  have hl : lv_has ls 3 [(0, .ref (mx 0)), (1, .int x1), (2, .int x2)] := hl
  obtain ⟨H, hHe⟩ : ∃ H : Heap, H = s.heap := ⟨_, rfl⟩
  obtain ⟨locs, hLe⟩ : ∃ L : List Loc, L = [] := ⟨_, rfl⟩
  have hP : va_P D vwCl (wMo mx cI cZ w (nI nz) q d (nI nt) pr mw mt zo ke wy st tr be ch th) H := by rw [hHe]; exact hP
  have hS : va_S A s.heap H locs := by rw [hHe, hLe]; exact hS
  refine W.eqHL hHe hLe ?_
  refine lv_aload_n hx hb dX8_asked__0 rfl (lv_at hl 0 rfl) ?_
  refine lv_iload_n hx hb dX8_asked__1 rfl (lv_at hl 1 rfl) ?_
  refine lv_if_ne (tgt := 9) hx hb dX8_asked__2 (by decide) (fun c_1 => ?_) (fun c_1 => ?_)
  · refine lv_iload_n hx hb dX8_asked__9 rfl (lv_at hl 2 rfl) ?_
    refine lv_if_eq (tgt := 17) hx hb dX8_asked__10 (by decide) (fun c_2 => ?_) (fun c_2 => ?_)
    · refine lv_iconst (v := nI 2) hx hb dX8_asked__17 (by decide) ?_
      have e9 : as2 x1 x2 = 2 := as2_2 c_1 c_2
      refine va_put (D := D) (ci := 8) (v := .int (nI 2)) (ty := .int) (C := RX8) (T := TX8) (N := 16) hx hb hts tu_X8 tyX8 tyX8_ok nmX8 hown hSt.1 hP hD hS 0 rfl rfl 15 (by decide) (hts _ t3_235) (fun _ h9 => h9) rfl (by decide +kernel) rfl rfl (Nat.le_of_ble_eq_true rfl) dX8_asked__18 (fun H locs hP hD hS => ?_)
      have hP : va_P D vwCl (wMo mx cI cZ w (nI nz) q d (nI nt) pr mw mt zo ke wy st tr be ch (nI 2)) H := hP
      have hD : va_D A (wMo mx cI cZ w (nI nz) q d (nI nt) pr mw mt zo ke wy st tr be ch (nI 2)) := hD
      refine lv_aload_n hx hb dX8_asked__21 rfl (lv_at hl 0 rfl) ?_
      refine va_get (D := D) (ci := 8) (v := .int (nI 2)) (C := RX8) (T := TX8) (N := 16) hx hb hts tu_X8 hown hSt.1 hP 0 rfl rfl 15 (by decide) (hts _ t3_235) (fun _ h9 => h9) rfl dX8_asked__22 ?_
      refine lv_if_ne (tgt := 32) hx hb dX8_asked__25 (by decide) (fun c_3 => ?_) (fun c_3 => ?_)
      · refine lv_iconst (v := nI 0) hx hb dX8_asked__32 (by decide) ?_
        have hP9 : va_P D vwCl (wMo mx cI cZ w (nI nz) q d (nI nt) pr mw mt zo ke wy st tr be ch (nI (as2 x1 x2))) H := by rw [e9]; exact hP
        have hD9 : va_D A (wMo mx cI cZ w (nI nz) q d (nI nt) pr mw mt zo ke wy st tr be ch (nI (as2 x1 x2))) := by rw [e9]; exact hD
        exact W.zret (v := nI 0) hx hb hr (rfl) (fun t9 ht9 hW9 => ⟨⟨nI 0, (), rfl, ((bI_f (by rw [e9]; decide)).symm), by rw [ht9]; exact hP9, hD9⟩, hS.F ht9⟩) hS.2.2 dX8_asked__33
      · exact absurd c_3 (by decide)
    · refine lv_iconst (v := nI 0) hx hb dX8_asked__13 (by decide) ?_
      refine lv_goto (tgt := 18) hx hb dX8_asked__14 (by decide) ?_
      have e9 : as2 x1 x2 = 0 := as2_3 c_1 c_2
      refine va_put (D := D) (ci := 8) (v := .int (nI 0)) (ty := .int) (C := RX8) (T := TX8) (N := 16) hx hb hts tu_X8 tyX8 tyX8_ok nmX8 hown hSt.1 hP hD hS 0 rfl rfl 15 (by decide) (hts _ t3_235) (fun _ h9 => h9) rfl (by decide +kernel) rfl rfl (Nat.le_of_ble_eq_true rfl) dX8_asked__18 (fun H locs hP hD hS => ?_)
      have hP : va_P D vwCl (wMo mx cI cZ w (nI nz) q d (nI nt) pr mw mt zo ke wy st tr be ch (nI 0)) H := hP
      have hD : va_D A (wMo mx cI cZ w (nI nz) q d (nI nt) pr mw mt zo ke wy st tr be ch (nI 0)) := hD
      refine lv_aload_n hx hb dX8_asked__21 rfl (lv_at hl 0 rfl) ?_
      refine va_get (D := D) (ci := 8) (v := .int (nI 0)) (C := RX8) (T := TX8) (N := 16) hx hb hts tu_X8 hown hSt.1 hP 0 rfl rfl 15 (by decide) (hts _ t3_235) (fun _ h9 => h9) rfl dX8_asked__22 ?_
      refine lv_if_ne (tgt := 32) hx hb dX8_asked__25 (by decide) (fun c_4 => ?_) (fun c_4 => ?_)
      · exact absurd c_4 (by decide)
      · refine lv_iconst (v := nI 1) hx hb dX8_asked__28 (by decide) ?_
        refine lv_goto (tgt := 33) hx hb dX8_asked__29 (by decide) ?_
        have hP9 : va_P D vwCl (wMo mx cI cZ w (nI nz) q d (nI nt) pr mw mt zo ke wy st tr be ch (nI (as2 x1 x2))) H := by rw [e9]; exact hP
        have hD9 : va_D A (wMo mx cI cZ w (nI nz) q d (nI nt) pr mw mt zo ke wy st tr be ch (nI (as2 x1 x2))) := by rw [e9]; exact hD
        exact W.zret (v := nI 1) hx hb hr (rfl) (fun t9 ht9 hW9 => ⟨⟨nI 1, (), rfl, ((bI_t e9).symm), by rw [ht9]; exact hP9, hD9⟩, hS.F ht9⟩) hS.2.2 dX8_asked__33
  · refine lv_iconst (v := nI 1) hx hb dX8_asked__5 (by decide) ?_
    refine lv_goto (tgt := 18) hx hb dX8_asked__6 (by decide) ?_
    have e9 : as2 x1 x2 = 1 := as2_1 c_1
    refine va_put (D := D) (ci := 8) (v := .int (nI 1)) (ty := .int) (C := RX8) (T := TX8) (N := 16) hx hb hts tu_X8 tyX8 tyX8_ok nmX8 hown hSt.1 hP hD hS 0 rfl rfl 15 (by decide) (hts _ t3_235) (fun _ h9 => h9) rfl (by decide +kernel) rfl rfl (Nat.le_of_ble_eq_true rfl) dX8_asked__18 (fun H locs hP hD hS => ?_)
    have hP : va_P D vwCl (wMo mx cI cZ w (nI nz) q d (nI nt) pr mw mt zo ke wy st tr be ch (nI 1)) H := hP
    have hD : va_D A (wMo mx cI cZ w (nI nz) q d (nI nt) pr mw mt zo ke wy st tr be ch (nI 1)) := hD
    refine lv_aload_n hx hb dX8_asked__21 rfl (lv_at hl 0 rfl) ?_
    refine va_get (D := D) (ci := 8) (v := .int (nI 1)) (C := RX8) (T := TX8) (N := 16) hx hb hts tu_X8 hown hSt.1 hP 0 rfl rfl 15 (by decide) (hts _ t3_235) (fun _ h9 => h9) rfl dX8_asked__22 ?_
    refine lv_if_ne (tgt := 32) hx hb dX8_asked__25 (by decide) (fun c_5 => ?_) (fun c_5 => ?_)
    · refine lv_iconst (v := nI 0) hx hb dX8_asked__32 (by decide) ?_
      have hP9 : va_P D vwCl (wMo mx cI cZ w (nI nz) q d (nI nt) pr mw mt zo ke wy st tr be ch (nI (as2 x1 x2))) H := by rw [e9]; exact hP
      have hD9 : va_D A (wMo mx cI cZ w (nI nz) q d (nI nt) pr mw mt zo ke wy st tr be ch (nI (as2 x1 x2))) := by rw [e9]; exact hD
      exact W.zret (v := nI 0) hx hb hr (rfl) (fun t9 ht9 hW9 => ⟨⟨nI 0, (), rfl, ((bI_f (by rw [e9]; decide)).symm), by rw [ht9]; exact hP9, hD9⟩, hS.F ht9⟩) hS.2.2 dX8_asked__33
    · exact absurd c_5 (by decide)
set_option maxHeartbeats 4000000 in
set_option maxRecDepth 100000 in
theorem c_X8_asked__ (l : Launch) (D : va_G) (cI cZ cQ cJ : ClassId) (mx : Nat → Nat) (w : Nat → Int32) (nz : Nat) (q : Nat → Int32) (d : Nat → Int32) (nt : Nat) (pr : Nat → Int32) (mw : Nat → Int32) (mt : Nat → Int32) (zo : Nat → Int32) (ke : Nat → Int32) (wy : Nat → Int32) (st : Nat → Int32) (tr : Nat → Int32) (be : Nat → Int32) (ch : Nat → Int32) (th : Int32) (x1 : Int32) (x2 : Int32) (x3 : Int32) (sz : Nat)  : Met l yX8_asked__ (.code yX8_asked__ cX8_asked__ 4 (some .boolean) :: ALL) ({ frames := 0, cells := 0, slots := 0, locals := 0 } : Room) (va_Pc [.ref (mx 0), .int x1, .int x2, .int x3] (rw_P D cI cZ cQ cJ (wMo mx cI cZ w (nI nz) q d (nI nt) pr mw mt zo ke wy st tr be ch th) sz)) (va_Qi (fun (r9 : Int32) (u9 : Unit) => (r9 = (bI (as3 x1 x2 x3 = 0)))) (rw_B D (va_A (wMo mx cI cZ w (nI nz) q d (nI nt) pr mw mt zo ke wy st tr be ch th) sz) (fun u9 : Unit => wMo mx cI cZ w (nI nz) q d (nI nt) pr mw mt zo ke wy st tr be ch (nI (as3 x1 x2 x3)))) (va_A (wMo mx cI cZ w (nI nz) q d (nI nt) pr mw mt zo ke wy st tr be ch th) sz)) 0 0 (va_A (wMo mx cI cZ w (nI nz) q d (nI nt) pr mw mt zo ke wy st tr be ch th) sz) := by
  refine Met.ofW (cc := cX8_asked__) (maxL := 4) (ret := (some .boolean)) (by decide) rfl ?_
  intro p e s m args below meth c s₁ B hml hv
  obtain ⟨rfl, hsz, hP, hSt, hD0⟩ := hv
  have hx := B.exec
  have hb := B.bytes
  have hr := B.returns
  have hts : ∀ w ∈ ALL, w.before ([.ref (mx 0), .int x1, .int x2, .int x3] : List Value).toArray s = true := fun w h => atoms_spec (ws := (.code yX8_asked__ cX8_asked__ 4 (some .boolean) :: ALL)) B.pre w (List.mem_cons_of_mem _ h)
  have hown : s.vm.findClass RX8 = some m.cls := findClass_of_methodNamed B.named
  have hlocks := B.notSynchronized
  subst hsz
  have hD := hD0.self (sz := s.heap.size)
  clear hD0
  generalize hAe : va_A (wMo mx cI cZ w (nI nz) q d (nI nt) pr mw mt zo ke wy st tr be ch th) s.heap.size = A at hD ⊢
  have hA : ∀ q : Nat, s.heap.size ≤ q → A q := fun q h => by rw [← hAe]; exact Or.inr h
  have hS : va_S A s.heap s.heap [] := va_S.rf
  have hl := lv_entry ([.ref (mx 0), .int x1, .int x2, .int x3]) (n := 4) (Nat.le_of_ble_eq_true rfl)
  rw [lg_entry_eq]
  generalize (lg_sl ([.ref (mx 0), .int x1, .int x2, .int x3]) ++ List.replicate (4 - (lg_sl ([.ref (mx 0), .int x1, .int x2, .int x3])).length) Slot.unset).toArray = ls at hl ⊢
  have hl : lv_has ls 4 [(0, .ref (mx 0)), (1, .int x1), (2, .int x2), (3, .int x3)] := hl
  obtain ⟨H, hHe⟩ : ∃ H : Heap, H = s.heap := ⟨_, rfl⟩
  obtain ⟨locs, hLe⟩ : ∃ L : List Loc, L = [] := ⟨_, rfl⟩
  have hP : va_P D vwCl (wMo mx cI cZ w (nI nz) q d (nI nt) pr mw mt zo ke wy st tr be ch th) H := by rw [hHe]; exact hP
  have hS : va_S A s.heap H locs := by rw [hHe, hLe]; exact hS
  refine W.eqHL hHe hLe ?_
  refine lv_aload_n hx hb dX8_asked___0 rfl (lv_at hl 0 rfl) ?_
  refine lv_iload_n hx hb dX8_asked___1 rfl (lv_at hl 1 rfl) ?_
  refine lv_if_ne (tgt := 9) hx hb dX8_asked___2 (by decide) (fun c_1 => ?_) (fun c_1 => ?_)
  · refine lv_iload_n hx hb dX8_asked___9 rfl (lv_at hl 2 rfl) ?_
    refine lv_if_ne (tgt := 17) hx hb dX8_asked___10 (by decide) (fun c_2 => ?_) (fun c_2 => ?_)
    · refine lv_iload_n hx hb dX8_asked___17 rfl (lv_at hl 3 rfl) ?_
      refine lv_if_eq (tgt := 25) hx hb dX8_asked___18 (by decide) (fun c_3 => ?_) (fun c_3 => ?_)
      · refine lv_iconst (v := nI 3) hx hb dX8_asked___25 (by decide) ?_
        have e9 : as3 x1 x2 x3 = 3 := by unfold as3; rw [if_neg c_1, if_neg c_2, if_pos c_3]
        refine va_put (D := D) (ci := 8) (v := .int (nI 3)) (ty := .int) (C := RX8) (T := TX8) (N := 16) hx hb hts tu_X8 tyX8 tyX8_ok nmX8 hown hSt.1 hP hD hS 0 rfl rfl 15 (by decide) (hts _ t3_235) (fun _ h9 => h9) rfl (by decide +kernel) rfl rfl (Nat.le_of_ble_eq_true rfl) dX8_asked___26 (fun H locs hP hD hS => ?_)
        have hP : va_P D vwCl (wMo mx cI cZ w (nI nz) q d (nI nt) pr mw mt zo ke wy st tr be ch (nI 3)) H := hP
        have hD : va_D A (wMo mx cI cZ w (nI nz) q d (nI nt) pr mw mt zo ke wy st tr be ch (nI 3)) := hD
        refine lv_aload_n hx hb dX8_asked___29 rfl (lv_at hl 0 rfl) ?_
        refine va_get (D := D) (ci := 8) (v := .int (nI 3)) (C := RX8) (T := TX8) (N := 16) hx hb hts tu_X8 hown hSt.1 hP 0 rfl rfl 15 (by decide) (hts _ t3_235) (fun _ h9 => h9) rfl dX8_asked___30 ?_
        refine lv_if_ne (tgt := 40) hx hb dX8_asked___33 (by decide) (fun c_4 => ?_) (fun c_4 => ?_)
        · refine lv_iconst (v := nI 0) hx hb dX8_asked___40 (by decide) ?_
          have hP9 : va_P D vwCl (wMo mx cI cZ w (nI nz) q d (nI nt) pr mw mt zo ke wy st tr be ch (nI (as3 x1 x2 x3))) H := by rw [e9]; exact hP
          have hD9 : va_D A (wMo mx cI cZ w (nI nz) q d (nI nt) pr mw mt zo ke wy st tr be ch (nI (as3 x1 x2 x3))) := by rw [e9]; exact hD
          exact W.zret (v := nI 0) hx hb hr (rfl) (fun t9 ht9 hW9 => ⟨⟨nI 0, (), rfl, ((bI_f (by rw [e9]; decide)).symm), by rw [ht9]; exact hP9, hD9⟩, hS.F ht9⟩) hS.2.2 dX8_asked___41
        · exact absurd c_4 (by decide)
      · refine lv_iconst (v := nI 0) hx hb dX8_asked___21 (by decide) ?_
        refine lv_goto (tgt := 26) hx hb dX8_asked___22 (by decide) ?_
        have e9 : as3 x1 x2 x3 = 0 := by unfold as3; rw [if_neg c_1, if_neg c_2, if_neg c_3]
        refine va_put (D := D) (ci := 8) (v := .int (nI 0)) (ty := .int) (C := RX8) (T := TX8) (N := 16) hx hb hts tu_X8 tyX8 tyX8_ok nmX8 hown hSt.1 hP hD hS 0 rfl rfl 15 (by decide) (hts _ t3_235) (fun _ h9 => h9) rfl (by decide +kernel) rfl rfl (Nat.le_of_ble_eq_true rfl) dX8_asked___26 (fun H locs hP hD hS => ?_)
        have hP : va_P D vwCl (wMo mx cI cZ w (nI nz) q d (nI nt) pr mw mt zo ke wy st tr be ch (nI 0)) H := hP
        have hD : va_D A (wMo mx cI cZ w (nI nz) q d (nI nt) pr mw mt zo ke wy st tr be ch (nI 0)) := hD
        refine lv_aload_n hx hb dX8_asked___29 rfl (lv_at hl 0 rfl) ?_
        refine va_get (D := D) (ci := 8) (v := .int (nI 0)) (C := RX8) (T := TX8) (N := 16) hx hb hts tu_X8 hown hSt.1 hP 0 rfl rfl 15 (by decide) (hts _ t3_235) (fun _ h9 => h9) rfl dX8_asked___30 ?_
        refine lv_if_ne (tgt := 40) hx hb dX8_asked___33 (by decide) (fun c_5 => ?_) (fun c_5 => ?_)
        · exact absurd c_5 (by decide)
        · refine lv_iconst (v := nI 1) hx hb dX8_asked___36 (by decide) ?_
          refine lv_goto (tgt := 41) hx hb dX8_asked___37 (by decide) ?_
          have hP9 : va_P D vwCl (wMo mx cI cZ w (nI nz) q d (nI nt) pr mw mt zo ke wy st tr be ch (nI (as3 x1 x2 x3))) H := by rw [e9]; exact hP
          have hD9 : va_D A (wMo mx cI cZ w (nI nz) q d (nI nt) pr mw mt zo ke wy st tr be ch (nI (as3 x1 x2 x3))) := by rw [e9]; exact hD
          exact W.zret (v := nI 1) hx hb hr (rfl) (fun t9 ht9 hW9 => ⟨⟨nI 1, (), rfl, ((bI_t e9).symm), by rw [ht9]; exact hP9, hD9⟩, hS.F ht9⟩) hS.2.2 dX8_asked___41
    · refine lv_iconst (v := nI 2) hx hb dX8_asked___13 (by decide) ?_
      refine lv_goto (tgt := 26) hx hb dX8_asked___14 (by decide) ?_
      have e9 : as3 x1 x2 x3 = 2 := by unfold as3; rw [if_neg c_1, if_pos c_2]
      refine va_put (D := D) (ci := 8) (v := .int (nI 2)) (ty := .int) (C := RX8) (T := TX8) (N := 16) hx hb hts tu_X8 tyX8 tyX8_ok nmX8 hown hSt.1 hP hD hS 0 rfl rfl 15 (by decide) (hts _ t3_235) (fun _ h9 => h9) rfl (by decide +kernel) rfl rfl (Nat.le_of_ble_eq_true rfl) dX8_asked___26 (fun H locs hP hD hS => ?_)
      have hP : va_P D vwCl (wMo mx cI cZ w (nI nz) q d (nI nt) pr mw mt zo ke wy st tr be ch (nI 2)) H := hP
      have hD : va_D A (wMo mx cI cZ w (nI nz) q d (nI nt) pr mw mt zo ke wy st tr be ch (nI 2)) := hD
      refine lv_aload_n hx hb dX8_asked___29 rfl (lv_at hl 0 rfl) ?_
      refine va_get (D := D) (ci := 8) (v := .int (nI 2)) (C := RX8) (T := TX8) (N := 16) hx hb hts tu_X8 hown hSt.1 hP 0 rfl rfl 15 (by decide) (hts _ t3_235) (fun _ h9 => h9) rfl dX8_asked___30 ?_
      refine lv_if_ne (tgt := 40) hx hb dX8_asked___33 (by decide) (fun c_6 => ?_) (fun c_6 => ?_)
      · refine lv_iconst (v := nI 0) hx hb dX8_asked___40 (by decide) ?_
        have hP9 : va_P D vwCl (wMo mx cI cZ w (nI nz) q d (nI nt) pr mw mt zo ke wy st tr be ch (nI (as3 x1 x2 x3))) H := by rw [e9]; exact hP
        have hD9 : va_D A (wMo mx cI cZ w (nI nz) q d (nI nt) pr mw mt zo ke wy st tr be ch (nI (as3 x1 x2 x3))) := by rw [e9]; exact hD
        exact W.zret (v := nI 0) hx hb hr (rfl) (fun t9 ht9 hW9 => ⟨⟨nI 0, (), rfl, ((bI_f (by rw [e9]; decide)).symm), by rw [ht9]; exact hP9, hD9⟩, hS.F ht9⟩) hS.2.2 dX8_asked___41
      · exact absurd c_6 (by decide)
  · refine lv_iconst (v := nI 1) hx hb dX8_asked___5 (by decide) ?_
    refine lv_goto (tgt := 26) hx hb dX8_asked___6 (by decide) ?_
    have e9 : as3 x1 x2 x3 = 1 := if_pos c_1
    refine va_put (D := D) (ci := 8) (v := .int (nI 1)) (ty := .int) (C := RX8) (T := TX8) (N := 16) hx hb hts tu_X8 tyX8 tyX8_ok nmX8 hown hSt.1 hP hD hS 0 rfl rfl 15 (by decide) (hts _ t3_235) (fun _ h9 => h9) rfl (by decide +kernel) rfl rfl (Nat.le_of_ble_eq_true rfl) dX8_asked___26 (fun H locs hP hD hS => ?_)
    have hP : va_P D vwCl (wMo mx cI cZ w (nI nz) q d (nI nt) pr mw mt zo ke wy st tr be ch (nI 1)) H := hP
    have hD : va_D A (wMo mx cI cZ w (nI nz) q d (nI nt) pr mw mt zo ke wy st tr be ch (nI 1)) := hD
    refine lv_aload_n hx hb dX8_asked___29 rfl (lv_at hl 0 rfl) ?_
    refine va_get (D := D) (ci := 8) (v := .int (nI 1)) (C := RX8) (T := TX8) (N := 16) hx hb hts tu_X8 hown hSt.1 hP 0 rfl rfl 15 (by decide) (hts _ t3_235) (fun _ h9 => h9) rfl dX8_asked___30 ?_
    refine lv_if_ne (tgt := 40) hx hb dX8_asked___33 (by decide) (fun c_7 => ?_) (fun c_7 => ?_)
    · refine lv_iconst (v := nI 0) hx hb dX8_asked___40 (by decide) ?_
      have hP9 : va_P D vwCl (wMo mx cI cZ w (nI nz) q d (nI nt) pr mw mt zo ke wy st tr be ch (nI (as3 x1 x2 x3))) H := by rw [e9]; exact hP
      have hD9 : va_D A (wMo mx cI cZ w (nI nz) q d (nI nt) pr mw mt zo ke wy st tr be ch (nI (as3 x1 x2 x3))) := by rw [e9]; exact hD
      exact W.zret (v := nI 0) hx hb hr (rfl) (fun t9 ht9 hW9 => ⟨⟨nI 0, (), rfl, ((bI_f (by rw [e9]; decide)).symm), by rw [ht9]; exact hP9, hD9⟩, hS.F ht9⟩) hS.2.2 dX8_asked___41
    · exact absurd c_7 (by decide)
set_option maxHeartbeats 4000000 in
set_option maxRecDepth 100000 in
theorem c_X8_hasZone (l : Launch) (D : va_G) (cI cZ cQ cJ : ClassId) (mx : Nat → Nat) (w : Nat → Int32) (nz : Nat) (q : Nat → Int32) (d : Nat → Int32) (nt : Nat) (pr : Nat → Int32) (mw : Nat → Int32) (mt : Nat → Int32) (zo : Nat → Int32) (ke : Nat → Int32) (wy : Nat → Int32) (st : Nat → Int32) (tr : Nat → Int32) (be : Nat → Int32) (ch : Nat → Int32) (th : Int32) (s9 : Nat) (hnz : nz ≤ 7) : Met l yX8_hasZone (.code yX8_hasZone cX8_hasZone 4 (some .boolean) :: ALL) ({ frames := 0, cells := 0, slots := 0, locals := 0 } : Room) (va_Pc [.ref (mx 0), .int (nI s9)] (ro_P D cI cZ cQ cJ (wMo mx cI cZ w (nI nz) q d (nI nt) pr mw mt zo ke wy st tr be ch th))) (vp_Si (fun r9 => r9 = bI (anyN (fun o9 => decide (q o9 = nI s9)) nz = true))) 0 0 (fun _ => False) := by
  refine Met.ofW (cc := cX8_hasZone) (maxL := 4) (ret := (some .boolean)) (by decide) rfl ?_
  intro p e s m args below meth c s₁ B hml hv
  obtain ⟨rfl, hP, hSt⟩ := hv
  have hx := B.exec
  have hb := B.bytes
  have hr := B.returns
  have hts : ∀ w ∈ ALL, w.before ([.ref (mx 0), .int (nI s9)] : List Value).toArray s = true := fun w h => atoms_spec (ws := (.code yX8_hasZone cX8_hasZone 4 (some .boolean) :: ALL)) B.pre w (List.mem_cons_of_mem _ h)
  have hown : s.vm.findClass RX8 = some m.cls := findClass_of_methodNamed B.named
  have hlocks := B.notSynchronized
  have hl := lv_entry ([.ref (mx 0), .int (nI s9)]) (n := 4) (Nat.le_of_ble_eq_true rfl)
  rw [lg_entry_eq]
  generalize (lg_sl ([.ref (mx 0), .int (nI s9)]) ++ List.replicate (4 - (lg_sl ([.ref (mx 0), .int (nI s9)])).length) Slot.unset).toArray = ls at hl ⊢
  have hl : lv_has ls 4 [(0, .ref (mx 0)), (1, .int (nI s9))] := hl
  refine lv_iconst (v := nI 0) hx hb dX8_hasZone_0 (by decide) ?_
  refine lv_istore_n (lv' := [(2, .int (nI 0)), (0, .ref (mx 0)), (1, .int (nI s9))]) hx hb dX8_hasZone_1 rfl hl (by decide) rfl (fun ls hl => ?_)
  refine lv_iconst (v := nI 0) hx hb dX8_hasZone_2 (by decide) ?_
  refine lv_istore_n (lv' := [(3, .int (nI 0)), (2, .int (nI 0)), (0, .ref (mx 0)), (1, .int (nI s9))]) hx hb dX8_hasZone_3 rfl hl (by decide) rfl (fun ls hl => ?_)
  have L4 : ∀ (n9 : Nat) (o : Nat) (hs9 : Int32), (o ≤ nz) → (hs9 = bI (anyN (fun o9 => decide (q o9 = nI s9)) o = true)) → (nz - o) < n9 → ∀ (ls : Array Slot), lv_has ls 4 [(0, .ref (mx 0)), (1, .int (nI s9)), (2, .int hs9), (3, .int (nI o))] → W p l e ({ frames := 0, cells := 0, slots := 0, locals := 0 } : Room) s m ([.ref (mx 0), .int (nI s9)] : List Value).toArray below meth c s.heap [] 0 0 (MQ below (vp_Si (fun r9 => r9 = bI (anyN (fun o9 => decide (q o9 = nI s9)) nz = true))) ([.ref (mx 0), .int (nI s9)] : List Value).toArray s 0 0 (fun _ => False)) (F0 m 4 ls []) := by
    intro n9
    induction n9 with
    | zero =>
      intro o hs9 ho hh hm
      exact absurd hm (by omega)
    | succ n9 ih =>
      intro o hs9 ho hh hm ls hl
      have ih_L4 := ih
      refine lv_iload_n hx hb dX8_hasZone_4 rfl (lv_at hl 3 rfl) ?_
      refine lv_aload_n hx hb dX8_hasZone_5 rfl (lv_at hl 0 rfl) ?_
      refine va_get (D := D) (ci := 8) (v := .int (nI nz)) (C := RX8) (T := TX8) (N := 16) hx hb hts tu_X8 hown hSt.1 hP 0 rfl rfl 1 (by decide) (hts _ t3_221) (fun _ h9 => h9) rfl dX8_hasZone_6 ?_
      refine lv_icmp_ge (tgt := 38) hx hb dX8_hasZone_9 (by decide) (fun c_1 => ?_) (fun c_1 => ?_)
      · have c_1 := z_le (by omega) (by omega) c_1
        refine lv_iload_n hx hb dX8_hasZone_38 rfl (lv_at hl 2 rfl) ?_
        exact W.zret (v := hs9) hx hb hr (b01_nar' (by rw [hh]; exact bI_01 _)) (fun t9 ht9 hW9 => ⟨_, rfl, (by rw [hh, show o = nz by omega]), ht9⟩) (fun q h => nomatch h) dX8_hasZone_39
      · have c_1 := z_nle (by omega) (by omega) c_1
        refine lv_iload_n hx hb dX8_hasZone_12 rfl (lv_at hl 2 rfl) ?_
        refine lv_if_ne (tgt := 26) hx hb dX8_hasZone_13 (by decide) (fun c_2 => ?_) (fun c_2 => ?_)
        · refine lv_iconst (v := nI 1) hx hb dX8_hasZone_26 (by decide) ?_
          refine lv_goto (tgt := 31) hx hb dX8_hasZone_27 (by decide) ?_
          refine lv_istore_n (lv' := [(2, .int (nI 1)), (0, .ref (mx 0)), (1, .int (nI s9)), (3, .int (nI o))]) hx hb dX8_hasZone_31 rfl hl (by decide) rfl (fun ls hl => ?_)
          refine lv_iinc (v := nI (o + 1)) (lv' := [(3, .int (nI (o + 1))), (2, .int (nI 1)), (0, .ref (mx 0)), (1, .int (nI s9))]) hx hb dX8_hasZone_32 hl (k := 3) rfl (z_inc _) (by decide) rfl (fun ls hl => ?_)
          refine lv_goto (tgt := 4) hx hb dX8_hasZone_35 (by decide) ?_
          exact ih_L4 (o + 1) (nI 1) (by omega) ((bI_t (by simp [anyN, bI_n0.mp (hh ▸ c_2)])).symm) (by omega) _ (lv_sub hl [2, 3, 1, 0] rfl)
        · refine lv_aload_n hx hb dX8_hasZone_16 rfl (lv_at hl 0 rfl) ?_
          refine va_get (D := D) (ci := 8) (v := .ref (mx 2)) (C := RX8) (T := TX8) (N := 16) hx hb hts tu_X8 hown hSt.1 hP 0 rfl rfl 2 (by decide) (hts _ t3_222) (fun _ h9 => h9) rfl dX8_hasZone_17 ?_
          refine lv_iload_n hx hb dX8_hasZone_20 rfl (lv_at hl 3 rfl) ?_
          refine r_iald hx hb hSt.1 hP 2 0 rfl rfl (k := o) (by omega) (by omega) dX8_hasZone_21 ?_
          refine lv_iload_n hx hb dX8_hasZone_22 rfl (lv_at hl 1 rfl) ?_
          refine lv_icmp_ne (tgt := 30) hx hb dX8_hasZone_23 (by decide) (fun c_3 => ?_) (fun c_3 => ?_)
          · refine lv_iconst (v := nI 0) hx hb dX8_hasZone_30 (by decide) ?_
            refine lv_istore_n (lv' := [(2, .int (nI 0)), (0, .ref (mx 0)), (1, .int (nI s9)), (3, .int (nI o))]) hx hb dX8_hasZone_31 rfl hl (by decide) rfl (fun ls hl => ?_)
            refine lv_iinc (v := nI (o + 1)) (lv' := [(3, .int (nI (o + 1))), (2, .int (nI 0)), (0, .ref (mx 0)), (1, .int (nI s9))]) hx hb dX8_hasZone_32 hl (k := 3) rfl (z_inc _) (by decide) rfl (fun ls hl => ?_)
            refine lv_goto (tgt := 4) hx hb dX8_hasZone_35 (by decide) ?_
            exact ih_L4 (o + 1) (nI 0) (by omega) ((bI_f (by have h7 := bI_0.mp (hh ▸ c_2); simp [anyN, c_3]; exact Bool.eq_false_iff.mpr h7)).symm) (by omega) _ (lv_sub hl [2, 3, 1, 0] rfl)
          · refine lv_iconst (v := nI 1) hx hb dX8_hasZone_26 (by decide) ?_
            refine lv_goto (tgt := 31) hx hb dX8_hasZone_27 (by decide) ?_
            refine lv_istore_n (lv' := [(2, .int (nI 1)), (0, .ref (mx 0)), (1, .int (nI s9)), (3, .int (nI o))]) hx hb dX8_hasZone_31 rfl hl (by decide) rfl (fun ls hl => ?_)
            refine lv_iinc (v := nI (o + 1)) (lv' := [(3, .int (nI (o + 1))), (2, .int (nI 1)), (0, .ref (mx 0)), (1, .int (nI s9))]) hx hb dX8_hasZone_32 hl (k := 3) rfl (z_inc _) (by decide) rfl (fun ls hl => ?_)
            refine lv_goto (tgt := 4) hx hb dX8_hasZone_35 (by decide) ?_
            exact ih_L4 (o + 1) (nI 1) (by omega) ((bI_t (by simp [anyN, c_3])).symm) (by omega) _ (lv_sub hl [2, 3, 1, 0] rfl)
  exact L4 _ 0 (nI 0) (by omega) ((bI_f Bool.noConfusion).symm) (Nat.lt_succ_self _) _ (lv_sub hl [2, 3, 1, 0] rfl)
set_option maxHeartbeats 4000000 in
set_option maxRecDepth 100000 in
theorem c_X8_inZone (l : Launch) (D : va_G) (cI cZ cQ cJ : ClassId) (mx : Nat → Nat) (w : Nat → Int32) (nz : Nat) (q : Nat → Int32) (d : Nat → Int32) (nt : Nat) (pr : Nat → Int32) (mw : Nat → Int32) (mt : Nat → Int32) (zo : Nat → Int32) (ke : Nat → Int32) (wy : Nat → Int32) (st : Nat → Int32) (tr : Nat → Int32) (be : Nat → Int32) (ch : Nat → Int32) (th : Int32) (g : Nat → Nat) (cz : Nat → Int32) (z : Nat) (hnz : nz ≤ 7) (hnt : nt ≤ 7) (hzo : pOK nt zo g) (hcz : pOK 7 cz g) (hvg : vG nz nt g) (hz : z < 7) : Met l yX8_inZone (.code yX8_inZone cX8_inZone 4 (some .int) :: ALL) ({ frames := 0, cells := 0, slots := 0, locals := 0 } : Room) (va_Pc [.ref (mx 0), .int (nI z)] (ro_P D cI cZ cQ cJ (wMo mx cI cZ w (nI nz) q d (nI nt) pr mw mt zo ke wy st tr be ch th))) (vp_Si (fun r9 => r9 = tAt cz (nI z))) 0 0 (fun _ => False) := by
  refine Met.ofW (cc := cX8_inZone) (maxL := 4) (ret := (some .int)) (by decide) rfl ?_
  intro p e s m args below meth c s₁ B hml hv
  obtain ⟨rfl, hP, hSt⟩ := hv
  have hx := B.exec
  have hb := B.bytes
  have hr := B.returns
  have hts : ∀ w ∈ ALL, w.before ([.ref (mx 0), .int (nI z)] : List Value).toArray s = true := fun w h => atoms_spec (ws := (.code yX8_inZone cX8_inZone 4 (some .int) :: ALL)) B.pre w (List.mem_cons_of_mem _ h)
  have hown : s.vm.findClass RX8 = some m.cls := findClass_of_methodNamed B.named
  have hlocks := B.notSynchronized
  have hl := lv_entry ([.ref (mx 0), .int (nI z)]) (n := 4) (Nat.le_of_ble_eq_true rfl)
  rw [lg_entry_eq]
  generalize (lg_sl ([.ref (mx 0), .int (nI z)]) ++ List.replicate (4 - (lg_sl ([.ref (mx 0), .int (nI z)])).length) Slot.unset).toArray = ls at hl ⊢
  have hl : lv_has ls 4 [(0, .ref (mx 0)), (1, .int (nI z))] := hl
  refine lv_iconst (v := (-1 : Int32)) hx hb dX8_inZone_0 (by decide) ?_
  refine lv_istore_n (lv' := [(2, .int (-1 : Int32)), (0, .ref (mx 0)), (1, .int (nI z))]) hx hb dX8_inZone_1 rfl hl (by decide) rfl (fun ls hl => ?_)
  refine lv_iconst (v := nI 0) hx hb dX8_inZone_2 (by decide) ?_
  refine lv_istore_n (lv' := [(3, .int (nI 0)), (2, .int (-1 : Int32)), (0, .ref (mx 0)), (1, .int (nI z))]) hx hb dX8_inZone_3 rfl hl (by decide) rfl (fun ls hl => ?_)
  have L4 : ∀ (n9 : Nat) (i : Nat) (f9 : Int32), (i ≤ nt) → ((f9 = -1 ∧ ∀ t, t < i → g t ≠ z) ∨ ∃ t0, t0 < i ∧ g t0 = z ∧ f9 = nI t0) → (nt - i) < n9 → ∀ (ls : Array Slot), lv_has ls 4 [(0, .ref (mx 0)), (1, .int (nI z)), (2, .int f9), (3, .int (nI i))] → W p l e ({ frames := 0, cells := 0, slots := 0, locals := 0 } : Room) s m ([.ref (mx 0), .int (nI z)] : List Value).toArray below meth c s.heap [] 0 0 (MQ below (vp_Si (fun r9 => r9 = tAt cz (nI z))) ([.ref (mx 0), .int (nI z)] : List Value).toArray s 0 0 (fun _ => False)) (F0 m 4 ls []) := by
    intro n9
    induction n9 with
    | zero =>
      intro i f9 hi hf hm
      exact absurd hm (by omega)
    | succ n9 ih =>
      intro i f9 hi hf hm ls hl
      have ih_L4 := ih
      refine lv_iload_n hx hb dX8_inZone_4 rfl (lv_at hl 3 rfl) ?_
      refine lv_aload_n hx hb dX8_inZone_5 rfl (lv_at hl 0 rfl) ?_
      refine va_get (D := D) (ci := 8) (v := .int (nI nt)) (C := RX8) (T := TX8) (N := 16) hx hb hts tu_X8 hown hSt.1 hP 0 rfl rfl 4 (by decide) (hts _ t3_224) (fun _ h9 => h9) rfl dX8_inZone_6 ?_
      refine lv_icmp_ge (tgt := 34) hx hb dX8_inZone_9 (by decide) (fun c_1 => ?_) (fun c_1 => ?_)
      · have c_1 := z_le (by omega) (by omega) c_1
        refine lv_iload_n hx hb dX8_inZone_34 rfl (lv_at hl 2 rfl) ?_
        exact W.iret (v := f9) hx hb hr (fun t9 ht9 hW9 => ⟨_, rfl, (by rcases hf with ⟨e, h9⟩ | ⟨t0, a1, a2, a3⟩; rw [e, (tAt_none hcz (vG_7 hvg hnz) (vG_out hvg) hnt hz).mpr (fun t ht => h9 t (by omega))]; rw [a3, tAt_only hcz hvg hnz hz (by omega) a2]), ht9⟩) (fun q h => nomatch h) dX8_inZone_35
      · have c_1 := z_nle (by omega) (by omega) c_1
        refine lv_aload_n hx hb dX8_inZone_12 rfl (lv_at hl 0 rfl) ?_
        refine va_get (D := D) (ci := 8) (v := .ref (mx 7)) (C := RX8) (T := TX8) (N := 16) hx hb hts tu_X8 hown hSt.1 hP 0 rfl rfl 8 (by decide) (hts _ t3_228) (fun _ h9 => h9) rfl dX8_inZone_13 ?_
        refine lv_iload_n hx hb dX8_inZone_16 rfl (lv_at hl 3 rfl) ?_
        refine r_iald hx hb hSt.1 hP 7 0 rfl rfl (k := i) (by omega) (by omega) dX8_inZone_17 ?_
        refine lv_as (y := zI (g i)) (hzo i (by omega)) ?_
        refine lv_iload_n hx hb dX8_inZone_18 rfl (lv_at hl 1 rfl) ?_
        refine lv_icmp_ne (tgt := 26) hx hb dX8_inZone_19 (by decide) (fun c_2 => ?_) (fun c_2 => ?_)
        · refine lv_iload_n hx hb dX8_inZone_26 rfl (lv_at hl 2 rfl) ?_
          refine lv_istore_n (lv' := [(2, .int f9), (0, .ref (mx 0)), (1, .int (nI z)), (3, .int (nI i))]) hx hb dX8_inZone_27 rfl hl (by decide) rfl (fun ls hl => ?_)
          refine lv_iinc (v := nI (i + 1)) (lv' := [(3, .int (nI (i + 1))), (2, .int f9), (0, .ref (mx 0)), (1, .int (nI z))]) hx hb dX8_inZone_28 hl (k := 3) rfl (z_inc _) (by decide) rfl (fun ls hl => ?_)
          refine lv_goto (tgt := 4) hx hb dX8_inZone_31 (by decide) ?_
          exact ih_L4 (i + 1) f9 (by omega) (hf.elim (fun q9 => Or.inl ⟨q9.1, fun t ht e => if e2 : t = i then c_2 ((zI_eqn (vG_7 hvg hnz i (by omega)) hz).mpr (e2 ▸ e)) else q9.2 t (by omega) e⟩) (fun ⟨t0, a1, a2, a3⟩ => Or.inr ⟨t0, by omega, a2, a3⟩)) (by omega) _ (lv_sub hl [2, 3, 1, 0] rfl)
        · refine lv_iload_n hx hb dX8_inZone_22 rfl (lv_at hl 3 rfl) ?_
          refine lv_goto (tgt := 27) hx hb dX8_inZone_23 (by decide) ?_
          refine lv_istore_n (lv' := [(2, .int (nI i)), (0, .ref (mx 0)), (1, .int (nI z)), (3, .int (nI i))]) hx hb dX8_inZone_27 rfl hl (by decide) rfl (fun ls hl => ?_)
          refine lv_iinc (v := nI (i + 1)) (lv' := [(3, .int (nI (i + 1))), (2, .int (nI i)), (0, .ref (mx 0)), (1, .int (nI z))]) hx hb dX8_inZone_28 hl (k := 3) rfl (z_inc _) (by decide) rfl (fun ls hl => ?_)
          refine lv_goto (tgt := 4) hx hb dX8_inZone_31 (by decide) ?_
          exact ih_L4 (i + 1) (nI i) (by omega) (Or.inr ⟨i, by omega, (zI_eqn (vG_7 hvg hnz i (by omega)) hz).mp c_2, rfl⟩) (by omega) _ (lv_sub hl [2, 3, 1, 0] rfl)
  exact L4 _ 0 (-1 : Int32) (by omega) (Or.inl ⟨rfl, fun t ht => absurd ht (by omega)⟩) (Nat.lt_succ_self _) _ (lv_sub hl [2, 3, 1, 0] rfl)
set_option maxHeartbeats 4000000 in
set_option maxRecDepth 100000 in
theorem c_X8_needOf (l : Launch) (D : va_G) (cI cZ cQ cJ : ClassId) (mx : Nat → Nat) (w : Nat → Int32) (nz : Nat) (q : Nat → Int32) (d : Nat → Int32) (nt : Nat) (pr : Nat → Int32) (mw : Nat → Int32) (mt : Nat → Int32) (zo : Nat → Int32) (ke : Nat → Int32) (wy : Nat → Int32) (st : Nat → Int32) (tr : Nat → Int32) (be : Nat → Int32) (ch : Nat → Int32) (th : Int32) (pp : Nat → Nat → Nat) (n : Nat → Int32) (t : Nat) (hnt : nt ≤ 7) (hpr : ∀ t, t < nt → ∀ j, j < 5 → pr (5 * t + j) = nI (pp t j) ∧ pp t j ≤ 60) (hnn : ∀ t, t < nt → n t = nI (ndN (pp t))) (ht : t < nt) : Met l yX8_needOf (.code yX8_needOf cX8_needOf 4 (some .int) :: ALL) ({ frames := 0, cells := 0, slots := 0, locals := 0 } : Room) (va_Pc [.ref (mx 0), .int (nI t)] (ro_P D cI cZ cQ cJ (wMo mx cI cZ w (nI nz) q d (nI nt) pr mw mt zo ke wy st tr be ch th))) (vp_Si (fun r9 => r9 = n t)) 0 0 (fun _ => False) := by
  refine Met.ofW (cc := cX8_needOf) (maxL := 4) (ret := (some .int)) (by decide) rfl ?_
  intro p e s m args below meth c s₁ B hml hv
  obtain ⟨rfl, hP, hSt⟩ := hv
  have hx := B.exec
  have hb := B.bytes
  have hr := B.returns
  have hts : ∀ w ∈ ALL, w.before ([.ref (mx 0), .int (nI t)] : List Value).toArray s = true := fun w h => atoms_spec (ws := (.code yX8_needOf cX8_needOf 4 (some .int) :: ALL)) B.pre w (List.mem_cons_of_mem _ h)
  have hown : s.vm.findClass RX8 = some m.cls := findClass_of_methodNamed B.named
  have hlocks := B.notSynchronized
  have hl := lv_entry ([.ref (mx 0), .int (nI t)]) (n := 4) (Nat.le_of_ble_eq_true rfl)
  rw [lg_entry_eq]
  generalize (lg_sl ([.ref (mx 0), .int (nI t)]) ++ List.replicate (4 - (lg_sl ([.ref (mx 0), .int (nI t)])).length) Slot.unset).toArray = ls at hl ⊢
  have hl : lv_has ls 4 [(0, .ref (mx 0)), (1, .int (nI t))] := hl
  refine lv_iconst (v := nI 0) hx hb dX8_needOf_0 (by decide) ?_
  refine lv_istore_n (lv' := [(2, .int (nI 0)), (0, .ref (mx 0)), (1, .int (nI t))]) hx hb dX8_needOf_1 rfl hl (by decide) rfl (fun ls hl => ?_)
  refine lv_iconst (v := nI 0) hx hb dX8_needOf_2 (by decide) ?_
  refine lv_istore_n (lv' := [(3, .int (nI 0)), (2, .int (nI 0)), (0, .ref (mx 0)), (1, .int (nI t))]) hx hb dX8_needOf_3 rfl hl (by decide) rfl (fun ls hl => ?_)
  have L4 : ∀ (n9 : Nat) (j : Nat) (m1 : Nat), (j ≤ 5) → (m1 = mxQ (pp t) j) → (m1 ≤ 60) → (5 - j) < n9 → ∀ (ls : Array Slot), lv_has ls 4 [(0, .ref (mx 0)), (1, .int (nI t)), (2, .int (nI m1)), (3, .int (nI j))] → W p l e ({ frames := 0, cells := 0, slots := 0, locals := 0 } : Room) s m ([.ref (mx 0), .int (nI t)] : List Value).toArray below meth c s.heap [] 0 0 (MQ below (vp_Si (fun r9 => r9 = n t)) ([.ref (mx 0), .int (nI t)] : List Value).toArray s 0 0 (fun _ => False)) (F0 m 4 ls []) := by
    intro n9
    induction n9 with
    | zero =>
      intro j m1 hj hm1 hm6 hm
      exact absurd hm (by omega)
    | succ n9 ih =>
      intro j m1 hj hm1 hm6 hm ls hl
      have ih_L4 := ih
      refine lv_iload_n hx hb dX8_needOf_4 rfl (lv_at hl 3 rfl) ?_
      refine lv_iconst (v := nI 5) hx hb dX8_needOf_5 (by decide) ?_
      refine lv_icmp_ge (tgt := 44) hx hb dX8_needOf_6 (by decide) (fun c_1 => ?_) (fun c_1 => ?_)
      · have c_1 := z_le (by omega) (by omega) c_1
        refine lv_iload_n hx hb dX8_needOf_44 rfl (lv_at hl 2 rfl) ?_
        exact W.iret (v := nI m1) hx hb hr (fun t9 ht9 hW9 => ⟨_, rfl, (by rw [hnn t ht, ← mxQ_ndN, hm1, show j = 5 by omega]), ht9⟩) (fun q h => nomatch h) dX8_needOf_45
      · have c_1 := z_nle (by omega) (by omega) c_1
        have hpj := hpr t ht j (by omega)
        have hpj2 := hpj.2
        refine lv_aload_n hx hb dX8_needOf_9 rfl (lv_at hl 0 rfl) ?_
        refine va_get (D := D) (ci := 8) (v := .ref (mx 4)) (C := RX8) (T := TX8) (N := 16) hx hb hts tu_X8 hown hSt.1 hP 0 rfl rfl 5 (by decide) (hts _ t3_225) (fun _ h9 => h9) rfl dX8_needOf_10 ?_
        refine lv_iconst (v := nI 5) hx hb dX8_needOf_13 (by decide) ?_
        refine lv_iload_n hx hb dX8_needOf_14 rfl (lv_at hl 1 rfl) ?_
        refine r_muln hx hb dX8_needOf_15 ?_
        refine lv_iload_n hx hb dX8_needOf_16 rfl (lv_at hl 3 rfl) ?_
        refine r_addn hx hb dX8_needOf_17 ?_
        refine r_iald hx hb hSt.1 hP 4 0 rfl rfl (k := ((5 * t) + j)) (by omega) (by omega) dX8_needOf_18 ?_
        refine lv_as (y := nI (pp t j)) (hpj.1) ?_
        refine lv_iload_n hx hb dX8_needOf_19 rfl (lv_at hl 2 rfl) ?_
        refine lv_icmp_le (tgt := 36) hx hb dX8_needOf_20 (by decide) (fun c_2 => ?_) (fun c_2 => ?_)
        · have c_2 := z_le (by omega) (by omega) c_2
          refine lv_iload_n hx hb dX8_needOf_36 rfl (lv_at hl 2 rfl) ?_
          refine lv_istore_n (lv' := [(2, .int (nI m1)), (0, .ref (mx 0)), (1, .int (nI t)), (3, .int (nI j))]) hx hb dX8_needOf_37 rfl hl (by decide) rfl (fun ls hl => ?_)
          refine lv_iinc (v := nI (j + 1)) (lv' := [(3, .int (nI (j + 1))), (2, .int (nI m1)), (0, .ref (mx 0)), (1, .int (nI t))]) hx hb dX8_needOf_38 hl (k := 3) rfl (z_inc _) (by decide) rfl (fun ls hl => ?_)
          refine lv_goto (tgt := 4) hx hb dX8_needOf_41 (by decide) ?_
          exact ih_L4 (j + 1) m1 (by omega) (by rw [mxQ, ← hm1, if_neg (by omega)]) (by omega) (by omega) _ (lv_sub hl [2, 3, 1, 0] rfl)
        · have c_2 := z_nle (by omega) (by omega) c_2
          refine lv_aload_n hx hb dX8_needOf_23 rfl (lv_at hl 0 rfl) ?_
          refine va_get (D := D) (ci := 8) (v := .ref (mx 4)) (C := RX8) (T := TX8) (N := 16) hx hb hts tu_X8 hown hSt.1 hP 0 rfl rfl 5 (by decide) (hts _ t3_225) (fun _ h9 => h9) rfl dX8_needOf_24 ?_
          refine lv_iconst (v := nI 5) hx hb dX8_needOf_27 (by decide) ?_
          refine lv_iload_n hx hb dX8_needOf_28 rfl (lv_at hl 1 rfl) ?_
          refine r_muln hx hb dX8_needOf_29 ?_
          refine lv_iload_n hx hb dX8_needOf_30 rfl (lv_at hl 3 rfl) ?_
          refine r_addn hx hb dX8_needOf_31 ?_
          refine r_iald hx hb hSt.1 hP 4 0 rfl rfl (k := ((5 * t) + j)) (by omega) (by omega) dX8_needOf_32 ?_
          refine lv_as (y := nI (pp t j)) (hpj.1) ?_
          refine lv_goto (tgt := 37) hx hb dX8_needOf_33 (by decide) ?_
          refine lv_istore_n (lv' := [(2, .int (nI (pp t j))), (0, .ref (mx 0)), (1, .int (nI t)), (3, .int (nI j))]) hx hb dX8_needOf_37 rfl hl (by decide) rfl (fun ls hl => ?_)
          refine lv_iinc (v := nI (j + 1)) (lv' := [(3, .int (nI (j + 1))), (2, .int (nI (pp t j))), (0, .ref (mx 0)), (1, .int (nI t))]) hx hb dX8_needOf_38 hl (k := 3) rfl (z_inc _) (by decide) rfl (fun ls hl => ?_)
          refine lv_goto (tgt := 4) hx hb dX8_needOf_41 (by decide) ?_
          exact ih_L4 (j + 1) (pp t j) (by omega) (by rw [mxQ, ← hm1, if_pos (by omega)]) (by omega) (by omega) _ (lv_sub hl [2, 3, 1, 0] rfl)
  exact L4 _ 0 0 (by omega) rfl (by omega) (Nat.lt_succ_self _) _ (lv_sub hl [2, 3, 1, 0] rfl)
theorem hd_X8_isSquare : yX8_isSquare.cls = RX8 ∧ yX8_isSquare.cls ≠ "java/lang/invoke/MethodHandle" ∧ yX8_isSquare.cls ≠ "java/lang/invoke/VarHandle" ∧ (parseMethodDescriptor yX8_isSquare.desc).map (fun d => d.parameters.length) = some 2 := by decide +kernel
theorem hd_X8_isZone : yX8_isZone.cls = RX8 ∧ yX8_isZone.cls ≠ "java/lang/invoke/MethodHandle" ∧ yX8_isZone.cls ≠ "java/lang/invoke/VarHandle" ∧ (parseMethodDescriptor yX8_isZone.desc).map (fun d => d.parameters.length) = some 1 := by decide +kernel
theorem hd_X8_isTeam : yX8_isTeam.cls = RX8 ∧ yX8_isTeam.cls ≠ "java/lang/invoke/MethodHandle" ∧ yX8_isTeam.cls ≠ "java/lang/invoke/VarHandle" ∧ (parseMethodDescriptor yX8_isTeam.desc).map (fun d => d.parameters.length) = some 1 := by decide +kernel
theorem hd_X8_thrown : yX8_thrown.cls = RX8 ∧ yX8_thrown.cls ≠ "java/lang/invoke/MethodHandle" ∧ yX8_thrown.cls ≠ "java/lang/invoke/VarHandle" ∧ (parseMethodDescriptor yX8_thrown.desc).map (fun d => d.parameters.length) = some 0 := by decide +kernel
theorem hd_X8_told : yX8_told.cls = RX8 ∧ yX8_told.cls ≠ "java/lang/invoke/MethodHandle" ∧ yX8_told.cls ≠ "java/lang/invoke/VarHandle" ∧ (parseMethodDescriptor yX8_told.desc).map (fun d => d.parameters.length) = some 1 := by decide +kernel
theorem hd_X8_asked : yX8_asked.cls = RX8 ∧ yX8_asked.cls ≠ "java/lang/invoke/MethodHandle" ∧ yX8_asked.cls ≠ "java/lang/invoke/VarHandle" ∧ (parseMethodDescriptor yX8_asked.desc).map (fun d => d.parameters.length) = some 1 := by decide +kernel
theorem hd_X8_asked_ : yX8_asked_.cls = RX8 ∧ yX8_asked_.cls ≠ "java/lang/invoke/MethodHandle" ∧ yX8_asked_.cls ≠ "java/lang/invoke/VarHandle" ∧ (parseMethodDescriptor yX8_asked_.desc).map (fun d => d.parameters.length) = some 2 := by decide +kernel
theorem hd_X8_asked__ : yX8_asked__.cls = RX8 ∧ yX8_asked__.cls ≠ "java/lang/invoke/MethodHandle" ∧ yX8_asked__.cls ≠ "java/lang/invoke/VarHandle" ∧ (parseMethodDescriptor yX8_asked__.desc).map (fun d => d.parameters.length) = some 3 := by decide +kernel
theorem hd_X8_hasZone : yX8_hasZone.cls = RX8 ∧ yX8_hasZone.cls ≠ "java/lang/invoke/MethodHandle" ∧ yX8_hasZone.cls ≠ "java/lang/invoke/VarHandle" ∧ (parseMethodDescriptor yX8_hasZone.desc).map (fun d => d.parameters.length) = some 1 := by decide +kernel
theorem hd_X8_inZone : yX8_inZone.cls = RX8 ∧ yX8_inZone.cls ≠ "java/lang/invoke/MethodHandle" ∧ yX8_inZone.cls ≠ "java/lang/invoke/VarHandle" ∧ (parseMethodDescriptor yX8_inZone.desc).map (fun d => d.parameters.length) = some 1 := by decide +kernel
theorem hd_X8_needOf : yX8_needOf.cls = RX8 ∧ yX8_needOf.cls ≠ "java/lang/invoke/MethodHandle" ∧ yX8_needOf.cls ≠ "java/lang/invoke/VarHandle" ∧ (parseMethodDescriptor yX8_needOf.desc).map (fun d => d.parameters.length) = some 1 := by decide +kernel
set_option maxHeartbeats 4000000 in
set_option maxRecDepth 100000 in
theorem c_X8_fits (l : Launch) (D : va_G) (cI cZ cQ cJ : ClassId) (mx : Nat → Nat) (w : Nat → Int32) (nz : Nat) (q : Nat → Int32) (d : Nat → Int32) (nt : Nat) (pr : Nat → Int32) (mw : Nat → Int32) (mt : Nat → Int32) (zo : Nat → Int32) (ke : Nat → Int32) (wy : Nat → Int32) (st : Nat → Int32) (tr : Nat → Int32) (be : Nat → Int32) (ch : Nat → Int32) (th : Int32) (pp : Nat → Nat → Nat) (n : Nat → Int32) (t : Nat) (z : Nat) (hnt : nt ≤ 7) (hpr : ∀ t, t < nt → ∀ j, j < 5 → pr (5 * t + j) = nI (pp t j) ∧ pp t j ≤ 60) (hnn : ∀ t, t < nt → n t = nI (ndN (pp t))) (ht : t < nt) (hz : z < 7) : Met l yX8_fits (.code yX8_fits cX8_fits 3 (some .boolean) :: ALL) ({ frames := 1, cells := 0, slots := 0, locals := 23 } : Room) (va_Pc [.ref (mx 0), .int (nI t), .int (nI z)] (ro_P D cI cZ cQ cJ (wMo mx cI cZ w (nI nz) q d (nI nt) pr mw mt zo ke wy st tr be ch th))) (vp_Si (fun r9 => r9 = bI (n t ≤ d z))) 0 0 (fun _ => False) := by
  refine Met.ofW (cc := cX8_fits) (maxL := 3) (ret := (some .boolean)) (by decide) rfl ?_
  intro p e s m args below meth c s₁ B hml hv
  obtain ⟨rfl, hP, hSt⟩ := hv
  have hx := B.exec
  have hb := B.bytes
  have hr := B.returns
  have hts : ∀ w ∈ ALL, w.before ([.ref (mx 0), .int (nI t), .int (nI z)] : List Value).toArray s = true := fun w h => atoms_spec (ws := (.code yX8_fits cX8_fits 3 (some .boolean) :: ALL)) B.pre w (List.mem_cons_of_mem _ h)
  have hown : s.vm.findClass RX8 = some m.cls := findClass_of_methodNamed B.named
  have hlocks := B.notSynchronized
  have hl := lv_entry ([.ref (mx 0), .int (nI t), .int (nI z)]) (n := 3) (Nat.le_of_ble_eq_true rfl)
  rw [lg_entry_eq]
  generalize (lg_sl ([.ref (mx 0), .int (nI t), .int (nI z)]) ++ List.replicate (3 - (lg_sl ([.ref (mx 0), .int (nI t), .int (nI z)])).length) Slot.unset).toArray = ls at hl ⊢
  have hl : lv_has ls 3 [(0, .ref (mx 0)), (1, .int (nI t)), (2, .int (nI z))] := hl
  refine lv_aload_n hx hb dX8_fits_0 rfl (lv_at hl 0 rfl) ?_
  refine va_get (D := D) (ci := 8) (v := .ref (mx 3)) (C := RX8) (T := TX8) (N := 16) hx hb hts tu_X8 hown hSt.1 hP 0 rfl rfl 3 (by decide) (hts _ t3_223) (fun _ h9 => h9) rfl dX8_fits_1 ?_
  refine lv_iload_n hx hb dX8_fits_4 rfl (lv_at hl 2 rfl) ?_
  refine r_iald hx hb hSt.1 hP 3 0 rfl rfl (k := z) (by omega) (by omega) dX8_fits_5 ?_
  refine lv_aload_n hx hb dX8_fits_6 rfl (lv_at hl 0 rfl) ?_
  refine lv_iload_n hx hb dX8_fits_7 rfl (lv_at hl 1 rfl) ?_
  refine ro_V (As := [.int (nI t)]) (rest := [.int (d z)]) (v := n t) ⟨hx, hb, hml, hown, hts⟩ (c_X8_needOf l D cI cZ cQ cJ mx w nz q d nt pr mw mt zo ke wy st tr be ch th pp n t (by first | assumption | omega) (by first | assumption | omega) (by first | assumption | omega) (by first | assumption | omega)) (gV t4_71 t4_73 t0_24 t1_10 t4_74) rfl rfl hd_X8_needOf ⟨Nat.le_of_ble_eq_true rfl, Nat.le_of_ble_eq_true rfl⟩ hP hSt (va_recv hSt.1 hP (ci := 8) (q0 := 0) rfl rfl) rfl hl.1 rfl (Nat.le_of_ble_eq_true rfl) dX8_fits_8 (Nat.zero_le _) (Nat.zero_le _) ?_
  refine lv_icmp_lt (tgt := 18) hx hb dX8_fits_11 (by decide) (fun c_1 => ?_) (fun c_1 => ?_)
  · refine lv_iconst (v := nI 0) hx hb dX8_fits_18 (by decide) ?_
    exact W.zret (v := nI 0) hx hb hr (rfl) (fun t9 ht9 hW9 => ⟨_, rfl, ((bI_f (i32_nle c_1)).symm), ht9⟩) (fun q h => nomatch h) dX8_fits_19
  · refine lv_iconst (v := nI 1) hx hb dX8_fits_14 (by decide) ?_
    refine lv_goto (tgt := 19) hx hb dX8_fits_15 (by decide) ?_
    exact W.zret (v := nI 1) hx hb hr (rfl) (fun t9 ht9 hW9 => ⟨_, rfl, ((bI_t (i32_nlt c_1)).symm), ht9⟩) (fun q h => nomatch h) dX8_fits_19
theorem hd_X8_fits : yX8_fits.cls = RX8 ∧ yX8_fits.cls ≠ "java/lang/invoke/MethodHandle" ∧ yX8_fits.cls ≠ "java/lang/invoke/VarHandle" ∧ (parseMethodDescriptor yX8_fits.desc).map (fun d => d.parameters.length) = some 2 := by decide +kernel
set_option maxHeartbeats 4000000 in
set_option maxRecDepth 100000 in
theorem c_X8_setWall (l : Launch) (D : va_G) (cI cZ cQ cJ : ClassId) (mx : Nat → Nat) (w : Nat → Int32) (nz : Nat) (q : Nat → Int32) (d : Nat → Int32) (nt : Nat) (pr : Nat → Int32) (mw : Nat → Int32) (mt : Nat → Int32) (zo : Nat → Int32) (ke : Nat → Int32) (wy : Nat → Int32) (st : Nat → Int32) (tr : Nat → Int32) (be : Nat → Int32) (ch : Nat → Int32) (th : Int32) (sq : Nat → Nat) (co : Int32) (ro : Int32) (b : Int32) (sz : Nat) (hnz : nz ≤ 7) (hq : ∀ o, o < nz → q o = nI (sq o) ∧ sq o < 64 ∧ w (sq o) = 0) (hw : ∀ k, k < 64 → w k = 0 ∨ w k = 1) (hb1 : b = 0 ∨ b = 1) : Met l yX8_setWall (.code yX8_setWall cX8_setWall 6 (some .boolean) :: ALL) ({ frames := 2, cells := 0, slots := 0, locals := 43 } : Room) (va_Pc [.ref (mx 0), .int co, .int ro, .int b] (rw_P D cI cZ cQ cJ (wMo mx cI cZ w (nI nz) q d (nI nt) pr mw mt zo ke wy st tr be ch th) sz)) (va_Qi (fun (r9 : Int32) (u9 : Int32 × Nat × (Nat → Int32)) => (r9 = u9.1) ∧ (sSetWall nz q w co ro b u9.2.1 u9.1 u9.2.2)) (rw_B D (va_A (wMo mx cI cZ w (nI nz) q d (nI nt) pr mw mt zo ke wy st tr be ch th) sz) (fun u9 : Int32 × Nat × (Nat → Int32) => wMo mx cI cZ u9.2.2 (nI nz) q d (nI nt) pr mw mt zo ke wy st tr be ch (nI u9.2.1))) (va_A (wMo mx cI cZ w (nI nz) q d (nI nt) pr mw mt zo ke wy st tr be ch th) sz)) 0 0 (va_A (wMo mx cI cZ w (nI nz) q d (nI nt) pr mw mt zo ke wy st tr be ch th) sz) := by
  refine Met.ofW (cc := cX8_setWall) (maxL := 6) (ret := (some .boolean)) (by decide) rfl ?_
  intro p e s m args below meth c s₁ B hml hv
  obtain ⟨rfl, hsz, hP, hSt, hD0⟩ := hv
  have hx := B.exec
  have hb := B.bytes
  have hr := B.returns
  have hts : ∀ w ∈ ALL, w.before ([.ref (mx 0), .int co, .int ro, .int b] : List Value).toArray s = true := fun w h => atoms_spec (ws := (.code yX8_setWall cX8_setWall 6 (some .boolean) :: ALL)) B.pre w (List.mem_cons_of_mem _ h)
  have hown : s.vm.findClass RX8 = some m.cls := findClass_of_methodNamed B.named
  have hlocks := B.notSynchronized
  subst hsz
  have hD := hD0.self (sz := s.heap.size)
  clear hD0
  generalize hAe : va_A (wMo mx cI cZ w (nI nz) q d (nI nt) pr mw mt zo ke wy st tr be ch th) s.heap.size = A at hD ⊢
  have hA : ∀ q : Nat, s.heap.size ≤ q → A q := fun q h => by rw [← hAe]; exact Or.inr h
  have hS : va_S A s.heap s.heap [] := va_S.rf
  have hl := lv_entry ([.ref (mx 0), .int co, .int ro, .int b]) (n := 6) (Nat.le_of_ble_eq_true rfl)
  rw [lg_entry_eq]
  generalize (lg_sl ([.ref (mx 0), .int co, .int ro, .int b]) ++ List.replicate (6 - (lg_sl ([.ref (mx 0), .int co, .int ro, .int b])).length) Slot.unset).toArray = ls at hl ⊢
  have hl : lv_has ls 6 [(0, .ref (mx 0)), (1, .int co), (2, .int ro), (3, .int b)] := hl
  obtain ⟨H, hHe⟩ : ∃ H : Heap, H = s.heap := ⟨_, rfl⟩
  obtain ⟨locs, hLe⟩ : ∃ L : List Loc, L = [] := ⟨_, rfl⟩
  have hP : va_P D vwCl (wMo mx cI cZ w (nI nz) q d (nI nt) pr mw mt zo ke wy st tr be ch th) H := by rw [hHe]; exact hP
  have hS : va_S A s.heap H locs := by rw [hHe, hLe]; exact hS
  refine W.eqHL hHe hLe ?_
  refine lv_iload_n hx hb dX8_setWall_0 rfl (lv_at hl 1 rfl) ?_
  refine lv_iload_n hx hb dX8_setWall_1 rfl (lv_at hl 2 rfl) ?_
  refine ro_S (As := [.int co, .int ro]) (rest := []) (v := bI (inSq co ro)) ⟨hx, hb, hml, hown, hts⟩ (c_X8_isSquare l D cI cZ cQ cJ co ro) (gS t4_37 t4_38 t1_10 t4_39) rfl rfl hd_X8_isSquare ⟨Nat.le_of_ble_eq_true rfl, Nat.le_of_ble_eq_true rfl⟩ va_P_nil hSt rfl hl.1 rfl (Nat.le_of_ble_eq_true rfl) dX8_setWall_2 (Nat.zero_le _) (Nat.zero_le _) ?_
  refine lv_istore (lv' := [(4, .int (bI (inSq co ro))), (0, .ref (mx 0)), (1, .int co), (2, .int ro), (3, .int b)]) hx hb dX8_setWall_5 hl (by decide) rfl (fun ls hl => ?_)
  refine lv_aload_n hx hb dX8_setWall_7 rfl (lv_at hl 1 rfl) ?_
  refine lv_iload hx hb dX8_setWall_8 (lv_at hl 0 rfl) ?_
  refine lv_iload hx hb dX8_setWall_10 (lv_at hl 0 rfl) ?_
  refine lv_if_eq (tgt := 32) hx hb dX8_setWall_12 (by decide) (fun c_1 => ?_) (fun c_1 => ?_)
  · have c_1 := bI_0.mp c_1
    refine lv_iconst (v := nI 0) hx hb dX8_setWall_32 (by decide) ?_
    refine rw_i (wr := ([] : va_W)) (w_V (As := [.int (bI (inSq co ro)), .int (nI 0)]) ⟨hx, hb, hml, hown, hts⟩ (c_X8_asked_ l D cI cZ cQ cJ mx w nz q d nt pr mw mt zo ke wy st tr be ch th (bI (inSq co ro)) (nI 0) H.size) (gV t4_47 t4_49 t0_20 t1_10 t4_50) rfl rfl hd_X8_asked_ ⟨Nat.le_of_ble_eq_true rfl, Nat.le_of_ble_eq_true rfl⟩ (rw_pre hP hD hSt [0, 1, 2, 3, 4, 5, 6, 7, 8, 9, 10, 11, 12, 13] rfl (by decide)) (va_recv hSt.1 hP (ci := 8) (q0 := 0) rfl rfl) rfl hl.1 (rest := []) rfl (Nat.le_of_ble_eq_true rfl) dX8_setWall_33 ⟨Nat.le_of_ble_eq_true rfl, Nat.le_of_ble_eq_true rfl⟩) hP hD hS hA [0, 1, 2, 3, 4, 5, 6, 7, 8, 9, 10, 11, 12, 13] [] rfl rfl (by decide) (by decide) (fun r_9 u_2 H locs hw9 hP hD hS => ?_)
    obtain rfl := hw9
    have hP : va_P D vwCl (wMo mx cI cZ w (nI nz) q d (nI nt) pr mw mt zo ke wy st tr be ch (nI (as2 (bI (inSq co ro)) (nI 0)))) H := hP
    have hD : va_D A (wMo mx cI cZ w (nI nz) q d (nI nt) pr mw mt zo ke wy st tr be ch (nI (as2 (bI (inSq co ro)) (nI 0)))) := hD
    refine lv_if_ne (tgt := 41) hx hb dX8_setWall_36 (by decide) (fun c_3 => ?_) (fun c_3 => ?_)
    · have c_3 := bI_n0.mp c_3
      exact absurd (bI_0.mpr c_1) (as2_0 c_3).1
    · have c_3 := bI_0.mp c_3
      refine lv_iconst (v := nI 0) hx hb dX8_setWall_39 (by decide) ?_
      have hP9 : va_P D vwCl (wMo mx cI cZ w (nI nz) q d (nI nt) pr mw mt zo ke wy st tr be ch (nI (as2 (bI (inSq co ro)) (nI 0)))) H := hP
      have hD9 : va_D A (wMo mx cI cZ w (nI nz) q d (nI nt) pr mw mt zo ke wy st tr be ch (nI (as2 (bI (inSq co ro)) (nI 0)))) := hD
      have g_4 : sSetWall nz q w co ro b (as2 (bI (inSq co ro)) (nI 0)) (nI 0) w := Or.inl ⟨c_1, as2_1 (bI_0.mpr c_1), rfl⟩
      exact W.zret (v := nI 0) hx hb hr (rfl) (fun t9 ht9 hW9 => ⟨⟨nI 0, (nI 0, as2 (bI (inSq co ro)) (nI 0), w), rfl, ⟨rfl, g_4⟩, by rw [ht9]; exact hP9, hD9⟩, hS.F ht9⟩) hS.2.2 dX8_setWall_40
  · have c_1 := bI_n0.mp c_1
    have hsq := c_1
    obtain ⟨i0, j0, hi0, hj0, rfl, rfl⟩ := inSq_nat hsq
    have e9 : sqI (nI i0) (nI j0) = 8 * j0 + i0 := by rw [sqI_nat (by omega) (by omega)]; omega
    refine lv_aload_n hx hb dX8_setWall_15 rfl (lv_at hl 1 rfl) ?_
    refine lv_bipush (v := nI 8) hx hb dX8_setWall_16 (by decide) ?_
    refine lv_iload_n hx hb dX8_setWall_18 rfl (lv_at hl 3 rfl) ?_
    refine r_muln hx hb dX8_setWall_19 ?_
    refine lv_iload_n hx hb dX8_setWall_20 rfl (lv_at hl 2 rfl) ?_
    refine r_addn hx hb dX8_setWall_21 ?_
    refine ro_V (As := [.int (nI ((8 * j0) + i0))]) (rest := [.int (bI (inSq (nI i0) (nI j0))), .ref (mx 0)]) (v := bI (anyN (fun o9 => decide (q o9 = nI ((8 * j0) + i0))) nz = true)) ⟨hx, hb, hml, hown, hts⟩ (c_X8_hasZone l D cI cZ cQ cJ mx w nz q d nt pr mw mt zo ke wy st tr be ch th ((8 * j0) + i0) (by first | assumption | omega)) (gV t4_43 t4_45 t0_19 t1_10 t4_46) rfl rfl hd_X8_hasZone ⟨Nat.le_of_ble_eq_true rfl, Nat.le_of_ble_eq_true rfl⟩ hP hSt (va_recv hSt.1 hP (ci := 8) (q0 := 0) rfl rfl) rfl hl.1 rfl (Nat.le_of_ble_eq_true rfl) dX8_setWall_22 (Nat.zero_le _) (Nat.zero_le _) ?_
    refine lv_if_ne (tgt := 32) hx hb dX8_setWall_25 (by decide) (fun c_5 => ?_) (fun c_5 => ?_)
    · have c_5 := bI_n0.mp c_5
      refine lv_iconst (v := nI 0) hx hb dX8_setWall_32 (by decide) ?_
      refine rw_i (wr := ([] : va_W)) (w_V (As := [.int (bI (inSq (nI i0) (nI j0))), .int (nI 0)]) ⟨hx, hb, hml, hown, hts⟩ (c_X8_asked_ l D cI cZ cQ cJ mx w nz q d nt pr mw mt zo ke wy st tr be ch th (bI (inSq (nI i0) (nI j0))) (nI 0) H.size) (gV t4_47 t4_49 t0_20 t1_10 t4_50) rfl rfl hd_X8_asked_ ⟨Nat.le_of_ble_eq_true rfl, Nat.le_of_ble_eq_true rfl⟩ (rw_pre hP hD hSt [0, 1, 2, 3, 4, 5, 6, 7, 8, 9, 10, 11, 12, 13] rfl (by decide)) (va_recv hSt.1 hP (ci := 8) (q0 := 0) rfl rfl) rfl hl.1 (rest := []) rfl (Nat.le_of_ble_eq_true rfl) dX8_setWall_33 ⟨Nat.le_of_ble_eq_true rfl, Nat.le_of_ble_eq_true rfl⟩) hP hD hS hA [0, 1, 2, 3, 4, 5, 6, 7, 8, 9, 10, 11, 12, 13] [] rfl rfl (by decide) (by decide) (fun r_9 u_6 H locs hw9 hP hD hS => ?_)
      obtain rfl := hw9
      have hP : va_P D vwCl (wMo mx cI cZ w (nI nz) q d (nI nt) pr mw mt zo ke wy st tr be ch (nI (as2 (bI (inSq (nI i0) (nI j0))) (nI 0)))) H := hP
      have hD : va_D A (wMo mx cI cZ w (nI nz) q d (nI nt) pr mw mt zo ke wy st tr be ch (nI (as2 (bI (inSq (nI i0) (nI j0))) (nI 0)))) := hD
      refine lv_if_ne (tgt := 41) hx hb dX8_setWall_36 (by decide) (fun c_7 => ?_) (fun c_7 => ?_)
      · have c_7 := bI_n0.mp c_7
        exact absurd nI0 (as2_0 c_7).2
      · have c_7 := bI_0.mp c_7
        refine lv_iconst (v := nI 0) hx hb dX8_setWall_39 (by decide) ?_
        have hP9 : va_P D vwCl (wMo mx cI cZ w (nI nz) q d (nI nt) pr mw mt zo ke wy st tr be ch (nI (as2 (bI (inSq (nI i0) (nI j0))) (nI 0)))) H := hP
        have hD9 : va_D A (wMo mx cI cZ w (nI nz) q d (nI nt) pr mw mt zo ke wy st tr be ch (nI (as2 (bI (inSq (nI i0) (nI j0))) (nI 0)))) := hD
        have g_8 : sSetWall nz q w (nI i0) (nI j0) b (as2 (bI (inSq (nI i0) (nI j0))) (nI 0)) (nI 0) w := Or.inr (Or.inl ⟨hsq, by rw [e9]; exact c_5, as2_2 (by rw [bI_t hsq]; exact nI1) nI0, rfl⟩)
        exact W.zret (v := nI 0) hx hb hr (rfl) (fun t9 ht9 hW9 => ⟨⟨nI 0, (nI 0, as2 (bI (inSq (nI i0) (nI j0))) (nI 0), w), rfl, ⟨rfl, g_8⟩, by rw [ht9]; exact hP9, hD9⟩, hS.F ht9⟩) hS.2.2 dX8_setWall_40
    · have c_5 := bI_0.mp c_5
      refine lv_iconst (v := nI 1) hx hb dX8_setWall_28 (by decide) ?_
      refine lv_goto (tgt := 33) hx hb dX8_setWall_29 (by decide) ?_
      refine rw_i (wr := ([] : va_W)) (w_V (As := [.int (bI (inSq (nI i0) (nI j0))), .int (nI 1)]) ⟨hx, hb, hml, hown, hts⟩ (c_X8_asked_ l D cI cZ cQ cJ mx w nz q d nt pr mw mt zo ke wy st tr be ch th (bI (inSq (nI i0) (nI j0))) (nI 1) H.size) (gV t4_47 t4_49 t0_20 t1_10 t4_50) rfl rfl hd_X8_asked_ ⟨Nat.le_of_ble_eq_true rfl, Nat.le_of_ble_eq_true rfl⟩ (rw_pre hP hD hSt [0, 1, 2, 3, 4, 5, 6, 7, 8, 9, 10, 11, 12, 13] rfl (by decide)) (va_recv hSt.1 hP (ci := 8) (q0 := 0) rfl rfl) rfl hl.1 (rest := []) rfl (Nat.le_of_ble_eq_true rfl) dX8_setWall_33 ⟨Nat.le_of_ble_eq_true rfl, Nat.le_of_ble_eq_true rfl⟩) hP hD hS hA [0, 1, 2, 3, 4, 5, 6, 7, 8, 9, 10, 11, 12, 13] [] rfl rfl (by decide) (by decide) (fun r_9 u_9 H locs hw9 hP hD hS => ?_)
      obtain rfl := hw9
      have hP : va_P D vwCl (wMo mx cI cZ w (nI nz) q d (nI nt) pr mw mt zo ke wy st tr be ch (nI (as2 (bI (inSq (nI i0) (nI j0))) (nI 1)))) H := hP
      have hD : va_D A (wMo mx cI cZ w (nI nz) q d (nI nt) pr mw mt zo ke wy st tr be ch (nI (as2 (bI (inSq (nI i0) (nI j0))) (nI 1)))) := hD
      refine lv_if_ne (tgt := 41) hx hb dX8_setWall_36 (by decide) (fun c_10 => ?_) (fun c_10 => ?_)
      · have c_10 := bI_n0.mp c_10
        refine lv_aload_n hx hb dX8_setWall_41 rfl (lv_at hl 1 rfl) ?_
        refine va_get (D := D) (ci := 8) (v := .ref (mx 1)) (C := RX8) (T := TX8) (N := 16) hx hb hts tu_X8 hown hSt.1 hP 0 rfl rfl 0 (by decide) (hts _ t3_220) (fun _ h9 => h9) rfl dX8_setWall_42 ?_
        refine lv_bipush (v := nI 8) hx hb dX8_setWall_45 (by decide) ?_
        refine lv_iload_n hx hb dX8_setWall_47 rfl (lv_at hl 3 rfl) ?_
        refine r_muln hx hb dX8_setWall_48 ?_
        refine lv_iload_n hx hb dX8_setWall_49 rfl (lv_at hl 2 rfl) ?_
        refine r_addn hx hb dX8_setWall_50 ?_
        refine r_zald hx hb hSt.1 hP 1 1 rfl rfl (k := ((8 * j0) + i0)) (by omega) (by omega) dX8_setWall_51 ?_
        refine lv_istore (lv' := [(5, .int (w ((8 * j0) + i0))), (4, .int (bI (inSq (nI i0) (nI j0)))), (0, .ref (mx 0)), (1, .int (nI i0)), (2, .int (nI j0)), (3, .int b)]) hx hb dX8_setWall_52 hl (by decide) rfl (fun ls hl => ?_)
        refine lv_aload_n hx hb dX8_setWall_54 rfl (lv_at hl 2 rfl) ?_
        refine va_get (D := D) (ci := 8) (v := .ref (mx 1)) (C := RX8) (T := TX8) (N := 16) hx hb hts tu_X8 hown hSt.1 hP 0 rfl rfl 0 (by decide) (hts _ t3_220) (fun _ h9 => h9) rfl dX8_setWall_55 ?_
        refine lv_bipush (v := nI 8) hx hb dX8_setWall_58 (by decide) ?_
        refine lv_iload_n hx hb dX8_setWall_60 rfl (lv_at hl 4 rfl) ?_
        refine r_muln hx hb dX8_setWall_61 ?_
        refine lv_iload_n hx hb dX8_setWall_62 rfl (lv_at hl 3 rfl) ?_
        refine r_addn hx hb dX8_setWall_63 ?_
        refine lv_iload_n hx hb dX8_setWall_64 rfl (lv_at hl 5 rfl) ?_
        refine r_zast hx hb hSt.1 hP hD hS 1 1 rfl rfl (b01_nar hb1) (k := ((8 * j0) + i0)) (by omega) (by omega) dX8_setWall_65 (fun H locs hP hD hS => ?_)
        have hP : va_P D vwCl (wMo mx cI cZ (upd w ((8 * j0) + i0) b) (nI nz) q d (nI nt) pr mw mt zo ke wy st tr be ch (nI (as2 (bI (inSq (nI i0) (nI j0))) (nI 1)))) H := hP
        have hD : va_D A (wMo mx cI cZ (upd w ((8 * j0) + i0) b) (nI nz) q d (nI nt) pr mw mt zo ke wy st tr be ch (nI (as2 (bI (inSq (nI i0) (nI j0))) (nI 1)))) := hD
        refine lv_iload hx hb dX8_setWall_66 (lv_at hl 0 rfl) ?_
        have hP9 : va_P D vwCl (wMo mx cI cZ (upd w ((8 * j0) + i0) b) (nI nz) q d (nI nt) pr mw mt zo ke wy st tr be ch (nI (as2 (bI (inSq (nI i0) (nI j0))) (nI 1)))) H := hP
        have hD9 : va_D A (wMo mx cI cZ (upd w ((8 * j0) + i0) b) (nI nz) q d (nI nt) pr mw mt zo ke wy st tr be ch (nI (as2 (bI (inSq (nI i0) (nI j0))) (nI 1)))) := hD
        have g_11 : sSetWall nz q w (nI i0) (nI j0) b (as2 (bI (inSq (nI i0) (nI j0))) (nI 1)) (w ((8 * j0) + i0)) (upd w ((8 * j0) + i0) b) := Or.inr (Or.inr ⟨hsq, by rw [e9]; exact c_5, c_10, by rw [e9], by rw [e9]⟩)
        exact W.zret (v := w ((8 * j0) + i0)) hx hb hr (b01_nar' (hw _ (by omega))) (fun t9 ht9 hW9 => ⟨⟨w ((8 * j0) + i0), (w ((8 * j0) + i0), as2 (bI (inSq (nI i0) (nI j0))) (nI 1), upd w ((8 * j0) + i0) b), rfl, ⟨rfl, g_11⟩, by rw [ht9]; exact hP9, hD9⟩, hS.F ht9⟩) hS.2.2 dX8_setWall_68
      · have c_10 := bI_0.mp c_10
        exact absurd (as2_3 (by rw [bI_t hsq]; exact nI1) nI1) c_10
set_option maxHeartbeats 4000000 in
set_option maxRecDepth 100000 in
theorem c_X8_addZone (l : Launch) (D : va_G) (cI cZ cQ cJ : ClassId) (mx : Nat → Nat) (w : Nat → Int32) (nz : Nat) (q : Nat → Int32) (d : Nat → Int32) (nt : Nat) (pr : Nat → Int32) (mw : Nat → Int32) (mt : Nat → Int32) (zo : Nat → Int32) (ke : Nat → Int32) (wy : Nat → Int32) (st : Nat → Int32) (tr : Nat → Int32) (be : Nat → Int32) (ch : Nat → Int32) (th : Int32) (sq : Nat → Nat) (co : Int32) (ro : Int32) (m9 : Int32) (sz : Nat) (hnz : nz ≤ 7) (hq : ∀ o, o < nz → q o = nI (sq o) ∧ sq o < 64 ∧ w (sq o) = 0) (hw : ∀ k, k < 64 → w k = 0 ∨ w k = 1) : Met l yX8_addZone (.code yX8_addZone cX8_addZone 6 (some .int) :: ALL) ({ frames := 2, cells := 0, slots := 0, locals := 43 } : Room) (va_Pc [.ref (mx 0), .int co, .int ro, .int m9] (rw_P D cI cZ cQ cJ (wMo mx cI cZ w (nI nz) q d (nI nt) pr mw mt zo ke wy st tr be ch th) sz)) (va_Qi (fun (r9 : Int32) (u9 : Int32 × Nat × (Nat → Int32) × (Nat → Int32) × Nat) => (r9 = u9.1) ∧ (sAddZone nz q d w co ro m9 u9.2.1 u9.1 u9.2.2.2.2 u9.2.2.1 u9.2.2.2.1)) (rw_B D (va_A (wMo mx cI cZ w (nI nz) q d (nI nt) pr mw mt zo ke wy st tr be ch th) sz) (fun u9 : Int32 × Nat × (Nat → Int32) × (Nat → Int32) × Nat => wMo mx cI cZ w (nI u9.2.2.2.2) u9.2.2.1 u9.2.2.2.1 (nI nt) pr mw mt zo ke wy st tr be ch (nI u9.2.1))) (va_A (wMo mx cI cZ w (nI nz) q d (nI nt) pr mw mt zo ke wy st tr be ch th) sz)) 0 0 (va_A (wMo mx cI cZ w (nI nz) q d (nI nt) pr mw mt zo ke wy st tr be ch th) sz) := by
  refine Met.ofW (cc := cX8_addZone) (maxL := 6) (ret := (some .int)) (by decide) rfl ?_
  intro p e s m args below meth c s₁ B hml hv
  obtain ⟨rfl, hsz, hP, hSt, hD0⟩ := hv
  have hx := B.exec
  have hb := B.bytes
  have hr := B.returns
  have hts : ∀ w ∈ ALL, w.before ([.ref (mx 0), .int co, .int ro, .int m9] : List Value).toArray s = true := fun w h => atoms_spec (ws := (.code yX8_addZone cX8_addZone 6 (some .int) :: ALL)) B.pre w (List.mem_cons_of_mem _ h)
  have hown : s.vm.findClass RX8 = some m.cls := findClass_of_methodNamed B.named
  have hlocks := B.notSynchronized
  subst hsz
  have hD := hD0.self (sz := s.heap.size)
  clear hD0
  generalize hAe : va_A (wMo mx cI cZ w (nI nz) q d (nI nt) pr mw mt zo ke wy st tr be ch th) s.heap.size = A at hD ⊢
  have hA : ∀ q : Nat, s.heap.size ≤ q → A q := fun q h => by rw [← hAe]; exact Or.inr h
  have hS : va_S A s.heap s.heap [] := va_S.rf
  have hl := lv_entry ([.ref (mx 0), .int co, .int ro, .int m9]) (n := 6) (Nat.le_of_ble_eq_true rfl)
  rw [lg_entry_eq]
  generalize (lg_sl ([.ref (mx 0), .int co, .int ro, .int m9]) ++ List.replicate (6 - (lg_sl ([.ref (mx 0), .int co, .int ro, .int m9])).length) Slot.unset).toArray = ls at hl ⊢
  have hl : lv_has ls 6 [(0, .ref (mx 0)), (1, .int co), (2, .int ro), (3, .int m9)] := hl
  obtain ⟨H, hHe⟩ : ∃ H : Heap, H = s.heap := ⟨_, rfl⟩
  obtain ⟨locs, hLe⟩ : ∃ L : List Loc, L = [] := ⟨_, rfl⟩
  have hP : va_P D vwCl (wMo mx cI cZ w (nI nz) q d (nI nt) pr mw mt zo ke wy st tr be ch th) H := by rw [hHe]; exact hP
  have hS : va_S A s.heap H locs := by rw [hHe, hLe]; exact hS
  refine W.eqHL hHe hLe ?_
  refine lv_iload_n hx hb dX8_addZone_0 rfl (lv_at hl 1 rfl) ?_
  refine lv_iload_n hx hb dX8_addZone_1 rfl (lv_at hl 2 rfl) ?_
  refine ro_S (As := [.int co, .int ro]) (rest := []) (v := bI (inSq co ro)) ⟨hx, hb, hml, hown, hts⟩ (c_X8_isSquare l D cI cZ cQ cJ co ro) (gS t4_37 t4_38 t1_10 t4_39) rfl rfl hd_X8_isSquare ⟨Nat.le_of_ble_eq_true rfl, Nat.le_of_ble_eq_true rfl⟩ va_P_nil hSt rfl hl.1 rfl (Nat.le_of_ble_eq_true rfl) dX8_addZone_2 (Nat.zero_le _) (Nat.zero_le _) ?_
  refine lv_istore (lv' := [(4, .int (bI (inSq co ro))), (0, .ref (mx 0)), (1, .int co), (2, .int ro), (3, .int m9)]) hx hb dX8_addZone_5 hl (by decide) rfl (fun ls hl => ?_)
  refine lv_iload hx hb dX8_addZone_7 (lv_at hl 0 rfl) ?_
  refine lv_if_eq (tgt := 21) hx hb dX8_addZone_9 (by decide) (fun c_1 => ?_) (fun c_1 => ?_)
  · have c_1 := bI_0.mp c_1
    refine lv_iconst (v := nI 0) hx hb dX8_addZone_21 (by decide) ?_
    refine lv_istore (lv' := [(5, .int (nI 0)), (4, .int (bI (inSq co ro))), (0, .ref (mx 0)), (1, .int co), (2, .int ro), (3, .int m9)]) hx hb dX8_addZone_22 hl (by decide) rfl (fun ls hl => ?_)
    refine lv_aload_n hx hb dX8_addZone_24 rfl (lv_at hl 2 rfl) ?_
    refine lv_iload hx hb dX8_addZone_25 (lv_at hl 1 rfl) ?_
    refine lv_iload_n hx hb dX8_addZone_27 rfl (lv_at hl 5 rfl) ?_
    refine lv_iconst (v := nI 1) hx hb dX8_addZone_28 (by decide) ?_
    refine lv_bipush (v := nI 60) hx hb dX8_addZone_29 (by decide) ?_
    refine ro_S (As := [.int m9, .int (nI 1), .int (nI 60)]) (rest := [.int (bI (inSq co ro)), .ref (mx 0)]) (v := bI (inI m9 (nI 1) (nI 60))) ⟨hx, hb, hml, hown, hts⟩ (c_X8_in l D cI cZ cQ cJ m9 (nI 1) (nI 60)) (gS t4_40 t4_41 t1_10 t4_42) rfl rfl hd_X8_in ⟨Nat.le_of_ble_eq_true rfl, Nat.le_of_ble_eq_true rfl⟩ va_P_nil hSt rfl hl.1 rfl (Nat.le_of_ble_eq_true rfl) dX8_addZone_31 (Nat.zero_le _) (Nat.zero_le _) ?_
    refine lv_aload_n hx hb dX8_addZone_34 rfl (lv_at hl 2 rfl) ?_
    refine va_get (D := D) (ci := 8) (v := .int (nI nz)) (C := RX8) (T := TX8) (N := 16) hx hb hts tu_X8 hown hSt.1 hP 0 rfl rfl 1 (by decide) (hts _ t3_221) (fun _ h9 => h9) rfl dX8_addZone_35 ?_
    refine lv_bipush (v := nI 7) hx hb dX8_addZone_38 (by decide) ?_
    refine lv_icmp_ge (tgt := 66) hx hb dX8_addZone_40 (by decide) (fun c_2 => ?_) (fun c_2 => ?_)
    · have c_2 := z_le (by omega) (by omega) c_2
      refine lv_iconst (v := nI 0) hx hb dX8_addZone_66 (by decide) ?_
      refine rw_i (wr := ([] : va_W)) (w_V (As := [.int (bI (inSq co ro)), .int (bI (inI m9 (nI 1) (nI 60))), .int (nI 0)]) ⟨hx, hb, hml, hown, hts⟩ (c_X8_asked__ l D cI cZ cQ cJ mx w nz q d nt pr mw mt zo ke wy st tr be ch th (bI (inSq co ro)) (bI (inI m9 (nI 1) (nI 60))) (nI 0) H.size) (gV t4_55 t4_57 t0_21 t1_10 t4_58) rfl rfl hd_X8_asked__ ⟨Nat.le_of_ble_eq_true rfl, Nat.le_of_ble_eq_true rfl⟩ (rw_pre hP hD hSt [0, 1, 2, 3, 4, 5, 6, 7, 8, 9, 10, 11, 12, 13] rfl (by decide)) (va_recv hSt.1 hP (ci := 8) (q0 := 0) rfl rfl) rfl hl.1 (rest := []) rfl (Nat.le_of_ble_eq_true rfl) dX8_addZone_67 ⟨Nat.le_of_ble_eq_true rfl, Nat.le_of_ble_eq_true rfl⟩) hP hD hS hA [0, 1, 2, 3, 4, 5, 6, 7, 8, 9, 10, 11, 12, 13] [] rfl rfl (by decide) (by decide) (fun r_9 u_3 H locs hw9 hP hD hS => ?_)
      obtain rfl := hw9
      have hP : va_P D vwCl (wMo mx cI cZ w (nI nz) q d (nI nt) pr mw mt zo ke wy st tr be ch (nI (as3 (bI (inSq co ro)) (bI (inI m9 (nI 1) (nI 60))) (nI 0)))) H := hP
      have hD : va_D A (wMo mx cI cZ w (nI nz) q d (nI nt) pr mw mt zo ke wy st tr be ch (nI (as3 (bI (inSq co ro)) (bI (inI m9 (nI 1) (nI 60))) (nI 0)))) := hD
      refine lv_if_ne (tgt := 75) hx hb dX8_addZone_70 (by decide) (fun c_4 => ?_) (fun c_4 => ?_)
      · have c_4 := bI_n0.mp c_4
        exact absurd (bI_0.mpr c_1) (as3_0 c_4).1
      · have c_4 := bI_0.mp c_4
        refine lv_iconst (v := nI 0) hx hb dX8_addZone_73 (by decide) ?_
        have hP9 : va_P D vwCl (wMo mx cI cZ w (nI nz) q d (nI nt) pr mw mt zo ke wy st tr be ch (nI (as3 (bI (inSq co ro)) (bI (inI m9 (nI 1) (nI 60))) (nI 0)))) H := hP
        have hD9 : va_D A (wMo mx cI cZ w (nI nz) q d (nI nt) pr mw mt zo ke wy st tr be ch (nI (as3 (bI (inSq co ro)) (bI (inI m9 (nI 1) (nI 60))) (nI 0)))) := hD
        have g_5 : sAddZone nz q d w co ro m9 (as3 (bI (inSq co ro)) (bI (inI m9 (nI 1) (nI 60))) (nI 0)) (nI 0) nz q d := Or.inl ⟨c_1, if_pos (bI_0.mpr c_1), rfl, rfl, rfl⟩
        exact W.iret (v := nI 0) hx hb hr (fun t9 ht9 hW9 => ⟨⟨nI 0, (nI 0, as3 (bI (inSq co ro)) (bI (inI m9 (nI 1) (nI 60))) (nI 0), q, d, nz), rfl, ⟨rfl, g_5⟩, by rw [ht9]; exact hP9, hD9⟩, hS.F ht9⟩) hS.2.2 dX8_addZone_74
    · have c_2 := z_nle (by omega) (by omega) c_2
      refine lv_aload_n hx hb dX8_addZone_43 rfl (lv_at hl 2 rfl) ?_
      refine va_get (D := D) (ci := 8) (v := .ref (mx 1)) (C := RX8) (T := TX8) (N := 16) hx hb hts tu_X8 hown hSt.1 hP 0 rfl rfl 0 (by decide) (hts _ t3_220) (fun _ h9 => h9) rfl dX8_addZone_44 ?_
      refine lv_iload hx hb dX8_addZone_47 (lv_at hl 0 rfl) ?_
      refine r_zald hx hb hSt.1 hP 1 1 rfl rfl (k := 0) (by omega) (by omega) dX8_addZone_49 ?_
      refine lv_if_ne (tgt := 66) hx hb dX8_addZone_50 (by decide) (fun c_6 => ?_) (fun c_6 => ?_)
      · refine lv_iconst (v := nI 0) hx hb dX8_addZone_66 (by decide) ?_
        refine rw_i (wr := ([] : va_W)) (w_V (As := [.int (bI (inSq co ro)), .int (bI (inI m9 (nI 1) (nI 60))), .int (nI 0)]) ⟨hx, hb, hml, hown, hts⟩ (c_X8_asked__ l D cI cZ cQ cJ mx w nz q d nt pr mw mt zo ke wy st tr be ch th (bI (inSq co ro)) (bI (inI m9 (nI 1) (nI 60))) (nI 0) H.size) (gV t4_55 t4_57 t0_21 t1_10 t4_58) rfl rfl hd_X8_asked__ ⟨Nat.le_of_ble_eq_true rfl, Nat.le_of_ble_eq_true rfl⟩ (rw_pre hP hD hSt [0, 1, 2, 3, 4, 5, 6, 7, 8, 9, 10, 11, 12, 13] rfl (by decide)) (va_recv hSt.1 hP (ci := 8) (q0 := 0) rfl rfl) rfl hl.1 (rest := []) rfl (Nat.le_of_ble_eq_true rfl) dX8_addZone_67 ⟨Nat.le_of_ble_eq_true rfl, Nat.le_of_ble_eq_true rfl⟩) hP hD hS hA [0, 1, 2, 3, 4, 5, 6, 7, 8, 9, 10, 11, 12, 13] [] rfl rfl (by decide) (by decide) (fun r_9 u_7 H locs hw9 hP hD hS => ?_)
        obtain rfl := hw9
        have hP : va_P D vwCl (wMo mx cI cZ w (nI nz) q d (nI nt) pr mw mt zo ke wy st tr be ch (nI (as3 (bI (inSq co ro)) (bI (inI m9 (nI 1) (nI 60))) (nI 0)))) H := hP
        have hD : va_D A (wMo mx cI cZ w (nI nz) q d (nI nt) pr mw mt zo ke wy st tr be ch (nI (as3 (bI (inSq co ro)) (bI (inI m9 (nI 1) (nI 60))) (nI 0)))) := hD
        refine lv_if_ne (tgt := 75) hx hb dX8_addZone_70 (by decide) (fun c_8 => ?_) (fun c_8 => ?_)
        · have c_8 := bI_n0.mp c_8
          exact absurd (bI_0.mpr c_1) (as3_0 c_8).1
        · have c_8 := bI_0.mp c_8
          refine lv_iconst (v := nI 0) hx hb dX8_addZone_73 (by decide) ?_
          have hP9 : va_P D vwCl (wMo mx cI cZ w (nI nz) q d (nI nt) pr mw mt zo ke wy st tr be ch (nI (as3 (bI (inSq co ro)) (bI (inI m9 (nI 1) (nI 60))) (nI 0)))) H := hP
          have hD9 : va_D A (wMo mx cI cZ w (nI nz) q d (nI nt) pr mw mt zo ke wy st tr be ch (nI (as3 (bI (inSq co ro)) (bI (inI m9 (nI 1) (nI 60))) (nI 0)))) := hD
          have g_9 : sAddZone nz q d w co ro m9 (as3 (bI (inSq co ro)) (bI (inI m9 (nI 1) (nI 60))) (nI 0)) (nI 0) nz q d := Or.inl ⟨c_1, if_pos (bI_0.mpr c_1), rfl, rfl, rfl⟩
          exact W.iret (v := nI 0) hx hb hr (fun t9 ht9 hW9 => ⟨⟨nI 0, (nI 0, as3 (bI (inSq co ro)) (bI (inI m9 (nI 1) (nI 60))) (nI 0), q, d, nz), rfl, ⟨rfl, g_9⟩, by rw [ht9]; exact hP9, hD9⟩, hS.F ht9⟩) hS.2.2 dX8_addZone_74
      · refine lv_aload_n hx hb dX8_addZone_53 rfl (lv_at hl 2 rfl) ?_
        refine lv_iload hx hb dX8_addZone_54 (lv_at hl 0 rfl) ?_
        refine ro_V (As := [.int (nI 0)]) (rest := [.int (bI (inI m9 (nI 1) (nI 60))), .int (bI (inSq co ro)), .ref (mx 0)]) (v := bI (anyN (fun o9 => decide (q o9 = nI 0)) nz = true)) ⟨hx, hb, hml, hown, hts⟩ (c_X8_hasZone l D cI cZ cQ cJ mx w nz q d nt pr mw mt zo ke wy st tr be ch th 0 (by first | assumption | omega)) (gV t4_43 t4_45 t0_19 t1_10 t4_46) rfl rfl hd_X8_hasZone ⟨Nat.le_of_ble_eq_true rfl, Nat.le_of_ble_eq_true rfl⟩ hP hSt (va_recv hSt.1 hP (ci := 8) (q0 := 0) rfl rfl) rfl hl.1 rfl (Nat.le_of_ble_eq_true rfl) dX8_addZone_56 (Nat.zero_le _) (Nat.zero_le _) ?_
        refine lv_if_ne (tgt := 66) hx hb dX8_addZone_59 (by decide) (fun c_10 => ?_) (fun c_10 => ?_)
        · have c_10 := bI_n0.mp c_10
          refine lv_iconst (v := nI 0) hx hb dX8_addZone_66 (by decide) ?_
          refine rw_i (wr := ([] : va_W)) (w_V (As := [.int (bI (inSq co ro)), .int (bI (inI m9 (nI 1) (nI 60))), .int (nI 0)]) ⟨hx, hb, hml, hown, hts⟩ (c_X8_asked__ l D cI cZ cQ cJ mx w nz q d nt pr mw mt zo ke wy st tr be ch th (bI (inSq co ro)) (bI (inI m9 (nI 1) (nI 60))) (nI 0) H.size) (gV t4_55 t4_57 t0_21 t1_10 t4_58) rfl rfl hd_X8_asked__ ⟨Nat.le_of_ble_eq_true rfl, Nat.le_of_ble_eq_true rfl⟩ (rw_pre hP hD hSt [0, 1, 2, 3, 4, 5, 6, 7, 8, 9, 10, 11, 12, 13] rfl (by decide)) (va_recv hSt.1 hP (ci := 8) (q0 := 0) rfl rfl) rfl hl.1 (rest := []) rfl (Nat.le_of_ble_eq_true rfl) dX8_addZone_67 ⟨Nat.le_of_ble_eq_true rfl, Nat.le_of_ble_eq_true rfl⟩) hP hD hS hA [0, 1, 2, 3, 4, 5, 6, 7, 8, 9, 10, 11, 12, 13] [] rfl rfl (by decide) (by decide) (fun r_9 u_11 H locs hw9 hP hD hS => ?_)
          obtain rfl := hw9
          have hP : va_P D vwCl (wMo mx cI cZ w (nI nz) q d (nI nt) pr mw mt zo ke wy st tr be ch (nI (as3 (bI (inSq co ro)) (bI (inI m9 (nI 1) (nI 60))) (nI 0)))) H := hP
          have hD : va_D A (wMo mx cI cZ w (nI nz) q d (nI nt) pr mw mt zo ke wy st tr be ch (nI (as3 (bI (inSq co ro)) (bI (inI m9 (nI 1) (nI 60))) (nI 0)))) := hD
          refine lv_if_ne (tgt := 75) hx hb dX8_addZone_70 (by decide) (fun c_12 => ?_) (fun c_12 => ?_)
          · have c_12 := bI_n0.mp c_12
            exact absurd (bI_0.mpr c_1) (as3_0 c_12).1
          · have c_12 := bI_0.mp c_12
            refine lv_iconst (v := nI 0) hx hb dX8_addZone_73 (by decide) ?_
            have hP9 : va_P D vwCl (wMo mx cI cZ w (nI nz) q d (nI nt) pr mw mt zo ke wy st tr be ch (nI (as3 (bI (inSq co ro)) (bI (inI m9 (nI 1) (nI 60))) (nI 0)))) H := hP
            have hD9 : va_D A (wMo mx cI cZ w (nI nz) q d (nI nt) pr mw mt zo ke wy st tr be ch (nI (as3 (bI (inSq co ro)) (bI (inI m9 (nI 1) (nI 60))) (nI 0)))) := hD
            have g_13 : sAddZone nz q d w co ro m9 (as3 (bI (inSq co ro)) (bI (inI m9 (nI 1) (nI 60))) (nI 0)) (nI 0) nz q d := Or.inl ⟨c_1, if_pos (bI_0.mpr c_1), rfl, rfl, rfl⟩
            exact W.iret (v := nI 0) hx hb hr (fun t9 ht9 hW9 => ⟨⟨nI 0, (nI 0, as3 (bI (inSq co ro)) (bI (inI m9 (nI 1) (nI 60))) (nI 0), q, d, nz), rfl, ⟨rfl, g_13⟩, by rw [ht9]; exact hP9, hD9⟩, hS.F ht9⟩) hS.2.2 dX8_addZone_74
        · have c_10 := bI_0.mp c_10
          refine lv_iconst (v := nI 1) hx hb dX8_addZone_62 (by decide) ?_
          refine lv_goto (tgt := 67) hx hb dX8_addZone_63 (by decide) ?_
          refine rw_i (wr := ([] : va_W)) (w_V (As := [.int (bI (inSq co ro)), .int (bI (inI m9 (nI 1) (nI 60))), .int (nI 1)]) ⟨hx, hb, hml, hown, hts⟩ (c_X8_asked__ l D cI cZ cQ cJ mx w nz q d nt pr mw mt zo ke wy st tr be ch th (bI (inSq co ro)) (bI (inI m9 (nI 1) (nI 60))) (nI 1) H.size) (gV t4_55 t4_57 t0_21 t1_10 t4_58) rfl rfl hd_X8_asked__ ⟨Nat.le_of_ble_eq_true rfl, Nat.le_of_ble_eq_true rfl⟩ (rw_pre hP hD hSt [0, 1, 2, 3, 4, 5, 6, 7, 8, 9, 10, 11, 12, 13] rfl (by decide)) (va_recv hSt.1 hP (ci := 8) (q0 := 0) rfl rfl) rfl hl.1 (rest := []) rfl (Nat.le_of_ble_eq_true rfl) dX8_addZone_67 ⟨Nat.le_of_ble_eq_true rfl, Nat.le_of_ble_eq_true rfl⟩) hP hD hS hA [0, 1, 2, 3, 4, 5, 6, 7, 8, 9, 10, 11, 12, 13] [] rfl rfl (by decide) (by decide) (fun r_9 u_14 H locs hw9 hP hD hS => ?_)
          obtain rfl := hw9
          have hP : va_P D vwCl (wMo mx cI cZ w (nI nz) q d (nI nt) pr mw mt zo ke wy st tr be ch (nI (as3 (bI (inSq co ro)) (bI (inI m9 (nI 1) (nI 60))) (nI 1)))) H := hP
          have hD : va_D A (wMo mx cI cZ w (nI nz) q d (nI nt) pr mw mt zo ke wy st tr be ch (nI (as3 (bI (inSq co ro)) (bI (inI m9 (nI 1) (nI 60))) (nI 1)))) := hD
          refine lv_if_ne (tgt := 75) hx hb dX8_addZone_70 (by decide) (fun c_15 => ?_) (fun c_15 => ?_)
          · have c_15 := bI_n0.mp c_15
            exact absurd (bI_0.mpr c_1) (as3_0 c_15).1
          · have c_15 := bI_0.mp c_15
            refine lv_iconst (v := nI 0) hx hb dX8_addZone_73 (by decide) ?_
            have hP9 : va_P D vwCl (wMo mx cI cZ w (nI nz) q d (nI nt) pr mw mt zo ke wy st tr be ch (nI (as3 (bI (inSq co ro)) (bI (inI m9 (nI 1) (nI 60))) (nI 1)))) H := hP
            have hD9 : va_D A (wMo mx cI cZ w (nI nz) q d (nI nt) pr mw mt zo ke wy st tr be ch (nI (as3 (bI (inSq co ro)) (bI (inI m9 (nI 1) (nI 60))) (nI 1)))) := hD
            have g_16 : sAddZone nz q d w co ro m9 (as3 (bI (inSq co ro)) (bI (inI m9 (nI 1) (nI 60))) (nI 1)) (nI 0) nz q d := Or.inl ⟨c_1, if_pos (bI_0.mpr c_1), rfl, rfl, rfl⟩
            exact W.iret (v := nI 0) hx hb hr (fun t9 ht9 hW9 => ⟨⟨nI 0, (nI 0, as3 (bI (inSq co ro)) (bI (inI m9 (nI 1) (nI 60))) (nI 1), q, d, nz), rfl, ⟨rfl, g_16⟩, by rw [ht9]; exact hP9, hD9⟩, hS.F ht9⟩) hS.2.2 dX8_addZone_74
  · have c_1 := bI_n0.mp c_1
    have hsq := c_1
    obtain ⟨i0, j0, hi0, hj0, rfl, rfl⟩ := inSq_nat hsq
    have e9 : sqI (nI i0) (nI j0) = 8 * j0 + i0 := by rw [sqI_nat (by omega) (by omega)]; omega
    refine lv_bipush (v := nI 8) hx hb dX8_addZone_12 (by decide) ?_
    refine lv_iload_n hx hb dX8_addZone_14 rfl (lv_at hl 3 rfl) ?_
    refine r_muln hx hb dX8_addZone_15 ?_
    refine lv_iload_n hx hb dX8_addZone_16 rfl (lv_at hl 2 rfl) ?_
    refine r_addn hx hb dX8_addZone_17 ?_
    refine lv_goto (tgt := 22) hx hb dX8_addZone_18 (by decide) ?_
    refine lv_istore (lv' := [(5, .int (nI ((8 * j0) + i0))), (4, .int (bI (inSq (nI i0) (nI j0)))), (0, .ref (mx 0)), (1, .int (nI i0)), (2, .int (nI j0)), (3, .int m9)]) hx hb dX8_addZone_22 hl (by decide) rfl (fun ls hl => ?_)
    refine lv_aload_n hx hb dX8_addZone_24 rfl (lv_at hl 2 rfl) ?_
    refine lv_iload hx hb dX8_addZone_25 (lv_at hl 1 rfl) ?_
    refine lv_iload_n hx hb dX8_addZone_27 rfl (lv_at hl 5 rfl) ?_
    refine lv_iconst (v := nI 1) hx hb dX8_addZone_28 (by decide) ?_
    refine lv_bipush (v := nI 60) hx hb dX8_addZone_29 (by decide) ?_
    refine ro_S (As := [.int m9, .int (nI 1), .int (nI 60)]) (rest := [.int (bI (inSq (nI i0) (nI j0))), .ref (mx 0)]) (v := bI (inI m9 (nI 1) (nI 60))) ⟨hx, hb, hml, hown, hts⟩ (c_X8_in l D cI cZ cQ cJ m9 (nI 1) (nI 60)) (gS t4_40 t4_41 t1_10 t4_42) rfl rfl hd_X8_in ⟨Nat.le_of_ble_eq_true rfl, Nat.le_of_ble_eq_true rfl⟩ va_P_nil hSt rfl hl.1 rfl (Nat.le_of_ble_eq_true rfl) dX8_addZone_31 (Nat.zero_le _) (Nat.zero_le _) ?_
    refine lv_aload_n hx hb dX8_addZone_34 rfl (lv_at hl 2 rfl) ?_
    refine va_get (D := D) (ci := 8) (v := .int (nI nz)) (C := RX8) (T := TX8) (N := 16) hx hb hts tu_X8 hown hSt.1 hP 0 rfl rfl 1 (by decide) (hts _ t3_221) (fun _ h9 => h9) rfl dX8_addZone_35 ?_
    refine lv_bipush (v := nI 7) hx hb dX8_addZone_38 (by decide) ?_
    refine lv_icmp_ge (tgt := 66) hx hb dX8_addZone_40 (by decide) (fun c_17 => ?_) (fun c_17 => ?_)
    · have c_17 := z_le (by omega) (by omega) c_17
      refine lv_iconst (v := nI 0) hx hb dX8_addZone_66 (by decide) ?_
      refine rw_i (wr := ([] : va_W)) (w_V (As := [.int (bI (inSq (nI i0) (nI j0))), .int (bI (inI m9 (nI 1) (nI 60))), .int (nI 0)]) ⟨hx, hb, hml, hown, hts⟩ (c_X8_asked__ l D cI cZ cQ cJ mx w nz q d nt pr mw mt zo ke wy st tr be ch th (bI (inSq (nI i0) (nI j0))) (bI (inI m9 (nI 1) (nI 60))) (nI 0) H.size) (gV t4_55 t4_57 t0_21 t1_10 t4_58) rfl rfl hd_X8_asked__ ⟨Nat.le_of_ble_eq_true rfl, Nat.le_of_ble_eq_true rfl⟩ (rw_pre hP hD hSt [0, 1, 2, 3, 4, 5, 6, 7, 8, 9, 10, 11, 12, 13] rfl (by decide)) (va_recv hSt.1 hP (ci := 8) (q0 := 0) rfl rfl) rfl hl.1 (rest := []) rfl (Nat.le_of_ble_eq_true rfl) dX8_addZone_67 ⟨Nat.le_of_ble_eq_true rfl, Nat.le_of_ble_eq_true rfl⟩) hP hD hS hA [0, 1, 2, 3, 4, 5, 6, 7, 8, 9, 10, 11, 12, 13] [] rfl rfl (by decide) (by decide) (fun r_9 u_18 H locs hw9 hP hD hS => ?_)
      obtain rfl := hw9
      have hP : va_P D vwCl (wMo mx cI cZ w (nI nz) q d (nI nt) pr mw mt zo ke wy st tr be ch (nI (as3 (bI (inSq (nI i0) (nI j0))) (bI (inI m9 (nI 1) (nI 60))) (nI 0)))) H := hP
      have hD : va_D A (wMo mx cI cZ w (nI nz) q d (nI nt) pr mw mt zo ke wy st tr be ch (nI (as3 (bI (inSq (nI i0) (nI j0))) (bI (inI m9 (nI 1) (nI 60))) (nI 0)))) := hD
      refine lv_if_ne (tgt := 75) hx hb dX8_addZone_70 (by decide) (fun c_19 => ?_) (fun c_19 => ?_)
      · have c_19 := bI_n0.mp c_19
        exact absurd nI0 (as3_0 c_19).2.2
      · have c_19 := bI_0.mp c_19
        refine lv_iconst (v := nI 0) hx hb dX8_addZone_73 (by decide) ?_
        have hP9 : va_P D vwCl (wMo mx cI cZ w (nI nz) q d (nI nt) pr mw mt zo ke wy st tr be ch (nI (as3 (bI (inSq (nI i0) (nI j0))) (bI (inI m9 (nI 1) (nI 60))) (nI 0)))) H := hP
        have hD9 : va_D A (wMo mx cI cZ w (nI nz) q d (nI nt) pr mw mt zo ke wy st tr be ch (nI (as3 (bI (inSq (nI i0) (nI j0))) (bI (inI m9 (nI 1) (nI 60))) (nI 0)))) := hD
        have g_20 : sAddZone nz q d w (nI i0) (nI j0) m9 (as3 (bI (inSq (nI i0) (nI j0))) (bI (inI m9 (nI 1) (nI 60))) (nI 0)) (nI 0) nz q d := by rcases as3_c (bI (inSq (nI i0) (nI j0))) (bI (inI m9 (nI 1) (nI 60))) (nI 0) with q9 | q9 | q9 | q9; exact absurd hsq (bI_0.mp q9.1); exact Or.inr (Or.inl ⟨hsq, fun h9 => bI_0.mp q9.2.1 ((inI_R (lo := 1) (hi := 60) (by omega) (by omega)).mpr h9), q9.2.2, rfl, rfl, rfl⟩); exact Or.inr (Or.inr (Or.inl ⟨hsq, (inI_R (lo := 1) (hi := 60) (by omega) (by omega)).mp (bI_n0.mp q9.2.1), Or.inl (by omega), q9.2.2.2, rfl, rfl, rfl⟩)); exact absurd q9.2.2.2 c_19
        exact W.iret (v := nI 0) hx hb hr (fun t9 ht9 hW9 => ⟨⟨nI 0, (nI 0, as3 (bI (inSq (nI i0) (nI j0))) (bI (inI m9 (nI 1) (nI 60))) (nI 0), q, d, nz), rfl, ⟨rfl, g_20⟩, by rw [ht9]; exact hP9, hD9⟩, hS.F ht9⟩) hS.2.2 dX8_addZone_74
    · have c_17 := z_nle (by omega) (by omega) c_17
      refine lv_aload_n hx hb dX8_addZone_43 rfl (lv_at hl 2 rfl) ?_
      refine va_get (D := D) (ci := 8) (v := .ref (mx 1)) (C := RX8) (T := TX8) (N := 16) hx hb hts tu_X8 hown hSt.1 hP 0 rfl rfl 0 (by decide) (hts _ t3_220) (fun _ h9 => h9) rfl dX8_addZone_44 ?_
      refine lv_iload hx hb dX8_addZone_47 (lv_at hl 0 rfl) ?_
      refine r_zald hx hb hSt.1 hP 1 1 rfl rfl (k := ((8 * j0) + i0)) (by omega) (by omega) dX8_addZone_49 ?_
      refine lv_if_ne (tgt := 66) hx hb dX8_addZone_50 (by decide) (fun c_21 => ?_) (fun c_21 => ?_)
      · refine lv_iconst (v := nI 0) hx hb dX8_addZone_66 (by decide) ?_
        refine rw_i (wr := ([] : va_W)) (w_V (As := [.int (bI (inSq (nI i0) (nI j0))), .int (bI (inI m9 (nI 1) (nI 60))), .int (nI 0)]) ⟨hx, hb, hml, hown, hts⟩ (c_X8_asked__ l D cI cZ cQ cJ mx w nz q d nt pr mw mt zo ke wy st tr be ch th (bI (inSq (nI i0) (nI j0))) (bI (inI m9 (nI 1) (nI 60))) (nI 0) H.size) (gV t4_55 t4_57 t0_21 t1_10 t4_58) rfl rfl hd_X8_asked__ ⟨Nat.le_of_ble_eq_true rfl, Nat.le_of_ble_eq_true rfl⟩ (rw_pre hP hD hSt [0, 1, 2, 3, 4, 5, 6, 7, 8, 9, 10, 11, 12, 13] rfl (by decide)) (va_recv hSt.1 hP (ci := 8) (q0 := 0) rfl rfl) rfl hl.1 (rest := []) rfl (Nat.le_of_ble_eq_true rfl) dX8_addZone_67 ⟨Nat.le_of_ble_eq_true rfl, Nat.le_of_ble_eq_true rfl⟩) hP hD hS hA [0, 1, 2, 3, 4, 5, 6, 7, 8, 9, 10, 11, 12, 13] [] rfl rfl (by decide) (by decide) (fun r_9 u_22 H locs hw9 hP hD hS => ?_)
        obtain rfl := hw9
        have hP : va_P D vwCl (wMo mx cI cZ w (nI nz) q d (nI nt) pr mw mt zo ke wy st tr be ch (nI (as3 (bI (inSq (nI i0) (nI j0))) (bI (inI m9 (nI 1) (nI 60))) (nI 0)))) H := hP
        have hD : va_D A (wMo mx cI cZ w (nI nz) q d (nI nt) pr mw mt zo ke wy st tr be ch (nI (as3 (bI (inSq (nI i0) (nI j0))) (bI (inI m9 (nI 1) (nI 60))) (nI 0)))) := hD
        refine lv_if_ne (tgt := 75) hx hb dX8_addZone_70 (by decide) (fun c_23 => ?_) (fun c_23 => ?_)
        · have c_23 := bI_n0.mp c_23
          exact absurd nI0 (as3_0 c_23).2.2
        · have c_23 := bI_0.mp c_23
          refine lv_iconst (v := nI 0) hx hb dX8_addZone_73 (by decide) ?_
          have hP9 : va_P D vwCl (wMo mx cI cZ w (nI nz) q d (nI nt) pr mw mt zo ke wy st tr be ch (nI (as3 (bI (inSq (nI i0) (nI j0))) (bI (inI m9 (nI 1) (nI 60))) (nI 0)))) H := hP
          have hD9 : va_D A (wMo mx cI cZ w (nI nz) q d (nI nt) pr mw mt zo ke wy st tr be ch (nI (as3 (bI (inSq (nI i0) (nI j0))) (bI (inI m9 (nI 1) (nI 60))) (nI 0)))) := hD
          have g_24 : sAddZone nz q d w (nI i0) (nI j0) m9 (as3 (bI (inSq (nI i0) (nI j0))) (bI (inI m9 (nI 1) (nI 60))) (nI 0)) (nI 0) nz q d := by rcases as3_c (bI (inSq (nI i0) (nI j0))) (bI (inI m9 (nI 1) (nI 60))) (nI 0) with q9 | q9 | q9 | q9; exact absurd hsq (bI_0.mp q9.1); exact Or.inr (Or.inl ⟨hsq, fun h9 => bI_0.mp q9.2.1 ((inI_R (lo := 1) (hi := 60) (by omega) (by omega)).mpr h9), q9.2.2, rfl, rfl, rfl⟩); exact Or.inr (Or.inr (Or.inl ⟨hsq, (inI_R (lo := 1) (hi := 60) (by omega) (by omega)).mp (bI_n0.mp q9.2.1), Or.inr (Or.inl (by rw [e9]; exact c_21)), q9.2.2.2, rfl, rfl, rfl⟩)); exact absurd q9.2.2.2 c_23
          exact W.iret (v := nI 0) hx hb hr (fun t9 ht9 hW9 => ⟨⟨nI 0, (nI 0, as3 (bI (inSq (nI i0) (nI j0))) (bI (inI m9 (nI 1) (nI 60))) (nI 0), q, d, nz), rfl, ⟨rfl, g_24⟩, by rw [ht9]; exact hP9, hD9⟩, hS.F ht9⟩) hS.2.2 dX8_addZone_74
      · refine lv_aload_n hx hb dX8_addZone_53 rfl (lv_at hl 2 rfl) ?_
        refine lv_iload hx hb dX8_addZone_54 (lv_at hl 0 rfl) ?_
        refine ro_V (As := [.int (nI ((8 * j0) + i0))]) (rest := [.int (bI (inI m9 (nI 1) (nI 60))), .int (bI (inSq (nI i0) (nI j0))), .ref (mx 0)]) (v := bI (anyN (fun o9 => decide (q o9 = nI ((8 * j0) + i0))) nz = true)) ⟨hx, hb, hml, hown, hts⟩ (c_X8_hasZone l D cI cZ cQ cJ mx w nz q d nt pr mw mt zo ke wy st tr be ch th ((8 * j0) + i0) (by first | assumption | omega)) (gV t4_43 t4_45 t0_19 t1_10 t4_46) rfl rfl hd_X8_hasZone ⟨Nat.le_of_ble_eq_true rfl, Nat.le_of_ble_eq_true rfl⟩ hP hSt (va_recv hSt.1 hP (ci := 8) (q0 := 0) rfl rfl) rfl hl.1 rfl (Nat.le_of_ble_eq_true rfl) dX8_addZone_56 (Nat.zero_le _) (Nat.zero_le _) ?_
        refine lv_if_ne (tgt := 66) hx hb dX8_addZone_59 (by decide) (fun c_25 => ?_) (fun c_25 => ?_)
        · have c_25 := bI_n0.mp c_25
          refine lv_iconst (v := nI 0) hx hb dX8_addZone_66 (by decide) ?_
          refine rw_i (wr := ([] : va_W)) (w_V (As := [.int (bI (inSq (nI i0) (nI j0))), .int (bI (inI m9 (nI 1) (nI 60))), .int (nI 0)]) ⟨hx, hb, hml, hown, hts⟩ (c_X8_asked__ l D cI cZ cQ cJ mx w nz q d nt pr mw mt zo ke wy st tr be ch th (bI (inSq (nI i0) (nI j0))) (bI (inI m9 (nI 1) (nI 60))) (nI 0) H.size) (gV t4_55 t4_57 t0_21 t1_10 t4_58) rfl rfl hd_X8_asked__ ⟨Nat.le_of_ble_eq_true rfl, Nat.le_of_ble_eq_true rfl⟩ (rw_pre hP hD hSt [0, 1, 2, 3, 4, 5, 6, 7, 8, 9, 10, 11, 12, 13] rfl (by decide)) (va_recv hSt.1 hP (ci := 8) (q0 := 0) rfl rfl) rfl hl.1 (rest := []) rfl (Nat.le_of_ble_eq_true rfl) dX8_addZone_67 ⟨Nat.le_of_ble_eq_true rfl, Nat.le_of_ble_eq_true rfl⟩) hP hD hS hA [0, 1, 2, 3, 4, 5, 6, 7, 8, 9, 10, 11, 12, 13] [] rfl rfl (by decide) (by decide) (fun r_9 u_26 H locs hw9 hP hD hS => ?_)
          obtain rfl := hw9
          have hP : va_P D vwCl (wMo mx cI cZ w (nI nz) q d (nI nt) pr mw mt zo ke wy st tr be ch (nI (as3 (bI (inSq (nI i0) (nI j0))) (bI (inI m9 (nI 1) (nI 60))) (nI 0)))) H := hP
          have hD : va_D A (wMo mx cI cZ w (nI nz) q d (nI nt) pr mw mt zo ke wy st tr be ch (nI (as3 (bI (inSq (nI i0) (nI j0))) (bI (inI m9 (nI 1) (nI 60))) (nI 0)))) := hD
          refine lv_if_ne (tgt := 75) hx hb dX8_addZone_70 (by decide) (fun c_27 => ?_) (fun c_27 => ?_)
          · have c_27 := bI_n0.mp c_27
            exact absurd nI0 (as3_0 c_27).2.2
          · have c_27 := bI_0.mp c_27
            refine lv_iconst (v := nI 0) hx hb dX8_addZone_73 (by decide) ?_
            have hP9 : va_P D vwCl (wMo mx cI cZ w (nI nz) q d (nI nt) pr mw mt zo ke wy st tr be ch (nI (as3 (bI (inSq (nI i0) (nI j0))) (bI (inI m9 (nI 1) (nI 60))) (nI 0)))) H := hP
            have hD9 : va_D A (wMo mx cI cZ w (nI nz) q d (nI nt) pr mw mt zo ke wy st tr be ch (nI (as3 (bI (inSq (nI i0) (nI j0))) (bI (inI m9 (nI 1) (nI 60))) (nI 0)))) := hD
            have g_28 : sAddZone nz q d w (nI i0) (nI j0) m9 (as3 (bI (inSq (nI i0) (nI j0))) (bI (inI m9 (nI 1) (nI 60))) (nI 0)) (nI 0) nz q d := by rcases as3_c (bI (inSq (nI i0) (nI j0))) (bI (inI m9 (nI 1) (nI 60))) (nI 0) with q9 | q9 | q9 | q9; exact absurd hsq (bI_0.mp q9.1); exact Or.inr (Or.inl ⟨hsq, fun h9 => bI_0.mp q9.2.1 ((inI_R (lo := 1) (hi := 60) (by omega) (by omega)).mpr h9), q9.2.2, rfl, rfl, rfl⟩); exact Or.inr (Or.inr (Or.inl ⟨hsq, (inI_R (lo := 1) (hi := 60) (by omega) (by omega)).mp (bI_n0.mp q9.2.1), Or.inr (Or.inr (by rw [e9]; exact c_25)), q9.2.2.2, rfl, rfl, rfl⟩)); exact absurd q9.2.2.2 c_27
            exact W.iret (v := nI 0) hx hb hr (fun t9 ht9 hW9 => ⟨⟨nI 0, (nI 0, as3 (bI (inSq (nI i0) (nI j0))) (bI (inI m9 (nI 1) (nI 60))) (nI 0), q, d, nz), rfl, ⟨rfl, g_28⟩, by rw [ht9]; exact hP9, hD9⟩, hS.F ht9⟩) hS.2.2 dX8_addZone_74
        · have c_25 := bI_0.mp c_25
          refine lv_iconst (v := nI 1) hx hb dX8_addZone_62 (by decide) ?_
          refine lv_goto (tgt := 67) hx hb dX8_addZone_63 (by decide) ?_
          refine rw_i (wr := ([] : va_W)) (w_V (As := [.int (bI (inSq (nI i0) (nI j0))), .int (bI (inI m9 (nI 1) (nI 60))), .int (nI 1)]) ⟨hx, hb, hml, hown, hts⟩ (c_X8_asked__ l D cI cZ cQ cJ mx w nz q d nt pr mw mt zo ke wy st tr be ch th (bI (inSq (nI i0) (nI j0))) (bI (inI m9 (nI 1) (nI 60))) (nI 1) H.size) (gV t4_55 t4_57 t0_21 t1_10 t4_58) rfl rfl hd_X8_asked__ ⟨Nat.le_of_ble_eq_true rfl, Nat.le_of_ble_eq_true rfl⟩ (rw_pre hP hD hSt [0, 1, 2, 3, 4, 5, 6, 7, 8, 9, 10, 11, 12, 13] rfl (by decide)) (va_recv hSt.1 hP (ci := 8) (q0 := 0) rfl rfl) rfl hl.1 (rest := []) rfl (Nat.le_of_ble_eq_true rfl) dX8_addZone_67 ⟨Nat.le_of_ble_eq_true rfl, Nat.le_of_ble_eq_true rfl⟩) hP hD hS hA [0, 1, 2, 3, 4, 5, 6, 7, 8, 9, 10, 11, 12, 13] [] rfl rfl (by decide) (by decide) (fun r_9 u_29 H locs hw9 hP hD hS => ?_)
          obtain rfl := hw9
          have hP : va_P D vwCl (wMo mx cI cZ w (nI nz) q d (nI nt) pr mw mt zo ke wy st tr be ch (nI (as3 (bI (inSq (nI i0) (nI j0))) (bI (inI m9 (nI 1) (nI 60))) (nI 1)))) H := hP
          have hD : va_D A (wMo mx cI cZ w (nI nz) q d (nI nt) pr mw mt zo ke wy st tr be ch (nI (as3 (bI (inSq (nI i0) (nI j0))) (bI (inI m9 (nI 1) (nI 60))) (nI 1)))) := hD
          refine lv_if_ne (tgt := 75) hx hb dX8_addZone_70 (by decide) (fun c_30 => ?_) (fun c_30 => ?_)
          · have c_30 := bI_n0.mp c_30
            refine lv_aload_n hx hb dX8_addZone_75 rfl (lv_at hl 2 rfl) ?_
            refine va_get (D := D) (ci := 8) (v := .ref (mx 2)) (C := RX8) (T := TX8) (N := 16) hx hb hts tu_X8 hown hSt.1 hP 0 rfl rfl 2 (by decide) (hts _ t3_222) (fun _ h9 => h9) rfl dX8_addZone_76 ?_
            refine lv_aload_n hx hb dX8_addZone_79 rfl (lv_at hl 2 rfl) ?_
            refine va_get (D := D) (ci := 8) (v := .int (nI nz)) (C := RX8) (T := TX8) (N := 16) hx hb hts tu_X8 hown hSt.1 hP 0 rfl rfl 1 (by decide) (hts _ t3_221) (fun _ h9 => h9) rfl dX8_addZone_80 ?_
            refine lv_iload hx hb dX8_addZone_83 (lv_at hl 0 rfl) ?_
            refine r_iast hx hb hSt.1 hP hD hS 2 0 rfl rfl (k := nz) (by omega) (by omega) dX8_addZone_85 (fun H locs hP hD hS => ?_)
            have hP : va_P D vwCl (wMo mx cI cZ w (nI nz) (upd q nz (nI ((8 * j0) + i0))) d (nI nt) pr mw mt zo ke wy st tr be ch (nI (as3 (bI (inSq (nI i0) (nI j0))) (bI (inI m9 (nI 1) (nI 60))) (nI 1)))) H := hP
            have hD : va_D A (wMo mx cI cZ w (nI nz) (upd q nz (nI ((8 * j0) + i0))) d (nI nt) pr mw mt zo ke wy st tr be ch (nI (as3 (bI (inSq (nI i0) (nI j0))) (bI (inI m9 (nI 1) (nI 60))) (nI 1)))) := hD
            refine lv_aload_n hx hb dX8_addZone_86 rfl (lv_at hl 2 rfl) ?_
            refine va_get (D := D) (ci := 8) (v := .ref (mx 3)) (C := RX8) (T := TX8) (N := 16) hx hb hts tu_X8 hown hSt.1 hP 0 rfl rfl 3 (by decide) (hts _ t3_223) (fun _ h9 => h9) rfl dX8_addZone_87 ?_
            refine lv_aload_n hx hb dX8_addZone_90 rfl (lv_at hl 2 rfl) ?_
            refine va_get (D := D) (ci := 8) (v := .int (nI nz)) (C := RX8) (T := TX8) (N := 16) hx hb hts tu_X8 hown hSt.1 hP 0 rfl rfl 1 (by decide) (hts _ t3_221) (fun _ h9 => h9) rfl dX8_addZone_91 ?_
            refine lv_iload_n hx hb dX8_addZone_94 rfl (lv_at hl 5 rfl) ?_
            refine r_iast hx hb hSt.1 hP hD hS 3 0 rfl rfl (k := nz) (by omega) (by omega) dX8_addZone_95 (fun H locs hP hD hS => ?_)
            have hP : va_P D vwCl (wMo mx cI cZ w (nI nz) (upd q nz (nI ((8 * j0) + i0))) (upd d nz m9) (nI nt) pr mw mt zo ke wy st tr be ch (nI (as3 (bI (inSq (nI i0) (nI j0))) (bI (inI m9 (nI 1) (nI 60))) (nI 1)))) H := hP
            have hD : va_D A (wMo mx cI cZ w (nI nz) (upd q nz (nI ((8 * j0) + i0))) (upd d nz m9) (nI nt) pr mw mt zo ke wy st tr be ch (nI (as3 (bI (inSq (nI i0) (nI j0))) (bI (inI m9 (nI 1) (nI 60))) (nI 1)))) := hD
            refine lv_aload_n hx hb dX8_addZone_96 rfl (lv_at hl 2 rfl) ?_
            refine lv_dup hx hb dX8_addZone_97 rfl ?_
            refine va_get (D := D) (ci := 8) (v := .int (nI nz)) (C := RX8) (T := TX8) (N := 16) hx hb hts tu_X8 hown hSt.1 hP 0 rfl rfl 1 (by decide) (hts _ t3_221) (fun _ h9 => h9) rfl dX8_addZone_98 ?_
            refine lv_iconst (v := nI 1) hx hb dX8_addZone_101 (by decide) ?_
            refine r_addn hx hb dX8_addZone_102 ?_
            refine va_put (D := D) (ci := 8) (v := .int (nI (nz + 1))) (ty := .int) (C := RX8) (T := TX8) (N := 16) hx hb hts tu_X8 tyX8 tyX8_ok nmX8 hown hSt.1 hP hD hS 0 rfl rfl 1 (by decide) (hts _ t3_221) (fun _ h9 => h9) rfl (by decide +kernel) rfl rfl (Nat.le_of_ble_eq_true rfl) dX8_addZone_103 (fun H locs hP hD hS => ?_)
            have hP : va_P D vwCl (wMo mx cI cZ w (nI (nz + 1)) (upd q nz (nI ((8 * j0) + i0))) (upd d nz m9) (nI nt) pr mw mt zo ke wy st tr be ch (nI (as3 (bI (inSq (nI i0) (nI j0))) (bI (inI m9 (nI 1) (nI 60))) (nI 1)))) H := hP
            have hD : va_D A (wMo mx cI cZ w (nI (nz + 1)) (upd q nz (nI ((8 * j0) + i0))) (upd d nz m9) (nI nt) pr mw mt zo ke wy st tr be ch (nI (as3 (bI (inSq (nI i0) (nI j0))) (bI (inI m9 (nI 1) (nI 60))) (nI 1)))) := hD
            refine lv_aload_n hx hb dX8_addZone_106 rfl (lv_at hl 2 rfl) ?_
            refine va_get (D := D) (ci := 8) (v := .int (nI (nz + 1))) (C := RX8) (T := TX8) (N := 16) hx hb hts tu_X8 hown hSt.1 hP 0 rfl rfl 1 (by decide) (hts _ t3_221) (fun _ h9 => h9) rfl dX8_addZone_107 ?_
            refine lv_iconst (v := nI 1) hx hb dX8_addZone_110 (by decide) ?_
            refine r_subn hx hb (by omega) dX8_addZone_111 ?_
            have hP9 : va_P D vwCl (wMo mx cI cZ w (nI (nz + 1)) (upd q nz (nI ((8 * j0) + i0))) (upd d nz m9) (nI nt) pr mw mt zo ke wy st tr be ch (nI (as3 (bI (inSq (nI i0) (nI j0))) (bI (inI m9 (nI 1) (nI 60))) (nI 1)))) H := hP
            have hD9 : va_D A (wMo mx cI cZ w (nI (nz + 1)) (upd q nz (nI ((8 * j0) + i0))) (upd d nz m9) (nI nt) pr mw mt zo ke wy st tr be ch (nI (as3 (bI (inSq (nI i0) (nI j0))) (bI (inI m9 (nI 1) (nI 60))) (nI 1)))) := hD
            have g_31 : sAddZone nz q d w (nI i0) (nI j0) m9 (as3 (bI (inSq (nI i0) (nI j0))) (bI (inI m9 (nI 1) (nI 60))) (nI 1)) (nI ((nz + 1) - 1)) (nz + 1) (upd q nz (nI ((8 * j0) + i0))) (upd d nz m9) := Or.inr (Or.inr (Or.inr ⟨hsq, (inI_R (lo := 1) (hi := 60) (by omega) (by omega)).mp (bI_n0.mp (as3_0 c_30).2.1), fun q9 => by rcases q9 with q9 | q9 | q9; exact absurd q9 (by omega); exact q9 (by rw [e9]; exact c_21); exact c_25 (by rw [e9] at q9; exact q9), c_30, by rw [Nat.add_sub_cancel], rfl, by rw [e9], rfl⟩))
            exact W.iret (v := nI ((nz + 1) - 1)) hx hb hr (fun t9 ht9 hW9 => ⟨⟨nI ((nz + 1) - 1), (nI ((nz + 1) - 1), as3 (bI (inSq (nI i0) (nI j0))) (bI (inI m9 (nI 1) (nI 60))) (nI 1), upd q nz (nI ((8 * j0) + i0)), upd d nz m9, nz + 1), rfl, ⟨rfl, g_31⟩, by rw [ht9]; exact hP9, hD9⟩, hS.F ht9⟩) hS.2.2 dX8_addZone_112
          · have c_30 := bI_0.mp c_30
            refine lv_iconst (v := nI 0) hx hb dX8_addZone_73 (by decide) ?_
            have hP9 : va_P D vwCl (wMo mx cI cZ w (nI nz) q d (nI nt) pr mw mt zo ke wy st tr be ch (nI (as3 (bI (inSq (nI i0) (nI j0))) (bI (inI m9 (nI 1) (nI 60))) (nI 1)))) H := hP
            have hD9 : va_D A (wMo mx cI cZ w (nI nz) q d (nI nt) pr mw mt zo ke wy st tr be ch (nI (as3 (bI (inSq (nI i0) (nI j0))) (bI (inI m9 (nI 1) (nI 60))) (nI 1)))) := hD
            have g_32 : sAddZone nz q d w (nI i0) (nI j0) m9 (as3 (bI (inSq (nI i0) (nI j0))) (bI (inI m9 (nI 1) (nI 60))) (nI 1)) (nI 0) nz q d := by rcases as3_c (bI (inSq (nI i0) (nI j0))) (bI (inI m9 (nI 1) (nI 60))) (nI 1) with q9 | q9 | q9 | q9; exact absurd hsq (bI_0.mp q9.1); exact Or.inr (Or.inl ⟨hsq, fun h9 => bI_0.mp q9.2.1 ((inI_R (lo := 1) (hi := 60) (by omega) (by omega)).mpr h9), q9.2.2, rfl, rfl, rfl⟩); exact absurd q9.2.2.1 nI1; exact absurd q9.2.2.2 c_30
            exact W.iret (v := nI 0) hx hb hr (fun t9 ht9 hW9 => ⟨⟨nI 0, (nI 0, as3 (bI (inSq (nI i0) (nI j0))) (bI (inI m9 (nI 1) (nI 60))) (nI 1), q, d, nz), rfl, ⟨rfl, g_32⟩, by rw [ht9]; exact hP9, hD9⟩, hS.F ht9⟩) hS.2.2 dX8_addZone_74
set_option maxHeartbeats 4000000 in
set_option maxRecDepth 100000 in
theorem c_X8_setDesks (l : Launch) (D : va_G) (cI cZ cQ cJ : ClassId) (mx : Nat → Nat) (w : Nat → Int32) (nz : Nat) (q : Nat → Int32) (d : Nat → Int32) (nt : Nat) (pr : Nat → Int32) (mw : Nat → Int32) (mt : Nat → Int32) (zo : Nat → Int32) (ke : Nat → Int32) (wy : Nat → Int32) (st : Nat → Int32) (tr : Nat → Int32) (be : Nat → Int32) (ch : Nat → Int32) (th : Int32) (pp : Nat → Nat → Nat) (n : Nat → Int32) (g : Nat → Nat) (cz : Nat → Int32) (z : Int32) (m9 : Int32) (sz : Nat) (hnz : nz ≤ 7) (hnt : nt ≤ 7) (hpr : ∀ t, t < nt → ∀ j, j < 5 → pr (5 * t + j) = nI (pp t j) ∧ pp t j ≤ 60) (hnn : ∀ t, t < nt → n t = nI (ndN (pp t))) (hzo : pOK nt zo g) (hcz : pOK 7 cz g) (hvg : vG nz nt g) : Met l yX8_setDesks (.code yX8_setDesks cX8_setDesks 6 (some .int) :: ALL) ({ frames := 2, cells := 0, slots := 0, locals := 43 } : Room) (va_Pc [.ref (mx 0), .int z, .int m9] (rw_P D cI cZ cQ cJ (wMo mx cI cZ w (nI nz) q d (nI nt) pr mw mt zo ke wy st tr be ch th) sz)) (va_Qi (fun (r9 : Int32) (u9 : Int32 × Nat × (Nat → Int32)) => (r9 = u9.1) ∧ (sSetDesks nz d cz n z m9 u9.2.1 u9.1 u9.2.2)) (rw_B D (va_A (wMo mx cI cZ w (nI nz) q d (nI nt) pr mw mt zo ke wy st tr be ch th) sz) (fun u9 : Int32 × Nat × (Nat → Int32) => wMo mx cI cZ w (nI nz) q u9.2.2 (nI nt) pr mw mt zo ke wy st tr be ch (nI u9.2.1))) (va_A (wMo mx cI cZ w (nI nz) q d (nI nt) pr mw mt zo ke wy st tr be ch th) sz)) 0 0 (va_A (wMo mx cI cZ w (nI nz) q d (nI nt) pr mw mt zo ke wy st tr be ch th) sz) := by
  refine Met.ofW (cc := cX8_setDesks) (maxL := 6) (ret := (some .int)) (by decide) rfl ?_
  intro p e s m args below meth c s₁ B hml hv
  obtain ⟨rfl, hsz, hP, hSt, hD0⟩ := hv
  have hx := B.exec
  have hb := B.bytes
  have hr := B.returns
  have hts : ∀ w ∈ ALL, w.before ([.ref (mx 0), .int z, .int m9] : List Value).toArray s = true := fun w h => atoms_spec (ws := (.code yX8_setDesks cX8_setDesks 6 (some .int) :: ALL)) B.pre w (List.mem_cons_of_mem _ h)
  have hown : s.vm.findClass RX8 = some m.cls := findClass_of_methodNamed B.named
  have hlocks := B.notSynchronized
  subst hsz
  have hD := hD0.self (sz := s.heap.size)
  clear hD0
  generalize hAe : va_A (wMo mx cI cZ w (nI nz) q d (nI nt) pr mw mt zo ke wy st tr be ch th) s.heap.size = A at hD ⊢
  have hA : ∀ q : Nat, s.heap.size ≤ q → A q := fun q h => by rw [← hAe]; exact Or.inr h
  have hS : va_S A s.heap s.heap [] := va_S.rf
  have hl := lv_entry ([.ref (mx 0), .int z, .int m9]) (n := 6) (Nat.le_of_ble_eq_true rfl)
  rw [lg_entry_eq]
  generalize (lg_sl ([.ref (mx 0), .int z, .int m9]) ++ List.replicate (6 - (lg_sl ([.ref (mx 0), .int z, .int m9])).length) Slot.unset).toArray = ls at hl ⊢
  have hl : lv_has ls 6 [(0, .ref (mx 0)), (1, .int z), (2, .int m9)] := hl
  obtain ⟨H, hHe⟩ : ∃ H : Heap, H = s.heap := ⟨_, rfl⟩
  obtain ⟨locs, hLe⟩ : ∃ L : List Loc, L = [] := ⟨_, rfl⟩
  have hP : va_P D vwCl (wMo mx cI cZ w (nI nz) q d (nI nt) pr mw mt zo ke wy st tr be ch th) H := by rw [hHe]; exact hP
  have hS : va_S A s.heap H locs := by rw [hHe, hLe]; exact hS
  refine W.eqHL hHe hLe ?_
  refine lv_aload_n hx hb dX8_setDesks_0 rfl (lv_at hl 0 rfl) ?_
  refine lv_iload_n hx hb dX8_setDesks_1 rfl (lv_at hl 1 rfl) ?_
  refine ro_V (As := [.int z]) (rest := []) (v := bI (inI z (nI 0) (nI nz - nI 1))) ⟨hx, hb, hml, hown, hts⟩ (c_X8_isZone l D cI cZ cQ cJ mx w nz q d nt pr mw mt zo ke wy st tr be ch th z) (gV t4_63 t4_65 t0_22 t1_10 t4_66) rfl rfl hd_X8_isZone ⟨Nat.le_of_ble_eq_true rfl, Nat.le_of_ble_eq_true rfl⟩ hP hSt (va_recv hSt.1 hP (ci := 8) (q0 := 0) rfl rfl) rfl hl.1 rfl (Nat.le_of_ble_eq_true rfl) dX8_setDesks_2 (Nat.zero_le _) (Nat.zero_le _) ?_
  refine lv_istore_n (lv' := [(3, .int (bI (inI z (nI 0) (nI nz - nI 1)))), (0, .ref (mx 0)), (1, .int z), (2, .int m9)]) hx hb dX8_setDesks_5 rfl hl (by decide) rfl (fun ls hl => ?_)
  refine lv_iload_n hx hb dX8_setDesks_6 rfl (lv_at hl 0 rfl) ?_
  refine lv_if_eq (tgt := 18) hx hb dX8_setDesks_7 (by decide) (fun c_1 => ?_) (fun c_1 => ?_)
  · have c_1 := bI_0.mp c_1
    refine lv_iconst (v := (-1 : Int32)) hx hb dX8_setDesks_18 (by decide) ?_
    refine lv_istore (lv' := [(4, .int (-1 : Int32)), (3, .int (bI (inI z (nI 0) (nI nz - nI 1)))), (0, .ref (mx 0)), (1, .int z), (2, .int m9)]) hx hb dX8_setDesks_19 hl (by decide) rfl (fun ls hl => ?_)
    refine lv_aload_n hx hb dX8_setDesks_21 rfl (lv_at hl 2 rfl) ?_
    refine lv_iload_n hx hb dX8_setDesks_22 rfl (lv_at hl 1 rfl) ?_
    refine lv_iload_n hx hb dX8_setDesks_23 rfl (lv_at hl 4 rfl) ?_
    refine lv_iconst (v := nI 1) hx hb dX8_setDesks_24 (by decide) ?_
    refine lv_bipush (v := nI 60) hx hb dX8_setDesks_25 (by decide) ?_
    refine ro_S (As := [.int m9, .int (nI 1), .int (nI 60)]) (rest := [.int (bI (inI z (nI 0) (nI nz - nI 1))), .ref (mx 0)]) (v := bI (inI m9 (nI 1) (nI 60))) ⟨hx, hb, hml, hown, hts⟩ (c_X8_in l D cI cZ cQ cJ m9 (nI 1) (nI 60)) (gS t4_40 t4_41 t1_10 t4_42) rfl rfl hd_X8_in ⟨Nat.le_of_ble_eq_true rfl, Nat.le_of_ble_eq_true rfl⟩ va_P_nil hSt rfl hl.1 rfl (Nat.le_of_ble_eq_true rfl) dX8_setDesks_27 (Nat.zero_le _) (Nat.zero_le _) ?_
    refine lv_iload hx hb dX8_setDesks_30 (lv_at hl 0 rfl) ?_
    refine lv_iconst (v := (-1 : Int32)) hx hb dX8_setDesks_32 (by decide) ?_
    refine lv_icmp_eq (tgt := 46) hx hb dX8_setDesks_33 (by decide) (fun c_2 => ?_) (fun c_2 => ?_)
    · refine lv_iconst (v := nI 1) hx hb dX8_setDesks_46 (by decide) ?_
      refine lv_goto (tgt := 51) hx hb dX8_setDesks_47 (by decide) ?_
      refine rw_i (wr := ([] : va_W)) (w_V (As := [.int (bI (inI z (nI 0) (nI nz - nI 1))), .int (bI (inI m9 (nI 1) (nI 60))), .int (nI 1)]) ⟨hx, hb, hml, hown, hts⟩ (c_X8_asked__ l D cI cZ cQ cJ mx w nz q d nt pr mw mt zo ke wy st tr be ch th (bI (inI z (nI 0) (nI nz - nI 1))) (bI (inI m9 (nI 1) (nI 60))) (nI 1) H.size) (gV t4_55 t4_57 t0_21 t1_10 t4_58) rfl rfl hd_X8_asked__ ⟨Nat.le_of_ble_eq_true rfl, Nat.le_of_ble_eq_true rfl⟩ (rw_pre hP hD hSt [0, 1, 2, 3, 4, 5, 6, 7, 8, 9, 10, 11, 12, 13] rfl (by decide)) (va_recv hSt.1 hP (ci := 8) (q0 := 0) rfl rfl) rfl hl.1 (rest := []) rfl (Nat.le_of_ble_eq_true rfl) dX8_setDesks_51 ⟨Nat.le_of_ble_eq_true rfl, Nat.le_of_ble_eq_true rfl⟩) hP hD hS hA [0, 1, 2, 3, 4, 5, 6, 7, 8, 9, 10, 11, 12, 13] [] rfl rfl (by decide) (by decide) (fun r_9 u_3 H locs hw9 hP hD hS => ?_)
      obtain rfl := hw9
      have hP : va_P D vwCl (wMo mx cI cZ w (nI nz) q d (nI nt) pr mw mt zo ke wy st tr be ch (nI (as3 (bI (inI z (nI 0) (nI nz - nI 1))) (bI (inI m9 (nI 1) (nI 60))) (nI 1)))) H := hP
      have hD : va_D A (wMo mx cI cZ w (nI nz) q d (nI nt) pr mw mt zo ke wy st tr be ch (nI (as3 (bI (inI z (nI 0) (nI nz - nI 1))) (bI (inI m9 (nI 1) (nI 60))) (nI 1)))) := hD
      refine lv_if_ne (tgt := 59) hx hb dX8_setDesks_54 (by decide) (fun c_4 => ?_) (fun c_4 => ?_)
      · have c_4 := bI_n0.mp c_4
        exact absurd (bI_0.mpr c_1) (as3_0 c_4).1
      · have c_4 := bI_0.mp c_4
        refine lv_iconst (v := nI 0) hx hb dX8_setDesks_57 (by decide) ?_
        have hP9 : va_P D vwCl (wMo mx cI cZ w (nI nz) q d (nI nt) pr mw mt zo ke wy st tr be ch (nI (as3 (bI (inI z (nI 0) (nI nz - nI 1))) (bI (inI m9 (nI 1) (nI 60))) (nI 1)))) H := hP
        have hD9 : va_D A (wMo mx cI cZ w (nI nz) q d (nI nt) pr mw mt zo ke wy st tr be ch (nI (as3 (bI (inI z (nI 0) (nI nz - nI 1))) (bI (inI m9 (nI 1) (nI 60))) (nI 1)))) := hD
        have g_5 : sSetDesks nz d cz n z m9 (as3 (bI (inI z (nI 0) (nI nz - nI 1))) (bI (inI m9 (nI 1) (nI 60))) (nI 1)) (nI 0) d := Or.inl ⟨fun h9 => c_1 ((inI_N (n := nz) (by omega)).mpr h9), if_pos (bI_0.mpr c_1), rfl⟩
        exact W.iret (v := nI 0) hx hb hr (fun t9 ht9 hW9 => ⟨⟨nI 0, (nI 0, as3 (bI (inI z (nI 0) (nI nz - nI 1))) (bI (inI m9 (nI 1) (nI 60))) (nI 1), d), rfl, ⟨rfl, g_5⟩, by rw [ht9]; exact hP9, hD9⟩, hS.F ht9⟩) hS.2.2 dX8_setDesks_58
    · exact absurd c_2 (by decide)
  · have c_1 := bI_n0.mp c_1
    obtain ⟨zz, h_zz, rfl⟩ := (inI_N (n := nz) (by omega)).mp c_1
    refine lv_aload_n hx hb dX8_setDesks_10 rfl (lv_at hl 1 rfl) ?_
    refine lv_iload_n hx hb dX8_setDesks_11 rfl (lv_at hl 2 rfl) ?_
    refine ro_V (As := [.int (nI zz)]) (rest := []) (v := tAt cz (nI zz)) ⟨hx, hb, hml, hown, hts⟩ (c_X8_inZone l D cI cZ cQ cJ mx w nz q d nt pr mw mt zo ke wy st tr be ch th g cz zz (by first | assumption | omega) (by first | assumption | omega) (by first | assumption | omega) (by first | assumption | omega) (by first | assumption | omega) (by omega)) (gV t4_67 t4_69 t0_23 t1_10 t4_70) rfl rfl hd_X8_inZone ⟨Nat.le_of_ble_eq_true rfl, Nat.le_of_ble_eq_true rfl⟩ hP hSt (va_recv hSt.1 hP (ci := 8) (q0 := 0) rfl rfl) rfl hl.1 rfl (Nat.le_of_ble_eq_true rfl) dX8_setDesks_12 (Nat.zero_le _) (Nat.zero_le _) ?_
    refine lv_goto (tgt := 19) hx hb dX8_setDesks_15 (by decide) ?_
    refine lv_istore (lv' := [(4, .int (tAt cz (nI zz))), (3, .int (bI (inI (nI zz) (nI 0) (nI nz - nI 1)))), (0, .ref (mx 0)), (1, .int (nI zz)), (2, .int m9)]) hx hb dX8_setDesks_19 hl (by decide) rfl (fun ls hl => ?_)
    refine lv_aload_n hx hb dX8_setDesks_21 rfl (lv_at hl 2 rfl) ?_
    refine lv_iload_n hx hb dX8_setDesks_22 rfl (lv_at hl 1 rfl) ?_
    refine lv_iload_n hx hb dX8_setDesks_23 rfl (lv_at hl 4 rfl) ?_
    refine lv_iconst (v := nI 1) hx hb dX8_setDesks_24 (by decide) ?_
    refine lv_bipush (v := nI 60) hx hb dX8_setDesks_25 (by decide) ?_
    refine ro_S (As := [.int m9, .int (nI 1), .int (nI 60)]) (rest := [.int (bI (inI (nI zz) (nI 0) (nI nz - nI 1))), .ref (mx 0)]) (v := bI (inI m9 (nI 1) (nI 60))) ⟨hx, hb, hml, hown, hts⟩ (c_X8_in l D cI cZ cQ cJ m9 (nI 1) (nI 60)) (gS t4_40 t4_41 t1_10 t4_42) rfl rfl hd_X8_in ⟨Nat.le_of_ble_eq_true rfl, Nat.le_of_ble_eq_true rfl⟩ va_P_nil hSt rfl hl.1 rfl (Nat.le_of_ble_eq_true rfl) dX8_setDesks_27 (Nat.zero_le _) (Nat.zero_le _) ?_
    refine lv_iload hx hb dX8_setDesks_30 (lv_at hl 0 rfl) ?_
    refine lv_iconst (v := (-1 : Int32)) hx hb dX8_setDesks_32 (by decide) ?_
    refine lv_icmp_eq (tgt := 46) hx hb dX8_setDesks_33 (by decide) (fun c_6 => ?_) (fun c_6 => ?_)
    · refine lv_iconst (v := nI 1) hx hb dX8_setDesks_46 (by decide) ?_
      refine lv_goto (tgt := 51) hx hb dX8_setDesks_47 (by decide) ?_
      refine rw_i (wr := ([] : va_W)) (w_V (As := [.int (bI (inI (nI zz) (nI 0) (nI nz - nI 1))), .int (bI (inI m9 (nI 1) (nI 60))), .int (nI 1)]) ⟨hx, hb, hml, hown, hts⟩ (c_X8_asked__ l D cI cZ cQ cJ mx w nz q d nt pr mw mt zo ke wy st tr be ch th (bI (inI (nI zz) (nI 0) (nI nz - nI 1))) (bI (inI m9 (nI 1) (nI 60))) (nI 1) H.size) (gV t4_55 t4_57 t0_21 t1_10 t4_58) rfl rfl hd_X8_asked__ ⟨Nat.le_of_ble_eq_true rfl, Nat.le_of_ble_eq_true rfl⟩ (rw_pre hP hD hSt [0, 1, 2, 3, 4, 5, 6, 7, 8, 9, 10, 11, 12, 13] rfl (by decide)) (va_recv hSt.1 hP (ci := 8) (q0 := 0) rfl rfl) rfl hl.1 (rest := []) rfl (Nat.le_of_ble_eq_true rfl) dX8_setDesks_51 ⟨Nat.le_of_ble_eq_true rfl, Nat.le_of_ble_eq_true rfl⟩) hP hD hS hA [0, 1, 2, 3, 4, 5, 6, 7, 8, 9, 10, 11, 12, 13] [] rfl rfl (by decide) (by decide) (fun r_9 u_7 H locs hw9 hP hD hS => ?_)
      obtain rfl := hw9
      have hP : va_P D vwCl (wMo mx cI cZ w (nI nz) q d (nI nt) pr mw mt zo ke wy st tr be ch (nI (as3 (bI (inI (nI zz) (nI 0) (nI nz - nI 1))) (bI (inI m9 (nI 1) (nI 60))) (nI 1)))) H := hP
      have hD : va_D A (wMo mx cI cZ w (nI nz) q d (nI nt) pr mw mt zo ke wy st tr be ch (nI (as3 (bI (inI (nI zz) (nI 0) (nI nz - nI 1))) (bI (inI m9 (nI 1) (nI 60))) (nI 1)))) := hD
      refine lv_if_ne (tgt := 59) hx hb dX8_setDesks_54 (by decide) (fun c_8 => ?_) (fun c_8 => ?_)
      · have c_8 := bI_n0.mp c_8
        refine lv_aload_n hx hb dX8_setDesks_59 rfl (lv_at hl 2 rfl) ?_
        refine va_get (D := D) (ci := 8) (v := .ref (mx 3)) (C := RX8) (T := TX8) (N := 16) hx hb hts tu_X8 hown hSt.1 hP 0 rfl rfl 3 (by decide) (hts _ t3_223) (fun _ h9 => h9) rfl dX8_setDesks_60 ?_
        refine lv_iload_n hx hb dX8_setDesks_63 rfl (lv_at hl 3 rfl) ?_
        refine r_iald hx hb hSt.1 hP 3 0 rfl rfl (k := zz) (by omega) (by omega) dX8_setDesks_64 ?_
        refine lv_istore (lv' := [(5, .int (d zz)), (4, .int (tAt cz (nI zz))), (3, .int (bI (inI (nI zz) (nI 0) (nI nz - nI 1)))), (0, .ref (mx 0)), (1, .int (nI zz)), (2, .int m9)]) hx hb dX8_setDesks_65 hl (by decide) rfl (fun ls hl => ?_)
        refine lv_aload_n hx hb dX8_setDesks_67 rfl (lv_at hl 3 rfl) ?_
        refine va_get (D := D) (ci := 8) (v := .ref (mx 3)) (C := RX8) (T := TX8) (N := 16) hx hb hts tu_X8 hown hSt.1 hP 0 rfl rfl 3 (by decide) (hts _ t3_223) (fun _ h9 => h9) rfl dX8_setDesks_68 ?_
        refine lv_iload_n hx hb dX8_setDesks_71 rfl (lv_at hl 4 rfl) ?_
        refine lv_iload_n hx hb dX8_setDesks_72 rfl (lv_at hl 5 rfl) ?_
        refine r_iast hx hb hSt.1 hP hD hS 3 0 rfl rfl (k := zz) (by omega) (by omega) dX8_setDesks_73 (fun H locs hP hD hS => ?_)
        have hP : va_P D vwCl (wMo mx cI cZ w (nI nz) q (upd d zz m9) (nI nt) pr mw mt zo ke wy st tr be ch (nI (as3 (bI (inI (nI zz) (nI 0) (nI nz - nI 1))) (bI (inI m9 (nI 1) (nI 60))) (nI 1)))) H := hP
        have hD : va_D A (wMo mx cI cZ w (nI nz) q (upd d zz m9) (nI nt) pr mw mt zo ke wy st tr be ch (nI (as3 (bI (inI (nI zz) (nI 0) (nI nz - nI 1))) (bI (inI m9 (nI 1) (nI 60))) (nI 1)))) := hD
        refine lv_iload hx hb dX8_setDesks_74 (lv_at hl 0 rfl) ?_
        have hP9 : va_P D vwCl (wMo mx cI cZ w (nI nz) q (upd d zz m9) (nI nt) pr mw mt zo ke wy st tr be ch (nI (as3 (bI (inI (nI zz) (nI 0) (nI nz - nI 1))) (bI (inI m9 (nI 1) (nI 60))) (nI 1)))) H := hP
        have hD9 : va_D A (wMo mx cI cZ w (nI nz) q (upd d zz m9) (nI nt) pr mw mt zo ke wy st tr be ch (nI (as3 (bI (inI (nI zz) (nI 0) (nI nz - nI 1))) (bI (inI m9 (nI 1) (nI 60))) (nI 1)))) := hD
        have g_9 : sSetDesks nz d cz n (nI zz) m9 (as3 (bI (inI (nI zz) (nI 0) (nI nz - nI 1))) (bI (inI m9 (nI 1) (nI 60))) (nI 1)) (d zz) (upd d zz m9) := Or.inr (Or.inr (Or.inr ⟨⟨zz, h_zz, rfl⟩, (inI_R (lo := 1) (hi := 60) (by omega) (by omega)).mp (bI_n0.mp (as3_0 c_8).2.1), fun ⟨t8, h8, e8, _⟩ => z_m1 (a := t8) (by omega) (e8.symm.trans c_6), c_8, by rw [nIc (by omega)], by rw [nIc (by omega)]⟩))
        exact W.iret (v := d zz) hx hb hr (fun t9 ht9 hW9 => ⟨⟨d zz, (d zz, as3 (bI (inI (nI zz) (nI 0) (nI nz - nI 1))) (bI (inI m9 (nI 1) (nI 60))) (nI 1), upd d zz m9), rfl, ⟨rfl, g_9⟩, by rw [ht9]; exact hP9, hD9⟩, hS.F ht9⟩) hS.2.2 dX8_setDesks_76
      · have c_8 := bI_0.mp c_8
        refine lv_iconst (v := nI 0) hx hb dX8_setDesks_57 (by decide) ?_
        have hP9 : va_P D vwCl (wMo mx cI cZ w (nI nz) q d (nI nt) pr mw mt zo ke wy st tr be ch (nI (as3 (bI (inI (nI zz) (nI 0) (nI nz - nI 1))) (bI (inI m9 (nI 1) (nI 60))) (nI 1)))) H := hP
        have hD9 : va_D A (wMo mx cI cZ w (nI nz) q d (nI nt) pr mw mt zo ke wy st tr be ch (nI (as3 (bI (inI (nI zz) (nI 0) (nI nz - nI 1))) (bI (inI m9 (nI 1) (nI 60))) (nI 1)))) := hD
        have g_10 : sSetDesks nz d cz n (nI zz) m9 (as3 (bI (inI (nI zz) (nI 0) (nI nz - nI 1))) (bI (inI m9 (nI 1) (nI 60))) (nI 1)) (nI 0) d := by rcases as3_c (bI (inI (nI zz) (nI 0) (nI nz - nI 1))) (bI (inI m9 (nI 1) (nI 60))) (nI 1) with q9 | q9 | q9 | q9; exact absurd ((inI_N (n := nz) (by omega)).mpr ⟨zz, h_zz, rfl⟩) (bI_0.mp q9.1); exact Or.inr (Or.inl ⟨⟨zz, h_zz, rfl⟩, fun h9 => bI_0.mp q9.2.1 ((inI_R (lo := 1) (hi := 60) (by omega) (by omega)).mpr h9), q9.2.2, rfl⟩); exact absurd q9.2.2.1 nI1; exact absurd q9.2.2.2 c_8
        exact W.iret (v := nI 0) hx hb hr (fun t9 ht9 hW9 => ⟨⟨nI 0, (nI 0, as3 (bI (inI (nI zz) (nI 0) (nI nz - nI 1))) (bI (inI m9 (nI 1) (nI 60))) (nI 1), d), rfl, ⟨rfl, g_10⟩, by rw [ht9]; exact hP9, hD9⟩, hS.F ht9⟩) hS.2.2 dX8_setDesks_58
    · obtain ⟨tm9, htm9, htm7, et9, eg9⟩ := tAt_team hcz hvg hnz (by omega) c_6
      refine lv_aload_n hx hb dX8_setDesks_36 rfl (lv_at hl 2 rfl) ?_
      refine lv_iload hx hb dX8_setDesks_37 (lv_at hl 0 rfl) ?_
      refine lv_as (y := nI tm9) (et9) ?_
      refine ro_V (As := [.int (nI tm9)]) (rest := [.int (bI (inI m9 (nI 1) (nI 60))), .int (bI (inI (nI zz) (nI 0) (nI nz - nI 1))), .ref (mx 0)]) (v := n tm9) ⟨hx, hb, hml, hown, hts⟩ (c_X8_needOf l D cI cZ cQ cJ mx w nz q d nt pr mw mt zo ke wy st tr be ch th pp n tm9 (by first | assumption | omega) (by first | assumption | omega) (by first | assumption | omega) (by first | assumption | omega)) (gV t4_71 t4_73 t0_24 t1_10 t4_74) rfl rfl hd_X8_needOf ⟨Nat.le_of_ble_eq_true rfl, Nat.le_of_ble_eq_true rfl⟩ hP hSt (va_recv hSt.1 hP (ci := 8) (q0 := 0) rfl rfl) rfl hl.1 rfl (Nat.le_of_ble_eq_true rfl) dX8_setDesks_39 (Nat.zero_le _) (Nat.zero_le _) ?_
      refine lv_iload_n hx hb dX8_setDesks_42 rfl (lv_at hl 4 rfl) ?_
      refine lv_icmp_gt (tgt := 50) hx hb dX8_setDesks_43 (by decide) (fun c_11 => ?_) (fun c_11 => ?_)
      · refine lv_iconst (v := nI 0) hx hb dX8_setDesks_50 (by decide) ?_
        refine rw_i (wr := ([] : va_W)) (w_V (As := [.int (bI (inI (nI zz) (nI 0) (nI nz - nI 1))), .int (bI (inI m9 (nI 1) (nI 60))), .int (nI 0)]) ⟨hx, hb, hml, hown, hts⟩ (c_X8_asked__ l D cI cZ cQ cJ mx w nz q d nt pr mw mt zo ke wy st tr be ch th (bI (inI (nI zz) (nI 0) (nI nz - nI 1))) (bI (inI m9 (nI 1) (nI 60))) (nI 0) H.size) (gV t4_55 t4_57 t0_21 t1_10 t4_58) rfl rfl hd_X8_asked__ ⟨Nat.le_of_ble_eq_true rfl, Nat.le_of_ble_eq_true rfl⟩ (rw_pre hP hD hSt [0, 1, 2, 3, 4, 5, 6, 7, 8, 9, 10, 11, 12, 13] rfl (by decide)) (va_recv hSt.1 hP (ci := 8) (q0 := 0) rfl rfl) rfl hl.1 (rest := []) rfl (Nat.le_of_ble_eq_true rfl) dX8_setDesks_51 ⟨Nat.le_of_ble_eq_true rfl, Nat.le_of_ble_eq_true rfl⟩) hP hD hS hA [0, 1, 2, 3, 4, 5, 6, 7, 8, 9, 10, 11, 12, 13] [] rfl rfl (by decide) (by decide) (fun r_9 u_12 H locs hw9 hP hD hS => ?_)
        obtain rfl := hw9
        have hP : va_P D vwCl (wMo mx cI cZ w (nI nz) q d (nI nt) pr mw mt zo ke wy st tr be ch (nI (as3 (bI (inI (nI zz) (nI 0) (nI nz - nI 1))) (bI (inI m9 (nI 1) (nI 60))) (nI 0)))) H := hP
        have hD : va_D A (wMo mx cI cZ w (nI nz) q d (nI nt) pr mw mt zo ke wy st tr be ch (nI (as3 (bI (inI (nI zz) (nI 0) (nI nz - nI 1))) (bI (inI m9 (nI 1) (nI 60))) (nI 0)))) := hD
        refine lv_if_ne (tgt := 59) hx hb dX8_setDesks_54 (by decide) (fun c_13 => ?_) (fun c_13 => ?_)
        · have c_13 := bI_n0.mp c_13
          exact absurd nI0 (as3_0 c_13).2.2
        · have c_13 := bI_0.mp c_13
          refine lv_iconst (v := nI 0) hx hb dX8_setDesks_57 (by decide) ?_
          have hP9 : va_P D vwCl (wMo mx cI cZ w (nI nz) q d (nI nt) pr mw mt zo ke wy st tr be ch (nI (as3 (bI (inI (nI zz) (nI 0) (nI nz - nI 1))) (bI (inI m9 (nI 1) (nI 60))) (nI 0)))) H := hP
          have hD9 : va_D A (wMo mx cI cZ w (nI nz) q d (nI nt) pr mw mt zo ke wy st tr be ch (nI (as3 (bI (inI (nI zz) (nI 0) (nI nz - nI 1))) (bI (inI m9 (nI 1) (nI 60))) (nI 0)))) := hD
          have g_14 : sSetDesks nz d cz n (nI zz) m9 (as3 (bI (inI (nI zz) (nI 0) (nI nz - nI 1))) (bI (inI m9 (nI 1) (nI 60))) (nI 0)) (nI 0) d := by rcases as3_c (bI (inI (nI zz) (nI 0) (nI nz - nI 1))) (bI (inI m9 (nI 1) (nI 60))) (nI 0) with q9 | q9 | q9 | q9; exact absurd ((inI_N (n := nz) (by omega)).mpr ⟨zz, h_zz, rfl⟩) (bI_0.mp q9.1); exact Or.inr (Or.inl ⟨⟨zz, h_zz, rfl⟩, fun h9 => bI_0.mp q9.2.1 ((inI_R (lo := 1) (hi := 60) (by omega) (by omega)).mpr h9), q9.2.2, rfl⟩); exact Or.inr (Or.inr (Or.inl ⟨⟨zz, h_zz, rfl⟩, (inI_R (lo := 1) (hi := 60) (by omega) (by omega)).mp (bI_n0.mp q9.2.1), ⟨tm9, htm7, et9, c_11⟩, q9.2.2.2, rfl⟩)); exact absurd q9.2.2.2 c_13
          exact W.iret (v := nI 0) hx hb hr (fun t9 ht9 hW9 => ⟨⟨nI 0, (nI 0, as3 (bI (inI (nI zz) (nI 0) (nI nz - nI 1))) (bI (inI m9 (nI 1) (nI 60))) (nI 0), d), rfl, ⟨rfl, g_14⟩, by rw [ht9]; exact hP9, hD9⟩, hS.F ht9⟩) hS.2.2 dX8_setDesks_58
      · refine lv_iconst (v := nI 1) hx hb dX8_setDesks_46 (by decide) ?_
        refine lv_goto (tgt := 51) hx hb dX8_setDesks_47 (by decide) ?_
        refine rw_i (wr := ([] : va_W)) (w_V (As := [.int (bI (inI (nI zz) (nI 0) (nI nz - nI 1))), .int (bI (inI m9 (nI 1) (nI 60))), .int (nI 1)]) ⟨hx, hb, hml, hown, hts⟩ (c_X8_asked__ l D cI cZ cQ cJ mx w nz q d nt pr mw mt zo ke wy st tr be ch th (bI (inI (nI zz) (nI 0) (nI nz - nI 1))) (bI (inI m9 (nI 1) (nI 60))) (nI 1) H.size) (gV t4_55 t4_57 t0_21 t1_10 t4_58) rfl rfl hd_X8_asked__ ⟨Nat.le_of_ble_eq_true rfl, Nat.le_of_ble_eq_true rfl⟩ (rw_pre hP hD hSt [0, 1, 2, 3, 4, 5, 6, 7, 8, 9, 10, 11, 12, 13] rfl (by decide)) (va_recv hSt.1 hP (ci := 8) (q0 := 0) rfl rfl) rfl hl.1 (rest := []) rfl (Nat.le_of_ble_eq_true rfl) dX8_setDesks_51 ⟨Nat.le_of_ble_eq_true rfl, Nat.le_of_ble_eq_true rfl⟩) hP hD hS hA [0, 1, 2, 3, 4, 5, 6, 7, 8, 9, 10, 11, 12, 13] [] rfl rfl (by decide) (by decide) (fun r_9 u_15 H locs hw9 hP hD hS => ?_)
        obtain rfl := hw9
        have hP : va_P D vwCl (wMo mx cI cZ w (nI nz) q d (nI nt) pr mw mt zo ke wy st tr be ch (nI (as3 (bI (inI (nI zz) (nI 0) (nI nz - nI 1))) (bI (inI m9 (nI 1) (nI 60))) (nI 1)))) H := hP
        have hD : va_D A (wMo mx cI cZ w (nI nz) q d (nI nt) pr mw mt zo ke wy st tr be ch (nI (as3 (bI (inI (nI zz) (nI 0) (nI nz - nI 1))) (bI (inI m9 (nI 1) (nI 60))) (nI 1)))) := hD
        refine lv_if_ne (tgt := 59) hx hb dX8_setDesks_54 (by decide) (fun c_16 => ?_) (fun c_16 => ?_)
        · have c_16 := bI_n0.mp c_16
          refine lv_aload_n hx hb dX8_setDesks_59 rfl (lv_at hl 2 rfl) ?_
          refine va_get (D := D) (ci := 8) (v := .ref (mx 3)) (C := RX8) (T := TX8) (N := 16) hx hb hts tu_X8 hown hSt.1 hP 0 rfl rfl 3 (by decide) (hts _ t3_223) (fun _ h9 => h9) rfl dX8_setDesks_60 ?_
          refine lv_iload_n hx hb dX8_setDesks_63 rfl (lv_at hl 3 rfl) ?_
          refine r_iald hx hb hSt.1 hP 3 0 rfl rfl (k := zz) (by omega) (by omega) dX8_setDesks_64 ?_
          refine lv_istore (lv' := [(5, .int (d zz)), (4, .int (tAt cz (nI zz))), (3, .int (bI (inI (nI zz) (nI 0) (nI nz - nI 1)))), (0, .ref (mx 0)), (1, .int (nI zz)), (2, .int m9)]) hx hb dX8_setDesks_65 hl (by decide) rfl (fun ls hl => ?_)
          refine lv_aload_n hx hb dX8_setDesks_67 rfl (lv_at hl 3 rfl) ?_
          refine va_get (D := D) (ci := 8) (v := .ref (mx 3)) (C := RX8) (T := TX8) (N := 16) hx hb hts tu_X8 hown hSt.1 hP 0 rfl rfl 3 (by decide) (hts _ t3_223) (fun _ h9 => h9) rfl dX8_setDesks_68 ?_
          refine lv_iload_n hx hb dX8_setDesks_71 rfl (lv_at hl 4 rfl) ?_
          refine lv_iload_n hx hb dX8_setDesks_72 rfl (lv_at hl 5 rfl) ?_
          refine r_iast hx hb hSt.1 hP hD hS 3 0 rfl rfl (k := zz) (by omega) (by omega) dX8_setDesks_73 (fun H locs hP hD hS => ?_)
          have hP : va_P D vwCl (wMo mx cI cZ w (nI nz) q (upd d zz m9) (nI nt) pr mw mt zo ke wy st tr be ch (nI (as3 (bI (inI (nI zz) (nI 0) (nI nz - nI 1))) (bI (inI m9 (nI 1) (nI 60))) (nI 1)))) H := hP
          have hD : va_D A (wMo mx cI cZ w (nI nz) q (upd d zz m9) (nI nt) pr mw mt zo ke wy st tr be ch (nI (as3 (bI (inI (nI zz) (nI 0) (nI nz - nI 1))) (bI (inI m9 (nI 1) (nI 60))) (nI 1)))) := hD
          refine lv_iload hx hb dX8_setDesks_74 (lv_at hl 0 rfl) ?_
          have hP9 : va_P D vwCl (wMo mx cI cZ w (nI nz) q (upd d zz m9) (nI nt) pr mw mt zo ke wy st tr be ch (nI (as3 (bI (inI (nI zz) (nI 0) (nI nz - nI 1))) (bI (inI m9 (nI 1) (nI 60))) (nI 1)))) H := hP
          have hD9 : va_D A (wMo mx cI cZ w (nI nz) q (upd d zz m9) (nI nt) pr mw mt zo ke wy st tr be ch (nI (as3 (bI (inI (nI zz) (nI 0) (nI nz - nI 1))) (bI (inI m9 (nI 1) (nI 60))) (nI 1)))) := hD
          have g_17 : sSetDesks nz d cz n (nI zz) m9 (as3 (bI (inI (nI zz) (nI 0) (nI nz - nI 1))) (bI (inI m9 (nI 1) (nI 60))) (nI 1)) (d zz) (upd d zz m9) := Or.inr (Or.inr (Or.inr ⟨⟨zz, h_zz, rfl⟩, (inI_R (lo := 1) (hi := 60) (by omega) (by omega)).mp (bI_n0.mp (as3_0 c_16).2.1), fun ⟨t8, h8, e8, l8⟩ => by rw [et9] at e8; have e7 := z_eq (by omega) (by omega) e8; subst e7; exact c_11 l8, c_16, by rw [nIc (by omega)], by rw [nIc (by omega)]⟩))
          exact W.iret (v := d zz) hx hb hr (fun t9 ht9 hW9 => ⟨⟨d zz, (d zz, as3 (bI (inI (nI zz) (nI 0) (nI nz - nI 1))) (bI (inI m9 (nI 1) (nI 60))) (nI 1), upd d zz m9), rfl, ⟨rfl, g_17⟩, by rw [ht9]; exact hP9, hD9⟩, hS.F ht9⟩) hS.2.2 dX8_setDesks_76
        · have c_16 := bI_0.mp c_16
          refine lv_iconst (v := nI 0) hx hb dX8_setDesks_57 (by decide) ?_
          have hP9 : va_P D vwCl (wMo mx cI cZ w (nI nz) q d (nI nt) pr mw mt zo ke wy st tr be ch (nI (as3 (bI (inI (nI zz) (nI 0) (nI nz - nI 1))) (bI (inI m9 (nI 1) (nI 60))) (nI 1)))) H := hP
          have hD9 : va_D A (wMo mx cI cZ w (nI nz) q d (nI nt) pr mw mt zo ke wy st tr be ch (nI (as3 (bI (inI (nI zz) (nI 0) (nI nz - nI 1))) (bI (inI m9 (nI 1) (nI 60))) (nI 1)))) := hD
          have g_18 : sSetDesks nz d cz n (nI zz) m9 (as3 (bI (inI (nI zz) (nI 0) (nI nz - nI 1))) (bI (inI m9 (nI 1) (nI 60))) (nI 1)) (nI 0) d := by rcases as3_c (bI (inI (nI zz) (nI 0) (nI nz - nI 1))) (bI (inI m9 (nI 1) (nI 60))) (nI 1) with q9 | q9 | q9 | q9; exact absurd ((inI_N (n := nz) (by omega)).mpr ⟨zz, h_zz, rfl⟩) (bI_0.mp q9.1); exact Or.inr (Or.inl ⟨⟨zz, h_zz, rfl⟩, fun h9 => bI_0.mp q9.2.1 ((inI_R (lo := 1) (hi := 60) (by omega) (by omega)).mpr h9), q9.2.2, rfl⟩); exact absurd q9.2.2.1 nI1; exact absurd q9.2.2.2 c_16
          exact W.iret (v := nI 0) hx hb hr (fun t9 ht9 hW9 => ⟨⟨nI 0, (nI 0, as3 (bI (inI (nI zz) (nI 0) (nI nz - nI 1))) (bI (inI m9 (nI 1) (nI 60))) (nI 1), d), rfl, ⟨rfl, g_18⟩, by rw [ht9]; exact hP9, hD9⟩, hS.F ht9⟩) hS.2.2 dX8_setDesks_58
theorem pr_step {pr1 : Nat → Int32} {P : Nat → Nat → Int32} {nt j : Nat} (h : ∀ t i, t < 7 → i < 5 → pr1 (5 * t + i) = if t = nt ∧ i < j then nI 1 else P t i) : ∀ t i, t < 7 → i < 5 → j < 5 → upd pr1 (5 * nt + j) (nI 1) (5 * t + i) = if t = nt ∧ i < j + 1 then nI 1 else P t i := fun t i ht hi hj => by
  by_cases e : 5 * t + i = 5 * nt + j
  · rw [e, pk_us, if_pos ⟨by omega, by omega⟩]
  · rw [pk_un e, h t i ht hi]
    by_cases q : t = nt ∧ i < j
    · rw [if_pos q, if_pos ⟨q.1, by omega⟩]
    · rw [if_neg q, if_neg (fun q2 => q ⟨q2.1, by omega⟩)]
set_option maxHeartbeats 4000000 in
set_option maxRecDepth 100000 in
theorem c_X8_addTeam (l : Launch) (D : va_G) (cI cZ cQ cJ : ClassId) (mx : Nat → Nat) (w : Nat → Int32) (nz : Nat) (q : Nat → Int32) (d : Nat → Int32) (nt : Nat) (pr : Nat → Int32) (mw : Nat → Int32) (mt : Nat → Int32) (zo : Nat → Int32) (ke : Nat → Int32) (wy : Nat → Int32) (st : Nat → Int32) (tr : Nat → Int32) (be : Nat → Int32) (ch : Nat → Int32) (th : Int32) (pp : Nat → Nat → Nat) (n : Nat → Int32) (g : Nat → Nat) (cz : Nat → Int32) (P : Nat → Nat → Int32) (sz : Nat) (hnt : nt ≤ 7) (hzz : pOK nt zo g) (hpP : ∀ t j, t < 7 → j < 5 → pr (5 * t + j) = P t j) : Met l yX8_addTeam (.code yX8_addTeam cX8_addTeam 2 (some .int) :: ALL) ({ frames := 1, cells := 0, slots := 0, locals := 21 } : Room) (va_Pc [.ref (mx 0)] (rw_P D cI cZ cQ cJ (wMo mx cI cZ w (nI nz) q d (nI nt) pr mw mt zo ke wy st tr be ch th) sz)) (va_Qi (fun (r9 : Int32) (u9 : Int32 × Nat × (Nat → Int32) × (Nat → Int32) × Nat × (Nat → Nat → Int32) × (Nat → Int32)) => (r9 = u9.1) ∧ (sAddTeam nt P n u9.2.1 u9.1 u9.2.2.2.2.1 u9.2.2.2.2.2.1 u9.2.2.2.2.2.2) ∧ (∀ t j, t < 7 → j < 5 → u9.2.2.1 (5 * t + j) = u9.2.2.2.2.2.1 t j) ∧ (u9.2.2.2.1 = if u9.2.1 = 0 then upd zo nt (-1 : Int32) else zo)) (rw_B D (va_A (wMo mx cI cZ w (nI nz) q d (nI nt) pr mw mt zo ke wy st tr be ch th) sz) (fun u9 : Int32 × Nat × (Nat → Int32) × (Nat → Int32) × Nat × (Nat → Nat → Int32) × (Nat → Int32) => wMo mx cI cZ w (nI nz) q d (nI u9.2.2.2.2.1) u9.2.2.1 mw mt u9.2.2.2.1 ke wy st tr be ch (nI u9.2.1))) (va_A (wMo mx cI cZ w (nI nz) q d (nI nt) pr mw mt zo ke wy st tr be ch th) sz)) 0 0 (va_A (wMo mx cI cZ w (nI nz) q d (nI nt) pr mw mt zo ke wy st tr be ch th) sz) := by
  refine Met.ofW (cc := cX8_addTeam) (maxL := 2) (ret := (some .int)) (by decide) rfl ?_
  intro p e s m args below meth c s₁ B hml hv
  obtain ⟨rfl, hsz, hP, hSt, hD0⟩ := hv
  have hx := B.exec
  have hb := B.bytes
  have hr := B.returns
  have hts : ∀ w ∈ ALL, w.before ([.ref (mx 0)] : List Value).toArray s = true := fun w h => atoms_spec (ws := (.code yX8_addTeam cX8_addTeam 2 (some .int) :: ALL)) B.pre w (List.mem_cons_of_mem _ h)
  have hown : s.vm.findClass RX8 = some m.cls := findClass_of_methodNamed B.named
  have hlocks := B.notSynchronized
  subst hsz
  have hD := hD0.self (sz := s.heap.size)
  clear hD0
  generalize hAe : va_A (wMo mx cI cZ w (nI nz) q d (nI nt) pr mw mt zo ke wy st tr be ch th) s.heap.size = A at hD ⊢
  have hA : ∀ q : Nat, s.heap.size ≤ q → A q := fun q h => by rw [← hAe]; exact Or.inr h
  have hS : va_S A s.heap s.heap [] := va_S.rf
  have hl := lv_entry ([.ref (mx 0)]) (n := 2) (Nat.le_of_ble_eq_true rfl)
  rw [lg_entry_eq]
  generalize (lg_sl ([.ref (mx 0)]) ++ List.replicate (2 - (lg_sl ([.ref (mx 0)])).length) Slot.unset).toArray = ls at hl ⊢
  have hl : lv_has ls 2 [(0, .ref (mx 0))] := hl
  obtain ⟨H, hHe⟩ : ∃ H : Heap, H = s.heap := ⟨_, rfl⟩
  obtain ⟨locs, hLe⟩ : ∃ L : List Loc, L = [] := ⟨_, rfl⟩
  have hP : va_P D vwCl (wMo mx cI cZ w (nI nz) q d (nI nt) pr mw mt zo ke wy st tr be ch th) H := by rw [hHe]; exact hP
  have hS : va_S A s.heap H locs := by rw [hHe, hLe]; exact hS
  refine W.eqHL hHe hLe ?_
  refine lv_aload_n hx hb dX8_addTeam_0 rfl (lv_at hl 0 rfl) ?_
  refine lv_aload_n hx hb dX8_addTeam_1 rfl (lv_at hl 0 rfl) ?_
  refine va_get (D := D) (ci := 8) (v := .int (nI nt)) (C := RX8) (T := TX8) (N := 16) hx hb hts tu_X8 hown hSt.1 hP 0 rfl rfl 4 (by decide) (hts _ t3_224) (fun _ h9 => h9) rfl dX8_addTeam_2 ?_
  refine lv_bipush (v := nI 7) hx hb dX8_addTeam_5 (by decide) ?_
  refine lv_icmp_ge (tgt := 14) hx hb dX8_addTeam_7 (by decide) (fun c_1 => ?_) (fun c_1 => ?_)
  · have c_1 := z_le (by omega) (by omega) c_1
    refine lv_iconst (v := nI 0) hx hb dX8_addTeam_14 (by decide) ?_
    refine rw_i (wr := ([] : va_W)) (w_V (As := [.int (nI 0)]) ⟨hx, hb, hml, hown, hts⟩ (c_X8_asked l D cI cZ cQ cJ mx w nz q d nt pr mw mt zo ke wy st tr be ch th (nI 0) H.size (by first | exact Or.inl rfl | exact Or.inr rfl)) (gV t4_79 t4_81 t0_25 t1_10 t4_82) rfl rfl hd_X8_asked ⟨Nat.le_of_ble_eq_true rfl, Nat.le_of_ble_eq_true rfl⟩ (rw_pre hP hD hSt [0, 1, 2, 3, 4, 5, 6, 7, 8, 9, 10, 11, 12, 13] rfl (by decide)) (va_recv hSt.1 hP (ci := 8) (q0 := 0) rfl rfl) rfl hl.1 (rest := []) rfl (Nat.le_of_ble_eq_true rfl) dX8_addTeam_15 ⟨Nat.le_of_ble_eq_true rfl, Nat.le_of_ble_eq_true rfl⟩) hP hD hS hA [0, 1, 2, 3, 4, 5, 6, 7, 8, 9, 10, 11, 12, 13] [] rfl rfl (by decide) (by decide) (fun r_9 u_2 H locs hw9 hP hD hS => ?_)
    obtain rfl := hw9
    have hP : va_P D vwCl (wMo mx cI cZ w (nI nz) q d (nI nt) pr mw mt zo ke wy st tr be ch (nI (as1 (nI 0)))) H := hP
    have hD : va_D A (wMo mx cI cZ w (nI nz) q d (nI nt) pr mw mt zo ke wy st tr be ch (nI (as1 (nI 0)))) := hD
    refine lv_if_ne (tgt := 23) hx hb dX8_addTeam_18 (by decide) (fun c_3 => ?_) (fun c_3 => ?_)
    · exact absurd c_3 (by decide)
    · refine lv_iconst (v := nI 0) hx hb dX8_addTeam_21 (by decide) ?_
      have hP9 : va_P D vwCl (wMo mx cI cZ w (nI nz) q d (nI nt) pr mw mt zo ke wy st tr be ch (nI (as1 (nI 0)))) H := hP
      have hD9 : va_D A (wMo mx cI cZ w (nI nz) q d (nI nt) pr mw mt zo ke wy st tr be ch (nI (as1 (nI 0)))) := hD
      have g_4 : sAddTeam nt P n (as1 (nI 0)) (nI 0) nt P n := Or.inl ⟨by omega, if_pos nI0, rfl, rfl, rfl⟩
      have g_5 : ∀ t j, t < 7 → j < 5 → pr (5 * t + j) = P t j := hpP
      have g_6 : zo = if (as1 (nI 0)) = 0 then upd zo nt (-1 : Int32) else zo := by rw [if_neg (by decide)]
      exact W.iret (v := nI 0) hx hb hr (fun t9 ht9 hW9 => ⟨⟨nI 0, (nI 0, as1 (nI 0), pr, zo, nt, P, n), rfl, ⟨rfl, g_4, g_5, g_6⟩, by rw [ht9]; exact hP9, hD9⟩, hS.F ht9⟩) hS.2.2 dX8_addTeam_22
  · have c_1 := z_nle (by omega) (by omega) c_1
    refine lv_iconst (v := nI 1) hx hb dX8_addTeam_10 (by decide) ?_
    refine lv_goto (tgt := 15) hx hb dX8_addTeam_11 (by decide) ?_
    refine rw_i (wr := ([] : va_W)) (w_V (As := [.int (nI 1)]) ⟨hx, hb, hml, hown, hts⟩ (c_X8_asked l D cI cZ cQ cJ mx w nz q d nt pr mw mt zo ke wy st tr be ch th (nI 1) H.size (by first | exact Or.inl rfl | exact Or.inr rfl)) (gV t4_79 t4_81 t0_25 t1_10 t4_82) rfl rfl hd_X8_asked ⟨Nat.le_of_ble_eq_true rfl, Nat.le_of_ble_eq_true rfl⟩ (rw_pre hP hD hSt [0, 1, 2, 3, 4, 5, 6, 7, 8, 9, 10, 11, 12, 13] rfl (by decide)) (va_recv hSt.1 hP (ci := 8) (q0 := 0) rfl rfl) rfl hl.1 (rest := []) rfl (Nat.le_of_ble_eq_true rfl) dX8_addTeam_15 ⟨Nat.le_of_ble_eq_true rfl, Nat.le_of_ble_eq_true rfl⟩) hP hD hS hA [0, 1, 2, 3, 4, 5, 6, 7, 8, 9, 10, 11, 12, 13] [] rfl rfl (by decide) (by decide) (fun r_9 u_7 H locs hw9 hP hD hS => ?_)
    obtain rfl := hw9
    have hP : va_P D vwCl (wMo mx cI cZ w (nI nz) q d (nI nt) pr mw mt zo ke wy st tr be ch (nI (as1 (nI 1)))) H := hP
    have hD : va_D A (wMo mx cI cZ w (nI nz) q d (nI nt) pr mw mt zo ke wy st tr be ch (nI (as1 (nI 1)))) := hD
    refine lv_if_ne (tgt := 23) hx hb dX8_addTeam_18 (by decide) (fun c_8 => ?_) (fun c_8 => ?_)
    · refine lv_iconst (v := nI 0) hx hb dX8_addTeam_23 (by decide) ?_
      refine lv_istore_n (lv' := [(1, .int (nI 0)), (0, .ref (mx 0))]) hx hb dX8_addTeam_24 rfl hl (by decide) rfl (fun ls hl => ?_)
      have L25 : ∀ (n9 : Nat) (j : Nat) (pr1 : Nat → Int32), (j ≤ 5) → (∀ t i, t < 7 → i < 5 → pr1 (5 * t + i) = if t = nt ∧ i < j then nI 1 else P t i) → (5 - j) < n9 → ∀ (H : Heap) (locs : List Loc), va_P D vwCl (wMo mx cI cZ w (nI nz) q d (nI nt) pr1 mw mt zo ke wy st tr be ch (nI (as1 (nI 1)))) H → va_D A (wMo mx cI cZ w (nI nz) q d (nI nt) pr1 mw mt zo ke wy st tr be ch (nI (as1 (nI 1)))) → va_S A s.heap H locs → ∀ (ls : Array Slot), lv_has ls 2 [(0, .ref (mx 0)), (1, .int (nI j))] → W p l e ({ frames := 1, cells := 0, slots := 0, locals := 21 } : Room) s m ([.ref (mx 0)] : List Value).toArray below meth c H locs 0 0 (MQ below (va_Qi (fun (r9 : Int32) (u9 : Int32 × Nat × (Nat → Int32) × (Nat → Int32) × Nat × (Nat → Nat → Int32) × (Nat → Int32)) => (r9 = u9.1) ∧ (sAddTeam nt P n u9.2.1 u9.1 u9.2.2.2.2.1 u9.2.2.2.2.2.1 u9.2.2.2.2.2.2) ∧ (∀ t j, t < 7 → j < 5 → u9.2.2.1 (5 * t + j) = u9.2.2.2.2.2.1 t j) ∧ (u9.2.2.2.1 = if u9.2.1 = 0 then upd zo nt (-1 : Int32) else zo)) (rw_B D A (fun u9 : Int32 × Nat × (Nat → Int32) × (Nat → Int32) × Nat × (Nat → Nat → Int32) × (Nat → Int32) => wMo mx cI cZ w (nI nz) q d (nI u9.2.2.2.2.1) u9.2.2.1 mw mt u9.2.2.2.1 ke wy st tr be ch (nI u9.2.1))) A) ([.ref (mx 0)] : List Value).toArray s 0 0 A) (F0 m 25 ls []) := by
        intro n9
        induction n9 with
        | zero =>
          intro j pr1 hj hp1 hm
          exact absurd hm (by omega)
        | succ n9 ih =>
          intro j pr1 hj hp1 hm H locs hP hD hS ls hl
          have ih_L25 := ih
          refine lv_iload_n hx hb dX8_addTeam_25 rfl (lv_at hl 1 rfl) ?_
          refine lv_iconst (v := nI 5) hx hb dX8_addTeam_26 (by decide) ?_
          refine lv_icmp_ge (tgt := 50) hx hb dX8_addTeam_27 (by decide) (fun c_9 => ?_) (fun c_9 => ?_)
          · have c_9 := z_le (by omega) (by omega) c_9
            refine lv_aload_n hx hb dX8_addTeam_50 rfl (lv_at hl 0 rfl) ?_
            refine va_get (D := D) (ci := 8) (v := .ref (mx 7)) (C := RX8) (T := TX8) (N := 16) hx hb hts tu_X8 hown hSt.1 hP 0 rfl rfl 8 (by decide) (hts _ t3_228) (fun _ h9 => h9) rfl dX8_addTeam_51 ?_
            refine lv_aload_n hx hb dX8_addTeam_54 rfl (lv_at hl 0 rfl) ?_
            refine va_get (D := D) (ci := 8) (v := .int (nI nt)) (C := RX8) (T := TX8) (N := 16) hx hb hts tu_X8 hown hSt.1 hP 0 rfl rfl 4 (by decide) (hts _ t3_224) (fun _ h9 => h9) rfl dX8_addTeam_55 ?_
            refine lv_iconst (v := (-1 : Int32)) hx hb dX8_addTeam_58 (by decide) ?_
            refine r_iast hx hb hSt.1 hP hD hS 7 0 rfl rfl (k := nt) (by omega) (by omega) dX8_addTeam_59 (fun H locs hP hD hS => ?_)
            have hP : va_P D vwCl (wMo mx cI cZ w (nI nz) q d (nI nt) pr1 mw mt (upd zo nt (-1 : Int32)) ke wy st tr be ch (nI (as1 (nI 1)))) H := hP
            have hD : va_D A (wMo mx cI cZ w (nI nz) q d (nI nt) pr1 mw mt (upd zo nt (-1 : Int32)) ke wy st tr be ch (nI (as1 (nI 1)))) := hD
            refine lv_aload_n hx hb dX8_addTeam_60 rfl (lv_at hl 0 rfl) ?_
            refine lv_dup hx hb dX8_addTeam_61 rfl ?_
            refine va_get (D := D) (ci := 8) (v := .int (nI nt)) (C := RX8) (T := TX8) (N := 16) hx hb hts tu_X8 hown hSt.1 hP 0 rfl rfl 4 (by decide) (hts _ t3_224) (fun _ h9 => h9) rfl dX8_addTeam_62 ?_
            refine lv_iconst (v := nI 1) hx hb dX8_addTeam_65 (by decide) ?_
            refine r_addn hx hb dX8_addTeam_66 ?_
            refine va_put (D := D) (ci := 8) (v := .int (nI (nt + 1))) (ty := .int) (C := RX8) (T := TX8) (N := 16) hx hb hts tu_X8 tyX8 tyX8_ok nmX8 hown hSt.1 hP hD hS 0 rfl rfl 4 (by decide) (hts _ t3_224) (fun _ h9 => h9) rfl (by decide +kernel) rfl rfl (Nat.le_of_ble_eq_true rfl) dX8_addTeam_67 (fun H locs hP hD hS => ?_)
            have hP : va_P D vwCl (wMo mx cI cZ w (nI nz) q d (nI (nt + 1)) pr1 mw mt (upd zo nt (-1 : Int32)) ke wy st tr be ch (nI (as1 (nI 1)))) H := hP
            have hD : va_D A (wMo mx cI cZ w (nI nz) q d (nI (nt + 1)) pr1 mw mt (upd zo nt (-1 : Int32)) ke wy st tr be ch (nI (as1 (nI 1)))) := hD
            refine lv_aload_n hx hb dX8_addTeam_70 rfl (lv_at hl 0 rfl) ?_
            refine va_get (D := D) (ci := 8) (v := .int (nI (nt + 1))) (C := RX8) (T := TX8) (N := 16) hx hb hts tu_X8 hown hSt.1 hP 0 rfl rfl 4 (by decide) (hts _ t3_224) (fun _ h9 => h9) rfl dX8_addTeam_71 ?_
            refine lv_iconst (v := nI 1) hx hb dX8_addTeam_74 (by decide) ?_
            refine r_subn hx hb (by omega) dX8_addTeam_75 ?_
            have hP9 : va_P D vwCl (wMo mx cI cZ w (nI nz) q d (nI (nt + 1)) pr1 mw mt (upd zo nt (-1 : Int32)) ke wy st tr be ch (nI (as1 (nI 1)))) H := hP
            have hD9 : va_D A (wMo mx cI cZ w (nI nz) q d (nI (nt + 1)) pr1 mw mt (upd zo nt (-1 : Int32)) ke wy st tr be ch (nI (as1 (nI 1)))) := hD
            have g_10 : sAddTeam nt P n (as1 (nI 1)) (nI ((nt + 1) - 1)) (nt + 1) (ub P nt (fun _ => nI 1)) (upd n nt (nI 1)) := Or.inr ⟨by omega, if_neg nI1, by rw [Nat.add_sub_cancel], rfl, rfl, rfl⟩
            have g_11 : ∀ t j, t < 7 → j < 5 → pr1 (5 * t + j) = (ub P nt (fun _ => nI 1)) t j := fun t i ht hi => by rw [hp1 t i ht hi]; unfold ub; by_cases e : t = nt; rw [if_pos ⟨e, by omega⟩, if_pos e]; rw [if_neg (fun q => e q.1), if_neg e]
            have g_12 : (upd zo nt (-1 : Int32)) = if (as1 (nI 1)) = 0 then upd zo nt (-1 : Int32) else zo := by rw [if_pos (show as1 (nI 1) = 0 from if_neg nI1)]
            exact W.iret (v := nI ((nt + 1) - 1)) hx hb hr (fun t9 ht9 hW9 => ⟨⟨nI ((nt + 1) - 1), (nI ((nt + 1) - 1), as1 (nI 1), pr1, upd zo nt (-1 : Int32), nt + 1, ub P nt (fun _ => nI 1), upd n nt (nI 1)), rfl, ⟨rfl, g_10, g_11, g_12⟩, by rw [ht9]; exact hP9, hD9⟩, hS.F ht9⟩) hS.2.2 dX8_addTeam_76
          · have c_9 := z_nle (by omega) (by omega) c_9
            refine lv_aload_n hx hb dX8_addTeam_30 rfl (lv_at hl 0 rfl) ?_
            refine va_get (D := D) (ci := 8) (v := .ref (mx 4)) (C := RX8) (T := TX8) (N := 16) hx hb hts tu_X8 hown hSt.1 hP 0 rfl rfl 5 (by decide) (hts _ t3_225) (fun _ h9 => h9) rfl dX8_addTeam_31 ?_
            refine lv_iconst (v := nI 5) hx hb dX8_addTeam_34 (by decide) ?_
            refine lv_aload_n hx hb dX8_addTeam_35 rfl (lv_at hl 0 rfl) ?_
            refine va_get (D := D) (ci := 8) (v := .int (nI nt)) (C := RX8) (T := TX8) (N := 16) hx hb hts tu_X8 hown hSt.1 hP 0 rfl rfl 4 (by decide) (hts _ t3_224) (fun _ h9 => h9) rfl dX8_addTeam_36 ?_
            refine r_muln hx hb dX8_addTeam_39 ?_
            refine lv_iload_n hx hb dX8_addTeam_40 rfl (lv_at hl 1 rfl) ?_
            refine r_addn hx hb dX8_addTeam_41 ?_
            refine lv_iconst (v := nI 1) hx hb dX8_addTeam_42 (by decide) ?_
            refine r_iast hx hb hSt.1 hP hD hS 4 0 rfl rfl (k := ((5 * nt) + j)) (by omega) (by omega) dX8_addTeam_43 (fun H locs hP hD hS => ?_)
            have hP : va_P D vwCl (wMo mx cI cZ w (nI nz) q d (nI nt) (upd pr1 ((5 * nt) + j) (nI 1)) mw mt zo ke wy st tr be ch (nI (as1 (nI 1)))) H := hP
            have hD : va_D A (wMo mx cI cZ w (nI nz) q d (nI nt) (upd pr1 ((5 * nt) + j) (nI 1)) mw mt zo ke wy st tr be ch (nI (as1 (nI 1)))) := hD
            refine lv_iinc (v := nI (j + 1)) (lv' := [(1, .int (nI (j + 1))), (0, .ref (mx 0))]) hx hb dX8_addTeam_44 hl (k := 1) rfl (z_inc _) (by decide) rfl (fun ls hl => ?_)
            refine lv_goto (tgt := 25) hx hb dX8_addTeam_47 (by decide) ?_
            exact ih_L25 (j + 1) (upd pr1 ((5 * nt) + j) (nI 1)) (by omega) (fun t i ht hi => pr_step hp1 t i ht hi (by omega)) (by omega) _ _ hP hD hS _ (lv_sub hl [1, 0] rfl)
      exact L25 _ 0 pr (by omega) (fun t i ht hi => by rw [if_neg (fun q => by omega)]; exact hpP t i ht hi) (Nat.lt_succ_self _) _ _ hP hD hS _ (lv_sub hl [1, 0] rfl)
    · exact absurd c_8 (by decide)
theorem hd_X8_setWall : yX8_setWall.cls = RX8 ∧ yX8_setWall.cls ≠ "java/lang/invoke/MethodHandle" ∧ yX8_setWall.cls ≠ "java/lang/invoke/VarHandle" ∧ (parseMethodDescriptor yX8_setWall.desc).map (fun d => d.parameters.length) = some 3 := by decide +kernel
theorem hd_X8_addZone : yX8_addZone.cls = RX8 ∧ yX8_addZone.cls ≠ "java/lang/invoke/MethodHandle" ∧ yX8_addZone.cls ≠ "java/lang/invoke/VarHandle" ∧ (parseMethodDescriptor yX8_addZone.desc).map (fun d => d.parameters.length) = some 3 := by decide +kernel
theorem hd_X8_setDesks : yX8_setDesks.cls = RX8 ∧ yX8_setDesks.cls ≠ "java/lang/invoke/MethodHandle" ∧ yX8_setDesks.cls ≠ "java/lang/invoke/VarHandle" ∧ (parseMethodDescriptor yX8_setDesks.desc).map (fun d => d.parameters.length) = some 2 := by decide +kernel
theorem hd_X8_addTeam : yX8_addTeam.cls = RX8 ∧ yX8_addTeam.cls ≠ "java/lang/invoke/MethodHandle" ∧ yX8_addTeam.cls ≠ "java/lang/invoke/VarHandle" ∧ (parseMethodDescriptor yX8_addTeam.desc).map (fun d => d.parameters.length) = some 0 := by decide +kernel
