set_option maxHeartbeats 4000000 in
set_option maxRecDepth 100000 in
/-- is there such a square -/
theorem c_X1_isSquare (l : Launch) (D : va_G) (cI cZ cQ cJ : ClassId) (co : Int32) (ro : Int32)  : Met l yX1_isSquare (.code yX1_isSquare cX1_isSquare 2 (some .boolean) :: ALL) ({ frames := 0, cells := 0, slots := 0, locals := 0 } : Room) (va_Pc [.int co, .int ro] (ro_P D cI cZ cQ cJ ([] : va_W))) (vp_Si (fun r9 => r9 = bI (inSq co ro))) 0 0 (fun _ => False) := by
  refine Met.ofW (cc := cX1_isSquare) (maxL := 2) (ret := (some .boolean)) (by decide) rfl ?_
  intro p e s m args below meth c s₁ B hml hv
  obtain ⟨rfl, hP, hSt⟩ := hv
  have hx := B.exec
  have hb := B.bytes
  have hr := B.returns
  have hts : ∀ w ∈ ALL, w.before ([.int co, .int ro] : List Value).toArray s = true := fun w h => atoms_spec (ws := (.code yX1_isSquare cX1_isSquare 2 (some .boolean) :: ALL)) B.pre w (List.mem_cons_of_mem _ h)
  have hown : s.vm.findClass RX1 = some m.cls := findClass_of_methodNamed B.named
  have hlocks := B.notSynchronized
  have hl := lv_entry ([.int co, .int ro]) (n := 2) (Nat.le_of_ble_eq_true rfl)
  rw [lg_entry_eq]
  generalize (lg_sl ([.int co, .int ro]) ++ List.replicate (2 - (lg_sl ([.int co, .int ro])).length) Slot.unset).toArray = ls at hl ⊢
  have hl : lv_has ls 2 [(0, .int co), (1, .int ro)] := hl
  refine lv_iload_n hx hb dX1_isSquare_0 rfl (lv_at hl 0 rfl) ?_
  refine lv_if_lt (tgt := 24) hx hb dX1_isSquare_1 (by decide) (fun c_1 => ?_) (fun c_1 => ?_)
  · refine lv_iconst (v := nI 0) hx hb dX1_isSquare_24 (by decide) ?_
    exact W.zret (v := nI 0) hx hb hr (rfl) (fun t9 ht9 hW9 => ⟨_, rfl, ((bI_f (fun q9 => q9.1.1.1 c_1)).symm), ht9⟩) (fun q h => nomatch h) dX1_isSquare_25
  · refine lv_iload_n hx hb dX1_isSquare_4 rfl (lv_at hl 0 rfl) ?_
    refine lv_bipush (v := nI 8) hx hb dX1_isSquare_5 (by decide) ?_
    refine lv_icmp_ge (tgt := 24) hx hb dX1_isSquare_7 (by decide) (fun c_2 => ?_) (fun c_2 => ?_)
    · refine lv_iconst (v := nI 0) hx hb dX1_isSquare_24 (by decide) ?_
      exact W.zret (v := nI 0) hx hb hr (rfl) (fun t9 ht9 hW9 => ⟨_, rfl, ((bI_f (fun q9 => q9.1.1.2 c_2)).symm), ht9⟩) (fun q h => nomatch h) dX1_isSquare_25
    · refine lv_iload_n hx hb dX1_isSquare_10 rfl (lv_at hl 1 rfl) ?_
      refine lv_if_lt (tgt := 24) hx hb dX1_isSquare_11 (by decide) (fun c_3 => ?_) (fun c_3 => ?_)
      · refine lv_iconst (v := nI 0) hx hb dX1_isSquare_24 (by decide) ?_
        exact W.zret (v := nI 0) hx hb hr (rfl) (fun t9 ht9 hW9 => ⟨_, rfl, ((bI_f (fun q9 => q9.1.2 c_3)).symm), ht9⟩) (fun q h => nomatch h) dX1_isSquare_25
      · refine lv_iload_n hx hb dX1_isSquare_14 rfl (lv_at hl 1 rfl) ?_
        refine lv_bipush (v := nI 8) hx hb dX1_isSquare_15 (by decide) ?_
        refine lv_icmp_ge (tgt := 24) hx hb dX1_isSquare_17 (by decide) (fun c_4 => ?_) (fun c_4 => ?_)
        · refine lv_iconst (v := nI 0) hx hb dX1_isSquare_24 (by decide) ?_
          exact W.zret (v := nI 0) hx hb hr (rfl) (fun t9 ht9 hW9 => ⟨_, rfl, ((bI_f (fun q9 => q9.2 c_4)).symm), ht9⟩) (fun q h => nomatch h) dX1_isSquare_25
        · refine lv_iconst (v := nI 1) hx hb dX1_isSquare_20 (by decide) ?_
          refine lv_goto (tgt := 25) hx hb dX1_isSquare_21 (by decide) ?_
          exact W.zret (v := nI 1) hx hb hr (rfl) (fun t9 ht9 hW9 => ⟨_, rfl, ((bI_t ⟨⟨⟨c_1, c_2⟩, c_3⟩, c_4⟩).symm), ht9⟩) (fun q h => nomatch h) dX1_isSquare_25
set_option maxHeartbeats 4000000 in
set_option maxRecDepth 100000 in
/-- the number of a square -/
theorem c_X1_squareAt (l : Launch) (D : va_G) (cI cZ cQ cJ : ClassId) (i : Nat) (j : Nat)  : Met l yX1_squareAt (.code yX1_squareAt cX1_squareAt 2 (some .int) :: ALL) ({ frames := 0, cells := 0, slots := 0, locals := 0 } : Room) (va_Pc [.int (nI i), .int (nI j)] (ro_P D cI cZ cQ cJ ([] : va_W))) (vp_Si (fun r9 => r9 = nI (j * 8 + i))) 0 0 (fun _ => False) := by
  refine Met.ofW (cc := cX1_squareAt) (maxL := 2) (ret := (some .int)) (by decide) rfl ?_
  intro p e s m args below meth c s₁ B hml hv
  obtain ⟨rfl, hP, hSt⟩ := hv
  have hx := B.exec
  have hb := B.bytes
  have hr := B.returns
  have hts : ∀ w ∈ ALL, w.before ([.int (nI i), .int (nI j)] : List Value).toArray s = true := fun w h => atoms_spec (ws := (.code yX1_squareAt cX1_squareAt 2 (some .int) :: ALL)) B.pre w (List.mem_cons_of_mem _ h)
  have hown : s.vm.findClass RX1 = some m.cls := findClass_of_methodNamed B.named
  have hlocks := B.notSynchronized
  have hl := lv_entry ([.int (nI i), .int (nI j)]) (n := 2) (Nat.le_of_ble_eq_true rfl)
  rw [lg_entry_eq]
  generalize (lg_sl ([.int (nI i), .int (nI j)]) ++ List.replicate (2 - (lg_sl ([.int (nI i), .int (nI j)])).length) Slot.unset).toArray = ls at hl ⊢
  have hl : lv_has ls 2 [(0, .int (nI i)), (1, .int (nI j))] := hl
  refine lv_iload_n hx hb dX1_squareAt_0 rfl (lv_at hl 1 rfl) ?_
  refine lv_bipush (v := nI 8) hx hb dX1_squareAt_1 (by decide) ?_
  refine r_muln hx hb dX1_squareAt_3 ?_
  refine lv_iload_n hx hb dX1_squareAt_4 rfl (lv_at hl 0 rfl) ?_
  refine r_addn hx hb dX1_squareAt_5 ?_
  exact W.iret (v := nI ((j * 8) + i)) hx hb hr (fun t9 ht9 hW9 => ⟨_, rfl, (rfl), ht9⟩) (fun q h => nomatch h) dX1_squareAt_6
theorem hd_X1_isSquare : yX1_isSquare.cls = RX1 ∧ yX1_isSquare.cls ≠ "java/lang/invoke/MethodHandle" ∧ yX1_isSquare.cls ≠ "java/lang/invoke/VarHandle" ∧ (parseMethodDescriptor yX1_isSquare.desc).map (fun d => d.parameters.length) = some 2 := by decide +kernel
theorem hd_X1_squareAt : yX1_squareAt.cls = RX1 ∧ yX1_squareAt.cls ≠ "java/lang/invoke/MethodHandle" ∧ yX1_squareAt.cls ≠ "java/lang/invoke/VarHandle" ∧ (parseMethodDescriptor yX1_squareAt.desc).map (fun d => d.parameters.length) = some 2 := by decide +kernel
set_option maxHeartbeats 4000000 in
set_option maxRecDepth 100000 in
/-- is there a wall -/
theorem c_X1_hasWall (l : Launch) (D : va_G) (cI cZ cQ cJ : ClassId) (x : Nat → Nat) (r : Nat → Nat) (w : Nat → Int32) (q : Nat → Int32) (d : Nat → Int32) (T : Nat → Nat → Int32) (st : Nat → Int32) (re : Nat → Int32) (rc : Int32) (nz : Int32) (i : Nat) (j : Nat) (hi : i < 8) (hj : j < 8) (hw : ∀ k, k < 64 → w k = 0 ∨ w k = 1) : Met l yX1_hasWall (.code yX1_hasWall cX1_hasWall 3 (some .boolean) :: ALL) ({ frames := 1, cells := 0, slots := 0, locals := 21 } : Room) (va_Pc [.ref (x 0), .int (nI i), .int (nI j)] (ro_P D cI cZ cQ cJ (wFl x r cI cZ cQ w q d T st re rc nz))) (vp_Si (fun r9 => r9 = w (j * 8 + i))) 0 0 (fun _ => False) := by
  refine Met.ofW (cc := cX1_hasWall) (maxL := 3) (ret := (some .boolean)) (by decide) rfl ?_
  intro p e s m args below meth c s₁ B hml hv
  obtain ⟨rfl, hP, hSt⟩ := hv
  have hx := B.exec
  have hb := B.bytes
  have hr := B.returns
  have hts : ∀ w ∈ ALL, w.before ([.ref (x 0), .int (nI i), .int (nI j)] : List Value).toArray s = true := fun w h => atoms_spec (ws := (.code yX1_hasWall cX1_hasWall 3 (some .boolean) :: ALL)) B.pre w (List.mem_cons_of_mem _ h)
  have hown : s.vm.findClass RX1 = some m.cls := findClass_of_methodNamed B.named
  have hlocks := B.notSynchronized
  have hl := lv_entry ([.ref (x 0), .int (nI i), .int (nI j)]) (n := 3) (Nat.le_of_ble_eq_true rfl)
  rw [lg_entry_eq]
  generalize (lg_sl ([.ref (x 0), .int (nI i), .int (nI j)]) ++ List.replicate (3 - (lg_sl ([.ref (x 0), .int (nI i), .int (nI j)])).length) Slot.unset).toArray = ls at hl ⊢
  have hl : lv_has ls 3 [(0, .ref (x 0)), (1, .int (nI i)), (2, .int (nI j))] := hl
  refine lv_aload_n hx hb dX1_hasWall_0 rfl (lv_at hl 0 rfl) ?_
  refine va_get (D := D) (ci := 1) (v := .ref (x 1)) (C := RX1) (T := TX1) (N := 8) hx hb hts tu_X1 hown hSt.1 hP 0 rfl rfl 0 (by decide) (hts _ t1_40) (fun _ h9 => h9) rfl dX1_hasWall_1 ?_
  refine lv_iload_n hx hb dX1_hasWall_4 rfl (lv_at hl 1 rfl) ?_
  refine lv_iload_n hx hb dX1_hasWall_5 rfl (lv_at hl 2 rfl) ?_
  refine ro_S (As := [.int (nI i), .int (nI j)]) (rest := [.ref (x 1)]) (v := nI (j * 8 + i)) ⟨hx, hb, hml, hown, hts⟩ (c_X1_squareAt l D cI cZ cQ cJ i j) (gS t2_132 t2_133 t1_3 t2_134) rfl rfl hd_X1_squareAt ⟨Nat.le_of_ble_eq_true rfl, Nat.le_of_ble_eq_true rfl⟩ va_P_nil hSt rfl hl.1 rfl (Nat.le_of_ble_eq_true rfl) dX1_hasWall_6 (Nat.zero_le _) (Nat.zero_le _) ?_
  refine r_zald hx hb hSt.1 hP 1 1 rfl rfl (k := (j * 8 + i)) (by omega) (by omega) dX1_hasWall_9 ?_
  exact W.zret (v := w (j * 8 + i)) hx hb hr (b01_nar' (hw _ (by omega))) (fun t9 ht9 hW9 => ⟨_, rfl, (rfl), ht9⟩) (fun q h => nomatch h) dX1_hasWall_10
set_option maxHeartbeats 4000000 in
set_option maxRecDepth 100000 in
/-- is there a zone at the square -/
theorem c_X1_hasZone (l : Launch) (D : va_G) (cI cZ cQ cJ : ClassId) (x : Nat → Nat) (r : Nat → Nat) (w : Nat → Int32) (q : Nat → Int32) (d : Nat → Int32) (T : Nat → Nat → Int32) (st : Nat → Int32) (re : Nat → Int32) (rc : Int32) (nz : Nat) (i : Nat) (j : Nat) (hi : i < 8) (hj : j < 8) (hn : nz ≤ 7) : Met l yX1_hasZone (.code yX1_hasZone cX1_hasZone 5 (some .boolean) :: ALL) ({ frames := 1, cells := 0, slots := 0, locals := 21 } : Room) (va_Pc [.ref (x 0), .int (nI i), .int (nI j)] (ro_P D cI cZ cQ cJ (wFl x r cI cZ cQ w q d T st re rc (nI nz)))) (vp_Si (fun r9 => r9 = bI (anyN (fun k => decide (q k = nI (j * 8 + i))) nz = true))) 0 0 (fun _ => False) := by
  refine Met.ofW (cc := cX1_hasZone) (maxL := 5) (ret := (some .boolean)) (by decide) rfl ?_
  intro p e s m args below meth c s₁ B hml hv
  obtain ⟨rfl, hP, hSt⟩ := hv
  have hx := B.exec
  have hb := B.bytes
  have hr := B.returns
  have hts : ∀ w ∈ ALL, w.before ([.ref (x 0), .int (nI i), .int (nI j)] : List Value).toArray s = true := fun w h => atoms_spec (ws := (.code yX1_hasZone cX1_hasZone 5 (some .boolean) :: ALL)) B.pre w (List.mem_cons_of_mem _ h)
  have hown : s.vm.findClass RX1 = some m.cls := findClass_of_methodNamed B.named
  have hlocks := B.notSynchronized
  have hl := lv_entry ([.ref (x 0), .int (nI i), .int (nI j)]) (n := 5) (Nat.le_of_ble_eq_true rfl)
  rw [lg_entry_eq]
  generalize (lg_sl ([.ref (x 0), .int (nI i), .int (nI j)]) ++ List.replicate (5 - (lg_sl ([.ref (x 0), .int (nI i), .int (nI j)])).length) Slot.unset).toArray = ls at hl ⊢
  have hl : lv_has ls 5 [(0, .ref (x 0)), (1, .int (nI i)), (2, .int (nI j))] := hl
  refine lv_iload_n hx hb dX1_hasZone_0 rfl (lv_at hl 1 rfl) ?_
  refine lv_iload_n hx hb dX1_hasZone_1 rfl (lv_at hl 2 rfl) ?_
  refine ro_S (As := [.int (nI i), .int (nI j)]) (rest := []) (v := nI (j * 8 + i)) ⟨hx, hb, hml, hown, hts⟩ (c_X1_squareAt l D cI cZ cQ cJ i j) (gS t2_132 t2_133 t1_3 t2_134) rfl rfl hd_X1_squareAt ⟨Nat.le_of_ble_eq_true rfl, Nat.le_of_ble_eq_true rfl⟩ va_P_nil hSt rfl hl.1 rfl (Nat.le_of_ble_eq_true rfl) dX1_hasZone_2 (Nat.zero_le _) (Nat.zero_le _) ?_
  refine lv_istore_n (lv' := [(3, .int (nI (j * 8 + i))), (0, .ref (x 0)), (1, .int (nI i)), (2, .int (nI j))]) hx hb dX1_hasZone_5 rfl hl (by decide) rfl (fun ls hl => ?_)
  refine lv_iconst (v := nI 0) hx hb dX1_hasZone_6 (by decide) ?_
  refine lv_istore (lv' := [(4, .int (nI 0)), (3, .int (nI (j * 8 + i))), (0, .ref (x 0)), (1, .int (nI i)), (2, .int (nI j))]) hx hb dX1_hasZone_7 hl (by decide) rfl (fun ls hl => ?_)
  have L9 : ∀ (n : Nat) (o : Nat), (o ≤ nz) → (anyN (fun k => decide (q k = nI (j * 8 + i))) o = false) → (nz - o) < n → ∀ (ls : Array Slot), lv_has ls 5 [(0, .ref (x 0)), (3, .int (nI (j * 8 + i))), (4, .int (nI o))] → W p l e ({ frames := 1, cells := 0, slots := 0, locals := 21 } : Room) s m ([.ref (x 0), .int (nI i), .int (nI j)] : List Value).toArray below meth c s.heap [] 0 0 (MQ below (vp_Si (fun r9 => r9 = bI (anyN (fun k => decide (q k = nI (j * 8 + i))) nz = true))) ([.ref (x 0), .int (nI i), .int (nI j)] : List Value).toArray s 0 0 (fun _ => False)) (F0 m 9 ls []) := by
    intro n
    induction n with
    | zero =>
      intro o ho hb9 hm
      exact absurd hm (by omega)
    | succ n ih =>
      intro o ho hb9 hm ls hl
      have ih_L9 := ih
      refine lv_iload hx hb dX1_hasZone_9 (lv_at hl 2 rfl) ?_
      refine lv_aload_n hx hb dX1_hasZone_11 rfl (lv_at hl 0 rfl) ?_
      refine va_get (D := D) (ci := 1) (v := .int (nI nz)) (C := RX1) (T := TX1) (N := 8) hx hb hts tu_X1 hown hSt.1 hP 0 rfl rfl 7 (by decide) (hts _ t1_51) (fun _ h9 => h9) rfl dX1_hasZone_12 ?_
      refine lv_icmp_ge (tgt := 37) hx hb dX1_hasZone_15 (by decide) (fun c_1 => ?_) (fun c_1 => ?_)
      · have c_1 := z_le (by omega) (by omega) c_1
        refine lv_iconst (v := nI 0) hx hb dX1_hasZone_37 (by decide) ?_
        exact W.zret (v := nI 0) hx hb hr (rfl) (fun t9 ht9 hW9 => ⟨_, rfl, ((bI_f (by rw [show nz = o by omega, hb9]; decide)).symm), ht9⟩) (fun q h => nomatch h) dX1_hasZone_38
      · have c_1 := z_nle (by omega) (by omega) c_1
        refine lv_aload_n hx hb dX1_hasZone_18 rfl (lv_at hl 0 rfl) ?_
        refine va_get (D := D) (ci := 1) (v := .ref (x 2)) (C := RX1) (T := TX1) (N := 8) hx hb hts tu_X1 hown hSt.1 hP 0 rfl rfl 1 (by decide) (hts _ t1_41) (fun _ h9 => h9) rfl dX1_hasZone_19 ?_
        refine lv_iload hx hb dX1_hasZone_22 (lv_at hl 2 rfl) ?_
        refine r_iald hx hb hSt.1 hP 2 0 rfl rfl (k := o) (by omega) (by omega) dX1_hasZone_24 ?_
        refine lv_iload_n hx hb dX1_hasZone_25 rfl (lv_at hl 1 rfl) ?_
        refine lv_icmp_ne (tgt := 31) hx hb dX1_hasZone_26 (by decide) (fun c_2 => ?_) (fun c_2 => ?_)
        · refine lv_iinc (v := nI (o + 1)) (lv' := [(4, .int (nI (o + 1))), (0, .ref (x 0)), (3, .int (nI (j * 8 + i)))]) hx hb dX1_hasZone_31 hl (k := 2) rfl (z_inc _) (by decide) rfl (fun ls hl => ?_)
          refine lv_goto (tgt := 9) hx hb dX1_hasZone_34 (by decide) ?_
          exact ih_L9 (o + 1) (by omega) (by simp [anyN, hb9, c_2]) (by omega) _ (lv_sub hl [1, 2, 0] rfl)
        · refine lv_iconst (v := nI 1) hx hb dX1_hasZone_29 (by decide) ?_
          exact W.zret (v := nI 1) hx hb hr (rfl) (fun t9 ht9 hW9 => ⟨_, rfl, ((bI_t (anyN_iff.mpr ⟨o, by omega, by simp [c_2]⟩)).symm), ht9⟩) (fun q h => nomatch h) dX1_hasZone_30
  exact L9 _ 0 (by omega) rfl (Nat.lt_succ_self _) _ (lv_sub hl [2, 1, 0] rfl)
set_option maxHeartbeats 4000000 in
set_option maxRecDepth 100000 in
/-- a square is reached, if it may be -/
theorem c_X1_reach (l : Launch) (D : va_G) (cI cZ cQ cJ : ClassId) (x : Nat → Nat) (r : Nat → Nat) (w : Nat → Int32) (q : Nat → Int32) (d : Nat → Int32) (T : Nat → Nat → Int32) (st : Nat → Int32) (re : Nat → Int32) (rc : Nat) (nz : Int32) (co : Int32) (ro : Int32) (v : Int32) (sz : Nat) (hrc : rc ≤ 64) : Met l yX1_reach (.code yX1_reach cX1_reach 5 none :: ALL) ({ frames := 1, cells := 0, slots := 0, locals := 21 } : Room) (va_Pc [.ref (x 0), .int co, .int ro, .int v] (rw_P D cI cZ cQ cJ (wFl x r cI cZ cQ w q d T st re (nI rc) nz) sz)) (va_Qv (fun u9 : (Nat → Int32) × (Nat → Int32) × Nat => (RS w co ro v st re rc u9.1 u9.2.1 u9.2.2) ∧ (u9.2.2 ≤ 64)) (rw_B D (va_A (wFl x r cI cZ cQ w q d T st re (nI rc) nz) sz) (fun u9 : (Nat → Int32) × (Nat → Int32) × Nat => wFl x r cI cZ cQ w q d T u9.1 u9.2.1 (nI u9.2.2) nz)) (va_A (wFl x r cI cZ cQ w q d T st re (nI rc) nz) sz)) 0 0 (va_A (wFl x r cI cZ cQ w q d T st re (nI rc) nz) sz) := by
  refine Met.ofW (cc := cX1_reach) (maxL := 5) (ret := none) (by decide) rfl ?_
  intro p e s m args below meth c s₁ B hml hv
  obtain ⟨rfl, hsz, hP, hSt, hD0⟩ := hv
  have hx := B.exec
  have hb := B.bytes
  have hr := B.returns
  have hts : ∀ w ∈ ALL, w.before ([.ref (x 0), .int co, .int ro, .int v] : List Value).toArray s = true := fun w h => atoms_spec (ws := (.code yX1_reach cX1_reach 5 none :: ALL)) B.pre w (List.mem_cons_of_mem _ h)
  have hown : s.vm.findClass RX1 = some m.cls := findClass_of_methodNamed B.named
  have hlocks := B.notSynchronized
  subst hsz
  have hD := hD0.self (sz := s.heap.size)
  clear hD0
  generalize hAe : va_A (wFl x r cI cZ cQ w q d T st re (nI rc) nz) s.heap.size = A at hD ⊢
  have hA : ∀ q : Nat, s.heap.size ≤ q → A q := fun q h => by rw [← hAe]; exact Or.inr h
  have hS : va_S A s.heap s.heap [] := va_S.rf
  have hl := lv_entry ([.ref (x 0), .int co, .int ro, .int v]) (n := 5) (Nat.le_of_ble_eq_true rfl)
  rw [lg_entry_eq]
  generalize (lg_sl ([.ref (x 0), .int co, .int ro, .int v]) ++ List.replicate (5 - (lg_sl ([.ref (x 0), .int co, .int ro, .int v])).length) Slot.unset).toArray = ls at hl ⊢
  have hl : lv_has ls 5 [(0, .ref (x 0)), (1, .int co), (2, .int ro), (3, .int v)] := hl
  obtain ⟨H, hHe⟩ : ∃ H : Heap, H = s.heap := ⟨_, rfl⟩
  obtain ⟨locs, hLe⟩ : ∃ L : List Loc, L = [] := ⟨_, rfl⟩
  have hP : va_P D vwCl (wFl x r cI cZ cQ w q d T st re (nI rc) nz) H := by rw [hHe]; exact hP
  have hS : va_S A s.heap H locs := by rw [hHe, hLe]; exact hS
  refine W.eqHL hHe hLe ?_
  refine lv_iload_n hx hb dX1_reach_0 rfl (lv_at hl 1 rfl) ?_
  refine lv_iload_n hx hb dX1_reach_1 rfl (lv_at hl 2 rfl) ?_
  refine ro_S (As := [.int co, .int ro]) (rest := []) (v := bI (inSq co ro)) ⟨hx, hb, hml, hown, hts⟩ (c_X1_isSquare l D cI cZ cQ cJ co ro) (gS t2_168 t2_58 t1_3 t2_59) rfl rfl hd_X1_isSquare ⟨Nat.le_of_ble_eq_true rfl, Nat.le_of_ble_eq_true rfl⟩ va_P_nil hSt rfl hl.1 rfl (Nat.le_of_ble_eq_true rfl) dX1_reach_2 (Nat.zero_le _) (Nat.zero_le _) ?_
  refine lv_if_eq (tgt := 17) hx hb dX1_reach_5 (by decide) (fun c_1 => ?_) (fun c_1 => ?_)
  · have c_1 := bI_0.mp c_1
    have hP9 : va_P D vwCl (wFl x r cI cZ cQ w q d T st re (nI rc) nz) H := hP
    have hD9 : va_D A (wFl x r cI cZ cQ w q d T st re (nI rc) nz) := hD
    have g_2 : RS w co ro v st re rc st re rc := Or.inr ⟨fun q9 => c_1 q9.1, rfl, rfl, rfl⟩
    have g_3 : rc ≤ 64 := by omega
    exact W.vret hx hb hr (fun t9 ht9 hW9 => ⟨⟨(st, re, rc), rfl, ⟨g_2, g_3⟩, by rw [ht9]; exact hP9, hD9⟩, hS.F ht9⟩) hS.2.2 dX1_reach_17
  · have c_1 := bI_n0.mp c_1
    obtain ⟨i0, j0, hi0, hj0, rfl, rfl⟩ := inSq_nat c_1
    have e9 : sqI (nI i0) (nI j0) = j0 * 8 + i0 := sqI_nat (by omega) (by omega)
    refine lv_aload_n hx hb dX1_reach_8 rfl (lv_at hl 0 rfl) ?_
    refine va_get (D := D) (ci := 1) (v := .int (nI rc)) (C := RX1) (T := TX1) (N := 8) hx hb hts tu_X1 hown hSt.1 hP 0 rfl rfl 6 (by decide) (hts _ t1_50) (fun _ h9 => h9) rfl dX1_reach_9 ?_
    refine lv_bipush (v := nI 64) hx hb dX1_reach_12 (by decide) ?_
    refine lv_icmp_lt (tgt := 18) hx hb dX1_reach_14 (by decide) (fun c_4 => ?_) (fun c_4 => ?_)
    · have c_4 := z_lt (by omega) (by omega) c_4
      refine lv_iload_n hx hb dX1_reach_18 rfl (lv_at hl 1 rfl) ?_
      refine lv_iload_n hx hb dX1_reach_19 rfl (lv_at hl 2 rfl) ?_
      refine ro_S (As := [.int (nI i0), .int (nI j0)]) (rest := []) (v := nI (j0 * 8 + i0)) ⟨hx, hb, hml, hown, hts⟩ (c_X1_squareAt l D cI cZ cQ cJ i0 j0) (gS t2_132 t2_133 t1_3 t2_134) rfl rfl hd_X1_squareAt ⟨Nat.le_of_ble_eq_true rfl, Nat.le_of_ble_eq_true rfl⟩ va_P_nil hSt rfl hl.1 rfl (Nat.le_of_ble_eq_true rfl) dX1_reach_20 (Nat.zero_le _) (Nat.zero_le _) ?_
      refine lv_istore (lv' := [(4, .int (nI (j0 * 8 + i0))), (0, .ref (x 0)), (1, .int (nI i0)), (2, .int (nI j0)), (3, .int v)]) hx hb dX1_reach_23 hl (by decide) rfl (fun ls hl => ?_)
      refine lv_aload_n hx hb dX1_reach_25 rfl (lv_at hl 1 rfl) ?_
      refine va_get (D := D) (ci := 1) (v := .ref (x 1)) (C := RX1) (T := TX1) (N := 8) hx hb hts tu_X1 hown hSt.1 hP 0 rfl rfl 0 (by decide) (hts _ t1_40) (fun _ h9 => h9) rfl dX1_reach_26 ?_
      refine lv_iload hx hb dX1_reach_29 (lv_at hl 0 rfl) ?_
      refine r_zald hx hb hSt.1 hP 1 1 rfl rfl (k := (j0 * 8 + i0)) (by omega) (by omega) dX1_reach_31 ?_
      refine lv_if_ne (tgt := 47) hx hb dX1_reach_32 (by decide) (fun c_5 => ?_) (fun c_5 => ?_)
      · have hP9 : va_P D vwCl (wFl x r cI cZ cQ w q d T st re (nI rc) nz) H := hP
        have hD9 : va_D A (wFl x r cI cZ cQ w q d T st re (nI rc) nz) := hD
        have g_6 : RS w (nI i0) (nI j0) v st re rc st re rc := Or.inr ⟨fun q9 => by have h9 := q9.2.2.1; rw [e9] at h9; exact c_5 h9, rfl, rfl, rfl⟩
        have g_7 : rc ≤ 64 := by omega
        exact W.vret hx hb hr (fun t9 ht9 hW9 => ⟨⟨(st, re, rc), rfl, ⟨g_6, g_7⟩, by rw [ht9]; exact hP9, hD9⟩, hS.F ht9⟩) hS.2.2 dX1_reach_47
      · refine lv_aload_n hx hb dX1_reach_35 rfl (lv_at hl 1 rfl) ?_
        refine va_get (D := D) (ci := 1) (v := .ref (x 5)) (C := RX1) (T := TX1) (N := 8) hx hb hts tu_X1 hown hSt.1 hP 0 rfl rfl 4 (by decide) (hts _ t1_48) (fun _ h9 => h9) rfl dX1_reach_36 ?_
        refine lv_iload hx hb dX1_reach_39 (lv_at hl 0 rfl) ?_
        refine r_iald hx hb hSt.1 hP 5 0 rfl rfl (k := (j0 * 8 + i0)) (by omega) (by omega) dX1_reach_41 ?_
        refine lv_bipush (v := nI 100) hx hb dX1_reach_42 (by decide) ?_
        refine lv_icmp_eq (tgt := 48) hx hb dX1_reach_44 (by decide) (fun c_8 => ?_) (fun c_8 => ?_)
        · refine lv_aload_n hx hb dX1_reach_48 rfl (lv_at hl 1 rfl) ?_
          refine va_get (D := D) (ci := 1) (v := .ref (x 5)) (C := RX1) (T := TX1) (N := 8) hx hb hts tu_X1 hown hSt.1 hP 0 rfl rfl 4 (by decide) (hts _ t1_48) (fun _ h9 => h9) rfl dX1_reach_49 ?_
          refine lv_iload hx hb dX1_reach_52 (lv_at hl 0 rfl) ?_
          refine lv_iload_n hx hb dX1_reach_54 rfl (lv_at hl 4 rfl) ?_
          refine r_iast hx hb hSt.1 hP hD hS 5 0 rfl rfl (k := (j0 * 8 + i0)) (by omega) (by omega) dX1_reach_55 (fun H locs hP hD hS => ?_)
          have hP : va_P D vwCl (wFl x r cI cZ cQ w q d T (upd st (j0 * 8 + i0) v) re (nI rc) nz) H := hP
          have hD : va_D A (wFl x r cI cZ cQ w q d T (upd st (j0 * 8 + i0) v) re (nI rc) nz) := hD
          refine lv_aload_n hx hb dX1_reach_56 rfl (lv_at hl 1 rfl) ?_
          refine va_get (D := D) (ci := 1) (v := .ref (x 6)) (C := RX1) (T := TX1) (N := 8) hx hb hts tu_X1 hown hSt.1 hP 0 rfl rfl 5 (by decide) (hts _ t1_49) (fun _ h9 => h9) rfl dX1_reach_57 ?_
          refine lv_aload_n hx hb dX1_reach_60 rfl (lv_at hl 1 rfl) ?_
          refine va_get (D := D) (ci := 1) (v := .int (nI rc)) (C := RX1) (T := TX1) (N := 8) hx hb hts tu_X1 hown hSt.1 hP 0 rfl rfl 6 (by decide) (hts _ t1_50) (fun _ h9 => h9) rfl dX1_reach_61 ?_
          refine lv_iload hx hb dX1_reach_64 (lv_at hl 0 rfl) ?_
          refine r_iast hx hb hSt.1 hP hD hS 6 0 rfl rfl (k := rc) (by omega) (by omega) dX1_reach_66 (fun H locs hP hD hS => ?_)
          have hP : va_P D vwCl (wFl x r cI cZ cQ w q d T (upd st (j0 * 8 + i0) v) (upd re rc (nI (j0 * 8 + i0))) (nI rc) nz) H := hP
          have hD : va_D A (wFl x r cI cZ cQ w q d T (upd st (j0 * 8 + i0) v) (upd re rc (nI (j0 * 8 + i0))) (nI rc) nz) := hD
          refine lv_aload_n hx hb dX1_reach_67 rfl (lv_at hl 1 rfl) ?_
          refine lv_dup hx hb dX1_reach_68 rfl ?_
          refine va_get (D := D) (ci := 1) (v := .int (nI rc)) (C := RX1) (T := TX1) (N := 8) hx hb hts tu_X1 hown hSt.1 hP 0 rfl rfl 6 (by decide) (hts _ t1_50) (fun _ h9 => h9) rfl dX1_reach_69 ?_
          refine lv_iconst (v := nI 1) hx hb dX1_reach_72 (by decide) ?_
          refine r_addn hx hb dX1_reach_73 ?_
          refine va_put (D := D) (ci := 1) (v := .int (nI (rc + 1))) (ty := .int) (C := RX1) (T := TX1) (N := 8) hx hb hts tu_X1 tyX1 tyX1_ok nmX1 hown hSt.1 hP hD hS 0 rfl rfl 6 (by decide) (hts _ t1_50) (fun _ h9 => h9) rfl (by decide +kernel) rfl rfl (Nat.le_of_ble_eq_true rfl) dX1_reach_74 (fun H locs hP hD hS => ?_)
          have hP : va_P D vwCl (wFl x r cI cZ cQ w q d T (upd st (j0 * 8 + i0) v) (upd re rc (nI (j0 * 8 + i0))) (nI (rc + 1)) nz) H := hP
          have hD : va_D A (wFl x r cI cZ cQ w q d T (upd st (j0 * 8 + i0) v) (upd re rc (nI (j0 * 8 + i0))) (nI (rc + 1)) nz) := hD
          have hP9 : va_P D vwCl (wFl x r cI cZ cQ w q d T (upd st (j0 * 8 + i0) v) (upd re rc (nI (j0 * 8 + i0))) (nI (rc + 1)) nz) H := hP
          have hD9 : va_D A (wFl x r cI cZ cQ w q d T (upd st (j0 * 8 + i0) v) (upd re rc (nI (j0 * 8 + i0))) (nI (rc + 1)) nz) := hD
          have g_9 : RS w (nI i0) (nI j0) v st re rc (upd st (j0 * 8 + i0) v) (upd re rc (nI (j0 * 8 + i0))) (rc + 1) := Or.inl ⟨⟨c_1, c_4, by rw [e9]; exact c_5, by rw [e9]; exact c_8⟩, by rw [e9], by rw [e9], rfl⟩
          have g_10 : (rc + 1) ≤ 64 := by omega
          exact W.vret hx hb hr (fun t9 ht9 hW9 => ⟨⟨(upd st (j0 * 8 + i0) v, upd re rc (nI (j0 * 8 + i0)), rc + 1), rfl, ⟨g_9, g_10⟩, by rw [ht9]; exact hP9, hD9⟩, hS.F ht9⟩) hS.2.2 dX1_reach_77
        · have hP9 : va_P D vwCl (wFl x r cI cZ cQ w q d T st re (nI rc) nz) H := hP
          have hD9 : va_D A (wFl x r cI cZ cQ w q d T st re (nI rc) nz) := hD
          have g_11 : RS w (nI i0) (nI j0) v st re rc st re rc := Or.inr ⟨fun q9 => by have h9 := q9.2.2.2; rw [e9] at h9; exact c_8 h9, rfl, rfl, rfl⟩
          have g_12 : rc ≤ 64 := by omega
          exact W.vret hx hb hr (fun t9 ht9 hW9 => ⟨⟨(st, re, rc), rfl, ⟨g_11, g_12⟩, by rw [ht9]; exact hP9, hD9⟩, hS.F ht9⟩) hS.2.2 dX1_reach_47
    · have c_4 := z_nlt (by omega) (by omega) c_4
      have hP9 : va_P D vwCl (wFl x r cI cZ cQ w q d T st re (nI rc) nz) H := hP
      have hD9 : va_D A (wFl x r cI cZ cQ w q d T st re (nI rc) nz) := hD
      have g_13 : RS w (nI i0) (nI j0) v st re rc st re rc := Or.inr ⟨fun q9 => by have := q9.2.1; omega, rfl, rfl, rfl⟩
      have g_14 : rc ≤ 64 := by omega
      exact W.vret hx hb hr (fun t9 ht9 hW9 => ⟨⟨(st, re, rc), rfl, ⟨g_13, g_14⟩, by rw [ht9]; exact hP9, hD9⟩, hS.F ht9⟩) hS.2.2 dX1_reach_17
theorem hd_X1_hasWall : yX1_hasWall.cls = RX1 ∧ yX1_hasWall.cls ≠ "java/lang/invoke/MethodHandle" ∧ yX1_hasWall.cls ≠ "java/lang/invoke/VarHandle" ∧ (parseMethodDescriptor yX1_hasWall.desc).map (fun d => d.parameters.length) = some 2 := by decide +kernel
theorem hd_X1_hasZone : yX1_hasZone.cls = RX1 ∧ yX1_hasZone.cls ≠ "java/lang/invoke/MethodHandle" ∧ yX1_hasZone.cls ≠ "java/lang/invoke/VarHandle" ∧ (parseMethodDescriptor yX1_hasZone.desc).map (fun d => d.parameters.length) = some 2 := by decide +kernel
theorem hd_X1_reach : yX1_reach.cls = RX1 ∧ yX1_reach.cls ≠ "java/lang/invoke/MethodHandle" ∧ yX1_reach.cls ≠ "java/lang/invoke/VarHandle" ∧ (parseMethodDescriptor yX1_reach.desc).map (fun d => d.parameters.length) = some 3 := by decide +kernel
set_option maxHeartbeats 4000000 in
set_option maxRecDepth 100000 in
/-- the ways from a zone -/
theorem c_X1_measureFrom (l : Launch) (D : va_G) (cI cZ cQ cJ : ClassId) (x : Nat → Nat) (r : Nat → Nat) (w : Nat → Int32) (q : Nat → Int32) (d : Nat → Int32) (T : Nat → Nat → Int32) (st : Nat → Int32) (re : Nat → Int32) (rc : Int32) (sq : Nat → Nat) (nz : Nat) (z : Nat) (sz : Nat) (hz : z < nz) (hn : nz ≤ 7) (hq : ∀ o, o < nz → q o = nI (sq o) ∧ sq o < 64 ∧ w (sq o) = 0) : Met l yX1_measureFrom (.code yX1_measureFrom cX1_measureFrom 6 none :: ALL) ({ frames := 2, cells := 0, slots := 0, locals := 45 } : Room) (va_Pc [.ref (x 0), .int (nI z)] (rw_P D cI cZ cQ cJ (wFl x r cI cZ cQ w q d T st re rc (nI nz)) sz)) (va_Qv (fun u9 : (Nat → Nat → Int32) × (Nat → Int32) × (Nat → Int32) × Int32 => (∀ v, v < nz → isD w (sq z) (sq v) (u9.1 z v)) ∧ (∀ u v, ¬ (u = z ∧ v < nz) → u9.1 u v = T u v)) (rw_B D (va_A (wFl x r cI cZ cQ w q d T st re rc (nI nz)) sz) (fun u9 : (Nat → Nat → Int32) × (Nat → Int32) × (Nat → Int32) × Int32 => wFl x r cI cZ cQ w q d u9.1 u9.2.1 u9.2.2.1 u9.2.2.2 (nI nz))) (va_A (wFl x r cI cZ cQ w q d T st re rc (nI nz)) sz)) 0 0 (va_A (wFl x r cI cZ cQ w q d T st re rc (nI nz)) sz) := by
  refine Met.ofW (cc := cX1_measureFrom) (maxL := 6) (ret := none) (by decide) rfl ?_
  intro p e s m args below meth c s₁ B hml hv
  obtain ⟨rfl, hsz, hP, hSt, hD0⟩ := hv
  have hx := B.exec
  have hb := B.bytes
  have hr := B.returns
  have hts : ∀ w ∈ ALL, w.before ([.ref (x 0), .int (nI z)] : List Value).toArray s = true := fun w h => atoms_spec (ws := (.code yX1_measureFrom cX1_measureFrom 6 none :: ALL)) B.pre w (List.mem_cons_of_mem _ h)
  have hown : s.vm.findClass RX1 = some m.cls := findClass_of_methodNamed B.named
  have hlocks := B.notSynchronized
  subst hsz
  have hD := hD0.self (sz := s.heap.size)
  clear hD0
  generalize hAe : va_A (wFl x r cI cZ cQ w q d T st re rc (nI nz)) s.heap.size = A at hD ⊢
  have hA : ∀ q : Nat, s.heap.size ≤ q → A q := fun q h => by rw [← hAe]; exact Or.inr h
  have hS : va_S A s.heap s.heap [] := va_S.rf
  have hl := lv_entry ([.ref (x 0), .int (nI z)]) (n := 6) (Nat.le_of_ble_eq_true rfl)
  rw [lg_entry_eq]
  generalize (lg_sl ([.ref (x 0), .int (nI z)]) ++ List.replicate (6 - (lg_sl ([.ref (x 0), .int (nI z)])).length) Slot.unset).toArray = ls at hl ⊢
  have hl : lv_has ls 6 [(0, .ref (x 0)), (1, .int (nI z))] := hl
  obtain ⟨H, hHe⟩ : ∃ H : Heap, H = s.heap := ⟨_, rfl⟩
  obtain ⟨locs, hLe⟩ : ∃ L : List Loc, L = [] := ⟨_, rfl⟩
  have hP : va_P D vwCl (wFl x r cI cZ cQ w q d T st re rc (nI nz)) H := by rw [hHe]; exact hP
  have hS : va_S A s.heap H locs := by rw [hHe, hLe]; exact hS
  refine W.eqHL hHe hLe ?_
  have hqz := hq z hz
  have hqz2 := hqz.2.1
  refine lv_aload_n hx hb dX1_measureFrom_0 rfl (lv_at hl 0 rfl) ?_
  refine va_get (D := D) (ci := 1) (v := .ref (x 5)) (C := RX1) (T := TX1) (N := 8) hx hb hts tu_X1 hown hSt.1 hP 0 rfl rfl 4 (by decide) (hts _ t1_48) (fun _ h9 => h9) rfl dX1_measureFrom_1 ?_
  refine lv_bipush (v := nI 100) hx hb dX1_measureFrom_4 (by decide) ?_
  refine rw_v (wr := (([((x 0), .inr (1, [.ref (x 1), .ref (x 2), .ref (x 3), .ref (x 4), .ref (x 5), .ref (x 6), .int rc, .int (nI nz)])), ((x 1), .inl (cZ, 64, .inl w)), ((x 2), .inl (cI, 7, .inl q)), ((x 3), .inl (cI, 7, .inl d)), rq (x 4) cQ r, ((x 6), .inl (cI, 64, .inl re))] : va_W) ++ (rb r cI 7 T 7))) (w_SX (As := [.ref (x 5), .int (nI 100)]) ⟨hx, hb, hml, hown, hts⟩ (c_J7_fill_53178 l D cI cZ cQ cJ (x 5) 64 st (nI 100) H.size (by first | assumption | omega)) (gSX t2_163 t1_128 t1_6 t1_129) rfl rfl hd_J7_fill_53178 ⟨Nat.le_of_ble_eq_true rfl, Nat.le_of_ble_eq_true rfl⟩ (rw_pre hP hD hSt [5] rfl (by decide)) rfl hl.1 (rest := []) rfl (Nat.le_of_ble_eq_true rfl) dX1_measureFrom_6 ⟨Nat.le_of_ble_eq_true rfl, Nat.le_of_ble_eq_true rfl⟩) hP hD hS hA [5] [0, 1, 2, 3, 4, 6, 7, 8, 9, 10, 11, 12, 13] rfl rfl (by decide) (by decide) (fun  u_1 H locs hw9 hP hD hS => ?_)
  have hP : va_P D vwCl (wFl x r cI cZ cQ w q d T (fun _ => (nI 100)) re rc (nI nz)) H := hP.sub (ws' := wFl x r cI cZ cQ w q d T (fun _ => (nI 100)) re rc (nI nz)) [0, 1, 2, 3, 4, 13, 5, 6, 7, 8, 9, 10, 11, 12] rfl
  have hD : va_D A (wFl x r cI cZ cQ w q d T (fun _ => (nI 100)) re rc (nI nz)) := hD.sub (ws' := wFl x r cI cZ cQ w q d T (fun _ => (nI 100)) re rc (nI nz)) [0, 1, 2, 3, 4, 13, 5, 6, 7, 8, 9, 10, 11, 12] (by decide) rfl
  refine lv_aload_n hx hb dX1_measureFrom_9 rfl (lv_at hl 0 rfl) ?_
  refine lv_iconst (v := nI 0) hx hb dX1_measureFrom_10 (by decide) ?_
  refine va_put (D := D) (ci := 1) (v := .int (nI 0)) (ty := .int) (C := RX1) (T := TX1) (N := 8) hx hb hts tu_X1 tyX1 tyX1_ok nmX1 hown hSt.1 hP hD hS 0 rfl rfl 6 (by decide) (hts _ t1_50) (fun _ h9 => h9) rfl (by decide +kernel) rfl rfl (Nat.le_of_ble_eq_true rfl) dX1_measureFrom_11 (fun H locs hP hD hS => ?_)
  have hP : va_P D vwCl (wFl x r cI cZ cQ w q d T (fun _ => (nI 100)) re (nI 0) (nI nz)) H := hP
  have hD : va_D A (wFl x r cI cZ cQ w q d T (fun _ => (nI 100)) re (nI 0) (nI nz)) := hD
  refine lv_aload_n hx hb dX1_measureFrom_14 rfl (lv_at hl 0 rfl) ?_
  refine lv_aload_n hx hb dX1_measureFrom_15 rfl (lv_at hl 0 rfl) ?_
  refine va_get (D := D) (ci := 1) (v := .ref (x 2)) (C := RX1) (T := TX1) (N := 8) hx hb hts tu_X1 hown hSt.1 hP 0 rfl rfl 1 (by decide) (hts _ t1_41) (fun _ h9 => h9) rfl dX1_measureFrom_16 ?_
  refine lv_iload_n hx hb dX1_measureFrom_19 rfl (lv_at hl 1 rfl) ?_
  refine r_iald hx hb hSt.1 hP 2 0 rfl rfl (k := z) (by omega) (by omega) dX1_measureFrom_20 ?_
  refine lv_as (y := nI (sq z)) (hqz.1) ?_
  refine lv_bipush (v := nI 8) hx hb dX1_measureFrom_21 (by decide) ?_
  refine r_remn hx hb (by omega) (by omega) (by omega) dX1_measureFrom_23 ?_
  refine lv_aload_n hx hb dX1_measureFrom_24 rfl (lv_at hl 0 rfl) ?_
  refine va_get (D := D) (ci := 1) (v := .ref (x 2)) (C := RX1) (T := TX1) (N := 8) hx hb hts tu_X1 hown hSt.1 hP 0 rfl rfl 1 (by decide) (hts _ t1_41) (fun _ h9 => h9) rfl dX1_measureFrom_25 ?_
  refine lv_iload_n hx hb dX1_measureFrom_28 rfl (lv_at hl 1 rfl) ?_
  refine r_iald hx hb hSt.1 hP 2 0 rfl rfl (k := z) (by omega) (by omega) dX1_measureFrom_29 ?_
  refine lv_as (y := nI (sq z)) (hqz.1) ?_
  refine lv_bipush (v := nI 8) hx hb dX1_measureFrom_30 (by decide) ?_
  refine r_divn hx hb (by omega) (by omega) (by omega) dX1_measureFrom_32 ?_
  refine lv_iconst (v := nI 0) hx hb dX1_measureFrom_33 (by decide) ?_
  refine rw_v (wr := ([] : va_W)) (w_V (As := [.int (nI ((sq z) % 8)), .int (nI ((sq z) / 8)), .int (nI 0)]) ⟨hx, hb, hml, hown, hts⟩ (c_X1_reach l D cI cZ cQ cJ x r w q d T (fun _ => (nI 100)) re 0 (nI nz) (nI ((sq z) % 8)) (nI ((sq z) / 8)) (nI 0) H.size (by first | assumption | omega)) (gV t2_164 t2_166 t0_6 t1_3 t2_167) rfl rfl hd_X1_reach ⟨Nat.le_of_ble_eq_true rfl, Nat.le_of_ble_eq_true rfl⟩ (rw_pre hP hD hSt [0, 1, 2, 3, 4, 5, 6, 7, 8, 9, 10, 11, 12, 13] rfl (by decide)) (va_recv hSt.1 hP (ci := 1) (q0 := 0) rfl rfl) rfl hl.1 (rest := []) rfl (Nat.le_of_ble_eq_true rfl) dX1_measureFrom_34 ⟨Nat.le_of_ble_eq_true rfl, Nat.le_of_ble_eq_true rfl⟩) hP hD hS hA [0, 1, 2, 3, 4, 5, 6, 7, 8, 9, 10, 11, 12, 13] [] rfl rfl (by decide) (by decide) (fun  u_5 H locs hw9 hP hD hS => ?_)
  obtain ⟨j_2, j_3, j_4⟩ := u_5
  obtain ⟨f_6, f_7⟩ := hw9
  have hR0 : RS w (nI ((sq z) % 8)) (nI ((sq z) / 8)) (nI 0) (fun _ => (nI 100)) re 0 j_2 j_3 j_4 := f_6
  have hr0 : j_4 ≤ 64 := f_7
  have hP : va_P D vwCl (wFl x r cI cZ cQ w q d T j_2 j_3 (nI j_4) (nI nz)) H := hP
  have hD : va_D A (wFl x r cI cZ cQ w q d T j_2 j_3 (nI j_4) (nI nz)) := hD
  refine lv_iconst (v := nI 0) hx hb dX1_measureFrom_37 (by decide) ?_
  refine lv_istore_n (lv' := [(2, .int (nI 0)), (0, .ref (x 0)), (1, .int (nI z))]) hx hb dX1_measureFrom_38 rfl hl (by decide) rfl (fun ls hl => ?_)
  have L39 : ∀ (n : Nat) (i : Nat) (s1 : Nat → Int32) (e1 : Nat → Int32) (r1 : Nat), (r1 ≤ 64) → (i ≤ r1) → (∃ Q9 d9, BI w (sq z) i s1 e1 r1 Q9 d9) → (64 - i) < n → ∀ (H : Heap) (locs : List Loc), va_P D vwCl (wFl x r cI cZ cQ w q d T s1 e1 (nI r1) (nI nz)) H → va_D A (wFl x r cI cZ cQ w q d T s1 e1 (nI r1) (nI nz)) → va_S A s.heap H locs → ∀ (ls : Array Slot), lv_has ls 6 [(0, .ref (x 0)), (1, .int (nI z)), (2, .int (nI i))] → W p l e ({ frames := 2, cells := 0, slots := 0, locals := 45 } : Room) s m ([.ref (x 0), .int (nI z)] : List Value).toArray below meth c H locs 0 0 (MQ below (va_Qv (fun u9 : (Nat → Nat → Int32) × (Nat → Int32) × (Nat → Int32) × Int32 => (∀ v, v < nz → isD w (sq z) (sq v) (u9.1 z v)) ∧ (∀ u v, ¬ (u = z ∧ v < nz) → u9.1 u v = T u v)) (rw_B D A (fun u9 : (Nat → Nat → Int32) × (Nat → Int32) × (Nat → Int32) × Int32 => wFl x r cI cZ cQ w q d u9.1 u9.2.1 u9.2.2.1 u9.2.2.2 (nI nz))) A) ([.ref (x 0), .int (nI z)] : List Value).toArray s 0 0 A) (F0 m 39 ls []) := by
    intro n
    induction n with
    | zero =>
      intro i s1 e1 r1 hr1 hi hB hm
      exact absurd hm (by omega)
    | succ n ih =>
      intro i s1 e1 r1 hr1 hi hB hm H locs hP hD hS ls hl
      have ih_L39 := ih
      refine lv_iload_n hx hb dX1_measureFrom_39 rfl (lv_at hl 2 rfl) ?_
      refine lv_aload_n hx hb dX1_measureFrom_40 rfl (lv_at hl 0 rfl) ?_
      refine va_get (D := D) (ci := 1) (v := .int (nI r1)) (C := RX1) (T := TX1) (N := 8) hx hb hts tu_X1 hown hSt.1 hP 0 rfl rfl 6 (by decide) (hts _ t1_50) (fun _ h9 => h9) rfl dX1_measureFrom_41 ?_
      refine lv_icmp_ge (tgt := 139) hx hb dX1_measureFrom_44 (by decide) (fun c_8 => ?_) (fun c_8 => ?_)
      · have c_8 := z_le (by omega) (by omega) c_8
        have hE : ∀ b, b < 64 → isD w (sq z) b (s1 b) := fun b hb => hB.elim fun Q9 h => h.elim fun d9 h => BI_end h (by omega) hb
        refine lv_iconst (v := nI 0) hx hb dX1_measureFrom_139 (by decide) ?_
        refine lv_istore_n (lv' := [(2, .int (nI 0)), (0, .ref (x 0)), (1, .int (nI z))]) hx hb dX1_measureFrom_140 rfl hl (by decide) rfl (fun ls hl => ?_)
        have L141 : ∀ (n : Nat) (o : Nat) (T1 : Nat → Nat → Int32), (o ≤ nz) → (∀ u v, T1 u v = if u = z ∧ v < o then s1 (sq v) else T u v) → (nz - o) < n → ∀ (H : Heap) (locs : List Loc), va_P D vwCl (wFl x r cI cZ cQ w q d T1 s1 e1 (nI r1) (nI nz)) H → va_D A (wFl x r cI cZ cQ w q d T1 s1 e1 (nI r1) (nI nz)) → va_S A s.heap H locs → ∀ (ls : Array Slot), lv_has ls 6 [(0, .ref (x 0)), (1, .int (nI z)), (2, .int (nI o))] → W p l e ({ frames := 2, cells := 0, slots := 0, locals := 45 } : Room) s m ([.ref (x 0), .int (nI z)] : List Value).toArray below meth c H locs 0 0 (MQ below (va_Qv (fun u9 : (Nat → Nat → Int32) × (Nat → Int32) × (Nat → Int32) × Int32 => (∀ v, v < nz → isD w (sq z) (sq v) (u9.1 z v)) ∧ (∀ u v, ¬ (u = z ∧ v < nz) → u9.1 u v = T u v)) (rw_B D A (fun u9 : (Nat → Nat → Int32) × (Nat → Int32) × (Nat → Int32) × Int32 => wFl x r cI cZ cQ w q d u9.1 u9.2.1 u9.2.2.1 u9.2.2.2 (nI nz))) A) ([.ref (x 0), .int (nI z)] : List Value).toArray s 0 0 A) (F0 m 141 ls []) := by
          intro n
          induction n with
          | zero =>
            intro o T1 ho hT hm
            exact absurd hm (by omega)
          | succ n ih =>
            intro o T1 ho hT hm H locs hP hD hS ls hl
            have ih_L141 := ih
            refine lv_iload_n hx hb dX1_measureFrom_141 rfl (lv_at hl 2 rfl) ?_
            refine lv_aload_n hx hb dX1_measureFrom_142 rfl (lv_at hl 0 rfl) ?_
            refine va_get (D := D) (ci := 1) (v := .int (nI nz)) (C := RX1) (T := TX1) (N := 8) hx hb hts tu_X1 hown hSt.1 hP 0 rfl rfl 7 (by decide) (hts _ t1_51) (fun _ h9 => h9) rfl dX1_measureFrom_143 ?_
            refine lv_icmp_ge (tgt := 174) hx hb dX1_measureFrom_146 (by decide) (fun c_9 => ?_) (fun c_9 => ?_)
            · have c_9 := z_le (by omega) (by omega) c_9
              have hP9 : va_P D vwCl (wFl x r cI cZ cQ w q d T1 s1 e1 (nI r1) (nI nz)) H := hP
              have hD9 : va_D A (wFl x r cI cZ cQ w q d T1 s1 e1 (nI r1) (nI nz)) := hD
              have g_10 : ∀ v, v < nz → isD w (sq z) (sq v) (T1 z v) := fun v hv => by rw [hT, if_pos ⟨rfl, by omega⟩]; exact hE _ (hq v hv).2.1
              have g_11 : ∀ u v, ¬ (u = z ∧ v < nz) → T1 u v = T u v := fun u v h9 => by rw [hT, if_neg (fun q => h9 ⟨q.1, by omega⟩)]
              exact W.vret hx hb hr (fun t9 ht9 hW9 => ⟨⟨(T1, s1, e1, nI r1), rfl, ⟨g_10, g_11⟩, by rw [ht9]; exact hP9, hD9⟩, hS.F ht9⟩) hS.2.2 dX1_measureFrom_174
            · have c_9 := z_nle (by omega) (by omega) c_9
              refine lv_aload_n hx hb dX1_measureFrom_149 rfl (lv_at hl 0 rfl) ?_
              refine va_get (D := D) (ci := 1) (v := .ref (x 4)) (C := RX1) (T := TX1) (N := 8) hx hb hts tu_X1 hown hSt.1 hP 0 rfl rfl 3 (by decide) (hts _ t1_45) (fun _ h9 => h9) rfl dX1_measureFrom_150 ?_
              refine lv_iload_n hx hb dX1_measureFrom_153 rfl (lv_at hl 1 rfl) ?_
              refine r_aald (r := r) hx hb hSt.1 hP 4 2 rfl rfl (k := z) (by omega) dX1_measureFrom_154 ?_
              refine lv_iload_n hx hb dX1_measureFrom_155 rfl (lv_at hl 2 rfl) ?_
              refine lv_aload_n hx hb dX1_measureFrom_156 rfl (lv_at hl 0 rfl) ?_
              refine va_get (D := D) (ci := 1) (v := .ref (x 5)) (C := RX1) (T := TX1) (N := 8) hx hb hts tu_X1 hown hSt.1 hP 0 rfl rfl 4 (by decide) (hts _ t1_48) (fun _ h9 => h9) rfl dX1_measureFrom_157 ?_
              refine lv_aload_n hx hb dX1_measureFrom_160 rfl (lv_at hl 0 rfl) ?_
              refine va_get (D := D) (ci := 1) (v := .ref (x 2)) (C := RX1) (T := TX1) (N := 8) hx hb hts tu_X1 hown hSt.1 hP 0 rfl rfl 1 (by decide) (hts _ t1_41) (fun _ h9 => h9) rfl dX1_measureFrom_161 ?_
              refine lv_iload_n hx hb dX1_measureFrom_164 rfl (lv_at hl 2 rfl) ?_
              refine r_iald hx hb hSt.1 hP 2 0 rfl rfl (k := o) (by omega) (by omega) dX1_measureFrom_165 ?_
              have hqo := hq o (by omega)
              refine lv_as (y := nI (sq o)) (hqo.1) ?_
              refine r_iald hx hb hSt.1 hP 5 0 rfl rfl (k := (sq o)) (hqo.2.1) (by omega) dX1_measureFrom_166 ?_
              refine r_iast hx hb hSt.1 hP hD hS _ 0 (f := T1 z) (wFl_T (k := z) (by omega)) rfl (k := o) (by omega) (by omega) dX1_measureFrom_167 (fun H locs hP hD hS => ?_)
              have hP : va_P D vwCl (wFl x r cI cZ cQ w q d (u2 T1 z o (s1 (sq o))) s1 e1 (nI r1) (nI nz)) H := P_eq (wFl_Ts (k := z) (j := o) (v := (s1 (sq o))) (by omega)) hP
              have hD : va_D A (wFl x r cI cZ cQ w q d (u2 T1 z o (s1 (sq o))) s1 e1 (nI r1) (nI nz)) := D_eq (wFl_Ts (k := z) (j := o) (v := (s1 (sq o))) (by omega)) hD
              refine lv_iinc (v := nI (o + 1)) (lv' := [(2, .int (nI (o + 1))), (0, .ref (x 0)), (1, .int (nI z))]) hx hb dX1_measureFrom_168 hl (k := 2) rfl (z_inc _) (by decide) rfl (fun ls hl => ?_)
              refine lv_goto (tgt := 141) hx hb dX1_measureFrom_171 (by decide) ?_
              exact ih_L141 (o + 1) (u2 T1 z o (s1 (sq o))) (by omega) (T_step hT) (by omega) _ _ hP hD hS _ (lv_sub hl [1, 2, 0] rfl)
        exact L141 _ 0 T (by omega) (fun u v => by rw [if_neg (fun q => by omega)]) (Nat.lt_succ_self _) _ _ hP hD hS _ (lv_sub hl [1, 2, 0] rfl)
      · have c_8 := z_nle (by omega) (by omega) c_8
        refine lv_iload_n hx hb dX1_measureFrom_47 rfl (lv_at hl 2 rfl) ?_
        refine lv_bipush (v := nI 64) hx hb dX1_measureFrom_48 (by decide) ?_
        refine lv_icmp_ge (tgt := 139) hx hb dX1_measureFrom_50 (by decide) (fun c_12 => ?_) (fun c_12 => ?_)
        · have c_12 := z_le (by omega) (by omega) c_12
          have hE : ∀ b, b < 64 → isD w (sq z) b (s1 b) := fun b hb => hB.elim fun Q9 h => h.elim fun d9 h => BI_end h (by omega) hb
          refine lv_iconst (v := nI 0) hx hb dX1_measureFrom_139 (by decide) ?_
          refine lv_istore_n (lv' := [(2, .int (nI 0)), (0, .ref (x 0)), (1, .int (nI z))]) hx hb dX1_measureFrom_140 rfl hl (by decide) rfl (fun ls hl => ?_)
          have L141 : ∀ (n : Nat) (o : Nat) (T1 : Nat → Nat → Int32), (o ≤ nz) → (∀ u v, T1 u v = if u = z ∧ v < o then s1 (sq v) else T u v) → (nz - o) < n → ∀ (H : Heap) (locs : List Loc), va_P D vwCl (wFl x r cI cZ cQ w q d T1 s1 e1 (nI r1) (nI nz)) H → va_D A (wFl x r cI cZ cQ w q d T1 s1 e1 (nI r1) (nI nz)) → va_S A s.heap H locs → ∀ (ls : Array Slot), lv_has ls 6 [(0, .ref (x 0)), (1, .int (nI z)), (2, .int (nI o))] → W p l e ({ frames := 2, cells := 0, slots := 0, locals := 45 } : Room) s m ([.ref (x 0), .int (nI z)] : List Value).toArray below meth c H locs 0 0 (MQ below (va_Qv (fun u9 : (Nat → Nat → Int32) × (Nat → Int32) × (Nat → Int32) × Int32 => (∀ v, v < nz → isD w (sq z) (sq v) (u9.1 z v)) ∧ (∀ u v, ¬ (u = z ∧ v < nz) → u9.1 u v = T u v)) (rw_B D A (fun u9 : (Nat → Nat → Int32) × (Nat → Int32) × (Nat → Int32) × Int32 => wFl x r cI cZ cQ w q d u9.1 u9.2.1 u9.2.2.1 u9.2.2.2 (nI nz))) A) ([.ref (x 0), .int (nI z)] : List Value).toArray s 0 0 A) (F0 m 141 ls []) := by
            intro n
            induction n with
            | zero =>
              intro o T1 ho hT hm
              exact absurd hm (by omega)
            | succ n ih =>
              intro o T1 ho hT hm H locs hP hD hS ls hl
              have ih_L141 := ih
              refine lv_iload_n hx hb dX1_measureFrom_141 rfl (lv_at hl 2 rfl) ?_
              refine lv_aload_n hx hb dX1_measureFrom_142 rfl (lv_at hl 0 rfl) ?_
              refine va_get (D := D) (ci := 1) (v := .int (nI nz)) (C := RX1) (T := TX1) (N := 8) hx hb hts tu_X1 hown hSt.1 hP 0 rfl rfl 7 (by decide) (hts _ t1_51) (fun _ h9 => h9) rfl dX1_measureFrom_143 ?_
              refine lv_icmp_ge (tgt := 174) hx hb dX1_measureFrom_146 (by decide) (fun c_13 => ?_) (fun c_13 => ?_)
              · have c_13 := z_le (by omega) (by omega) c_13
                have hP9 : va_P D vwCl (wFl x r cI cZ cQ w q d T1 s1 e1 (nI r1) (nI nz)) H := hP
                have hD9 : va_D A (wFl x r cI cZ cQ w q d T1 s1 e1 (nI r1) (nI nz)) := hD
                have g_14 : ∀ v, v < nz → isD w (sq z) (sq v) (T1 z v) := fun v hv => by rw [hT, if_pos ⟨rfl, by omega⟩]; exact hE _ (hq v hv).2.1
                have g_15 : ∀ u v, ¬ (u = z ∧ v < nz) → T1 u v = T u v := fun u v h9 => by rw [hT, if_neg (fun q => h9 ⟨q.1, by omega⟩)]
                exact W.vret hx hb hr (fun t9 ht9 hW9 => ⟨⟨(T1, s1, e1, nI r1), rfl, ⟨g_14, g_15⟩, by rw [ht9]; exact hP9, hD9⟩, hS.F ht9⟩) hS.2.2 dX1_measureFrom_174
              · have c_13 := z_nle (by omega) (by omega) c_13
                refine lv_aload_n hx hb dX1_measureFrom_149 rfl (lv_at hl 0 rfl) ?_
                refine va_get (D := D) (ci := 1) (v := .ref (x 4)) (C := RX1) (T := TX1) (N := 8) hx hb hts tu_X1 hown hSt.1 hP 0 rfl rfl 3 (by decide) (hts _ t1_45) (fun _ h9 => h9) rfl dX1_measureFrom_150 ?_
                refine lv_iload_n hx hb dX1_measureFrom_153 rfl (lv_at hl 1 rfl) ?_
                refine r_aald (r := r) hx hb hSt.1 hP 4 2 rfl rfl (k := z) (by omega) dX1_measureFrom_154 ?_
                refine lv_iload_n hx hb dX1_measureFrom_155 rfl (lv_at hl 2 rfl) ?_
                refine lv_aload_n hx hb dX1_measureFrom_156 rfl (lv_at hl 0 rfl) ?_
                refine va_get (D := D) (ci := 1) (v := .ref (x 5)) (C := RX1) (T := TX1) (N := 8) hx hb hts tu_X1 hown hSt.1 hP 0 rfl rfl 4 (by decide) (hts _ t1_48) (fun _ h9 => h9) rfl dX1_measureFrom_157 ?_
                refine lv_aload_n hx hb dX1_measureFrom_160 rfl (lv_at hl 0 rfl) ?_
                refine va_get (D := D) (ci := 1) (v := .ref (x 2)) (C := RX1) (T := TX1) (N := 8) hx hb hts tu_X1 hown hSt.1 hP 0 rfl rfl 1 (by decide) (hts _ t1_41) (fun _ h9 => h9) rfl dX1_measureFrom_161 ?_
                refine lv_iload_n hx hb dX1_measureFrom_164 rfl (lv_at hl 2 rfl) ?_
                refine r_iald hx hb hSt.1 hP 2 0 rfl rfl (k := o) (by omega) (by omega) dX1_measureFrom_165 ?_
                have hqo := hq o (by omega)
                refine lv_as (y := nI (sq o)) (hqo.1) ?_
                refine r_iald hx hb hSt.1 hP 5 0 rfl rfl (k := (sq o)) (hqo.2.1) (by omega) dX1_measureFrom_166 ?_
                refine r_iast hx hb hSt.1 hP hD hS _ 0 (f := T1 z) (wFl_T (k := z) (by omega)) rfl (k := o) (by omega) (by omega) dX1_measureFrom_167 (fun H locs hP hD hS => ?_)
                have hP : va_P D vwCl (wFl x r cI cZ cQ w q d (u2 T1 z o (s1 (sq o))) s1 e1 (nI r1) (nI nz)) H := P_eq (wFl_Ts (k := z) (j := o) (v := (s1 (sq o))) (by omega)) hP
                have hD : va_D A (wFl x r cI cZ cQ w q d (u2 T1 z o (s1 (sq o))) s1 e1 (nI r1) (nI nz)) := D_eq (wFl_Ts (k := z) (j := o) (v := (s1 (sq o))) (by omega)) hD
                refine lv_iinc (v := nI (o + 1)) (lv' := [(2, .int (nI (o + 1))), (0, .ref (x 0)), (1, .int (nI z))]) hx hb dX1_measureFrom_168 hl (k := 2) rfl (z_inc _) (by decide) rfl (fun ls hl => ?_)
                refine lv_goto (tgt := 141) hx hb dX1_measureFrom_171 (by decide) ?_
                exact ih_L141 (o + 1) (u2 T1 z o (s1 (sq o))) (by omega) (T_step hT) (by omega) _ _ hP hD hS _ (lv_sub hl [1, 2, 0] rfl)
          exact L141 _ 0 T (by omega) (fun u v => by rw [if_neg (fun q => by omega)]) (Nat.lt_succ_self _) _ _ hP hD hS _ (lv_sub hl [1, 2, 0] rfl)
        · have c_12 := z_nle (by omega) (by omega) c_12
          obtain ⟨Q9, d9, hB7⟩ := hB
          have hlt : i < r1 := by omega
          obtain ⟨hQ, hre, hst, hdE, hdl⟩ := hB7.1 i hlt
          refine lv_aload_n hx hb dX1_measureFrom_53 rfl (lv_at hl 0 rfl) ?_
          refine va_get (D := D) (ci := 1) (v := .ref (x 6)) (C := RX1) (T := TX1) (N := 8) hx hb hts tu_X1 hown hSt.1 hP 0 rfl rfl 5 (by decide) (hts _ t1_49) (fun _ h9 => h9) rfl dX1_measureFrom_54 ?_
          refine lv_iload_n hx hb dX1_measureFrom_57 rfl (lv_at hl 2 rfl) ?_
          refine r_iald hx hb hSt.1 hP 6 0 rfl rfl (k := i) (by omega) (by omega) dX1_measureFrom_58 ?_
          refine lv_as (y := nI (Q9 i)) (hre) ?_
          refine lv_bipush (v := nI 8) hx hb dX1_measureFrom_59 (by decide) ?_
          refine r_remn hx hb (by omega) (by omega) (by omega) dX1_measureFrom_61 ?_
          refine lv_istore_n (lv' := [(3, .int (nI ((Q9 i) % 8))), (0, .ref (x 0)), (1, .int (nI z)), (2, .int (nI i))]) hx hb dX1_measureFrom_62 rfl hl (by decide) rfl (fun ls hl => ?_)
          refine lv_aload_n hx hb dX1_measureFrom_63 rfl (lv_at hl 1 rfl) ?_
          refine va_get (D := D) (ci := 1) (v := .ref (x 6)) (C := RX1) (T := TX1) (N := 8) hx hb hts tu_X1 hown hSt.1 hP 0 rfl rfl 5 (by decide) (hts _ t1_49) (fun _ h9 => h9) rfl dX1_measureFrom_64 ?_
          refine lv_iload_n hx hb dX1_measureFrom_67 rfl (lv_at hl 3 rfl) ?_
          refine r_iald hx hb hSt.1 hP 6 0 rfl rfl (k := i) (by omega) (by omega) dX1_measureFrom_68 ?_
          refine lv_as (y := nI (Q9 i)) (hre) ?_
          refine lv_bipush (v := nI 8) hx hb dX1_measureFrom_69 (by decide) ?_
          refine r_divn hx hb (by omega) (by omega) (by omega) dX1_measureFrom_71 ?_
          refine lv_istore (lv' := [(4, .int (nI ((Q9 i) / 8))), (3, .int (nI ((Q9 i) % 8))), (0, .ref (x 0)), (1, .int (nI z)), (2, .int (nI i))]) hx hb dX1_measureFrom_72 hl (by decide) rfl (fun ls hl => ?_)
          refine lv_aload_n hx hb dX1_measureFrom_74 rfl (lv_at hl 2 rfl) ?_
          refine va_get (D := D) (ci := 1) (v := .ref (x 5)) (C := RX1) (T := TX1) (N := 8) hx hb hts tu_X1 hown hSt.1 hP 0 rfl rfl 4 (by decide) (hts _ t1_48) (fun _ h9 => h9) rfl dX1_measureFrom_75 ?_
          refine lv_aload_n hx hb dX1_measureFrom_78 rfl (lv_at hl 2 rfl) ?_
          refine va_get (D := D) (ci := 1) (v := .ref (x 6)) (C := RX1) (T := TX1) (N := 8) hx hb hts tu_X1 hown hSt.1 hP 0 rfl rfl 5 (by decide) (hts _ t1_49) (fun _ h9 => h9) rfl dX1_measureFrom_79 ?_
          refine lv_iload_n hx hb dX1_measureFrom_82 rfl (lv_at hl 4 rfl) ?_
          refine r_iald hx hb hSt.1 hP 6 0 rfl rfl (k := i) (by omega) (by omega) dX1_measureFrom_83 ?_
          refine lv_as (y := nI (Q9 i)) (hre) ?_
          refine r_iald hx hb hSt.1 hP 5 0 rfl rfl (k := (Q9 i)) (by omega) (by omega) dX1_measureFrom_84 ?_
          refine lv_as (y := nI (d9 i)) (hst) ?_
          refine lv_iconst (v := nI 1) hx hb dX1_measureFrom_85 (by decide) ?_
          refine r_addn hx hb dX1_measureFrom_86 ?_
          refine lv_istore (lv' := [(5, .int (nI ((d9 i) + 1))), (4, .int (nI ((Q9 i) / 8))), (3, .int (nI ((Q9 i) % 8))), (0, .ref (x 0)), (1, .int (nI z)), (2, .int (nI i))]) hx hb dX1_measureFrom_87 hl (by decide) rfl (fun ls hl => ?_)
          refine lv_aload_n hx hb dX1_measureFrom_89 rfl (lv_at hl 3 rfl) ?_
          refine lv_iload_n hx hb dX1_measureFrom_90 rfl (lv_at hl 2 rfl) ?_
          refine lv_iconst (v := nI 1) hx hb dX1_measureFrom_91 (by decide) ?_
          refine lv_isub hx hb dX1_measureFrom_92 ?_
          refine lv_iload hx hb dX1_measureFrom_93 (lv_at hl 1 rfl) ?_
          refine lv_iload hx hb dX1_measureFrom_95 (lv_at hl 0 rfl) ?_
          refine rw_v (wr := ([] : va_W)) (w_V (As := [.int ((nI ((Q9 i) % 8)) - (nI 1)), .int (nI ((Q9 i) / 8)), .int (nI ((d9 i) + 1))]) ⟨hx, hb, hml, hown, hts⟩ (c_X1_reach l D cI cZ cQ cJ x r w q d T s1 e1 r1 (nI nz) ((nI ((Q9 i) % 8)) - (nI 1)) (nI ((Q9 i) / 8)) (nI ((d9 i) + 1)) H.size (by first | assumption | omega)) (gV t2_164 t2_166 t0_6 t1_3 t2_167) rfl rfl hd_X1_reach ⟨Nat.le_of_ble_eq_true rfl, Nat.le_of_ble_eq_true rfl⟩ (rw_pre hP hD hSt [0, 1, 2, 3, 4, 5, 6, 7, 8, 9, 10, 11, 12, 13] rfl (by decide)) (va_recv hSt.1 hP (ci := 1) (q0 := 0) rfl rfl) rfl hl.1 (rest := []) rfl (Nat.le_of_ble_eq_true rfl) dX1_measureFrom_97 ⟨Nat.le_of_ble_eq_true rfl, Nat.le_of_ble_eq_true rfl⟩) hP hD hS hA [0, 1, 2, 3, 4, 5, 6, 7, 8, 9, 10, 11, 12, 13] [] rfl rfl (by decide) (by decide) (fun  u_19 H locs hw9 hP hD hS => ?_)
          obtain ⟨j_16, j_17, j_18⟩ := u_19
          obtain ⟨f_20, f_21⟩ := hw9
          have R1 : RS w ((nI ((Q9 i) % 8)) - (nI 1)) (nI ((Q9 i) / 8)) (nI ((d9 i) + 1)) s1 e1 r1 j_16 j_17 j_18 := f_20
          have hr2 : j_18 ≤ 64 := f_21
          have hP : va_P D vwCl (wFl x r cI cZ cQ w q d T j_16 j_17 (nI j_18) (nI nz)) H := hP
          have hD : va_D A (wFl x r cI cZ cQ w q d T j_16 j_17 (nI j_18) (nI nz)) := hD
          refine lv_aload_n hx hb dX1_measureFrom_100 rfl (lv_at hl 3 rfl) ?_
          refine lv_iload_n hx hb dX1_measureFrom_101 rfl (lv_at hl 2 rfl) ?_
          refine lv_iconst (v := nI 1) hx hb dX1_measureFrom_102 (by decide) ?_
          refine r_addn hx hb dX1_measureFrom_103 ?_
          refine lv_iload hx hb dX1_measureFrom_104 (lv_at hl 1 rfl) ?_
          refine lv_iload hx hb dX1_measureFrom_106 (lv_at hl 0 rfl) ?_
          refine rw_v (wr := ([] : va_W)) (w_V (As := [.int (nI (((Q9 i) % 8) + 1)), .int (nI ((Q9 i) / 8)), .int (nI ((d9 i) + 1))]) ⟨hx, hb, hml, hown, hts⟩ (c_X1_reach l D cI cZ cQ cJ x r w q d T j_16 j_17 j_18 (nI nz) (nI (((Q9 i) % 8) + 1)) (nI ((Q9 i) / 8)) (nI ((d9 i) + 1)) H.size (by first | assumption | omega)) (gV t2_164 t2_166 t0_6 t1_3 t2_167) rfl rfl hd_X1_reach ⟨Nat.le_of_ble_eq_true rfl, Nat.le_of_ble_eq_true rfl⟩ (rw_pre hP hD hSt [0, 1, 2, 3, 4, 5, 6, 7, 8, 9, 10, 11, 12, 13] rfl (by decide)) (va_recv hSt.1 hP (ci := 1) (q0 := 0) rfl rfl) rfl hl.1 (rest := []) rfl (Nat.le_of_ble_eq_true rfl) dX1_measureFrom_108 ⟨Nat.le_of_ble_eq_true rfl, Nat.le_of_ble_eq_true rfl⟩) hP hD hS hA [0, 1, 2, 3, 4, 5, 6, 7, 8, 9, 10, 11, 12, 13] [] rfl rfl (by decide) (by decide) (fun  u_25 H locs hw9 hP hD hS => ?_)
          obtain ⟨j_22, j_23, j_24⟩ := u_25
          obtain ⟨f_26, f_27⟩ := hw9
          have R2 : RS w (nI (((Q9 i) % 8) + 1)) (nI ((Q9 i) / 8)) (nI ((d9 i) + 1)) j_16 j_17 j_18 j_22 j_23 j_24 := f_26
          have hr3 : j_24 ≤ 64 := f_27
          have hP : va_P D vwCl (wFl x r cI cZ cQ w q d T j_22 j_23 (nI j_24) (nI nz)) H := hP
          have hD : va_D A (wFl x r cI cZ cQ w q d T j_22 j_23 (nI j_24) (nI nz)) := hD
          refine lv_aload_n hx hb dX1_measureFrom_111 rfl (lv_at hl 3 rfl) ?_
          refine lv_iload_n hx hb dX1_measureFrom_112 rfl (lv_at hl 2 rfl) ?_
          refine lv_iload hx hb dX1_measureFrom_113 (lv_at hl 1 rfl) ?_
          refine lv_iconst (v := nI 1) hx hb dX1_measureFrom_115 (by decide) ?_
          refine lv_isub hx hb dX1_measureFrom_116 ?_
          refine lv_iload hx hb dX1_measureFrom_117 (lv_at hl 0 rfl) ?_
          refine rw_v (wr := ([] : va_W)) (w_V (As := [.int (nI ((Q9 i) % 8)), .int ((nI ((Q9 i) / 8)) - (nI 1)), .int (nI ((d9 i) + 1))]) ⟨hx, hb, hml, hown, hts⟩ (c_X1_reach l D cI cZ cQ cJ x r w q d T j_22 j_23 j_24 (nI nz) (nI ((Q9 i) % 8)) ((nI ((Q9 i) / 8)) - (nI 1)) (nI ((d9 i) + 1)) H.size (by first | assumption | omega)) (gV t2_164 t2_166 t0_6 t1_3 t2_167) rfl rfl hd_X1_reach ⟨Nat.le_of_ble_eq_true rfl, Nat.le_of_ble_eq_true rfl⟩ (rw_pre hP hD hSt [0, 1, 2, 3, 4, 5, 6, 7, 8, 9, 10, 11, 12, 13] rfl (by decide)) (va_recv hSt.1 hP (ci := 1) (q0 := 0) rfl rfl) rfl hl.1 (rest := []) rfl (Nat.le_of_ble_eq_true rfl) dX1_measureFrom_119 ⟨Nat.le_of_ble_eq_true rfl, Nat.le_of_ble_eq_true rfl⟩) hP hD hS hA [0, 1, 2, 3, 4, 5, 6, 7, 8, 9, 10, 11, 12, 13] [] rfl rfl (by decide) (by decide) (fun  u_31 H locs hw9 hP hD hS => ?_)
          obtain ⟨j_28, j_29, j_30⟩ := u_31
          obtain ⟨f_32, f_33⟩ := hw9
          have R3 : RS w (nI ((Q9 i) % 8)) ((nI ((Q9 i) / 8)) - (nI 1)) (nI ((d9 i) + 1)) j_22 j_23 j_24 j_28 j_29 j_30 := f_32
          have hr4 : j_30 ≤ 64 := f_33
          have hP : va_P D vwCl (wFl x r cI cZ cQ w q d T j_28 j_29 (nI j_30) (nI nz)) H := hP
          have hD : va_D A (wFl x r cI cZ cQ w q d T j_28 j_29 (nI j_30) (nI nz)) := hD
          refine lv_aload_n hx hb dX1_measureFrom_122 rfl (lv_at hl 3 rfl) ?_
          refine lv_iload_n hx hb dX1_measureFrom_123 rfl (lv_at hl 2 rfl) ?_
          refine lv_iload hx hb dX1_measureFrom_124 (lv_at hl 1 rfl) ?_
          refine lv_iconst (v := nI 1) hx hb dX1_measureFrom_126 (by decide) ?_
          refine r_addn hx hb dX1_measureFrom_127 ?_
          refine lv_iload hx hb dX1_measureFrom_128 (lv_at hl 0 rfl) ?_
          refine rw_v (wr := ([] : va_W)) (w_V (As := [.int (nI ((Q9 i) % 8)), .int (nI (((Q9 i) / 8) + 1)), .int (nI ((d9 i) + 1))]) ⟨hx, hb, hml, hown, hts⟩ (c_X1_reach l D cI cZ cQ cJ x r w q d T j_28 j_29 j_30 (nI nz) (nI ((Q9 i) % 8)) (nI (((Q9 i) / 8) + 1)) (nI ((d9 i) + 1)) H.size (by first | assumption | omega)) (gV t2_164 t2_166 t0_6 t1_3 t2_167) rfl rfl hd_X1_reach ⟨Nat.le_of_ble_eq_true rfl, Nat.le_of_ble_eq_true rfl⟩ (rw_pre hP hD hSt [0, 1, 2, 3, 4, 5, 6, 7, 8, 9, 10, 11, 12, 13] rfl (by decide)) (va_recv hSt.1 hP (ci := 1) (q0 := 0) rfl rfl) rfl hl.1 (rest := []) rfl (Nat.le_of_ble_eq_true rfl) dX1_measureFrom_130 ⟨Nat.le_of_ble_eq_true rfl, Nat.le_of_ble_eq_true rfl⟩) hP hD hS hA [0, 1, 2, 3, 4, 5, 6, 7, 8, 9, 10, 11, 12, 13] [] rfl rfl (by decide) (by decide) (fun  u_37 H locs hw9 hP hD hS => ?_)
          obtain ⟨j_34, j_35, j_36⟩ := u_37
          obtain ⟨f_38, f_39⟩ := hw9
          have R4 : RS w (nI ((Q9 i) % 8)) (nI (((Q9 i) / 8) + 1)) (nI ((d9 i) + 1)) j_28 j_29 j_30 j_34 j_35 j_36 := f_38
          have hr5 : j_36 ≤ 64 := f_39
          have hP : va_P D vwCl (wFl x r cI cZ cQ w q d T j_34 j_35 (nI j_36) (nI nz)) H := hP
          have hD : va_D A (wFl x r cI cZ cQ w q d T j_34 j_35 (nI j_36) (nI nz)) := hD
          obtain ⟨Q8, d8, hB8⟩ := BI_four hB7 hlt R1 R2 R3 R4
          refine lv_iinc (v := nI (i + 1)) (lv' := [(2, .int (nI (i + 1))), (5, .int (nI ((d9 i) + 1))), (4, .int (nI ((Q9 i) / 8))), (3, .int (nI ((Q9 i) % 8))), (0, .ref (x 0)), (1, .int (nI z))]) hx hb dX1_measureFrom_133 hl (k := 5) rfl (z_inc _) (by decide) rfl (fun ls hl => ?_)
          refine lv_goto (tgt := 39) hx hb dX1_measureFrom_136 (by decide) ?_
          exact ih_L39 (i + 1) j_34 j_35 j_36 (by omega) hB8.2.2.2.2.2.1 (⟨Q8, d8, hB8⟩) (by omega) _ _ hP hD hS _ (lv_sub hl [4, 5, 0] rfl)
  exact L39 _ 0 j_2 j_3 j_4 (by omega) (by omega) (RS_first hqz.2.1 hqz.2.2 hR0) (Nat.lt_succ_self _) _ _ hP hD hS _ (lv_sub hl [1, 2, 0] rfl)
theorem hd_X1_measureFrom : yX1_measureFrom.cls = RX1 ∧ yX1_measureFrom.cls ≠ "java/lang/invoke/MethodHandle" ∧ yX1_measureFrom.cls ≠ "java/lang/invoke/VarHandle" ∧ (parseMethodDescriptor yX1_measureFrom.desc).map (fun d => d.parameters.length) = some 1 := by decide +kernel
set_option maxHeartbeats 4000000 in
set_option maxRecDepth 100000 in
/-- all ways -/
theorem c_X1_measureAll (l : Launch) (D : va_G) (cI cZ cQ cJ : ClassId) (x : Nat → Nat) (r : Nat → Nat) (w : Nat → Int32) (q : Nat → Int32) (d : Nat → Int32) (T : Nat → Nat → Int32) (st : Nat → Int32) (re : Nat → Int32) (rc : Int32) (sq : Nat → Nat) (nz : Nat) (sz : Nat) (hn : nz ≤ 7) (hq : ∀ o, o < nz → q o = nI (sq o) ∧ sq o < 64 ∧ w (sq o) = 0) : Met l yX1_measureAll (.code yX1_measureAll cX1_measureAll 2 none :: ALL) ({ frames := 3, cells := 0, slots := 0, locals := 70 } : Room) (va_Pc [.ref (x 0)] (rw_P D cI cZ cQ cJ (wFl x r cI cZ cQ w q d T st re rc (nI nz)) sz)) (va_Qv (fun u9 : (Nat → Nat → Int32) × (Nat → Int32) × (Nat → Int32) × Int32 => (∀ u v, u < nz → v < nz → isD w (sq u) (sq v) (u9.1 u v))) (rw_B D (va_A (wFl x r cI cZ cQ w q d T st re rc (nI nz)) sz) (fun u9 : (Nat → Nat → Int32) × (Nat → Int32) × (Nat → Int32) × Int32 => wFl x r cI cZ cQ w q d u9.1 u9.2.1 u9.2.2.1 u9.2.2.2 (nI nz))) (va_A (wFl x r cI cZ cQ w q d T st re rc (nI nz)) sz)) 0 0 (va_A (wFl x r cI cZ cQ w q d T st re rc (nI nz)) sz) := by
  refine Met.ofW (cc := cX1_measureAll) (maxL := 2) (ret := none) (by decide) rfl ?_
  intro p e s m args below meth c s₁ B hml hv
  obtain ⟨rfl, hsz, hP, hSt, hD0⟩ := hv
  have hx := B.exec
  have hb := B.bytes
  have hr := B.returns
  have hts : ∀ w ∈ ALL, w.before ([.ref (x 0)] : List Value).toArray s = true := fun w h => atoms_spec (ws := (.code yX1_measureAll cX1_measureAll 2 none :: ALL)) B.pre w (List.mem_cons_of_mem _ h)
  have hown : s.vm.findClass RX1 = some m.cls := findClass_of_methodNamed B.named
  have hlocks := B.notSynchronized
  subst hsz
  have hD := hD0.self (sz := s.heap.size)
  clear hD0
  generalize hAe : va_A (wFl x r cI cZ cQ w q d T st re rc (nI nz)) s.heap.size = A at hD ⊢
  have hA : ∀ q : Nat, s.heap.size ≤ q → A q := fun q h => by rw [← hAe]; exact Or.inr h
  have hS : va_S A s.heap s.heap [] := va_S.rf
  have hl := lv_entry ([.ref (x 0)]) (n := 2) (Nat.le_of_ble_eq_true rfl)
  rw [lg_entry_eq]
  generalize (lg_sl ([.ref (x 0)]) ++ List.replicate (2 - (lg_sl ([.ref (x 0)])).length) Slot.unset).toArray = ls at hl ⊢
  have hl : lv_has ls 2 [(0, .ref (x 0))] := hl
  obtain ⟨H, hHe⟩ : ∃ H : Heap, H = s.heap := ⟨_, rfl⟩
  obtain ⟨locs, hLe⟩ : ∃ L : List Loc, L = [] := ⟨_, rfl⟩
  have hP : va_P D vwCl (wFl x r cI cZ cQ w q d T st re rc (nI nz)) H := by rw [hHe]; exact hP
  have hS : va_S A s.heap H locs := by rw [hHe, hLe]; exact hS
  refine W.eqHL hHe hLe ?_
  refine lv_iconst (v := nI 0) hx hb dX1_measureAll_0 (by decide) ?_
  refine lv_istore_n (lv' := [(1, .int (nI 0)), (0, .ref (x 0))]) hx hb dX1_measureAll_1 rfl hl (by decide) rfl (fun ls hl => ?_)
  have L2 : ∀ (n : Nat) (z : Nat) (T1 : Nat → Nat → Int32) (s1 : Nat → Int32) (e1 : Nat → Int32) (r1 : Int32), (z ≤ nz) → (∀ u v, u < z → v < nz → isD w (sq u) (sq v) (T1 u v)) → (nz - z) < n → ∀ (H : Heap) (locs : List Loc), va_P D vwCl (wFl x r cI cZ cQ w q d T1 s1 e1 r1 (nI nz)) H → va_D A (wFl x r cI cZ cQ w q d T1 s1 e1 r1 (nI nz)) → va_S A s.heap H locs → ∀ (ls : Array Slot), lv_has ls 2 [(0, .ref (x 0)), (1, .int (nI z))] → W p l e ({ frames := 3, cells := 0, slots := 0, locals := 70 } : Room) s m ([.ref (x 0)] : List Value).toArray below meth c H locs 0 0 (MQ below (va_Qv (fun u9 : (Nat → Nat → Int32) × (Nat → Int32) × (Nat → Int32) × Int32 => (∀ u v, u < nz → v < nz → isD w (sq u) (sq v) (u9.1 u v))) (rw_B D A (fun u9 : (Nat → Nat → Int32) × (Nat → Int32) × (Nat → Int32) × Int32 => wFl x r cI cZ cQ w q d u9.1 u9.2.1 u9.2.2.1 u9.2.2.2 (nI nz))) A) ([.ref (x 0)] : List Value).toArray s 0 0 A) (F0 m 2 ls []) := by
    intro n
    induction n with
    | zero =>
      intro z T1 s1 e1 r1 hz hT hm
      exact absurd hm (by omega)
    | succ n ih =>
      intro z T1 s1 e1 r1 hz hT hm H locs hP hD hS ls hl
      have ih_L2 := ih
      refine lv_iload_n hx hb dX1_measureAll_2 rfl (lv_at hl 1 rfl) ?_
      refine lv_aload_n hx hb dX1_measureAll_3 rfl (lv_at hl 0 rfl) ?_
      refine va_get (D := D) (ci := 1) (v := .int (nI nz)) (C := RX1) (T := TX1) (N := 8) hx hb hts tu_X1 hown hSt.1 hP 0 rfl rfl 7 (by decide) (hts _ t1_51) (fun _ h9 => h9) rfl dX1_measureAll_4 ?_
      refine lv_icmp_ge (tgt := 21) hx hb dX1_measureAll_7 (by decide) (fun c_1 => ?_) (fun c_1 => ?_)
      · have c_1 := z_le (by omega) (by omega) c_1
        have hP9 : va_P D vwCl (wFl x r cI cZ cQ w q d T1 s1 e1 r1 (nI nz)) H := hP
        have hD9 : va_D A (wFl x r cI cZ cQ w q d T1 s1 e1 r1 (nI nz)) := hD
        have g_2 : ∀ u v, u < nz → v < nz → isD w (sq u) (sq v) (T1 u v) := fun u v hu hv => hT u v (by omega) hv
        exact W.vret hx hb hr (fun t9 ht9 hW9 => ⟨⟨(T1, s1, e1, r1), rfl, g_2, by rw [ht9]; exact hP9, hD9⟩, hS.F ht9⟩) hS.2.2 dX1_measureAll_21
      · have c_1 := z_nle (by omega) (by omega) c_1
        refine lv_aload_n hx hb dX1_measureAll_10 rfl (lv_at hl 0 rfl) ?_
        refine lv_iload_n hx hb dX1_measureAll_11 rfl (lv_at hl 1 rfl) ?_
        refine rw_v (wr := ([] : va_W)) (w_V (As := [.int (nI z)]) ⟨hx, hb, hml, hown, hts⟩ (c_X1_measureFrom l D cI cZ cQ cJ x r w q d T1 s1 e1 r1 sq nz z H.size (by first | assumption | omega) (by first | assumption | omega) hq) (gV t2_159 t2_161 t0_5 t1_3 t2_162) rfl rfl hd_X1_measureFrom ⟨Nat.le_of_ble_eq_true rfl, Nat.le_of_ble_eq_true rfl⟩ (rw_pre hP hD hSt [0, 1, 2, 3, 4, 5, 6, 7, 8, 9, 10, 11, 12, 13] rfl (by decide)) (va_recv hSt.1 hP (ci := 1) (q0 := 0) rfl rfl) rfl hl.1 (rest := []) rfl (Nat.le_of_ble_eq_true rfl) dX1_measureAll_12 ⟨Nat.le_of_ble_eq_true rfl, Nat.le_of_ble_eq_true rfl⟩) hP hD hS hA [0, 1, 2, 3, 4, 5, 6, 7, 8, 9, 10, 11, 12, 13] [] rfl rfl (by decide) (by decide) (fun  u_7 H locs hw9 hP hD hS => ?_)
        obtain ⟨j_3, j_4, j_5, j_6⟩ := u_7
        obtain ⟨f_8, f_9⟩ := hw9
        have hT1 : ∀ v, v < nz → isD w (sq z) (sq v) (j_3 z v) := f_8
        have hT2 : ∀ u v, ¬ (u = z ∧ v < nz) → j_3 u v = T1 u v := f_9
        have hP : va_P D vwCl (wFl x r cI cZ cQ w q d j_3 j_4 j_5 j_6 (nI nz)) H := hP
        have hD : va_D A (wFl x r cI cZ cQ w q d j_3 j_4 j_5 j_6 (nI nz)) := hD
        refine lv_iinc (v := nI (z + 1)) (lv' := [(1, .int (nI (z + 1))), (0, .ref (x 0))]) hx hb dX1_measureAll_15 hl (k := 1) rfl (z_inc _) (by decide) rfl (fun ls hl => ?_)
        refine lv_goto (tgt := 2) hx hb dX1_measureAll_18 (by decide) ?_
        exact ih_L2 (z + 1) j_3 j_4 j_5 j_6 (by omega) (fun u v hu hv => if e : u = z then (by subst e; exact hT1 v hv) else (by rw [hT2 u v (fun q => e q.1)]; exact hT u v (by omega) hv)) (by omega) _ _ hP hD hS _ (lv_sub hl [1, 0] rfl)
  exact L2 _ 0 T st re rc (by omega) (fun u v hu => absurd hu (by omega)) (Nat.lt_succ_self _) _ _ hP hD hS _ (lv_sub hl [1, 0] rfl)
theorem hd_X1_measureAll : yX1_measureAll.cls = RX1 ∧ yX1_measureAll.cls ≠ "java/lang/invoke/MethodHandle" ∧ yX1_measureAll.cls ≠ "java/lang/invoke/VarHandle" ∧ (parseMethodDescriptor yX1_measureAll.desc).map (fun d => d.parameters.length) = some 0 := by decide +kernel
set_option maxHeartbeats 4000000 in
set_option maxRecDepth 100000 in
/-- a wall is built or removed -/
theorem c_X1_buildWall (l : Launch) (D : va_G) (cI cZ cQ cJ : ClassId) (x : Nat → Nat) (r : Nat → Nat) (w : Nat → Int32) (q : Nat → Int32) (d : Nat → Int32) (T : Nat → Nat → Int32) (st : Nat → Int32) (re : Nat → Int32) (rc : Int32) (sq : Nat → Nat) (nz : Nat) (i : Nat) (j : Nat) (b : Int32) (sz : Nat) (hi : i < 8) (hj : j < 8) (hn : nz ≤ 7) (hq : ∀ o, o < nz → q o = nI (sq o) ∧ sq o < 64 ∧ w (sq o) = 0) (hw : ∀ k, k < 64 → w k = 0 ∨ w k = 1) (hb01 : b = 0 ∨ b = 1) (hT : ∀ u v, u < nz → v < nz → isD w (sq u) (sq v) (T u v)) (hfr : ∀ o, o < nz → sq o ≠ j * 8 + i) : Met l yX1_buildWall (.code yX1_buildWall cX1_buildWall 6 (some .boolean) :: ALL) ({ frames := 4, cells := 0, slots := 0, locals := 91 } : Room) (va_Pc [.ref (x 0), .int (nI i), .int (nI j), .int b] (rw_P D cI cZ cQ cJ (wFl x r cI cZ cQ w q d T st re rc (nI nz)) sz)) (va_Qi (fun (r9 : Int32) (u9 : (Nat → Nat → Int32) × (Nat → Int32) × (Nat → Int32) × Int32) => (r9 = (w (j * 8 + i))) ∧ (∀ u v, u < nz → v < nz → isD (upd w (j * 8 + i) b) (sq u) (sq v) (u9.1 u v))) (rw_B D (va_A (wFl x r cI cZ cQ w q d T st re rc (nI nz)) sz) (fun u9 : (Nat → Nat → Int32) × (Nat → Int32) × (Nat → Int32) × Int32 => wFl x r cI cZ cQ (upd w (j * 8 + i) b) q d u9.1 u9.2.1 u9.2.2.1 u9.2.2.2 (nI nz))) (va_A (wFl x r cI cZ cQ w q d T st re rc (nI nz)) sz)) 0 0 (va_A (wFl x r cI cZ cQ w q d T st re rc (nI nz)) sz) := by
  refine Met.ofW (cc := cX1_buildWall) (maxL := 6) (ret := (some .boolean)) (by decide) rfl ?_
  intro p e s m args below meth c s₁ B hml hv
  obtain ⟨rfl, hsz, hP, hSt, hD0⟩ := hv
  have hx := B.exec
  have hb := B.bytes
  have hr := B.returns
  have hts : ∀ w ∈ ALL, w.before ([.ref (x 0), .int (nI i), .int (nI j), .int b] : List Value).toArray s = true := fun w h => atoms_spec (ws := (.code yX1_buildWall cX1_buildWall 6 (some .boolean) :: ALL)) B.pre w (List.mem_cons_of_mem _ h)
  have hown : s.vm.findClass RX1 = some m.cls := findClass_of_methodNamed B.named
  have hlocks := B.notSynchronized
  subst hsz
  have hD := hD0.self (sz := s.heap.size)
  clear hD0
  generalize hAe : va_A (wFl x r cI cZ cQ w q d T st re rc (nI nz)) s.heap.size = A at hD ⊢
  have hA : ∀ q : Nat, s.heap.size ≤ q → A q := fun q h => by rw [← hAe]; exact Or.inr h
  have hS : va_S A s.heap s.heap [] := va_S.rf
  have hl := lv_entry ([.ref (x 0), .int (nI i), .int (nI j), .int b]) (n := 6) (Nat.le_of_ble_eq_true rfl)
  rw [lg_entry_eq]
  generalize (lg_sl ([.ref (x 0), .int (nI i), .int (nI j), .int b]) ++ List.replicate (6 - (lg_sl ([.ref (x 0), .int (nI i), .int (nI j), .int b])).length) Slot.unset).toArray = ls at hl ⊢
  have hl : lv_has ls 6 [(0, .ref (x 0)), (1, .int (nI i)), (2, .int (nI j)), (3, .int b)] := hl
  obtain ⟨H, hHe⟩ : ∃ H : Heap, H = s.heap := ⟨_, rfl⟩
  obtain ⟨locs, hLe⟩ : ∃ L : List Loc, L = [] := ⟨_, rfl⟩
  have hP : va_P D vwCl (wFl x r cI cZ cQ w q d T st re rc (nI nz)) H := by rw [hHe]; exact hP
  have hS : va_S A s.heap H locs := by rw [hHe, hLe]; exact hS
  refine W.eqHL hHe hLe ?_
  refine lv_iload_n hx hb dX1_buildWall_0 rfl (lv_at hl 1 rfl) ?_
  refine lv_iload_n hx hb dX1_buildWall_1 rfl (lv_at hl 2 rfl) ?_
  refine ro_S (As := [.int (nI i), .int (nI j)]) (rest := []) (v := nI (j * 8 + i)) ⟨hx, hb, hml, hown, hts⟩ (c_X1_squareAt l D cI cZ cQ cJ i j) (gS t2_132 t2_133 t1_3 t2_134) rfl rfl hd_X1_squareAt ⟨Nat.le_of_ble_eq_true rfl, Nat.le_of_ble_eq_true rfl⟩ va_P_nil hSt rfl hl.1 rfl (Nat.le_of_ble_eq_true rfl) dX1_buildWall_2 (Nat.zero_le _) (Nat.zero_le _) ?_
  refine lv_istore (lv' := [(4, .int (nI (j * 8 + i))), (0, .ref (x 0)), (1, .int (nI i)), (2, .int (nI j)), (3, .int b)]) hx hb dX1_buildWall_5 hl (by decide) rfl (fun ls hl => ?_)
  refine lv_aload_n hx hb dX1_buildWall_7 rfl (lv_at hl 1 rfl) ?_
  refine va_get (D := D) (ci := 1) (v := .ref (x 1)) (C := RX1) (T := TX1) (N := 8) hx hb hts tu_X1 hown hSt.1 hP 0 rfl rfl 0 (by decide) (hts _ t1_40) (fun _ h9 => h9) rfl dX1_buildWall_8 ?_
  refine lv_iload hx hb dX1_buildWall_11 (lv_at hl 0 rfl) ?_
  refine r_zald hx hb hSt.1 hP 1 1 rfl rfl (k := (j * 8 + i)) (by omega) (by omega) dX1_buildWall_13 ?_
  refine lv_istore (lv' := [(5, .int (w (j * 8 + i))), (4, .int (nI (j * 8 + i))), (0, .ref (x 0)), (1, .int (nI i)), (2, .int (nI j)), (3, .int b)]) hx hb dX1_buildWall_14 hl (by decide) rfl (fun ls hl => ?_)
  refine lv_iload hx hb dX1_buildWall_16 (lv_at hl 0 rfl) ?_
  refine lv_iload_n hx hb dX1_buildWall_18 rfl (lv_at hl 5 rfl) ?_
  refine lv_icmp_eq (tgt := 34) hx hb dX1_buildWall_19 (by decide) (fun c_1 => ?_) (fun c_1 => ?_)
  · refine lv_iload hx hb dX1_buildWall_34 (lv_at hl 0 rfl) ?_
    have e9 : upd w (j * 8 + i) b = w := upd_id c_1
    have hP9 : va_P D vwCl (wFl x r cI cZ cQ (upd w (j * 8 + i) b) q d T st re rc (nI nz)) H := by rw [e9]; exact hP
    have hD9 : va_D A (wFl x r cI cZ cQ (upd w (j * 8 + i) b) q d T st re rc (nI nz)) := by rw [e9]; exact hD
    have g_2 : ∀ u v, u < nz → v < nz → isD (upd w (j * 8 + i) b) (sq u) (sq v) (T u v) := by rw [e9]; exact hT
    exact W.zret (v := w (j * 8 + i)) hx hb hr (b01_nar' (hw _ (by omega))) (fun t9 ht9 hW9 => ⟨⟨w (j * 8 + i), (T, st, re, rc), rfl, ⟨rfl, g_2⟩, by rw [ht9]; exact hP9, hD9⟩, hS.F ht9⟩) hS.2.2 dX1_buildWall_36
  · refine lv_aload_n hx hb dX1_buildWall_22 rfl (lv_at hl 2 rfl) ?_
    refine va_get (D := D) (ci := 1) (v := .ref (x 1)) (C := RX1) (T := TX1) (N := 8) hx hb hts tu_X1 hown hSt.1 hP 0 rfl rfl 0 (by decide) (hts _ t1_40) (fun _ h9 => h9) rfl dX1_buildWall_23 ?_
    refine lv_iload hx hb dX1_buildWall_26 (lv_at hl 1 rfl) ?_
    refine lv_iload_n hx hb dX1_buildWall_28 rfl (lv_at hl 5 rfl) ?_
    refine r_zast hx hb hSt.1 hP hD hS 1 1 rfl rfl (b01_nar hb01) (k := (j * 8 + i)) (by omega) (by omega) dX1_buildWall_29 (fun H locs hP hD hS => ?_)
    have hP : va_P D vwCl (wFl x r cI cZ cQ (upd w (j * 8 + i) b) q d T st re rc (nI nz)) H := hP
    have hD : va_D A (wFl x r cI cZ cQ (upd w (j * 8 + i) b) q d T st re rc (nI nz)) := hD
    refine lv_aload_n hx hb dX1_buildWall_30 rfl (lv_at hl 2 rfl) ?_
    refine rw_v (wr := ([] : va_W)) (w_V (As := []) ⟨hx, hb, hml, hown, hts⟩ (c_X1_measureAll l D cI cZ cQ cJ x r (upd w (j * 8 + i) b) q d T st re rc sq nz H.size (by first | assumption | omega) (fun o ho => ⟨(hq o ho).1, (hq o ho).2.1, by rw [pk_un (hfr o ho)]; exact (hq o ho).2.2⟩)) (gV t2_155 t2_157 t0_4 t1_3 t2_158) rfl rfl hd_X1_measureAll ⟨Nat.le_of_ble_eq_true rfl, Nat.le_of_ble_eq_true rfl⟩ (rw_pre hP hD hSt [0, 1, 2, 3, 4, 5, 6, 7, 8, 9, 10, 11, 12, 13] rfl (by decide)) (va_recv hSt.1 hP (ci := 1) (q0 := 0) rfl rfl) rfl hl.1 (rest := []) rfl (Nat.le_of_ble_eq_true rfl) dX1_buildWall_31 ⟨Nat.le_of_ble_eq_true rfl, Nat.le_of_ble_eq_true rfl⟩) hP hD hS hA [0, 1, 2, 3, 4, 5, 6, 7, 8, 9, 10, 11, 12, 13] [] rfl rfl (by decide) (by decide) (fun  u_7 H locs hw9 hP hD hS => ?_)
    obtain ⟨j_3, j_4, j_5, j_6⟩ := u_7
    have f_8 := hw9
    have hT : ∀ u v, u < nz → v < nz → isD (upd w (j * 8 + i) b) (sq u) (sq v) (j_3 u v) := f_8
    have hP : va_P D vwCl (wFl x r cI cZ cQ (upd w (j * 8 + i) b) q d j_3 j_4 j_5 j_6 (nI nz)) H := hP
    have hD : va_D A (wFl x r cI cZ cQ (upd w (j * 8 + i) b) q d j_3 j_4 j_5 j_6 (nI nz)) := hD
    refine lv_iload hx hb dX1_buildWall_34 (lv_at hl 0 rfl) ?_
    have hP9 : va_P D vwCl (wFl x r cI cZ cQ (upd w (j * 8 + i) b) q d j_3 j_4 j_5 j_6 (nI nz)) H := hP
    have hD9 : va_D A (wFl x r cI cZ cQ (upd w (j * 8 + i) b) q d j_3 j_4 j_5 j_6 (nI nz)) := hD
    have g_9 : ∀ u v, u < nz → v < nz → isD (upd w (j * 8 + i) b) (sq u) (sq v) (j_3 u v) := hT
    exact W.zret (v := w (j * 8 + i)) hx hb hr (b01_nar' (hw _ (by omega))) (fun t9 ht9 hW9 => ⟨⟨w (j * 8 + i), (j_3, j_4, j_5, j_6), rfl, ⟨rfl, g_9⟩, by rw [ht9]; exact hP9, hD9⟩, hS.F ht9⟩) hS.2.2 dX1_buildWall_36
set_option maxHeartbeats 4000000 in
set_option maxRecDepth 100000 in
/-- a zone is opened -/
theorem c_X1_openZone (l : Launch) (D : va_G) (cI cZ cQ cJ : ClassId) (x : Nat → Nat) (r : Nat → Nat) (w : Nat → Int32) (q : Nat → Int32) (d : Nat → Int32) (T : Nat → Nat → Int32) (st : Nat → Int32) (re : Nat → Int32) (rc : Int32) (sq : Nat → Nat) (nz : Nat) (i : Nat) (j : Nat) (b : Int32) (sz : Nat) (hi : i < 8) (hj : j < 8) (hn : nz < 7) (hq : ∀ o, o < nz → q o = nI (sq o) ∧ sq o < 64 ∧ w (sq o) = 0) (hws : w (j * 8 + i) = 0) : Met l yX1_openZone (.code yX1_openZone cX1_openZone 5 (some .int) :: ALL) ({ frames := 4, cells := 0, slots := 0, locals := 91 } : Room) (va_Pc [.ref (x 0), .int (nI i), .int (nI j), .int b] (rw_P D cI cZ cQ cJ (wFl x r cI cZ cQ w q d T st re rc (nI nz)) sz)) (va_Qi (fun (r9 : Int32) (u9 : (Nat → Nat → Int32) × (Nat → Int32) × (Nat → Int32) × Int32) => (r9 = (nI nz)) ∧ (∀ u v, u < nz + 1 → v < nz + 1 → isD w (updN sq nz (j * 8 + i) u) (updN sq nz (j * 8 + i) v) (u9.1 u v))) (rw_B D (va_A (wFl x r cI cZ cQ w q d T st re rc (nI nz)) sz) (fun u9 : (Nat → Nat → Int32) × (Nat → Int32) × (Nat → Int32) × Int32 => wFl x r cI cZ cQ w (upd q nz (nI (j * 8 + i))) (upd d nz b) u9.1 u9.2.1 u9.2.2.1 u9.2.2.2 (nI (nz + 1)))) (va_A (wFl x r cI cZ cQ w q d T st re rc (nI nz)) sz)) 0 0 (va_A (wFl x r cI cZ cQ w q d T st re rc (nI nz)) sz) := by
  refine Met.ofW (cc := cX1_openZone) (maxL := 5) (ret := (some .int)) (by decide) rfl ?_
  intro p e s m args below meth c s₁ B hml hv
  obtain ⟨rfl, hsz, hP, hSt, hD0⟩ := hv
  have hx := B.exec
  have hb := B.bytes
  have hr := B.returns
  have hts : ∀ w ∈ ALL, w.before ([.ref (x 0), .int (nI i), .int (nI j), .int b] : List Value).toArray s = true := fun w h => atoms_spec (ws := (.code yX1_openZone cX1_openZone 5 (some .int) :: ALL)) B.pre w (List.mem_cons_of_mem _ h)
  have hown : s.vm.findClass RX1 = some m.cls := findClass_of_methodNamed B.named
  have hlocks := B.notSynchronized
  subst hsz
  have hD := hD0.self (sz := s.heap.size)
  clear hD0
  generalize hAe : va_A (wFl x r cI cZ cQ w q d T st re rc (nI nz)) s.heap.size = A at hD ⊢
  have hA : ∀ q : Nat, s.heap.size ≤ q → A q := fun q h => by rw [← hAe]; exact Or.inr h
  have hS : va_S A s.heap s.heap [] := va_S.rf
  have hl := lv_entry ([.ref (x 0), .int (nI i), .int (nI j), .int b]) (n := 5) (Nat.le_of_ble_eq_true rfl)
  rw [lg_entry_eq]
  generalize (lg_sl ([.ref (x 0), .int (nI i), .int (nI j), .int b]) ++ List.replicate (5 - (lg_sl ([.ref (x 0), .int (nI i), .int (nI j), .int b])).length) Slot.unset).toArray = ls at hl ⊢
  have hl : lv_has ls 5 [(0, .ref (x 0)), (1, .int (nI i)), (2, .int (nI j)), (3, .int b)] := hl
  obtain ⟨H, hHe⟩ : ∃ H : Heap, H = s.heap := ⟨_, rfl⟩
  obtain ⟨locs, hLe⟩ : ∃ L : List Loc, L = [] := ⟨_, rfl⟩
  have hP : va_P D vwCl (wFl x r cI cZ cQ w q d T st re rc (nI nz)) H := by rw [hHe]; exact hP
  have hS : va_S A s.heap H locs := by rw [hHe, hLe]; exact hS
  refine W.eqHL hHe hLe ?_
  refine lv_aload_n hx hb dX1_openZone_0 rfl (lv_at hl 0 rfl) ?_
  refine va_get (D := D) (ci := 1) (v := .int (nI nz)) (C := RX1) (T := TX1) (N := 8) hx hb hts tu_X1 hown hSt.1 hP 0 rfl rfl 7 (by decide) (hts _ t1_51) (fun _ h9 => h9) rfl dX1_openZone_1 ?_
  refine lv_istore (lv' := [(4, .int (nI nz)), (0, .ref (x 0)), (1, .int (nI i)), (2, .int (nI j)), (3, .int b)]) hx hb dX1_openZone_4 hl (by decide) rfl (fun ls hl => ?_)
  refine lv_aload_n hx hb dX1_openZone_6 rfl (lv_at hl 1 rfl) ?_
  refine va_get (D := D) (ci := 1) (v := .ref (x 2)) (C := RX1) (T := TX1) (N := 8) hx hb hts tu_X1 hown hSt.1 hP 0 rfl rfl 1 (by decide) (hts _ t1_41) (fun _ h9 => h9) rfl dX1_openZone_7 ?_
  refine lv_iload hx hb dX1_openZone_10 (lv_at hl 0 rfl) ?_
  refine lv_iload_n hx hb dX1_openZone_12 rfl (lv_at hl 2 rfl) ?_
  refine lv_iload_n hx hb dX1_openZone_13 rfl (lv_at hl 3 rfl) ?_
  refine ro_S (As := [.int (nI i), .int (nI j)]) (rest := [.int (nI nz), .ref (x 2)]) (v := nI (j * 8 + i)) ⟨hx, hb, hml, hown, hts⟩ (c_X1_squareAt l D cI cZ cQ cJ i j) (gS t2_132 t2_133 t1_3 t2_134) rfl rfl hd_X1_squareAt ⟨Nat.le_of_ble_eq_true rfl, Nat.le_of_ble_eq_true rfl⟩ va_P_nil hSt rfl hl.1 rfl (Nat.le_of_ble_eq_true rfl) dX1_openZone_14 (Nat.zero_le _) (Nat.zero_le _) ?_
  refine r_iast hx hb hSt.1 hP hD hS 2 0 rfl rfl (k := nz) (by omega) (by omega) dX1_openZone_17 (fun H locs hP hD hS => ?_)
  have hP : va_P D vwCl (wFl x r cI cZ cQ w (upd q nz (nI (j * 8 + i))) d T st re rc (nI nz)) H := hP
  have hD : va_D A (wFl x r cI cZ cQ w (upd q nz (nI (j * 8 + i))) d T st re rc (nI nz)) := hD
  refine lv_aload_n hx hb dX1_openZone_18 rfl (lv_at hl 1 rfl) ?_
  refine va_get (D := D) (ci := 1) (v := .ref (x 3)) (C := RX1) (T := TX1) (N := 8) hx hb hts tu_X1 hown hSt.1 hP 0 rfl rfl 2 (by decide) (hts _ t1_42) (fun _ h9 => h9) rfl dX1_openZone_19 ?_
  refine lv_iload hx hb dX1_openZone_22 (lv_at hl 0 rfl) ?_
  refine lv_iload_n hx hb dX1_openZone_24 rfl (lv_at hl 4 rfl) ?_
  refine r_iast hx hb hSt.1 hP hD hS 3 0 rfl rfl (k := nz) (by omega) (by omega) dX1_openZone_25 (fun H locs hP hD hS => ?_)
  have hP : va_P D vwCl (wFl x r cI cZ cQ w (upd q nz (nI (j * 8 + i))) (upd d nz b) T st re rc (nI nz)) H := hP
  have hD : va_D A (wFl x r cI cZ cQ w (upd q nz (nI (j * 8 + i))) (upd d nz b) T st re rc (nI nz)) := hD
  refine lv_aload_n hx hb dX1_openZone_26 rfl (lv_at hl 1 rfl) ?_
  refine lv_dup hx hb dX1_openZone_27 rfl ?_
  refine va_get (D := D) (ci := 1) (v := .int (nI nz)) (C := RX1) (T := TX1) (N := 8) hx hb hts tu_X1 hown hSt.1 hP 0 rfl rfl 7 (by decide) (hts _ t1_51) (fun _ h9 => h9) rfl dX1_openZone_28 ?_
  refine lv_iconst (v := nI 1) hx hb dX1_openZone_31 (by decide) ?_
  refine r_addn hx hb dX1_openZone_32 ?_
  refine va_put (D := D) (ci := 1) (v := .int (nI (nz + 1))) (ty := .int) (C := RX1) (T := TX1) (N := 8) hx hb hts tu_X1 tyX1 tyX1_ok nmX1 hown hSt.1 hP hD hS 0 rfl rfl 7 (by decide) (hts _ t1_51) (fun _ h9 => h9) rfl (by decide +kernel) rfl rfl (Nat.le_of_ble_eq_true rfl) dX1_openZone_33 (fun H locs hP hD hS => ?_)
  have hP : va_P D vwCl (wFl x r cI cZ cQ w (upd q nz (nI (j * 8 + i))) (upd d nz b) T st re rc (nI (nz + 1))) H := hP
  have hD : va_D A (wFl x r cI cZ cQ w (upd q nz (nI (j * 8 + i))) (upd d nz b) T st re rc (nI (nz + 1))) := hD
  refine lv_aload_n hx hb dX1_openZone_36 rfl (lv_at hl 1 rfl) ?_
  refine rw_v (wr := ([] : va_W)) (w_V (As := []) ⟨hx, hb, hml, hown, hts⟩ (c_X1_measureAll l D cI cZ cQ cJ x r w (upd q nz (nI (j * 8 + i))) (upd d nz b) T st re rc (updN sq nz (j * 8 + i)) (nz + 1) H.size (by first | assumption | omega) (fun o ho => if e : o = nz then (by subst e; rw [pk_us, updN_s]; exact ⟨rfl, by omega, hws⟩) else (by rw [pk_un e, updN_n _ _ e]; exact hq o (by omega)))) (gV t2_155 t2_157 t0_4 t1_3 t2_158) rfl rfl hd_X1_measureAll ⟨Nat.le_of_ble_eq_true rfl, Nat.le_of_ble_eq_true rfl⟩ (rw_pre hP hD hSt [0, 1, 2, 3, 4, 5, 6, 7, 8, 9, 10, 11, 12, 13] rfl (by decide)) (va_recv hSt.1 hP (ci := 1) (q0 := 0) rfl rfl) rfl hl.1 (rest := []) rfl (Nat.le_of_ble_eq_true rfl) dX1_openZone_37 ⟨Nat.le_of_ble_eq_true rfl, Nat.le_of_ble_eq_true rfl⟩) hP hD hS hA [0, 1, 2, 3, 4, 5, 6, 7, 8, 9, 10, 11, 12, 13] [] rfl rfl (by decide) (by decide) (fun  u_5 H locs hw9 hP hD hS => ?_)
  obtain ⟨j_1, j_2, j_3, j_4⟩ := u_5
  have f_6 := hw9
  have hT : ∀ u v, u < (nz + 1) → v < (nz + 1) → isD w ((updN sq nz (j * 8 + i)) u) ((updN sq nz (j * 8 + i)) v) (j_1 u v) := f_6
  have hP : va_P D vwCl (wFl x r cI cZ cQ w (upd q nz (nI (j * 8 + i))) (upd d nz b) j_1 j_2 j_3 j_4 (nI (nz + 1))) H := hP
  have hD : va_D A (wFl x r cI cZ cQ w (upd q nz (nI (j * 8 + i))) (upd d nz b) j_1 j_2 j_3 j_4 (nI (nz + 1))) := hD
  refine lv_iload hx hb dX1_openZone_40 (lv_at hl 0 rfl) ?_
  have hP9 : va_P D vwCl (wFl x r cI cZ cQ w (upd q nz (nI (j * 8 + i))) (upd d nz b) j_1 j_2 j_3 j_4 (nI (nz + 1))) H := hP
  have hD9 : va_D A (wFl x r cI cZ cQ w (upd q nz (nI (j * 8 + i))) (upd d nz b) j_1 j_2 j_3 j_4 (nI (nz + 1))) := hD
  have g_7 : ∀ u v, u < nz + 1 → v < nz + 1 → isD w (updN sq nz (j * 8 + i) u) (updN sq nz (j * 8 + i) v) (j_1 u v) := hT
  exact W.iret (v := nI nz) hx hb hr (fun t9 ht9 hW9 => ⟨⟨nI nz, (j_1, j_2, j_3, j_4), rfl, ⟨rfl, g_7⟩, by rw [ht9]; exact hP9, hD9⟩, hS.F ht9⟩) hS.2.2 dX1_openZone_42
theorem hd_X1_buildWall : yX1_buildWall.cls = RX1 ∧ yX1_buildWall.cls ≠ "java/lang/invoke/MethodHandle" ∧ yX1_buildWall.cls ≠ "java/lang/invoke/VarHandle" ∧ (parseMethodDescriptor yX1_buildWall.desc).map (fun d => d.parameters.length) = some 3 := by decide +kernel
theorem hd_X1_openZone : yX1_openZone.cls = RX1 ∧ yX1_openZone.cls ≠ "java/lang/invoke/MethodHandle" ∧ yX1_openZone.cls ≠ "java/lang/invoke/VarHandle" ∧ (parseMethodDescriptor yX1_openZone.desc).map (fun d => d.parameters.length) = some 3 := by decide +kernel
