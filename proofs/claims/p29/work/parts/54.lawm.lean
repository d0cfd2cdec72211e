set_option maxHeartbeats 4000000 in
set_option maxRecDepth 100000 in
theorem c_L_wall (l : Launch) (D : va_G) (cI cZ cQ cJ : ClassId) (ad : Nat) (o : Nat) (pa : Nat) (ka : Nat) (fx : Nat → Nat) (sx : Nat → Nat) (x : Nat → Nat) (r : Nat → Nat) (w : Nat → Int32) (q : Nat → Int32) (d : Nat → Int32) (T : Nat → Nat → Int32) (st : Nat → Int32) (re : Nat → Int32) (rc : Int32) (nz : Nat) (y : Nat → Nat) (sq : Nat → Nat) (co : Int32) (ro : Int32) (b : Int32) (sz : Nat) (hnz : nz ≤ 7) (hq : ∀ o, o < nz → q o = nI (sq o) ∧ sq o < 64 ∧ w (sq o) = 0) (hw : ∀ k, k < 64 → w k = 0 ∨ w k = 1) (hb1 : b = 0 ∨ b = 1) (hT : ∀ u v, u < nz → v < nz → isD w (sq u) (sq v) (T u v)) (hfl : l.stackTraces = false) : vx_Met l yL_wall (.codeWith yL_wall cL_wall 5 (some .int) [(0, 15, 16, 14), (0, 15, 21, 16)] :: ALL) ({ frames := 8, cells := 2, slots := 12, locals := 139 } : Room) (va_Pc [.ref ad, .int co, .int ro, .int b] (rx_P D cI cZ cQ cJ ((wDp ad o pa ka (fx 0) (sx 0)) ++ ((wOf o (x 0) (y 0)) ++ (wFl x r cI cZ cQ w q d T st re rc (nI nz)))) sz)) (va_Qi (fun (r9 : Int32) (u9 : Nat × Int32 × (Nat → Int32) × (Nat → Nat → Int32) × (Nat → Int32) × (Nat → Int32) × Int32) => (r9 = (anB u9.1 u9.2.1)) ∧ (sSetWall nz q w co ro b u9.1 u9.2.1 u9.2.2.1) ∧ (∀ u v, u < nz → v < nz → isD u9.2.2.1 (sq u) (sq v) (u9.2.2.2.1 u v))) (rw_B D (va_A ((wDp ad o pa ka (fx 0) (sx 0)) ++ ((wOf o (x 0) (y 0)) ++ (wFl x r cI cZ cQ w q d T st re rc (nI nz)))) sz) (fun u9 : Nat × Int32 × (Nat → Int32) × (Nat → Nat → Int32) × (Nat → Int32) × (Nat → Int32) × Int32 => (wDp ad o pa ka (fx 0) (sx 0)) ++ ((wOf o (x 0) (y 0)) ++ (wFl x r cI cZ cQ u9.2.2.1 q d u9.2.2.2.1 u9.2.2.2.2.1 u9.2.2.2.2.2.1 u9.2.2.2.2.2.2 (nI nz))))) (va_A ((wDp ad o pa ka (fx 0) (sx 0)) ++ ((wOf o (x 0) (y 0)) ++ (wFl x r cI cZ cQ w q d T st re rc (nI nz)))) sz)) (rx_X (fun (E9 : String) (x9 : Unit) => False) D (va_A ((wDp ad o pa ka (fx 0) (sx 0)) ++ ((wOf o (x 0) (y 0)) ++ (wFl x r cI cZ cQ w q d T st re rc (nI nz)))) sz) (fun x9 : Unit => (wDp ad o pa ka (fx 0) (sx 0)) ++ ((wOf o (x 0) (y 0)) ++ (wFl x r cI cZ cQ w q d T st re rc (nI nz))))) 2 12 (va_A ((wDp ad o pa ka (fx 0) (sx 0)) ++ ((wOf o (x 0) (y 0)) ++ (wFl x r cI cZ cQ w q d T st re rc (nI nz)))) sz) := by
  refine vx_ofWH (cc := cL_wall) (maxL := 5) (ret := (some .int)) (hh := [(0, 15, 16, 14), (0, 15, 21, 16)]) (by decide) rfl ?_
  intro p e s m args below meth c s₁ B hml hv
  obtain ⟨rfl, ⟨hsz, hP, hSt, hD0⟩, hDc, hZ⟩ := hv
  change W p l e ({ frames := 8, cells := 2, slots := 12, locals := 139 } : Room) s m _ below meth c s.heap [] 0 0 _ _
  have hx := B.exec
  have hb := B.bytes
  have hr := B.returns
  have hts : ∀ w ∈ ALL, w.before ([.ref ad, .int co, .int ro, .int b] : List Value).toArray s = true := fun w h => atoms_spec (ws := (.codeWith yL_wall cL_wall 5 (some .int) [(0, 15, 16, 14), (0, 15, 21, 16)] :: ALL)) B.pre w (List.mem_cons_of_mem _ h)
  have hown : s.vm.findClass RL = some m.cls := findClass_of_methodNamed B.named
  have hlocks := B.notSynchronized
  have htb : c.exceptionTable.toList = tableOf [(0, 15, 16, 14), (0, 15, 21, 16)] := vx_table (x := yL_wall) B (atoms_spec (ws := (.codeWith yL_wall cL_wall 5 (some .int) [(0, 15, 16, 14), (0, 15, 21, 16)] :: ALL)) B.pre _ List.mem_cons_self)
  subst hsz
  have hD := hD0.self (sz := s.heap.size)
  clear hD0
  generalize hAe : va_A ((wDp ad o pa ka (fx 0) (sx 0)) ++ ((wOf o (x 0) (y 0)) ++ (wFl x r cI cZ cQ w q d T st re rc (nI nz)))) s.heap.size = A at hD hZ ⊢
  have hA : ∀ q : Nat, s.heap.size ≤ q → A q := fun q h => by rw [← hAe]; exact Or.inr h
  have hS : va_S A s.heap s.heap [] := va_S.rf
  have hl := lv_entry ([.ref ad, .int co, .int ro, .int b]) (n := 5) (Nat.le_of_ble_eq_true rfl)
  rw [lg_entry_eq]
  generalize (lg_sl ([.ref ad, .int co, .int ro, .int b]) ++ List.replicate (5 - (lg_sl ([.ref ad, .int co, .int ro, .int b])).length) Slot.unset).toArray = ls at hl ⊢
  have hl : lv_has ls 5 [(0, .ref ad), (1, .int co), (2, .int ro), (3, .int b)] := hl
  obtain ⟨H, hHe⟩ : ∃ H : Heap, H = s.heap := ⟨_, rfl⟩
  obtain ⟨locs, hLe⟩ : ∃ L : List Loc, L = [] := ⟨_, rfl⟩
  have hP : va_P D vwCl ((wDp ad o pa ka (fx 0) (sx 0)) ++ ((wOf o (x 0) (y 0)) ++ (wFl x r cI cZ cQ w q d T st re rc (nI nz)))) H := by rw [hHe]; exact hP
  have hS : va_S A s.heap H locs := by rw [hHe, hLe]; exact hS
  refine W.eqHL hHe hLe ?_
  refine lv_aload_n hx hb dL_wall_0 rfl (lv_at hl 0 rfl) ?_
  refine lv_iload_n hx hb dL_wall_1 rfl (lv_at hl 1 rfl) ?_
  refine lv_iload_n hx hb dL_wall_2 rfl (lv_at hl 2 rfl) ?_
  refine lv_iload_n hx hb dL_wall_3 rfl (lv_at hl 3 rfl) ?_
  refine rx_i (wr := ([] : va_W)) (w_VX (As := [.int co, .int ro, .int b]) ⟨hx, hb, hml, hown, hts⟩ (c_X7_setWall l D cI cZ cQ cJ ad o pa ka fx sx x r w q d T st re rc nz y sq co ro b H.size (by first | assumption | omega) (by first | assumption | omega) (by first | assumption | omega) (by first | assumption | omega) (by first | assumption | omega) (by first | assumption | omega)) (gV t2_49 t2_50 t2_51 t1_1 t2_52) rfl rfl hd_X7_setWall ⟨Nat.le_of_ble_eq_true rfl, Nat.le_of_ble_eq_true rfl⟩ (rx_pre hP hD hSt hDc hZ hS hA [0, 1, 2, 3, 4, 5, 6, 7, 8, 9, 10, 11, 12, 13, 14, 15] rfl (by decide)) (va_recv hSt.1 hP (ci := 7) (q0 := 0) rfl rfl) rfl hl.1 (rest := []) rfl (Nat.le_of_ble_eq_true rfl) dL_wall_4 ⟨Nat.le_of_ble_eq_true rfl, Nat.le_of_ble_eq_true rfl⟩) hP hD hS hA [0, 1, 2, 3, 4, 5, 6, 7, 8, 9, 10, 11, 12, 13, 14, 15] [] rfl rfl (by decide) (by decide) (fun E9 ce9 q9 x9 H locs hx9 hP hD hS hc91 hc92 hc93 => ?_) (fun r_9 u_7 H locs hw9 hP hD hS => ?_)
  · have hx9 : (E9 = "java/lang/IndexOutOfBoundsException" ∧ sSetWall nz q w co ro b 1 0 w) ∨ (E9 = "java/lang/IllegalStateException" ∧ sSetWall nz q w co ro b 2 0 w) := hx9
    have hP : va_P D vwCl ((wDp ad o pa ka (fx 0) (sx 0)) ++ ((wOf o (x 0) (y 0)) ++ (wFl x r cI cZ cQ w q d T st re rc (nI nz)))) H := hP
    have hD : va_D A ((wDp ad o pa ka (fx 0) (sx 0)) ++ ((wOf o (x 0) (y 0)) ++ (wFl x r cI cZ cQ w q d T st re rc (nI nz)))) := hD
    rcases hx9 with ⟨rfl, hsx⟩ | ⟨rfl, hsx⟩
    · refine vx_catch (own := RL) hown [] ⟨0, 15, 16, 14⟩ [⟨0, 15, 21, 16⟩] (by rw [htb]; rfl) (fun _ h9 => nomatch h9) (by decide) (by decide) (hts _ t2_47) (hSt.2.e 0 rfl) hc91 hc92 hc93 ?_
      refine lv_astore (lv' := [(4, .ref q9), (0, .ref ad), (1, .int co), (2, .int ro), (3, .int b)]) hx hb dL_wall_16 hl (by decide) rfl (fun ls hl => ?_)
      refine lv_bipush (v := (-70 : Int32)) hx hb dL_wall_18 (by decide) ?_
      have hP9 : va_P D vwCl ((wDp ad o pa ka (fx 0) (sx 0)) ++ ((wOf o (x 0) (y 0)) ++ (wFl x r cI cZ cQ w q d T st re rc (nI nz)))) H := hP
      have hD9 : va_D A ((wDp ad o pa ka (fx 0) (sx 0)) ++ ((wOf o (x 0) (y 0)) ++ (wFl x r cI cZ cQ w q d T st re rc (nI nz)))) := hD
      have g_8 : sSetWall nz q w co ro b 1 (0 : Int32) w := hsx
      have g_9 : ∀ u v, u < nz → v < nz → isD w (sq u) (sq v) (T u v) := hT
      refine W.widen (k := 2) (n := 12) (by omega) (by omega) ?_
      exact vx_ret (W.iret (v := (-70 : Int32)) hx hb hr (fun t9 ht9 hW9 => ⟨⟨(-70 : Int32), (1, (0 : Int32), w, T, st, re, rc), rfl, ⟨rfl, g_8, g_9⟩, by rw [ht9]; exact hP9, hD9⟩, hS.F ht9⟩) hS.2.2 dL_wall_20)
    · refine vx_catch (own := RL) hown [⟨0, 15, 16, 14⟩] ⟨0, 15, 21, 16⟩ [] (by rw [htb]; rfl) (List.forall_mem_cons.mpr ⟨Or.inr ⟨by decide, _, hts _ t2_47, hSt.2.p 0 rfl⟩, fun _ h9 => nomatch h9⟩) (by decide) (by decide) (hts _ t2_48) (hSt.2.e 2 rfl) hc91 hc92 hc93 ?_
      refine lv_astore (lv' := [(4, .ref q9), (0, .ref ad), (1, .int co), (2, .int ro), (3, .int b)]) hx hb dL_wall_21 hl (by decide) rfl (fun ls hl => ?_)
      refine lv_bipush (v := (-70 : Int32)) hx hb dL_wall_23 (by decide) ?_
      have hP9 : va_P D vwCl ((wDp ad o pa ka (fx 0) (sx 0)) ++ ((wOf o (x 0) (y 0)) ++ (wFl x r cI cZ cQ w q d T st re rc (nI nz)))) H := hP
      have hD9 : va_D A ((wDp ad o pa ka (fx 0) (sx 0)) ++ ((wOf o (x 0) (y 0)) ++ (wFl x r cI cZ cQ w q d T st re rc (nI nz)))) := hD
      have g_10 : sSetWall nz q w co ro b 2 (0 : Int32) w := hsx
      have g_11 : ∀ u v, u < nz → v < nz → isD w (sq u) (sq v) (T u v) := hT
      refine W.widen (k := 2) (n := 12) (by omega) (by omega) ?_
      exact vx_ret (W.iret (v := (-70 : Int32)) hx hb hr (fun t9 ht9 hW9 => ⟨⟨(-70 : Int32), (2, (0 : Int32), w, T, st, re, rc), rfl, ⟨rfl, g_10, g_11⟩, by rw [ht9]; exact hP9, hD9⟩, hS.F ht9⟩) hS.2.2 dL_wall_25)
  · obtain ⟨j_1, j_2, j_3, j_4, j_5, j_6⟩ := u_7
    obtain ⟨er_9, f_12, f_13⟩ := hw9
    replace er_9 := er_9.symm
    subst er_9
    have hs9 : sSetWall nz q w co ro b 0 j_1 j_2 := f_12
    have hT29 : ∀ u v, u < nz → v < nz → isD j_2 (sq u) (sq v) (j_3 u v) := f_13
    have hP : va_P D vwCl ((wDp ad o pa ka (fx 0) (sx 0)) ++ ((wOf o (x 0) (y 0)) ++ (wFl x r cI cZ cQ j_2 q d j_3 j_4 j_5 j_6 (nI nz)))) H := hP
    have hD : va_D A ((wDp ad o pa ka (fx 0) (sx 0)) ++ ((wOf o (x 0) (y 0)) ++ (wFl x r cI cZ cQ j_2 q d j_3 j_4 j_5 j_6 (nI nz)))) := hD
    refine lv_if_eq (tgt := 14) hx hb dL_wall_7 (by decide) (fun c_14 => ?_) (fun c_14 => ?_)
    · refine lv_iconst (v := nI 0) hx hb dL_wall_14 (by decide) ?_
      have hP9 : va_P D vwCl ((wDp ad o pa ka (fx 0) (sx 0)) ++ ((wOf o (x 0) (y 0)) ++ (wFl x r cI cZ cQ j_2 q d j_3 j_4 j_5 j_6 (nI nz)))) H := hP
      have hD9 : va_D A ((wDp ad o pa ka (fx 0) (sx 0)) ++ ((wOf o (x 0) (y 0)) ++ (wFl x r cI cZ cQ j_2 q d j_3 j_4 j_5 j_6 (nI nz)))) := hD
      have g_15 : sSetWall nz q w co ro b 0 j_1 j_2 := hs9
      have g_16 : ∀ u v, u < nz → v < nz → isD j_2 (sq u) (sq v) (j_3 u v) := hT29
      refine W.widen (k := 2) (n := 12) (by omega) (by omega) ?_
      exact vx_ret (W.iret (v := nI 0) hx hb hr (fun t9 ht9 hW9 => ⟨⟨nI 0, (0, j_1, j_2, j_3, j_4, j_5, j_6), rfl, ⟨by unfold anB; rw [if_pos rfl, if_pos c_14], g_15, g_16⟩, by rw [ht9]; exact hP9, hD9⟩, hS.F ht9⟩) hS.2.2 dL_wall_15)
    · refine lv_iconst (v := nI 1) hx hb dL_wall_10 (by decide) ?_
      refine lv_goto (tgt := 15) hx hb dL_wall_11 (by decide) ?_
      have hP9 : va_P D vwCl ((wDp ad o pa ka (fx 0) (sx 0)) ++ ((wOf o (x 0) (y 0)) ++ (wFl x r cI cZ cQ j_2 q d j_3 j_4 j_5 j_6 (nI nz)))) H := hP
      have hD9 : va_D A ((wDp ad o pa ka (fx 0) (sx 0)) ++ ((wOf o (x 0) (y 0)) ++ (wFl x r cI cZ cQ j_2 q d j_3 j_4 j_5 j_6 (nI nz)))) := hD
      have g_17 : sSetWall nz q w co ro b 0 j_1 j_2 := hs9
      have g_18 : ∀ u v, u < nz → v < nz → isD j_2 (sq u) (sq v) (j_3 u v) := hT29
      refine W.widen (k := 2) (n := 12) (by omega) (by omega) ?_
      exact vx_ret (W.iret (v := nI 1) hx hb hr (fun t9 ht9 hW9 => ⟨⟨nI 1, (0, j_1, j_2, j_3, j_4, j_5, j_6), rfl, ⟨by unfold anB; rw [if_pos rfl, if_neg c_14], g_17, g_18⟩, by rw [ht9]; exact hP9, hD9⟩, hS.F ht9⟩) hS.2.2 dL_wall_15)
set_option maxHeartbeats 4000000 in
set_option maxRecDepth 100000 in
theorem c_L_zone (l : Launch) (D : va_G) (cI cZ cQ cJ : ClassId) (ad : Nat) (o : Nat) (pa : Nat) (ka : Nat) (fx : Nat → Nat) (sx : Nat → Nat) (x : Nat → Nat) (r : Nat → Nat) (w : Nat → Int32) (q : Nat → Int32) (d : Nat → Int32) (T : Nat → Nat → Int32) (st : Nat → Int32) (re : Nat → Int32) (rc : Int32) (nz : Nat) (y : Nat → Nat) (sq : Nat → Nat) (co : Int32) (ro : Int32) (m9 : Int32) (sz : Nat) (hnz : nz ≤ 7) (hq : ∀ o, o < nz → q o = nI (sq o) ∧ sq o < 64 ∧ w (sq o) = 0) (hw : ∀ k, k < 64 → w k = 0 ∨ w k = 1) (hT : ∀ u v, u < nz → v < nz → isD w (sq u) (sq v) (T u v)) (hfl : l.stackTraces = false) : vx_Met l yL_zone (.codeWith yL_zone cL_zone 5 (some .int) [(0, 7, 8, 14), (0, 7, 13, 22), (0, 7, 18, 16)] :: ALL) ({ frames := 8, cells := 3, slots := 18, locals := 138 } : Room) (va_Pc [.ref ad, .int co, .int ro, .int m9] (rx_P D cI cZ cQ cJ ((wDp ad o pa ka (fx 0) (sx 0)) ++ ((wOf o (x 0) (y 0)) ++ (wFl x r cI cZ cQ w q d T st re rc (nI nz)))) sz)) (va_Qi (fun (r9 : Int32) (u9 : Nat × Int32 × (Nat → Int32) × (Nat → Int32) × Nat × (Nat → Nat → Int32) × (Nat → Int32) × (Nat → Int32) × Int32) => (r9 = (an u9.1 u9.2.1)) ∧ (sAddZone nz q d w co ro m9 u9.1 u9.2.1 u9.2.2.2.2.1 u9.2.2.1 u9.2.2.2.1) ∧ (∀ u v, u < u9.2.2.2.2.1 → v < u9.2.2.2.2.1 → isD w ((updN sq nz (sqI co ro)) u) ((updN sq nz (sqI co ro)) v) (u9.2.2.2.2.2.1 u v))) (rw_B D (va_A ((wDp ad o pa ka (fx 0) (sx 0)) ++ ((wOf o (x 0) (y 0)) ++ (wFl x r cI cZ cQ w q d T st re rc (nI nz)))) sz) (fun u9 : Nat × Int32 × (Nat → Int32) × (Nat → Int32) × Nat × (Nat → Nat → Int32) × (Nat → Int32) × (Nat → Int32) × Int32 => (wDp ad o pa ka (fx 0) (sx 0)) ++ ((wOf o (x 0) (y 0)) ++ (wFl x r cI cZ cQ w u9.2.2.1 u9.2.2.2.1 u9.2.2.2.2.2.1 u9.2.2.2.2.2.2.1 u9.2.2.2.2.2.2.2.1 u9.2.2.2.2.2.2.2.2 (nI u9.2.2.2.2.1))))) (va_A ((wDp ad o pa ka (fx 0) (sx 0)) ++ ((wOf o (x 0) (y 0)) ++ (wFl x r cI cZ cQ w q d T st re rc (nI nz)))) sz)) (rx_X (fun (E9 : String) (x9 : Unit) => False) D (va_A ((wDp ad o pa ka (fx 0) (sx 0)) ++ ((wOf o (x 0) (y 0)) ++ (wFl x r cI cZ cQ w q d T st re rc (nI nz)))) sz) (fun x9 : Unit => (wDp ad o pa ka (fx 0) (sx 0)) ++ ((wOf o (x 0) (y 0)) ++ (wFl x r cI cZ cQ w q d T st re rc (nI nz))))) 3 18 (va_A ((wDp ad o pa ka (fx 0) (sx 0)) ++ ((wOf o (x 0) (y 0)) ++ (wFl x r cI cZ cQ w q d T st re rc (nI nz)))) sz) := by
  refine vx_ofWH (cc := cL_zone) (maxL := 5) (ret := (some .int)) (hh := [(0, 7, 8, 14), (0, 7, 13, 22), (0, 7, 18, 16)]) (by decide) rfl ?_
  intro p e s m args below meth c s₁ B hml hv
  obtain ⟨rfl, ⟨hsz, hP, hSt, hD0⟩, hDc, hZ⟩ := hv
  change W p l e ({ frames := 8, cells := 3, slots := 18, locals := 138 } : Room) s m _ below meth c s.heap [] 0 0 _ _
  have hx := B.exec
  have hb := B.bytes
  have hr := B.returns
  have hts : ∀ w ∈ ALL, w.before ([.ref ad, .int co, .int ro, .int m9] : List Value).toArray s = true := fun w h => atoms_spec (ws := (.codeWith yL_zone cL_zone 5 (some .int) [(0, 7, 8, 14), (0, 7, 13, 22), (0, 7, 18, 16)] :: ALL)) B.pre w (List.mem_cons_of_mem _ h)
  have hown : s.vm.findClass RL = some m.cls := findClass_of_methodNamed B.named
  have hlocks := B.notSynchronized
  have htb : c.exceptionTable.toList = tableOf [(0, 7, 8, 14), (0, 7, 13, 22), (0, 7, 18, 16)] := vx_table (x := yL_zone) B (atoms_spec (ws := (.codeWith yL_zone cL_zone 5 (some .int) [(0, 7, 8, 14), (0, 7, 13, 22), (0, 7, 18, 16)] :: ALL)) B.pre _ List.mem_cons_self)
  subst hsz
  have hD := hD0.self (sz := s.heap.size)
  clear hD0
  generalize hAe : va_A ((wDp ad o pa ka (fx 0) (sx 0)) ++ ((wOf o (x 0) (y 0)) ++ (wFl x r cI cZ cQ w q d T st re rc (nI nz)))) s.heap.size = A at hD hZ ⊢
  have hA : ∀ q : Nat, s.heap.size ≤ q → A q := fun q h => by rw [← hAe]; exact Or.inr h
  have hS : va_S A s.heap s.heap [] := va_S.rf
  have hl := lv_entry ([.ref ad, .int co, .int ro, .int m9]) (n := 5) (Nat.le_of_ble_eq_true rfl)
  rw [lg_entry_eq]
  generalize (lg_sl ([.ref ad, .int co, .int ro, .int m9]) ++ List.replicate (5 - (lg_sl ([.ref ad, .int co, .int ro, .int m9])).length) Slot.unset).toArray = ls at hl ⊢
  have hl : lv_has ls 5 [(0, .ref ad), (1, .int co), (2, .int ro), (3, .int m9)] := hl
  obtain ⟨H, hHe⟩ : ∃ H : Heap, H = s.heap := ⟨_, rfl⟩
  obtain ⟨locs, hLe⟩ : ∃ L : List Loc, L = [] := ⟨_, rfl⟩
  have hP : va_P D vwCl ((wDp ad o pa ka (fx 0) (sx 0)) ++ ((wOf o (x 0) (y 0)) ++ (wFl x r cI cZ cQ w q d T st re rc (nI nz)))) H := by rw [hHe]; exact hP
  have hS : va_S A s.heap H locs := by rw [hHe, hLe]; exact hS
  refine W.eqHL hHe hLe ?_
  refine lv_aload_n hx hb dL_zone_0 rfl (lv_at hl 0 rfl) ?_
  refine lv_iload_n hx hb dL_zone_1 rfl (lv_at hl 1 rfl) ?_
  refine lv_iload_n hx hb dL_zone_2 rfl (lv_at hl 2 rfl) ?_
  refine lv_iload_n hx hb dL_zone_3 rfl (lv_at hl 3 rfl) ?_
  refine rx_i (wr := ([] : va_W)) (w_VX (As := [.int co, .int ro, .int m9]) ⟨hx, hb, hml, hown, hts⟩ (c_X7_addZone l D cI cZ cQ cJ ad o pa ka fx sx x r w q d T st re rc nz y sq co ro m9 H.size (by first | assumption | omega) (by first | assumption | omega) (by first | assumption | omega) (by first | assumption | omega)) (gV t2_173 t2_174 t2_175 t1_1 t2_176) rfl rfl hd_X7_addZone ⟨Nat.le_of_ble_eq_true rfl, Nat.le_of_ble_eq_true rfl⟩ (rx_pre hP hD hSt hDc hZ hS hA [0, 1, 2, 3, 4, 5, 6, 7, 8, 9, 10, 11, 12, 13, 14, 15] rfl (by decide)) (va_recv hSt.1 hP (ci := 7) (q0 := 0) rfl rfl) rfl hl.1 (rest := []) rfl (Nat.le_of_ble_eq_true rfl) dL_zone_4 ⟨Nat.le_of_ble_eq_true rfl, Nat.le_of_ble_eq_true rfl⟩) hP hD hS hA [0, 1, 2, 3, 4, 5, 6, 7, 8, 9, 10, 11, 12, 13, 14, 15] [] rfl rfl (by decide) (by decide) (fun E9 ce9 q9 x9 H locs hx9 hP hD hS hc91 hc92 hc93 => ?_) (fun r_9 u_9 H locs hw9 hP hD hS => ?_)
  · have hx9 : (E9 = "java/lang/IndexOutOfBoundsException" ∧ sAddZone nz q d w co ro m9 1 0 nz q d) ∨ (E9 = "java/lang/IllegalArgumentException" ∧ sAddZone nz q d w co ro m9 2 0 nz q d) ∨ (E9 = "java/lang/IllegalStateException" ∧ sAddZone nz q d w co ro m9 3 0 nz q d) := hx9
    have hP : va_P D vwCl ((wDp ad o pa ka (fx 0) (sx 0)) ++ ((wOf o (x 0) (y 0)) ++ (wFl x r cI cZ cQ w q d T st re rc (nI nz)))) H := hP
    have hD : va_D A ((wDp ad o pa ka (fx 0) (sx 0)) ++ ((wOf o (x 0) (y 0)) ++ (wFl x r cI cZ cQ w q d T st re rc (nI nz)))) := hD
    rcases hx9 with ⟨rfl, hsx⟩ | ⟨rfl, hsx⟩ | ⟨rfl, hsx⟩
    · refine vx_catch (own := RL) hown [] ⟨0, 7, 8, 14⟩ [⟨0, 7, 13, 22⟩, ⟨0, 7, 18, 16⟩] (by rw [htb]; rfl) (fun _ h9 => nomatch h9) (by decide) (by decide) (hts _ t2_47) (hSt.2.e 0 rfl) hc91 hc92 hc93 ?_
      refine lv_astore (lv' := [(4, .ref q9), (0, .ref ad), (1, .int co), (2, .int ro), (3, .int m9)]) hx hb dL_zone_8 hl (by decide) rfl (fun ls hl => ?_)
      refine lv_bipush (v := (-70 : Int32)) hx hb dL_zone_10 (by decide) ?_
      have hP9 : va_P D vwCl ((wDp ad o pa ka (fx 0) (sx 0)) ++ ((wOf o (x 0) (y 0)) ++ (wFl x r cI cZ cQ w q d T st re rc (nI nz)))) H := hP
      have hD9 : va_D A ((wDp ad o pa ka (fx 0) (sx 0)) ++ ((wOf o (x 0) (y 0)) ++ (wFl x r cI cZ cQ w q d T st re rc (nI nz)))) := hD
      have g_10 : sAddZone nz q d w co ro m9 1 (0 : Int32) nz q d := hsx
      have g_11 : ∀ u v, u < nz → v < nz → isD w ((updN sq nz (sqI co ro)) u) ((updN sq nz (sqI co ro)) v) (T u v) := fun u v hu hv => by rw [updN_n _ _ (by omega), updN_n _ _ (by omega)]; exact hT u v hu hv
      refine W.widen (k := 3) (n := 18) (by omega) (by omega) ?_
      exact vx_ret (W.iret (v := (-70 : Int32)) hx hb hr (fun t9 ht9 hW9 => ⟨⟨(-70 : Int32), (1, (0 : Int32), q, d, nz, T, st, re, rc), rfl, ⟨rfl, g_10, g_11⟩, by rw [ht9]; exact hP9, hD9⟩, hS.F ht9⟩) hS.2.2 dL_zone_12)
    · refine vx_catch (own := RL) hown [⟨0, 7, 8, 14⟩] ⟨0, 7, 13, 22⟩ [⟨0, 7, 18, 16⟩] (by rw [htb]; rfl) (List.forall_mem_cons.mpr ⟨Or.inr ⟨by decide, _, hts _ t2_47, hSt.2.p 1 rfl⟩, fun _ h9 => nomatch h9⟩) (by decide) (by decide) (hts _ t2_172) (hSt.2.e 1 rfl) hc91 hc92 hc93 ?_
      refine lv_astore (lv' := [(4, .ref q9), (0, .ref ad), (1, .int co), (2, .int ro), (3, .int m9)]) hx hb dL_zone_13 hl (by decide) rfl (fun ls hl => ?_)
      refine lv_bipush (v := (-70 : Int32)) hx hb dL_zone_15 (by decide) ?_
      have hP9 : va_P D vwCl ((wDp ad o pa ka (fx 0) (sx 0)) ++ ((wOf o (x 0) (y 0)) ++ (wFl x r cI cZ cQ w q d T st re rc (nI nz)))) H := hP
      have hD9 : va_D A ((wDp ad o pa ka (fx 0) (sx 0)) ++ ((wOf o (x 0) (y 0)) ++ (wFl x r cI cZ cQ w q d T st re rc (nI nz)))) := hD
      have g_12 : sAddZone nz q d w co ro m9 2 (0 : Int32) nz q d := hsx
      have g_13 : ∀ u v, u < nz → v < nz → isD w ((updN sq nz (sqI co ro)) u) ((updN sq nz (sqI co ro)) v) (T u v) := fun u v hu hv => by rw [updN_n _ _ (by omega), updN_n _ _ (by omega)]; exact hT u v hu hv
      refine W.widen (k := 3) (n := 18) (by omega) (by omega) ?_
      exact vx_ret (W.iret (v := (-70 : Int32)) hx hb hr (fun t9 ht9 hW9 => ⟨⟨(-70 : Int32), (2, (0 : Int32), q, d, nz, T, st, re, rc), rfl, ⟨rfl, g_12, g_13⟩, by rw [ht9]; exact hP9, hD9⟩, hS.F ht9⟩) hS.2.2 dL_zone_17)
    · refine vx_catch (own := RL) hown [⟨0, 7, 8, 14⟩, ⟨0, 7, 13, 22⟩] ⟨0, 7, 18, 16⟩ [] (by rw [htb]; rfl) (List.forall_mem_cons.mpr ⟨Or.inr ⟨by decide, _, hts _ t2_47, hSt.2.p 0 rfl⟩, List.forall_mem_cons.mpr ⟨Or.inr ⟨by decide, _, hts _ t2_172, hSt.2.p 5 rfl⟩, fun _ h9 => nomatch h9⟩⟩) (by decide) (by decide) (hts _ t2_48) (hSt.2.e 2 rfl) hc91 hc92 hc93 ?_
      refine lv_astore (lv' := [(4, .ref q9), (0, .ref ad), (1, .int co), (2, .int ro), (3, .int m9)]) hx hb dL_zone_18 hl (by decide) rfl (fun ls hl => ?_)
      refine lv_bipush (v := (-70 : Int32)) hx hb dL_zone_20 (by decide) ?_
      have hP9 : va_P D vwCl ((wDp ad o pa ka (fx 0) (sx 0)) ++ ((wOf o (x 0) (y 0)) ++ (wFl x r cI cZ cQ w q d T st re rc (nI nz)))) H := hP
      have hD9 : va_D A ((wDp ad o pa ka (fx 0) (sx 0)) ++ ((wOf o (x 0) (y 0)) ++ (wFl x r cI cZ cQ w q d T st re rc (nI nz)))) := hD
      have g_14 : sAddZone nz q d w co ro m9 3 (0 : Int32) nz q d := hsx
      have g_15 : ∀ u v, u < nz → v < nz → isD w ((updN sq nz (sqI co ro)) u) ((updN sq nz (sqI co ro)) v) (T u v) := fun u v hu hv => by rw [updN_n _ _ (by omega), updN_n _ _ (by omega)]; exact hT u v hu hv
      refine W.widen (k := 3) (n := 18) (by omega) (by omega) ?_
      exact vx_ret (W.iret (v := (-70 : Int32)) hx hb hr (fun t9 ht9 hW9 => ⟨⟨(-70 : Int32), (3, (0 : Int32), q, d, nz, T, st, re, rc), rfl, ⟨rfl, g_14, g_15⟩, by rw [ht9]; exact hP9, hD9⟩, hS.F ht9⟩) hS.2.2 dL_zone_22)
  · obtain ⟨j_1, j_2, j_3, j_4, j_5, j_6, j_7, j_8⟩ := u_9
    obtain ⟨er_9, f_16, f_17⟩ := hw9
    replace er_9 := er_9.symm
    subst er_9
    have hs9 : sAddZone nz q d w co ro m9 0 j_1 j_4 j_2 j_3 := f_16
    have hT29 : ∀ u v, u < j_4 → v < j_4 → isD w ((updN sq nz (sqI co ro)) u) ((updN sq nz (sqI co ro)) v) (j_5 u v) := f_17
    have hP : va_P D vwCl ((wDp ad o pa ka (fx 0) (sx 0)) ++ ((wOf o (x 0) (y 0)) ++ (wFl x r cI cZ cQ w j_2 j_3 j_5 j_6 j_7 j_8 (nI j_4)))) H := hP
    have hD : va_D A ((wDp ad o pa ka (fx 0) (sx 0)) ++ ((wOf o (x 0) (y 0)) ++ (wFl x r cI cZ cQ w j_2 j_3 j_5 j_6 j_7 j_8 (nI j_4)))) := hD
    have hP9 : va_P D vwCl ((wDp ad o pa ka (fx 0) (sx 0)) ++ ((wOf o (x 0) (y 0)) ++ (wFl x r cI cZ cQ w j_2 j_3 j_5 j_6 j_7 j_8 (nI j_4)))) H := hP
    have hD9 : va_D A ((wDp ad o pa ka (fx 0) (sx 0)) ++ ((wOf o (x 0) (y 0)) ++ (wFl x r cI cZ cQ w j_2 j_3 j_5 j_6 j_7 j_8 (nI j_4)))) := hD
    have g_18 : sAddZone nz q d w co ro m9 0 j_1 j_4 j_2 j_3 := hs9
    have g_19 : ∀ u v, u < j_4 → v < j_4 → isD w ((updN sq nz (sqI co ro)) u) ((updN sq nz (sqI co ro)) v) (j_5 u v) := hT29
    refine W.widen (k := 3) (n := 18) (by omega) (by omega) ?_
    exact vx_ret (W.iret (v := j_1) hx hb hr (fun t9 ht9 hW9 => ⟨⟨j_1, (0, j_1, j_2, j_3, j_4, j_5, j_6, j_7, j_8), rfl, ⟨rfl, g_18, g_19⟩, by rw [ht9]; exact hP9, hD9⟩, hS.F ht9⟩) hS.2.2 dL_zone_7)
set_option maxHeartbeats 4000000 in
set_option maxRecDepth 100000 in
theorem c_L_set_0 (l : Launch) (D : va_G) (cI cZ cQ cJ : ClassId) (ad : Nat) (o : Nat) (pa : Nat) (ka : Nat) (fx : Nat → Nat) (sx : Nat → Nat) (x : Nat → Nat) (r : Nat → Nat) (w : Nat → Int32) (q : Nat → Int32) (d : Nat → Int32) (T : Nat → Nat → Int32) (st : Nat → Int32) (re : Nat → Int32) (rc : Int32) (nz : Nat) (y : Nat → Nat) (rp : Nat → Nat) (rw : Nat → Nat) (rt : Nat → Nat) (P : Nat → Nat → Int32) (n : Nat → Int32) (Wi : Nat → Nat → Int32) (Ti : Nat → Nat → Int32) (nt : Nat) (pb : Nat) (zo : Nat → Int32) (z : Int32) (m9 : Int32) (e8 : Int32) (sz : Nat) (hnz : nz ≤ 7) (hfl : l.stackTraces = false) : vx_Met l yL_set (.codeWith yL_set cL_set 6 (some .int) [(0, 69, 70, 14), (0, 69, 75, 22), (0, 69, 80, 16)] :: ALL) ({ frames := 8, cells := 3, slots := 18, locals := 129 } : Room) (va_Pc [.ref ad, .int (nI 0), .int z, .int e8, .int m9] (rx_P D cI cZ cQ cJ ((wDp ad o pa ka (fx 0) (sx 0)) ++ ((wOf o (x 0) (y 0)) ++ ((wFl x r cI cZ cQ w q d T st re rc (nI nz)) ++ ((wSt y rp rw rt cI cQ P n Wi Ti (nI nt)) ++ (wPl pa pb cI zo))))) sz)) (va_Qi (fun (r9 : Int32) (u9 : Nat × Int32 × (Nat → Int32)) => (r9 = (an u9.1 u9.2.1)) ∧ (sSetDesks nz d zo n z m9 u9.1 u9.2.1 u9.2.2)) (rw_B D (va_A ((wDp ad o pa ka (fx 0) (sx 0)) ++ ((wOf o (x 0) (y 0)) ++ ((wFl x r cI cZ cQ w q d T st re rc (nI nz)) ++ ((wSt y rp rw rt cI cQ P n Wi Ti (nI nt)) ++ (wPl pa pb cI zo))))) sz) (fun u9 : Nat × Int32 × (Nat → Int32) => (wDp ad o pa ka (fx 0) (sx 0)) ++ ((wOf o (x 0) (y 0)) ++ ((wFl x r cI cZ cQ w q u9.2.2 T st re rc (nI nz)) ++ ((wSt y rp rw rt cI cQ P n Wi Ti (nI nt)) ++ (wPl pa pb cI zo)))))) (va_A ((wDp ad o pa ka (fx 0) (sx 0)) ++ ((wOf o (x 0) (y 0)) ++ ((wFl x r cI cZ cQ w q d T st re rc (nI nz)) ++ ((wSt y rp rw rt cI cQ P n Wi Ti (nI nt)) ++ (wPl pa pb cI zo))))) sz)) (rx_X (fun (E9 : String) (x9 : Unit) => False) D (va_A ((wDp ad o pa ka (fx 0) (sx 0)) ++ ((wOf o (x 0) (y 0)) ++ ((wFl x r cI cZ cQ w q d T st re rc (nI nz)) ++ ((wSt y rp rw rt cI cQ P n Wi Ti (nI nt)) ++ (wPl pa pb cI zo))))) sz) (fun x9 : Unit => (wDp ad o pa ka (fx 0) (sx 0)) ++ ((wOf o (x 0) (y 0)) ++ ((wFl x r cI cZ cQ w q d T st re rc (nI nz)) ++ ((wSt y rp rw rt cI cQ P n Wi Ti (nI nt)) ++ (wPl pa pb cI zo)))))) 3 18 (va_A ((wDp ad o pa ka (fx 0) (sx 0)) ++ ((wOf o (x 0) (y 0)) ++ ((wFl x r cI cZ cQ w q d T st re rc (nI nz)) ++ ((wSt y rp rw rt cI cQ P n Wi Ti (nI nt)) ++ (wPl pa pb cI zo))))) sz) := by
  refine vx_ofWH (cc := cL_set) (maxL := 6) (ret := (some .int)) (hh := [(0, 69, 70, 14), (0, 69, 75, 22), (0, 69, 80, 16)]) (by decide) rfl ?_
  intro p e s m args below meth c s₁ B hml hv
  obtain ⟨rfl, ⟨hsz, hP, hSt, hD0⟩, hDc, hZ⟩ := hv
  change W p l e ({ frames := 8, cells := 3, slots := 18, locals := 129 } : Room) s m _ below meth c s.heap [] 0 0 _ _
  have hx := B.exec
  have hb := B.bytes
  have hr := B.returns
  have hts : ∀ w ∈ ALL, w.before ([.ref ad, .int (nI 0), .int z, .int e8, .int m9] : List Value).toArray s = true := fun w h => atoms_spec (ws := (.codeWith yL_set cL_set 6 (some .int) [(0, 69, 70, 14), (0, 69, 75, 22), (0, 69, 80, 16)] :: ALL)) B.pre w (List.mem_cons_of_mem _ h)
  have hown : s.vm.findClass RL = some m.cls := findClass_of_methodNamed B.named
  have hlocks := B.notSynchronized
  have htb : c.exceptionTable.toList = tableOf [(0, 69, 70, 14), (0, 69, 75, 22), (0, 69, 80, 16)] := vx_table (x := yL_set) B (atoms_spec (ws := (.codeWith yL_set cL_set 6 (some .int) [(0, 69, 70, 14), (0, 69, 75, 22), (0, 69, 80, 16)] :: ALL)) B.pre _ List.mem_cons_self)
  subst hsz
  have hD := hD0.self (sz := s.heap.size)
  clear hD0
  generalize hAe : va_A ((wDp ad o pa ka (fx 0) (sx 0)) ++ ((wOf o (x 0) (y 0)) ++ ((wFl x r cI cZ cQ w q d T st re rc (nI nz)) ++ ((wSt y rp rw rt cI cQ P n Wi Ti (nI nt)) ++ (wPl pa pb cI zo))))) s.heap.size = A at hD hZ ⊢
  have hA : ∀ q : Nat, s.heap.size ≤ q → A q := fun q h => by rw [← hAe]; exact Or.inr h
  have hS : va_S A s.heap s.heap [] := va_S.rf
  have hl := lv_entry ([.ref ad, .int (nI 0), .int z, .int e8, .int m9]) (n := 6) (Nat.le_of_ble_eq_true rfl)
  rw [lg_entry_eq]
  generalize (lg_sl ([.ref ad, .int (nI 0), .int z, .int e8, .int m9]) ++ List.replicate (6 - (lg_sl ([.ref ad, .int (nI 0), .int z, .int e8, .int m9])).length) Slot.unset).toArray = ls at hl ⊢
  have hl : lv_has ls 6 [(0, .ref ad), (1, .int (nI 0)), (2, .int z), (3, .int e8), (4, .int m9)] := hl
  obtain ⟨H, hHe⟩ : ∃ H : Heap, H = s.heap := ⟨_, rfl⟩
  obtain ⟨locs, hLe⟩ : ∃ L : List Loc, L = [] := ⟨_, rfl⟩
  have hP : va_P D vwCl ((wDp ad o pa ka (fx 0) (sx 0)) ++ ((wOf o (x 0) (y 0)) ++ ((wFl x r cI cZ cQ w q d T st re rc (nI nz)) ++ ((wSt y rp rw rt cI cQ P n Wi Ti (nI nt)) ++ (wPl pa pb cI zo))))) H := by rw [hHe]; exact hP
  have hS : va_S A s.heap H locs := by rw [hHe, hLe]; exact hS
  refine W.eqHL hHe hLe ?_
  refine lv_iload_n hx hb dL_set_0 rfl (lv_at hl 1 rfl) ?_
  refine lv_if_ne (tgt := 14) hx hb dL_set_1 (by decide) (fun c_1 => ?_) (fun c_1 => ?_)
  · exact absurd c_1 (by decide)
  · refine lv_aload_n hx hb dL_set_4 rfl (lv_at hl 0 rfl) ?_
    refine lv_iload_n hx hb dL_set_5 rfl (lv_at hl 2 rfl) ?_
    refine lv_iload hx hb dL_set_6 (lv_at hl 4 rfl) ?_
    refine rx_i (wr := ([] : va_W)) (w_VX (As := [.int z, .int m9]) ⟨hx, hb, hml, hown, hts⟩ (c_X7_setDesks l D cI cZ cQ cJ ad o pa ka fx sx x r w q d T st re rc nz y rp rw rt P n Wi Ti nt pb zo z m9 H.size (by first | assumption | omega) (by first | assumption | omega)) (gV t2_210 t2_211 t2_212 t1_1 t2_213) rfl rfl hd_X7_setDesks ⟨Nat.le_of_ble_eq_true rfl, Nat.le_of_ble_eq_true rfl⟩ (rx_pre hP hD hSt hDc hZ hS hA [0, 1, 2, 3, 4, 5, 6, 7, 8, 9, 10, 11, 12, 13, 14, 15, 16, 17, 18, 19, 20, 21, 22, 23, 24, 25, 26, 27, 28, 29, 30, 31, 32, 33, 34, 35, 36, 37, 38, 39, 40, 41, 42, 43] rfl (by decide)) (va_recv hSt.1 hP (ci := 7) (q0 := 0) rfl rfl) rfl hl.1 (rest := []) rfl (Nat.le_of_ble_eq_true rfl) dL_set_8 ⟨Nat.le_of_ble_eq_true rfl, Nat.le_of_ble_eq_true rfl⟩) hP hD hS hA [0, 1, 2, 3, 4, 5, 6, 7, 8, 9, 10, 11, 12, 13, 14, 15, 16, 17, 18, 19, 20, 21, 22, 23, 24, 25, 26, 27, 28, 29, 30, 31, 32, 33, 34, 35, 36, 37, 38, 39, 40, 41, 42, 43] [] rfl rfl (by decide) (by decide) (fun E9 ce9 q9 x9 H locs hx9 hP hD hS hc91 hc92 hc93 => ?_) (fun r_9 u_4 H locs hw9 hP hD hS => ?_)
    · have hx9 : (E9 = "java/lang/IndexOutOfBoundsException" ∧ sSetDesks nz d zo n z m9 1 0 d) ∨ (E9 = "java/lang/IllegalArgumentException" ∧ sSetDesks nz d zo n z m9 2 0 d) ∨ (E9 = "java/lang/IllegalStateException" ∧ sSetDesks nz d zo n z m9 3 0 d) := hx9
      have hP : va_P D vwCl ((wDp ad o pa ka (fx 0) (sx 0)) ++ ((wOf o (x 0) (y 0)) ++ ((wFl x r cI cZ cQ w q d T st re rc (nI nz)) ++ ((wSt y rp rw rt cI cQ P n Wi Ti (nI nt)) ++ (wPl pa pb cI zo))))) H := hP
      have hD : va_D A ((wDp ad o pa ka (fx 0) (sx 0)) ++ ((wOf o (x 0) (y 0)) ++ ((wFl x r cI cZ cQ w q d T st re rc (nI nz)) ++ ((wSt y rp rw rt cI cQ P n Wi Ti (nI nt)) ++ (wPl pa pb cI zo))))) := hD
      rcases hx9 with ⟨rfl, hsx⟩ | ⟨rfl, hsx⟩ | ⟨rfl, hsx⟩
      · refine vx_catch (own := RL) hown [] ⟨0, 69, 70, 14⟩ [⟨0, 69, 75, 22⟩, ⟨0, 69, 80, 16⟩] (by rw [htb]; rfl) (fun _ h9 => nomatch h9) (by decide) (by decide) (hts _ t2_47) (hSt.2.e 0 rfl) hc91 hc92 hc93 ?_
        refine lv_astore (lv' := [(5, .ref q9), (0, .ref ad), (1, .int (nI 0)), (2, .int z), (3, .int e8), (4, .int m9)]) hx hb dL_set_70 hl (by decide) rfl (fun ls hl => ?_)
        refine lv_bipush (v := (-70 : Int32)) hx hb dL_set_72 (by decide) ?_
        have hP9 : va_P D vwCl ((wDp ad o pa ka (fx 0) (sx 0)) ++ ((wOf o (x 0) (y 0)) ++ ((wFl x r cI cZ cQ w q d T st re rc (nI nz)) ++ ((wSt y rp rw rt cI cQ P n Wi Ti (nI nt)) ++ (wPl pa pb cI zo))))) H := hP
        have hD9 : va_D A ((wDp ad o pa ka (fx 0) (sx 0)) ++ ((wOf o (x 0) (y 0)) ++ ((wFl x r cI cZ cQ w q d T st re rc (nI nz)) ++ ((wSt y rp rw rt cI cQ P n Wi Ti (nI nt)) ++ (wPl pa pb cI zo))))) := hD
        have g_5 : sSetDesks nz d zo n z m9 1 (0 : Int32) d := hsx
        refine W.widen (k := 3) (n := 18) (by omega) (by omega) ?_
        exact vx_ret (W.iret (v := (-70 : Int32)) hx hb hr (fun t9 ht9 hW9 => ⟨⟨(-70 : Int32), (1, (0 : Int32), d), rfl, ⟨rfl, g_5⟩, by rw [ht9]; exact hP9, hD9⟩, hS.F ht9⟩) hS.2.2 dL_set_74)
      · refine vx_catch (own := RL) hown [⟨0, 69, 70, 14⟩] ⟨0, 69, 75, 22⟩ [⟨0, 69, 80, 16⟩] (by rw [htb]; rfl) (List.forall_mem_cons.mpr ⟨Or.inr ⟨by decide, _, hts _ t2_47, hSt.2.p 1 rfl⟩, fun _ h9 => nomatch h9⟩) (by decide) (by decide) (hts _ t2_172) (hSt.2.e 1 rfl) hc91 hc92 hc93 ?_
        refine lv_astore (lv' := [(5, .ref q9), (0, .ref ad), (1, .int (nI 0)), (2, .int z), (3, .int e8), (4, .int m9)]) hx hb dL_set_75 hl (by decide) rfl (fun ls hl => ?_)
        refine lv_bipush (v := (-70 : Int32)) hx hb dL_set_77 (by decide) ?_
        have hP9 : va_P D vwCl ((wDp ad o pa ka (fx 0) (sx 0)) ++ ((wOf o (x 0) (y 0)) ++ ((wFl x r cI cZ cQ w q d T st re rc (nI nz)) ++ ((wSt y rp rw rt cI cQ P n Wi Ti (nI nt)) ++ (wPl pa pb cI zo))))) H := hP
        have hD9 : va_D A ((wDp ad o pa ka (fx 0) (sx 0)) ++ ((wOf o (x 0) (y 0)) ++ ((wFl x r cI cZ cQ w q d T st re rc (nI nz)) ++ ((wSt y rp rw rt cI cQ P n Wi Ti (nI nt)) ++ (wPl pa pb cI zo))))) := hD
        have g_6 : sSetDesks nz d zo n z m9 2 (0 : Int32) d := hsx
        refine W.widen (k := 3) (n := 18) (by omega) (by omega) ?_
        exact vx_ret (W.iret (v := (-70 : Int32)) hx hb hr (fun t9 ht9 hW9 => ⟨⟨(-70 : Int32), (2, (0 : Int32), d), rfl, ⟨rfl, g_6⟩, by rw [ht9]; exact hP9, hD9⟩, hS.F ht9⟩) hS.2.2 dL_set_79)
      · refine vx_catch (own := RL) hown [⟨0, 69, 70, 14⟩, ⟨0, 69, 75, 22⟩] ⟨0, 69, 80, 16⟩ [] (by rw [htb]; rfl) (List.forall_mem_cons.mpr ⟨Or.inr ⟨by decide, _, hts _ t2_47, hSt.2.p 0 rfl⟩, List.forall_mem_cons.mpr ⟨Or.inr ⟨by decide, _, hts _ t2_172, hSt.2.p 5 rfl⟩, fun _ h9 => nomatch h9⟩⟩) (by decide) (by decide) (hts _ t2_48) (hSt.2.e 2 rfl) hc91 hc92 hc93 ?_
        refine lv_astore (lv' := [(5, .ref q9), (0, .ref ad), (1, .int (nI 0)), (2, .int z), (3, .int e8), (4, .int m9)]) hx hb dL_set_80 hl (by decide) rfl (fun ls hl => ?_)
        refine lv_bipush (v := (-70 : Int32)) hx hb dL_set_82 (by decide) ?_
        have hP9 : va_P D vwCl ((wDp ad o pa ka (fx 0) (sx 0)) ++ ((wOf o (x 0) (y 0)) ++ ((wFl x r cI cZ cQ w q d T st re rc (nI nz)) ++ ((wSt y rp rw rt cI cQ P n Wi Ti (nI nt)) ++ (wPl pa pb cI zo))))) H := hP
        have hD9 : va_D A ((wDp ad o pa ka (fx 0) (sx 0)) ++ ((wOf o (x 0) (y 0)) ++ ((wFl x r cI cZ cQ w q d T st re rc (nI nz)) ++ ((wSt y rp rw rt cI cQ P n Wi Ti (nI nt)) ++ (wPl pa pb cI zo))))) := hD
        have g_7 : sSetDesks nz d zo n z m9 3 (0 : Int32) d := hsx
        refine W.widen (k := 3) (n := 18) (by omega) (by omega) ?_
        exact vx_ret (W.iret (v := (-70 : Int32)) hx hb hr (fun t9 ht9 hW9 => ⟨⟨(-70 : Int32), (3, (0 : Int32), d), rfl, ⟨rfl, g_7⟩, by rw [ht9]; exact hP9, hD9⟩, hS.F ht9⟩) hS.2.2 dL_set_84)
    · obtain ⟨j_2, j_3⟩ := u_4
      obtain ⟨er_9, f_8⟩ := hw9
      replace er_9 := er_9.symm
      subst er_9
      have hs9 : sSetDesks nz d zo n z m9 0 j_2 j_3 := f_8
      have hP : va_P D vwCl ((wDp ad o pa ka (fx 0) (sx 0)) ++ ((wOf o (x 0) (y 0)) ++ ((wFl x r cI cZ cQ w q j_3 T st re rc (nI nz)) ++ ((wSt y rp rw rt cI cQ P n Wi Ti (nI nt)) ++ (wPl pa pb cI zo))))) H := hP
      have hD : va_D A ((wDp ad o pa ka (fx 0) (sx 0)) ++ ((wOf o (x 0) (y 0)) ++ ((wFl x r cI cZ cQ w q j_3 T st re rc (nI nz)) ++ ((wSt y rp rw rt cI cQ P n Wi Ti (nI nt)) ++ (wPl pa pb cI zo))))) := hD
      refine lv_goto (tgt := 69) hx hb dL_set_11 (by decide) ?_
      have hP9 : va_P D vwCl ((wDp ad o pa ka (fx 0) (sx 0)) ++ ((wOf o (x 0) (y 0)) ++ ((wFl x r cI cZ cQ w q j_3 T st re rc (nI nz)) ++ ((wSt y rp rw rt cI cQ P n Wi Ti (nI nt)) ++ (wPl pa pb cI zo))))) H := hP
      have hD9 : va_D A ((wDp ad o pa ka (fx 0) (sx 0)) ++ ((wOf o (x 0) (y 0)) ++ ((wFl x r cI cZ cQ w q j_3 T st re rc (nI nz)) ++ ((wSt y rp rw rt cI cQ P n Wi Ti (nI nt)) ++ (wPl pa pb cI zo))))) := hD
      have g_9 : sSetDesks nz d zo n z m9 0 j_2 j_3 := hs9
      refine W.widen (k := 3) (n := 18) (by omega) (by omega) ?_
      exact vx_ret (W.iret (v := j_2) hx hb hr (fun t9 ht9 hW9 => ⟨⟨j_2, (0, j_2, j_3), rfl, ⟨rfl, g_9⟩, by rw [ht9]; exact hP9, hD9⟩, hS.F ht9⟩) hS.2.2 dL_set_69)
set_option maxHeartbeats 4000000 in
set_option maxRecDepth 100000 in
theorem c_L_set_1 (l : Launch) (D : va_G) (cI cZ cQ cJ : ClassId) (ad : Nat) (o : Nat) (pa : Nat) (ka : Nat) (fx : Nat → Nat) (sx : Nat → Nat) (x : Nat → Nat) (r : Nat → Nat) (w : Nat → Int32) (q : Nat → Int32) (d : Nat → Int32) (T : Nat → Nat → Int32) (st : Nat → Int32) (re : Nat → Int32) (rc : Int32) (nz : Nat) (y : Nat → Nat) (rp : Nat → Nat) (rw : Nat → Nat) (rt : Nat → Nat) (P : Nat → Nat → Int32) (n : Nat → Int32) (Wi : Nat → Nat → Int32) (Ti : Nat → Nat → Int32) (nt : Nat) (pb : Nat) (zo : Nat → Int32) (g : Nat → Nat) (t : Int32) (j9 : Int32) (m9 : Int32) (sz : Nat) (hnz : nz ≤ 7) (hnt : nt ≤ 7) (hzo : pOK 7 zo g) (hvg : vG nz nt g) (hfl : l.stackTraces = false) : vx_Met l yL_set (.codeWith yL_set cL_set 6 (some .int) [(0, 69, 70, 14), (0, 69, 75, 22), (0, 69, 80, 16)] :: ALL) ({ frames := 8, cells := 4, slots := 24, locals := 129 } : Room) (va_Pc [.ref ad, .int (nI 1), .int t, .int j9, .int m9] (rx_P D cI cZ cQ cJ ((wDp ad o pa ka (fx 0) (sx 0)) ++ ((wOf o (x 0) (y 0)) ++ ((wFl x r cI cZ cQ w q d T st re rc (nI nz)) ++ ((wSt y rp rw rt cI cQ P n Wi Ti (nI nt)) ++ (wPl pa pb cI zo))))) sz)) (va_Qi (fun (r9 : Int32) (u9 : Nat × Int32 × (Nat → Nat → Int32) × (Nat → Int32)) => (r9 = (an u9.1 u9.2.1)) ∧ (sSetPresent nt P n d zo t j9 m9 u9.1 u9.2.1 u9.2.2.1 u9.2.2.2)) (rw_B D (va_A ((wDp ad o pa ka (fx 0) (sx 0)) ++ ((wOf o (x 0) (y 0)) ++ ((wFl x r cI cZ cQ w q d T st re rc (nI nz)) ++ ((wSt y rp rw rt cI cQ P n Wi Ti (nI nt)) ++ (wPl pa pb cI zo))))) sz) (fun u9 : Nat × Int32 × (Nat → Nat → Int32) × (Nat → Int32) => (wDp ad o pa ka (fx 0) (sx 0)) ++ ((wOf o (x 0) (y 0)) ++ ((wFl x r cI cZ cQ w q d T st re rc (nI nz)) ++ ((wSt y rp rw rt cI cQ u9.2.2.1 u9.2.2.2 Wi Ti (nI nt)) ++ (wPl pa pb cI zo)))))) (va_A ((wDp ad o pa ka (fx 0) (sx 0)) ++ ((wOf o (x 0) (y 0)) ++ ((wFl x r cI cZ cQ w q d T st re rc (nI nz)) ++ ((wSt y rp rw rt cI cQ P n Wi Ti (nI nt)) ++ (wPl pa pb cI zo))))) sz)) (rx_X (fun (E9 : String) (x9 : Unit) => False) D (va_A ((wDp ad o pa ka (fx 0) (sx 0)) ++ ((wOf o (x 0) (y 0)) ++ ((wFl x r cI cZ cQ w q d T st re rc (nI nz)) ++ ((wSt y rp rw rt cI cQ P n Wi Ti (nI nt)) ++ (wPl pa pb cI zo))))) sz) (fun x9 : Unit => (wDp ad o pa ka (fx 0) (sx 0)) ++ ((wOf o (x 0) (y 0)) ++ ((wFl x r cI cZ cQ w q d T st re rc (nI nz)) ++ ((wSt y rp rw rt cI cQ P n Wi Ti (nI nt)) ++ (wPl pa pb cI zo)))))) 4 24 (va_A ((wDp ad o pa ka (fx 0) (sx 0)) ++ ((wOf o (x 0) (y 0)) ++ ((wFl x r cI cZ cQ w q d T st re rc (nI nz)) ++ ((wSt y rp rw rt cI cQ P n Wi Ti (nI nt)) ++ (wPl pa pb cI zo))))) sz) := by
  refine vx_ofWH (cc := cL_set) (maxL := 6) (ret := (some .int)) (hh := [(0, 69, 70, 14), (0, 69, 75, 22), (0, 69, 80, 16)]) (by decide) rfl ?_
  intro p e s m args below meth c s₁ B hml hv
  obtain ⟨rfl, ⟨hsz, hP, hSt, hD0⟩, hDc, hZ⟩ := hv
  change W p l e ({ frames := 8, cells := 4, slots := 24, locals := 129 } : Room) s m _ below meth c s.heap [] 0 0 _ _
  have hx := B.exec
  have hb := B.bytes
  have hr := B.returns
  have hts : ∀ w ∈ ALL, w.before ([.ref ad, .int (nI 1), .int t, .int j9, .int m9] : List Value).toArray s = true := fun w h => atoms_spec (ws := (.codeWith yL_set cL_set 6 (some .int) [(0, 69, 70, 14), (0, 69, 75, 22), (0, 69, 80, 16)] :: ALL)) B.pre w (List.mem_cons_of_mem _ h)
  have hown : s.vm.findClass RL = some m.cls := findClass_of_methodNamed B.named
  have hlocks := B.notSynchronized
  have htb : c.exceptionTable.toList = tableOf [(0, 69, 70, 14), (0, 69, 75, 22), (0, 69, 80, 16)] := vx_table (x := yL_set) B (atoms_spec (ws := (.codeWith yL_set cL_set 6 (some .int) [(0, 69, 70, 14), (0, 69, 75, 22), (0, 69, 80, 16)] :: ALL)) B.pre _ List.mem_cons_self)
  subst hsz
  have hD := hD0.self (sz := s.heap.size)
  clear hD0
  generalize hAe : va_A ((wDp ad o pa ka (fx 0) (sx 0)) ++ ((wOf o (x 0) (y 0)) ++ ((wFl x r cI cZ cQ w q d T st re rc (nI nz)) ++ ((wSt y rp rw rt cI cQ P n Wi Ti (nI nt)) ++ (wPl pa pb cI zo))))) s.heap.size = A at hD hZ ⊢
  have hA : ∀ q : Nat, s.heap.size ≤ q → A q := fun q h => by rw [← hAe]; exact Or.inr h
  have hS : va_S A s.heap s.heap [] := va_S.rf
  have hl := lv_entry ([.ref ad, .int (nI 1), .int t, .int j9, .int m9]) (n := 6) (Nat.le_of_ble_eq_true rfl)
  rw [lg_entry_eq]
  generalize (lg_sl ([.ref ad, .int (nI 1), .int t, .int j9, .int m9]) ++ List.replicate (6 - (lg_sl ([.ref ad, .int (nI 1), .int t, .int j9, .int m9])).length) Slot.unset).toArray = ls at hl ⊢
  have hl : lv_has ls 6 [(0, .ref ad), (1, .int (nI 1)), (2, .int t), (3, .int j9), (4, .int m9)] := hl
  obtain ⟨H, hHe⟩ : ∃ H : Heap, H = s.heap := ⟨_, rfl⟩
  obtain ⟨locs, hLe⟩ : ∃ L : List Loc, L = [] := ⟨_, rfl⟩
  have hP : va_P D vwCl ((wDp ad o pa ka (fx 0) (sx 0)) ++ ((wOf o (x 0) (y 0)) ++ ((wFl x r cI cZ cQ w q d T st re rc (nI nz)) ++ ((wSt y rp rw rt cI cQ P n Wi Ti (nI nt)) ++ (wPl pa pb cI zo))))) H := by rw [hHe]; exact hP
  have hS : va_S A s.heap H locs := by rw [hHe, hLe]; exact hS
  refine W.eqHL hHe hLe ?_
  refine lv_iload_n hx hb dL_set_0 rfl (lv_at hl 1 rfl) ?_
  refine lv_if_ne (tgt := 14) hx hb dL_set_1 (by decide) (fun c_1 => ?_) (fun c_1 => ?_)
  · refine lv_iload_n hx hb dL_set_14 rfl (lv_at hl 1 rfl) ?_
    refine lv_iconst (v := nI 1) hx hb dL_set_15 (by decide) ?_
    refine lv_icmp_ne (tgt := 30) hx hb dL_set_16 (by decide) (fun c_2 => ?_) (fun c_2 => ?_)
    · exact absurd c_2 (by decide)
    · refine lv_aload_n hx hb dL_set_19 rfl (lv_at hl 0 rfl) ?_
      refine lv_iload_n hx hb dL_set_20 rfl (lv_at hl 2 rfl) ?_
      refine lv_iload_n hx hb dL_set_21 rfl (lv_at hl 3 rfl) ?_
      refine lv_iload hx hb dL_set_22 (lv_at hl 4 rfl) ?_
      refine rx_i (wr := ([] : va_W)) (w_VX (As := [.int t, .int j9, .int m9]) ⟨hx, hb, hml, hown, hts⟩ (c_X7_setPresent l D cI cZ cQ cJ ad o pa ka fx sx x r w q d T st re rc nz y rp rw rt P n Wi Ti nt pb zo g t j9 m9 H.size (by first | assumption | omega) (by first | assumption | omega) (by first | assumption | omega) (by first | assumption | omega) (by first | assumption | omega)) (gV t2_224 t2_225 t2_226 t1_1 t2_227) rfl rfl hd_X7_setPresent ⟨Nat.le_of_ble_eq_true rfl, Nat.le_of_ble_eq_true rfl⟩ (rx_pre hP hD hSt hDc hZ hS hA [0, 1, 2, 3, 4, 5, 6, 7, 8, 9, 10, 11, 12, 13, 14, 15, 16, 17, 18, 19, 20, 21, 22, 23, 24, 25, 26, 27, 28, 29, 30, 31, 32, 33, 34, 35, 36, 37, 38, 39, 40, 41, 42, 43] rfl (by decide)) (va_recv hSt.1 hP (ci := 7) (q0 := 0) rfl rfl) rfl hl.1 (rest := []) rfl (Nat.le_of_ble_eq_true rfl) dL_set_24 ⟨Nat.le_of_ble_eq_true rfl, Nat.le_of_ble_eq_true rfl⟩) hP hD hS hA [0, 1, 2, 3, 4, 5, 6, 7, 8, 9, 10, 11, 12, 13, 14, 15, 16, 17, 18, 19, 20, 21, 22, 23, 24, 25, 26, 27, 28, 29, 30, 31, 32, 33, 34, 35, 36, 37, 38, 39, 40, 41, 42, 43] [] rfl rfl (by decide) (by decide) (fun E9 ce9 q9 x9 H locs hx9 hP hD hS hc91 hc92 hc93 => ?_) (fun r_9 u_6 H locs hw9 hP hD hS => ?_)
      · have hx9 : (E9 = "java/lang/IndexOutOfBoundsException" ∧ sSetPresent nt P n d zo t j9 m9 1 0 P n) ∨ (E9 = "java/lang/IllegalArgumentException" ∧ sSetPresent nt P n d zo t j9 m9 2 0 P n) ∨ (E9 = "java/lang/IllegalStateException" ∧ sSetPresent nt P n d zo t j9 m9 3 0 P n) := hx9
        have hP : va_P D vwCl ((wDp ad o pa ka (fx 0) (sx 0)) ++ ((wOf o (x 0) (y 0)) ++ ((wFl x r cI cZ cQ w q d T st re rc (nI nz)) ++ ((wSt y rp rw rt cI cQ P n Wi Ti (nI nt)) ++ (wPl pa pb cI zo))))) H := hP
        have hD : va_D A ((wDp ad o pa ka (fx 0) (sx 0)) ++ ((wOf o (x 0) (y 0)) ++ ((wFl x r cI cZ cQ w q d T st re rc (nI nz)) ++ ((wSt y rp rw rt cI cQ P n Wi Ti (nI nt)) ++ (wPl pa pb cI zo))))) := hD
        rcases hx9 with ⟨rfl, hsx⟩ | ⟨rfl, hsx⟩ | ⟨rfl, hsx⟩
        · refine vx_catch (own := RL) hown [] ⟨0, 69, 70, 14⟩ [⟨0, 69, 75, 22⟩, ⟨0, 69, 80, 16⟩] (by rw [htb]; rfl) (fun _ h9 => nomatch h9) (by decide) (by decide) (hts _ t2_47) (hSt.2.e 0 rfl) hc91 hc92 hc93 ?_
          refine lv_astore (lv' := [(5, .ref q9), (0, .ref ad), (1, .int (nI 1)), (2, .int t), (3, .int j9), (4, .int m9)]) hx hb dL_set_70 hl (by decide) rfl (fun ls hl => ?_)
          refine lv_bipush (v := (-70 : Int32)) hx hb dL_set_72 (by decide) ?_
          have hP9 : va_P D vwCl ((wDp ad o pa ka (fx 0) (sx 0)) ++ ((wOf o (x 0) (y 0)) ++ ((wFl x r cI cZ cQ w q d T st re rc (nI nz)) ++ ((wSt y rp rw rt cI cQ P n Wi Ti (nI nt)) ++ (wPl pa pb cI zo))))) H := hP
          have hD9 : va_D A ((wDp ad o pa ka (fx 0) (sx 0)) ++ ((wOf o (x 0) (y 0)) ++ ((wFl x r cI cZ cQ w q d T st re rc (nI nz)) ++ ((wSt y rp rw rt cI cQ P n Wi Ti (nI nt)) ++ (wPl pa pb cI zo))))) := hD
          have g_7 : sSetPresent nt P n d zo t j9 m9 1 (0 : Int32) P n := hsx
          refine W.widen (k := 4) (n := 24) (by omega) (by omega) ?_
          exact vx_ret (W.iret (v := (-70 : Int32)) hx hb hr (fun t9 ht9 hW9 => ⟨⟨(-70 : Int32), (1, (0 : Int32), P, n), rfl, ⟨rfl, g_7⟩, by rw [ht9]; exact hP9, hD9⟩, hS.F ht9⟩) hS.2.2 dL_set_74)
        · refine vx_catch (own := RL) hown [⟨0, 69, 70, 14⟩] ⟨0, 69, 75, 22⟩ [⟨0, 69, 80, 16⟩] (by rw [htb]; rfl) (List.forall_mem_cons.mpr ⟨Or.inr ⟨by decide, _, hts _ t2_47, hSt.2.p 1 rfl⟩, fun _ h9 => nomatch h9⟩) (by decide) (by decide) (hts _ t2_172) (hSt.2.e 1 rfl) hc91 hc92 hc93 ?_
          refine lv_astore (lv' := [(5, .ref q9), (0, .ref ad), (1, .int (nI 1)), (2, .int t), (3, .int j9), (4, .int m9)]) hx hb dL_set_75 hl (by decide) rfl (fun ls hl => ?_)
          refine lv_bipush (v := (-70 : Int32)) hx hb dL_set_77 (by decide) ?_
          have hP9 : va_P D vwCl ((wDp ad o pa ka (fx 0) (sx 0)) ++ ((wOf o (x 0) (y 0)) ++ ((wFl x r cI cZ cQ w q d T st re rc (nI nz)) ++ ((wSt y rp rw rt cI cQ P n Wi Ti (nI nt)) ++ (wPl pa pb cI zo))))) H := hP
          have hD9 : va_D A ((wDp ad o pa ka (fx 0) (sx 0)) ++ ((wOf o (x 0) (y 0)) ++ ((wFl x r cI cZ cQ w q d T st re rc (nI nz)) ++ ((wSt y rp rw rt cI cQ P n Wi Ti (nI nt)) ++ (wPl pa pb cI zo))))) := hD
          have g_8 : sSetPresent nt P n d zo t j9 m9 2 (0 : Int32) P n := hsx
          refine W.widen (k := 4) (n := 24) (by omega) (by omega) ?_
          exact vx_ret (W.iret (v := (-70 : Int32)) hx hb hr (fun t9 ht9 hW9 => ⟨⟨(-70 : Int32), (2, (0 : Int32), P, n), rfl, ⟨rfl, g_8⟩, by rw [ht9]; exact hP9, hD9⟩, hS.F ht9⟩) hS.2.2 dL_set_79)
        · refine vx_catch (own := RL) hown [⟨0, 69, 70, 14⟩, ⟨0, 69, 75, 22⟩] ⟨0, 69, 80, 16⟩ [] (by rw [htb]; rfl) (List.forall_mem_cons.mpr ⟨Or.inr ⟨by decide, _, hts _ t2_47, hSt.2.p 0 rfl⟩, List.forall_mem_cons.mpr ⟨Or.inr ⟨by decide, _, hts _ t2_172, hSt.2.p 5 rfl⟩, fun _ h9 => nomatch h9⟩⟩) (by decide) (by decide) (hts _ t2_48) (hSt.2.e 2 rfl) hc91 hc92 hc93 ?_
          refine lv_astore (lv' := [(5, .ref q9), (0, .ref ad), (1, .int (nI 1)), (2, .int t), (3, .int j9), (4, .int m9)]) hx hb dL_set_80 hl (by decide) rfl (fun ls hl => ?_)
          refine lv_bipush (v := (-70 : Int32)) hx hb dL_set_82 (by decide) ?_
          have hP9 : va_P D vwCl ((wDp ad o pa ka (fx 0) (sx 0)) ++ ((wOf o (x 0) (y 0)) ++ ((wFl x r cI cZ cQ w q d T st re rc (nI nz)) ++ ((wSt y rp rw rt cI cQ P n Wi Ti (nI nt)) ++ (wPl pa pb cI zo))))) H := hP
          have hD9 : va_D A ((wDp ad o pa ka (fx 0) (sx 0)) ++ ((wOf o (x 0) (y 0)) ++ ((wFl x r cI cZ cQ w q d T st re rc (nI nz)) ++ ((wSt y rp rw rt cI cQ P n Wi Ti (nI nt)) ++ (wPl pa pb cI zo))))) := hD
          have g_9 : sSetPresent nt P n d zo t j9 m9 3 (0 : Int32) P n := hsx
          refine W.widen (k := 4) (n := 24) (by omega) (by omega) ?_
          exact vx_ret (W.iret (v := (-70 : Int32)) hx hb hr (fun t9 ht9 hW9 => ⟨⟨(-70 : Int32), (3, (0 : Int32), P, n), rfl, ⟨rfl, g_9⟩, by rw [ht9]; exact hP9, hD9⟩, hS.F ht9⟩) hS.2.2 dL_set_84)
      · obtain ⟨j_3, j_4, j_5⟩ := u_6
        obtain ⟨er_9, f_10⟩ := hw9
        replace er_9 := er_9.symm
        subst er_9
        have hs9 : sSetPresent nt P n d zo t j9 m9 0 j_3 j_4 j_5 := f_10
        have hP : va_P D vwCl ((wDp ad o pa ka (fx 0) (sx 0)) ++ ((wOf o (x 0) (y 0)) ++ ((wFl x r cI cZ cQ w q d T st re rc (nI nz)) ++ ((wSt y rp rw rt cI cQ j_4 j_5 Wi Ti (nI nt)) ++ (wPl pa pb cI zo))))) H := hP
        have hD : va_D A ((wDp ad o pa ka (fx 0) (sx 0)) ++ ((wOf o (x 0) (y 0)) ++ ((wFl x r cI cZ cQ w q d T st re rc (nI nz)) ++ ((wSt y rp rw rt cI cQ j_4 j_5 Wi Ti (nI nt)) ++ (wPl pa pb cI zo))))) := hD
        refine lv_goto (tgt := 69) hx hb dL_set_27 (by decide) ?_
        have hP9 : va_P D vwCl ((wDp ad o pa ka (fx 0) (sx 0)) ++ ((wOf o (x 0) (y 0)) ++ ((wFl x r cI cZ cQ w q d T st re rc (nI nz)) ++ ((wSt y rp rw rt cI cQ j_4 j_5 Wi Ti (nI nt)) ++ (wPl pa pb cI zo))))) H := hP
        have hD9 : va_D A ((wDp ad o pa ka (fx 0) (sx 0)) ++ ((wOf o (x 0) (y 0)) ++ ((wFl x r cI cZ cQ w q d T st re rc (nI nz)) ++ ((wSt y rp rw rt cI cQ j_4 j_5 Wi Ti (nI nt)) ++ (wPl pa pb cI zo))))) := hD
        have g_11 : sSetPresent nt P n d zo t j9 m9 0 j_3 j_4 j_5 := hs9
        refine W.widen (k := 4) (n := 24) (by omega) (by omega) ?_
        exact vx_ret (W.iret (v := j_3) hx hb hr (fun t9 ht9 hW9 => ⟨⟨j_3, (0, j_3, j_4, j_5), rfl, ⟨rfl, g_11⟩, by rw [ht9]; exact hP9, hD9⟩, hS.F ht9⟩) hS.2.2 dL_set_69)
  · exact absurd c_1 (by decide)
set_option maxHeartbeats 4000000 in
set_option maxRecDepth 100000 in
theorem c_L_set_2 (l : Launch) (D : va_G) (cI cZ cQ cJ : ClassId) (ad : Nat) (o : Nat) (pa : Nat) (ka : Nat) (fx : Nat → Nat) (sx : Nat → Nat) (x : Nat → Nat) (r : Nat → Nat) (w : Nat → Int32) (q : Nat → Int32) (d : Nat → Int32) (T : Nat → Nat → Int32) (st : Nat → Int32) (re : Nat → Int32) (rc : Int32) (nz : Nat) (y : Nat → Nat) (rp : Nat → Nat) (rw : Nat → Nat) (rt : Nat → Nat) (P : Nat → Nat → Int32) (n : Nat → Int32) (Wi : Nat → Nat → Int32) (Ti : Nat → Nat → Int32) (nt : Nat) (t : Int32) (z : Int32) (m9 : Int32) (sz : Nat) (hnz : nz ≤ 7) (hnt : nt ≤ 7) (hfl : l.stackTraces = false) : vx_Met l yL_set (.codeWith yL_set cL_set 6 (some .int) [(0, 69, 70, 14), (0, 69, 75, 22), (0, 69, 80, 16)] :: ALL) ({ frames := 8, cells := 3, slots := 18, locals := 129 } : Room) (va_Pc [.ref ad, .int (nI 2), .int t, .int z, .int m9] (rx_P D cI cZ cQ cJ ((wDp ad o pa ka (fx 0) (sx 0)) ++ ((wOf o (x 0) (y 0)) ++ ((wFl x r cI cZ cQ w q d T st re rc (nI nz)) ++ (wSt y rp rw rt cI cQ P n Wi Ti (nI nt))))) sz)) (va_Qi (fun (r9 : Int32) (u9 : Nat × Int32 × (Nat → Nat → Int32)) => (r9 = (an u9.1 u9.2.1)) ∧ (sSetWish nt nz Wi t z m9 u9.1 u9.2.1 u9.2.2)) (rw_B D (va_A ((wDp ad o pa ka (fx 0) (sx 0)) ++ ((wOf o (x 0) (y 0)) ++ ((wFl x r cI cZ cQ w q d T st re rc (nI nz)) ++ (wSt y rp rw rt cI cQ P n Wi Ti (nI nt))))) sz) (fun u9 : Nat × Int32 × (Nat → Nat → Int32) => (wDp ad o pa ka (fx 0) (sx 0)) ++ ((wOf o (x 0) (y 0)) ++ ((wFl x r cI cZ cQ w q d T st re rc (nI nz)) ++ (wSt y rp rw rt cI cQ P n u9.2.2 Ti (nI nt)))))) (va_A ((wDp ad o pa ka (fx 0) (sx 0)) ++ ((wOf o (x 0) (y 0)) ++ ((wFl x r cI cZ cQ w q d T st re rc (nI nz)) ++ (wSt y rp rw rt cI cQ P n Wi Ti (nI nt))))) sz)) (rx_X (fun (E9 : String) (x9 : Unit) => False) D (va_A ((wDp ad o pa ka (fx 0) (sx 0)) ++ ((wOf o (x 0) (y 0)) ++ ((wFl x r cI cZ cQ w q d T st re rc (nI nz)) ++ (wSt y rp rw rt cI cQ P n Wi Ti (nI nt))))) sz) (fun x9 : Unit => (wDp ad o pa ka (fx 0) (sx 0)) ++ ((wOf o (x 0) (y 0)) ++ ((wFl x r cI cZ cQ w q d T st re rc (nI nz)) ++ (wSt y rp rw rt cI cQ P n Wi Ti (nI nt)))))) 3 18 (va_A ((wDp ad o pa ka (fx 0) (sx 0)) ++ ((wOf o (x 0) (y 0)) ++ ((wFl x r cI cZ cQ w q d T st re rc (nI nz)) ++ (wSt y rp rw rt cI cQ P n Wi Ti (nI nt))))) sz) := by
  refine vx_ofWH (cc := cL_set) (maxL := 6) (ret := (some .int)) (hh := [(0, 69, 70, 14), (0, 69, 75, 22), (0, 69, 80, 16)]) (by decide) rfl ?_
  intro p e s m args below meth c s₁ B hml hv
  obtain ⟨rfl, ⟨hsz, hP, hSt, hD0⟩, hDc, hZ⟩ := hv
  change W p l e ({ frames := 8, cells := 3, slots := 18, locals := 129 } : Room) s m _ below meth c s.heap [] 0 0 _ _
  have hx := B.exec
  have hb := B.bytes
  have hr := B.returns
  have hts : ∀ w ∈ ALL, w.before ([.ref ad, .int (nI 2), .int t, .int z, .int m9] : List Value).toArray s = true := fun w h => atoms_spec (ws := (.codeWith yL_set cL_set 6 (some .int) [(0, 69, 70, 14), (0, 69, 75, 22), (0, 69, 80, 16)] :: ALL)) B.pre w (List.mem_cons_of_mem _ h)
  have hown : s.vm.findClass RL = some m.cls := findClass_of_methodNamed B.named
  have hlocks := B.notSynchronized
  have htb : c.exceptionTable.toList = tableOf [(0, 69, 70, 14), (0, 69, 75, 22), (0, 69, 80, 16)] := vx_table (x := yL_set) B (atoms_spec (ws := (.codeWith yL_set cL_set 6 (some .int) [(0, 69, 70, 14), (0, 69, 75, 22), (0, 69, 80, 16)] :: ALL)) B.pre _ List.mem_cons_self)
  subst hsz
  have hD := hD0.self (sz := s.heap.size)
  clear hD0
  generalize hAe : va_A ((wDp ad o pa ka (fx 0) (sx 0)) ++ ((wOf o (x 0) (y 0)) ++ ((wFl x r cI cZ cQ w q d T st re rc (nI nz)) ++ (wSt y rp rw rt cI cQ P n Wi Ti (nI nt))))) s.heap.size = A at hD hZ ⊢
  have hA : ∀ q : Nat, s.heap.size ≤ q → A q := fun q h => by rw [← hAe]; exact Or.inr h
  have hS : va_S A s.heap s.heap [] := va_S.rf
  have hl := lv_entry ([.ref ad, .int (nI 2), .int t, .int z, .int m9]) (n := 6) (Nat.le_of_ble_eq_true rfl)
  rw [lg_entry_eq]
  generalize (lg_sl ([.ref ad, .int (nI 2), .int t, .int z, .int m9]) ++ List.replicate (6 - (lg_sl ([.ref ad, .int (nI 2), .int t, .int z, .int m9])).length) Slot.unset).toArray = ls at hl ⊢
  have hl : lv_has ls 6 [(0, .ref ad), (1, .int (nI 2)), (2, .int t), (3, .int z), (4, .int m9)] := hl
  obtain ⟨H, hHe⟩ : ∃ H : Heap, H = s.heap := ⟨_, rfl⟩
  obtain ⟨locs, hLe⟩ : ∃ L : List Loc, L = [] := ⟨_, rfl⟩
  have hP : va_P D vwCl ((wDp ad o pa ka (fx 0) (sx 0)) ++ ((wOf o (x 0) (y 0)) ++ ((wFl x r cI cZ cQ w q d T st re rc (nI nz)) ++ (wSt y rp rw rt cI cQ P n Wi Ti (nI nt))))) H := by rw [hHe]; exact hP
  have hS : va_S A s.heap H locs := by rw [hHe, hLe]; exact hS
  refine W.eqHL hHe hLe ?_
  refine lv_iload_n hx hb dL_set_0 rfl (lv_at hl 1 rfl) ?_
  refine lv_if_ne (tgt := 14) hx hb dL_set_1 (by decide) (fun c_1 => ?_) (fun c_1 => ?_)
  · refine lv_iload_n hx hb dL_set_14 rfl (lv_at hl 1 rfl) ?_
    refine lv_iconst (v := nI 1) hx hb dL_set_15 (by decide) ?_
    refine lv_icmp_ne (tgt := 30) hx hb dL_set_16 (by decide) (fun c_2 => ?_) (fun c_2 => ?_)
    · refine lv_iload_n hx hb dL_set_30 rfl (lv_at hl 1 rfl) ?_
      refine lv_iconst (v := nI 2) hx hb dL_set_31 (by decide) ?_
      refine lv_icmp_ne (tgt := 46) hx hb dL_set_32 (by decide) (fun c_3 => ?_) (fun c_3 => ?_)
      · exact absurd c_3 (by decide)
      · refine lv_aload_n hx hb dL_set_35 rfl (lv_at hl 0 rfl) ?_
        refine lv_iload_n hx hb dL_set_36 rfl (lv_at hl 2 rfl) ?_
        refine lv_iload_n hx hb dL_set_37 rfl (lv_at hl 3 rfl) ?_
        refine lv_iload hx hb dL_set_38 (lv_at hl 4 rfl) ?_
        refine rx_i (wr := ([] : va_W)) (w_VX (As := [.int t, .int z, .int m9]) ⟨hx, hb, hml, hown, hts⟩ (c_X7_setWish l D cI cZ cQ cJ ad o pa ka fx sx x r w q d T st re rc nz y rp rw rt P n Wi Ti nt t z m9 H.size (by first | assumption | omega) (by first | assumption | omega) (by first | assumption | omega)) (gV t3_12 t3_13 t3_14 t1_1 t3_15) rfl rfl hd_X7_setWish ⟨Nat.le_of_ble_eq_true rfl, Nat.le_of_ble_eq_true rfl⟩ (rx_pre hP hD hSt hDc hZ hS hA [0, 1, 2, 3, 4, 5, 6, 7, 8, 9, 10, 11, 12, 13, 14, 15, 16, 17, 18, 19, 20, 21, 22, 23, 24, 25, 26, 27, 28, 29, 30, 31, 32, 33, 34, 35, 36, 37, 38, 39, 40, 41] rfl (by decide)) (va_recv hSt.1 hP (ci := 7) (q0 := 0) rfl rfl) rfl hl.1 (rest := []) rfl (Nat.le_of_ble_eq_true rfl) dL_set_40 ⟨Nat.le_of_ble_eq_true rfl, Nat.le_of_ble_eq_true rfl⟩) hP hD hS hA [0, 1, 2, 3, 4, 5, 6, 7, 8, 9, 10, 11, 12, 13, 14, 15, 16, 17, 18, 19, 20, 21, 22, 23, 24, 25, 26, 27, 28, 29, 30, 31, 32, 33, 34, 35, 36, 37, 38, 39, 40, 41] [] rfl rfl (by decide) (by decide) (fun E9 ce9 q9 x9 H locs hx9 hP hD hS hc91 hc92 hc93 => ?_) (fun r_9 u_6 H locs hw9 hP hD hS => ?_)
        · have hx9 : (E9 = "java/lang/IndexOutOfBoundsException" ∧ sSetWish nt nz Wi t z m9 1 0 Wi) ∨ (E9 = "java/lang/IllegalArgumentException" ∧ sSetWish nt nz Wi t z m9 2 0 Wi) := hx9
          have hP : va_P D vwCl ((wDp ad o pa ka (fx 0) (sx 0)) ++ ((wOf o (x 0) (y 0)) ++ ((wFl x r cI cZ cQ w q d T st re rc (nI nz)) ++ (wSt y rp rw rt cI cQ P n Wi Ti (nI nt))))) H := hP
          have hD : va_D A ((wDp ad o pa ka (fx 0) (sx 0)) ++ ((wOf o (x 0) (y 0)) ++ ((wFl x r cI cZ cQ w q d T st re rc (nI nz)) ++ (wSt y rp rw rt cI cQ P n Wi Ti (nI nt))))) := hD
          rcases hx9 with ⟨rfl, hsx⟩ | ⟨rfl, hsx⟩
          · refine vx_catch (own := RL) hown [] ⟨0, 69, 70, 14⟩ [⟨0, 69, 75, 22⟩, ⟨0, 69, 80, 16⟩] (by rw [htb]; rfl) (fun _ h9 => nomatch h9) (by decide) (by decide) (hts _ t2_47) (hSt.2.e 0 rfl) hc91 hc92 hc93 ?_
            refine lv_astore (lv' := [(5, .ref q9), (0, .ref ad), (1, .int (nI 2)), (2, .int t), (3, .int z), (4, .int m9)]) hx hb dL_set_70 hl (by decide) rfl (fun ls hl => ?_)
            refine lv_bipush (v := (-70 : Int32)) hx hb dL_set_72 (by decide) ?_
            have hP9 : va_P D vwCl ((wDp ad o pa ka (fx 0) (sx 0)) ++ ((wOf o (x 0) (y 0)) ++ ((wFl x r cI cZ cQ w q d T st re rc (nI nz)) ++ (wSt y rp rw rt cI cQ P n Wi Ti (nI nt))))) H := hP
            have hD9 : va_D A ((wDp ad o pa ka (fx 0) (sx 0)) ++ ((wOf o (x 0) (y 0)) ++ ((wFl x r cI cZ cQ w q d T st re rc (nI nz)) ++ (wSt y rp rw rt cI cQ P n Wi Ti (nI nt))))) := hD
            have g_7 : sSetWish nt nz Wi t z m9 1 (0 : Int32) Wi := hsx
            refine W.widen (k := 3) (n := 18) (by omega) (by omega) ?_
            exact vx_ret (W.iret (v := (-70 : Int32)) hx hb hr (fun t9 ht9 hW9 => ⟨⟨(-70 : Int32), (1, (0 : Int32), Wi), rfl, ⟨rfl, g_7⟩, by rw [ht9]; exact hP9, hD9⟩, hS.F ht9⟩) hS.2.2 dL_set_74)
          · refine vx_catch (own := RL) hown [⟨0, 69, 70, 14⟩] ⟨0, 69, 75, 22⟩ [⟨0, 69, 80, 16⟩] (by rw [htb]; rfl) (List.forall_mem_cons.mpr ⟨Or.inr ⟨by decide, _, hts _ t2_47, hSt.2.p 1 rfl⟩, fun _ h9 => nomatch h9⟩) (by decide) (by decide) (hts _ t2_172) (hSt.2.e 1 rfl) hc91 hc92 hc93 ?_
            refine lv_astore (lv' := [(5, .ref q9), (0, .ref ad), (1, .int (nI 2)), (2, .int t), (3, .int z), (4, .int m9)]) hx hb dL_set_75 hl (by decide) rfl (fun ls hl => ?_)
            refine lv_bipush (v := (-70 : Int32)) hx hb dL_set_77 (by decide) ?_
            have hP9 : va_P D vwCl ((wDp ad o pa ka (fx 0) (sx 0)) ++ ((wOf o (x 0) (y 0)) ++ ((wFl x r cI cZ cQ w q d T st re rc (nI nz)) ++ (wSt y rp rw rt cI cQ P n Wi Ti (nI nt))))) H := hP
            have hD9 : va_D A ((wDp ad o pa ka (fx 0) (sx 0)) ++ ((wOf o (x 0) (y 0)) ++ ((wFl x r cI cZ cQ w q d T st re rc (nI nz)) ++ (wSt y rp rw rt cI cQ P n Wi Ti (nI nt))))) := hD
            have g_8 : sSetWish nt nz Wi t z m9 2 (0 : Int32) Wi := hsx
            refine W.widen (k := 3) (n := 18) (by omega) (by omega) ?_
            exact vx_ret (W.iret (v := (-70 : Int32)) hx hb hr (fun t9 ht9 hW9 => ⟨⟨(-70 : Int32), (2, (0 : Int32), Wi), rfl, ⟨rfl, g_8⟩, by rw [ht9]; exact hP9, hD9⟩, hS.F ht9⟩) hS.2.2 dL_set_79)
        · obtain ⟨j_4, j_5⟩ := u_6
          obtain ⟨er_9, f_9⟩ := hw9
          replace er_9 := er_9.symm
          subst er_9
          have hs9 : sSetWish nt nz Wi t z m9 0 j_4 j_5 := f_9
          have hP : va_P D vwCl ((wDp ad o pa ka (fx 0) (sx 0)) ++ ((wOf o (x 0) (y 0)) ++ ((wFl x r cI cZ cQ w q d T st re rc (nI nz)) ++ (wSt y rp rw rt cI cQ P n j_5 Ti (nI nt))))) H := hP
          have hD : va_D A ((wDp ad o pa ka (fx 0) (sx 0)) ++ ((wOf o (x 0) (y 0)) ++ ((wFl x r cI cZ cQ w q d T st re rc (nI nz)) ++ (wSt y rp rw rt cI cQ P n j_5 Ti (nI nt))))) := hD
          refine lv_goto (tgt := 69) hx hb dL_set_43 (by decide) ?_
          have hP9 : va_P D vwCl ((wDp ad o pa ka (fx 0) (sx 0)) ++ ((wOf o (x 0) (y 0)) ++ ((wFl x r cI cZ cQ w q d T st re rc (nI nz)) ++ (wSt y rp rw rt cI cQ P n j_5 Ti (nI nt))))) H := hP
          have hD9 : va_D A ((wDp ad o pa ka (fx 0) (sx 0)) ++ ((wOf o (x 0) (y 0)) ++ ((wFl x r cI cZ cQ w q d T st re rc (nI nz)) ++ (wSt y rp rw rt cI cQ P n j_5 Ti (nI nt))))) := hD
          have g_10 : sSetWish nt nz Wi t z m9 0 j_4 j_5 := hs9
          refine W.widen (k := 3) (n := 18) (by omega) (by omega) ?_
          exact vx_ret (W.iret (v := j_4) hx hb hr (fun t9 ht9 hW9 => ⟨⟨j_4, (0, j_4, j_5), rfl, ⟨rfl, g_10⟩, by rw [ht9]; exact hP9, hD9⟩, hS.F ht9⟩) hS.2.2 dL_set_69)
    · exact absurd c_2 (by decide)
  · exact absurd c_1 (by decide)
set_option maxHeartbeats 4000000 in
set_option maxRecDepth 100000 in
theorem c_L_set_3 (l : Launch) (D : va_G) (cI cZ cQ cJ : ClassId) (ad : Nat) (o : Nat) (pa : Nat) (ka : Nat) (fx : Nat → Nat) (sx : Nat → Nat) (x : Nat → Nat) (y : Nat → Nat) (rp : Nat → Nat) (rw : Nat → Nat) (rt : Nat → Nat) (P : Nat → Nat → Int32) (n : Nat → Int32) (Wi : Nat → Nat → Int32) (Ti : Nat → Nat → Int32) (nt : Nat) (t : Int32) (z : Int32) (m9 : Int32) (sz : Nat) (hnt : nt ≤ 7) (hfl : l.stackTraces = false) : vx_Met l yL_set (.codeWith yL_set cL_set 6 (some .int) [(0, 69, 70, 14), (0, 69, 75, 22), (0, 69, 80, 16)] :: ALL) ({ frames := 8, cells := 4, slots := 24, locals := 128 } : Room) (va_Pc [.ref ad, .int (nI 3), .int t, .int z, .int m9] (rx_P D cI cZ cQ cJ ((wDp ad o pa ka (fx 0) (sx 0)) ++ ((wOf o (x 0) (y 0)) ++ (wSt y rp rw rt cI cQ P n Wi Ti (nI nt)))) sz)) (va_Qi (fun (r9 : Int32) (u9 : Nat × Int32 × (Nat → Nat → Int32)) => (r9 = (an u9.1 u9.2.1)) ∧ (sSetTie nt Ti t z m9 u9.1 u9.2.1 u9.2.2)) (rw_B D (va_A ((wDp ad o pa ka (fx 0) (sx 0)) ++ ((wOf o (x 0) (y 0)) ++ (wSt y rp rw rt cI cQ P n Wi Ti (nI nt)))) sz) (fun u9 : Nat × Int32 × (Nat → Nat → Int32) => (wDp ad o pa ka (fx 0) (sx 0)) ++ ((wOf o (x 0) (y 0)) ++ (wSt y rp rw rt cI cQ P n Wi u9.2.2 (nI nt))))) (va_A ((wDp ad o pa ka (fx 0) (sx 0)) ++ ((wOf o (x 0) (y 0)) ++ (wSt y rp rw rt cI cQ P n Wi Ti (nI nt)))) sz)) (rx_X (fun (E9 : String) (x9 : Unit) => False) D (va_A ((wDp ad o pa ka (fx 0) (sx 0)) ++ ((wOf o (x 0) (y 0)) ++ (wSt y rp rw rt cI cQ P n Wi Ti (nI nt)))) sz) (fun x9 : Unit => (wDp ad o pa ka (fx 0) (sx 0)) ++ ((wOf o (x 0) (y 0)) ++ (wSt y rp rw rt cI cQ P n Wi Ti (nI nt))))) 4 24 (va_A ((wDp ad o pa ka (fx 0) (sx 0)) ++ ((wOf o (x 0) (y 0)) ++ (wSt y rp rw rt cI cQ P n Wi Ti (nI nt)))) sz) := by
  refine vx_ofWH (cc := cL_set) (maxL := 6) (ret := (some .int)) (hh := [(0, 69, 70, 14), (0, 69, 75, 22), (0, 69, 80, 16)]) (by decide) rfl ?_
  intro p e s m args below meth c s₁ B hml hv
  obtain ⟨rfl, ⟨hsz, hP, hSt, hD0⟩, hDc, hZ⟩ := hv
  change W p l e ({ frames := 8, cells := 4, slots := 24, locals := 128 } : Room) s m _ below meth c s.heap [] 0 0 _ _
  have hx := B.exec
  have hb := B.bytes
  have hr := B.returns
  have hts : ∀ w ∈ ALL, w.before ([.ref ad, .int (nI 3), .int t, .int z, .int m9] : List Value).toArray s = true := fun w h => atoms_spec (ws := (.codeWith yL_set cL_set 6 (some .int) [(0, 69, 70, 14), (0, 69, 75, 22), (0, 69, 80, 16)] :: ALL)) B.pre w (List.mem_cons_of_mem _ h)
  have hown : s.vm.findClass RL = some m.cls := findClass_of_methodNamed B.named
  have hlocks := B.notSynchronized
  have htb : c.exceptionTable.toList = tableOf [(0, 69, 70, 14), (0, 69, 75, 22), (0, 69, 80, 16)] := vx_table (x := yL_set) B (atoms_spec (ws := (.codeWith yL_set cL_set 6 (some .int) [(0, 69, 70, 14), (0, 69, 75, 22), (0, 69, 80, 16)] :: ALL)) B.pre _ List.mem_cons_self)
  subst hsz
  have hD := hD0.self (sz := s.heap.size)
  clear hD0
  generalize hAe : va_A ((wDp ad o pa ka (fx 0) (sx 0)) ++ ((wOf o (x 0) (y 0)) ++ (wSt y rp rw rt cI cQ P n Wi Ti (nI nt)))) s.heap.size = A at hD hZ ⊢
  have hA : ∀ q : Nat, s.heap.size ≤ q → A q := fun q h => by rw [← hAe]; exact Or.inr h
  have hS : va_S A s.heap s.heap [] := va_S.rf
  have hl := lv_entry ([.ref ad, .int (nI 3), .int t, .int z, .int m9]) (n := 6) (Nat.le_of_ble_eq_true rfl)
  rw [lg_entry_eq]
  generalize (lg_sl ([.ref ad, .int (nI 3), .int t, .int z, .int m9]) ++ List.replicate (6 - (lg_sl ([.ref ad, .int (nI 3), .int t, .int z, .int m9])).length) Slot.unset).toArray = ls at hl ⊢
  have hl : lv_has ls 6 [(0, .ref ad), (1, .int (nI 3)), (2, .int t), (3, .int z), (4, .int m9)] := hl
  obtain ⟨H, hHe⟩ : ∃ H : Heap, H = s.heap := ⟨_, rfl⟩
  obtain ⟨locs, hLe⟩ : ∃ L : List Loc, L = [] := ⟨_, rfl⟩
  have hP : va_P D vwCl ((wDp ad o pa ka (fx 0) (sx 0)) ++ ((wOf o (x 0) (y 0)) ++ (wSt y rp rw rt cI cQ P n Wi Ti (nI nt)))) H := by rw [hHe]; exact hP
  have hS : va_S A s.heap H locs := by rw [hHe, hLe]; exact hS
  refine W.eqHL hHe hLe ?_
  refine lv_iload_n hx hb dL_set_0 rfl (lv_at hl 1 rfl) ?_
  refine lv_if_ne (tgt := 14) hx hb dL_set_1 (by decide) (fun c_1 => ?_) (fun c_1 => ?_)
  · refine lv_iload_n hx hb dL_set_14 rfl (lv_at hl 1 rfl) ?_
    refine lv_iconst (v := nI 1) hx hb dL_set_15 (by decide) ?_
    refine lv_icmp_ne (tgt := 30) hx hb dL_set_16 (by decide) (fun c_2 => ?_) (fun c_2 => ?_)
    · refine lv_iload_n hx hb dL_set_30 rfl (lv_at hl 1 rfl) ?_
      refine lv_iconst (v := nI 2) hx hb dL_set_31 (by decide) ?_
      refine lv_icmp_ne (tgt := 46) hx hb dL_set_32 (by decide) (fun c_3 => ?_) (fun c_3 => ?_)
      · refine lv_iload_n hx hb dL_set_46 rfl (lv_at hl 1 rfl) ?_
        refine lv_iconst (v := nI 3) hx hb dL_set_47 (by decide) ?_
        refine lv_icmp_ne (tgt := 62) hx hb dL_set_48 (by decide) (fun c_4 => ?_) (fun c_4 => ?_)
        · exact absurd c_4 (by decide)
        · refine lv_aload_n hx hb dL_set_51 rfl (lv_at hl 0 rfl) ?_
          refine lv_iload_n hx hb dL_set_52 rfl (lv_at hl 2 rfl) ?_
          refine lv_iload_n hx hb dL_set_53 rfl (lv_at hl 3 rfl) ?_
          refine lv_iload hx hb dL_set_54 (lv_at hl 4 rfl) ?_
          refine rx_i (wr := ([] : va_W)) (w_VX (As := [.int t, .int z, .int m9]) ⟨hx, hb, hml, hown, hts⟩ (c_X7_setTie l D cI cZ cQ cJ ad o pa ka fx sx x y rp rw rt P n Wi Ti nt t z m9 H.size (by first | assumption | omega) (by first | assumption | omega)) (gV t3_16 t3_17 t3_18 t1_1 t3_19) rfl rfl hd_X7_setTie ⟨Nat.le_of_ble_eq_true rfl, Nat.le_of_ble_eq_true rfl⟩ (rx_pre hP hD hSt hDc hZ hS hA [0, 1, 2, 3, 4, 5, 6, 7, 8, 9, 10, 11, 12, 13, 14, 15, 16, 17, 18, 19, 20, 21, 22, 23, 24, 25, 26, 27] rfl (by decide)) (va_recv hSt.1 hP (ci := 7) (q0 := 0) rfl rfl) rfl hl.1 (rest := []) rfl (Nat.le_of_ble_eq_true rfl) dL_set_56 ⟨Nat.le_of_ble_eq_true rfl, Nat.le_of_ble_eq_true rfl⟩) hP hD hS hA [0, 1, 2, 3, 4, 5, 6, 7, 8, 9, 10, 11, 12, 13, 14, 15, 16, 17, 18, 19, 20, 21, 22, 23, 24, 25, 26, 27] [] rfl rfl (by decide) (by decide) (fun E9 ce9 q9 x9 H locs hx9 hP hD hS hc91 hc92 hc93 => ?_) (fun r_9 u_7 H locs hw9 hP hD hS => ?_)
          · have hx9 : (E9 = "java/lang/IndexOutOfBoundsException" ∧ sSetTie nt Ti t z m9 1 0 Ti) ∨ (E9 = "java/lang/IllegalArgumentException" ∧ sSetTie nt Ti t z m9 2 0 Ti) := hx9
            have hP : va_P D vwCl ((wDp ad o pa ka (fx 0) (sx 0)) ++ ((wOf o (x 0) (y 0)) ++ (wSt y rp rw rt cI cQ P n Wi Ti (nI nt)))) H := hP
            have hD : va_D A ((wDp ad o pa ka (fx 0) (sx 0)) ++ ((wOf o (x 0) (y 0)) ++ (wSt y rp rw rt cI cQ P n Wi Ti (nI nt)))) := hD
            rcases hx9 with ⟨rfl, hsx⟩ | ⟨rfl, hsx⟩
            · refine vx_catch (own := RL) hown [] ⟨0, 69, 70, 14⟩ [⟨0, 69, 75, 22⟩, ⟨0, 69, 80, 16⟩] (by rw [htb]; rfl) (fun _ h9 => nomatch h9) (by decide) (by decide) (hts _ t2_47) (hSt.2.e 0 rfl) hc91 hc92 hc93 ?_
              refine lv_astore (lv' := [(5, .ref q9), (0, .ref ad), (1, .int (nI 3)), (2, .int t), (3, .int z), (4, .int m9)]) hx hb dL_set_70 hl (by decide) rfl (fun ls hl => ?_)
              refine lv_bipush (v := (-70 : Int32)) hx hb dL_set_72 (by decide) ?_
              have hP9 : va_P D vwCl ((wDp ad o pa ka (fx 0) (sx 0)) ++ ((wOf o (x 0) (y 0)) ++ (wSt y rp rw rt cI cQ P n Wi Ti (nI nt)))) H := hP
              have hD9 : va_D A ((wDp ad o pa ka (fx 0) (sx 0)) ++ ((wOf o (x 0) (y 0)) ++ (wSt y rp rw rt cI cQ P n Wi Ti (nI nt)))) := hD
              have g_8 : sSetTie nt Ti t z m9 1 (0 : Int32) Ti := hsx
              refine W.widen (k := 4) (n := 24) (by omega) (by omega) ?_
              exact vx_ret (W.iret (v := (-70 : Int32)) hx hb hr (fun t9 ht9 hW9 => ⟨⟨(-70 : Int32), (1, (0 : Int32), Ti), rfl, ⟨rfl, g_8⟩, by rw [ht9]; exact hP9, hD9⟩, hS.F ht9⟩) hS.2.2 dL_set_74)
            · refine vx_catch (own := RL) hown [⟨0, 69, 70, 14⟩] ⟨0, 69, 75, 22⟩ [⟨0, 69, 80, 16⟩] (by rw [htb]; rfl) (List.forall_mem_cons.mpr ⟨Or.inr ⟨by decide, _, hts _ t2_47, hSt.2.p 1 rfl⟩, fun _ h9 => nomatch h9⟩) (by decide) (by decide) (hts _ t2_172) (hSt.2.e 1 rfl) hc91 hc92 hc93 ?_
              refine lv_astore (lv' := [(5, .ref q9), (0, .ref ad), (1, .int (nI 3)), (2, .int t), (3, .int z), (4, .int m9)]) hx hb dL_set_75 hl (by decide) rfl (fun ls hl => ?_)
              refine lv_bipush (v := (-70 : Int32)) hx hb dL_set_77 (by decide) ?_
              have hP9 : va_P D vwCl ((wDp ad o pa ka (fx 0) (sx 0)) ++ ((wOf o (x 0) (y 0)) ++ (wSt y rp rw rt cI cQ P n Wi Ti (nI nt)))) H := hP
              have hD9 : va_D A ((wDp ad o pa ka (fx 0) (sx 0)) ++ ((wOf o (x 0) (y 0)) ++ (wSt y rp rw rt cI cQ P n Wi Ti (nI nt)))) := hD
              have g_9 : sSetTie nt Ti t z m9 2 (0 : Int32) Ti := hsx
              refine W.widen (k := 4) (n := 24) (by omega) (by omega) ?_
              exact vx_ret (W.iret (v := (-70 : Int32)) hx hb hr (fun t9 ht9 hW9 => ⟨⟨(-70 : Int32), (2, (0 : Int32), Ti), rfl, ⟨rfl, g_9⟩, by rw [ht9]; exact hP9, hD9⟩, hS.F ht9⟩) hS.2.2 dL_set_79)
          · obtain ⟨j_5, j_6⟩ := u_7
            obtain ⟨er_9, f_10⟩ := hw9
            replace er_9 := er_9.symm
            subst er_9
            have hs9 : sSetTie nt Ti t z m9 0 j_5 j_6 := f_10
            have hP : va_P D vwCl ((wDp ad o pa ka (fx 0) (sx 0)) ++ ((wOf o (x 0) (y 0)) ++ (wSt y rp rw rt cI cQ P n Wi j_6 (nI nt)))) H := hP
            have hD : va_D A ((wDp ad o pa ka (fx 0) (sx 0)) ++ ((wOf o (x 0) (y 0)) ++ (wSt y rp rw rt cI cQ P n Wi j_6 (nI nt)))) := hD
            refine lv_goto (tgt := 69) hx hb dL_set_59 (by decide) ?_
            have hP9 : va_P D vwCl ((wDp ad o pa ka (fx 0) (sx 0)) ++ ((wOf o (x 0) (y 0)) ++ (wSt y rp rw rt cI cQ P n Wi j_6 (nI nt)))) H := hP
            have hD9 : va_D A ((wDp ad o pa ka (fx 0) (sx 0)) ++ ((wOf o (x 0) (y 0)) ++ (wSt y rp rw rt cI cQ P n Wi j_6 (nI nt)))) := hD
            have g_11 : sSetTie nt Ti t z m9 0 j_5 j_6 := hs9
            refine W.widen (k := 4) (n := 24) (by omega) (by omega) ?_
            exact vx_ret (W.iret (v := j_5) hx hb hr (fun t9 ht9 hW9 => ⟨⟨j_5, (0, j_5, j_6), rfl, ⟨rfl, g_11⟩, by rw [ht9]; exact hP9, hD9⟩, hS.F ht9⟩) hS.2.2 dL_set_69)
      · exact absurd c_3 (by decide)
    · exact absurd c_2 (by decide)
  · exact absurd c_1 (by decide)
set_option maxHeartbeats 4000000 in
set_option maxRecDepth 100000 in
theorem c_L_set_4 (l : Launch) (D : va_G) (cI cZ cQ cJ : ClassId) (ad : Nat) (o : Nat) (pa : Nat) (ka : Nat) (fx : Nat → Nat) (sx : Nat → Nat) (x : Nat → Nat) (r : Nat → Nat) (w : Nat → Int32) (q : Nat → Int32) (d : Nat → Int32) (T : Nat → Nat → Int32) (st : Nat → Int32) (re : Nat → Int32) (rc : Int32) (nz : Nat) (y : Nat → Nat) (rp : Nat → Nat) (rw : Nat → Nat) (rt : Nat → Nat) (P : Nat → Nat → Int32) (n : Nat → Int32) (Wi : Nat → Nat → Int32) (Ti : Nat → Nat → Int32) (nt : Nat) (pb : Nat) (zo : Nat → Int32) (t : Int32) (z : Int32) (e8 : Int32) (sz : Nat) (hnz : nz ≤ 7) (hnt : nt ≤ 7) (hfl : l.stackTraces = false) : vx_Met l yL_set (.codeWith yL_set cL_set 6 (some .int) [(0, 69, 70, 14), (0, 69, 75, 22), (0, 69, 80, 16)] :: ALL) ({ frames := 8, cells := 3, slots := 18, locals := 128 } : Room) (va_Pc [.ref ad, .int (nI 4), .int t, .int e8, .int z] (rx_P D cI cZ cQ cJ ((wDp ad o pa ka (fx 0) (sx 0)) ++ ((wOf o (x 0) (y 0)) ++ ((wFl x r cI cZ cQ w q d T st re rc (nI nz)) ++ ((wSt y rp rw rt cI cQ P n Wi Ti (nI nt)) ++ (wPl pa pb cI zo))))) sz)) (va_Qi (fun (r9 : Int32) (u9 : Nat × Int32 × (Nat → Int32)) => (r9 = (an u9.1 u9.2.1)) ∧ (sPlace nt nz zo n d t z u9.1 u9.2.1 u9.2.2)) (rw_B D (va_A ((wDp ad o pa ka (fx 0) (sx 0)) ++ ((wOf o (x 0) (y 0)) ++ ((wFl x r cI cZ cQ w q d T st re rc (nI nz)) ++ ((wSt y rp rw rt cI cQ P n Wi Ti (nI nt)) ++ (wPl pa pb cI zo))))) sz) (fun u9 : Nat × Int32 × (Nat → Int32) => (wDp ad o pa ka (fx 0) (sx 0)) ++ ((wOf o (x 0) (y 0)) ++ ((wFl x r cI cZ cQ w q d T st re rc (nI nz)) ++ ((wSt y rp rw rt cI cQ P n Wi Ti (nI nt)) ++ (wPl pa pb cI u9.2.2)))))) (va_A ((wDp ad o pa ka (fx 0) (sx 0)) ++ ((wOf o (x 0) (y 0)) ++ ((wFl x r cI cZ cQ w q d T st re rc (nI nz)) ++ ((wSt y rp rw rt cI cQ P n Wi Ti (nI nt)) ++ (wPl pa pb cI zo))))) sz)) (rx_X (fun (E9 : String) (x9 : Unit) => False) D (va_A ((wDp ad o pa ka (fx 0) (sx 0)) ++ ((wOf o (x 0) (y 0)) ++ ((wFl x r cI cZ cQ w q d T st re rc (nI nz)) ++ ((wSt y rp rw rt cI cQ P n Wi Ti (nI nt)) ++ (wPl pa pb cI zo))))) sz) (fun x9 : Unit => (wDp ad o pa ka (fx 0) (sx 0)) ++ ((wOf o (x 0) (y 0)) ++ ((wFl x r cI cZ cQ w q d T st re rc (nI nz)) ++ ((wSt y rp rw rt cI cQ P n Wi Ti (nI nt)) ++ (wPl pa pb cI zo)))))) 3 18 (va_A ((wDp ad o pa ka (fx 0) (sx 0)) ++ ((wOf o (x 0) (y 0)) ++ ((wFl x r cI cZ cQ w q d T st re rc (nI nz)) ++ ((wSt y rp rw rt cI cQ P n Wi Ti (nI nt)) ++ (wPl pa pb cI zo))))) sz) := by
  refine vx_ofWH (cc := cL_set) (maxL := 6) (ret := (some .int)) (hh := [(0, 69, 70, 14), (0, 69, 75, 22), (0, 69, 80, 16)]) (by decide) rfl ?_
  intro p e s m args below meth c s₁ B hml hv
  obtain ⟨rfl, ⟨hsz, hP, hSt, hD0⟩, hDc, hZ⟩ := hv
  change W p l e ({ frames := 8, cells := 3, slots := 18, locals := 128 } : Room) s m _ below meth c s.heap [] 0 0 _ _
  have hx := B.exec
  have hb := B.bytes
  have hr := B.returns
  have hts : ∀ w ∈ ALL, w.before ([.ref ad, .int (nI 4), .int t, .int e8, .int z] : List Value).toArray s = true := fun w h => atoms_spec (ws := (.codeWith yL_set cL_set 6 (some .int) [(0, 69, 70, 14), (0, 69, 75, 22), (0, 69, 80, 16)] :: ALL)) B.pre w (List.mem_cons_of_mem _ h)
  have hown : s.vm.findClass RL = some m.cls := findClass_of_methodNamed B.named
  have hlocks := B.notSynchronized
  have htb : c.exceptionTable.toList = tableOf [(0, 69, 70, 14), (0, 69, 75, 22), (0, 69, 80, 16)] := vx_table (x := yL_set) B (atoms_spec (ws := (.codeWith yL_set cL_set 6 (some .int) [(0, 69, 70, 14), (0, 69, 75, 22), (0, 69, 80, 16)] :: ALL)) B.pre _ List.mem_cons_self)
  subst hsz
  have hD := hD0.self (sz := s.heap.size)
  clear hD0
  generalize hAe : va_A ((wDp ad o pa ka (fx 0) (sx 0)) ++ ((wOf o (x 0) (y 0)) ++ ((wFl x r cI cZ cQ w q d T st re rc (nI nz)) ++ ((wSt y rp rw rt cI cQ P n Wi Ti (nI nt)) ++ (wPl pa pb cI zo))))) s.heap.size = A at hD hZ ⊢
  have hA : ∀ q : Nat, s.heap.size ≤ q → A q := fun q h => by rw [← hAe]; exact Or.inr h
  have hS : va_S A s.heap s.heap [] := va_S.rf
  have hl := lv_entry ([.ref ad, .int (nI 4), .int t, .int e8, .int z]) (n := 6) (Nat.le_of_ble_eq_true rfl)
  rw [lg_entry_eq]
  generalize (lg_sl ([.ref ad, .int (nI 4), .int t, .int e8, .int z]) ++ List.replicate (6 - (lg_sl ([.ref ad, .int (nI 4), .int t, .int e8, .int z])).length) Slot.unset).toArray = ls at hl ⊢
  have hl : lv_has ls 6 [(0, .ref ad), (1, .int (nI 4)), (2, .int t), (3, .int e8), (4, .int z)] := hl
  obtain ⟨H, hHe⟩ : ∃ H : Heap, H = s.heap := ⟨_, rfl⟩
  obtain ⟨locs, hLe⟩ : ∃ L : List Loc, L = [] := ⟨_, rfl⟩
  have hP : va_P D vwCl ((wDp ad o pa ka (fx 0) (sx 0)) ++ ((wOf o (x 0) (y 0)) ++ ((wFl x r cI cZ cQ w q d T st re rc (nI nz)) ++ ((wSt y rp rw rt cI cQ P n Wi Ti (nI nt)) ++ (wPl pa pb cI zo))))) H := by rw [hHe]; exact hP
  have hS : va_S A s.heap H locs := by rw [hHe, hLe]; exact hS
  refine W.eqHL hHe hLe ?_
  refine lv_iload_n hx hb dL_set_0 rfl (lv_at hl 1 rfl) ?_
  refine lv_if_ne (tgt := 14) hx hb dL_set_1 (by decide) (fun c_1 => ?_) (fun c_1 => ?_)
  · refine lv_iload_n hx hb dL_set_14 rfl (lv_at hl 1 rfl) ?_
    refine lv_iconst (v := nI 1) hx hb dL_set_15 (by decide) ?_
    refine lv_icmp_ne (tgt := 30) hx hb dL_set_16 (by decide) (fun c_2 => ?_) (fun c_2 => ?_)
    · refine lv_iload_n hx hb dL_set_30 rfl (lv_at hl 1 rfl) ?_
      refine lv_iconst (v := nI 2) hx hb dL_set_31 (by decide) ?_
      refine lv_icmp_ne (tgt := 46) hx hb dL_set_32 (by decide) (fun c_3 => ?_) (fun c_3 => ?_)
      · refine lv_iload_n hx hb dL_set_46 rfl (lv_at hl 1 rfl) ?_
        refine lv_iconst (v := nI 3) hx hb dL_set_47 (by decide) ?_
        refine lv_icmp_ne (tgt := 62) hx hb dL_set_48 (by decide) (fun c_4 => ?_) (fun c_4 => ?_)
        · refine lv_aload_n hx hb dL_set_62 rfl (lv_at hl 0 rfl) ?_
          refine lv_iload_n hx hb dL_set_63 rfl (lv_at hl 2 rfl) ?_
          refine lv_iload hx hb dL_set_64 (lv_at hl 4 rfl) ?_
          refine rx_i (wr := ([] : va_W)) (w_VX (As := [.int t, .int z]) ⟨hx, hb, hml, hown, hts⟩ (c_X7_place l D cI cZ cQ cJ ad o pa ka fx sx x r w q d T st re rc nz y rp rw rt P n Wi Ti nt pb zo t z H.size (by first | assumption | omega) (by first | assumption | omega) (by first | assumption | omega)) (gV t3_25 t3_26 t3_27 t1_1 t3_28) rfl rfl hd_X7_place ⟨Nat.le_of_ble_eq_true rfl, Nat.le_of_ble_eq_true rfl⟩ (rx_pre hP hD hSt hDc hZ hS hA [0, 1, 2, 3, 4, 5, 6, 7, 8, 9, 10, 11, 12, 13, 14, 15, 16, 17, 18, 19, 20, 21, 22, 23, 24, 25, 26, 27, 28, 29, 30, 31, 32, 33, 34, 35, 36, 37, 38, 39, 40, 41, 42, 43] rfl (by decide)) (va_recv hSt.1 hP (ci := 7) (q0 := 0) rfl rfl) rfl hl.1 (rest := []) rfl (Nat.le_of_ble_eq_true rfl) dL_set_66 ⟨Nat.le_of_ble_eq_true rfl, Nat.le_of_ble_eq_true rfl⟩) hP hD hS hA [0, 1, 2, 3, 4, 5, 6, 7, 8, 9, 10, 11, 12, 13, 14, 15, 16, 17, 18, 19, 20, 21, 22, 23, 24, 25, 26, 27, 28, 29, 30, 31, 32, 33, 34, 35, 36, 37, 38, 39, 40, 41, 42, 43] [] rfl rfl (by decide) (by decide) (fun E9 ce9 q9 x9 H locs hx9 hP hD hS hc91 hc92 hc93 => ?_) (fun r_9 u_7 H locs hw9 hP hD hS => ?_)
          · have hx9 : (E9 = "java/lang/IndexOutOfBoundsException" ∧ sPlace nt nz zo n d t z 1 0 zo) ∨ (E9 = "java/lang/IllegalStateException" ∧ sPlace nt nz zo n d t z 2 0 zo) := hx9
            have hP : va_P D vwCl ((wDp ad o pa ka (fx 0) (sx 0)) ++ ((wOf o (x 0) (y 0)) ++ ((wFl x r cI cZ cQ w q d T st re rc (nI nz)) ++ ((wSt y rp rw rt cI cQ P n Wi Ti (nI nt)) ++ (wPl pa pb cI zo))))) H := hP
            have hD : va_D A ((wDp ad o pa ka (fx 0) (sx 0)) ++ ((wOf o (x 0) (y 0)) ++ ((wFl x r cI cZ cQ w q d T st re rc (nI nz)) ++ ((wSt y rp rw rt cI cQ P n Wi Ti (nI nt)) ++ (wPl pa pb cI zo))))) := hD
            rcases hx9 with ⟨rfl, hsx⟩ | ⟨rfl, hsx⟩
            · refine vx_catch (own := RL) hown [] ⟨0, 69, 70, 14⟩ [⟨0, 69, 75, 22⟩, ⟨0, 69, 80, 16⟩] (by rw [htb]; rfl) (fun _ h9 => nomatch h9) (by decide) (by decide) (hts _ t2_47) (hSt.2.e 0 rfl) hc91 hc92 hc93 ?_
              refine lv_astore (lv' := [(5, .ref q9), (0, .ref ad), (1, .int (nI 4)), (2, .int t), (3, .int e8), (4, .int z)]) hx hb dL_set_70 hl (by decide) rfl (fun ls hl => ?_)
              refine lv_bipush (v := (-70 : Int32)) hx hb dL_set_72 (by decide) ?_
              have hP9 : va_P D vwCl ((wDp ad o pa ka (fx 0) (sx 0)) ++ ((wOf o (x 0) (y 0)) ++ ((wFl x r cI cZ cQ w q d T st re rc (nI nz)) ++ ((wSt y rp rw rt cI cQ P n Wi Ti (nI nt)) ++ (wPl pa pb cI zo))))) H := hP
              have hD9 : va_D A ((wDp ad o pa ka (fx 0) (sx 0)) ++ ((wOf o (x 0) (y 0)) ++ ((wFl x r cI cZ cQ w q d T st re rc (nI nz)) ++ ((wSt y rp rw rt cI cQ P n Wi Ti (nI nt)) ++ (wPl pa pb cI zo))))) := hD
              have g_8 : sPlace nt nz zo n d t z 1 (0 : Int32) zo := hsx
              refine W.widen (k := 3) (n := 18) (by omega) (by omega) ?_
              exact vx_ret (W.iret (v := (-70 : Int32)) hx hb hr (fun t9 ht9 hW9 => ⟨⟨(-70 : Int32), (1, (0 : Int32), zo), rfl, ⟨rfl, g_8⟩, by rw [ht9]; exact hP9, hD9⟩, hS.F ht9⟩) hS.2.2 dL_set_74)
            · refine vx_catch (own := RL) hown [⟨0, 69, 70, 14⟩, ⟨0, 69, 75, 22⟩] ⟨0, 69, 80, 16⟩ [] (by rw [htb]; rfl) (List.forall_mem_cons.mpr ⟨Or.inr ⟨by decide, _, hts _ t2_47, hSt.2.p 0 rfl⟩, List.forall_mem_cons.mpr ⟨Or.inr ⟨by decide, _, hts _ t2_172, hSt.2.p 5 rfl⟩, fun _ h9 => nomatch h9⟩⟩) (by decide) (by decide) (hts _ t2_48) (hSt.2.e 2 rfl) hc91 hc92 hc93 ?_
              refine lv_astore (lv' := [(5, .ref q9), (0, .ref ad), (1, .int (nI 4)), (2, .int t), (3, .int e8), (4, .int z)]) hx hb dL_set_80 hl (by decide) rfl (fun ls hl => ?_)
              refine lv_bipush (v := (-70 : Int32)) hx hb dL_set_82 (by decide) ?_
              have hP9 : va_P D vwCl ((wDp ad o pa ka (fx 0) (sx 0)) ++ ((wOf o (x 0) (y 0)) ++ ((wFl x r cI cZ cQ w q d T st re rc (nI nz)) ++ ((wSt y rp rw rt cI cQ P n Wi Ti (nI nt)) ++ (wPl pa pb cI zo))))) H := hP
              have hD9 : va_D A ((wDp ad o pa ka (fx 0) (sx 0)) ++ ((wOf o (x 0) (y 0)) ++ ((wFl x r cI cZ cQ w q d T st re rc (nI nz)) ++ ((wSt y rp rw rt cI cQ P n Wi Ti (nI nt)) ++ (wPl pa pb cI zo))))) := hD
              have g_9 : sPlace nt nz zo n d t z 2 (0 : Int32) zo := hsx
              refine W.widen (k := 3) (n := 18) (by omega) (by omega) ?_
              exact vx_ret (W.iret (v := (-70 : Int32)) hx hb hr (fun t9 ht9 hW9 => ⟨⟨(-70 : Int32), (2, (0 : Int32), zo), rfl, ⟨rfl, g_9⟩, by rw [ht9]; exact hP9, hD9⟩, hS.F ht9⟩) hS.2.2 dL_set_84)
          · obtain ⟨j_5, j_6⟩ := u_7
            obtain ⟨er_9, f_10⟩ := hw9
            replace er_9 := er_9.symm
            subst er_9
            have hs9 : sPlace nt nz zo n d t z 0 j_5 j_6 := f_10
            have hP : va_P D vwCl ((wDp ad o pa ka (fx 0) (sx 0)) ++ ((wOf o (x 0) (y 0)) ++ ((wFl x r cI cZ cQ w q d T st re rc (nI nz)) ++ ((wSt y rp rw rt cI cQ P n Wi Ti (nI nt)) ++ (wPl pa pb cI j_6))))) H := hP
            have hD : va_D A ((wDp ad o pa ka (fx 0) (sx 0)) ++ ((wOf o (x 0) (y 0)) ++ ((wFl x r cI cZ cQ w q d T st re rc (nI nz)) ++ ((wSt y rp rw rt cI cQ P n Wi Ti (nI nt)) ++ (wPl pa pb cI j_6))))) := hD
            have hP9 : va_P D vwCl ((wDp ad o pa ka (fx 0) (sx 0)) ++ ((wOf o (x 0) (y 0)) ++ ((wFl x r cI cZ cQ w q d T st re rc (nI nz)) ++ ((wSt y rp rw rt cI cQ P n Wi Ti (nI nt)) ++ (wPl pa pb cI j_6))))) H := hP
            have hD9 : va_D A ((wDp ad o pa ka (fx 0) (sx 0)) ++ ((wOf o (x 0) (y 0)) ++ ((wFl x r cI cZ cQ w q d T st re rc (nI nz)) ++ ((wSt y rp rw rt cI cQ P n Wi Ti (nI nt)) ++ (wPl pa pb cI j_6))))) := hD
            have g_11 : sPlace nt nz zo n d t z 0 j_5 j_6 := hs9
            refine W.widen (k := 3) (n := 18) (by omega) (by omega) ?_
            exact vx_ret (W.iret (v := j_5) hx hb hr (fun t9 ht9 hW9 => ⟨⟨j_5, (0, j_5, j_6), rfl, ⟨rfl, g_11⟩, by rw [ht9]; exact hP9, hD9⟩, hS.F ht9⟩) hS.2.2 dL_set_69)
        · exact absurd c_4 (by decide)
      · exact absurd c_3 (by decide)
    · exact absurd c_2 (by decide)
  · exact absurd c_1 (by decide)
set_option maxHeartbeats 4000000 in
set_option maxRecDepth 100000 in
theorem c_L_does_0 (l : Launch) (D : va_G) (cI cZ cQ cJ : ClassId) (ad : Nat) (o : Nat) (pa : Nat) (ka : Nat) (fx : Nat → Nat) (sx : Nat → Nat) (x : Nat → Nat) (y : Nat → Nat) (rp : Nat → Nat) (rw : Nat → Nat) (rt : Nat → Nat) (P : Nat → Nat → Int32) (n : Nat → Int32) (Wi : Nat → Nat → Int32) (Ti : Nat → Nat → Int32) (nt : Nat) (sz : Nat) (hnt : nt ≤ 7) (hfl : l.stackTraces = false) : vx_Met l yL_does (.codeWith yL_does cL_does 3 (some .int) [(0, 39, 40, 16)] :: ALL) ({ frames := 7, cells := 1, slots := 6, locals := 102 } : Room) (va_Pc [.ref ad, .int (nI 0)] (rx_P D cI cZ cQ cJ ((wDp ad o pa ka (fx 0) (sx 0)) ++ ((wOf o (x 0) (y 0)) ++ (wSt y rp rw rt cI cQ P n Wi Ti (nI nt)))) sz)) (va_Qi (fun (r9 : Int32) (u9 : Nat × Int32 × (Nat → Nat → Int32) × (Nat → Int32) × Nat) => (r9 = (an u9.1 u9.2.1)) ∧ (sAddTeam nt P n u9.1 u9.2.1 u9.2.2.2.2 u9.2.2.1 u9.2.2.2.1)) (rw_B D (va_A ((wDp ad o pa ka (fx 0) (sx 0)) ++ ((wOf o (x 0) (y 0)) ++ (wSt y rp rw rt cI cQ P n Wi Ti (nI nt)))) sz) (fun u9 : Nat × Int32 × (Nat → Nat → Int32) × (Nat → Int32) × Nat => (wDp ad o pa ka (fx 0) (sx 0)) ++ ((wOf o (x 0) (y 0)) ++ (wSt y rp rw rt cI cQ u9.2.2.1 u9.2.2.2.1 Wi Ti (nI u9.2.2.2.2))))) (va_A ((wDp ad o pa ka (fx 0) (sx 0)) ++ ((wOf o (x 0) (y 0)) ++ (wSt y rp rw rt cI cQ P n Wi Ti (nI nt)))) sz)) (rx_X (fun (E9 : String) (x9 : Unit) => False) D (va_A ((wDp ad o pa ka (fx 0) (sx 0)) ++ ((wOf o (x 0) (y 0)) ++ (wSt y rp rw rt cI cQ P n Wi Ti (nI nt)))) sz) (fun x9 : Unit => (wDp ad o pa ka (fx 0) (sx 0)) ++ ((wOf o (x 0) (y 0)) ++ (wSt y rp rw rt cI cQ P n Wi Ti (nI nt))))) 1 6 (va_A ((wDp ad o pa ka (fx 0) (sx 0)) ++ ((wOf o (x 0) (y 0)) ++ (wSt y rp rw rt cI cQ P n Wi Ti (nI nt)))) sz) := by
  refine vx_ofWH (cc := cL_does) (maxL := 3) (ret := (some .int)) (hh := [(0, 39, 40, 16)]) (by decide) rfl ?_
  intro p e s m args below meth c s₁ B hml hv
  obtain ⟨rfl, ⟨hsz, hP, hSt, hD0⟩, hDc, hZ⟩ := hv
  change W p l e ({ frames := 7, cells := 1, slots := 6, locals := 102 } : Room) s m _ below meth c s.heap [] 0 0 _ _
  have hx := B.exec
  have hb := B.bytes
  have hr := B.returns
  have hts : ∀ w ∈ ALL, w.before ([.ref ad, .int (nI 0)] : List Value).toArray s = true := fun w h => atoms_spec (ws := (.codeWith yL_does cL_does 3 (some .int) [(0, 39, 40, 16)] :: ALL)) B.pre w (List.mem_cons_of_mem _ h)
  have hown : s.vm.findClass RL = some m.cls := findClass_of_methodNamed B.named
  have hlocks := B.notSynchronized
  have htb : c.exceptionTable.toList = tableOf [(0, 39, 40, 16)] := vx_table (x := yL_does) B (atoms_spec (ws := (.codeWith yL_does cL_does 3 (some .int) [(0, 39, 40, 16)] :: ALL)) B.pre _ List.mem_cons_self)
  subst hsz
  have hD := hD0.self (sz := s.heap.size)
  clear hD0
  generalize hAe : va_A ((wDp ad o pa ka (fx 0) (sx 0)) ++ ((wOf o (x 0) (y 0)) ++ (wSt y rp rw rt cI cQ P n Wi Ti (nI nt)))) s.heap.size = A at hD hZ ⊢
  have hA : ∀ q : Nat, s.heap.size ≤ q → A q := fun q h => by rw [← hAe]; exact Or.inr h
  have hS : va_S A s.heap s.heap [] := va_S.rf
  have hl := lv_entry ([.ref ad, .int (nI 0)]) (n := 3) (Nat.le_of_ble_eq_true rfl)
  rw [lg_entry_eq]
  generalize (lg_sl ([.ref ad, .int (nI 0)]) ++ List.replicate (3 - (lg_sl ([.ref ad, .int (nI 0)])).length) Slot.unset).toArray = ls at hl ⊢
  have hl : lv_has ls 3 [(0, .ref ad), (1, .int (nI 0))] := hl
  obtain ⟨H, hHe⟩ : ∃ H : Heap, H = s.heap := ⟨_, rfl⟩
  obtain ⟨locs, hLe⟩ : ∃ L : List Loc, L = [] := ⟨_, rfl⟩
  have hP : va_P D vwCl ((wDp ad o pa ka (fx 0) (sx 0)) ++ ((wOf o (x 0) (y 0)) ++ (wSt y rp rw rt cI cQ P n Wi Ti (nI nt)))) H := by rw [hHe]; exact hP
  have hS : va_S A s.heap H locs := by rw [hHe, hLe]; exact hS
  refine W.eqHL hHe hLe ?_
  refine lv_iload_n hx hb dL_does_0 rfl (lv_at hl 1 rfl) ?_
  refine lv_if_ne (tgt := 11) hx hb dL_does_1 (by decide) (fun c_1 => ?_) (fun c_1 => ?_)
  · exact absurd c_1 (by decide)
  · refine lv_aload_n hx hb dL_does_4 rfl (lv_at hl 0 rfl) ?_
    refine rx_i (wr := ([] : va_W)) (w_VX (As := []) ⟨hx, hb, hml, hown, hts⟩ (c_X7_addTeam l D cI cZ cQ cJ ad o pa ka fx sx x y rp rw rt P n Wi Ti nt H.size (by first | assumption | omega) (by first | assumption | omega)) (gV t3_40 t3_41 t3_42 t1_1 t3_43) rfl rfl hd_X7_addTeam ⟨Nat.le_of_ble_eq_true rfl, Nat.le_of_ble_eq_true rfl⟩ (rx_pre hP hD hSt hDc hZ hS hA [0, 1, 2, 3, 4, 5, 6, 7, 8, 9, 10, 11, 12, 13, 14, 15, 16, 17, 18, 19, 20, 21, 22, 23, 24, 25, 26, 27] rfl (by decide)) (va_recv hSt.1 hP (ci := 7) (q0 := 0) rfl rfl) rfl hl.1 (rest := []) rfl (Nat.le_of_ble_eq_true rfl) dL_does_5 ⟨Nat.le_of_ble_eq_true rfl, Nat.le_of_ble_eq_true rfl⟩) hP hD hS hA [0, 1, 2, 3, 4, 5, 6, 7, 8, 9, 10, 11, 12, 13, 14, 15, 16, 17, 18, 19, 20, 21, 22, 23, 24, 25, 26, 27] [] rfl rfl (by decide) (by decide) (fun E9 ce9 q9 x9 H locs hx9 hP hD hS hc91 hc92 hc93 => ?_) (fun r_9 u_6 H locs hw9 hP hD hS => ?_)
    · have hx9 : (E9 = "java/lang/IllegalStateException" ∧ sAddTeam nt P n 1 0 nt P n) := hx9
      have hP : va_P D vwCl ((wDp ad o pa ka (fx 0) (sx 0)) ++ ((wOf o (x 0) (y 0)) ++ (wSt y rp rw rt cI cQ P n Wi Ti (nI nt)))) H := hP
      have hD : va_D A ((wDp ad o pa ka (fx 0) (sx 0)) ++ ((wOf o (x 0) (y 0)) ++ (wSt y rp rw rt cI cQ P n Wi Ti (nI nt)))) := hD
      obtain ⟨rfl, hsx⟩ := hx9
      refine vx_catch (own := RL) hown [] ⟨0, 39, 40, 16⟩ [] (by rw [htb]; rfl) (fun _ h9 => nomatch h9) (by decide) (by decide) (hts _ t2_48) (hSt.2.e 2 rfl) hc91 hc92 hc93 ?_
      refine lv_astore_n (lv' := [(2, .ref q9), (0, .ref ad), (1, .int (nI 0))]) hx hb dL_does_40 rfl hl (by decide) rfl (fun ls hl => ?_)
      refine lv_bipush (v := (-70 : Int32)) hx hb dL_does_41 (by decide) ?_
      have hP9 : va_P D vwCl ((wDp ad o pa ka (fx 0) (sx 0)) ++ ((wOf o (x 0) (y 0)) ++ (wSt y rp rw rt cI cQ P n Wi Ti (nI nt)))) H := hP
      have hD9 : va_D A ((wDp ad o pa ka (fx 0) (sx 0)) ++ ((wOf o (x 0) (y 0)) ++ (wSt y rp rw rt cI cQ P n Wi Ti (nI nt)))) := hD
      have g_7 : sAddTeam nt P n 1 (0 : Int32) nt P n := hsx
      refine W.widen (k := 1) (n := 6) (by omega) (by omega) ?_
      exact vx_ret (W.iret (v := (-70 : Int32)) hx hb hr (fun t9 ht9 hW9 => ⟨⟨(-70 : Int32), (1, (0 : Int32), P, n, nt), rfl, ⟨rfl, g_7⟩, by rw [ht9]; exact hP9, hD9⟩, hS.F ht9⟩) hS.2.2 dL_does_43)
    · obtain ⟨j_2, j_3, j_4, j_5⟩ := u_6
      obtain ⟨er_9, f_8⟩ := hw9
      replace er_9 := er_9.symm
      subst er_9
      have hs9 : sAddTeam nt P n 0 j_2 j_5 j_3 j_4 := f_8
      have hP : va_P D vwCl ((wDp ad o pa ka (fx 0) (sx 0)) ++ ((wOf o (x 0) (y 0)) ++ (wSt y rp rw rt cI cQ j_3 j_4 Wi Ti (nI j_5)))) H := hP
      have hD : va_D A ((wDp ad o pa ka (fx 0) (sx 0)) ++ ((wOf o (x 0) (y 0)) ++ (wSt y rp rw rt cI cQ j_3 j_4 Wi Ti (nI j_5)))) := hD
      refine lv_goto (tgt := 39) hx hb dL_does_8 (by decide) ?_
      have hP9 : va_P D vwCl ((wDp ad o pa ka (fx 0) (sx 0)) ++ ((wOf o (x 0) (y 0)) ++ (wSt y rp rw rt cI cQ j_3 j_4 Wi Ti (nI j_5)))) H := hP
      have hD9 : va_D A ((wDp ad o pa ka (fx 0) (sx 0)) ++ ((wOf o (x 0) (y 0)) ++ (wSt y rp rw rt cI cQ j_3 j_4 Wi Ti (nI j_5)))) := hD
      have g_9 : sAddTeam nt P n 0 j_2 j_5 j_3 j_4 := hs9
      refine W.widen (k := 1) (n := 6) (by omega) (by omega) ?_
      exact vx_ret (W.iret (v := j_2) hx hb hr (fun t9 ht9 hW9 => ⟨⟨j_2, (0, j_2, j_3, j_4, j_5), rfl, ⟨rfl, g_9⟩, by rw [ht9]; exact hP9, hD9⟩, hS.F ht9⟩) hS.2.2 dL_does_39)
set_option maxHeartbeats 4000000 in
set_option maxRecDepth 100000 in
theorem c_L_does_1 (l : Launch) (D : va_G) (cI cZ cQ cJ : ClassId) (ad : Nat) (o : Nat) (pa : Nat) (ka : Nat) (fx : Nat → Nat) (sx : Nat → Nat) (x : Nat → Nat) (r : Nat → Nat) (w : Nat → Int32) (q : Nat → Int32) (d : Nat → Int32) (T : Nat → Nat → Int32) (st : Nat → Int32) (re : Nat → Int32) (rc : Int32) (nz : Nat) (y : Nat → Nat) (rp : Nat → Nat) (rw : Nat → Nat) (rt : Nat → Nat) (P : Nat → Nat → Int32) (n : Nat → Int32) (Wi : Nat → Nat → Int32) (Ti : Nat → Nat → Int32) (nt : Nat) (pb : Nat) (zo : Nat → Int32) (ff : Nat → Int32) (fg : Nat → Int32) (tk : Nat → Int32) (wt : Int32) (le : Int32) (wi : Nat → Nat → Nat) (ti : Nat → Nat → Nat) (dd : Nat → Nat → Nat) (sz : Nat) (hnt : nt ≤ 7) (hnz : nz ≤ 7) (hwi : rOK 7 7 Wi wi) (hti : rOK 7 7 Ti ti) (hdd : rOK nz nz T dd) (hv : vOK nz wi ti dd) (hff2 : ∀ u, nt ≤ u → u < 7 → ff u = -1) (hfg2 : ∀ u, nt ≤ u → u < 7 → fg u = -1) (htk : ∀ u, u < 7 → tk u = 0) (hzz : ∀ u, nt ≤ u → u < 7 → zo u = -1) (hfl : l.stackTraces = false) : vx_Met l yL_does (.codeWith yL_does cL_does 3 (some .int) [(0, 39, 40, 16)] :: ALL) ({ frames := 21, cells := 1, slots := 6, locals := 581 } : Room) (va_Pc [.ref ad, .int (nI 1)] (rx_P D cI cZ cQ cJ ((wDp ad o pa ka (fx 0) (sx 0)) ++ ((wOf o (x 0) (y 0)) ++ ((wFl x r cI cZ cQ w q d T st re rc (nI nz)) ++ ((wSt y rp rw rt cI cQ P n Wi Ti (nI nt)) ++ ((wPl pa pb cI zo) ++ (wFs fx cI cZ ff fg tk wt le)))))) sz)) (va_Qi (fun (r9 : Int32) (u9 : Nat × Int32 × (Nat → Int32) × (Nat → Int32) × (Nat → Int32) × Int32 × Int32) => (r9 = (an u9.1 u9.2.1)) ∧ (sBest false nt nz n d wi ti dd u9.1 u9.2.1 u9.2.2.1) ∧ (∀ u, nt ≤ u → u < 7 → u9.2.2.1 u = -1) ∧ (∀ u, nt ≤ u → u < 7 → u9.2.2.2.1 u = -1) ∧ (∀ u, nt ≤ u → u < 7 → u9.2.2.2.2.1 u = -1) ∧ (u9.1 = 1 → u9.2.2.1 = zo)) (rw_B D (va_A ((wDp ad o pa ka (fx 0) (sx 0)) ++ ((wOf o (x 0) (y 0)) ++ ((wFl x r cI cZ cQ w q d T st re rc (nI nz)) ++ ((wSt y rp rw rt cI cQ P n Wi Ti (nI nt)) ++ ((wPl pa pb cI zo) ++ (wFs fx cI cZ ff fg tk wt le)))))) sz) (fun u9 : Nat × Int32 × (Nat → Int32) × (Nat → Int32) × (Nat → Int32) × Int32 × Int32 => (wDp ad o pa ka (fx 0) (sx 0)) ++ ((wOf o (x 0) (y 0)) ++ ((wFl x r cI cZ cQ w q d T st re rc (nI nz)) ++ ((wSt y rp rw rt cI cQ P n Wi Ti (nI nt)) ++ ((wPl pa pb cI u9.2.2.1) ++ (wFs fx cI cZ u9.2.2.2.1 u9.2.2.2.2.1 tk u9.2.2.2.2.2.2 u9.2.2.2.2.2.1))))))) (va_A ((wDp ad o pa ka (fx 0) (sx 0)) ++ ((wOf o (x 0) (y 0)) ++ ((wFl x r cI cZ cQ w q d T st re rc (nI nz)) ++ ((wSt y rp rw rt cI cQ P n Wi Ti (nI nt)) ++ ((wPl pa pb cI zo) ++ (wFs fx cI cZ ff fg tk wt le)))))) sz)) (rx_X (fun (E9 : String) (x9 : Unit) => False) D (va_A ((wDp ad o pa ka (fx 0) (sx 0)) ++ ((wOf o (x 0) (y 0)) ++ ((wFl x r cI cZ cQ w q d T st re rc (nI nz)) ++ ((wSt y rp rw rt cI cQ P n Wi Ti (nI nt)) ++ ((wPl pa pb cI zo) ++ (wFs fx cI cZ ff fg tk wt le)))))) sz) (fun x9 : Unit => (wDp ad o pa ka (fx 0) (sx 0)) ++ ((wOf o (x 0) (y 0)) ++ ((wFl x r cI cZ cQ w q d T st re rc (nI nz)) ++ ((wSt y rp rw rt cI cQ P n Wi Ti (nI nt)) ++ ((wPl pa pb cI zo) ++ (wFs fx cI cZ ff fg tk wt le))))))) 1 6 (va_A ((wDp ad o pa ka (fx 0) (sx 0)) ++ ((wOf o (x 0) (y 0)) ++ ((wFl x r cI cZ cQ w q d T st re rc (nI nz)) ++ ((wSt y rp rw rt cI cQ P n Wi Ti (nI nt)) ++ ((wPl pa pb cI zo) ++ (wFs fx cI cZ ff fg tk wt le)))))) sz) := by
  refine vx_ofWH (cc := cL_does) (maxL := 3) (ret := (some .int)) (hh := [(0, 39, 40, 16)]) (by decide) rfl ?_
  intro p e s m args below meth c s₁ B hml hv
  obtain ⟨rfl, ⟨hsz, hP, hSt, hD0⟩, hDc, hZ⟩ := hv
  change W p l e ({ frames := 21, cells := 1, slots := 6, locals := 581 } : Room) s m _ below meth c s.heap [] 0 0 _ _
  have hx := B.exec
  have hb := B.bytes
  have hr := B.returns
  have hts : ∀ w ∈ ALL, w.before ([.ref ad, .int (nI 1)] : List Value).toArray s = true := fun w h => atoms_spec (ws := (.codeWith yL_does cL_does 3 (some .int) [(0, 39, 40, 16)] :: ALL)) B.pre w (List.mem_cons_of_mem _ h)
  have hown : s.vm.findClass RL = some m.cls := findClass_of_methodNamed B.named
  have hlocks := B.notSynchronized
  have htb : c.exceptionTable.toList = tableOf [(0, 39, 40, 16)] := vx_table (x := yL_does) B (atoms_spec (ws := (.codeWith yL_does cL_does 3 (some .int) [(0, 39, 40, 16)] :: ALL)) B.pre _ List.mem_cons_self)
  subst hsz
  have hD := hD0.self (sz := s.heap.size)
  clear hD0
  generalize hAe : va_A ((wDp ad o pa ka (fx 0) (sx 0)) ++ ((wOf o (x 0) (y 0)) ++ ((wFl x r cI cZ cQ w q d T st re rc (nI nz)) ++ ((wSt y rp rw rt cI cQ P n Wi Ti (nI nt)) ++ ((wPl pa pb cI zo) ++ (wFs fx cI cZ ff fg tk wt le)))))) s.heap.size = A at hD hZ ⊢
  have hA : ∀ q : Nat, s.heap.size ≤ q → A q := fun q h => by rw [← hAe]; exact Or.inr h
  have hS : va_S A s.heap s.heap [] := va_S.rf
  have hl := lv_entry ([.ref ad, .int (nI 1)]) (n := 3) (Nat.le_of_ble_eq_true rfl)
  rw [lg_entry_eq]
  generalize (lg_sl ([.ref ad, .int (nI 1)]) ++ List.replicate (3 - (lg_sl ([.ref ad, .int (nI 1)])).length) Slot.unset).toArray = ls at hl ⊢
  have hl : lv_has ls 3 [(0, .ref ad), (1, .int (nI 1))] := hl
  obtain ⟨H, hHe⟩ : ∃ H : Heap, H = s.heap := ⟨_, rfl⟩
  obtain ⟨locs, hLe⟩ : ∃ L : List Loc, L = [] := ⟨_, rfl⟩
  have hP : va_P D vwCl ((wDp ad o pa ka (fx 0) (sx 0)) ++ ((wOf o (x 0) (y 0)) ++ ((wFl x r cI cZ cQ w q d T st re rc (nI nz)) ++ ((wSt y rp rw rt cI cQ P n Wi Ti (nI nt)) ++ ((wPl pa pb cI zo) ++ (wFs fx cI cZ ff fg tk wt le)))))) H := by rw [hHe]; exact hP
  have hS : va_S A s.heap H locs := by rw [hHe, hLe]; exact hS
  refine W.eqHL hHe hLe ?_
  refine lv_iload_n hx hb dL_does_0 rfl (lv_at hl 1 rfl) ?_
  refine lv_if_ne (tgt := 11) hx hb dL_does_1 (by decide) (fun c_1 => ?_) (fun c_1 => ?_)
  · refine lv_iload_n hx hb dL_does_11 rfl (lv_at hl 1 rfl) ?_
    refine lv_iconst (v := nI 1) hx hb dL_does_12 (by decide) ?_
    refine lv_icmp_ne (tgt := 23) hx hb dL_does_13 (by decide) (fun c_2 => ?_) (fun c_2 => ?_)
    · exact absurd c_2 (by decide)
    · refine lv_aload_n hx hb dL_does_16 rfl (lv_at hl 0 rfl) ?_
      refine rx_i (wr := ([] : va_W)) (w_VX (As := []) ⟨hx, hb, hml, hown, hts⟩ (c_X7_placeByWishes l D cI cZ cQ cJ ad o pa ka fx sx x r w q d T st re rc nz y rp rw rt P n Wi Ti nt pb zo ff fg tk wt le wi ti dd H.size (by first | assumption | omega) (by first | assumption | omega) (by first | assumption | omega) (by first | assumption | omega) (by first | assumption | omega) (by first | assumption | omega) (by first | assumption | omega) (by first | assumption | omega) (by first | assumption | omega) (by first | assumption | omega)) (gV t3_50 t3_51 t3_52 t1_1 t3_53) rfl rfl hd_X7_placeByWishes ⟨Nat.le_of_ble_eq_true rfl, Nat.le_of_ble_eq_true rfl⟩ (rx_pre hP hD hSt hDc hZ hS hA [0, 1, 2, 3, 4, 5, 6, 7, 8, 9, 10, 11, 12, 13, 14, 15, 16, 17, 18, 19, 20, 21, 22, 23, 24, 25, 26, 27, 28, 29, 30, 31, 32, 33, 34, 35, 36, 37, 38, 39, 40, 41, 42, 43, 44, 45, 46, 47, 48, 49] rfl (by decide)) (va_recv hSt.1 hP (ci := 7) (q0 := 0) rfl rfl) rfl hl.1 (rest := []) rfl (Nat.le_of_ble_eq_true rfl) dL_does_17 ⟨Nat.le_of_ble_eq_true rfl, Nat.le_of_ble_eq_true rfl⟩) hP hD hS hA [0, 1, 2, 3, 4, 5, 6, 7, 8, 9, 10, 11, 12, 13, 14, 15, 16, 17, 18, 19, 20, 21, 22, 23, 24, 25, 26, 27, 28, 29, 30, 31, 32, 33, 34, 35, 36, 37, 38, 39, 40, 41, 42, 43, 44, 45, 46, 47, 48, 49] [] rfl rfl (by decide) (by decide) (fun E9 ce9 q9 x9 H locs hx9 hP hD hS hc91 hc92 hc93 => ?_) (fun r_9 u_9 H locs hw9 hP hD hS => ?_)
      · obtain ⟨x_10, x_11, x_12, x_13⟩ := x9
        have hx9 : E9 = "java/lang/IllegalStateException" ∧ sBest false nt nz n d wi ti dd 1 0 x_11 ∧ (∀ u, nt ≤ u → u < 7 → x_10 u = -1) ∧ (∀ u, nt ≤ u → u < 7 → x_11 u = -1) := hx9
        have hP : va_P D vwCl ((wDp ad o pa ka (fx 0) (sx 0)) ++ ((wOf o (x 0) (y 0)) ++ ((wFl x r cI cZ cQ w q d T st re rc (nI nz)) ++ ((wSt y rp rw rt cI cQ P n Wi Ti (nI nt)) ++ ((wPl pa pb cI zo) ++ (wFs fx cI cZ x_10 x_11 tk x_13 x_12)))))) H := hP
        have hD : va_D A ((wDp ad o pa ka (fx 0) (sx 0)) ++ ((wOf o (x 0) (y 0)) ++ ((wFl x r cI cZ cQ w q d T st re rc (nI nz)) ++ ((wSt y rp rw rt cI cQ P n Wi Ti (nI nt)) ++ ((wPl pa pb cI zo) ++ (wFs fx cI cZ x_10 x_11 tk x_13 x_12)))))) := hD
        obtain ⟨rfl, hsx⟩ := hx9
        refine vx_catch (own := RL) hown [] ⟨0, 39, 40, 16⟩ [] (by rw [htb]; rfl) (fun _ h9 => nomatch h9) (by decide) (by decide) (hts _ t2_48) (hSt.2.e 2 rfl) hc91 hc92 hc93 ?_
        refine lv_astore_n (lv' := [(2, .ref q9), (0, .ref ad), (1, .int (nI 1))]) hx hb dL_does_40 rfl hl (by decide) rfl (fun ls hl => ?_)
        refine lv_bipush (v := (-70 : Int32)) hx hb dL_does_41 (by decide) ?_
        have hP9 : va_P D vwCl ((wDp ad o pa ka (fx 0) (sx 0)) ++ ((wOf o (x 0) (y 0)) ++ ((wFl x r cI cZ cQ w q d T st re rc (nI nz)) ++ ((wSt y rp rw rt cI cQ P n Wi Ti (nI nt)) ++ ((wPl pa pb cI zo) ++ (wFs fx cI cZ x_10 x_11 tk x_13 x_12)))))) H := hP
        have hD9 : va_D A ((wDp ad o pa ka (fx 0) (sx 0)) ++ ((wOf o (x 0) (y 0)) ++ ((wFl x r cI cZ cQ w q d T st re rc (nI nz)) ++ ((wSt y rp rw rt cI cQ P n Wi Ti (nI nt)) ++ ((wPl pa pb cI zo) ++ (wFs fx cI cZ x_10 x_11 tk x_13 x_12)))))) := hD
        have g_14 : sBest false nt nz n d wi ti dd 1 (0 : Int32) zo := sBest_1 hsx.1
        have g_15 : ∀ u, nt ≤ u → u < 7 → zo u = -1 := hzz
        have g_16 : ∀ u, nt ≤ u → u < 7 → x_10 u = -1 := hsx.2.1
        have g_17 : ∀ u, nt ≤ u → u < 7 → x_11 u = -1 := hsx.2.2
        have g_18 : 1 = 1 → zo = zo := fun _ => rfl
        refine W.widen (k := 1) (n := 6) (by omega) (by omega) ?_
        exact vx_ret (W.iret (v := (-70 : Int32)) hx hb hr (fun t9 ht9 hW9 => ⟨⟨(-70 : Int32), (1, (0 : Int32), zo, x_10, x_11, x_12, x_13), rfl, ⟨rfl, g_14, g_15, g_16, g_17, g_18⟩, by rw [ht9]; exact hP9, hD9⟩, hS.F ht9⟩) hS.2.2 dL_does_43)
      · obtain ⟨j_3, j_4, j_5, j_6, j_7, j_8⟩ := u_9
        obtain ⟨er_9, f_19, f_20, f_21, f_22⟩ := hw9
        replace er_9 := er_9.symm
        subst er_9
        have hs9 : sBest false nt nz n d wi ti dd 0 j_3 j_4 := f_19
        have hz29 : ∀ u, nt ≤ u → u < 7 → j_4 u = -1 := f_20
        have hf29 : ∀ u, nt ≤ u → u < 7 → j_5 u = -1 := f_21
        have hg29 : ∀ u, nt ≤ u → u < 7 → j_6 u = -1 := f_22
        have hP : va_P D vwCl ((wDp ad o pa ka (fx 0) (sx 0)) ++ ((wOf o (x 0) (y 0)) ++ ((wFl x r cI cZ cQ w q d T st re rc (nI nz)) ++ ((wSt y rp rw rt cI cQ P n Wi Ti (nI nt)) ++ ((wPl pa pb cI j_4) ++ (wFs fx cI cZ j_5 j_6 tk j_8 j_7)))))) H := hP
        have hD : va_D A ((wDp ad o pa ka (fx 0) (sx 0)) ++ ((wOf o (x 0) (y 0)) ++ ((wFl x r cI cZ cQ w q d T st re rc (nI nz)) ++ ((wSt y rp rw rt cI cQ P n Wi Ti (nI nt)) ++ ((wPl pa pb cI j_4) ++ (wFs fx cI cZ j_5 j_6 tk j_8 j_7)))))) := hD
        refine lv_goto (tgt := 39) hx hb dL_does_20 (by decide) ?_
        have hP9 : va_P D vwCl ((wDp ad o pa ka (fx 0) (sx 0)) ++ ((wOf o (x 0) (y 0)) ++ ((wFl x r cI cZ cQ w q d T st re rc (nI nz)) ++ ((wSt y rp rw rt cI cQ P n Wi Ti (nI nt)) ++ ((wPl pa pb cI j_4) ++ (wFs fx cI cZ j_5 j_6 tk j_8 j_7)))))) H := hP
        have hD9 : va_D A ((wDp ad o pa ka (fx 0) (sx 0)) ++ ((wOf o (x 0) (y 0)) ++ ((wFl x r cI cZ cQ w q d T st re rc (nI nz)) ++ ((wSt y rp rw rt cI cQ P n Wi Ti (nI nt)) ++ ((wPl pa pb cI j_4) ++ (wFs fx cI cZ j_5 j_6 tk j_8 j_7)))))) := hD
        have g_23 : sBest false nt nz n d wi ti dd 0 j_3 j_4 := hs9
        have g_24 : ∀ u, nt ≤ u → u < 7 → j_4 u = -1 := hz29
        have g_25 : ∀ u, nt ≤ u → u < 7 → j_5 u = -1 := hf29
        have g_26 : ∀ u, nt ≤ u → u < 7 → j_6 u = -1 := hg29
        have g_27 : 0 = 1 → j_4 = zo := fun h9 => absurd h9 (by decide)
        refine W.widen (k := 1) (n := 6) (by omega) (by omega) ?_
        exact vx_ret (W.iret (v := j_3) hx hb hr (fun t9 ht9 hW9 => ⟨⟨j_3, (0, j_3, j_4, j_5, j_6, j_7, j_8), rfl, ⟨rfl, g_23, g_24, g_25, g_26, g_27⟩, by rw [ht9]; exact hP9, hD9⟩, hS.F ht9⟩) hS.2.2 dL_does_39)
  · exact absurd c_1 (by decide)
set_option maxHeartbeats 4000000 in
set_option maxRecDepth 100000 in
theorem c_L_does_2 (l : Launch) (D : va_G) (cI cZ cQ cJ : ClassId) (ad : Nat) (o : Nat) (pa : Nat) (ka : Nat) (fx : Nat → Nat) (sx : Nat → Nat) (x : Nat → Nat) (r : Nat → Nat) (w : Nat → Int32) (q : Nat → Int32) (d : Nat → Int32) (T : Nat → Nat → Int32) (st : Nat → Int32) (re : Nat → Int32) (rc : Int32) (nz : Nat) (y : Nat → Nat) (rp : Nat → Nat) (rw : Nat → Nat) (rt : Nat → Nat) (P : Nat → Nat → Int32) (n : Nat → Int32) (Wi : Nat → Nat → Int32) (Ti : Nat → Nat → Int32) (nt : Nat) (pb : Nat) (zo : Nat → Int32) (ff : Nat → Int32) (fg : Nat → Int32) (tk : Nat → Int32) (wt : Int32) (le : Int32) (wi : Nat → Nat → Nat) (ti : Nat → Nat → Nat) (dd : Nat → Nat → Nat) (sz : Nat) (hnt : nt ≤ 7) (hnz : nz ≤ 7) (hwi : rOK 7 7 Wi wi) (hti : rOK 7 7 Ti ti) (hdd : rOK nz nz T dd) (hv : vOK nz wi ti dd) (hff2 : ∀ u, nt ≤ u → u < 7 → ff u = -1) (hfg2 : ∀ u, nt ≤ u → u < 7 → fg u = -1) (htk : ∀ u, u < 7 → tk u = 0) (hzz : ∀ u, nt ≤ u → u < 7 → zo u = -1) (hfl : l.stackTraces = false) : vx_Met l yL_does (.codeWith yL_does cL_does 3 (some .int) [(0, 39, 40, 16)] :: ALL) ({ frames := 21, cells := 1, slots := 6, locals := 581 } : Room) (va_Pc [.ref ad, .int (nI 2)] (rx_P D cI cZ cQ cJ ((wDp ad o pa ka (fx 0) (sx 0)) ++ ((wOf o (x 0) (y 0)) ++ ((wFl x r cI cZ cQ w q d T st re rc (nI nz)) ++ ((wSt y rp rw rt cI cQ P n Wi Ti (nI nt)) ++ ((wPl pa pb cI zo) ++ (wFs fx cI cZ ff fg tk wt le)))))) sz)) (va_Qi (fun (r9 : Int32) (u9 : Nat × Int32 × (Nat → Int32) × (Nat → Int32) × (Nat → Int32) × Int32 × Int32) => (r9 = (an u9.1 u9.2.1)) ∧ (sBest true nt nz n d wi ti dd u9.1 u9.2.1 u9.2.2.1) ∧ (∀ u, nt ≤ u → u < 7 → u9.2.2.1 u = -1) ∧ (∀ u, nt ≤ u → u < 7 → u9.2.2.2.1 u = -1) ∧ (∀ u, nt ≤ u → u < 7 → u9.2.2.2.2.1 u = -1) ∧ (u9.1 = 1 → u9.2.2.1 = zo)) (rw_B D (va_A ((wDp ad o pa ka (fx 0) (sx 0)) ++ ((wOf o (x 0) (y 0)) ++ ((wFl x r cI cZ cQ w q d T st re rc (nI nz)) ++ ((wSt y rp rw rt cI cQ P n Wi Ti (nI nt)) ++ ((wPl pa pb cI zo) ++ (wFs fx cI cZ ff fg tk wt le)))))) sz) (fun u9 : Nat × Int32 × (Nat → Int32) × (Nat → Int32) × (Nat → Int32) × Int32 × Int32 => (wDp ad o pa ka (fx 0) (sx 0)) ++ ((wOf o (x 0) (y 0)) ++ ((wFl x r cI cZ cQ w q d T st re rc (nI nz)) ++ ((wSt y rp rw rt cI cQ P n Wi Ti (nI nt)) ++ ((wPl pa pb cI u9.2.2.1) ++ (wFs fx cI cZ u9.2.2.2.1 u9.2.2.2.2.1 tk u9.2.2.2.2.2.2 u9.2.2.2.2.2.1))))))) (va_A ((wDp ad o pa ka (fx 0) (sx 0)) ++ ((wOf o (x 0) (y 0)) ++ ((wFl x r cI cZ cQ w q d T st re rc (nI nz)) ++ ((wSt y rp rw rt cI cQ P n Wi Ti (nI nt)) ++ ((wPl pa pb cI zo) ++ (wFs fx cI cZ ff fg tk wt le)))))) sz)) (rx_X (fun (E9 : String) (x9 : Unit) => False) D (va_A ((wDp ad o pa ka (fx 0) (sx 0)) ++ ((wOf o (x 0) (y 0)) ++ ((wFl x r cI cZ cQ w q d T st re rc (nI nz)) ++ ((wSt y rp rw rt cI cQ P n Wi Ti (nI nt)) ++ ((wPl pa pb cI zo) ++ (wFs fx cI cZ ff fg tk wt le)))))) sz) (fun x9 : Unit => (wDp ad o pa ka (fx 0) (sx 0)) ++ ((wOf o (x 0) (y 0)) ++ ((wFl x r cI cZ cQ w q d T st re rc (nI nz)) ++ ((wSt y rp rw rt cI cQ P n Wi Ti (nI nt)) ++ ((wPl pa pb cI zo) ++ (wFs fx cI cZ ff fg tk wt le))))))) 1 6 (va_A ((wDp ad o pa ka (fx 0) (sx 0)) ++ ((wOf o (x 0) (y 0)) ++ ((wFl x r cI cZ cQ w q d T st re rc (nI nz)) ++ ((wSt y rp rw rt cI cQ P n Wi Ti (nI nt)) ++ ((wPl pa pb cI zo) ++ (wFs fx cI cZ ff fg tk wt le)))))) sz) := by
  refine vx_ofWH (cc := cL_does) (maxL := 3) (ret := (some .int)) (hh := [(0, 39, 40, 16)]) (by decide) rfl ?_
  intro p e s m args below meth c s₁ B hml hv
  obtain ⟨rfl, ⟨hsz, hP, hSt, hD0⟩, hDc, hZ⟩ := hv
  change W p l e ({ frames := 21, cells := 1, slots := 6, locals := 581 } : Room) s m _ below meth c s.heap [] 0 0 _ _
  have hx := B.exec
  have hb := B.bytes
  have hr := B.returns
  have hts : ∀ w ∈ ALL, w.before ([.ref ad, .int (nI 2)] : List Value).toArray s = true := fun w h => atoms_spec (ws := (.codeWith yL_does cL_does 3 (some .int) [(0, 39, 40, 16)] :: ALL)) B.pre w (List.mem_cons_of_mem _ h)
  have hown : s.vm.findClass RL = some m.cls := findClass_of_methodNamed B.named
  have hlocks := B.notSynchronized
  have htb : c.exceptionTable.toList = tableOf [(0, 39, 40, 16)] := vx_table (x := yL_does) B (atoms_spec (ws := (.codeWith yL_does cL_does 3 (some .int) [(0, 39, 40, 16)] :: ALL)) B.pre _ List.mem_cons_self)
  subst hsz
  have hD := hD0.self (sz := s.heap.size)
  clear hD0
  generalize hAe : va_A ((wDp ad o pa ka (fx 0) (sx 0)) ++ ((wOf o (x 0) (y 0)) ++ ((wFl x r cI cZ cQ w q d T st re rc (nI nz)) ++ ((wSt y rp rw rt cI cQ P n Wi Ti (nI nt)) ++ ((wPl pa pb cI zo) ++ (wFs fx cI cZ ff fg tk wt le)))))) s.heap.size = A at hD hZ ⊢
  have hA : ∀ q : Nat, s.heap.size ≤ q → A q := fun q h => by rw [← hAe]; exact Or.inr h
  have hS : va_S A s.heap s.heap [] := va_S.rf
  have hl := lv_entry ([.ref ad, .int (nI 2)]) (n := 3) (Nat.le_of_ble_eq_true rfl)
  rw [lg_entry_eq]
  generalize (lg_sl ([.ref ad, .int (nI 2)]) ++ List.replicate (3 - (lg_sl ([.ref ad, .int (nI 2)])).length) Slot.unset).toArray = ls at hl ⊢
  have hl : lv_has ls 3 [(0, .ref ad), (1, .int (nI 2))] := hl
  obtain ⟨H, hHe⟩ : ∃ H : Heap, H = s.heap := ⟨_, rfl⟩
  obtain ⟨locs, hLe⟩ : ∃ L : List Loc, L = [] := ⟨_, rfl⟩
  have hP : va_P D vwCl ((wDp ad o pa ka (fx 0) (sx 0)) ++ ((wOf o (x 0) (y 0)) ++ ((wFl x r cI cZ cQ w q d T st re rc (nI nz)) ++ ((wSt y rp rw rt cI cQ P n Wi Ti (nI nt)) ++ ((wPl pa pb cI zo) ++ (wFs fx cI cZ ff fg tk wt le)))))) H := by rw [hHe]; exact hP
  have hS : va_S A s.heap H locs := by rw [hHe, hLe]; exact hS
  refine W.eqHL hHe hLe ?_
  refine lv_iload_n hx hb dL_does_0 rfl (lv_at hl 1 rfl) ?_
  refine lv_if_ne (tgt := 11) hx hb dL_does_1 (by decide) (fun c_1 => ?_) (fun c_1 => ?_)
  · refine lv_iload_n hx hb dL_does_11 rfl (lv_at hl 1 rfl) ?_
    refine lv_iconst (v := nI 1) hx hb dL_does_12 (by decide) ?_
    refine lv_icmp_ne (tgt := 23) hx hb dL_does_13 (by decide) (fun c_2 => ?_) (fun c_2 => ?_)
    · refine lv_iload_n hx hb dL_does_23 rfl (lv_at hl 1 rfl) ?_
      refine lv_iconst (v := nI 2) hx hb dL_does_24 (by decide) ?_
      refine lv_icmp_ne (tgt := 35) hx hb dL_does_25 (by decide) (fun c_3 => ?_) (fun c_3 => ?_)
      · exact absurd c_3 (by decide)
      · refine lv_aload_n hx hb dL_does_28 rfl (lv_at hl 0 rfl) ?_
        refine rx_i (wr := ([] : va_W)) (w_VX (As := []) ⟨hx, hb, hml, hown, hts⟩ (c_X7_placeBest l D cI cZ cQ cJ ad o pa ka fx sx x r w q d T st re rc nz y rp rw rt P n Wi Ti nt pb zo ff fg tk wt le wi ti dd H.size (by first | assumption | omega) (by first | assumption | omega) (by first | assumption | omega) (by first | assumption | omega) (by first | assumption | omega) (by first | assumption | omega) (by first | assumption | omega) (by first | assumption | omega) (by first | assumption | omega) (by first | assumption | omega)) (gV t3_59 t3_60 t3_61 t1_1 t3_62) rfl rfl hd_X7_placeBest ⟨Nat.le_of_ble_eq_true rfl, Nat.le_of_ble_eq_true rfl⟩ (rx_pre hP hD hSt hDc hZ hS hA [0, 1, 2, 3, 4, 5, 6, 7, 8, 9, 10, 11, 12, 13, 14, 15, 16, 17, 18, 19, 20, 21, 22, 23, 24, 25, 26, 27, 28, 29, 30, 31, 32, 33, 34, 35, 36, 37, 38, 39, 40, 41, 42, 43, 44, 45, 46, 47, 48, 49] rfl (by decide)) (va_recv hSt.1 hP (ci := 7) (q0 := 0) rfl rfl) rfl hl.1 (rest := []) rfl (Nat.le_of_ble_eq_true rfl) dL_does_29 ⟨Nat.le_of_ble_eq_true rfl, Nat.le_of_ble_eq_true rfl⟩) hP hD hS hA [0, 1, 2, 3, 4, 5, 6, 7, 8, 9, 10, 11, 12, 13, 14, 15, 16, 17, 18, 19, 20, 21, 22, 23, 24, 25, 26, 27, 28, 29, 30, 31, 32, 33, 34, 35, 36, 37, 38, 39, 40, 41, 42, 43, 44, 45, 46, 47, 48, 49] [] rfl rfl (by decide) (by decide) (fun E9 ce9 q9 x9 H locs hx9 hP hD hS hc91 hc92 hc93 => ?_) (fun r_9 u_10 H locs hw9 hP hD hS => ?_)
        · obtain ⟨x_11, x_12, x_13, x_14⟩ := x9
          have hx9 : E9 = "java/lang/IllegalStateException" ∧ sBest true nt nz n d wi ti dd 1 0 x_12 ∧ (∀ u, nt ≤ u → u < 7 → x_11 u = -1) ∧ (∀ u, nt ≤ u → u < 7 → x_12 u = -1) := hx9
          have hP : va_P D vwCl ((wDp ad o pa ka (fx 0) (sx 0)) ++ ((wOf o (x 0) (y 0)) ++ ((wFl x r cI cZ cQ w q d T st re rc (nI nz)) ++ ((wSt y rp rw rt cI cQ P n Wi Ti (nI nt)) ++ ((wPl pa pb cI zo) ++ (wFs fx cI cZ x_11 x_12 tk x_14 x_13)))))) H := hP
          have hD : va_D A ((wDp ad o pa ka (fx 0) (sx 0)) ++ ((wOf o (x 0) (y 0)) ++ ((wFl x r cI cZ cQ w q d T st re rc (nI nz)) ++ ((wSt y rp rw rt cI cQ P n Wi Ti (nI nt)) ++ ((wPl pa pb cI zo) ++ (wFs fx cI cZ x_11 x_12 tk x_14 x_13)))))) := hD
          obtain ⟨rfl, hsx⟩ := hx9
          refine vx_catch (own := RL) hown [] ⟨0, 39, 40, 16⟩ [] (by rw [htb]; rfl) (fun _ h9 => nomatch h9) (by decide) (by decide) (hts _ t2_48) (hSt.2.e 2 rfl) hc91 hc92 hc93 ?_
          refine lv_astore_n (lv' := [(2, .ref q9), (0, .ref ad), (1, .int (nI 2))]) hx hb dL_does_40 rfl hl (by decide) rfl (fun ls hl => ?_)
          refine lv_bipush (v := (-70 : Int32)) hx hb dL_does_41 (by decide) ?_
          have hP9 : va_P D vwCl ((wDp ad o pa ka (fx 0) (sx 0)) ++ ((wOf o (x 0) (y 0)) ++ ((wFl x r cI cZ cQ w q d T st re rc (nI nz)) ++ ((wSt y rp rw rt cI cQ P n Wi Ti (nI nt)) ++ ((wPl pa pb cI zo) ++ (wFs fx cI cZ x_11 x_12 tk x_14 x_13)))))) H := hP
          have hD9 : va_D A ((wDp ad o pa ka (fx 0) (sx 0)) ++ ((wOf o (x 0) (y 0)) ++ ((wFl x r cI cZ cQ w q d T st re rc (nI nz)) ++ ((wSt y rp rw rt cI cQ P n Wi Ti (nI nt)) ++ ((wPl pa pb cI zo) ++ (wFs fx cI cZ x_11 x_12 tk x_14 x_13)))))) := hD
          have g_15 : sBest true nt nz n d wi ti dd 1 (0 : Int32) zo := sBest_1 hsx.1
          have g_16 : ∀ u, nt ≤ u → u < 7 → zo u = -1 := hzz
          have g_17 : ∀ u, nt ≤ u → u < 7 → x_11 u = -1 := hsx.2.1
          have g_18 : ∀ u, nt ≤ u → u < 7 → x_12 u = -1 := hsx.2.2
          have g_19 : 1 = 1 → zo = zo := fun _ => rfl
          refine W.widen (k := 1) (n := 6) (by omega) (by omega) ?_
          exact vx_ret (W.iret (v := (-70 : Int32)) hx hb hr (fun t9 ht9 hW9 => ⟨⟨(-70 : Int32), (1, (0 : Int32), zo, x_11, x_12, x_13, x_14), rfl, ⟨rfl, g_15, g_16, g_17, g_18, g_19⟩, by rw [ht9]; exact hP9, hD9⟩, hS.F ht9⟩) hS.2.2 dL_does_43)
        · obtain ⟨j_4, j_5, j_6, j_7, j_8, j_9⟩ := u_10
          obtain ⟨er_9, f_20, f_21, f_22, f_23⟩ := hw9
          replace er_9 := er_9.symm
          subst er_9
          have hs9 : sBest true nt nz n d wi ti dd 0 j_4 j_5 := f_20
          have hz29 : ∀ u, nt ≤ u → u < 7 → j_5 u = -1 := f_21
          have hf29 : ∀ u, nt ≤ u → u < 7 → j_6 u = -1 := f_22
          have hg29 : ∀ u, nt ≤ u → u < 7 → j_7 u = -1 := f_23
          have hP : va_P D vwCl ((wDp ad o pa ka (fx 0) (sx 0)) ++ ((wOf o (x 0) (y 0)) ++ ((wFl x r cI cZ cQ w q d T st re rc (nI nz)) ++ ((wSt y rp rw rt cI cQ P n Wi Ti (nI nt)) ++ ((wPl pa pb cI j_5) ++ (wFs fx cI cZ j_6 j_7 tk j_9 j_8)))))) H := hP
          have hD : va_D A ((wDp ad o pa ka (fx 0) (sx 0)) ++ ((wOf o (x 0) (y 0)) ++ ((wFl x r cI cZ cQ w q d T st re rc (nI nz)) ++ ((wSt y rp rw rt cI cQ P n Wi Ti (nI nt)) ++ ((wPl pa pb cI j_5) ++ (wFs fx cI cZ j_6 j_7 tk j_9 j_8)))))) := hD
          refine lv_goto (tgt := 39) hx hb dL_does_32 (by decide) ?_
          have hP9 : va_P D vwCl ((wDp ad o pa ka (fx 0) (sx 0)) ++ ((wOf o (x 0) (y 0)) ++ ((wFl x r cI cZ cQ w q d T st re rc (nI nz)) ++ ((wSt y rp rw rt cI cQ P n Wi Ti (nI nt)) ++ ((wPl pa pb cI j_5) ++ (wFs fx cI cZ j_6 j_7 tk j_9 j_8)))))) H := hP
          have hD9 : va_D A ((wDp ad o pa ka (fx 0) (sx 0)) ++ ((wOf o (x 0) (y 0)) ++ ((wFl x r cI cZ cQ w q d T st re rc (nI nz)) ++ ((wSt y rp rw rt cI cQ P n Wi Ti (nI nt)) ++ ((wPl pa pb cI j_5) ++ (wFs fx cI cZ j_6 j_7 tk j_9 j_8)))))) := hD
          have g_24 : sBest true nt nz n d wi ti dd 0 j_4 j_5 := hs9
          have g_25 : ∀ u, nt ≤ u → u < 7 → j_5 u = -1 := hz29
          have g_26 : ∀ u, nt ≤ u → u < 7 → j_6 u = -1 := hf29
          have g_27 : ∀ u, nt ≤ u → u < 7 → j_7 u = -1 := hg29
          have g_28 : 0 = 1 → j_5 = zo := fun h9 => absurd h9 (by decide)
          refine W.widen (k := 1) (n := 6) (by omega) (by omega) ?_
          exact vx_ret (W.iret (v := j_4) hx hb hr (fun t9 ht9 hW9 => ⟨⟨j_4, (0, j_4, j_5, j_6, j_7, j_8, j_9), rfl, ⟨rfl, g_24, g_25, g_26, g_27, g_28⟩, by rw [ht9]; exact hP9, hD9⟩, hS.F ht9⟩) hS.2.2 dL_does_39)
    · exact absurd c_2 (by decide)
  · exact absurd c_1 (by decide)
set_option maxHeartbeats 4000000 in
set_option maxRecDepth 100000 in
theorem c_L_does_3 (l : Launch) (D : va_G) (cI cZ cQ cJ : ClassId) (ad : Nat) (o : Nat) (pa : Nat) (ka : Nat) (fx : Nat → Nat) (sx : Nat → Nat) (x : Nat → Nat) (r : Nat → Nat) (w : Nat → Int32) (q : Nat → Int32) (d : Nat → Int32) (T : Nat → Nat → Int32) (st : Nat → Int32) (re : Nat → Int32) (rc : Int32) (nz : Nat) (y : Nat → Nat) (rp : Nat → Nat) (rw : Nat → Nat) (rt : Nat → Nat) (P : Nat → Nat → Int32) (n : Nat → Int32) (Wi : Nat → Nat → Int32) (Ti : Nat → Nat → Int32) (nt : Nat) (pb : Nat) (zo : Nat → Int32) (kb : Nat) (ke : Nat → Int32) (g : Nat → Nat) (gk : Nat → Nat) (sz : Nat) (hnt : nt ≤ 7) (hnz : nz ≤ 7) (hzo : pOK 7 zo g) (hke : pOK 7 ke gk) (hvg : vG nz nt g) (hvk : vG nz nt gk) (hfl : l.stackTraces = false) : vx_Met l yL_does (.codeWith yL_does cL_does 3 (some .int) [(0, 39, 40, 16)] :: ALL) ({ frames := 7, cells := 1, slots := 6, locals := 104 } : Room) (va_Pc [.ref ad, .int (nI 3)] (rx_P D cI cZ cQ cJ ((wDp ad o pa ka (fx 0) (sx 0)) ++ ((wOf o (x 0) (y 0)) ++ ((wFl x r cI cZ cQ w q d T st re rc (nI nz)) ++ ((wSt y rp rw rt cI cQ P n Wi Ti (nI nt)) ++ ((wPl pa pb cI zo) ++ (wPl ka kb cI ke)))))) sz)) (va_Qi (fun (r9 : Int32) (u9 : Nat × Int32 × (Nat → Int32) × (Nat → Nat)) => (r9 = (an u9.1 u9.2.1)) ∧ (sRecall nt n d g gk u9.1 u9.2.1 u9.2.2.2) ∧ (pOK 7 u9.2.2.1 u9.2.2.2)) (rw_B D (va_A ((wDp ad o pa ka (fx 0) (sx 0)) ++ ((wOf o (x 0) (y 0)) ++ ((wFl x r cI cZ cQ w q d T st re rc (nI nz)) ++ ((wSt y rp rw rt cI cQ P n Wi Ti (nI nt)) ++ ((wPl pa pb cI zo) ++ (wPl ka kb cI ke)))))) sz) (fun u9 : Nat × Int32 × (Nat → Int32) × (Nat → Nat) => (wDp ad o pa ka (fx 0) (sx 0)) ++ ((wOf o (x 0) (y 0)) ++ ((wFl x r cI cZ cQ w q d T st re rc (nI nz)) ++ ((wSt y rp rw rt cI cQ P n Wi Ti (nI nt)) ++ ((wPl pa pb cI u9.2.2.1) ++ (wPl ka kb cI ke))))))) (va_A ((wDp ad o pa ka (fx 0) (sx 0)) ++ ((wOf o (x 0) (y 0)) ++ ((wFl x r cI cZ cQ w q d T st re rc (nI nz)) ++ ((wSt y rp rw rt cI cQ P n Wi Ti (nI nt)) ++ ((wPl pa pb cI zo) ++ (wPl ka kb cI ke)))))) sz)) (rx_X (fun (E9 : String) (x9 : Unit) => False) D (va_A ((wDp ad o pa ka (fx 0) (sx 0)) ++ ((wOf o (x 0) (y 0)) ++ ((wFl x r cI cZ cQ w q d T st re rc (nI nz)) ++ ((wSt y rp rw rt cI cQ P n Wi Ti (nI nt)) ++ ((wPl pa pb cI zo) ++ (wPl ka kb cI ke)))))) sz) (fun x9 : Unit => (wDp ad o pa ka (fx 0) (sx 0)) ++ ((wOf o (x 0) (y 0)) ++ ((wFl x r cI cZ cQ w q d T st re rc (nI nz)) ++ ((wSt y rp rw rt cI cQ P n Wi Ti (nI nt)) ++ ((wPl pa pb cI zo) ++ (wPl ka kb cI ke))))))) 1 6 (va_A ((wDp ad o pa ka (fx 0) (sx 0)) ++ ((wOf o (x 0) (y 0)) ++ ((wFl x r cI cZ cQ w q d T st re rc (nI nz)) ++ ((wSt y rp rw rt cI cQ P n Wi Ti (nI nt)) ++ ((wPl pa pb cI zo) ++ (wPl ka kb cI ke)))))) sz) := by
  refine vx_ofWH (cc := cL_does) (maxL := 3) (ret := (some .int)) (hh := [(0, 39, 40, 16)]) (by decide) rfl ?_
  intro p e s m args below meth c s₁ B hml hv
  obtain ⟨rfl, ⟨hsz, hP, hSt, hD0⟩, hDc, hZ⟩ := hv
  change W p l e ({ frames := 7, cells := 1, slots := 6, locals := 104 } : Room) s m _ below meth c s.heap [] 0 0 _ _
  have hx := B.exec
  have hb := B.bytes
  have hr := B.returns
  have hts : ∀ w ∈ ALL, w.before ([.ref ad, .int (nI 3)] : List Value).toArray s = true := fun w h => atoms_spec (ws := (.codeWith yL_does cL_does 3 (some .int) [(0, 39, 40, 16)] :: ALL)) B.pre w (List.mem_cons_of_mem _ h)
  have hown : s.vm.findClass RL = some m.cls := findClass_of_methodNamed B.named
  have hlocks := B.notSynchronized
  have htb : c.exceptionTable.toList = tableOf [(0, 39, 40, 16)] := vx_table (x := yL_does) B (atoms_spec (ws := (.codeWith yL_does cL_does 3 (some .int) [(0, 39, 40, 16)] :: ALL)) B.pre _ List.mem_cons_self)
  subst hsz
  have hD := hD0.self (sz := s.heap.size)
  clear hD0
  generalize hAe : va_A ((wDp ad o pa ka (fx 0) (sx 0)) ++ ((wOf o (x 0) (y 0)) ++ ((wFl x r cI cZ cQ w q d T st re rc (nI nz)) ++ ((wSt y rp rw rt cI cQ P n Wi Ti (nI nt)) ++ ((wPl pa pb cI zo) ++ (wPl ka kb cI ke)))))) s.heap.size = A at hD hZ ⊢
  have hA : ∀ q : Nat, s.heap.size ≤ q → A q := fun q h => by rw [← hAe]; exact Or.inr h
  have hS : va_S A s.heap s.heap [] := va_S.rf
  have hl := lv_entry ([.ref ad, .int (nI 3)]) (n := 3) (Nat.le_of_ble_eq_true rfl)
  rw [lg_entry_eq]
  generalize (lg_sl ([.ref ad, .int (nI 3)]) ++ List.replicate (3 - (lg_sl ([.ref ad, .int (nI 3)])).length) Slot.unset).toArray = ls at hl ⊢
  have hl : lv_has ls 3 [(0, .ref ad), (1, .int (nI 3))] := hl
  obtain ⟨H, hHe⟩ : ∃ H : Heap, H = s.heap := ⟨_, rfl⟩
  obtain ⟨locs, hLe⟩ : ∃ L : List Loc, L = [] := ⟨_, rfl⟩
  have hP : va_P D vwCl ((wDp ad o pa ka (fx 0) (sx 0)) ++ ((wOf o (x 0) (y 0)) ++ ((wFl x r cI cZ cQ w q d T st re rc (nI nz)) ++ ((wSt y rp rw rt cI cQ P n Wi Ti (nI nt)) ++ ((wPl pa pb cI zo) ++ (wPl ka kb cI ke)))))) H := by rw [hHe]; exact hP
  have hS : va_S A s.heap H locs := by rw [hHe, hLe]; exact hS
  refine W.eqHL hHe hLe ?_
  refine lv_iload_n hx hb dL_does_0 rfl (lv_at hl 1 rfl) ?_
  refine lv_if_ne (tgt := 11) hx hb dL_does_1 (by decide) (fun c_1 => ?_) (fun c_1 => ?_)
  · refine lv_iload_n hx hb dL_does_11 rfl (lv_at hl 1 rfl) ?_
    refine lv_iconst (v := nI 1) hx hb dL_does_12 (by decide) ?_
    refine lv_icmp_ne (tgt := 23) hx hb dL_does_13 (by decide) (fun c_2 => ?_) (fun c_2 => ?_)
    · refine lv_iload_n hx hb dL_does_23 rfl (lv_at hl 1 rfl) ?_
      refine lv_iconst (v := nI 2) hx hb dL_does_24 (by decide) ?_
      refine lv_icmp_ne (tgt := 35) hx hb dL_does_25 (by decide) (fun c_3 => ?_) (fun c_3 => ?_)
      · refine lv_aload_n hx hb dL_does_35 rfl (lv_at hl 0 rfl) ?_
        refine rx_i (wr := ([] : va_W)) (w_VX (As := []) ⟨hx, hb, hml, hown, hts⟩ (c_X7_recall l D cI cZ cQ cJ ad o pa ka fx sx x r w q d T st re rc nz y rp rw rt P n Wi Ti nt pb zo kb ke g gk H.size (by first | assumption | omega) (by first | assumption | omega) (by first | assumption | omega) (by first | assumption | omega) (by first | assumption | omega) (by first | assumption | omega) (by first | assumption | omega)) (gV t3_63 t3_64 t3_65 t1_1 t3_66) rfl rfl hd_X7_recall ⟨Nat.le_of_ble_eq_true rfl, Nat.le_of_ble_eq_true rfl⟩ (rx_pre hP hD hSt hDc hZ hS hA [0, 1, 2, 3, 4, 5, 6, 7, 8, 9, 10, 11, 12, 13, 14, 15, 16, 17, 18, 19, 20, 21, 22, 23, 24, 25, 26, 27, 28, 29, 30, 31, 32, 33, 34, 35, 36, 37, 38, 39, 40, 41, 42, 43, 44, 45] rfl (by decide)) (va_recv hSt.1 hP (ci := 7) (q0 := 0) rfl rfl) rfl hl.1 (rest := []) rfl (Nat.le_of_ble_eq_true rfl) dL_does_36 ⟨Nat.le_of_ble_eq_true rfl, Nat.le_of_ble_eq_true rfl⟩) hP hD hS hA [0, 1, 2, 3, 4, 5, 6, 7, 8, 9, 10, 11, 12, 13, 14, 15, 16, 17, 18, 19, 20, 21, 22, 23, 24, 25, 26, 27, 28, 29, 30, 31, 32, 33, 34, 35, 36, 37, 38, 39, 40, 41, 42, 43, 44, 45] [] rfl rfl (by decide) (by decide) (fun E9 ce9 q9 x9 H locs hx9 hP hD hS hc91 hc92 hc93 => ?_) (fun r_9 u_7 H locs hw9 hP hD hS => ?_)
        · have hx9 : E9 = "java/lang/IllegalStateException" ∧ sRecall nt n d g gk 1 0 g := hx9
          have hP : va_P D vwCl ((wDp ad o pa ka (fx 0) (sx 0)) ++ ((wOf o (x 0) (y 0)) ++ ((wFl x r cI cZ cQ w q d T st re rc (nI nz)) ++ ((wSt y rp rw rt cI cQ P n Wi Ti (nI nt)) ++ ((wPl pa pb cI zo) ++ (wPl ka kb cI ke)))))) H := hP
          have hD : va_D A ((wDp ad o pa ka (fx 0) (sx 0)) ++ ((wOf o (x 0) (y 0)) ++ ((wFl x r cI cZ cQ w q d T st re rc (nI nz)) ++ ((wSt y rp rw rt cI cQ P n Wi Ti (nI nt)) ++ ((wPl pa pb cI zo) ++ (wPl ka kb cI ke)))))) := hD
          obtain ⟨rfl, hsx⟩ := hx9
          refine vx_catch (own := RL) hown [] ⟨0, 39, 40, 16⟩ [] (by rw [htb]; rfl) (fun _ h9 => nomatch h9) (by decide) (by decide) (hts _ t2_48) (hSt.2.e 2 rfl) hc91 hc92 hc93 ?_
          refine lv_astore_n (lv' := [(2, .ref q9), (0, .ref ad), (1, .int (nI 3))]) hx hb dL_does_40 rfl hl (by decide) rfl (fun ls hl => ?_)
          refine lv_bipush (v := (-70 : Int32)) hx hb dL_does_41 (by decide) ?_
          have hP9 : va_P D vwCl ((wDp ad o pa ka (fx 0) (sx 0)) ++ ((wOf o (x 0) (y 0)) ++ ((wFl x r cI cZ cQ w q d T st re rc (nI nz)) ++ ((wSt y rp rw rt cI cQ P n Wi Ti (nI nt)) ++ ((wPl pa pb cI zo) ++ (wPl ka kb cI ke)))))) H := hP
          have hD9 : va_D A ((wDp ad o pa ka (fx 0) (sx 0)) ++ ((wOf o (x 0) (y 0)) ++ ((wFl x r cI cZ cQ w q d T st re rc (nI nz)) ++ ((wSt y rp rw rt cI cQ P n Wi Ti (nI nt)) ++ ((wPl pa pb cI zo) ++ (wPl ka kb cI ke)))))) := hD
          have g_8 : sRecall nt n d g gk 1 (0 : Int32) g := hsx
          have g_9 : pOK 7 zo g := hzo
          refine W.widen (k := 1) (n := 6) (by omega) (by omega) ?_
          exact vx_ret (W.iret (v := (-70 : Int32)) hx hb hr (fun t9 ht9 hW9 => ⟨⟨(-70 : Int32), (1, (0 : Int32), zo, g), rfl, ⟨rfl, g_8, g_9⟩, by rw [ht9]; exact hP9, hD9⟩, hS.F ht9⟩) hS.2.2 dL_does_43)
        · obtain ⟨j_4, j_5, j_6⟩ := u_7
          obtain ⟨er_9, f_10, f_11⟩ := hw9
          replace er_9 := er_9.symm
          subst er_9
          have hs9 : sRecall nt n d g gk 0 j_4 j_6 := f_10
          have hz29 : pOK 7 j_5 j_6 := f_11
          have hP : va_P D vwCl ((wDp ad o pa ka (fx 0) (sx 0)) ++ ((wOf o (x 0) (y 0)) ++ ((wFl x r cI cZ cQ w q d T st re rc (nI nz)) ++ ((wSt y rp rw rt cI cQ P n Wi Ti (nI nt)) ++ ((wPl pa pb cI j_5) ++ (wPl ka kb cI ke)))))) H := hP
          have hD : va_D A ((wDp ad o pa ka (fx 0) (sx 0)) ++ ((wOf o (x 0) (y 0)) ++ ((wFl x r cI cZ cQ w q d T st re rc (nI nz)) ++ ((wSt y rp rw rt cI cQ P n Wi Ti (nI nt)) ++ ((wPl pa pb cI j_5) ++ (wPl ka kb cI ke)))))) := hD
          have hP9 : va_P D vwCl ((wDp ad o pa ka (fx 0) (sx 0)) ++ ((wOf o (x 0) (y 0)) ++ ((wFl x r cI cZ cQ w q d T st re rc (nI nz)) ++ ((wSt y rp rw rt cI cQ P n Wi Ti (nI nt)) ++ ((wPl pa pb cI j_5) ++ (wPl ka kb cI ke)))))) H := hP
          have hD9 : va_D A ((wDp ad o pa ka (fx 0) (sx 0)) ++ ((wOf o (x 0) (y 0)) ++ ((wFl x r cI cZ cQ w q d T st re rc (nI nz)) ++ ((wSt y rp rw rt cI cQ P n Wi Ti (nI nt)) ++ ((wPl pa pb cI j_5) ++ (wPl ka kb cI ke)))))) := hD
          have g_12 : sRecall nt n d g gk 0 j_4 j_6 := hs9
          have g_13 : pOK 7 j_5 j_6 := hz29
          refine W.widen (k := 1) (n := 6) (by omega) (by omega) ?_
          exact vx_ret (W.iret (v := j_4) hx hb hr (fun t9 ht9 hW9 => ⟨⟨j_4, (0, j_4, j_5, j_6), rfl, ⟨rfl, g_12, g_13⟩, by rw [ht9]; exact hP9, hD9⟩, hS.F ht9⟩) hS.2.2 dL_does_39)
      · exact absurd c_3 (by decide)
    · exact absurd c_2 (by decide)
  · exact absurd c_1 (by decide)
set_option maxHeartbeats 4000000 in
set_option maxRecDepth 100000 in
theorem c_L_search (l : Launch) (D : va_G) (cI cZ cQ cJ : ClassId) (ad : Nat) (o : Nat) (pa : Nat) (ka : Nat) (fx : Nat → Nat) (sx : Nat → Nat) (x : Nat → Nat) (r : Nat → Nat) (w : Nat → Int32) (q : Nat → Int32) (d : Nat → Int32) (T : Nat → Nat → Int32) (st : Nat → Int32) (re : Nat → Int32) (rc : Int32) (nz : Nat) (y : Nat → Nat) (rp : Nat → Nat) (rw : Nat → Nat) (rt : Nat → Nat) (P : Nat → Nat → Int32) (n : Nat → Int32) (Wi : Nat → Nat → Int32) (Ti : Nat → Nat → Int32) (nt : Nat) (pb : Nat) (zo : Nat → Int32) (sf : Nat → Int32) (sg : Nat → Int32) (ra : Nat → Int32) (fo : Int32) (te : Int32) (ot : Int32) (zn : Int32) (co : Int32) (wi : Nat → Nat → Nat) (ti : Nat → Nat → Nat) (dd : Nat → Nat → Nat) (g : Nat → Nat) (a8 : Int32) (r8 : Int32) (sz : Nat) (hnt : nt ≤ 7) (hnz : nz ≤ 7) (hwi : rOK 7 7 Wi wi) (hti : rOK 7 7 Ti ti) (hdd : rOK nz nz T dd) (hv : vOK nz wi ti dd) (hzo : pOK 7 zo g) (hvg : vG nz nt g) (hfG : fG nt n d g) (hfl : l.stackTraces = false) : vx_Met l yL_search (.codeWith yL_search cL_search 4 (some .int) [(0, 6, 7, 22), (0, 6, 11, 16)] :: ALL) ({ frames := 8, cells := 3, slots := 18, locals := 169 } : Room) (va_Pc [.ref ad, .int a8, .int r8] (rx_P D cI cZ cQ cJ ((wDp ad o pa ka (fx 0) (sx 0)) ++ ((wOf o (x 0) (y 0)) ++ ((wFl x r cI cZ cQ w q d T st re rc (nI nz)) ++ ((wSt y rp rw rt cI cQ P n Wi Ti (nI nt)) ++ ((wPl pa pb cI zo) ++ (wSs sx cI sf sg ra fo te ot zn co)))))) sz)) (va_Qi (fun (r9 : Int32) (u9 : Nat × Int32 × (Nat → Int32) × (Nat → Nat) × (Nat → Int32) × (Nat → Int32) × (Nat → Int32) × Int32 × Int32 × Int32 × Int32 × Int32) => (r9 = (an u9.1 u9.2.1)) ∧ (sSearch nt nz n d wi ti dd g a8 r8 u9.1 u9.2.1 u9.2.2.2.1) ∧ (pOK 7 u9.2.2.1 u9.2.2.2.1)) (rw_B D (va_A ((wDp ad o pa ka (fx 0) (sx 0)) ++ ((wOf o (x 0) (y 0)) ++ ((wFl x r cI cZ cQ w q d T st re rc (nI nz)) ++ ((wSt y rp rw rt cI cQ P n Wi Ti (nI nt)) ++ ((wPl pa pb cI zo) ++ (wSs sx cI sf sg ra fo te ot zn co)))))) sz) (fun u9 : Nat × Int32 × (Nat → Int32) × (Nat → Nat) × (Nat → Int32) × (Nat → Int32) × (Nat → Int32) × Int32 × Int32 × Int32 × Int32 × Int32 => (wDp ad o pa ka (fx 0) (sx 0)) ++ ((wOf o (x 0) (y 0)) ++ ((wFl x r cI cZ cQ w q d T st re rc (nI nz)) ++ ((wSt y rp rw rt cI cQ P n Wi Ti (nI nt)) ++ ((wPl pa pb cI u9.2.2.1) ++ (wSs sx cI u9.2.2.2.2.1 u9.2.2.2.2.2.1 u9.2.2.2.2.2.2.1 u9.2.2.2.2.2.2.2.1 u9.2.2.2.2.2.2.2.2.1 u9.2.2.2.2.2.2.2.2.2.1 u9.2.2.2.2.2.2.2.2.2.2.1 u9.2.2.2.2.2.2.2.2.2.2.2))))))) (va_A ((wDp ad o pa ka (fx 0) (sx 0)) ++ ((wOf o (x 0) (y 0)) ++ ((wFl x r cI cZ cQ w q d T st re rc (nI nz)) ++ ((wSt y rp rw rt cI cQ P n Wi Ti (nI nt)) ++ ((wPl pa pb cI zo) ++ (wSs sx cI sf sg ra fo te ot zn co)))))) sz)) (rx_X (fun (E9 : String) (x9 : Unit) => False) D (va_A ((wDp ad o pa ka (fx 0) (sx 0)) ++ ((wOf o (x 0) (y 0)) ++ ((wFl x r cI cZ cQ w q d T st re rc (nI nz)) ++ ((wSt y rp rw rt cI cQ P n Wi Ti (nI nt)) ++ ((wPl pa pb cI zo) ++ (wSs sx cI sf sg ra fo te ot zn co)))))) sz) (fun x9 : Unit => (wDp ad o pa ka (fx 0) (sx 0)) ++ ((wOf o (x 0) (y 0)) ++ ((wFl x r cI cZ cQ w q d T st re rc (nI nz)) ++ ((wSt y rp rw rt cI cQ P n Wi Ti (nI nt)) ++ ((wPl pa pb cI zo) ++ (wSs sx cI sf sg ra fo te ot zn co))))))) 3 18 (va_A ((wDp ad o pa ka (fx 0) (sx 0)) ++ ((wOf o (x 0) (y 0)) ++ ((wFl x r cI cZ cQ w q d T st re rc (nI nz)) ++ ((wSt y rp rw rt cI cQ P n Wi Ti (nI nt)) ++ ((wPl pa pb cI zo) ++ (wSs sx cI sf sg ra fo te ot zn co)))))) sz) := by
  refine vx_ofWH (cc := cL_search) (maxL := 4) (ret := (some .int)) (hh := [(0, 6, 7, 22), (0, 6, 11, 16)]) (by decide) rfl ?_
  intro p e s m args below meth c s₁ B hml hv
  obtain ⟨rfl, ⟨hsz, hP, hSt, hD0⟩, hDc, hZ⟩ := hv
  change W p l e ({ frames := 8, cells := 3, slots := 18, locals := 169 } : Room) s m _ below meth c s.heap [] 0 0 _ _
  have hx := B.exec
  have hb := B.bytes
  have hr := B.returns
  have hts : ∀ w ∈ ALL, w.before ([.ref ad, .int a8, .int r8] : List Value).toArray s = true := fun w h => atoms_spec (ws := (.codeWith yL_search cL_search 4 (some .int) [(0, 6, 7, 22), (0, 6, 11, 16)] :: ALL)) B.pre w (List.mem_cons_of_mem _ h)
  have hown : s.vm.findClass RL = some m.cls := findClass_of_methodNamed B.named
  have hlocks := B.notSynchronized
  have htb : c.exceptionTable.toList = tableOf [(0, 6, 7, 22), (0, 6, 11, 16)] := vx_table (x := yL_search) B (atoms_spec (ws := (.codeWith yL_search cL_search 4 (some .int) [(0, 6, 7, 22), (0, 6, 11, 16)] :: ALL)) B.pre _ List.mem_cons_self)
  subst hsz
  have hD := hD0.self (sz := s.heap.size)
  clear hD0
  generalize hAe : va_A ((wDp ad o pa ka (fx 0) (sx 0)) ++ ((wOf o (x 0) (y 0)) ++ ((wFl x r cI cZ cQ w q d T st re rc (nI nz)) ++ ((wSt y rp rw rt cI cQ P n Wi Ti (nI nt)) ++ ((wPl pa pb cI zo) ++ (wSs sx cI sf sg ra fo te ot zn co)))))) s.heap.size = A at hD hZ ⊢
  have hA : ∀ q : Nat, s.heap.size ≤ q → A q := fun q h => by rw [← hAe]; exact Or.inr h
  have hS : va_S A s.heap s.heap [] := va_S.rf
  have hl := lv_entry ([.ref ad, .int a8, .int r8]) (n := 4) (Nat.le_of_ble_eq_true rfl)
  rw [lg_entry_eq]
  generalize (lg_sl ([.ref ad, .int a8, .int r8]) ++ List.replicate (4 - (lg_sl ([.ref ad, .int a8, .int r8])).length) Slot.unset).toArray = ls at hl ⊢
  have hl : lv_has ls 4 [(0, .ref ad), (1, .int a8), (2, .int r8)] := hl
  obtain ⟨H, hHe⟩ : ∃ H : Heap, H = s.heap := ⟨_, rfl⟩
  obtain ⟨locs, hLe⟩ : ∃ L : List Loc, L = [] := ⟨_, rfl⟩
  have hP : va_P D vwCl ((wDp ad o pa ka (fx 0) (sx 0)) ++ ((wOf o (x 0) (y 0)) ++ ((wFl x r cI cZ cQ w q d T st re rc (nI nz)) ++ ((wSt y rp rw rt cI cQ P n Wi Ti (nI nt)) ++ ((wPl pa pb cI zo) ++ (wSs sx cI sf sg ra fo te ot zn co)))))) H := by rw [hHe]; exact hP
  have hS : va_S A s.heap H locs := by rw [hHe, hLe]; exact hS
  refine W.eqHL hHe hLe ?_
  refine lv_aload_n hx hb dL_search_0 rfl (lv_at hl 0 rfl) ?_
  refine lv_iload_n hx hb dL_search_1 rfl (lv_at hl 1 rfl) ?_
  refine lv_iload_n hx hb dL_search_2 rfl (lv_at hl 2 rfl) ?_
  refine rx_i (wr := ([] : va_W)) (w_VX (As := [.int a8, .int r8]) ⟨hx, hb, hml, hown, hts⟩ (c_X7_search l D cI cZ cQ cJ ad o pa ka fx sx x r w q d T st re rc nz y rp rw rt P n Wi Ti nt pb zo sf sg ra fo te ot zn co wi ti dd g a8 r8 H.size (by first | assumption | omega) (by first | assumption | omega) (by first | assumption | omega) (by first | assumption | omega) (by first | assumption | omega) (by first | assumption | omega) (by first | assumption | omega) (by first | assumption | omega) (by first | assumption | omega) (by first | assumption | omega)) (gV t3_75 t3_76 t3_77 t1_1 t3_78) rfl rfl hd_X7_search ⟨Nat.le_of_ble_eq_true rfl, Nat.le_of_ble_eq_true rfl⟩ (rx_pre hP hD hSt hDc hZ hS hA [0, 1, 2, 3, 4, 5, 6, 7, 8, 9, 10, 11, 12, 13, 14, 15, 16, 17, 18, 19, 20, 21, 22, 23, 24, 25, 26, 27, 28, 29, 30, 31, 32, 33, 34, 35, 36, 37, 38, 39, 40, 41, 42, 43, 44, 45, 46, 47, 48, 49, 50] rfl (by decide)) (va_recv hSt.1 hP (ci := 7) (q0 := 0) rfl rfl) rfl hl.1 (rest := []) rfl (Nat.le_of_ble_eq_true rfl) dL_search_3 ⟨Nat.le_of_ble_eq_true rfl, Nat.le_of_ble_eq_true rfl⟩) hP hD hS hA [0, 1, 2, 3, 4, 5, 6, 7, 8, 9, 10, 11, 12, 13, 14, 15, 16, 17, 18, 19, 20, 21, 22, 23, 24, 25, 26, 27, 28, 29, 30, 31, 32, 33, 34, 35, 36, 37, 38, 39, 40, 41, 42, 43, 44, 45, 46, 47, 48, 49, 50] [] rfl rfl (by decide) (by decide) (fun E9 ce9 q9 x9 H locs hx9 hP hD hS hc91 hc92 hc93 => ?_) (fun r_9 u_12 H locs hw9 hP hD hS => ?_)
  · have hx9 : (E9 = "java/lang/IllegalArgumentException" ∧ sSearch nt nz n d wi ti dd g a8 r8 1 0 g) ∨ (E9 = "java/lang/IllegalStateException" ∧ sSearch nt nz n d wi ti dd g a8 r8 2 0 g) := hx9
    have hP : va_P D vwCl ((wDp ad o pa ka (fx 0) (sx 0)) ++ ((wOf o (x 0) (y 0)) ++ ((wFl x r cI cZ cQ w q d T st re rc (nI nz)) ++ ((wSt y rp rw rt cI cQ P n Wi Ti (nI nt)) ++ ((wPl pa pb cI zo) ++ (wSs sx cI sf sg ra fo te ot zn co)))))) H := hP
    have hD : va_D A ((wDp ad o pa ka (fx 0) (sx 0)) ++ ((wOf o (x 0) (y 0)) ++ ((wFl x r cI cZ cQ w q d T st re rc (nI nz)) ++ ((wSt y rp rw rt cI cQ P n Wi Ti (nI nt)) ++ ((wPl pa pb cI zo) ++ (wSs sx cI sf sg ra fo te ot zn co)))))) := hD
    rcases hx9 with ⟨rfl, hsx⟩ | ⟨rfl, hsx⟩
    · refine vx_catch (own := RL) hown [] ⟨0, 6, 7, 22⟩ [⟨0, 6, 11, 16⟩] (by rw [htb]; rfl) (fun _ h9 => nomatch h9) (by decide) (by decide) (hts _ t2_172) (hSt.2.e 1 rfl) hc91 hc92 hc93 ?_
      refine lv_astore_n (lv' := [(3, .ref q9), (0, .ref ad), (1, .int a8), (2, .int r8)]) hx hb dL_search_7 rfl hl (by decide) rfl (fun ls hl => ?_)
      refine lv_bipush (v := (-70 : Int32)) hx hb dL_search_8 (by decide) ?_
      have hP9 : va_P D vwCl ((wDp ad o pa ka (fx 0) (sx 0)) ++ ((wOf o (x 0) (y 0)) ++ ((wFl x r cI cZ cQ w q d T st re rc (nI nz)) ++ ((wSt y rp rw rt cI cQ P n Wi Ti (nI nt)) ++ ((wPl pa pb cI zo) ++ (wSs sx cI sf sg ra fo te ot zn co)))))) H := hP
      have hD9 : va_D A ((wDp ad o pa ka (fx 0) (sx 0)) ++ ((wOf o (x 0) (y 0)) ++ ((wFl x r cI cZ cQ w q d T st re rc (nI nz)) ++ ((wSt y rp rw rt cI cQ P n Wi Ti (nI nt)) ++ ((wPl pa pb cI zo) ++ (wSs sx cI sf sg ra fo te ot zn co)))))) := hD
      have g_13 : sSearch nt nz n d wi ti dd g a8 r8 1 (0 : Int32) g := hsx
      have g_14 : pOK 7 zo g := hzo
      refine W.widen (k := 3) (n := 18) (by omega) (by omega) ?_
      exact vx_ret (W.iret (v := (-70 : Int32)) hx hb hr (fun t9 ht9 hW9 => ⟨⟨(-70 : Int32), (1, (0 : Int32), zo, g, sf, sg, ra, fo, te, ot, zn, co), rfl, ⟨rfl, g_13, g_14⟩, by rw [ht9]; exact hP9, hD9⟩, hS.F ht9⟩) hS.2.2 dL_search_10)
    · refine vx_catch (own := RL) hown [⟨0, 6, 7, 22⟩] ⟨0, 6, 11, 16⟩ [] (by rw [htb]; rfl) (List.forall_mem_cons.mpr ⟨Or.inr ⟨by decide, _, hts _ t2_172, hSt.2.p 5 rfl⟩, fun _ h9 => nomatch h9⟩) (by decide) (by decide) (hts _ t2_48) (hSt.2.e 2 rfl) hc91 hc92 hc93 ?_
      refine lv_astore_n (lv' := [(3, .ref q9), (0, .ref ad), (1, .int a8), (2, .int r8)]) hx hb dL_search_11 rfl hl (by decide) rfl (fun ls hl => ?_)
      refine lv_bipush (v := (-70 : Int32)) hx hb dL_search_12 (by decide) ?_
      have hP9 : va_P D vwCl ((wDp ad o pa ka (fx 0) (sx 0)) ++ ((wOf o (x 0) (y 0)) ++ ((wFl x r cI cZ cQ w q d T st re rc (nI nz)) ++ ((wSt y rp rw rt cI cQ P n Wi Ti (nI nt)) ++ ((wPl pa pb cI zo) ++ (wSs sx cI sf sg ra fo te ot zn co)))))) H := hP
      have hD9 : va_D A ((wDp ad o pa ka (fx 0) (sx 0)) ++ ((wOf o (x 0) (y 0)) ++ ((wFl x r cI cZ cQ w q d T st re rc (nI nz)) ++ ((wSt y rp rw rt cI cQ P n Wi Ti (nI nt)) ++ ((wPl pa pb cI zo) ++ (wSs sx cI sf sg ra fo te ot zn co)))))) := hD
      have g_15 : sSearch nt nz n d wi ti dd g a8 r8 2 (0 : Int32) g := hsx
      have g_16 : pOK 7 zo g := hzo
      refine W.widen (k := 3) (n := 18) (by omega) (by omega) ?_
      exact vx_ret (W.iret (v := (-70 : Int32)) hx hb hr (fun t9 ht9 hW9 => ⟨⟨(-70 : Int32), (2, (0 : Int32), zo, g, sf, sg, ra, fo, te, ot, zn, co), rfl, ⟨rfl, g_15, g_16⟩, by rw [ht9]; exact hP9, hD9⟩, hS.F ht9⟩) hS.2.2 dL_search_14)
  · obtain ⟨j_1, j_2, j_3, j_4, j_5, j_6, j_7, j_8, j_9, j_10, j_11⟩ := u_12
    obtain ⟨er_9, f_17, f_18⟩ := hw9
    replace er_9 := er_9.symm
    subst er_9
    have hs9 : sSearch nt nz n d wi ti dd g a8 r8 0 j_1 j_3 := f_17
    have hz29 : pOK 7 j_2 j_3 := f_18
    have hP : va_P D vwCl ((wDp ad o pa ka (fx 0) (sx 0)) ++ ((wOf o (x 0) (y 0)) ++ ((wFl x r cI cZ cQ w q d T st re rc (nI nz)) ++ ((wSt y rp rw rt cI cQ P n Wi Ti (nI nt)) ++ ((wPl pa pb cI j_2) ++ (wSs sx cI j_4 j_5 j_6 j_7 j_8 j_9 j_10 j_11)))))) H := hP
    have hD : va_D A ((wDp ad o pa ka (fx 0) (sx 0)) ++ ((wOf o (x 0) (y 0)) ++ ((wFl x r cI cZ cQ w q d T st re rc (nI nz)) ++ ((wSt y rp rw rt cI cQ P n Wi Ti (nI nt)) ++ ((wPl pa pb cI j_2) ++ (wSs sx cI j_4 j_5 j_6 j_7 j_8 j_9 j_10 j_11)))))) := hD
    have hP9 : va_P D vwCl ((wDp ad o pa ka (fx 0) (sx 0)) ++ ((wOf o (x 0) (y 0)) ++ ((wFl x r cI cZ cQ w q d T st re rc (nI nz)) ++ ((wSt y rp rw rt cI cQ P n Wi Ti (nI nt)) ++ ((wPl pa pb cI j_2) ++ (wSs sx cI j_4 j_5 j_6 j_7 j_8 j_9 j_10 j_11)))))) H := hP
    have hD9 : va_D A ((wDp ad o pa ka (fx 0) (sx 0)) ++ ((wOf o (x 0) (y 0)) ++ ((wFl x r cI cZ cQ w q d T st re rc (nI nz)) ++ ((wSt y rp rw rt cI cQ P n Wi Ti (nI nt)) ++ ((wPl pa pb cI j_2) ++ (wSs sx cI j_4 j_5 j_6 j_7 j_8 j_9 j_10 j_11)))))) := hD
    have g_19 : sSearch nt nz n d wi ti dd g a8 r8 0 j_1 j_3 := hs9
    have g_20 : pOK 7 j_2 j_3 := hz29
    refine W.widen (k := 3) (n := 18) (by omega) (by omega) ?_
    exact vx_ret (W.iret (v := j_1) hx hb hr (fun t9 ht9 hW9 => ⟨⟨j_1, (0, j_1, j_2, j_3, j_4, j_5, j_6, j_7, j_8, j_9, j_10, j_11), rfl, ⟨rfl, g_19, g_20⟩, by rw [ht9]; exact hP9, hD9⟩, hS.F ht9⟩) hS.2.2 dL_search_6)
set_option maxHeartbeats 4000000 in
set_option maxRecDepth 100000 in
theorem c_L_of_0 (l : Launch) (D : va_G) (cI cZ cQ cJ : ClassId) (ad : Nat) (o : Nat) (pa : Nat) (ka : Nat) (fx : Nat → Nat) (sx : Nat → Nat) (x : Nat → Nat) (y : Nat → Nat) (rp : Nat → Nat) (rw : Nat → Nat) (rt : Nat → Nat) (P : Nat → Nat → Int32) (n : Nat → Int32) (Wi : Nat → Nat → Int32) (Ti : Nat → Nat → Int32) (nt : Nat) (t : Int32) (e8 : Int32) (sz : Nat) (hnt : nt ≤ 7) (hfl : l.stackTraces = false) : vx_Met l yL_of (.codeWith yL_of cL_of 5 (some .int) [(0, 71, 72, 14)] :: ALL) ({ frames := 8, cells := 1, slots := 6, locals := 124 } : Room) (va_Pc [.ref ad, .int (nI 0), .int t, .int e8] (rx_P D cI cZ cQ cJ ((wDp ad o pa ka (fx 0) (sx 0)) ++ ((wOf o (x 0) (y 0)) ++ (wSt y rp rw rt cI cQ P n Wi Ti (nI nt)))) sz)) (va_Qi (fun (r9 : Int32) (u9 : Nat × Int32) => (r9 = (an u9.1 u9.2)) ∧ (sOne nt n t u9.1 u9.2)) (rw_B D (va_A ((wDp ad o pa ka (fx 0) (sx 0)) ++ ((wOf o (x 0) (y 0)) ++ (wSt y rp rw rt cI cQ P n Wi Ti (nI nt)))) sz) (fun u9 : Nat × Int32 => (wDp ad o pa ka (fx 0) (sx 0)) ++ ((wOf o (x 0) (y 0)) ++ (wSt y rp rw rt cI cQ P n Wi Ti (nI nt))))) (va_A ((wDp ad o pa ka (fx 0) (sx 0)) ++ ((wOf o (x 0) (y 0)) ++ (wSt y rp rw rt cI cQ P n Wi Ti (nI nt)))) sz)) (rx_X (fun (E9 : String) (x9 : Unit) => False) D (va_A ((wDp ad o pa ka (fx 0) (sx 0)) ++ ((wOf o (x 0) (y 0)) ++ (wSt y rp rw rt cI cQ P n Wi Ti (nI nt)))) sz) (fun x9 : Unit => (wDp ad o pa ka (fx 0) (sx 0)) ++ ((wOf o (x 0) (y 0)) ++ (wSt y rp rw rt cI cQ P n Wi Ti (nI nt))))) 1 6 (va_A ((wDp ad o pa ka (fx 0) (sx 0)) ++ ((wOf o (x 0) (y 0)) ++ (wSt y rp rw rt cI cQ P n Wi Ti (nI nt)))) sz) := by
  refine vx_ofWH (cc := cL_of) (maxL := 5) (ret := (some .int)) (hh := [(0, 71, 72, 14)]) (by decide) rfl ?_
  intro p e s m args below meth c s₁ B hml hv
  obtain ⟨rfl, ⟨hsz, hP, hSt, hD0⟩, hDc, hZ⟩ := hv
  change W p l e ({ frames := 8, cells := 1, slots := 6, locals := 124 } : Room) s m _ below meth c s.heap [] 0 0 _ _
  have hx := B.exec
  have hb := B.bytes
  have hr := B.returns
  have hts : ∀ w ∈ ALL, w.before ([.ref ad, .int (nI 0), .int t, .int e8] : List Value).toArray s = true := fun w h => atoms_spec (ws := (.codeWith yL_of cL_of 5 (some .int) [(0, 71, 72, 14)] :: ALL)) B.pre w (List.mem_cons_of_mem _ h)
  have hown : s.vm.findClass RL = some m.cls := findClass_of_methodNamed B.named
  have hlocks := B.notSynchronized
  have htb : c.exceptionTable.toList = tableOf [(0, 71, 72, 14)] := vx_table (x := yL_of) B (atoms_spec (ws := (.codeWith yL_of cL_of 5 (some .int) [(0, 71, 72, 14)] :: ALL)) B.pre _ List.mem_cons_self)
  subst hsz
  have hD := hD0.self (sz := s.heap.size)
  clear hD0
  generalize hAe : va_A ((wDp ad o pa ka (fx 0) (sx 0)) ++ ((wOf o (x 0) (y 0)) ++ (wSt y rp rw rt cI cQ P n Wi Ti (nI nt)))) s.heap.size = A at hD hZ ⊢
  have hA : ∀ q : Nat, s.heap.size ≤ q → A q := fun q h => by rw [← hAe]; exact Or.inr h
  have hS : va_S A s.heap s.heap [] := va_S.rf
  have hl := lv_entry ([.ref ad, .int (nI 0), .int t, .int e8]) (n := 5) (Nat.le_of_ble_eq_true rfl)
  rw [lg_entry_eq]
  generalize (lg_sl ([.ref ad, .int (nI 0), .int t, .int e8]) ++ List.replicate (5 - (lg_sl ([.ref ad, .int (nI 0), .int t, .int e8])).length) Slot.unset).toArray = ls at hl ⊢
  have hl : lv_has ls 5 [(0, .ref ad), (1, .int (nI 0)), (2, .int t), (3, .int e8)] := hl
  obtain ⟨H, hHe⟩ : ∃ H : Heap, H = s.heap := ⟨_, rfl⟩
  obtain ⟨locs, hLe⟩ : ∃ L : List Loc, L = [] := ⟨_, rfl⟩
  have hP : va_P D vwCl ((wDp ad o pa ka (fx 0) (sx 0)) ++ ((wOf o (x 0) (y 0)) ++ (wSt y rp rw rt cI cQ P n Wi Ti (nI nt)))) H := by rw [hHe]; exact hP
  have hS : va_S A s.heap H locs := by rw [hHe, hLe]; exact hS
  refine W.eqHL hHe hLe ?_
  refine lv_iload_n hx hb dL_of_0 rfl (lv_at hl 1 rfl) ?_
  refine lv_if_ne (tgt := 12) hx hb dL_of_1 (by decide) (fun c_1 => ?_) (fun c_1 => ?_)
  · exact absurd c_1 (by decide)
  · refine lv_aload_n hx hb dL_of_4 rfl (lv_at hl 0 rfl) ?_
    refine lv_iload_n hx hb dL_of_5 rfl (lv_at hl 2 rfl) ?_
    refine rx_i (wr := ([] : va_W)) (w_VX (As := [.int t]) ⟨hx, hb, hml, hown, hts⟩ (c_X7_need l D cI cZ cQ cJ ad o pa ka fx sx x y rp rw rt P n Wi Ti nt t H.size (by first | assumption | omega) (by first | assumption | omega)) (gV t3_156 t3_157 t3_158 t1_1 t3_159) rfl rfl hd_X7_need ⟨Nat.le_of_ble_eq_true rfl, Nat.le_of_ble_eq_true rfl⟩ (rx_pre hP hD hSt hDc hZ hS hA [0, 1, 2, 3, 4, 5, 6, 7, 8, 9, 10, 11, 12, 13, 14, 15, 16, 17, 18, 19, 20, 21, 22, 23, 24, 25, 26, 27] rfl (by decide)) (va_recv hSt.1 hP (ci := 7) (q0 := 0) rfl rfl) rfl hl.1 (rest := []) rfl (Nat.le_of_ble_eq_true rfl) dL_of_6 ⟨Nat.le_of_ble_eq_true rfl, Nat.le_of_ble_eq_true rfl⟩) hP hD hS hA [0, 1, 2, 3, 4, 5, 6, 7, 8, 9, 10, 11, 12, 13, 14, 15, 16, 17, 18, 19, 20, 21, 22, 23, 24, 25, 26, 27] [] rfl rfl (by decide) (by decide) (fun E9 ce9 q9 x9 H locs hx9 hP hD hS hc91 hc92 hc93 => ?_) (fun r_9 u_3 H locs hw9 hP hD hS => ?_)
    · have hx9 : E9 = "java/lang/IndexOutOfBoundsException" ∧ sOne nt n t 1 0 := hx9
      have hP : va_P D vwCl ((wDp ad o pa ka (fx 0) (sx 0)) ++ ((wOf o (x 0) (y 0)) ++ (wSt y rp rw rt cI cQ P n Wi Ti (nI nt)))) H := hP
      have hD : va_D A ((wDp ad o pa ka (fx 0) (sx 0)) ++ ((wOf o (x 0) (y 0)) ++ (wSt y rp rw rt cI cQ P n Wi Ti (nI nt)))) := hD
      obtain ⟨rfl, hsx⟩ := hx9
      refine vx_catch (own := RL) hown [] ⟨0, 71, 72, 14⟩ [] (by rw [htb]; rfl) (fun _ h9 => nomatch h9) (by decide) (by decide) (hts _ t2_47) (hSt.2.e 0 rfl) hc91 hc92 hc93 ?_
      refine lv_astore (lv' := [(4, .ref q9), (0, .ref ad), (1, .int (nI 0)), (2, .int t), (3, .int e8)]) hx hb dL_of_72 hl (by decide) rfl (fun ls hl => ?_)
      refine lv_bipush (v := (-70 : Int32)) hx hb dL_of_74 (by decide) ?_
      have hP9 : va_P D vwCl ((wDp ad o pa ka (fx 0) (sx 0)) ++ ((wOf o (x 0) (y 0)) ++ (wSt y rp rw rt cI cQ P n Wi Ti (nI nt)))) H := hP
      have hD9 : va_D A ((wDp ad o pa ka (fx 0) (sx 0)) ++ ((wOf o (x 0) (y 0)) ++ (wSt y rp rw rt cI cQ P n Wi Ti (nI nt)))) := hD
      have g_4 : sOne nt n t 1 (0 : Int32) := hsx
      refine W.widen (k := 1) (n := 6) (by omega) (by omega) ?_
      exact vx_ret (W.iret (v := (-70 : Int32)) hx hb hr (fun t9 ht9 hW9 => ⟨⟨(-70 : Int32), (1, (0 : Int32)), rfl, ⟨rfl, g_4⟩, by rw [ht9]; exact hP9, hD9⟩, hS.F ht9⟩) hS.2.2 dL_of_76)
    · obtain ⟨j_2, rfl⟩ : ∃ z9, z9 = u_3 := ⟨_, rfl⟩
      obtain ⟨er_9, f_5⟩ := hw9
      replace er_9 := er_9.symm
      subst er_9
      have hs9 : sOne nt n t 0 j_2 := f_5
      have hP : va_P D vwCl ((wDp ad o pa ka (fx 0) (sx 0)) ++ ((wOf o (x 0) (y 0)) ++ (wSt y rp rw rt cI cQ P n Wi Ti (nI nt)))) H := hP
      have hD : va_D A ((wDp ad o pa ka (fx 0) (sx 0)) ++ ((wOf o (x 0) (y 0)) ++ (wSt y rp rw rt cI cQ P n Wi Ti (nI nt)))) := hD
      refine lv_goto (tgt := 71) hx hb dL_of_9 (by decide) ?_
      have hP9 : va_P D vwCl ((wDp ad o pa ka (fx 0) (sx 0)) ++ ((wOf o (x 0) (y 0)) ++ (wSt y rp rw rt cI cQ P n Wi Ti (nI nt)))) H := hP
      have hD9 : va_D A ((wDp ad o pa ka (fx 0) (sx 0)) ++ ((wOf o (x 0) (y 0)) ++ (wSt y rp rw rt cI cQ P n Wi Ti (nI nt)))) := hD
      have g_6 : sOne nt n t 0 j_2 := hs9
      refine W.widen (k := 1) (n := 6) (by omega) (by omega) ?_
      exact vx_ret (W.iret (v := j_2) hx hb hr (fun t9 ht9 hW9 => ⟨⟨j_2, (0, j_2), rfl, ⟨rfl, g_6⟩, by rw [ht9]; exact hP9, hD9⟩, hS.F ht9⟩) hS.2.2 dL_of_71)
set_option maxHeartbeats 4000000 in
set_option maxRecDepth 100000 in
theorem c_L_of_1 (l : Launch) (D : va_G) (cI cZ cQ cJ : ClassId) (ad : Nat) (o : Nat) (pa : Nat) (ka : Nat) (fx : Nat → Nat) (sx : Nat → Nat) (x : Nat → Nat) (y : Nat → Nat) (rp : Nat → Nat) (rw : Nat → Nat) (rt : Nat → Nat) (P : Nat → Nat → Int32) (n : Nat → Int32) (Wi : Nat → Nat → Int32) (Ti : Nat → Nat → Int32) (nt : Nat) (pp : Nat → Nat → Nat) (t : Int32) (e8 : Int32) (sz : Nat) (hnt : nt ≤ 7) (hpp : ∀ t, t < nt → ∀ j, j < 5 → P t j = nI (pp t j) ∧ pp t j ≤ 60) (hnn : ∀ t, t < nt → n t = nI (ndN (pp t))) (hfl : l.stackTraces = false) : vx_Met l yL_of (.codeWith yL_of cL_of 5 (some .int) [(0, 71, 72, 14)] :: ALL) ({ frames := 8, cells := 1, slots := 6, locals := 124 } : Room) (va_Pc [.ref ad, .int (nI 1), .int t, .int e8] (rx_P D cI cZ cQ cJ ((wDp ad o pa ka (fx 0) (sx 0)) ++ ((wOf o (x 0) (y 0)) ++ (wSt y rp rw rt cI cQ P n Wi Ti (nI nt)))) sz)) (va_Qi (fun (r9 : Int32) (u9 : Nat × Int32) => (r9 = (an u9.1 u9.2)) ∧ (sOne nt (fun u9 => nI (shN (pp u9))) t u9.1 u9.2)) (rw_B D (va_A ((wDp ad o pa ka (fx 0) (sx 0)) ++ ((wOf o (x 0) (y 0)) ++ (wSt y rp rw rt cI cQ P n Wi Ti (nI nt)))) sz) (fun u9 : Nat × Int32 => (wDp ad o pa ka (fx 0) (sx 0)) ++ ((wOf o (x 0) (y 0)) ++ (wSt y rp rw rt cI cQ P n Wi Ti (nI nt))))) (va_A ((wDp ad o pa ka (fx 0) (sx 0)) ++ ((wOf o (x 0) (y 0)) ++ (wSt y rp rw rt cI cQ P n Wi Ti (nI nt)))) sz)) (rx_X (fun (E9 : String) (x9 : Unit) => False) D (va_A ((wDp ad o pa ka (fx 0) (sx 0)) ++ ((wOf o (x 0) (y 0)) ++ (wSt y rp rw rt cI cQ P n Wi Ti (nI nt)))) sz) (fun x9 : Unit => (wDp ad o pa ka (fx 0) (sx 0)) ++ ((wOf o (x 0) (y 0)) ++ (wSt y rp rw rt cI cQ P n Wi Ti (nI nt))))) 1 6 (va_A ((wDp ad o pa ka (fx 0) (sx 0)) ++ ((wOf o (x 0) (y 0)) ++ (wSt y rp rw rt cI cQ P n Wi Ti (nI nt)))) sz) := by
  refine vx_ofWH (cc := cL_of) (maxL := 5) (ret := (some .int)) (hh := [(0, 71, 72, 14)]) (by decide) rfl ?_
  intro p e s m args below meth c s₁ B hml hv
  obtain ⟨rfl, ⟨hsz, hP, hSt, hD0⟩, hDc, hZ⟩ := hv
  change W p l e ({ frames := 8, cells := 1, slots := 6, locals := 124 } : Room) s m _ below meth c s.heap [] 0 0 _ _
  have hx := B.exec
  have hb := B.bytes
  have hr := B.returns
  have hts : ∀ w ∈ ALL, w.before ([.ref ad, .int (nI 1), .int t, .int e8] : List Value).toArray s = true := fun w h => atoms_spec (ws := (.codeWith yL_of cL_of 5 (some .int) [(0, 71, 72, 14)] :: ALL)) B.pre w (List.mem_cons_of_mem _ h)
  have hown : s.vm.findClass RL = some m.cls := findClass_of_methodNamed B.named
  have hlocks := B.notSynchronized
  have htb : c.exceptionTable.toList = tableOf [(0, 71, 72, 14)] := vx_table (x := yL_of) B (atoms_spec (ws := (.codeWith yL_of cL_of 5 (some .int) [(0, 71, 72, 14)] :: ALL)) B.pre _ List.mem_cons_self)
  subst hsz
  have hD := hD0.self (sz := s.heap.size)
  clear hD0
  generalize hAe : va_A ((wDp ad o pa ka (fx 0) (sx 0)) ++ ((wOf o (x 0) (y 0)) ++ (wSt y rp rw rt cI cQ P n Wi Ti (nI nt)))) s.heap.size = A at hD hZ ⊢
  have hA : ∀ q : Nat, s.heap.size ≤ q → A q := fun q h => by rw [← hAe]; exact Or.inr h
  have hS : va_S A s.heap s.heap [] := va_S.rf
  have hl := lv_entry ([.ref ad, .int (nI 1), .int t, .int e8]) (n := 5) (Nat.le_of_ble_eq_true rfl)
  rw [lg_entry_eq]
  generalize (lg_sl ([.ref ad, .int (nI 1), .int t, .int e8]) ++ List.replicate (5 - (lg_sl ([.ref ad, .int (nI 1), .int t, .int e8])).length) Slot.unset).toArray = ls at hl ⊢
  have hl : lv_has ls 5 [(0, .ref ad), (1, .int (nI 1)), (2, .int t), (3, .int e8)] := hl
  obtain ⟨H, hHe⟩ : ∃ H : Heap, H = s.heap := ⟨_, rfl⟩
  obtain ⟨locs, hLe⟩ : ∃ L : List Loc, L = [] := ⟨_, rfl⟩
  have hP : va_P D vwCl ((wDp ad o pa ka (fx 0) (sx 0)) ++ ((wOf o (x 0) (y 0)) ++ (wSt y rp rw rt cI cQ P n Wi Ti (nI nt)))) H := by rw [hHe]; exact hP
  have hS : va_S A s.heap H locs := by rw [hHe, hLe]; exact hS
  refine W.eqHL hHe hLe ?_
  refine lv_iload_n hx hb dL_of_0 rfl (lv_at hl 1 rfl) ?_
  refine lv_if_ne (tgt := 12) hx hb dL_of_1 (by decide) (fun c_1 => ?_) (fun c_1 => ?_)
  · refine lv_iload_n hx hb dL_of_12 rfl (lv_at hl 1 rfl) ?_
    refine lv_iconst (v := nI 1) hx hb dL_of_13 (by decide) ?_
    refine lv_icmp_ne (tgt := 25) hx hb dL_of_14 (by decide) (fun c_2 => ?_) (fun c_2 => ?_)
    · exact absurd c_2 (by decide)
    · refine lv_aload_n hx hb dL_of_17 rfl (lv_at hl 0 rfl) ?_
      refine lv_iload_n hx hb dL_of_18 rfl (lv_at hl 2 rfl) ?_
      refine rx_i (wr := ([] : va_W)) (w_VX (As := [.int t]) ⟨hx, hb, hml, hown, hts⟩ (c_X7_share l D cI cZ cQ cJ ad o pa ka fx sx x y rp rw rt P n Wi Ti nt pp t H.size (by first | assumption | omega) (by first | assumption | omega) (by first | assumption | omega) (by first | assumption | omega)) (gV t3_160 t3_161 t3_162 t1_1 t3_163) rfl rfl hd_X7_share ⟨Nat.le_of_ble_eq_true rfl, Nat.le_of_ble_eq_true rfl⟩ (rx_pre hP hD hSt hDc hZ hS hA [0, 1, 2, 3, 4, 5, 6, 7, 8, 9, 10, 11, 12, 13, 14, 15, 16, 17, 18, 19, 20, 21, 22, 23, 24, 25, 26, 27] rfl (by decide)) (va_recv hSt.1 hP (ci := 7) (q0 := 0) rfl rfl) rfl hl.1 (rest := []) rfl (Nat.le_of_ble_eq_true rfl) dL_of_19 ⟨Nat.le_of_ble_eq_true rfl, Nat.le_of_ble_eq_true rfl⟩) hP hD hS hA [0, 1, 2, 3, 4, 5, 6, 7, 8, 9, 10, 11, 12, 13, 14, 15, 16, 17, 18, 19, 20, 21, 22, 23, 24, 25, 26, 27] [] rfl rfl (by decide) (by decide) (fun E9 ce9 q9 x9 H locs hx9 hP hD hS hc91 hc92 hc93 => ?_) (fun r_9 u_4 H locs hw9 hP hD hS => ?_)
      · have hx9 : E9 = "java/lang/IndexOutOfBoundsException" ∧ sOne nt (fun u9 => nI (shN (pp u9))) t 1 0 := hx9
        have hP : va_P D vwCl ((wDp ad o pa ka (fx 0) (sx 0)) ++ ((wOf o (x 0) (y 0)) ++ (wSt y rp rw rt cI cQ P n Wi Ti (nI nt)))) H := hP
        have hD : va_D A ((wDp ad o pa ka (fx 0) (sx 0)) ++ ((wOf o (x 0) (y 0)) ++ (wSt y rp rw rt cI cQ P n Wi Ti (nI nt)))) := hD
        obtain ⟨rfl, hsx⟩ := hx9
        refine vx_catch (own := RL) hown [] ⟨0, 71, 72, 14⟩ [] (by rw [htb]; rfl) (fun _ h9 => nomatch h9) (by decide) (by decide) (hts _ t2_47) (hSt.2.e 0 rfl) hc91 hc92 hc93 ?_
        refine lv_astore (lv' := [(4, .ref q9), (0, .ref ad), (1, .int (nI 1)), (2, .int t), (3, .int e8)]) hx hb dL_of_72 hl (by decide) rfl (fun ls hl => ?_)
        refine lv_bipush (v := (-70 : Int32)) hx hb dL_of_74 (by decide) ?_
        have hP9 : va_P D vwCl ((wDp ad o pa ka (fx 0) (sx 0)) ++ ((wOf o (x 0) (y 0)) ++ (wSt y rp rw rt cI cQ P n Wi Ti (nI nt)))) H := hP
        have hD9 : va_D A ((wDp ad o pa ka (fx 0) (sx 0)) ++ ((wOf o (x 0) (y 0)) ++ (wSt y rp rw rt cI cQ P n Wi Ti (nI nt)))) := hD
        have g_5 : sOne nt (fun u9 => nI (shN (pp u9))) t 1 (0 : Int32) := hsx
        refine W.widen (k := 1) (n := 6) (by omega) (by omega) ?_
        exact vx_ret (W.iret (v := (-70 : Int32)) hx hb hr (fun t9 ht9 hW9 => ⟨⟨(-70 : Int32), (1, (0 : Int32)), rfl, ⟨rfl, g_5⟩, by rw [ht9]; exact hP9, hD9⟩, hS.F ht9⟩) hS.2.2 dL_of_76)
      · obtain ⟨j_3, rfl⟩ : ∃ z9, z9 = u_4 := ⟨_, rfl⟩
        obtain ⟨er_9, f_6⟩ := hw9
        replace er_9 := er_9.symm
        subst er_9
        have hs9 : sOne nt (fun u9 => nI (shN (pp u9))) t 0 j_3 := f_6
        have hP : va_P D vwCl ((wDp ad o pa ka (fx 0) (sx 0)) ++ ((wOf o (x 0) (y 0)) ++ (wSt y rp rw rt cI cQ P n Wi Ti (nI nt)))) H := hP
        have hD : va_D A ((wDp ad o pa ka (fx 0) (sx 0)) ++ ((wOf o (x 0) (y 0)) ++ (wSt y rp rw rt cI cQ P n Wi Ti (nI nt)))) := hD
        refine lv_goto (tgt := 71) hx hb dL_of_22 (by decide) ?_
        have hP9 : va_P D vwCl ((wDp ad o pa ka (fx 0) (sx 0)) ++ ((wOf o (x 0) (y 0)) ++ (wSt y rp rw rt cI cQ P n Wi Ti (nI nt)))) H := hP
        have hD9 : va_D A ((wDp ad o pa ka (fx 0) (sx 0)) ++ ((wOf o (x 0) (y 0)) ++ (wSt y rp rw rt cI cQ P n Wi Ti (nI nt)))) := hD
        have g_7 : sOne nt (fun u9 => nI (shN (pp u9))) t 0 j_3 := hs9
        refine W.widen (k := 1) (n := 6) (by omega) (by omega) ?_
        exact vx_ret (W.iret (v := j_3) hx hb hr (fun t9 ht9 hW9 => ⟨⟨j_3, (0, j_3), rfl, ⟨rfl, g_7⟩, by rw [ht9]; exact hP9, hD9⟩, hS.F ht9⟩) hS.2.2 dL_of_71)
  · exact absurd c_1 (by decide)
set_option maxHeartbeats 4000000 in
set_option maxRecDepth 100000 in
theorem c_L_of_2 (l : Launch) (D : va_G) (cI cZ cQ cJ : ClassId) (ad : Nat) (o : Nat) (pa : Nat) (ka : Nat) (fx : Nat → Nat) (sx : Nat → Nat) (x : Nat → Nat) (y : Nat → Nat) (rp : Nat → Nat) (rw : Nat → Nat) (rt : Nat → Nat) (P : Nat → Nat → Int32) (n : Nat → Int32) (Wi : Nat → Nat → Int32) (Ti : Nat → Nat → Int32) (nt : Nat) (pb : Nat) (zo : Nat → Int32) (t : Int32) (e8 : Int32) (sz : Nat) (hnt : nt ≤ 7) (hfl : l.stackTraces = false) : vx_Met l yL_of (.codeWith yL_of cL_of 5 (some .int) [(0, 71, 72, 14)] :: ALL) ({ frames := 8, cells := 1, slots := 6, locals := 124 } : Room) (va_Pc [.ref ad, .int (nI 2), .int t, .int e8] (rx_P D cI cZ cQ cJ ((wDp ad o pa ka (fx 0) (sx 0)) ++ ((wOf o (x 0) (y 0)) ++ ((wSt y rp rw rt cI cQ P n Wi Ti (nI nt)) ++ (wPl pa pb cI zo)))) sz)) (va_Qi (fun (r9 : Int32) (u9 : Nat × Int32) => (r9 = (an u9.1 u9.2)) ∧ (sOne nt zo t u9.1 u9.2)) (rw_B D (va_A ((wDp ad o pa ka (fx 0) (sx 0)) ++ ((wOf o (x 0) (y 0)) ++ ((wSt y rp rw rt cI cQ P n Wi Ti (nI nt)) ++ (wPl pa pb cI zo)))) sz) (fun u9 : Nat × Int32 => (wDp ad o pa ka (fx 0) (sx 0)) ++ ((wOf o (x 0) (y 0)) ++ ((wSt y rp rw rt cI cQ P n Wi Ti (nI nt)) ++ (wPl pa pb cI zo))))) (va_A ((wDp ad o pa ka (fx 0) (sx 0)) ++ ((wOf o (x 0) (y 0)) ++ ((wSt y rp rw rt cI cQ P n Wi Ti (nI nt)) ++ (wPl pa pb cI zo)))) sz)) (rx_X (fun (E9 : String) (x9 : Unit) => False) D (va_A ((wDp ad o pa ka (fx 0) (sx 0)) ++ ((wOf o (x 0) (y 0)) ++ ((wSt y rp rw rt cI cQ P n Wi Ti (nI nt)) ++ (wPl pa pb cI zo)))) sz) (fun x9 : Unit => (wDp ad o pa ka (fx 0) (sx 0)) ++ ((wOf o (x 0) (y 0)) ++ ((wSt y rp rw rt cI cQ P n Wi Ti (nI nt)) ++ (wPl pa pb cI zo))))) 1 6 (va_A ((wDp ad o pa ka (fx 0) (sx 0)) ++ ((wOf o (x 0) (y 0)) ++ ((wSt y rp rw rt cI cQ P n Wi Ti (nI nt)) ++ (wPl pa pb cI zo)))) sz) := by
  refine vx_ofWH (cc := cL_of) (maxL := 5) (ret := (some .int)) (hh := [(0, 71, 72, 14)]) (by decide) rfl ?_
  intro p e s m args below meth c s₁ B hml hv
  obtain ⟨rfl, ⟨hsz, hP, hSt, hD0⟩, hDc, hZ⟩ := hv
  change W p l e ({ frames := 8, cells := 1, slots := 6, locals := 124 } : Room) s m _ below meth c s.heap [] 0 0 _ _
  have hx := B.exec
  have hb := B.bytes
  have hr := B.returns
  have hts : ∀ w ∈ ALL, w.before ([.ref ad, .int (nI 2), .int t, .int e8] : List Value).toArray s = true := fun w h => atoms_spec (ws := (.codeWith yL_of cL_of 5 (some .int) [(0, 71, 72, 14)] :: ALL)) B.pre w (List.mem_cons_of_mem _ h)
  have hown : s.vm.findClass RL = some m.cls := findClass_of_methodNamed B.named
  have hlocks := B.notSynchronized
  have htb : c.exceptionTable.toList = tableOf [(0, 71, 72, 14)] := vx_table (x := yL_of) B (atoms_spec (ws := (.codeWith yL_of cL_of 5 (some .int) [(0, 71, 72, 14)] :: ALL)) B.pre _ List.mem_cons_self)
  subst hsz
  have hD := hD0.self (sz := s.heap.size)
  clear hD0
  generalize hAe : va_A ((wDp ad o pa ka (fx 0) (sx 0)) ++ ((wOf o (x 0) (y 0)) ++ ((wSt y rp rw rt cI cQ P n Wi Ti (nI nt)) ++ (wPl pa pb cI zo)))) s.heap.size = A at hD hZ ⊢
  have hA : ∀ q : Nat, s.heap.size ≤ q → A q := fun q h => by rw [← hAe]; exact Or.inr h
  have hS : va_S A s.heap s.heap [] := va_S.rf
  have hl := lv_entry ([.ref ad, .int (nI 2), .int t, .int e8]) (n := 5) (Nat.le_of_ble_eq_true rfl)
  rw [lg_entry_eq]
  generalize (lg_sl ([.ref ad, .int (nI 2), .int t, .int e8]) ++ List.replicate (5 - (lg_sl ([.ref ad, .int (nI 2), .int t, .int e8])).length) Slot.unset).toArray = ls at hl ⊢
  have hl : lv_has ls 5 [(0, .ref ad), (1, .int (nI 2)), (2, .int t), (3, .int e8)] := hl
  obtain ⟨H, hHe⟩ : ∃ H : Heap, H = s.heap := ⟨_, rfl⟩
  obtain ⟨locs, hLe⟩ : ∃ L : List Loc, L = [] := ⟨_, rfl⟩
  have hP : va_P D vwCl ((wDp ad o pa ka (fx 0) (sx 0)) ++ ((wOf o (x 0) (y 0)) ++ ((wSt y rp rw rt cI cQ P n Wi Ti (nI nt)) ++ (wPl pa pb cI zo)))) H := by rw [hHe]; exact hP
  have hS : va_S A s.heap H locs := by rw [hHe, hLe]; exact hS
  refine W.eqHL hHe hLe ?_
  refine lv_iload_n hx hb dL_of_0 rfl (lv_at hl 1 rfl) ?_
  refine lv_if_ne (tgt := 12) hx hb dL_of_1 (by decide) (fun c_1 => ?_) (fun c_1 => ?_)
  · refine lv_iload_n hx hb dL_of_12 rfl (lv_at hl 1 rfl) ?_
    refine lv_iconst (v := nI 1) hx hb dL_of_13 (by decide) ?_
    refine lv_icmp_ne (tgt := 25) hx hb dL_of_14 (by decide) (fun c_2 => ?_) (fun c_2 => ?_)
    · refine lv_iload_n hx hb dL_of_25 rfl (lv_at hl 1 rfl) ?_
      refine lv_iconst (v := nI 2) hx hb dL_of_26 (by decide) ?_
      refine lv_icmp_ne (tgt := 38) hx hb dL_of_27 (by decide) (fun c_3 => ?_) (fun c_3 => ?_)
      · exact absurd c_3 (by decide)
      · refine lv_aload_n hx hb dL_of_30 rfl (lv_at hl 0 rfl) ?_
        refine lv_iload_n hx hb dL_of_31 rfl (lv_at hl 2 rfl) ?_
        refine rx_i (wr := ([] : va_W)) (w_VX (As := [.int t]) ⟨hx, hb, hml, hown, hts⟩ (c_X7_zoneOf l D cI cZ cQ cJ ad o pa ka fx sx x y rp rw rt P n Wi Ti nt pb zo t H.size (by first | assumption | omega) (by first | assumption | omega)) (gV t3_168 t3_169 t3_170 t1_1 t3_171) rfl rfl hd_X7_zoneOf ⟨Nat.le_of_ble_eq_true rfl, Nat.le_of_ble_eq_true rfl⟩ (rx_pre hP hD hSt hDc hZ hS hA [0, 1, 2, 3, 4, 5, 6, 7, 8, 9, 10, 11, 12, 13, 14, 15, 16, 17, 18, 19, 20, 21, 22, 23, 24, 25, 26, 27, 28, 29] rfl (by decide)) (va_recv hSt.1 hP (ci := 7) (q0 := 0) rfl rfl) rfl hl.1 (rest := []) rfl (Nat.le_of_ble_eq_true rfl) dL_of_32 ⟨Nat.le_of_ble_eq_true rfl, Nat.le_of_ble_eq_true rfl⟩) hP hD hS hA [0, 1, 2, 3, 4, 5, 6, 7, 8, 9, 10, 11, 12, 13, 14, 15, 16, 17, 18, 19, 20, 21, 22, 23, 24, 25, 26, 27, 28, 29] [] rfl rfl (by decide) (by decide) (fun E9 ce9 q9 x9 H locs hx9 hP hD hS hc91 hc92 hc93 => ?_) (fun r_9 u_5 H locs hw9 hP hD hS => ?_)
        · have hx9 : E9 = "java/lang/IndexOutOfBoundsException" ∧ sOne nt zo t 1 0 := hx9
          have hP : va_P D vwCl ((wDp ad o pa ka (fx 0) (sx 0)) ++ ((wOf o (x 0) (y 0)) ++ ((wSt y rp rw rt cI cQ P n Wi Ti (nI nt)) ++ (wPl pa pb cI zo)))) H := hP
          have hD : va_D A ((wDp ad o pa ka (fx 0) (sx 0)) ++ ((wOf o (x 0) (y 0)) ++ ((wSt y rp rw rt cI cQ P n Wi Ti (nI nt)) ++ (wPl pa pb cI zo)))) := hD
          obtain ⟨rfl, hsx⟩ := hx9
          refine vx_catch (own := RL) hown [] ⟨0, 71, 72, 14⟩ [] (by rw [htb]; rfl) (fun _ h9 => nomatch h9) (by decide) (by decide) (hts _ t2_47) (hSt.2.e 0 rfl) hc91 hc92 hc93 ?_
          refine lv_astore (lv' := [(4, .ref q9), (0, .ref ad), (1, .int (nI 2)), (2, .int t), (3, .int e8)]) hx hb dL_of_72 hl (by decide) rfl (fun ls hl => ?_)
          refine lv_bipush (v := (-70 : Int32)) hx hb dL_of_74 (by decide) ?_
          have hP9 : va_P D vwCl ((wDp ad o pa ka (fx 0) (sx 0)) ++ ((wOf o (x 0) (y 0)) ++ ((wSt y rp rw rt cI cQ P n Wi Ti (nI nt)) ++ (wPl pa pb cI zo)))) H := hP
          have hD9 : va_D A ((wDp ad o pa ka (fx 0) (sx 0)) ++ ((wOf o (x 0) (y 0)) ++ ((wSt y rp rw rt cI cQ P n Wi Ti (nI nt)) ++ (wPl pa pb cI zo)))) := hD
          have g_6 : sOne nt zo t 1 (0 : Int32) := hsx
          refine W.widen (k := 1) (n := 6) (by omega) (by omega) ?_
          exact vx_ret (W.iret (v := (-70 : Int32)) hx hb hr (fun t9 ht9 hW9 => ⟨⟨(-70 : Int32), (1, (0 : Int32)), rfl, ⟨rfl, g_6⟩, by rw [ht9]; exact hP9, hD9⟩, hS.F ht9⟩) hS.2.2 dL_of_76)
        · obtain ⟨j_4, rfl⟩ : ∃ z9, z9 = u_5 := ⟨_, rfl⟩
          obtain ⟨er_9, f_7⟩ := hw9
          replace er_9 := er_9.symm
          subst er_9
          have hs9 : sOne nt zo t 0 j_4 := f_7
          have hP : va_P D vwCl ((wDp ad o pa ka (fx 0) (sx 0)) ++ ((wOf o (x 0) (y 0)) ++ ((wSt y rp rw rt cI cQ P n Wi Ti (nI nt)) ++ (wPl pa pb cI zo)))) H := hP
          have hD : va_D A ((wDp ad o pa ka (fx 0) (sx 0)) ++ ((wOf o (x 0) (y 0)) ++ ((wSt y rp rw rt cI cQ P n Wi Ti (nI nt)) ++ (wPl pa pb cI zo)))) := hD
          refine lv_goto (tgt := 71) hx hb dL_of_35 (by decide) ?_
          have hP9 : va_P D vwCl ((wDp ad o pa ka (fx 0) (sx 0)) ++ ((wOf o (x 0) (y 0)) ++ ((wSt y rp rw rt cI cQ P n Wi Ti (nI nt)) ++ (wPl pa pb cI zo)))) H := hP
          have hD9 : va_D A ((wDp ad o pa ka (fx 0) (sx 0)) ++ ((wOf o (x 0) (y 0)) ++ ((wSt y rp rw rt cI cQ P n Wi Ti (nI nt)) ++ (wPl pa pb cI zo)))) := hD
          have g_8 : sOne nt zo t 0 j_4 := hs9
          refine W.widen (k := 1) (n := 6) (by omega) (by omega) ?_
          exact vx_ret (W.iret (v := j_4) hx hb hr (fun t9 ht9 hW9 => ⟨⟨j_4, (0, j_4), rfl, ⟨rfl, g_8⟩, by rw [ht9]; exact hP9, hD9⟩, hS.F ht9⟩) hS.2.2 dL_of_71)
    · exact absurd c_2 (by decide)
  · exact absurd c_1 (by decide)
set_option maxHeartbeats 4000000 in
set_option maxRecDepth 100000 in
theorem c_L_of_3 (l : Launch) (D : va_G) (cI cZ cQ cJ : ClassId) (ad : Nat) (o : Nat) (pa : Nat) (ka : Nat) (fx : Nat → Nat) (sx : Nat → Nat) (x : Nat → Nat) (r : Nat → Nat) (w : Nat → Int32) (q : Nat → Int32) (d : Nat → Int32) (T : Nat → Nat → Int32) (st : Nat → Int32) (re : Nat → Int32) (rc : Int32) (nz : Nat) (y : Nat → Nat) (pb : Nat) (zo : Nat → Int32) (z : Int32) (e8 : Int32) (sz : Nat) (hnz : nz ≤ 7) (hfl : l.stackTraces = false) : vx_Met l yL_of (.codeWith yL_of cL_of 5 (some .int) [(0, 71, 72, 14)] :: ALL) ({ frames := 8, cells := 1, slots := 6, locals := 124 } : Room) (va_Pc [.ref ad, .int (nI 3), .int z, .int e8] (rx_P D cI cZ cQ cJ ((wDp ad o pa ka (fx 0) (sx 0)) ++ ((wOf o (x 0) (y 0)) ++ ((wFl x r cI cZ cQ w q d T st re rc (nI nz)) ++ (wPl pa pb cI zo)))) sz)) (va_Qi (fun (r9 : Int32) (u9 : Nat × Int32) => (r9 = (an u9.1 u9.2)) ∧ (sOne nz (fun u9 => tAt zo (nI u9)) z u9.1 u9.2)) (rw_B D (va_A ((wDp ad o pa ka (fx 0) (sx 0)) ++ ((wOf o (x 0) (y 0)) ++ ((wFl x r cI cZ cQ w q d T st re rc (nI nz)) ++ (wPl pa pb cI zo)))) sz) (fun u9 : Nat × Int32 => (wDp ad o pa ka (fx 0) (sx 0)) ++ ((wOf o (x 0) (y 0)) ++ ((wFl x r cI cZ cQ w q d T st re rc (nI nz)) ++ (wPl pa pb cI zo))))) (va_A ((wDp ad o pa ka (fx 0) (sx 0)) ++ ((wOf o (x 0) (y 0)) ++ ((wFl x r cI cZ cQ w q d T st re rc (nI nz)) ++ (wPl pa pb cI zo)))) sz)) (rx_X (fun (E9 : String) (x9 : Unit) => False) D (va_A ((wDp ad o pa ka (fx 0) (sx 0)) ++ ((wOf o (x 0) (y 0)) ++ ((wFl x r cI cZ cQ w q d T st re rc (nI nz)) ++ (wPl pa pb cI zo)))) sz) (fun x9 : Unit => (wDp ad o pa ka (fx 0) (sx 0)) ++ ((wOf o (x 0) (y 0)) ++ ((wFl x r cI cZ cQ w q d T st re rc (nI nz)) ++ (wPl pa pb cI zo))))) 1 6 (va_A ((wDp ad o pa ka (fx 0) (sx 0)) ++ ((wOf o (x 0) (y 0)) ++ ((wFl x r cI cZ cQ w q d T st re rc (nI nz)) ++ (wPl pa pb cI zo)))) sz) := by
  refine vx_ofWH (cc := cL_of) (maxL := 5) (ret := (some .int)) (hh := [(0, 71, 72, 14)]) (by decide) rfl ?_
  intro p e s m args below meth c s₁ B hml hv
  obtain ⟨rfl, ⟨hsz, hP, hSt, hD0⟩, hDc, hZ⟩ := hv
  change W p l e ({ frames := 8, cells := 1, slots := 6, locals := 124 } : Room) s m _ below meth c s.heap [] 0 0 _ _
  have hx := B.exec
  have hb := B.bytes
  have hr := B.returns
  have hts : ∀ w ∈ ALL, w.before ([.ref ad, .int (nI 3), .int z, .int e8] : List Value).toArray s = true := fun w h => atoms_spec (ws := (.codeWith yL_of cL_of 5 (some .int) [(0, 71, 72, 14)] :: ALL)) B.pre w (List.mem_cons_of_mem _ h)
  have hown : s.vm.findClass RL = some m.cls := findClass_of_methodNamed B.named
  have hlocks := B.notSynchronized
  have htb : c.exceptionTable.toList = tableOf [(0, 71, 72, 14)] := vx_table (x := yL_of) B (atoms_spec (ws := (.codeWith yL_of cL_of 5 (some .int) [(0, 71, 72, 14)] :: ALL)) B.pre _ List.mem_cons_self)
  subst hsz
  have hD := hD0.self (sz := s.heap.size)
  clear hD0
  generalize hAe : va_A ((wDp ad o pa ka (fx 0) (sx 0)) ++ ((wOf o (x 0) (y 0)) ++ ((wFl x r cI cZ cQ w q d T st re rc (nI nz)) ++ (wPl pa pb cI zo)))) s.heap.size = A at hD hZ ⊢
  have hA : ∀ q : Nat, s.heap.size ≤ q → A q := fun q h => by rw [← hAe]; exact Or.inr h
  have hS : va_S A s.heap s.heap [] := va_S.rf
  have hl := lv_entry ([.ref ad, .int (nI 3), .int z, .int e8]) (n := 5) (Nat.le_of_ble_eq_true rfl)
  rw [lg_entry_eq]
  generalize (lg_sl ([.ref ad, .int (nI 3), .int z, .int e8]) ++ List.replicate (5 - (lg_sl ([.ref ad, .int (nI 3), .int z, .int e8])).length) Slot.unset).toArray = ls at hl ⊢
  have hl : lv_has ls 5 [(0, .ref ad), (1, .int (nI 3)), (2, .int z), (3, .int e8)] := hl
  obtain ⟨H, hHe⟩ : ∃ H : Heap, H = s.heap := ⟨_, rfl⟩
  obtain ⟨locs, hLe⟩ : ∃ L : List Loc, L = [] := ⟨_, rfl⟩
  have hP : va_P D vwCl ((wDp ad o pa ka (fx 0) (sx 0)) ++ ((wOf o (x 0) (y 0)) ++ ((wFl x r cI cZ cQ w q d T st re rc (nI nz)) ++ (wPl pa pb cI zo)))) H := by rw [hHe]; exact hP
  have hS : va_S A s.heap H locs := by rw [hHe, hLe]; exact hS
  refine W.eqHL hHe hLe ?_
  refine lv_iload_n hx hb dL_of_0 rfl (lv_at hl 1 rfl) ?_
  refine lv_if_ne (tgt := 12) hx hb dL_of_1 (by decide) (fun c_1 => ?_) (fun c_1 => ?_)
  · refine lv_iload_n hx hb dL_of_12 rfl (lv_at hl 1 rfl) ?_
    refine lv_iconst (v := nI 1) hx hb dL_of_13 (by decide) ?_
    refine lv_icmp_ne (tgt := 25) hx hb dL_of_14 (by decide) (fun c_2 => ?_) (fun c_2 => ?_)
    · refine lv_iload_n hx hb dL_of_25 rfl (lv_at hl 1 rfl) ?_
      refine lv_iconst (v := nI 2) hx hb dL_of_26 (by decide) ?_
      refine lv_icmp_ne (tgt := 38) hx hb dL_of_27 (by decide) (fun c_3 => ?_) (fun c_3 => ?_)
      · refine lv_iload_n hx hb dL_of_38 rfl (lv_at hl 1 rfl) ?_
        refine lv_iconst (v := nI 3) hx hb dL_of_39 (by decide) ?_
        refine lv_icmp_ne (tgt := 51) hx hb dL_of_40 (by decide) (fun c_4 => ?_) (fun c_4 => ?_)
        · exact absurd c_4 (by decide)
        · refine lv_aload_n hx hb dL_of_43 rfl (lv_at hl 0 rfl) ?_
          refine lv_iload_n hx hb dL_of_44 rfl (lv_at hl 2 rfl) ?_
          refine rx_i (wr := ([] : va_W)) (w_VX (As := [.int z]) ⟨hx, hb, hml, hown, hts⟩ (c_X7_teamIn l D cI cZ cQ cJ ad o pa ka fx sx x r w q d T st re rc nz y pb zo z H.size (by first | assumption | omega) (by first | assumption | omega)) (gV t3_172 t3_173 t3_174 t1_1 t3_175) rfl rfl hd_X7_teamIn ⟨Nat.le_of_ble_eq_true rfl, Nat.le_of_ble_eq_true rfl⟩ (rx_pre hP hD hSt hDc hZ hS hA [0, 1, 2, 3, 4, 5, 6, 7, 8, 9, 10, 11, 12, 13, 14, 15, 16, 17] rfl (by decide)) (va_recv hSt.1 hP (ci := 7) (q0 := 0) rfl rfl) rfl hl.1 (rest := []) rfl (Nat.le_of_ble_eq_true rfl) dL_of_45 ⟨Nat.le_of_ble_eq_true rfl, Nat.le_of_ble_eq_true rfl⟩) hP hD hS hA [0, 1, 2, 3, 4, 5, 6, 7, 8, 9, 10, 11, 12, 13, 14, 15, 16, 17] [] rfl rfl (by decide) (by decide) (fun E9 ce9 q9 x9 H locs hx9 hP hD hS hc91 hc92 hc93 => ?_) (fun r_9 u_6 H locs hw9 hP hD hS => ?_)
          · have hx9 : E9 = "java/lang/IndexOutOfBoundsException" ∧ sOne nz (fun u9 => tAt zo (nI u9)) z 1 0 := hx9
            have hP : va_P D vwCl ((wDp ad o pa ka (fx 0) (sx 0)) ++ ((wOf o (x 0) (y 0)) ++ ((wFl x r cI cZ cQ w q d T st re rc (nI nz)) ++ (wPl pa pb cI zo)))) H := hP
            have hD : va_D A ((wDp ad o pa ka (fx 0) (sx 0)) ++ ((wOf o (x 0) (y 0)) ++ ((wFl x r cI cZ cQ w q d T st re rc (nI nz)) ++ (wPl pa pb cI zo)))) := hD
            obtain ⟨rfl, hsx⟩ := hx9
            refine vx_catch (own := RL) hown [] ⟨0, 71, 72, 14⟩ [] (by rw [htb]; rfl) (fun _ h9 => nomatch h9) (by decide) (by decide) (hts _ t2_47) (hSt.2.e 0 rfl) hc91 hc92 hc93 ?_
            refine lv_astore (lv' := [(4, .ref q9), (0, .ref ad), (1, .int (nI 3)), (2, .int z), (3, .int e8)]) hx hb dL_of_72 hl (by decide) rfl (fun ls hl => ?_)
            refine lv_bipush (v := (-70 : Int32)) hx hb dL_of_74 (by decide) ?_
            have hP9 : va_P D vwCl ((wDp ad o pa ka (fx 0) (sx 0)) ++ ((wOf o (x 0) (y 0)) ++ ((wFl x r cI cZ cQ w q d T st re rc (nI nz)) ++ (wPl pa pb cI zo)))) H := hP
            have hD9 : va_D A ((wDp ad o pa ka (fx 0) (sx 0)) ++ ((wOf o (x 0) (y 0)) ++ ((wFl x r cI cZ cQ w q d T st re rc (nI nz)) ++ (wPl pa pb cI zo)))) := hD
            have g_7 : sOne nz (fun u9 => tAt zo (nI u9)) z 1 (0 : Int32) := hsx
            refine W.widen (k := 1) (n := 6) (by omega) (by omega) ?_
            exact vx_ret (W.iret (v := (-70 : Int32)) hx hb hr (fun t9 ht9 hW9 => ⟨⟨(-70 : Int32), (1, (0 : Int32)), rfl, ⟨rfl, g_7⟩, by rw [ht9]; exact hP9, hD9⟩, hS.F ht9⟩) hS.2.2 dL_of_76)
          · obtain ⟨j_5, rfl⟩ : ∃ z9, z9 = u_6 := ⟨_, rfl⟩
            obtain ⟨er_9, f_8⟩ := hw9
            replace er_9 := er_9.symm
            subst er_9
            have hs9 : sOne nz (fun u9 => tAt zo (nI u9)) z 0 j_5 := f_8
            have hP : va_P D vwCl ((wDp ad o pa ka (fx 0) (sx 0)) ++ ((wOf o (x 0) (y 0)) ++ ((wFl x r cI cZ cQ w q d T st re rc (nI nz)) ++ (wPl pa pb cI zo)))) H := hP
            have hD : va_D A ((wDp ad o pa ka (fx 0) (sx 0)) ++ ((wOf o (x 0) (y 0)) ++ ((wFl x r cI cZ cQ w q d T st re rc (nI nz)) ++ (wPl pa pb cI zo)))) := hD
            refine lv_goto (tgt := 71) hx hb dL_of_48 (by decide) ?_
            have hP9 : va_P D vwCl ((wDp ad o pa ka (fx 0) (sx 0)) ++ ((wOf o (x 0) (y 0)) ++ ((wFl x r cI cZ cQ w q d T st re rc (nI nz)) ++ (wPl pa pb cI zo)))) H := hP
            have hD9 : va_D A ((wDp ad o pa ka (fx 0) (sx 0)) ++ ((wOf o (x 0) (y 0)) ++ ((wFl x r cI cZ cQ w q d T st re rc (nI nz)) ++ (wPl pa pb cI zo)))) := hD
            have g_9 : sOne nz (fun u9 => tAt zo (nI u9)) z 0 j_5 := hs9
            refine W.widen (k := 1) (n := 6) (by omega) (by omega) ?_
            exact vx_ret (W.iret (v := j_5) hx hb hr (fun t9 ht9 hW9 => ⟨⟨j_5, (0, j_5), rfl, ⟨rfl, g_9⟩, by rw [ht9]; exact hP9, hD9⟩, hS.F ht9⟩) hS.2.2 dL_of_71)
      · exact absurd c_3 (by decide)
    · exact absurd c_2 (by decide)
  · exact absurd c_1 (by decide)
set_option maxHeartbeats 4000000 in
set_option maxRecDepth 100000 in
theorem c_L_of_4 (l : Launch) (D : va_G) (cI cZ cQ cJ : ClassId) (ad : Nat) (o : Nat) (pa : Nat) (ka : Nat) (fx : Nat → Nat) (sx : Nat → Nat) (x : Nat → Nat) (r : Nat → Nat) (w : Nat → Int32) (q : Nat → Int32) (d : Nat → Int32) (T : Nat → Nat → Int32) (st : Nat → Int32) (re : Nat → Int32) (rc : Int32) (nz : Nat) (y : Nat → Nat) (rp : Nat → Nat) (rw : Nat → Nat) (rt : Nat → Nat) (P : Nat → Nat → Int32) (n : Nat → Int32) (Wi : Nat → Nat → Int32) (Ti : Nat → Nat → Int32) (nt : Nat) (pb : Nat) (zo : Nat → Int32) (z : Int32) (j9 : Int32) (sz : Nat) (hnz : nz ≤ 7) (hfl : l.stackTraces = false) : vx_Met l yL_of (.codeWith yL_of cL_of 5 (some .int) [(0, 71, 72, 14)] :: ALL) ({ frames := 8, cells := 2, slots := 12, locals := 127 } : Room) (va_Pc [.ref ad, .int (nI 4), .int z, .int j9] (rx_P D cI cZ cQ cJ ((wDp ad o pa ka (fx 0) (sx 0)) ++ ((wOf o (x 0) (y 0)) ++ ((wFl x r cI cZ cQ w q d T st re rc (nI nz)) ++ ((wSt y rp rw rt cI cQ P n Wi Ti (nI nt)) ++ (wPl pa pb cI zo))))) sz)) (va_Qi (fun (r9 : Int32) (u9 : Nat × Int32) => (r9 = (an u9.1 u9.2)) ∧ (sFree nz d zo P z j9 u9.1 u9.2)) (rw_B D (va_A ((wDp ad o pa ka (fx 0) (sx 0)) ++ ((wOf o (x 0) (y 0)) ++ ((wFl x r cI cZ cQ w q d T st re rc (nI nz)) ++ ((wSt y rp rw rt cI cQ P n Wi Ti (nI nt)) ++ (wPl pa pb cI zo))))) sz) (fun u9 : Nat × Int32 => (wDp ad o pa ka (fx 0) (sx 0)) ++ ((wOf o (x 0) (y 0)) ++ ((wFl x r cI cZ cQ w q d T st re rc (nI nz)) ++ ((wSt y rp rw rt cI cQ P n Wi Ti (nI nt)) ++ (wPl pa pb cI zo)))))) (va_A ((wDp ad o pa ka (fx 0) (sx 0)) ++ ((wOf o (x 0) (y 0)) ++ ((wFl x r cI cZ cQ w q d T st re rc (nI nz)) ++ ((wSt y rp rw rt cI cQ P n Wi Ti (nI nt)) ++ (wPl pa pb cI zo))))) sz)) (rx_X (fun (E9 : String) (x9 : Unit) => False) D (va_A ((wDp ad o pa ka (fx 0) (sx 0)) ++ ((wOf o (x 0) (y 0)) ++ ((wFl x r cI cZ cQ w q d T st re rc (nI nz)) ++ ((wSt y rp rw rt cI cQ P n Wi Ti (nI nt)) ++ (wPl pa pb cI zo))))) sz) (fun x9 : Unit => (wDp ad o pa ka (fx 0) (sx 0)) ++ ((wOf o (x 0) (y 0)) ++ ((wFl x r cI cZ cQ w q d T st re rc (nI nz)) ++ ((wSt y rp rw rt cI cQ P n Wi Ti (nI nt)) ++ (wPl pa pb cI zo)))))) 2 12 (va_A ((wDp ad o pa ka (fx 0) (sx 0)) ++ ((wOf o (x 0) (y 0)) ++ ((wFl x r cI cZ cQ w q d T st re rc (nI nz)) ++ ((wSt y rp rw rt cI cQ P n Wi Ti (nI nt)) ++ (wPl pa pb cI zo))))) sz) := by
  refine vx_ofWH (cc := cL_of) (maxL := 5) (ret := (some .int)) (hh := [(0, 71, 72, 14)]) (by decide) rfl ?_
  intro p e s m args below meth c s₁ B hml hv
  obtain ⟨rfl, ⟨hsz, hP, hSt, hD0⟩, hDc, hZ⟩ := hv
  change W p l e ({ frames := 8, cells := 2, slots := 12, locals := 127 } : Room) s m _ below meth c s.heap [] 0 0 _ _
  have hx := B.exec
  have hb := B.bytes
  have hr := B.returns
  have hts : ∀ w ∈ ALL, w.before ([.ref ad, .int (nI 4), .int z, .int j9] : List Value).toArray s = true := fun w h => atoms_spec (ws := (.codeWith yL_of cL_of 5 (some .int) [(0, 71, 72, 14)] :: ALL)) B.pre w (List.mem_cons_of_mem _ h)
  have hown : s.vm.findClass RL = some m.cls := findClass_of_methodNamed B.named
  have hlocks := B.notSynchronized
  have htb : c.exceptionTable.toList = tableOf [(0, 71, 72, 14)] := vx_table (x := yL_of) B (atoms_spec (ws := (.codeWith yL_of cL_of 5 (some .int) [(0, 71, 72, 14)] :: ALL)) B.pre _ List.mem_cons_self)
  subst hsz
  have hD := hD0.self (sz := s.heap.size)
  clear hD0
  generalize hAe : va_A ((wDp ad o pa ka (fx 0) (sx 0)) ++ ((wOf o (x 0) (y 0)) ++ ((wFl x r cI cZ cQ w q d T st re rc (nI nz)) ++ ((wSt y rp rw rt cI cQ P n Wi Ti (nI nt)) ++ (wPl pa pb cI zo))))) s.heap.size = A at hD hZ ⊢
  have hA : ∀ q : Nat, s.heap.size ≤ q → A q := fun q h => by rw [← hAe]; exact Or.inr h
  have hS : va_S A s.heap s.heap [] := va_S.rf
  have hl := lv_entry ([.ref ad, .int (nI 4), .int z, .int j9]) (n := 5) (Nat.le_of_ble_eq_true rfl)
  rw [lg_entry_eq]
  generalize (lg_sl ([.ref ad, .int (nI 4), .int z, .int j9]) ++ List.replicate (5 - (lg_sl ([.ref ad, .int (nI 4), .int z, .int j9])).length) Slot.unset).toArray = ls at hl ⊢
  have hl : lv_has ls 5 [(0, .ref ad), (1, .int (nI 4)), (2, .int z), (3, .int j9)] := hl
  obtain ⟨H, hHe⟩ : ∃ H : Heap, H = s.heap := ⟨_, rfl⟩
  obtain ⟨locs, hLe⟩ : ∃ L : List Loc, L = [] := ⟨_, rfl⟩
  have hP : va_P D vwCl ((wDp ad o pa ka (fx 0) (sx 0)) ++ ((wOf o (x 0) (y 0)) ++ ((wFl x r cI cZ cQ w q d T st re rc (nI nz)) ++ ((wSt y rp rw rt cI cQ P n Wi Ti (nI nt)) ++ (wPl pa pb cI zo))))) H := by rw [hHe]; exact hP
  have hS : va_S A s.heap H locs := by rw [hHe, hLe]; exact hS
  refine W.eqHL hHe hLe ?_
  refine lv_iload_n hx hb dL_of_0 rfl (lv_at hl 1 rfl) ?_
  refine lv_if_ne (tgt := 12) hx hb dL_of_1 (by decide) (fun c_1 => ?_) (fun c_1 => ?_)
  · refine lv_iload_n hx hb dL_of_12 rfl (lv_at hl 1 rfl) ?_
    refine lv_iconst (v := nI 1) hx hb dL_of_13 (by decide) ?_
    refine lv_icmp_ne (tgt := 25) hx hb dL_of_14 (by decide) (fun c_2 => ?_) (fun c_2 => ?_)
    · refine lv_iload_n hx hb dL_of_25 rfl (lv_at hl 1 rfl) ?_
      refine lv_iconst (v := nI 2) hx hb dL_of_26 (by decide) ?_
      refine lv_icmp_ne (tgt := 38) hx hb dL_of_27 (by decide) (fun c_3 => ?_) (fun c_3 => ?_)
      · refine lv_iload_n hx hb dL_of_38 rfl (lv_at hl 1 rfl) ?_
        refine lv_iconst (v := nI 3) hx hb dL_of_39 (by decide) ?_
        refine lv_icmp_ne (tgt := 51) hx hb dL_of_40 (by decide) (fun c_4 => ?_) (fun c_4 => ?_)
        · refine lv_iload_n hx hb dL_of_51 rfl (lv_at hl 1 rfl) ?_
          refine lv_iconst (v := nI 4) hx hb dL_of_52 (by decide) ?_
          refine lv_icmp_ne (tgt := 65) hx hb dL_of_53 (by decide) (fun c_5 => ?_) (fun c_5 => ?_)
          · exact absurd c_5 (by decide)
          · refine lv_aload_n hx hb dL_of_56 rfl (lv_at hl 0 rfl) ?_
            refine lv_iload_n hx hb dL_of_57 rfl (lv_at hl 2 rfl) ?_
            refine lv_iload_n hx hb dL_of_58 rfl (lv_at hl 3 rfl) ?_
            refine rx_i (wr := ([] : va_W)) (w_VX (As := [.int z, .int j9]) ⟨hx, hb, hml, hown, hts⟩ (c_X7_free l D cI cZ cQ cJ ad o pa ka fx sx x r w q d T st re rc nz y rp rw rt P n Wi Ti nt pb zo z j9 H.size (by first | assumption | omega) (by first | assumption | omega)) (gV t3_176 t3_177 t3_178 t1_1 t3_179) rfl rfl hd_X7_free ⟨Nat.le_of_ble_eq_true rfl, Nat.le_of_ble_eq_true rfl⟩ (rx_pre hP hD hSt hDc hZ hS hA [0, 1, 2, 3, 4, 5, 6, 7, 8, 9, 10, 11, 12, 13, 14, 15, 16, 17, 18, 19, 20, 21, 22, 23, 24, 25, 26, 27, 28, 29, 30, 31, 32, 33, 34, 35, 36, 37, 38, 39, 40, 41, 42, 43] rfl (by decide)) (va_recv hSt.1 hP (ci := 7) (q0 := 0) rfl rfl) rfl hl.1 (rest := []) rfl (Nat.le_of_ble_eq_true rfl) dL_of_59 ⟨Nat.le_of_ble_eq_true rfl, Nat.le_of_ble_eq_true rfl⟩) hP hD hS hA [0, 1, 2, 3, 4, 5, 6, 7, 8, 9, 10, 11, 12, 13, 14, 15, 16, 17, 18, 19, 20, 21, 22, 23, 24, 25, 26, 27, 28, 29, 30, 31, 32, 33, 34, 35, 36, 37, 38, 39, 40, 41, 42, 43] [] rfl rfl (by decide) (by decide) (fun E9 ce9 q9 x9 H locs hx9 hP hD hS hc91 hc92 hc93 => ?_) (fun r_9 u_7 H locs hw9 hP hD hS => ?_)
            · have hx9 : E9 = "java/lang/IndexOutOfBoundsException" ∧ sFree nz d zo P z j9 1 0 := hx9
              have hP : va_P D vwCl ((wDp ad o pa ka (fx 0) (sx 0)) ++ ((wOf o (x 0) (y 0)) ++ ((wFl x r cI cZ cQ w q d T st re rc (nI nz)) ++ ((wSt y rp rw rt cI cQ P n Wi Ti (nI nt)) ++ (wPl pa pb cI zo))))) H := hP
              have hD : va_D A ((wDp ad o pa ka (fx 0) (sx 0)) ++ ((wOf o (x 0) (y 0)) ++ ((wFl x r cI cZ cQ w q d T st re rc (nI nz)) ++ ((wSt y rp rw rt cI cQ P n Wi Ti (nI nt)) ++ (wPl pa pb cI zo))))) := hD
              obtain ⟨rfl, hsx⟩ := hx9
              refine vx_catch (own := RL) hown [] ⟨0, 71, 72, 14⟩ [] (by rw [htb]; rfl) (fun _ h9 => nomatch h9) (by decide) (by decide) (hts _ t2_47) (hSt.2.e 0 rfl) hc91 hc92 hc93 ?_
              refine lv_astore (lv' := [(4, .ref q9), (0, .ref ad), (1, .int (nI 4)), (2, .int z), (3, .int j9)]) hx hb dL_of_72 hl (by decide) rfl (fun ls hl => ?_)
              refine lv_bipush (v := (-70 : Int32)) hx hb dL_of_74 (by decide) ?_
              have hP9 : va_P D vwCl ((wDp ad o pa ka (fx 0) (sx 0)) ++ ((wOf o (x 0) (y 0)) ++ ((wFl x r cI cZ cQ w q d T st re rc (nI nz)) ++ ((wSt y rp rw rt cI cQ P n Wi Ti (nI nt)) ++ (wPl pa pb cI zo))))) H := hP
              have hD9 : va_D A ((wDp ad o pa ka (fx 0) (sx 0)) ++ ((wOf o (x 0) (y 0)) ++ ((wFl x r cI cZ cQ w q d T st re rc (nI nz)) ++ ((wSt y rp rw rt cI cQ P n Wi Ti (nI nt)) ++ (wPl pa pb cI zo))))) := hD
              have g_8 : sFree nz d zo P z j9 1 (0 : Int32) := hsx
              refine W.widen (k := 2) (n := 12) (by omega) (by omega) ?_
              exact vx_ret (W.iret (v := (-70 : Int32)) hx hb hr (fun t9 ht9 hW9 => ⟨⟨(-70 : Int32), (1, (0 : Int32)), rfl, ⟨rfl, g_8⟩, by rw [ht9]; exact hP9, hD9⟩, hS.F ht9⟩) hS.2.2 dL_of_76)
            · obtain ⟨j_6, rfl⟩ : ∃ z9, z9 = u_7 := ⟨_, rfl⟩
              obtain ⟨er_9, f_9⟩ := hw9
              replace er_9 := er_9.symm
              subst er_9
              have hs9 : sFree nz d zo P z j9 0 j_6 := f_9
              have hP : va_P D vwCl ((wDp ad o pa ka (fx 0) (sx 0)) ++ ((wOf o (x 0) (y 0)) ++ ((wFl x r cI cZ cQ w q d T st re rc (nI nz)) ++ ((wSt y rp rw rt cI cQ P n Wi Ti (nI nt)) ++ (wPl pa pb cI zo))))) H := hP
              have hD : va_D A ((wDp ad o pa ka (fx 0) (sx 0)) ++ ((wOf o (x 0) (y 0)) ++ ((wFl x r cI cZ cQ w q d T st re rc (nI nz)) ++ ((wSt y rp rw rt cI cQ P n Wi Ti (nI nt)) ++ (wPl pa pb cI zo))))) := hD
              refine lv_goto (tgt := 71) hx hb dL_of_62 (by decide) ?_
              have hP9 : va_P D vwCl ((wDp ad o pa ka (fx 0) (sx 0)) ++ ((wOf o (x 0) (y 0)) ++ ((wFl x r cI cZ cQ w q d T st re rc (nI nz)) ++ ((wSt y rp rw rt cI cQ P n Wi Ti (nI nt)) ++ (wPl pa pb cI zo))))) H := hP
              have hD9 : va_D A ((wDp ad o pa ka (fx 0) (sx 0)) ++ ((wOf o (x 0) (y 0)) ++ ((wFl x r cI cZ cQ w q d T st re rc (nI nz)) ++ ((wSt y rp rw rt cI cQ P n Wi Ti (nI nt)) ++ (wPl pa pb cI zo))))) := hD
              have g_10 : sFree nz d zo P z j9 0 j_6 := hs9
              refine W.widen (k := 2) (n := 12) (by omega) (by omega) ?_
              exact vx_ret (W.iret (v := j_6) hx hb hr (fun t9 ht9 hW9 => ⟨⟨j_6, (0, j_6), rfl, ⟨rfl, g_10⟩, by rw [ht9]; exact hP9, hD9⟩, hS.F ht9⟩) hS.2.2 dL_of_71)
        · exact absurd c_4 (by decide)
      · exact absurd c_3 (by decide)
    · exact absurd c_2 (by decide)
  · exact absurd c_1 (by decide)
set_option maxHeartbeats 4000000 in
set_option maxRecDepth 100000 in
theorem c_L_of_5 (l : Launch) (D : va_G) (cI cZ cQ cJ : ClassId) (ad : Nat) (o : Nat) (pa : Nat) (ka : Nat) (fx : Nat → Nat) (sx : Nat → Nat) (x : Nat → Nat) (r : Nat → Nat) (w : Nat → Int32) (q : Nat → Int32) (d : Nat → Int32) (T : Nat → Nat → Int32) (st : Nat → Int32) (re : Nat → Int32) (rc : Int32) (nz : Nat) (y : Nat → Nat) (a8 : Int32) (b8 : Int32) (sz : Nat) (hnz : nz ≤ 7) (hfl : l.stackTraces = false) : vx_Met l yL_of (.codeWith yL_of cL_of 5 (some .int) [(0, 71, 72, 14)] :: ALL) ({ frames := 8, cells := 2, slots := 12, locals := 125 } : Room) (va_Pc [.ref ad, .int (nI 5), .int a8, .int b8] (rx_P D cI cZ cQ cJ ((wDp ad o pa ka (fx 0) (sx 0)) ++ ((wOf o (x 0) (y 0)) ++ (wFl x r cI cZ cQ w q d T st re rc (nI nz)))) sz)) (va_Qi (fun (r9 : Int32) (u9 : Nat × Int32) => (r9 = (an u9.1 u9.2)) ∧ (sDist nz T a8 b8 u9.1 u9.2)) (rw_B D (va_A ((wDp ad o pa ka (fx 0) (sx 0)) ++ ((wOf o (x 0) (y 0)) ++ (wFl x r cI cZ cQ w q d T st re rc (nI nz)))) sz) (fun u9 : Nat × Int32 => (wDp ad o pa ka (fx 0) (sx 0)) ++ ((wOf o (x 0) (y 0)) ++ (wFl x r cI cZ cQ w q d T st re rc (nI nz))))) (va_A ((wDp ad o pa ka (fx 0) (sx 0)) ++ ((wOf o (x 0) (y 0)) ++ (wFl x r cI cZ cQ w q d T st re rc (nI nz)))) sz)) (rx_X (fun (E9 : String) (x9 : Unit) => False) D (va_A ((wDp ad o pa ka (fx 0) (sx 0)) ++ ((wOf o (x 0) (y 0)) ++ (wFl x r cI cZ cQ w q d T st re rc (nI nz)))) sz) (fun x9 : Unit => (wDp ad o pa ka (fx 0) (sx 0)) ++ ((wOf o (x 0) (y 0)) ++ (wFl x r cI cZ cQ w q d T st re rc (nI nz))))) 2 12 (va_A ((wDp ad o pa ka (fx 0) (sx 0)) ++ ((wOf o (x 0) (y 0)) ++ (wFl x r cI cZ cQ w q d T st re rc (nI nz)))) sz) := by
  refine vx_ofWH (cc := cL_of) (maxL := 5) (ret := (some .int)) (hh := [(0, 71, 72, 14)]) (by decide) rfl ?_
  intro p e s m args below meth c s₁ B hml hv
  obtain ⟨rfl, ⟨hsz, hP, hSt, hD0⟩, hDc, hZ⟩ := hv
  change W p l e ({ frames := 8, cells := 2, slots := 12, locals := 125 } : Room) s m _ below meth c s.heap [] 0 0 _ _
  have hx := B.exec
  have hb := B.bytes
  have hr := B.returns
  have hts : ∀ w ∈ ALL, w.before ([.ref ad, .int (nI 5), .int a8, .int b8] : List Value).toArray s = true := fun w h => atoms_spec (ws := (.codeWith yL_of cL_of 5 (some .int) [(0, 71, 72, 14)] :: ALL)) B.pre w (List.mem_cons_of_mem _ h)
  have hown : s.vm.findClass RL = some m.cls := findClass_of_methodNamed B.named
  have hlocks := B.notSynchronized
  have htb : c.exceptionTable.toList = tableOf [(0, 71, 72, 14)] := vx_table (x := yL_of) B (atoms_spec (ws := (.codeWith yL_of cL_of 5 (some .int) [(0, 71, 72, 14)] :: ALL)) B.pre _ List.mem_cons_self)
  subst hsz
  have hD := hD0.self (sz := s.heap.size)
  clear hD0
  generalize hAe : va_A ((wDp ad o pa ka (fx 0) (sx 0)) ++ ((wOf o (x 0) (y 0)) ++ (wFl x r cI cZ cQ w q d T st re rc (nI nz)))) s.heap.size = A at hD hZ ⊢
  have hA : ∀ q : Nat, s.heap.size ≤ q → A q := fun q h => by rw [← hAe]; exact Or.inr h
  have hS : va_S A s.heap s.heap [] := va_S.rf
  have hl := lv_entry ([.ref ad, .int (nI 5), .int a8, .int b8]) (n := 5) (Nat.le_of_ble_eq_true rfl)
  rw [lg_entry_eq]
  generalize (lg_sl ([.ref ad, .int (nI 5), .int a8, .int b8]) ++ List.replicate (5 - (lg_sl ([.ref ad, .int (nI 5), .int a8, .int b8])).length) Slot.unset).toArray = ls at hl ⊢
  have hl : lv_has ls 5 [(0, .ref ad), (1, .int (nI 5)), (2, .int a8), (3, .int b8)] := hl
  obtain ⟨H, hHe⟩ : ∃ H : Heap, H = s.heap := ⟨_, rfl⟩
  obtain ⟨locs, hLe⟩ : ∃ L : List Loc, L = [] := ⟨_, rfl⟩
  have hP : va_P D vwCl ((wDp ad o pa ka (fx 0) (sx 0)) ++ ((wOf o (x 0) (y 0)) ++ (wFl x r cI cZ cQ w q d T st re rc (nI nz)))) H := by rw [hHe]; exact hP
  have hS : va_S A s.heap H locs := by rw [hHe, hLe]; exact hS
  refine W.eqHL hHe hLe ?_
  refine lv_iload_n hx hb dL_of_0 rfl (lv_at hl 1 rfl) ?_
  refine lv_if_ne (tgt := 12) hx hb dL_of_1 (by decide) (fun c_1 => ?_) (fun c_1 => ?_)
  · refine lv_iload_n hx hb dL_of_12 rfl (lv_at hl 1 rfl) ?_
    refine lv_iconst (v := nI 1) hx hb dL_of_13 (by decide) ?_
    refine lv_icmp_ne (tgt := 25) hx hb dL_of_14 (by decide) (fun c_2 => ?_) (fun c_2 => ?_)
    · refine lv_iload_n hx hb dL_of_25 rfl (lv_at hl 1 rfl) ?_
      refine lv_iconst (v := nI 2) hx hb dL_of_26 (by decide) ?_
      refine lv_icmp_ne (tgt := 38) hx hb dL_of_27 (by decide) (fun c_3 => ?_) (fun c_3 => ?_)
      · refine lv_iload_n hx hb dL_of_38 rfl (lv_at hl 1 rfl) ?_
        refine lv_iconst (v := nI 3) hx hb dL_of_39 (by decide) ?_
        refine lv_icmp_ne (tgt := 51) hx hb dL_of_40 (by decide) (fun c_4 => ?_) (fun c_4 => ?_)
        · refine lv_iload_n hx hb dL_of_51 rfl (lv_at hl 1 rfl) ?_
          refine lv_iconst (v := nI 4) hx hb dL_of_52 (by decide) ?_
          refine lv_icmp_ne (tgt := 65) hx hb dL_of_53 (by decide) (fun c_5 => ?_) (fun c_5 => ?_)
          · refine lv_aload_n hx hb dL_of_65 rfl (lv_at hl 0 rfl) ?_
            refine lv_iload_n hx hb dL_of_66 rfl (lv_at hl 2 rfl) ?_
            refine lv_iload_n hx hb dL_of_67 rfl (lv_at hl 3 rfl) ?_
            refine rx_i (wr := ([] : va_W)) (w_VX (As := [.int a8, .int b8]) ⟨hx, hb, hml, hown, hts⟩ (c_X7_distance l D cI cZ cQ cJ ad o pa ka fx sx x r w q d T st re rc nz y a8 b8 H.size (by first | assumption | omega) (by first | assumption | omega)) (gV t3_180 t3_181 t3_182 t1_1 t3_183) rfl rfl hd_X7_distance ⟨Nat.le_of_ble_eq_true rfl, Nat.le_of_ble_eq_true rfl⟩ (rx_pre hP hD hSt hDc hZ hS hA [0, 1, 2, 3, 4, 5, 6, 7, 8, 9, 10, 11, 12, 13, 14, 15] rfl (by decide)) (va_recv hSt.1 hP (ci := 7) (q0 := 0) rfl rfl) rfl hl.1 (rest := []) rfl (Nat.le_of_ble_eq_true rfl) dL_of_68 ⟨Nat.le_of_ble_eq_true rfl, Nat.le_of_ble_eq_true rfl⟩) hP hD hS hA [0, 1, 2, 3, 4, 5, 6, 7, 8, 9, 10, 11, 12, 13, 14, 15] [] rfl rfl (by decide) (by decide) (fun E9 ce9 q9 x9 H locs hx9 hP hD hS hc91 hc92 hc93 => ?_) (fun r_9 u_7 H locs hw9 hP hD hS => ?_)
            · have hx9 : E9 = "java/lang/IndexOutOfBoundsException" ∧ sDist nz T a8 b8 1 0 := hx9
              have hP : va_P D vwCl ((wDp ad o pa ka (fx 0) (sx 0)) ++ ((wOf o (x 0) (y 0)) ++ (wFl x r cI cZ cQ w q d T st re rc (nI nz)))) H := hP
              have hD : va_D A ((wDp ad o pa ka (fx 0) (sx 0)) ++ ((wOf o (x 0) (y 0)) ++ (wFl x r cI cZ cQ w q d T st re rc (nI nz)))) := hD
              obtain ⟨rfl, hsx⟩ := hx9
              refine vx_catch (own := RL) hown [] ⟨0, 71, 72, 14⟩ [] (by rw [htb]; rfl) (fun _ h9 => nomatch h9) (by decide) (by decide) (hts _ t2_47) (hSt.2.e 0 rfl) hc91 hc92 hc93 ?_
              refine lv_astore (lv' := [(4, .ref q9), (0, .ref ad), (1, .int (nI 5)), (2, .int a8), (3, .int b8)]) hx hb dL_of_72 hl (by decide) rfl (fun ls hl => ?_)
              refine lv_bipush (v := (-70 : Int32)) hx hb dL_of_74 (by decide) ?_
              have hP9 : va_P D vwCl ((wDp ad o pa ka (fx 0) (sx 0)) ++ ((wOf o (x 0) (y 0)) ++ (wFl x r cI cZ cQ w q d T st re rc (nI nz)))) H := hP
              have hD9 : va_D A ((wDp ad o pa ka (fx 0) (sx 0)) ++ ((wOf o (x 0) (y 0)) ++ (wFl x r cI cZ cQ w q d T st re rc (nI nz)))) := hD
              have g_8 : sDist nz T a8 b8 1 (0 : Int32) := hsx
              refine W.widen (k := 2) (n := 12) (by omega) (by omega) ?_
              exact vx_ret (W.iret (v := (-70 : Int32)) hx hb hr (fun t9 ht9 hW9 => ⟨⟨(-70 : Int32), (1, (0 : Int32)), rfl, ⟨rfl, g_8⟩, by rw [ht9]; exact hP9, hD9⟩, hS.F ht9⟩) hS.2.2 dL_of_76)
            · obtain ⟨j_6, rfl⟩ : ∃ z9, z9 = u_7 := ⟨_, rfl⟩
              obtain ⟨er_9, f_9⟩ := hw9
              replace er_9 := er_9.symm
              subst er_9
              have hs9 : sDist nz T a8 b8 0 j_6 := f_9
              have hP : va_P D vwCl ((wDp ad o pa ka (fx 0) (sx 0)) ++ ((wOf o (x 0) (y 0)) ++ (wFl x r cI cZ cQ w q d T st re rc (nI nz)))) H := hP
              have hD : va_D A ((wDp ad o pa ka (fx 0) (sx 0)) ++ ((wOf o (x 0) (y 0)) ++ (wFl x r cI cZ cQ w q d T st re rc (nI nz)))) := hD
              have hP9 : va_P D vwCl ((wDp ad o pa ka (fx 0) (sx 0)) ++ ((wOf o (x 0) (y 0)) ++ (wFl x r cI cZ cQ w q d T st re rc (nI nz)))) H := hP
              have hD9 : va_D A ((wDp ad o pa ka (fx 0) (sx 0)) ++ ((wOf o (x 0) (y 0)) ++ (wFl x r cI cZ cQ w q d T st re rc (nI nz)))) := hD
              have g_10 : sDist nz T a8 b8 0 j_6 := hs9
              refine W.widen (k := 2) (n := 12) (by omega) (by omega) ?_
              exact vx_ret (W.iret (v := j_6) hx hb hr (fun t9 ht9 hW9 => ⟨⟨j_6, (0, j_6), rfl, ⟨rfl, g_10⟩, by rw [ht9]; exact hP9, hD9⟩, hS.F ht9⟩) hS.2.2 dL_of_71)
          · exact absurd c_5 (by decide)
        · exact absurd c_4 (by decide)
      · exact absurd c_3 (by decide)
    · exact absurd c_2 (by decide)
  · exact absurd c_1 (by decide)
theorem hd_L_wall : yL_wall.cls ≠ "java/lang/invoke/MethodHandle" ∧ yL_wall.cls ≠ "java/lang/invoke/VarHandle" ∧ (parseMethodDescriptor yL_wall.desc).map (fun d => d.parameters.length) = some 4 := by decide +kernel
theorem hd_L_zone : yL_zone.cls ≠ "java/lang/invoke/MethodHandle" ∧ yL_zone.cls ≠ "java/lang/invoke/VarHandle" ∧ (parseMethodDescriptor yL_zone.desc).map (fun d => d.parameters.length) = some 4 := by decide +kernel
theorem hd_L_set : yL_set.cls ≠ "java/lang/invoke/MethodHandle" ∧ yL_set.cls ≠ "java/lang/invoke/VarHandle" ∧ (parseMethodDescriptor yL_set.desc).map (fun d => d.parameters.length) = some 5 := by decide +kernel
theorem hd_L_does : yL_does.cls ≠ "java/lang/invoke/MethodHandle" ∧ yL_does.cls ≠ "java/lang/invoke/VarHandle" ∧ (parseMethodDescriptor yL_does.desc).map (fun d => d.parameters.length) = some 2 := by decide +kernel
theorem hd_L_search : yL_search.cls ≠ "java/lang/invoke/MethodHandle" ∧ yL_search.cls ≠ "java/lang/invoke/VarHandle" ∧ (parseMethodDescriptor yL_search.desc).map (fun d => d.parameters.length) = some 3 := by decide +kernel
theorem hd_L_of : yL_of.cls ≠ "java/lang/invoke/MethodHandle" ∧ yL_of.cls ≠ "java/lang/invoke/VarHandle" ∧ (parseMethodDescriptor yL_of.desc).map (fun d => d.parameters.length) = some 4 := by decide +kernel
