set_option maxHeartbeats 4000000 in
set_option maxRecDepth 100000 in
theorem c_L_setWall (l : Launch) (D : va_G) (cI cZ cQ cJ : ClassId) (ad : Nat) (o : Nat) (pa : Nat) (ka : Nat) (fx : Nat → Nat) (sx : Nat → Nat) (x : Nat → Nat) (r : Nat → Nat) (w : Nat → Int32) (q : Nat → Int32) (d : Nat → Int32) (T : Nat → Nat → Int32) (st : Nat → Int32) (re : Nat → Int32) (rc : Int32) (nz : Nat) (y : Nat → Nat) (sq : Nat → Nat) (co : Int32) (ro : Int32) (b : Int32) (ou : Nat) (fo9 : Nat → Int64) (sz : Nat) (hnz : nz ≤ 7) (hq : ∀ o, o < nz → q o = nI (sq o) ∧ sq o < 64 ∧ w (sq o) = 0) (hw : ∀ k, k < 64 → w k = 0 ∨ w k = 1) (hb1 : b = 0 ∨ b = 1) (hT : ∀ u v, u < nz → v < nz → isD w (sq u) (sq v) (T u v)) (hfl : l.stackTraces = false) : vx_Met l yL_setWall (.codeWith yL_setWall cL_setWall 6 (some .int) [(0, 19, 22, 13), (0, 19, 26, 15)] :: ALL) ({ frames := 8, cells := 2, slots := 12, locals := 139 } : Room) (va_Pc [.ref ad, .int co, .int ro, .int b, .ref ou] (rx_P D cI cZ cQ cJ (((wDp ad o pa ka (fx 0) (sx 0)) ++ ((wOf o (x 0) (y 0)) ++ (wFl x r cI cZ cQ w q d T st re rc (nI nz)))) ++ (wOu ou cJ fo9)) sz)) (va_Qi (fun (r9 : Int32) (u9 : Nat × Int32 × (Nat → Int32) × (Nat → Nat → Int32) × (Nat → Int32) × (Nat → Int32) × Int32 × (Nat → Int64)) => (r9 = (nI u9.1)) ∧ (sSetWall nz q w co ro b u9.1 u9.2.1 u9.2.2.1) ∧ (∀ u v, u < nz → v < nz → isD u9.2.2.1 (sq u) (sq v) (u9.2.2.2.1 u v)) ∧ (u9.1 = 0 → u9.2.2.2.2.2.2.2 0 = (if u9.2.1 = 0 then 0 else 1))) (rw_B D (va_A (((wDp ad o pa ka (fx 0) (sx 0)) ++ ((wOf o (x 0) (y 0)) ++ (wFl x r cI cZ cQ w q d T st re rc (nI nz)))) ++ (wOu ou cJ fo9)) sz) (fun u9 : Nat × Int32 × (Nat → Int32) × (Nat → Nat → Int32) × (Nat → Int32) × (Nat → Int32) × Int32 × (Nat → Int64) => ((wDp ad o pa ka (fx 0) (sx 0)) ++ ((wOf o (x 0) (y 0)) ++ (wFl x r cI cZ cQ u9.2.2.1 q d u9.2.2.2.1 u9.2.2.2.2.1 u9.2.2.2.2.2.1 u9.2.2.2.2.2.2.1 (nI nz)))) ++ (wOu ou cJ u9.2.2.2.2.2.2.2))) (va_A (((wDp ad o pa ka (fx 0) (sx 0)) ++ ((wOf o (x 0) (y 0)) ++ (wFl x r cI cZ cQ w q d T st re rc (nI nz)))) ++ (wOu ou cJ fo9)) sz)) (rx_X (fun (E9 : String) (x9 : Unit) => False) D (va_A (((wDp ad o pa ka (fx 0) (sx 0)) ++ ((wOf o (x 0) (y 0)) ++ (wFl x r cI cZ cQ w q d T st re rc (nI nz)))) ++ (wOu ou cJ fo9)) sz) (fun x9 : Unit => ((wDp ad o pa ka (fx 0) (sx 0)) ++ ((wOf o (x 0) (y 0)) ++ (wFl x r cI cZ cQ w q d T st re rc (nI nz)))) ++ (wOu ou cJ fo9))) 2 12 (va_A (((wDp ad o pa ka (fx 0) (sx 0)) ++ ((wOf o (x 0) (y 0)) ++ (wFl x r cI cZ cQ w q d T st re rc (nI nz)))) ++ (wOu ou cJ fo9)) sz) := by
  refine vx_ofWH (cc := cL_setWall) (maxL := 6) (ret := (some .int)) (hh := [(0, 19, 22, 13), (0, 19, 26, 15)]) (by decide) rfl ?_
  intro p e s m args below meth c s₁ B hml hv
  obtain ⟨rfl, ⟨hsz, hP, hSt, hD0⟩, hDc, hZ⟩ := hv
  change W p l e ({ frames := 8, cells := 2, slots := 12, locals := 139 } : Room) s m _ below meth c s.heap [] 0 0 _ _
  have hx := B.exec
  have hb := B.bytes
  have hr := B.returns
  have hts : ∀ w ∈ ALL, w.before ([.ref ad, .int co, .int ro, .int b, .ref ou] : List Value).toArray s = true := fun w h => atoms_spec (ws := (.codeWith yL_setWall cL_setWall 6 (some .int) [(0, 19, 22, 13), (0, 19, 26, 15)] :: ALL)) B.pre w (List.mem_cons_of_mem _ h)
  have hown : s.vm.findClass RL = some m.cls := findClass_of_methodNamed B.named
  have hlocks := B.notSynchronized
  have htb : c.exceptionTable.toList = tableOf [(0, 19, 22, 13), (0, 19, 26, 15)] := vx_table (x := yL_setWall) B (atoms_spec (ws := (.codeWith yL_setWall cL_setWall 6 (some .int) [(0, 19, 22, 13), (0, 19, 26, 15)] :: ALL)) B.pre _ List.mem_cons_self)
  subst hsz
  have hD := hD0.self (sz := s.heap.size)
  clear hD0
  generalize hAe : va_A (((wDp ad o pa ka (fx 0) (sx 0)) ++ ((wOf o (x 0) (y 0)) ++ (wFl x r cI cZ cQ w q d T st re rc (nI nz)))) ++ (wOu ou cJ fo9)) s.heap.size = A at hD hZ ⊢
  have hA : ∀ q : Nat, s.heap.size ≤ q → A q := fun q h => by rw [← hAe]; exact Or.inr h
  have hS : va_S A s.heap s.heap [] := va_S.rf
  have hl := lv_entry ([.ref ad, .int co, .int ro, .int b, .ref ou]) (n := 6) (Nat.le_of_ble_eq_true rfl)
  rw [lg_entry_eq]
  generalize (lg_sl ([.ref ad, .int co, .int ro, .int b, .ref ou]) ++ List.replicate (6 - (lg_sl ([.ref ad, .int co, .int ro, .int b, .ref ou])).length) Slot.unset).toArray = ls at hl ⊢
  have hl : lv_has ls 6 [(0, .ref ad), (1, .int co), (2, .int ro), (3, .int b), (4, .ref ou)] := hl
  obtain ⟨H, hHe⟩ : ∃ H : Heap, H = s.heap := ⟨_, rfl⟩
  obtain ⟨locs, hLe⟩ : ∃ L : List Loc, L = [] := ⟨_, rfl⟩
  have hP : va_P D vwCl (((wDp ad o pa ka (fx 0) (sx 0)) ++ ((wOf o (x 0) (y 0)) ++ (wFl x r cI cZ cQ w q d T st re rc (nI nz)))) ++ (wOu ou cJ fo9)) H := by rw [hHe]; exact hP
  have hS : va_S A s.heap H locs := by rw [hHe, hLe]; exact hS
  refine W.eqHL hHe hLe ?_
  refine lv_aload hx hb dL_setWall_0 (lv_at hl 4 rfl) ?_
  refine lv_iconst (v := nI 0) hx hb dL_setWall_2 (by decide) ?_
  refine lv_aload_n hx hb dL_setWall_3 rfl (lv_at hl 0 rfl) ?_
  refine lv_iload_n hx hb dL_setWall_4 rfl (lv_at hl 1 rfl) ?_
  refine lv_iload_n hx hb dL_setWall_5 rfl (lv_at hl 2 rfl) ?_
  refine lv_iload_n hx hb dL_setWall_6 rfl (lv_at hl 3 rfl) ?_
  refine rx_i (wr := wOu ou cJ fo9) (w_VX (As := [.int co, .int ro, .int b]) ⟨hx, hb, hml, hown, hts⟩ (c_X7_setWall l D cI cZ cQ cJ ad o pa ka fx sx x r w q d T st re rc nz y sq co ro b H.size (by first | assumption | omega) (by first | assumption | omega) (by first | assumption | omega) (by first | assumption | omega) (by first | assumption | omega) (by first | assumption | omega)) (gV t2_90 t2_91 t2_92 t1_1 t2_93) rfl rfl hd_X7_setWall ⟨Nat.le_of_ble_eq_true rfl, Nat.le_of_ble_eq_true rfl⟩ (rx_pre hP hD hSt hDc hZ hS hA [0, 1, 2, 3, 4, 5, 6, 7, 8, 9, 10, 11, 12, 13, 14, 15] rfl (by decide)) (va_recv hSt.1 hP (ci := 7) (q0 := 0) rfl rfl) rfl hl.1 (rest := [.int (nI 0), .ref ou]) rfl (Nat.le_of_ble_eq_true rfl) dL_setWall_7 ⟨Nat.le_of_ble_eq_true rfl, Nat.le_of_ble_eq_true rfl⟩) hP hD hS hA [0, 1, 2, 3, 4, 5, 6, 7, 8, 9, 10, 11, 12, 13, 14, 15] [16] rfl rfl (by decide) (by decide) (fun E9 ce9 q9 x9 H locs hx9 hP hD hS hc91 hc92 hc93 => ?_) (fun r_9 u_7 H locs hw9 hP hD hS => ?_)
  · have hx9 : (E9 = "java/lang/IndexOutOfBoundsException" ∧ sSetWall nz q w co ro b 1 0 w) ∨ (E9 = "java/lang/IllegalStateException" ∧ sSetWall nz q w co ro b 2 0 w) := hx9
    have hP : va_P D vwCl ((wOu ou cJ fo9) ++ ((wDp ad o pa ka (fx 0) (sx 0)) ++ ((wOf o (x 0) (y 0)) ++ (wFl x r cI cZ cQ w q d T st re rc (nI nz))))) H := hP
    have hD : va_D A ((wOu ou cJ fo9) ++ ((wDp ad o pa ka (fx 0) (sx 0)) ++ ((wOf o (x 0) (y 0)) ++ (wFl x r cI cZ cQ w q d T st re rc (nI nz))))) := hD
    rcases hx9 with ⟨rfl, hsx⟩ | ⟨rfl, hsx⟩
    · refine vx_catch (own := RL) hown [] ⟨0, 19, 22, 13⟩ [⟨0, 19, 26, 15⟩] (by rw [htb]; rfl) (fun _ h9 => nomatch h9) (by decide) (by decide) (hts _ t2_88) (hSt.2.e 0 rfl) hc91 hc92 hc93 ?_
      refine lv_astore (lv' := [(5, .ref q9), (0, .ref ad), (1, .int co), (2, .int ro), (3, .int b), (4, .ref ou)]) hx hb dL_setWall_22 hl (by decide) rfl (fun ls hl => ?_)
      refine lv_iconst (v := nI 1) hx hb dL_setWall_24 (by decide) ?_
      have hP9 : va_P D vwCl (((wDp ad o pa ka (fx 0) (sx 0)) ++ ((wOf o (x 0) (y 0)) ++ (wFl x r cI cZ cQ w q d T st re rc (nI nz)))) ++ (wOu ou cJ fo9)) H := (hP.sub (ws' := ((wDp ad o pa ka (fx 0) (sx 0)) ++ ((wOf o (x 0) (y 0)) ++ (wFl x r cI cZ cQ w q d T st re rc (nI nz)))) ++ (wOu ou cJ fo9)) [1, 2, 3, 4, 5, 6, 7, 8, 9, 10, 11, 12, 13, 14, 15, 16, 0] rfl)
      have hD9 : va_D A (((wDp ad o pa ka (fx 0) (sx 0)) ++ ((wOf o (x 0) (y 0)) ++ (wFl x r cI cZ cQ w q d T st re rc (nI nz)))) ++ (wOu ou cJ fo9)) := (hD.sub (ws' := ((wDp ad o pa ka (fx 0) (sx 0)) ++ ((wOf o (x 0) (y 0)) ++ (wFl x r cI cZ cQ w q d T st re rc (nI nz)))) ++ (wOu ou cJ fo9)) [1, 2, 3, 4, 5, 6, 7, 8, 9, 10, 11, 12, 13, 14, 15, 16, 0] (by decide) rfl)
      have g_8 : sSetWall nz q w co ro b 1 (0 : Int32) w := hsx
      have g_9 : ∀ u v, u < nz → v < nz → isD w (sq u) (sq v) (T u v) := hT
      have g_10 : 1 = 0 → fo9 0 = (if (0 : Int32) = 0 then 0 else 1) := fun h9 => absurd h9 (by decide)
      refine W.widen (k := 2) (n := 12) (by omega) (by omega) ?_
      exact vx_ret (W.iret (v := nI 1) hx hb hr (fun t9 ht9 hW9 => ⟨⟨nI 1, (1, (0 : Int32), w, T, st, re, rc, fo9), rfl, ⟨rfl, g_8, g_9, g_10⟩, by rw [ht9]; exact hP9, hD9⟩, hS.F ht9⟩) hS.2.2 dL_setWall_25)
    · refine vx_catch (own := RL) hown [⟨0, 19, 22, 13⟩] ⟨0, 19, 26, 15⟩ [] (by rw [htb]; rfl) (List.forall_mem_cons.mpr ⟨Or.inr ⟨by decide, _, hts _ t2_88, hSt.2.p 0 rfl⟩, fun _ h9 => nomatch h9⟩) (by decide) (by decide) (hts _ t2_89) (hSt.2.e 2 rfl) hc91 hc92 hc93 ?_
      refine lv_astore (lv' := [(5, .ref q9), (0, .ref ad), (1, .int co), (2, .int ro), (3, .int b), (4, .ref ou)]) hx hb dL_setWall_26 hl (by decide) rfl (fun ls hl => ?_)
      refine lv_iconst (v := nI 2) hx hb dL_setWall_28 (by decide) ?_
      have hP9 : va_P D vwCl (((wDp ad o pa ka (fx 0) (sx 0)) ++ ((wOf o (x 0) (y 0)) ++ (wFl x r cI cZ cQ w q d T st re rc (nI nz)))) ++ (wOu ou cJ fo9)) H := (hP.sub (ws' := ((wDp ad o pa ka (fx 0) (sx 0)) ++ ((wOf o (x 0) (y 0)) ++ (wFl x r cI cZ cQ w q d T st re rc (nI nz)))) ++ (wOu ou cJ fo9)) [1, 2, 3, 4, 5, 6, 7, 8, 9, 10, 11, 12, 13, 14, 15, 16, 0] rfl)
      have hD9 : va_D A (((wDp ad o pa ka (fx 0) (sx 0)) ++ ((wOf o (x 0) (y 0)) ++ (wFl x r cI cZ cQ w q d T st re rc (nI nz)))) ++ (wOu ou cJ fo9)) := (hD.sub (ws' := ((wDp ad o pa ka (fx 0) (sx 0)) ++ ((wOf o (x 0) (y 0)) ++ (wFl x r cI cZ cQ w q d T st re rc (nI nz)))) ++ (wOu ou cJ fo9)) [1, 2, 3, 4, 5, 6, 7, 8, 9, 10, 11, 12, 13, 14, 15, 16, 0] (by decide) rfl)
      have g_11 : sSetWall nz q w co ro b 2 (0 : Int32) w := hsx
      have g_12 : ∀ u v, u < nz → v < nz → isD w (sq u) (sq v) (T u v) := hT
      have g_13 : 2 = 0 → fo9 0 = (if (0 : Int32) = 0 then 0 else 1) := fun h9 => absurd h9 (by decide)
      refine W.widen (k := 2) (n := 12) (by omega) (by omega) ?_
      exact vx_ret (W.iret (v := nI 2) hx hb hr (fun t9 ht9 hW9 => ⟨⟨nI 2, (2, (0 : Int32), w, T, st, re, rc, fo9), rfl, ⟨rfl, g_11, g_12, g_13⟩, by rw [ht9]; exact hP9, hD9⟩, hS.F ht9⟩) hS.2.2 dL_setWall_29)
  · obtain ⟨j_1, j_2, j_3, j_4, j_5, j_6⟩ := u_7
    obtain ⟨er_9, f_14, f_15⟩ := hw9
    replace er_9 := er_9.symm
    subst er_9
    have hs9 : sSetWall nz q w co ro b 0 j_1 j_2 := f_14
    have hT29 : ∀ u v, u < nz → v < nz → isD j_2 (sq u) (sq v) (j_3 u v) := f_15
    have hP : va_P D vwCl ((wOu ou cJ fo9) ++ ((wDp ad o pa ka (fx 0) (sx 0)) ++ ((wOf o (x 0) (y 0)) ++ (wFl x r cI cZ cQ j_2 q d j_3 j_4 j_5 j_6 (nI nz))))) H := hP
    have hD : va_D A ((wOu ou cJ fo9) ++ ((wDp ad o pa ka (fx 0) (sx 0)) ++ ((wOf o (x 0) (y 0)) ++ (wFl x r cI cZ cQ j_2 q d j_3 j_4 j_5 j_6 (nI nz))))) := hD
    refine lv_if_eq (tgt := 17) hx hb dL_setWall_10 (by decide) (fun c_16 => ?_) (fun c_16 => ?_)
    · refine lv_lconst (v := (0 : Int64)) hx hb dL_setWall_17 rfl ?_
      refine r_last hx hb hSt.1 hP hD hS 0 3 rfl rfl (k := 0) (by omega) (by omega) dL_setWall_18 (fun H locs hP hD hS => ?_)
      have hP : va_P D vwCl ((wOu ou cJ (vp_updL fo9 0 (0 : Int64))) ++ ((wDp ad o pa ka (fx 0) (sx 0)) ++ ((wOf o (x 0) (y 0)) ++ (wFl x r cI cZ cQ j_2 q d j_3 j_4 j_5 j_6 (nI nz))))) H := hP
      have hD : va_D A ((wOu ou cJ (vp_updL fo9 0 (0 : Int64))) ++ ((wDp ad o pa ka (fx 0) (sx 0)) ++ ((wOf o (x 0) (y 0)) ++ (wFl x r cI cZ cQ j_2 q d j_3 j_4 j_5 j_6 (nI nz))))) := hD
      refine lv_goto (tgt := 30) hx hb dL_setWall_19 (by decide) ?_
      refine lv_iconst (v := nI 0) hx hb dL_setWall_30 (by decide) ?_
      have hP9 : va_P D vwCl (((wDp ad o pa ka (fx 0) (sx 0)) ++ ((wOf o (x 0) (y 0)) ++ (wFl x r cI cZ cQ j_2 q d j_3 j_4 j_5 j_6 (nI nz)))) ++ (wOu ou cJ (vp_updL fo9 0 (0 : Int64)))) H := (hP.sub (ws' := ((wDp ad o pa ka (fx 0) (sx 0)) ++ ((wOf o (x 0) (y 0)) ++ (wFl x r cI cZ cQ j_2 q d j_3 j_4 j_5 j_6 (nI nz)))) ++ (wOu ou cJ (vp_updL fo9 0 (0 : Int64)))) [1, 2, 3, 4, 5, 6, 7, 8, 9, 10, 11, 12, 13, 14, 15, 16, 0] rfl)
      have hD9 : va_D A (((wDp ad o pa ka (fx 0) (sx 0)) ++ ((wOf o (x 0) (y 0)) ++ (wFl x r cI cZ cQ j_2 q d j_3 j_4 j_5 j_6 (nI nz)))) ++ (wOu ou cJ (vp_updL fo9 0 (0 : Int64)))) := (hD.sub (ws' := ((wDp ad o pa ka (fx 0) (sx 0)) ++ ((wOf o (x 0) (y 0)) ++ (wFl x r cI cZ cQ j_2 q d j_3 j_4 j_5 j_6 (nI nz)))) ++ (wOu ou cJ (vp_updL fo9 0 (0 : Int64)))) [1, 2, 3, 4, 5, 6, 7, 8, 9, 10, 11, 12, 13, 14, 15, 16, 0] (by decide) rfl)
      have g_17 : sSetWall nz q w co ro b 0 j_1 j_2 := hs9
      have g_18 : ∀ u v, u < nz → v < nz → isD j_2 (sq u) (sq v) (j_3 u v) := hT29
      have g_19 : 0 = 0 → (vp_updL fo9 0 (0 : Int64)) 0 = (if j_1 = 0 then 0 else 1) := fun _ => by rw [pk_uLs, if_pos c_16]
      refine W.widen (k := 2) (n := 12) (by omega) (by omega) ?_
      exact vx_ret (W.iret (v := nI 0) hx hb hr (fun t9 ht9 hW9 => ⟨⟨nI 0, (0, j_1, j_2, j_3, j_4, j_5, j_6, vp_updL fo9 0 (0 : Int64)), rfl, ⟨rfl, g_17, g_18, g_19⟩, by rw [ht9]; exact hP9, hD9⟩, hS.F ht9⟩) hS.2.2 dL_setWall_31)
    · refine lv_lconst (v := (1 : Int64)) hx hb dL_setWall_13 rfl ?_
      refine lv_goto (tgt := 18) hx hb dL_setWall_14 (by decide) ?_
      refine r_last hx hb hSt.1 hP hD hS 0 3 rfl rfl (k := 0) (by omega) (by omega) dL_setWall_18 (fun H locs hP hD hS => ?_)
      have hP : va_P D vwCl ((wOu ou cJ (vp_updL fo9 0 (1 : Int64))) ++ ((wDp ad o pa ka (fx 0) (sx 0)) ++ ((wOf o (x 0) (y 0)) ++ (wFl x r cI cZ cQ j_2 q d j_3 j_4 j_5 j_6 (nI nz))))) H := hP
      have hD : va_D A ((wOu ou cJ (vp_updL fo9 0 (1 : Int64))) ++ ((wDp ad o pa ka (fx 0) (sx 0)) ++ ((wOf o (x 0) (y 0)) ++ (wFl x r cI cZ cQ j_2 q d j_3 j_4 j_5 j_6 (nI nz))))) := hD
      refine lv_goto (tgt := 30) hx hb dL_setWall_19 (by decide) ?_
      refine lv_iconst (v := nI 0) hx hb dL_setWall_30 (by decide) ?_
      have hP9 : va_P D vwCl (((wDp ad o pa ka (fx 0) (sx 0)) ++ ((wOf o (x 0) (y 0)) ++ (wFl x r cI cZ cQ j_2 q d j_3 j_4 j_5 j_6 (nI nz)))) ++ (wOu ou cJ (vp_updL fo9 0 (1 : Int64)))) H := (hP.sub (ws' := ((wDp ad o pa ka (fx 0) (sx 0)) ++ ((wOf o (x 0) (y 0)) ++ (wFl x r cI cZ cQ j_2 q d j_3 j_4 j_5 j_6 (nI nz)))) ++ (wOu ou cJ (vp_updL fo9 0 (1 : Int64)))) [1, 2, 3, 4, 5, 6, 7, 8, 9, 10, 11, 12, 13, 14, 15, 16, 0] rfl)
      have hD9 : va_D A (((wDp ad o pa ka (fx 0) (sx 0)) ++ ((wOf o (x 0) (y 0)) ++ (wFl x r cI cZ cQ j_2 q d j_3 j_4 j_5 j_6 (nI nz)))) ++ (wOu ou cJ (vp_updL fo9 0 (1 : Int64)))) := (hD.sub (ws' := ((wDp ad o pa ka (fx 0) (sx 0)) ++ ((wOf o (x 0) (y 0)) ++ (wFl x r cI cZ cQ j_2 q d j_3 j_4 j_5 j_6 (nI nz)))) ++ (wOu ou cJ (vp_updL fo9 0 (1 : Int64)))) [1, 2, 3, 4, 5, 6, 7, 8, 9, 10, 11, 12, 13, 14, 15, 16, 0] (by decide) rfl)
      have g_20 : sSetWall nz q w co ro b 0 j_1 j_2 := hs9
      have g_21 : ∀ u v, u < nz → v < nz → isD j_2 (sq u) (sq v) (j_3 u v) := hT29
      have g_22 : 0 = 0 → (vp_updL fo9 0 (1 : Int64)) 0 = (if j_1 = 0 then 0 else 1) := fun _ => by rw [pk_uLs, if_neg c_16]
      refine W.widen (k := 2) (n := 12) (by omega) (by omega) ?_
      exact vx_ret (W.iret (v := nI 0) hx hb hr (fun t9 ht9 hW9 => ⟨⟨nI 0, (0, j_1, j_2, j_3, j_4, j_5, j_6, vp_updL fo9 0 (1 : Int64)), rfl, ⟨rfl, g_20, g_21, g_22⟩, by rw [ht9]; exact hP9, hD9⟩, hS.F ht9⟩) hS.2.2 dL_setWall_31)
set_option maxHeartbeats 4000000 in
set_option maxRecDepth 100000 in
theorem c_L_addZone (l : Launch) (D : va_G) (cI cZ cQ cJ : ClassId) (ad : Nat) (o : Nat) (pa : Nat) (ka : Nat) (fx : Nat → Nat) (sx : Nat → Nat) (x : Nat → Nat) (r : Nat → Nat) (w : Nat → Int32) (q : Nat → Int32) (d : Nat → Int32) (T : Nat → Nat → Int32) (st : Nat → Int32) (re : Nat → Int32) (rc : Int32) (nz : Nat) (y : Nat → Nat) (sq : Nat → Nat) (co : Int32) (ro : Int32) (m9 : Int32) (ou : Nat) (fo9 : Nat → Int64) (sz : Nat) (hnz : nz ≤ 7) (hq : ∀ o, o < nz → q o = nI (sq o) ∧ sq o < 64 ∧ w (sq o) = 0) (hw : ∀ k, k < 64 → w k = 0 ∨ w k = 1) (hT : ∀ u v, u < nz → v < nz → isD w (sq u) (sq v) (T u v)) (hfl : l.stackTraces = false) : vx_Met l yL_addZone (.codeWith yL_addZone cL_addZone 6 (some .int) [(0, 12, 15, 13), (0, 12, 19, 21), (0, 12, 23, 15)] :: ALL) ({ frames := 8, cells := 3, slots := 18, locals := 138 } : Room) (va_Pc [.ref ad, .int co, .int ro, .int m9, .ref ou] (rx_P D cI cZ cQ cJ (((wDp ad o pa ka (fx 0) (sx 0)) ++ ((wOf o (x 0) (y 0)) ++ (wFl x r cI cZ cQ w q d T st re rc (nI nz)))) ++ (wOu ou cJ fo9)) sz)) (va_Qi (fun (r9 : Int32) (u9 : Nat × Int32 × (Nat → Int32) × (Nat → Int32) × Nat × (Nat → Nat → Int32) × (Nat → Int32) × (Nat → Int32) × Int32 × (Nat → Int64)) => (r9 = (nI u9.1)) ∧ (sAddZone nz q d w co ro m9 u9.1 u9.2.1 u9.2.2.2.2.1 u9.2.2.1 u9.2.2.2.1) ∧ (∀ u v, u < u9.2.2.2.2.1 → v < u9.2.2.2.2.1 → isD w ((updN sq nz (sqI co ro)) u) ((updN sq nz (sqI co ro)) v) (u9.2.2.2.2.2.1 u v)) ∧ (u9.1 = 0 → u9.2.2.2.2.2.2.2.2.2 0 = u9.2.1.toInt64)) (rw_B D (va_A (((wDp ad o pa ka (fx 0) (sx 0)) ++ ((wOf o (x 0) (y 0)) ++ (wFl x r cI cZ cQ w q d T st re rc (nI nz)))) ++ (wOu ou cJ fo9)) sz) (fun u9 : Nat × Int32 × (Nat → Int32) × (Nat → Int32) × Nat × (Nat → Nat → Int32) × (Nat → Int32) × (Nat → Int32) × Int32 × (Nat → Int64) => ((wDp ad o pa ka (fx 0) (sx 0)) ++ ((wOf o (x 0) (y 0)) ++ (wFl x r cI cZ cQ w u9.2.2.1 u9.2.2.2.1 u9.2.2.2.2.2.1 u9.2.2.2.2.2.2.1 u9.2.2.2.2.2.2.2.1 u9.2.2.2.2.2.2.2.2.1 (nI u9.2.2.2.2.1)))) ++ (wOu ou cJ u9.2.2.2.2.2.2.2.2.2))) (va_A (((wDp ad o pa ka (fx 0) (sx 0)) ++ ((wOf o (x 0) (y 0)) ++ (wFl x r cI cZ cQ w q d T st re rc (nI nz)))) ++ (wOu ou cJ fo9)) sz)) (rx_X (fun (E9 : String) (x9 : Unit) => False) D (va_A (((wDp ad o pa ka (fx 0) (sx 0)) ++ ((wOf o (x 0) (y 0)) ++ (wFl x r cI cZ cQ w q d T st re rc (nI nz)))) ++ (wOu ou cJ fo9)) sz) (fun x9 : Unit => ((wDp ad o pa ka (fx 0) (sx 0)) ++ ((wOf o (x 0) (y 0)) ++ (wFl x r cI cZ cQ w q d T st re rc (nI nz)))) ++ (wOu ou cJ fo9))) 3 18 (va_A (((wDp ad o pa ka (fx 0) (sx 0)) ++ ((wOf o (x 0) (y 0)) ++ (wFl x r cI cZ cQ w q d T st re rc (nI nz)))) ++ (wOu ou cJ fo9)) sz) := by
  refine vx_ofWH (cc := cL_addZone) (maxL := 6) (ret := (some .int)) (hh := [(0, 12, 15, 13), (0, 12, 19, 21), (0, 12, 23, 15)]) (by decide) rfl ?_
  intro p e s m args below meth c s₁ B hml hv
  obtain ⟨rfl, ⟨hsz, hP, hSt, hD0⟩, hDc, hZ⟩ := hv
  change W p l e ({ frames := 8, cells := 3, slots := 18, locals := 138 } : Room) s m _ below meth c s.heap [] 0 0 _ _
  have hx := B.exec
  have hb := B.bytes
  have hr := B.returns
  have hts : ∀ w ∈ ALL, w.before ([.ref ad, .int co, .int ro, .int m9, .ref ou] : List Value).toArray s = true := fun w h => atoms_spec (ws := (.codeWith yL_addZone cL_addZone 6 (some .int) [(0, 12, 15, 13), (0, 12, 19, 21), (0, 12, 23, 15)] :: ALL)) B.pre w (List.mem_cons_of_mem _ h)
  have hown : s.vm.findClass RL = some m.cls := findClass_of_methodNamed B.named
  have hlocks := B.notSynchronized
  have htb : c.exceptionTable.toList = tableOf [(0, 12, 15, 13), (0, 12, 19, 21), (0, 12, 23, 15)] := vx_table (x := yL_addZone) B (atoms_spec (ws := (.codeWith yL_addZone cL_addZone 6 (some .int) [(0, 12, 15, 13), (0, 12, 19, 21), (0, 12, 23, 15)] :: ALL)) B.pre _ List.mem_cons_self)
  subst hsz
  have hD := hD0.self (sz := s.heap.size)
  clear hD0
  generalize hAe : va_A (((wDp ad o pa ka (fx 0) (sx 0)) ++ ((wOf o (x 0) (y 0)) ++ (wFl x r cI cZ cQ w q d T st re rc (nI nz)))) ++ (wOu ou cJ fo9)) s.heap.size = A at hD hZ ⊢
  have hA : ∀ q : Nat, s.heap.size ≤ q → A q := fun q h => by rw [← hAe]; exact Or.inr h
  have hS : va_S A s.heap s.heap [] := va_S.rf
  have hl := lv_entry ([.ref ad, .int co, .int ro, .int m9, .ref ou]) (n := 6) (Nat.le_of_ble_eq_true rfl)
  rw [lg_entry_eq]
  generalize (lg_sl ([.ref ad, .int co, .int ro, .int m9, .ref ou]) ++ List.replicate (6 - (lg_sl ([.ref ad, .int co, .int ro, .int m9, .ref ou])).length) Slot.unset).toArray = ls at hl ⊢
  have hl : lv_has ls 6 [(0, .ref ad), (1, .int co), (2, .int ro), (3, .int m9), (4, .ref ou)] := hl
  obtain ⟨H, hHe⟩ : ∃ H : Heap, H = s.heap := ⟨_, rfl⟩
  obtain ⟨locs, hLe⟩ : ∃ L : List Loc, L = [] := ⟨_, rfl⟩
  have hP : va_P D vwCl (((wDp ad o pa ka (fx 0) (sx 0)) ++ ((wOf o (x 0) (y 0)) ++ (wFl x r cI cZ cQ w q d T st re rc (nI nz)))) ++ (wOu ou cJ fo9)) H := by rw [hHe]; exact hP
  have hS : va_S A s.heap H locs := by rw [hHe, hLe]; exact hS
  refine W.eqHL hHe hLe ?_
  refine lv_aload hx hb dL_addZone_0 (lv_at hl 4 rfl) ?_
  refine lv_iconst (v := nI 0) hx hb dL_addZone_2 (by decide) ?_
  refine lv_aload_n hx hb dL_addZone_3 rfl (lv_at hl 0 rfl) ?_
  refine lv_iload_n hx hb dL_addZone_4 rfl (lv_at hl 1 rfl) ?_
  refine lv_iload_n hx hb dL_addZone_5 rfl (lv_at hl 2 rfl) ?_
  refine lv_iload_n hx hb dL_addZone_6 rfl (lv_at hl 3 rfl) ?_
  refine rx_i (wr := wOu ou cJ fo9) (w_VX (As := [.int co, .int ro, .int m9]) ⟨hx, hb, hml, hown, hts⟩ (c_X7_addZone l D cI cZ cQ cJ ad o pa ka fx sx x r w q d T st re rc nz y sq co ro m9 H.size (by first | assumption | omega) (by first | assumption | omega) (by first | assumption | omega) (by first | assumption | omega)) (gV t2_214 t2_215 t2_216 t1_1 t2_217) rfl rfl hd_X7_addZone ⟨Nat.le_of_ble_eq_true rfl, Nat.le_of_ble_eq_true rfl⟩ (rx_pre hP hD hSt hDc hZ hS hA [0, 1, 2, 3, 4, 5, 6, 7, 8, 9, 10, 11, 12, 13, 14, 15] rfl (by decide)) (va_recv hSt.1 hP (ci := 7) (q0 := 0) rfl rfl) rfl hl.1 (rest := [.int (nI 0), .ref ou]) rfl (Nat.le_of_ble_eq_true rfl) dL_addZone_7 ⟨Nat.le_of_ble_eq_true rfl, Nat.le_of_ble_eq_true rfl⟩) hP hD hS hA [0, 1, 2, 3, 4, 5, 6, 7, 8, 9, 10, 11, 12, 13, 14, 15] [16] rfl rfl (by decide) (by decide) (fun E9 ce9 q9 x9 H locs hx9 hP hD hS hc91 hc92 hc93 => ?_) (fun r_9 u_9 H locs hw9 hP hD hS => ?_)
  · have hx9 : (E9 = "java/lang/IndexOutOfBoundsException" ∧ sAddZone nz q d w co ro m9 1 0 nz q d) ∨ (E9 = "java/lang/IllegalArgumentException" ∧ sAddZone nz q d w co ro m9 2 0 nz q d) ∨ (E9 = "java/lang/IllegalStateException" ∧ sAddZone nz q d w co ro m9 3 0 nz q d) := hx9
    have hP : va_P D vwCl ((wOu ou cJ fo9) ++ ((wDp ad o pa ka (fx 0) (sx 0)) ++ ((wOf o (x 0) (y 0)) ++ (wFl x r cI cZ cQ w q d T st re rc (nI nz))))) H := hP
    have hD : va_D A ((wOu ou cJ fo9) ++ ((wDp ad o pa ka (fx 0) (sx 0)) ++ ((wOf o (x 0) (y 0)) ++ (wFl x r cI cZ cQ w q d T st re rc (nI nz))))) := hD
    rcases hx9 with ⟨rfl, hsx⟩ | ⟨rfl, hsx⟩ | ⟨rfl, hsx⟩
    · refine vx_catch (own := RL) hown [] ⟨0, 12, 15, 13⟩ [⟨0, 12, 19, 21⟩, ⟨0, 12, 23, 15⟩] (by rw [htb]; rfl) (fun _ h9 => nomatch h9) (by decide) (by decide) (hts _ t2_88) (hSt.2.e 0 rfl) hc91 hc92 hc93 ?_
      refine lv_astore (lv' := [(5, .ref q9), (0, .ref ad), (1, .int co), (2, .int ro), (3, .int m9), (4, .ref ou)]) hx hb dL_addZone_15 hl (by decide) rfl (fun ls hl => ?_)
      refine lv_iconst (v := nI 1) hx hb dL_addZone_17 (by decide) ?_
      have hP9 : va_P D vwCl (((wDp ad o pa ka (fx 0) (sx 0)) ++ ((wOf o (x 0) (y 0)) ++ (wFl x r cI cZ cQ w q d T st re rc (nI nz)))) ++ (wOu ou cJ fo9)) H := (hP.sub (ws' := ((wDp ad o pa ka (fx 0) (sx 0)) ++ ((wOf o (x 0) (y 0)) ++ (wFl x r cI cZ cQ w q d T st re rc (nI nz)))) ++ (wOu ou cJ fo9)) [1, 2, 3, 4, 5, 6, 7, 8, 9, 10, 11, 12, 13, 14, 15, 16, 0] rfl)
      have hD9 : va_D A (((wDp ad o pa ka (fx 0) (sx 0)) ++ ((wOf o (x 0) (y 0)) ++ (wFl x r cI cZ cQ w q d T st re rc (nI nz)))) ++ (wOu ou cJ fo9)) := (hD.sub (ws' := ((wDp ad o pa ka (fx 0) (sx 0)) ++ ((wOf o (x 0) (y 0)) ++ (wFl x r cI cZ cQ w q d T st re rc (nI nz)))) ++ (wOu ou cJ fo9)) [1, 2, 3, 4, 5, 6, 7, 8, 9, 10, 11, 12, 13, 14, 15, 16, 0] (by decide) rfl)
      have g_10 : sAddZone nz q d w co ro m9 1 (0 : Int32) nz q d := hsx
      have g_11 : ∀ u v, u < nz → v < nz → isD w ((updN sq nz (sqI co ro)) u) ((updN sq nz (sqI co ro)) v) (T u v) := fun u v hu hv => by rw [updN_n _ _ (by omega), updN_n _ _ (by omega)]; exact hT u v hu hv
      have g_12 : 1 = 0 → fo9 0 = (0 : Int32).toInt64 := fun h9 => absurd h9 (by decide)
      refine W.widen (k := 3) (n := 18) (by omega) (by omega) ?_
      exact vx_ret (W.iret (v := nI 1) hx hb hr (fun t9 ht9 hW9 => ⟨⟨nI 1, (1, (0 : Int32), q, d, nz, T, st, re, rc, fo9), rfl, ⟨rfl, g_10, g_11, g_12⟩, by rw [ht9]; exact hP9, hD9⟩, hS.F ht9⟩) hS.2.2 dL_addZone_18)
    · refine vx_catch (own := RL) hown [⟨0, 12, 15, 13⟩] ⟨0, 12, 19, 21⟩ [⟨0, 12, 23, 15⟩] (by rw [htb]; rfl) (List.forall_mem_cons.mpr ⟨Or.inr ⟨by decide, _, hts _ t2_88, hSt.2.p 1 rfl⟩, fun _ h9 => nomatch h9⟩) (by decide) (by decide) (hts _ t2_213) (hSt.2.e 1 rfl) hc91 hc92 hc93 ?_
      refine lv_astore (lv' := [(5, .ref q9), (0, .ref ad), (1, .int co), (2, .int ro), (3, .int m9), (4, .ref ou)]) hx hb dL_addZone_19 hl (by decide) rfl (fun ls hl => ?_)
      refine lv_iconst (v := nI 2) hx hb dL_addZone_21 (by decide) ?_
      have hP9 : va_P D vwCl (((wDp ad o pa ka (fx 0) (sx 0)) ++ ((wOf o (x 0) (y 0)) ++ (wFl x r cI cZ cQ w q d T st re rc (nI nz)))) ++ (wOu ou cJ fo9)) H := (hP.sub (ws' := ((wDp ad o pa ka (fx 0) (sx 0)) ++ ((wOf o (x 0) (y 0)) ++ (wFl x r cI cZ cQ w q d T st re rc (nI nz)))) ++ (wOu ou cJ fo9)) [1, 2, 3, 4, 5, 6, 7, 8, 9, 10, 11, 12, 13, 14, 15, 16, 0] rfl)
      have hD9 : va_D A (((wDp ad o pa ka (fx 0) (sx 0)) ++ ((wOf o (x 0) (y 0)) ++ (wFl x r cI cZ cQ w q d T st re rc (nI nz)))) ++ (wOu ou cJ fo9)) := (hD.sub (ws' := ((wDp ad o pa ka (fx 0) (sx 0)) ++ ((wOf o (x 0) (y 0)) ++ (wFl x r cI cZ cQ w q d T st re rc (nI nz)))) ++ (wOu ou cJ fo9)) [1, 2, 3, 4, 5, 6, 7, 8, 9, 10, 11, 12, 13, 14, 15, 16, 0] (by decide) rfl)
      have g_13 : sAddZone nz q d w co ro m9 2 (0 : Int32) nz q d := hsx
      have g_14 : ∀ u v, u < nz → v < nz → isD w ((updN sq nz (sqI co ro)) u) ((updN sq nz (sqI co ro)) v) (T u v) := fun u v hu hv => by rw [updN_n _ _ (by omega), updN_n _ _ (by omega)]; exact hT u v hu hv
      have g_15 : 2 = 0 → fo9 0 = (0 : Int32).toInt64 := fun h9 => absurd h9 (by decide)
      refine W.widen (k := 3) (n := 18) (by omega) (by omega) ?_
      exact vx_ret (W.iret (v := nI 2) hx hb hr (fun t9 ht9 hW9 => ⟨⟨nI 2, (2, (0 : Int32), q, d, nz, T, st, re, rc, fo9), rfl, ⟨rfl, g_13, g_14, g_15⟩, by rw [ht9]; exact hP9, hD9⟩, hS.F ht9⟩) hS.2.2 dL_addZone_22)
    · refine vx_catch (own := RL) hown [⟨0, 12, 15, 13⟩, ⟨0, 12, 19, 21⟩] ⟨0, 12, 23, 15⟩ [] (by rw [htb]; rfl) (List.forall_mem_cons.mpr ⟨Or.inr ⟨by decide, _, hts _ t2_88, hSt.2.p 0 rfl⟩, List.forall_mem_cons.mpr ⟨Or.inr ⟨by decide, _, hts _ t2_213, hSt.2.p 5 rfl⟩, fun _ h9 => nomatch h9⟩⟩) (by decide) (by decide) (hts _ t2_89) (hSt.2.e 2 rfl) hc91 hc92 hc93 ?_
      refine lv_astore (lv' := [(5, .ref q9), (0, .ref ad), (1, .int co), (2, .int ro), (3, .int m9), (4, .ref ou)]) hx hb dL_addZone_23 hl (by decide) rfl (fun ls hl => ?_)
      refine lv_iconst (v := nI 3) hx hb dL_addZone_25 (by decide) ?_
      have hP9 : va_P D vwCl (((wDp ad o pa ka (fx 0) (sx 0)) ++ ((wOf o (x 0) (y 0)) ++ (wFl x r cI cZ cQ w q d T st re rc (nI nz)))) ++ (wOu ou cJ fo9)) H := (hP.sub (ws' := ((wDp ad o pa ka (fx 0) (sx 0)) ++ ((wOf o (x 0) (y 0)) ++ (wFl x r cI cZ cQ w q d T st re rc (nI nz)))) ++ (wOu ou cJ fo9)) [1, 2, 3, 4, 5, 6, 7, 8, 9, 10, 11, 12, 13, 14, 15, 16, 0] rfl)
      have hD9 : va_D A (((wDp ad o pa ka (fx 0) (sx 0)) ++ ((wOf o (x 0) (y 0)) ++ (wFl x r cI cZ cQ w q d T st re rc (nI nz)))) ++ (wOu ou cJ fo9)) := (hD.sub (ws' := ((wDp ad o pa ka (fx 0) (sx 0)) ++ ((wOf o (x 0) (y 0)) ++ (wFl x r cI cZ cQ w q d T st re rc (nI nz)))) ++ (wOu ou cJ fo9)) [1, 2, 3, 4, 5, 6, 7, 8, 9, 10, 11, 12, 13, 14, 15, 16, 0] (by decide) rfl)
      have g_16 : sAddZone nz q d w co ro m9 3 (0 : Int32) nz q d := hsx
      have g_17 : ∀ u v, u < nz → v < nz → isD w ((updN sq nz (sqI co ro)) u) ((updN sq nz (sqI co ro)) v) (T u v) := fun u v hu hv => by rw [updN_n _ _ (by omega), updN_n _ _ (by omega)]; exact hT u v hu hv
      have g_18 : 3 = 0 → fo9 0 = (0 : Int32).toInt64 := fun h9 => absurd h9 (by decide)
      refine W.widen (k := 3) (n := 18) (by omega) (by omega) ?_
      exact vx_ret (W.iret (v := nI 3) hx hb hr (fun t9 ht9 hW9 => ⟨⟨nI 3, (3, (0 : Int32), q, d, nz, T, st, re, rc, fo9), rfl, ⟨rfl, g_16, g_17, g_18⟩, by rw [ht9]; exact hP9, hD9⟩, hS.F ht9⟩) hS.2.2 dL_addZone_26)
  · obtain ⟨j_1, j_2, j_3, j_4, j_5, j_6, j_7, j_8⟩ := u_9
    obtain ⟨er_9, f_19, f_20⟩ := hw9
    replace er_9 := er_9.symm
    subst er_9
    have hs9 : sAddZone nz q d w co ro m9 0 j_1 j_4 j_2 j_3 := f_19
    have hT29 : ∀ u v, u < j_4 → v < j_4 → isD w ((updN sq nz (sqI co ro)) u) ((updN sq nz (sqI co ro)) v) (j_5 u v) := f_20
    have hP : va_P D vwCl ((wOu ou cJ fo9) ++ ((wDp ad o pa ka (fx 0) (sx 0)) ++ ((wOf o (x 0) (y 0)) ++ (wFl x r cI cZ cQ w j_2 j_3 j_5 j_6 j_7 j_8 (nI j_4))))) H := hP
    have hD : va_D A ((wOu ou cJ fo9) ++ ((wDp ad o pa ka (fx 0) (sx 0)) ++ ((wOf o (x 0) (y 0)) ++ (wFl x r cI cZ cQ w j_2 j_3 j_5 j_6 j_7 j_8 (nI j_4))))) := hD
    refine lv_i2l (v := (j_1).toInt64) hx hb dL_addZone_10 rfl ?_
    refine r_last hx hb hSt.1 hP hD hS 0 3 rfl rfl (k := 0) (by omega) (by omega) dL_addZone_11 (fun H locs hP hD hS => ?_)
    have hP : va_P D vwCl ((wOu ou cJ (vp_updL fo9 0 ((j_1).toInt64))) ++ ((wDp ad o pa ka (fx 0) (sx 0)) ++ ((wOf o (x 0) (y 0)) ++ (wFl x r cI cZ cQ w j_2 j_3 j_5 j_6 j_7 j_8 (nI j_4))))) H := hP
    have hD : va_D A ((wOu ou cJ (vp_updL fo9 0 ((j_1).toInt64))) ++ ((wDp ad o pa ka (fx 0) (sx 0)) ++ ((wOf o (x 0) (y 0)) ++ (wFl x r cI cZ cQ w j_2 j_3 j_5 j_6 j_7 j_8 (nI j_4))))) := hD
    refine lv_goto (tgt := 27) hx hb dL_addZone_12 (by decide) ?_
    refine lv_iconst (v := nI 0) hx hb dL_addZone_27 (by decide) ?_
    have hP9 : va_P D vwCl (((wDp ad o pa ka (fx 0) (sx 0)) ++ ((wOf o (x 0) (y 0)) ++ (wFl x r cI cZ cQ w j_2 j_3 j_5 j_6 j_7 j_8 (nI j_4)))) ++ (wOu ou cJ (vp_updL fo9 0 ((j_1).toInt64)))) H := (hP.sub (ws' := ((wDp ad o pa ka (fx 0) (sx 0)) ++ ((wOf o (x 0) (y 0)) ++ (wFl x r cI cZ cQ w j_2 j_3 j_5 j_6 j_7 j_8 (nI j_4)))) ++ (wOu ou cJ (vp_updL fo9 0 ((j_1).toInt64)))) [1, 2, 3, 4, 5, 6, 7, 8, 9, 10, 11, 12, 13, 14, 15, 16, 0] rfl)
    have hD9 : va_D A (((wDp ad o pa ka (fx 0) (sx 0)) ++ ((wOf o (x 0) (y 0)) ++ (wFl x r cI cZ cQ w j_2 j_3 j_5 j_6 j_7 j_8 (nI j_4)))) ++ (wOu ou cJ (vp_updL fo9 0 ((j_1).toInt64)))) := (hD.sub (ws' := ((wDp ad o pa ka (fx 0) (sx 0)) ++ ((wOf o (x 0) (y 0)) ++ (wFl x r cI cZ cQ w j_2 j_3 j_5 j_6 j_7 j_8 (nI j_4)))) ++ (wOu ou cJ (vp_updL fo9 0 ((j_1).toInt64)))) [1, 2, 3, 4, 5, 6, 7, 8, 9, 10, 11, 12, 13, 14, 15, 16, 0] (by decide) rfl)
    have g_21 : sAddZone nz q d w co ro m9 0 j_1 j_4 j_2 j_3 := hs9
    have g_22 : ∀ u v, u < j_4 → v < j_4 → isD w ((updN sq nz (sqI co ro)) u) ((updN sq nz (sqI co ro)) v) (j_5 u v) := hT29
    have g_23 : 0 = 0 → (vp_updL fo9 0 ((j_1).toInt64)) 0 = j_1.toInt64 := fun _ => pk_uLs
    refine W.widen (k := 3) (n := 18) (by omega) (by omega) ?_
    exact vx_ret (W.iret (v := nI 0) hx hb hr (fun t9 ht9 hW9 => ⟨⟨nI 0, (0, j_1, j_2, j_3, j_4, j_5, j_6, j_7, j_8, vp_updL fo9 0 ((j_1).toInt64)), rfl, ⟨rfl, g_21, g_22, g_23⟩, by rw [ht9]; exact hP9, hD9⟩, hS.F ht9⟩) hS.2.2 dL_addZone_28)
set_option maxHeartbeats 4000000 in
set_option maxRecDepth 100000 in
theorem c_L_setDesks (l : Launch) (D : va_G) (cI cZ cQ cJ : ClassId) (ad : Nat) (o : Nat) (pa : Nat) (ka : Nat) (fx : Nat → Nat) (sx : Nat → Nat) (x : Nat → Nat) (r : Nat → Nat) (w : Nat → Int32) (q : Nat → Int32) (d : Nat → Int32) (T : Nat → Nat → Int32) (st : Nat → Int32) (re : Nat → Int32) (rc : Int32) (nz : Nat) (y : Nat → Nat) (rp : Nat → Nat) (rw : Nat → Nat) (rt : Nat → Nat) (P : Nat → Nat → Int32) (n : Nat → Int32) (Wi : Nat → Nat → Int32) (Ti : Nat → Nat → Int32) (nt : Nat) (pb : Nat) (zo : Nat → Int32) (z : Int32) (m9 : Int32) (ou : Nat) (fo9 : Nat → Int64) (sz : Nat) (hnz : nz ≤ 7) (hfl : l.stackTraces = false) : vx_Met l yL_setDesks (.codeWith yL_setDesks cL_setDesks 5 (some .int) [(0, 10, 13, 13), (0, 10, 17, 21), (0, 10, 21, 15)] :: ALL) ({ frames := 8, cells := 3, slots := 18, locals := 129 } : Room) (va_Pc [.ref ad, .int z, .int m9, .ref ou] (rx_P D cI cZ cQ cJ (((wDp ad o pa ka (fx 0) (sx 0)) ++ ((wOf o (x 0) (y 0)) ++ ((wFl x r cI cZ cQ w q d T st re rc (nI nz)) ++ ((wSt y rp rw rt cI cQ P n Wi Ti (nI nt)) ++ (wPl pa pb cI zo))))) ++ (wOu ou cJ fo9)) sz)) (va_Qi (fun (r9 : Int32) (u9 : Nat × Int32 × (Nat → Int32) × (Nat → Int64)) => (r9 = (nI u9.1)) ∧ (sSetDesks nz d zo n z m9 u9.1 u9.2.1 u9.2.2.1) ∧ (u9.1 = 0 → u9.2.2.2 0 = u9.2.1.toInt64)) (rw_B D (va_A (((wDp ad o pa ka (fx 0) (sx 0)) ++ ((wOf o (x 0) (y 0)) ++ ((wFl x r cI cZ cQ w q d T st re rc (nI nz)) ++ ((wSt y rp rw rt cI cQ P n Wi Ti (nI nt)) ++ (wPl pa pb cI zo))))) ++ (wOu ou cJ fo9)) sz) (fun u9 : Nat × Int32 × (Nat → Int32) × (Nat → Int64) => ((wDp ad o pa ka (fx 0) (sx 0)) ++ ((wOf o (x 0) (y 0)) ++ ((wFl x r cI cZ cQ w q u9.2.2.1 T st re rc (nI nz)) ++ ((wSt y rp rw rt cI cQ P n Wi Ti (nI nt)) ++ (wPl pa pb cI zo))))) ++ (wOu ou cJ u9.2.2.2))) (va_A (((wDp ad o pa ka (fx 0) (sx 0)) ++ ((wOf o (x 0) (y 0)) ++ ((wFl x r cI cZ cQ w q d T st re rc (nI nz)) ++ ((wSt y rp rw rt cI cQ P n Wi Ti (nI nt)) ++ (wPl pa pb cI zo))))) ++ (wOu ou cJ fo9)) sz)) (rx_X (fun (E9 : String) (x9 : Unit) => False) D (va_A (((wDp ad o pa ka (fx 0) (sx 0)) ++ ((wOf o (x 0) (y 0)) ++ ((wFl x r cI cZ cQ w q d T st re rc (nI nz)) ++ ((wSt y rp rw rt cI cQ P n Wi Ti (nI nt)) ++ (wPl pa pb cI zo))))) ++ (wOu ou cJ fo9)) sz) (fun x9 : Unit => ((wDp ad o pa ka (fx 0) (sx 0)) ++ ((wOf o (x 0) (y 0)) ++ ((wFl x r cI cZ cQ w q d T st re rc (nI nz)) ++ ((wSt y rp rw rt cI cQ P n Wi Ti (nI nt)) ++ (wPl pa pb cI zo))))) ++ (wOu ou cJ fo9))) 3 18 (va_A (((wDp ad o pa ka (fx 0) (sx 0)) ++ ((wOf o (x 0) (y 0)) ++ ((wFl x r cI cZ cQ w q d T st re rc (nI nz)) ++ ((wSt y rp rw rt cI cQ P n Wi Ti (nI nt)) ++ (wPl pa pb cI zo))))) ++ (wOu ou cJ fo9)) sz) := by
  refine vx_ofWH (cc := cL_setDesks) (maxL := 5) (ret := (some .int)) (hh := [(0, 10, 13, 13), (0, 10, 17, 21), (0, 10, 21, 15)]) (by decide) rfl ?_
  intro p e s m args below meth c s₁ B hml hv
  obtain ⟨rfl, ⟨hsz, hP, hSt, hD0⟩, hDc, hZ⟩ := hv
  change W p l e ({ frames := 8, cells := 3, slots := 18, locals := 129 } : Room) s m _ below meth c s.heap [] 0 0 _ _
  have hx := B.exec
  have hb := B.bytes
  have hr := B.returns
  have hts : ∀ w ∈ ALL, w.before ([.ref ad, .int z, .int m9, .ref ou] : List Value).toArray s = true := fun w h => atoms_spec (ws := (.codeWith yL_setDesks cL_setDesks 5 (some .int) [(0, 10, 13, 13), (0, 10, 17, 21), (0, 10, 21, 15)] :: ALL)) B.pre w (List.mem_cons_of_mem _ h)
  have hown : s.vm.findClass RL = some m.cls := findClass_of_methodNamed B.named
  have hlocks := B.notSynchronized
  have htb : c.exceptionTable.toList = tableOf [(0, 10, 13, 13), (0, 10, 17, 21), (0, 10, 21, 15)] := vx_table (x := yL_setDesks) B (atoms_spec (ws := (.codeWith yL_setDesks cL_setDesks 5 (some .int) [(0, 10, 13, 13), (0, 10, 17, 21), (0, 10, 21, 15)] :: ALL)) B.pre _ List.mem_cons_self)
  subst hsz
  have hD := hD0.self (sz := s.heap.size)
  clear hD0
  generalize hAe : va_A (((wDp ad o pa ka (fx 0) (sx 0)) ++ ((wOf o (x 0) (y 0)) ++ ((wFl x r cI cZ cQ w q d T st re rc (nI nz)) ++ ((wSt y rp rw rt cI cQ P n Wi Ti (nI nt)) ++ (wPl pa pb cI zo))))) ++ (wOu ou cJ fo9)) s.heap.size = A at hD hZ ⊢
  have hA : ∀ q : Nat, s.heap.size ≤ q → A q := fun q h => by rw [← hAe]; exact Or.inr h
  have hS : va_S A s.heap s.heap [] := va_S.rf
  have hl := lv_entry ([.ref ad, .int z, .int m9, .ref ou]) (n := 5) (Nat.le_of_ble_eq_true rfl)
  rw [lg_entry_eq]
  generalize (lg_sl ([.ref ad, .int z, .int m9, .ref ou]) ++ List.replicate (5 - (lg_sl ([.ref ad, .int z, .int m9, .ref ou])).length) Slot.unset).toArray = ls at hl ⊢
  have hl : lv_has ls 5 [(0, .ref ad), (1, .int z), (2, .int m9), (3, .ref ou)] := hl
  obtain ⟨H, hHe⟩ : ∃ H : Heap, H = s.heap := ⟨_, rfl⟩
  obtain ⟨locs, hLe⟩ : ∃ L : List Loc, L = [] := ⟨_, rfl⟩
  have hP : va_P D vwCl (((wDp ad o pa ka (fx 0) (sx 0)) ++ ((wOf o (x 0) (y 0)) ++ ((wFl x r cI cZ cQ w q d T st re rc (nI nz)) ++ ((wSt y rp rw rt cI cQ P n Wi Ti (nI nt)) ++ (wPl pa pb cI zo))))) ++ (wOu ou cJ fo9)) H := by rw [hHe]; exact hP
  have hS : va_S A s.heap H locs := by rw [hHe, hLe]; exact hS
  refine W.eqHL hHe hLe ?_
  refine lv_aload_n hx hb dL_setDesks_0 rfl (lv_at hl 3 rfl) ?_
  refine lv_iconst (v := nI 0) hx hb dL_setDesks_1 (by decide) ?_
  refine lv_aload_n hx hb dL_setDesks_2 rfl (lv_at hl 0 rfl) ?_
  refine lv_iload_n hx hb dL_setDesks_3 rfl (lv_at hl 1 rfl) ?_
  refine lv_iload_n hx hb dL_setDesks_4 rfl (lv_at hl 2 rfl) ?_
  refine rx_i (wr := wOu ou cJ fo9) (w_VX (As := [.int z, .int m9]) ⟨hx, hb, hml, hown, hts⟩ (c_X7_setDesks l D cI cZ cQ cJ ad o pa ka fx sx x r w q d T st re rc nz y rp rw rt P n Wi Ti nt pb zo z m9 H.size (by first | assumption | omega) (by first | assumption | omega)) (gV t3_11 t3_12 t3_13 t1_1 t3_14) rfl rfl hd_X7_setDesks ⟨Nat.le_of_ble_eq_true rfl, Nat.le_of_ble_eq_true rfl⟩ (rx_pre hP hD hSt hDc hZ hS hA [0, 1, 2, 3, 4, 5, 6, 7, 8, 9, 10, 11, 12, 13, 14, 15, 16, 17, 18, 19, 20, 21, 22, 23, 24, 25, 26, 27, 28, 29, 30, 31, 32, 33, 34, 35, 36, 37, 38, 39, 40, 41, 42, 43] rfl (by decide)) (va_recv hSt.1 hP (ci := 7) (q0 := 0) rfl rfl) rfl hl.1 (rest := [.int (nI 0), .ref ou]) rfl (Nat.le_of_ble_eq_true rfl) dL_setDesks_5 ⟨Nat.le_of_ble_eq_true rfl, Nat.le_of_ble_eq_true rfl⟩) hP hD hS hA [0, 1, 2, 3, 4, 5, 6, 7, 8, 9, 10, 11, 12, 13, 14, 15, 16, 17, 18, 19, 20, 21, 22, 23, 24, 25, 26, 27, 28, 29, 30, 31, 32, 33, 34, 35, 36, 37, 38, 39, 40, 41, 42, 43] [44] rfl rfl (by decide) (by decide) (fun E9 ce9 q9 x9 H locs hx9 hP hD hS hc91 hc92 hc93 => ?_) (fun r_9 u_3 H locs hw9 hP hD hS => ?_)
  · have hx9 : (E9 = "java/lang/IndexOutOfBoundsException" ∧ sSetDesks nz d zo n z m9 1 0 d) ∨ (E9 = "java/lang/IllegalArgumentException" ∧ sSetDesks nz d zo n z m9 2 0 d) ∨ (E9 = "java/lang/IllegalStateException" ∧ sSetDesks nz d zo n z m9 3 0 d) := hx9
    have hP : va_P D vwCl ((wOu ou cJ fo9) ++ ((wDp ad o pa ka (fx 0) (sx 0)) ++ ((wOf o (x 0) (y 0)) ++ ((wFl x r cI cZ cQ w q d T st re rc (nI nz)) ++ ((wSt y rp rw rt cI cQ P n Wi Ti (nI nt)) ++ (wPl pa pb cI zo)))))) H := hP
    have hD : va_D A ((wOu ou cJ fo9) ++ ((wDp ad o pa ka (fx 0) (sx 0)) ++ ((wOf o (x 0) (y 0)) ++ ((wFl x r cI cZ cQ w q d T st re rc (nI nz)) ++ ((wSt y rp rw rt cI cQ P n Wi Ti (nI nt)) ++ (wPl pa pb cI zo)))))) := hD
    rcases hx9 with ⟨rfl, hsx⟩ | ⟨rfl, hsx⟩ | ⟨rfl, hsx⟩
    · refine vx_catch (own := RL) hown [] ⟨0, 10, 13, 13⟩ [⟨0, 10, 17, 21⟩, ⟨0, 10, 21, 15⟩] (by rw [htb]; rfl) (fun _ h9 => nomatch h9) (by decide) (by decide) (hts _ t2_88) (hSt.2.e 0 rfl) hc91 hc92 hc93 ?_
      refine lv_astore (lv' := [(4, .ref q9), (0, .ref ad), (1, .int z), (2, .int m9), (3, .ref ou)]) hx hb dL_setDesks_13 hl (by decide) rfl (fun ls hl => ?_)
      refine lv_iconst (v := nI 1) hx hb dL_setDesks_15 (by decide) ?_
      have hP9 : va_P D vwCl (((wDp ad o pa ka (fx 0) (sx 0)) ++ ((wOf o (x 0) (y 0)) ++ ((wFl x r cI cZ cQ w q d T st re rc (nI nz)) ++ ((wSt y rp rw rt cI cQ P n Wi Ti (nI nt)) ++ (wPl pa pb cI zo))))) ++ (wOu ou cJ fo9)) H := (hP.sub (ws' := ((wDp ad o pa ka (fx 0) (sx 0)) ++ ((wOf o (x 0) (y 0)) ++ ((wFl x r cI cZ cQ w q d T st re rc (nI nz)) ++ ((wSt y rp rw rt cI cQ P n Wi Ti (nI nt)) ++ (wPl pa pb cI zo))))) ++ (wOu ou cJ fo9)) [1, 2, 3, 4, 5, 6, 7, 8, 9, 10, 11, 12, 13, 14, 15, 16, 17, 18, 19, 20, 21, 22, 23, 24, 25, 26, 27, 28, 29, 30, 31, 32, 33, 34, 35, 36, 37, 38, 39, 40, 41, 42, 43, 44, 0] rfl)
      have hD9 : va_D A (((wDp ad o pa ka (fx 0) (sx 0)) ++ ((wOf o (x 0) (y 0)) ++ ((wFl x r cI cZ cQ w q d T st re rc (nI nz)) ++ ((wSt y rp rw rt cI cQ P n Wi Ti (nI nt)) ++ (wPl pa pb cI zo))))) ++ (wOu ou cJ fo9)) := (hD.sub (ws' := ((wDp ad o pa ka (fx 0) (sx 0)) ++ ((wOf o (x 0) (y 0)) ++ ((wFl x r cI cZ cQ w q d T st re rc (nI nz)) ++ ((wSt y rp rw rt cI cQ P n Wi Ti (nI nt)) ++ (wPl pa pb cI zo))))) ++ (wOu ou cJ fo9)) [1, 2, 3, 4, 5, 6, 7, 8, 9, 10, 11, 12, 13, 14, 15, 16, 17, 18, 19, 20, 21, 22, 23, 24, 25, 26, 27, 28, 29, 30, 31, 32, 33, 34, 35, 36, 37, 38, 39, 40, 41, 42, 43, 44, 0] (by decide) rfl)
      have g_4 : sSetDesks nz d zo n z m9 1 (0 : Int32) d := hsx
      have g_5 : 1 = 0 → fo9 0 = (0 : Int32).toInt64 := fun h9 => absurd h9 (by decide)
      refine W.widen (k := 3) (n := 18) (by omega) (by omega) ?_
      exact vx_ret (W.iret (v := nI 1) hx hb hr (fun t9 ht9 hW9 => ⟨⟨nI 1, (1, (0 : Int32), d, fo9), rfl, ⟨rfl, g_4, g_5⟩, by rw [ht9]; exact hP9, hD9⟩, hS.F ht9⟩) hS.2.2 dL_setDesks_16)
    · refine vx_catch (own := RL) hown [⟨0, 10, 13, 13⟩] ⟨0, 10, 17, 21⟩ [⟨0, 10, 21, 15⟩] (by rw [htb]; rfl) (List.forall_mem_cons.mpr ⟨Or.inr ⟨by decide, _, hts _ t2_88, hSt.2.p 1 rfl⟩, fun _ h9 => nomatch h9⟩) (by decide) (by decide) (hts _ t2_213) (hSt.2.e 1 rfl) hc91 hc92 hc93 ?_
      refine lv_astore (lv' := [(4, .ref q9), (0, .ref ad), (1, .int z), (2, .int m9), (3, .ref ou)]) hx hb dL_setDesks_17 hl (by decide) rfl (fun ls hl => ?_)
      refine lv_iconst (v := nI 2) hx hb dL_setDesks_19 (by decide) ?_
      have hP9 : va_P D vwCl (((wDp ad o pa ka (fx 0) (sx 0)) ++ ((wOf o (x 0) (y 0)) ++ ((wFl x r cI cZ cQ w q d T st re rc (nI nz)) ++ ((wSt y rp rw rt cI cQ P n Wi Ti (nI nt)) ++ (wPl pa pb cI zo))))) ++ (wOu ou cJ fo9)) H := (hP.sub (ws' := ((wDp ad o pa ka (fx 0) (sx 0)) ++ ((wOf o (x 0) (y 0)) ++ ((wFl x r cI cZ cQ w q d T st re rc (nI nz)) ++ ((wSt y rp rw rt cI cQ P n Wi Ti (nI nt)) ++ (wPl pa pb cI zo))))) ++ (wOu ou cJ fo9)) [1, 2, 3, 4, 5, 6, 7, 8, 9, 10, 11, 12, 13, 14, 15, 16, 17, 18, 19, 20, 21, 22, 23, 24, 25, 26, 27, 28, 29, 30, 31, 32, 33, 34, 35, 36, 37, 38, 39, 40, 41, 42, 43, 44, 0] rfl)
      have hD9 : va_D A (((wDp ad o pa ka (fx 0) (sx 0)) ++ ((wOf o (x 0) (y 0)) ++ ((wFl x r cI cZ cQ w q d T st re rc (nI nz)) ++ ((wSt y rp rw rt cI cQ P n Wi Ti (nI nt)) ++ (wPl pa pb cI zo))))) ++ (wOu ou cJ fo9)) := (hD.sub (ws' := ((wDp ad o pa ka (fx 0) (sx 0)) ++ ((wOf o (x 0) (y 0)) ++ ((wFl x r cI cZ cQ w q d T st re rc (nI nz)) ++ ((wSt y rp rw rt cI cQ P n Wi Ti (nI nt)) ++ (wPl pa pb cI zo))))) ++ (wOu ou cJ fo9)) [1, 2, 3, 4, 5, 6, 7, 8, 9, 10, 11, 12, 13, 14, 15, 16, 17, 18, 19, 20, 21, 22, 23, 24, 25, 26, 27, 28, 29, 30, 31, 32, 33, 34, 35, 36, 37, 38, 39, 40, 41, 42, 43, 44, 0] (by decide) rfl)
      have g_6 : sSetDesks nz d zo n z m9 2 (0 : Int32) d := hsx
      have g_7 : 2 = 0 → fo9 0 = (0 : Int32).toInt64 := fun h9 => absurd h9 (by decide)
      refine W.widen (k := 3) (n := 18) (by omega) (by omega) ?_
      exact vx_ret (W.iret (v := nI 2) hx hb hr (fun t9 ht9 hW9 => ⟨⟨nI 2, (2, (0 : Int32), d, fo9), rfl, ⟨rfl, g_6, g_7⟩, by rw [ht9]; exact hP9, hD9⟩, hS.F ht9⟩) hS.2.2 dL_setDesks_20)
    · refine vx_catch (own := RL) hown [⟨0, 10, 13, 13⟩, ⟨0, 10, 17, 21⟩] ⟨0, 10, 21, 15⟩ [] (by rw [htb]; rfl) (List.forall_mem_cons.mpr ⟨Or.inr ⟨by decide, _, hts _ t2_88, hSt.2.p 0 rfl⟩, List.forall_mem_cons.mpr ⟨Or.inr ⟨by decide, _, hts _ t2_213, hSt.2.p 5 rfl⟩, fun _ h9 => nomatch h9⟩⟩) (by decide) (by decide) (hts _ t2_89) (hSt.2.e 2 rfl) hc91 hc92 hc93 ?_
      refine lv_astore (lv' := [(4, .ref q9), (0, .ref ad), (1, .int z), (2, .int m9), (3, .ref ou)]) hx hb dL_setDesks_21 hl (by decide) rfl (fun ls hl => ?_)
      refine lv_iconst (v := nI 3) hx hb dL_setDesks_23 (by decide) ?_
      have hP9 : va_P D vwCl (((wDp ad o pa ka (fx 0) (sx 0)) ++ ((wOf o (x 0) (y 0)) ++ ((wFl x r cI cZ cQ w q d T st re rc (nI nz)) ++ ((wSt y rp rw rt cI cQ P n Wi Ti (nI nt)) ++ (wPl pa pb cI zo))))) ++ (wOu ou cJ fo9)) H := (hP.sub (ws' := ((wDp ad o pa ka (fx 0) (sx 0)) ++ ((wOf o (x 0) (y 0)) ++ ((wFl x r cI cZ cQ w q d T st re rc (nI nz)) ++ ((wSt y rp rw rt cI cQ P n Wi Ti (nI nt)) ++ (wPl pa pb cI zo))))) ++ (wOu ou cJ fo9)) [1, 2, 3, 4, 5, 6, 7, 8, 9, 10, 11, 12, 13, 14, 15, 16, 17, 18, 19, 20, 21, 22, 23, 24, 25, 26, 27, 28, 29, 30, 31, 32, 33, 34, 35, 36, 37, 38, 39, 40, 41, 42, 43, 44, 0] rfl)
      have hD9 : va_D A (((wDp ad o pa ka (fx 0) (sx 0)) ++ ((wOf o (x 0) (y 0)) ++ ((wFl x r cI cZ cQ w q d T st re rc (nI nz)) ++ ((wSt y rp rw rt cI cQ P n Wi Ti (nI nt)) ++ (wPl pa pb cI zo))))) ++ (wOu ou cJ fo9)) := (hD.sub (ws' := ((wDp ad o pa ka (fx 0) (sx 0)) ++ ((wOf o (x 0) (y 0)) ++ ((wFl x r cI cZ cQ w q d T st re rc (nI nz)) ++ ((wSt y rp rw rt cI cQ P n Wi Ti (nI nt)) ++ (wPl pa pb cI zo))))) ++ (wOu ou cJ fo9)) [1, 2, 3, 4, 5, 6, 7, 8, 9, 10, 11, 12, 13, 14, 15, 16, 17, 18, 19, 20, 21, 22, 23, 24, 25, 26, 27, 28, 29, 30, 31, 32, 33, 34, 35, 36, 37, 38, 39, 40, 41, 42, 43, 44, 0] (by decide) rfl)
      have g_8 : sSetDesks nz d zo n z m9 3 (0 : Int32) d := hsx
      have g_9 : 3 = 0 → fo9 0 = (0 : Int32).toInt64 := fun h9 => absurd h9 (by decide)
      refine W.widen (k := 3) (n := 18) (by omega) (by omega) ?_
      exact vx_ret (W.iret (v := nI 3) hx hb hr (fun t9 ht9 hW9 => ⟨⟨nI 3, (3, (0 : Int32), d, fo9), rfl, ⟨rfl, g_8, g_9⟩, by rw [ht9]; exact hP9, hD9⟩, hS.F ht9⟩) hS.2.2 dL_setDesks_24)
  · obtain ⟨j_1, j_2⟩ := u_3
    obtain ⟨er_9, f_10⟩ := hw9
    replace er_9 := er_9.symm
    subst er_9
    have hs9 : sSetDesks nz d zo n z m9 0 j_1 j_2 := f_10
    have hP : va_P D vwCl ((wOu ou cJ fo9) ++ ((wDp ad o pa ka (fx 0) (sx 0)) ++ ((wOf o (x 0) (y 0)) ++ ((wFl x r cI cZ cQ w q j_2 T st re rc (nI nz)) ++ ((wSt y rp rw rt cI cQ P n Wi Ti (nI nt)) ++ (wPl pa pb cI zo)))))) H := hP
    have hD : va_D A ((wOu ou cJ fo9) ++ ((wDp ad o pa ka (fx 0) (sx 0)) ++ ((wOf o (x 0) (y 0)) ++ ((wFl x r cI cZ cQ w q j_2 T st re rc (nI nz)) ++ ((wSt y rp rw rt cI cQ P n Wi Ti (nI nt)) ++ (wPl pa pb cI zo)))))) := hD
    refine lv_i2l (v := (j_1).toInt64) hx hb dL_setDesks_8 rfl ?_
    refine r_last hx hb hSt.1 hP hD hS 0 3 rfl rfl (k := 0) (by omega) (by omega) dL_setDesks_9 (fun H locs hP hD hS => ?_)
    have hP : va_P D vwCl ((wOu ou cJ (vp_updL fo9 0 ((j_1).toInt64))) ++ ((wDp ad o pa ka (fx 0) (sx 0)) ++ ((wOf o (x 0) (y 0)) ++ ((wFl x r cI cZ cQ w q j_2 T st re rc (nI nz)) ++ ((wSt y rp rw rt cI cQ P n Wi Ti (nI nt)) ++ (wPl pa pb cI zo)))))) H := hP
    have hD : va_D A ((wOu ou cJ (vp_updL fo9 0 ((j_1).toInt64))) ++ ((wDp ad o pa ka (fx 0) (sx 0)) ++ ((wOf o (x 0) (y 0)) ++ ((wFl x r cI cZ cQ w q j_2 T st re rc (nI nz)) ++ ((wSt y rp rw rt cI cQ P n Wi Ti (nI nt)) ++ (wPl pa pb cI zo)))))) := hD
    refine lv_goto (tgt := 25) hx hb dL_setDesks_10 (by decide) ?_
    refine lv_iconst (v := nI 0) hx hb dL_setDesks_25 (by decide) ?_
    have hP9 : va_P D vwCl (((wDp ad o pa ka (fx 0) (sx 0)) ++ ((wOf o (x 0) (y 0)) ++ ((wFl x r cI cZ cQ w q j_2 T st re rc (nI nz)) ++ ((wSt y rp rw rt cI cQ P n Wi Ti (nI nt)) ++ (wPl pa pb cI zo))))) ++ (wOu ou cJ (vp_updL fo9 0 ((j_1).toInt64)))) H := (hP.sub (ws' := ((wDp ad o pa ka (fx 0) (sx 0)) ++ ((wOf o (x 0) (y 0)) ++ ((wFl x r cI cZ cQ w q j_2 T st re rc (nI nz)) ++ ((wSt y rp rw rt cI cQ P n Wi Ti (nI nt)) ++ (wPl pa pb cI zo))))) ++ (wOu ou cJ (vp_updL fo9 0 ((j_1).toInt64)))) [1, 2, 3, 4, 5, 6, 7, 8, 9, 10, 11, 12, 13, 14, 15, 16, 17, 18, 19, 20, 21, 22, 23, 24, 25, 26, 27, 28, 29, 30, 31, 32, 33, 34, 35, 36, 37, 38, 39, 40, 41, 42, 43, 44, 0] rfl)
    have hD9 : va_D A (((wDp ad o pa ka (fx 0) (sx 0)) ++ ((wOf o (x 0) (y 0)) ++ ((wFl x r cI cZ cQ w q j_2 T st re rc (nI nz)) ++ ((wSt y rp rw rt cI cQ P n Wi Ti (nI nt)) ++ (wPl pa pb cI zo))))) ++ (wOu ou cJ (vp_updL fo9 0 ((j_1).toInt64)))) := (hD.sub (ws' := ((wDp ad o pa ka (fx 0) (sx 0)) ++ ((wOf o (x 0) (y 0)) ++ ((wFl x r cI cZ cQ w q j_2 T st re rc (nI nz)) ++ ((wSt y rp rw rt cI cQ P n Wi Ti (nI nt)) ++ (wPl pa pb cI zo))))) ++ (wOu ou cJ (vp_updL fo9 0 ((j_1).toInt64)))) [1, 2, 3, 4, 5, 6, 7, 8, 9, 10, 11, 12, 13, 14, 15, 16, 17, 18, 19, 20, 21, 22, 23, 24, 25, 26, 27, 28, 29, 30, 31, 32, 33, 34, 35, 36, 37, 38, 39, 40, 41, 42, 43, 44, 0] (by decide) rfl)
    have g_11 : sSetDesks nz d zo n z m9 0 j_1 j_2 := hs9
    have g_12 : 0 = 0 → (vp_updL fo9 0 ((j_1).toInt64)) 0 = j_1.toInt64 := fun _ => pk_uLs
    refine W.widen (k := 3) (n := 18) (by omega) (by omega) ?_
    exact vx_ret (W.iret (v := nI 0) hx hb hr (fun t9 ht9 hW9 => ⟨⟨nI 0, (0, j_1, j_2, vp_updL fo9 0 ((j_1).toInt64)), rfl, ⟨rfl, g_11, g_12⟩, by rw [ht9]; exact hP9, hD9⟩, hS.F ht9⟩) hS.2.2 dL_setDesks_26)
set_option maxHeartbeats 4000000 in
set_option maxRecDepth 100000 in
theorem c_L_setPresent (l : Launch) (D : va_G) (cI cZ cQ cJ : ClassId) (ad : Nat) (o : Nat) (pa : Nat) (ka : Nat) (fx : Nat → Nat) (sx : Nat → Nat) (x : Nat → Nat) (r : Nat → Nat) (w : Nat → Int32) (q : Nat → Int32) (d : Nat → Int32) (T : Nat → Nat → Int32) (st : Nat → Int32) (re : Nat → Int32) (rc : Int32) (nz : Nat) (y : Nat → Nat) (rp : Nat → Nat) (rw : Nat → Nat) (rt : Nat → Nat) (P : Nat → Nat → Int32) (n : Nat → Int32) (Wi : Nat → Nat → Int32) (Ti : Nat → Nat → Int32) (nt : Nat) (pb : Nat) (zo : Nat → Int32) (g : Nat → Nat) (t : Int32) (j9 : Int32) (m9 : Int32) (ou : Nat) (fo9 : Nat → Int64) (sz : Nat) (hnz : nz ≤ 7) (hnt : nt ≤ 7) (hzo : pOK 7 zo g) (hvg : vG nz nt g) (hfl : l.stackTraces = false) : vx_Met l yL_setPresent (.codeWith yL_setPresent cL_setPresent 6 (some .int) [(0, 12, 15, 13), (0, 12, 19, 21), (0, 12, 23, 15)] :: ALL) ({ frames := 8, cells := 4, slots := 24, locals := 129 } : Room) (va_Pc [.ref ad, .int t, .int j9, .int m9, .ref ou] (rx_P D cI cZ cQ cJ (((wDp ad o pa ka (fx 0) (sx 0)) ++ ((wOf o (x 0) (y 0)) ++ ((wFl x r cI cZ cQ w q d T st re rc (nI nz)) ++ ((wSt y rp rw rt cI cQ P n Wi Ti (nI nt)) ++ (wPl pa pb cI zo))))) ++ (wOu ou cJ fo9)) sz)) (va_Qi (fun (r9 : Int32) (u9 : Nat × Int32 × (Nat → Nat → Int32) × (Nat → Int32) × (Nat → Int64)) => (r9 = (nI u9.1)) ∧ (sSetPresent nt P n d zo t j9 m9 u9.1 u9.2.1 u9.2.2.1 u9.2.2.2.1) ∧ (u9.1 = 0 → u9.2.2.2.2 0 = u9.2.1.toInt64)) (rw_B D (va_A (((wDp ad o pa ka (fx 0) (sx 0)) ++ ((wOf o (x 0) (y 0)) ++ ((wFl x r cI cZ cQ w q d T st re rc (nI nz)) ++ ((wSt y rp rw rt cI cQ P n Wi Ti (nI nt)) ++ (wPl pa pb cI zo))))) ++ (wOu ou cJ fo9)) sz) (fun u9 : Nat × Int32 × (Nat → Nat → Int32) × (Nat → Int32) × (Nat → Int64) => ((wDp ad o pa ka (fx 0) (sx 0)) ++ ((wOf o (x 0) (y 0)) ++ ((wFl x r cI cZ cQ w q d T st re rc (nI nz)) ++ ((wSt y rp rw rt cI cQ u9.2.2.1 u9.2.2.2.1 Wi Ti (nI nt)) ++ (wPl pa pb cI zo))))) ++ (wOu ou cJ u9.2.2.2.2))) (va_A (((wDp ad o pa ka (fx 0) (sx 0)) ++ ((wOf o (x 0) (y 0)) ++ ((wFl x r cI cZ cQ w q d T st re rc (nI nz)) ++ ((wSt y rp rw rt cI cQ P n Wi Ti (nI nt)) ++ (wPl pa pb cI zo))))) ++ (wOu ou cJ fo9)) sz)) (rx_X (fun (E9 : String) (x9 : Unit) => False) D (va_A (((wDp ad o pa ka (fx 0) (sx 0)) ++ ((wOf o (x 0) (y 0)) ++ ((wFl x r cI cZ cQ w q d T st re rc (nI nz)) ++ ((wSt y rp rw rt cI cQ P n Wi Ti (nI nt)) ++ (wPl pa pb cI zo))))) ++ (wOu ou cJ fo9)) sz) (fun x9 : Unit => ((wDp ad o pa ka (fx 0) (sx 0)) ++ ((wOf o (x 0) (y 0)) ++ ((wFl x r cI cZ cQ w q d T st re rc (nI nz)) ++ ((wSt y rp rw rt cI cQ P n Wi Ti (nI nt)) ++ (wPl pa pb cI zo))))) ++ (wOu ou cJ fo9))) 4 24 (va_A (((wDp ad o pa ka (fx 0) (sx 0)) ++ ((wOf o (x 0) (y 0)) ++ ((wFl x r cI cZ cQ w q d T st re rc (nI nz)) ++ ((wSt y rp rw rt cI cQ P n Wi Ti (nI nt)) ++ (wPl pa pb cI zo))))) ++ (wOu ou cJ fo9)) sz) := by
  refine vx_ofWH (cc := cL_setPresent) (maxL := 6) (ret := (some .int)) (hh := [(0, 12, 15, 13), (0, 12, 19, 21), (0, 12, 23, 15)]) (by decide) rfl ?_
  intro p e s m args below meth c s₁ B hml hv
  obtain ⟨rfl, ⟨hsz, hP, hSt, hD0⟩, hDc, hZ⟩ := hv
  change W p l e ({ frames := 8, cells := 4, slots := 24, locals := 129 } : Room) s m _ below meth c s.heap [] 0 0 _ _
  have hx := B.exec
  have hb := B.bytes
  have hr := B.returns
  have hts : ∀ w ∈ ALL, w.before ([.ref ad, .int t, .int j9, .int m9, .ref ou] : List Value).toArray s = true := fun w h => atoms_spec (ws := (.codeWith yL_setPresent cL_setPresent 6 (some .int) [(0, 12, 15, 13), (0, 12, 19, 21), (0, 12, 23, 15)] :: ALL)) B.pre w (List.mem_cons_of_mem _ h)
  have hown : s.vm.findClass RL = some m.cls := findClass_of_methodNamed B.named
  have hlocks := B.notSynchronized
  have htb : c.exceptionTable.toList = tableOf [(0, 12, 15, 13), (0, 12, 19, 21), (0, 12, 23, 15)] := vx_table (x := yL_setPresent) B (atoms_spec (ws := (.codeWith yL_setPresent cL_setPresent 6 (some .int) [(0, 12, 15, 13), (0, 12, 19, 21), (0, 12, 23, 15)] :: ALL)) B.pre _ List.mem_cons_self)
  subst hsz
  have hD := hD0.self (sz := s.heap.size)
  clear hD0
  generalize hAe : va_A (((wDp ad o pa ka (fx 0) (sx 0)) ++ ((wOf o (x 0) (y 0)) ++ ((wFl x r cI cZ cQ w q d T st re rc (nI nz)) ++ ((wSt y rp rw rt cI cQ P n Wi Ti (nI nt)) ++ (wPl pa pb cI zo))))) ++ (wOu ou cJ fo9)) s.heap.size = A at hD hZ ⊢
  have hA : ∀ q : Nat, s.heap.size ≤ q → A q := fun q h => by rw [← hAe]; exact Or.inr h
  have hS : va_S A s.heap s.heap [] := va_S.rf
  have hl := lv_entry ([.ref ad, .int t, .int j9, .int m9, .ref ou]) (n := 6) (Nat.le_of_ble_eq_true rfl)
  rw [lg_entry_eq]
  generalize (lg_sl ([.ref ad, .int t, .int j9, .int m9, .ref ou]) ++ List.replicate (6 - (lg_sl ([.ref ad, .int t, .int j9, .int m9, .ref ou])).length) Slot.unset).toArray = ls at hl ⊢
  have hl : lv_has ls 6 [(0, .ref ad), (1, .int t), (2, .int j9), (3, .int m9), (4, .ref ou)] := hl
  obtain ⟨H, hHe⟩ : ∃ H : Heap, H = s.heap := ⟨_, rfl⟩
  obtain ⟨locs, hLe⟩ : ∃ L : List Loc, L = [] := ⟨_, rfl⟩
  have hP : va_P D vwCl (((wDp ad o pa ka (fx 0) (sx 0)) ++ ((wOf o (x 0) (y 0)) ++ ((wFl x r cI cZ cQ w q d T st re rc (nI nz)) ++ ((wSt y rp rw rt cI cQ P n Wi Ti (nI nt)) ++ (wPl pa pb cI zo))))) ++ (wOu ou cJ fo9)) H := by rw [hHe]; exact hP
  have hS : va_S A s.heap H locs := by rw [hHe, hLe]; exact hS
  refine W.eqHL hHe hLe ?_
  refine lv_aload hx hb dL_setPresent_0 (lv_at hl 4 rfl) ?_
  refine lv_iconst (v := nI 0) hx hb dL_setPresent_2 (by decide) ?_
  refine lv_aload_n hx hb dL_setPresent_3 rfl (lv_at hl 0 rfl) ?_
  refine lv_iload_n hx hb dL_setPresent_4 rfl (lv_at hl 1 rfl) ?_
  refine lv_iload_n hx hb dL_setPresent_5 rfl (lv_at hl 2 rfl) ?_
  refine lv_iload_n hx hb dL_setPresent_6 rfl (lv_at hl 3 rfl) ?_
  refine rx_i (wr := wOu ou cJ fo9) (w_VX (As := [.int t, .int j9, .int m9]) ⟨hx, hb, hml, hown, hts⟩ (c_X7_setPresent l D cI cZ cQ cJ ad o pa ka fx sx x r w q d T st re rc nz y rp rw rt P n Wi Ti nt pb zo g t j9 m9 H.size (by first | assumption | omega) (by first | assumption | omega) (by first | assumption | omega) (by first | assumption | omega) (by first | assumption | omega)) (gV t3_37 t3_38 t3_39 t1_1 t3_40) rfl rfl hd_X7_setPresent ⟨Nat.le_of_ble_eq_true rfl, Nat.le_of_ble_eq_true rfl⟩ (rx_pre hP hD hSt hDc hZ hS hA [0, 1, 2, 3, 4, 5, 6, 7, 8, 9, 10, 11, 12, 13, 14, 15, 16, 17, 18, 19, 20, 21, 22, 23, 24, 25, 26, 27, 28, 29, 30, 31, 32, 33, 34, 35, 36, 37, 38, 39, 40, 41, 42, 43] rfl (by decide)) (va_recv hSt.1 hP (ci := 7) (q0 := 0) rfl rfl) rfl hl.1 (rest := [.int (nI 0), .ref ou]) rfl (Nat.le_of_ble_eq_true rfl) dL_setPresent_7 ⟨Nat.le_of_ble_eq_true rfl, Nat.le_of_ble_eq_true rfl⟩) hP hD hS hA [0, 1, 2, 3, 4, 5, 6, 7, 8, 9, 10, 11, 12, 13, 14, 15, 16, 17, 18, 19, 20, 21, 22, 23, 24, 25, 26, 27, 28, 29, 30, 31, 32, 33, 34, 35, 36, 37, 38, 39, 40, 41, 42, 43] [44] rfl rfl (by decide) (by decide) (fun E9 ce9 q9 x9 H locs hx9 hP hD hS hc91 hc92 hc93 => ?_) (fun r_9 u_4 H locs hw9 hP hD hS => ?_)
  · have hx9 : (E9 = "java/lang/IndexOutOfBoundsException" ∧ sSetPresent nt P n d zo t j9 m9 1 0 P n) ∨ (E9 = "java/lang/IllegalArgumentException" ∧ sSetPresent nt P n d zo t j9 m9 2 0 P n) ∨ (E9 = "java/lang/IllegalStateException" ∧ sSetPresent nt P n d zo t j9 m9 3 0 P n) := hx9
    have hP : va_P D vwCl ((wOu ou cJ fo9) ++ ((wDp ad o pa ka (fx 0) (sx 0)) ++ ((wOf o (x 0) (y 0)) ++ ((wFl x r cI cZ cQ w q d T st re rc (nI nz)) ++ ((wSt y rp rw rt cI cQ P n Wi Ti (nI nt)) ++ (wPl pa pb cI zo)))))) H := hP
    have hD : va_D A ((wOu ou cJ fo9) ++ ((wDp ad o pa ka (fx 0) (sx 0)) ++ ((wOf o (x 0) (y 0)) ++ ((wFl x r cI cZ cQ w q d T st re rc (nI nz)) ++ ((wSt y rp rw rt cI cQ P n Wi Ti (nI nt)) ++ (wPl pa pb cI zo)))))) := hD
    rcases hx9 with ⟨rfl, hsx⟩ | ⟨rfl, hsx⟩ | ⟨rfl, hsx⟩
    · refine vx_catch (own := RL) hown [] ⟨0, 12, 15, 13⟩ [⟨0, 12, 19, 21⟩, ⟨0, 12, 23, 15⟩] (by rw [htb]; rfl) (fun _ h9 => nomatch h9) (by decide) (by decide) (hts _ t2_88) (hSt.2.e 0 rfl) hc91 hc92 hc93 ?_
      refine lv_astore (lv' := [(5, .ref q9), (0, .ref ad), (1, .int t), (2, .int j9), (3, .int m9), (4, .ref ou)]) hx hb dL_setPresent_15 hl (by decide) rfl (fun ls hl => ?_)
      refine lv_iconst (v := nI 1) hx hb dL_setPresent_17 (by decide) ?_
      have hP9 : va_P D vwCl (((wDp ad o pa ka (fx 0) (sx 0)) ++ ((wOf o (x 0) (y 0)) ++ ((wFl x r cI cZ cQ w q d T st re rc (nI nz)) ++ ((wSt y rp rw rt cI cQ P n Wi Ti (nI nt)) ++ (wPl pa pb cI zo))))) ++ (wOu ou cJ fo9)) H := (hP.sub (ws' := ((wDp ad o pa ka (fx 0) (sx 0)) ++ ((wOf o (x 0) (y 0)) ++ ((wFl x r cI cZ cQ w q d T st re rc (nI nz)) ++ ((wSt y rp rw rt cI cQ P n Wi Ti (nI nt)) ++ (wPl pa pb cI zo))))) ++ (wOu ou cJ fo9)) [1, 2, 3, 4, 5, 6, 7, 8, 9, 10, 11, 12, 13, 14, 15, 16, 17, 18, 19, 20, 21, 22, 23, 24, 25, 26, 27, 28, 29, 30, 31, 32, 33, 34, 35, 36, 37, 38, 39, 40, 41, 42, 43, 44, 0] rfl)
      have hD9 : va_D A (((wDp ad o pa ka (fx 0) (sx 0)) ++ ((wOf o (x 0) (y 0)) ++ ((wFl x r cI cZ cQ w q d T st re rc (nI nz)) ++ ((wSt y rp rw rt cI cQ P n Wi Ti (nI nt)) ++ (wPl pa pb cI zo))))) ++ (wOu ou cJ fo9)) := (hD.sub (ws' := ((wDp ad o pa ka (fx 0) (sx 0)) ++ ((wOf o (x 0) (y 0)) ++ ((wFl x r cI cZ cQ w q d T st re rc (nI nz)) ++ ((wSt y rp rw rt cI cQ P n Wi Ti (nI nt)) ++ (wPl pa pb cI zo))))) ++ (wOu ou cJ fo9)) [1, 2, 3, 4, 5, 6, 7, 8, 9, 10, 11, 12, 13, 14, 15, 16, 17, 18, 19, 20, 21, 22, 23, 24, 25, 26, 27, 28, 29, 30, 31, 32, 33, 34, 35, 36, 37, 38, 39, 40, 41, 42, 43, 44, 0] (by decide) rfl)
      have g_5 : sSetPresent nt P n d zo t j9 m9 1 (0 : Int32) P n := hsx
      have g_6 : 1 = 0 → fo9 0 = (0 : Int32).toInt64 := fun h9 => absurd h9 (by decide)
      refine W.widen (k := 4) (n := 24) (by omega) (by omega) ?_
      exact vx_ret (W.iret (v := nI 1) hx hb hr (fun t9 ht9 hW9 => ⟨⟨nI 1, (1, (0 : Int32), P, n, fo9), rfl, ⟨rfl, g_5, g_6⟩, by rw [ht9]; exact hP9, hD9⟩, hS.F ht9⟩) hS.2.2 dL_setPresent_18)
    · refine vx_catch (own := RL) hown [⟨0, 12, 15, 13⟩] ⟨0, 12, 19, 21⟩ [⟨0, 12, 23, 15⟩] (by rw [htb]; rfl) (List.forall_mem_cons.mpr ⟨Or.inr ⟨by decide, _, hts _ t2_88, hSt.2.p 1 rfl⟩, fun _ h9 => nomatch h9⟩) (by decide) (by decide) (hts _ t2_213) (hSt.2.e 1 rfl) hc91 hc92 hc93 ?_
      refine lv_astore (lv' := [(5, .ref q9), (0, .ref ad), (1, .int t), (2, .int j9), (3, .int m9), (4, .ref ou)]) hx hb dL_setPresent_19 hl (by decide) rfl (fun ls hl => ?_)
      refine lv_iconst (v := nI 2) hx hb dL_setPresent_21 (by decide) ?_
      have hP9 : va_P D vwCl (((wDp ad o pa ka (fx 0) (sx 0)) ++ ((wOf o (x 0) (y 0)) ++ ((wFl x r cI cZ cQ w q d T st re rc (nI nz)) ++ ((wSt y rp rw rt cI cQ P n Wi Ti (nI nt)) ++ (wPl pa pb cI zo))))) ++ (wOu ou cJ fo9)) H := (hP.sub (ws' := ((wDp ad o pa ka (fx 0) (sx 0)) ++ ((wOf o (x 0) (y 0)) ++ ((wFl x r cI cZ cQ w q d T st re rc (nI nz)) ++ ((wSt y rp rw rt cI cQ P n Wi Ti (nI nt)) ++ (wPl pa pb cI zo))))) ++ (wOu ou cJ fo9)) [1, 2, 3, 4, 5, 6, 7, 8, 9, 10, 11, 12, 13, 14, 15, 16, 17, 18, 19, 20, 21, 22, 23, 24, 25, 26, 27, 28, 29, 30, 31, 32, 33, 34, 35, 36, 37, 38, 39, 40, 41, 42, 43, 44, 0] rfl)
      have hD9 : va_D A (((wDp ad o pa ka (fx 0) (sx 0)) ++ ((wOf o (x 0) (y 0)) ++ ((wFl x r cI cZ cQ w q d T st re rc (nI nz)) ++ ((wSt y rp rw rt cI cQ P n Wi Ti (nI nt)) ++ (wPl pa pb cI zo))))) ++ (wOu ou cJ fo9)) := (hD.sub (ws' := ((wDp ad o pa ka (fx 0) (sx 0)) ++ ((wOf o (x 0) (y 0)) ++ ((wFl x r cI cZ cQ w q d T st re rc (nI nz)) ++ ((wSt y rp rw rt cI cQ P n Wi Ti (nI nt)) ++ (wPl pa pb cI zo))))) ++ (wOu ou cJ fo9)) [1, 2, 3, 4, 5, 6, 7, 8, 9, 10, 11, 12, 13, 14, 15, 16, 17, 18, 19, 20, 21, 22, 23, 24, 25, 26, 27, 28, 29, 30, 31, 32, 33, 34, 35, 36, 37, 38, 39, 40, 41, 42, 43, 44, 0] (by decide) rfl)
      have g_7 : sSetPresent nt P n d zo t j9 m9 2 (0 : Int32) P n := hsx
      have g_8 : 2 = 0 → fo9 0 = (0 : Int32).toInt64 := fun h9 => absurd h9 (by decide)
      refine W.widen (k := 4) (n := 24) (by omega) (by omega) ?_
      exact vx_ret (W.iret (v := nI 2) hx hb hr (fun t9 ht9 hW9 => ⟨⟨nI 2, (2, (0 : Int32), P, n, fo9), rfl, ⟨rfl, g_7, g_8⟩, by rw [ht9]; exact hP9, hD9⟩, hS.F ht9⟩) hS.2.2 dL_setPresent_22)
    · refine vx_catch (own := RL) hown [⟨0, 12, 15, 13⟩, ⟨0, 12, 19, 21⟩] ⟨0, 12, 23, 15⟩ [] (by rw [htb]; rfl) (List.forall_mem_cons.mpr ⟨Or.inr ⟨by decide, _, hts _ t2_88, hSt.2.p 0 rfl⟩, List.forall_mem_cons.mpr ⟨Or.inr ⟨by decide, _, hts _ t2_213, hSt.2.p 5 rfl⟩, fun _ h9 => nomatch h9⟩⟩) (by decide) (by decide) (hts _ t2_89) (hSt.2.e 2 rfl) hc91 hc92 hc93 ?_
      refine lv_astore (lv' := [(5, .ref q9), (0, .ref ad), (1, .int t), (2, .int j9), (3, .int m9), (4, .ref ou)]) hx hb dL_setPresent_23 hl (by decide) rfl (fun ls hl => ?_)
      refine lv_iconst (v := nI 3) hx hb dL_setPresent_25 (by decide) ?_
      have hP9 : va_P D vwCl (((wDp ad o pa ka (fx 0) (sx 0)) ++ ((wOf o (x 0) (y 0)) ++ ((wFl x r cI cZ cQ w q d T st re rc (nI nz)) ++ ((wSt y rp rw rt cI cQ P n Wi Ti (nI nt)) ++ (wPl pa pb cI zo))))) ++ (wOu ou cJ fo9)) H := (hP.sub (ws' := ((wDp ad o pa ka (fx 0) (sx 0)) ++ ((wOf o (x 0) (y 0)) ++ ((wFl x r cI cZ cQ w q d T st re rc (nI nz)) ++ ((wSt y rp rw rt cI cQ P n Wi Ti (nI nt)) ++ (wPl pa pb cI zo))))) ++ (wOu ou cJ fo9)) [1, 2, 3, 4, 5, 6, 7, 8, 9, 10, 11, 12, 13, 14, 15, 16, 17, 18, 19, 20, 21, 22, 23, 24, 25, 26, 27, 28, 29, 30, 31, 32, 33, 34, 35, 36, 37, 38, 39, 40, 41, 42, 43, 44, 0] rfl)
      have hD9 : va_D A (((wDp ad o pa ka (fx 0) (sx 0)) ++ ((wOf o (x 0) (y 0)) ++ ((wFl x r cI cZ cQ w q d T st re rc (nI nz)) ++ ((wSt y rp rw rt cI cQ P n Wi Ti (nI nt)) ++ (wPl pa pb cI zo))))) ++ (wOu ou cJ fo9)) := (hD.sub (ws' := ((wDp ad o pa ka (fx 0) (sx 0)) ++ ((wOf o (x 0) (y 0)) ++ ((wFl x r cI cZ cQ w q d T st re rc (nI nz)) ++ ((wSt y rp rw rt cI cQ P n Wi Ti (nI nt)) ++ (wPl pa pb cI zo))))) ++ (wOu ou cJ fo9)) [1, 2, 3, 4, 5, 6, 7, 8, 9, 10, 11, 12, 13, 14, 15, 16, 17, 18, 19, 20, 21, 22, 23, 24, 25, 26, 27, 28, 29, 30, 31, 32, 33, 34, 35, 36, 37, 38, 39, 40, 41, 42, 43, 44, 0] (by decide) rfl)
      have g_9 : sSetPresent nt P n d zo t j9 m9 3 (0 : Int32) P n := hsx
      have g_10 : 3 = 0 → fo9 0 = (0 : Int32).toInt64 := fun h9 => absurd h9 (by decide)
      refine W.widen (k := 4) (n := 24) (by omega) (by omega) ?_
      exact vx_ret (W.iret (v := nI 3) hx hb hr (fun t9 ht9 hW9 => ⟨⟨nI 3, (3, (0 : Int32), P, n, fo9), rfl, ⟨rfl, g_9, g_10⟩, by rw [ht9]; exact hP9, hD9⟩, hS.F ht9⟩) hS.2.2 dL_setPresent_26)
  · obtain ⟨j_1, j_2, j_3⟩ := u_4
    obtain ⟨er_9, f_11⟩ := hw9
    replace er_9 := er_9.symm
    subst er_9
    have hs9 : sSetPresent nt P n d zo t j9 m9 0 j_1 j_2 j_3 := f_11
    have hP : va_P D vwCl ((wOu ou cJ fo9) ++ ((wDp ad o pa ka (fx 0) (sx 0)) ++ ((wOf o (x 0) (y 0)) ++ ((wFl x r cI cZ cQ w q d T st re rc (nI nz)) ++ ((wSt y rp rw rt cI cQ j_2 j_3 Wi Ti (nI nt)) ++ (wPl pa pb cI zo)))))) H := hP
    have hD : va_D A ((wOu ou cJ fo9) ++ ((wDp ad o pa ka (fx 0) (sx 0)) ++ ((wOf o (x 0) (y 0)) ++ ((wFl x r cI cZ cQ w q d T st re rc (nI nz)) ++ ((wSt y rp rw rt cI cQ j_2 j_3 Wi Ti (nI nt)) ++ (wPl pa pb cI zo)))))) := hD
    refine lv_i2l (v := (j_1).toInt64) hx hb dL_setPresent_10 rfl ?_
    refine r_last hx hb hSt.1 hP hD hS 0 3 rfl rfl (k := 0) (by omega) (by omega) dL_setPresent_11 (fun H locs hP hD hS => ?_)
    have hP : va_P D vwCl ((wOu ou cJ (vp_updL fo9 0 ((j_1).toInt64))) ++ ((wDp ad o pa ka (fx 0) (sx 0)) ++ ((wOf o (x 0) (y 0)) ++ ((wFl x r cI cZ cQ w q d T st re rc (nI nz)) ++ ((wSt y rp rw rt cI cQ j_2 j_3 Wi Ti (nI nt)) ++ (wPl pa pb cI zo)))))) H := hP
    have hD : va_D A ((wOu ou cJ (vp_updL fo9 0 ((j_1).toInt64))) ++ ((wDp ad o pa ka (fx 0) (sx 0)) ++ ((wOf o (x 0) (y 0)) ++ ((wFl x r cI cZ cQ w q d T st re rc (nI nz)) ++ ((wSt y rp rw rt cI cQ j_2 j_3 Wi Ti (nI nt)) ++ (wPl pa pb cI zo)))))) := hD
    refine lv_goto (tgt := 27) hx hb dL_setPresent_12 (by decide) ?_
    refine lv_iconst (v := nI 0) hx hb dL_setPresent_27 (by decide) ?_
    have hP9 : va_P D vwCl (((wDp ad o pa ka (fx 0) (sx 0)) ++ ((wOf o (x 0) (y 0)) ++ ((wFl x r cI cZ cQ w q d T st re rc (nI nz)) ++ ((wSt y rp rw rt cI cQ j_2 j_3 Wi Ti (nI nt)) ++ (wPl pa pb cI zo))))) ++ (wOu ou cJ (vp_updL fo9 0 ((j_1).toInt64)))) H := (hP.sub (ws' := ((wDp ad o pa ka (fx 0) (sx 0)) ++ ((wOf o (x 0) (y 0)) ++ ((wFl x r cI cZ cQ w q d T st re rc (nI nz)) ++ ((wSt y rp rw rt cI cQ j_2 j_3 Wi Ti (nI nt)) ++ (wPl pa pb cI zo))))) ++ (wOu ou cJ (vp_updL fo9 0 ((j_1).toInt64)))) [1, 2, 3, 4, 5, 6, 7, 8, 9, 10, 11, 12, 13, 14, 15, 16, 17, 18, 19, 20, 21, 22, 23, 24, 25, 26, 27, 28, 29, 30, 31, 32, 33, 34, 35, 36, 37, 38, 39, 40, 41, 42, 43, 44, 0] rfl)
    have hD9 : va_D A (((wDp ad o pa ka (fx 0) (sx 0)) ++ ((wOf o (x 0) (y 0)) ++ ((wFl x r cI cZ cQ w q d T st re rc (nI nz)) ++ ((wSt y rp rw rt cI cQ j_2 j_3 Wi Ti (nI nt)) ++ (wPl pa pb cI zo))))) ++ (wOu ou cJ (vp_updL fo9 0 ((j_1).toInt64)))) := (hD.sub (ws' := ((wDp ad o pa ka (fx 0) (sx 0)) ++ ((wOf o (x 0) (y 0)) ++ ((wFl x r cI cZ cQ w q d T st re rc (nI nz)) ++ ((wSt y rp rw rt cI cQ j_2 j_3 Wi Ti (nI nt)) ++ (wPl pa pb cI zo))))) ++ (wOu ou cJ (vp_updL fo9 0 ((j_1).toInt64)))) [1, 2, 3, 4, 5, 6, 7, 8, 9, 10, 11, 12, 13, 14, 15, 16, 17, 18, 19, 20, 21, 22, 23, 24, 25, 26, 27, 28, 29, 30, 31, 32, 33, 34, 35, 36, 37, 38, 39, 40, 41, 42, 43, 44, 0] (by decide) rfl)
    have g_12 : sSetPresent nt P n d zo t j9 m9 0 j_1 j_2 j_3 := hs9
    have g_13 : 0 = 0 → (vp_updL fo9 0 ((j_1).toInt64)) 0 = j_1.toInt64 := fun _ => pk_uLs
    refine W.widen (k := 4) (n := 24) (by omega) (by omega) ?_
    exact vx_ret (W.iret (v := nI 0) hx hb hr (fun t9 ht9 hW9 => ⟨⟨nI 0, (0, j_1, j_2, j_3, vp_updL fo9 0 ((j_1).toInt64)), rfl, ⟨rfl, g_12, g_13⟩, by rw [ht9]; exact hP9, hD9⟩, hS.F ht9⟩) hS.2.2 dL_setPresent_28)
set_option maxHeartbeats 4000000 in
set_option maxRecDepth 100000 in
theorem c_L_setWish (l : Launch) (D : va_G) (cI cZ cQ cJ : ClassId) (ad : Nat) (o : Nat) (pa : Nat) (ka : Nat) (fx : Nat → Nat) (sx : Nat → Nat) (x : Nat → Nat) (r : Nat → Nat) (w : Nat → Int32) (q : Nat → Int32) (d : Nat → Int32) (T : Nat → Nat → Int32) (st : Nat → Int32) (re : Nat → Int32) (rc : Int32) (nz : Nat) (y : Nat → Nat) (rp : Nat → Nat) (rw : Nat → Nat) (rt : Nat → Nat) (P : Nat → Nat → Int32) (n : Nat → Int32) (Wi : Nat → Nat → Int32) (Ti : Nat → Nat → Int32) (nt : Nat) (t : Int32) (z : Int32) (m9 : Int32) (ou : Nat) (fo9 : Nat → Int64) (sz : Nat) (hnz : nz ≤ 7) (hnt : nt ≤ 7) (hfl : l.stackTraces = false) : vx_Met l yL_setWish (.codeWith yL_setWish cL_setWish 6 (some .int) [(0, 12, 15, 13), (0, 12, 19, 21)] :: ALL) ({ frames := 8, cells := 3, slots := 18, locals := 129 } : Room) (va_Pc [.ref ad, .int t, .int z, .int m9, .ref ou] (rx_P D cI cZ cQ cJ (((wDp ad o pa ka (fx 0) (sx 0)) ++ ((wOf o (x 0) (y 0)) ++ ((wFl x r cI cZ cQ w q d T st re rc (nI nz)) ++ (wSt y rp rw rt cI cQ P n Wi Ti (nI nt))))) ++ (wOu ou cJ fo9)) sz)) (va_Qi (fun (r9 : Int32) (u9 : Nat × Int32 × (Nat → Nat → Int32) × (Nat → Int64)) => (r9 = (nI u9.1)) ∧ (sSetWish nt nz Wi t z m9 u9.1 u9.2.1 u9.2.2.1) ∧ (u9.1 = 0 → u9.2.2.2 0 = u9.2.1.toInt64)) (rw_B D (va_A (((wDp ad o pa ka (fx 0) (sx 0)) ++ ((wOf o (x 0) (y 0)) ++ ((wFl x r cI cZ cQ w q d T st re rc (nI nz)) ++ (wSt y rp rw rt cI cQ P n Wi Ti (nI nt))))) ++ (wOu ou cJ fo9)) sz) (fun u9 : Nat × Int32 × (Nat → Nat → Int32) × (Nat → Int64) => ((wDp ad o pa ka (fx 0) (sx 0)) ++ ((wOf o (x 0) (y 0)) ++ ((wFl x r cI cZ cQ w q d T st re rc (nI nz)) ++ (wSt y rp rw rt cI cQ P n u9.2.2.1 Ti (nI nt))))) ++ (wOu ou cJ u9.2.2.2))) (va_A (((wDp ad o pa ka (fx 0) (sx 0)) ++ ((wOf o (x 0) (y 0)) ++ ((wFl x r cI cZ cQ w q d T st re rc (nI nz)) ++ (wSt y rp rw rt cI cQ P n Wi Ti (nI nt))))) ++ (wOu ou cJ fo9)) sz)) (rx_X (fun (E9 : String) (x9 : Unit) => False) D (va_A (((wDp ad o pa ka (fx 0) (sx 0)) ++ ((wOf o (x 0) (y 0)) ++ ((wFl x r cI cZ cQ w q d T st re rc (nI nz)) ++ (wSt y rp rw rt cI cQ P n Wi Ti (nI nt))))) ++ (wOu ou cJ fo9)) sz) (fun x9 : Unit => ((wDp ad o pa ka (fx 0) (sx 0)) ++ ((wOf o (x 0) (y 0)) ++ ((wFl x r cI cZ cQ w q d T st re rc (nI nz)) ++ (wSt y rp rw rt cI cQ P n Wi Ti (nI nt))))) ++ (wOu ou cJ fo9))) 3 18 (va_A (((wDp ad o pa ka (fx 0) (sx 0)) ++ ((wOf o (x 0) (y 0)) ++ ((wFl x r cI cZ cQ w q d T st re rc (nI nz)) ++ (wSt y rp rw rt cI cQ P n Wi Ti (nI nt))))) ++ (wOu ou cJ fo9)) sz) := by
  refine vx_ofWH (cc := cL_setWish) (maxL := 6) (ret := (some .int)) (hh := [(0, 12, 15, 13), (0, 12, 19, 21)]) (by decide) rfl ?_
  intro p e s m args below meth c s₁ B hml hv
  obtain ⟨rfl, ⟨hsz, hP, hSt, hD0⟩, hDc, hZ⟩ := hv
  change W p l e ({ frames := 8, cells := 3, slots := 18, locals := 129 } : Room) s m _ below meth c s.heap [] 0 0 _ _
  have hx := B.exec
  have hb := B.bytes
  have hr := B.returns
  have hts : ∀ w ∈ ALL, w.before ([.ref ad, .int t, .int z, .int m9, .ref ou] : List Value).toArray s = true := fun w h => atoms_spec (ws := (.codeWith yL_setWish cL_setWish 6 (some .int) [(0, 12, 15, 13), (0, 12, 19, 21)] :: ALL)) B.pre w (List.mem_cons_of_mem _ h)
  have hown : s.vm.findClass RL = some m.cls := findClass_of_methodNamed B.named
  have hlocks := B.notSynchronized
  have htb : c.exceptionTable.toList = tableOf [(0, 12, 15, 13), (0, 12, 19, 21)] := vx_table (x := yL_setWish) B (atoms_spec (ws := (.codeWith yL_setWish cL_setWish 6 (some .int) [(0, 12, 15, 13), (0, 12, 19, 21)] :: ALL)) B.pre _ List.mem_cons_self)
  subst hsz
  have hD := hD0.self (sz := s.heap.size)
  clear hD0
  generalize hAe : va_A (((wDp ad o pa ka (fx 0) (sx 0)) ++ ((wOf o (x 0) (y 0)) ++ ((wFl x r cI cZ cQ w q d T st re rc (nI nz)) ++ (wSt y rp rw rt cI cQ P n Wi Ti (nI nt))))) ++ (wOu ou cJ fo9)) s.heap.size = A at hD hZ ⊢
  have hA : ∀ q : Nat, s.heap.size ≤ q → A q := fun q h => by rw [← hAe]; exact Or.inr h
  have hS : va_S A s.heap s.heap [] := va_S.rf
  have hl := lv_entry ([.ref ad, .int t, .int z, .int m9, .ref ou]) (n := 6) (Nat.le_of_ble_eq_true rfl)
  rw [lg_entry_eq]
  generalize (lg_sl ([.ref ad, .int t, .int z, .int m9, .ref ou]) ++ List.replicate (6 - (lg_sl ([.ref ad, .int t, .int z, .int m9, .ref ou])).length) Slot.unset).toArray = ls at hl ⊢
  have hl : lv_has ls 6 [(0, .ref ad), (1, .int t), (2, .int z), (3, .int m9), (4, .ref ou)] := hl
  obtain ⟨H, hHe⟩ : ∃ H : Heap, H = s.heap := ⟨_, rfl⟩
  obtain ⟨locs, hLe⟩ : ∃ L : List Loc, L = [] := ⟨_, rfl⟩
  have hP : va_P D vwCl (((wDp ad o pa ka (fx 0) (sx 0)) ++ ((wOf o (x 0) (y 0)) ++ ((wFl x r cI cZ cQ w q d T st re rc (nI nz)) ++ (wSt y rp rw rt cI cQ P n Wi Ti (nI nt))))) ++ (wOu ou cJ fo9)) H := by rw [hHe]; exact hP
  have hS : va_S A s.heap H locs := by rw [hHe, hLe]; exact hS
  refine W.eqHL hHe hLe ?_
  refine lv_aload hx hb dL_setWish_0 (lv_at hl 4 rfl) ?_
  refine lv_iconst (v := nI 0) hx hb dL_setWish_2 (by decide) ?_
  refine lv_aload_n hx hb dL_setWish_3 rfl (lv_at hl 0 rfl) ?_
  refine lv_iload_n hx hb dL_setWish_4 rfl (lv_at hl 1 rfl) ?_
  refine lv_iload_n hx hb dL_setWish_5 rfl (lv_at hl 2 rfl) ?_
  refine lv_iload_n hx hb dL_setWish_6 rfl (lv_at hl 3 rfl) ?_
  refine rx_i (wr := wOu ou cJ fo9) (w_VX (As := [.int t, .int z, .int m9]) ⟨hx, hb, hml, hown, hts⟩ (c_X7_setWish l D cI cZ cQ cJ ad o pa ka fx sx x r w q d T st re rc nz y rp rw rt P n Wi Ti nt t z m9 H.size (by first | assumption | omega) (by first | assumption | omega) (by first | assumption | omega)) (gV t3_67 t3_68 t3_69 t1_1 t3_70) rfl rfl hd_X7_setWish ⟨Nat.le_of_ble_eq_true rfl, Nat.le_of_ble_eq_true rfl⟩ (rx_pre hP hD hSt hDc hZ hS hA [0, 1, 2, 3, 4, 5, 6, 7, 8, 9, 10, 11, 12, 13, 14, 15, 16, 17, 18, 19, 20, 21, 22, 23, 24, 25, 26, 27, 28, 29, 30, 31, 32, 33, 34, 35, 36, 37, 38, 39, 40, 41] rfl (by decide)) (va_recv hSt.1 hP (ci := 7) (q0 := 0) rfl rfl) rfl hl.1 (rest := [.int (nI 0), .ref ou]) rfl (Nat.le_of_ble_eq_true rfl) dL_setWish_7 ⟨Nat.le_of_ble_eq_true rfl, Nat.le_of_ble_eq_true rfl⟩) hP hD hS hA [0, 1, 2, 3, 4, 5, 6, 7, 8, 9, 10, 11, 12, 13, 14, 15, 16, 17, 18, 19, 20, 21, 22, 23, 24, 25, 26, 27, 28, 29, 30, 31, 32, 33, 34, 35, 36, 37, 38, 39, 40, 41] [42] rfl rfl (by decide) (by decide) (fun E9 ce9 q9 x9 H locs hx9 hP hD hS hc91 hc92 hc93 => ?_) (fun r_9 u_3 H locs hw9 hP hD hS => ?_)
  · have hx9 : (E9 = "java/lang/IndexOutOfBoundsException" ∧ sSetWish nt nz Wi t z m9 1 0 Wi) ∨ (E9 = "java/lang/IllegalArgumentException" ∧ sSetWish nt nz Wi t z m9 2 0 Wi) := hx9
    have hP : va_P D vwCl ((wOu ou cJ fo9) ++ ((wDp ad o pa ka (fx 0) (sx 0)) ++ ((wOf o (x 0) (y 0)) ++ ((wFl x r cI cZ cQ w q d T st re rc (nI nz)) ++ (wSt y rp rw rt cI cQ P n Wi Ti (nI nt)))))) H := hP
    have hD : va_D A ((wOu ou cJ fo9) ++ ((wDp ad o pa ka (fx 0) (sx 0)) ++ ((wOf o (x 0) (y 0)) ++ ((wFl x r cI cZ cQ w q d T st re rc (nI nz)) ++ (wSt y rp rw rt cI cQ P n Wi Ti (nI nt)))))) := hD
    rcases hx9 with ⟨rfl, hsx⟩ | ⟨rfl, hsx⟩
    · refine vx_catch (own := RL) hown [] ⟨0, 12, 15, 13⟩ [⟨0, 12, 19, 21⟩] (by rw [htb]; rfl) (fun _ h9 => nomatch h9) (by decide) (by decide) (hts _ t2_88) (hSt.2.e 0 rfl) hc91 hc92 hc93 ?_
      refine lv_astore (lv' := [(5, .ref q9), (0, .ref ad), (1, .int t), (2, .int z), (3, .int m9), (4, .ref ou)]) hx hb dL_setWish_15 hl (by decide) rfl (fun ls hl => ?_)
      refine lv_iconst (v := nI 1) hx hb dL_setWish_17 (by decide) ?_
      have hP9 : va_P D vwCl (((wDp ad o pa ka (fx 0) (sx 0)) ++ ((wOf o (x 0) (y 0)) ++ ((wFl x r cI cZ cQ w q d T st re rc (nI nz)) ++ (wSt y rp rw rt cI cQ P n Wi Ti (nI nt))))) ++ (wOu ou cJ fo9)) H := (hP.sub (ws' := ((wDp ad o pa ka (fx 0) (sx 0)) ++ ((wOf o (x 0) (y 0)) ++ ((wFl x r cI cZ cQ w q d T st re rc (nI nz)) ++ (wSt y rp rw rt cI cQ P n Wi Ti (nI nt))))) ++ (wOu ou cJ fo9)) [1, 2, 3, 4, 5, 6, 7, 8, 9, 10, 11, 12, 13, 14, 15, 16, 17, 18, 19, 20, 21, 22, 23, 24, 25, 26, 27, 28, 29, 30, 31, 32, 33, 34, 35, 36, 37, 38, 39, 40, 41, 42, 0] rfl)
      have hD9 : va_D A (((wDp ad o pa ka (fx 0) (sx 0)) ++ ((wOf o (x 0) (y 0)) ++ ((wFl x r cI cZ cQ w q d T st re rc (nI nz)) ++ (wSt y rp rw rt cI cQ P n Wi Ti (nI nt))))) ++ (wOu ou cJ fo9)) := (hD.sub (ws' := ((wDp ad o pa ka (fx 0) (sx 0)) ++ ((wOf o (x 0) (y 0)) ++ ((wFl x r cI cZ cQ w q d T st re rc (nI nz)) ++ (wSt y rp rw rt cI cQ P n Wi Ti (nI nt))))) ++ (wOu ou cJ fo9)) [1, 2, 3, 4, 5, 6, 7, 8, 9, 10, 11, 12, 13, 14, 15, 16, 17, 18, 19, 20, 21, 22, 23, 24, 25, 26, 27, 28, 29, 30, 31, 32, 33, 34, 35, 36, 37, 38, 39, 40, 41, 42, 0] (by decide) rfl)
      have g_4 : sSetWish nt nz Wi t z m9 1 (0 : Int32) Wi := hsx
      have g_5 : 1 = 0 → fo9 0 = (0 : Int32).toInt64 := fun h9 => absurd h9 (by decide)
      refine W.widen (k := 3) (n := 18) (by omega) (by omega) ?_
      exact vx_ret (W.iret (v := nI 1) hx hb hr (fun t9 ht9 hW9 => ⟨⟨nI 1, (1, (0 : Int32), Wi, fo9), rfl, ⟨rfl, g_4, g_5⟩, by rw [ht9]; exact hP9, hD9⟩, hS.F ht9⟩) hS.2.2 dL_setWish_18)
    · refine vx_catch (own := RL) hown [⟨0, 12, 15, 13⟩] ⟨0, 12, 19, 21⟩ [] (by rw [htb]; rfl) (List.forall_mem_cons.mpr ⟨Or.inr ⟨by decide, _, hts _ t2_88, hSt.2.p 1 rfl⟩, fun _ h9 => nomatch h9⟩) (by decide) (by decide) (hts _ t2_213) (hSt.2.e 1 rfl) hc91 hc92 hc93 ?_
      refine lv_astore (lv' := [(5, .ref q9), (0, .ref ad), (1, .int t), (2, .int z), (3, .int m9), (4, .ref ou)]) hx hb dL_setWish_19 hl (by decide) rfl (fun ls hl => ?_)
      refine lv_iconst (v := nI 2) hx hb dL_setWish_21 (by decide) ?_
      have hP9 : va_P D vwCl (((wDp ad o pa ka (fx 0) (sx 0)) ++ ((wOf o (x 0) (y 0)) ++ ((wFl x r cI cZ cQ w q d T st re rc (nI nz)) ++ (wSt y rp rw rt cI cQ P n Wi Ti (nI nt))))) ++ (wOu ou cJ fo9)) H := (hP.sub (ws' := ((wDp ad o pa ka (fx 0) (sx 0)) ++ ((wOf o (x 0) (y 0)) ++ ((wFl x r cI cZ cQ w q d T st re rc (nI nz)) ++ (wSt y rp rw rt cI cQ P n Wi Ti (nI nt))))) ++ (wOu ou cJ fo9)) [1, 2, 3, 4, 5, 6, 7, 8, 9, 10, 11, 12, 13, 14, 15, 16, 17, 18, 19, 20, 21, 22, 23, 24, 25, 26, 27, 28, 29, 30, 31, 32, 33, 34, 35, 36, 37, 38, 39, 40, 41, 42, 0] rfl)
      have hD9 : va_D A (((wDp ad o pa ka (fx 0) (sx 0)) ++ ((wOf o (x 0) (y 0)) ++ ((wFl x r cI cZ cQ w q d T st re rc (nI nz)) ++ (wSt y rp rw rt cI cQ P n Wi Ti (nI nt))))) ++ (wOu ou cJ fo9)) := (hD.sub (ws' := ((wDp ad o pa ka (fx 0) (sx 0)) ++ ((wOf o (x 0) (y 0)) ++ ((wFl x r cI cZ cQ w q d T st re rc (nI nz)) ++ (wSt y rp rw rt cI cQ P n Wi Ti (nI nt))))) ++ (wOu ou cJ fo9)) [1, 2, 3, 4, 5, 6, 7, 8, 9, 10, 11, 12, 13, 14, 15, 16, 17, 18, 19, 20, 21, 22, 23, 24, 25, 26, 27, 28, 29, 30, 31, 32, 33, 34, 35, 36, 37, 38, 39, 40, 41, 42, 0] (by decide) rfl)
      have g_6 : sSetWish nt nz Wi t z m9 2 (0 : Int32) Wi := hsx
      have g_7 : 2 = 0 → fo9 0 = (0 : Int32).toInt64 := fun h9 => absurd h9 (by decide)
      refine W.widen (k := 3) (n := 18) (by omega) (by omega) ?_
      exact vx_ret (W.iret (v := nI 2) hx hb hr (fun t9 ht9 hW9 => ⟨⟨nI 2, (2, (0 : Int32), Wi, fo9), rfl, ⟨rfl, g_6, g_7⟩, by rw [ht9]; exact hP9, hD9⟩, hS.F ht9⟩) hS.2.2 dL_setWish_22)
  · obtain ⟨j_1, j_2⟩ := u_3
    obtain ⟨er_9, f_8⟩ := hw9
    replace er_9 := er_9.symm
    subst er_9
    have hs9 : sSetWish nt nz Wi t z m9 0 j_1 j_2 := f_8
    have hP : va_P D vwCl ((wOu ou cJ fo9) ++ ((wDp ad o pa ka (fx 0) (sx 0)) ++ ((wOf o (x 0) (y 0)) ++ ((wFl x r cI cZ cQ w q d T st re rc (nI nz)) ++ (wSt y rp rw rt cI cQ P n j_2 Ti (nI nt)))))) H := hP
    have hD : va_D A ((wOu ou cJ fo9) ++ ((wDp ad o pa ka (fx 0) (sx 0)) ++ ((wOf o (x 0) (y 0)) ++ ((wFl x r cI cZ cQ w q d T st re rc (nI nz)) ++ (wSt y rp rw rt cI cQ P n j_2 Ti (nI nt)))))) := hD
    refine lv_i2l (v := (j_1).toInt64) hx hb dL_setWish_10 rfl ?_
    refine r_last hx hb hSt.1 hP hD hS 0 3 rfl rfl (k := 0) (by omega) (by omega) dL_setWish_11 (fun H locs hP hD hS => ?_)
    have hP : va_P D vwCl ((wOu ou cJ (vp_updL fo9 0 ((j_1).toInt64))) ++ ((wDp ad o pa ka (fx 0) (sx 0)) ++ ((wOf o (x 0) (y 0)) ++ ((wFl x r cI cZ cQ w q d T st re rc (nI nz)) ++ (wSt y rp rw rt cI cQ P n j_2 Ti (nI nt)))))) H := hP
    have hD : va_D A ((wOu ou cJ (vp_updL fo9 0 ((j_1).toInt64))) ++ ((wDp ad o pa ka (fx 0) (sx 0)) ++ ((wOf o (x 0) (y 0)) ++ ((wFl x r cI cZ cQ w q d T st re rc (nI nz)) ++ (wSt y rp rw rt cI cQ P n j_2 Ti (nI nt)))))) := hD
    refine lv_goto (tgt := 23) hx hb dL_setWish_12 (by decide) ?_
    refine lv_iconst (v := nI 0) hx hb dL_setWish_23 (by decide) ?_
    have hP9 : va_P D vwCl (((wDp ad o pa ka (fx 0) (sx 0)) ++ ((wOf o (x 0) (y 0)) ++ ((wFl x r cI cZ cQ w q d T st re rc (nI nz)) ++ (wSt y rp rw rt cI cQ P n j_2 Ti (nI nt))))) ++ (wOu ou cJ (vp_updL fo9 0 ((j_1).toInt64)))) H := (hP.sub (ws' := ((wDp ad o pa ka (fx 0) (sx 0)) ++ ((wOf o (x 0) (y 0)) ++ ((wFl x r cI cZ cQ w q d T st re rc (nI nz)) ++ (wSt y rp rw rt cI cQ P n j_2 Ti (nI nt))))) ++ (wOu ou cJ (vp_updL fo9 0 ((j_1).toInt64)))) [1, 2, 3, 4, 5, 6, 7, 8, 9, 10, 11, 12, 13, 14, 15, 16, 17, 18, 19, 20, 21, 22, 23, 24, 25, 26, 27, 28, 29, 30, 31, 32, 33, 34, 35, 36, 37, 38, 39, 40, 41, 42, 0] rfl)
    have hD9 : va_D A (((wDp ad o pa ka (fx 0) (sx 0)) ++ ((wOf o (x 0) (y 0)) ++ ((wFl x r cI cZ cQ w q d T st re rc (nI nz)) ++ (wSt y rp rw rt cI cQ P n j_2 Ti (nI nt))))) ++ (wOu ou cJ (vp_updL fo9 0 ((j_1).toInt64)))) := (hD.sub (ws' := ((wDp ad o pa ka (fx 0) (sx 0)) ++ ((wOf o (x 0) (y 0)) ++ ((wFl x r cI cZ cQ w q d T st re rc (nI nz)) ++ (wSt y rp rw rt cI cQ P n j_2 Ti (nI nt))))) ++ (wOu ou cJ (vp_updL fo9 0 ((j_1).toInt64)))) [1, 2, 3, 4, 5, 6, 7, 8, 9, 10, 11, 12, 13, 14, 15, 16, 17, 18, 19, 20, 21, 22, 23, 24, 25, 26, 27, 28, 29, 30, 31, 32, 33, 34, 35, 36, 37, 38, 39, 40, 41, 42, 0] (by decide) rfl)
    have g_9 : sSetWish nt nz Wi t z m9 0 j_1 j_2 := hs9
    have g_10 : 0 = 0 → (vp_updL fo9 0 ((j_1).toInt64)) 0 = j_1.toInt64 := fun _ => pk_uLs
    refine W.widen (k := 3) (n := 18) (by omega) (by omega) ?_
    exact vx_ret (W.iret (v := nI 0) hx hb hr (fun t9 ht9 hW9 => ⟨⟨nI 0, (0, j_1, j_2, vp_updL fo9 0 ((j_1).toInt64)), rfl, ⟨rfl, g_9, g_10⟩, by rw [ht9]; exact hP9, hD9⟩, hS.F ht9⟩) hS.2.2 dL_setWish_24)
set_option maxHeartbeats 4000000 in
set_option maxRecDepth 100000 in
theorem c_L_setTie (l : Launch) (D : va_G) (cI cZ cQ cJ : ClassId) (ad : Nat) (o : Nat) (pa : Nat) (ka : Nat) (fx : Nat → Nat) (sx : Nat → Nat) (x : Nat → Nat) (y : Nat → Nat) (rp : Nat → Nat) (rw : Nat → Nat) (rt : Nat → Nat) (P : Nat → Nat → Int32) (n : Nat → Int32) (Wi : Nat → Nat → Int32) (Ti : Nat → Nat → Int32) (nt : Nat) (t : Int32) (z : Int32) (m9 : Int32) (ou : Nat) (fo9 : Nat → Int64) (sz : Nat) (hnt : nt ≤ 7) (hfl : l.stackTraces = false) : vx_Met l yL_setTie (.codeWith yL_setTie cL_setTie 6 (some .int) [(0, 12, 15, 13), (0, 12, 19, 21)] :: ALL) ({ frames := 8, cells := 4, slots := 24, locals := 128 } : Room) (va_Pc [.ref ad, .int t, .int z, .int m9, .ref ou] (rx_P D cI cZ cQ cJ (((wDp ad o pa ka (fx 0) (sx 0)) ++ ((wOf o (x 0) (y 0)) ++ (wSt y rp rw rt cI cQ P n Wi Ti (nI nt)))) ++ (wOu ou cJ fo9)) sz)) (va_Qi (fun (r9 : Int32) (u9 : Nat × Int32 × (Nat → Nat → Int32) × (Nat → Int64)) => (r9 = (nI u9.1)) ∧ (sSetTie nt Ti t z m9 u9.1 u9.2.1 u9.2.2.1) ∧ (u9.1 = 0 → u9.2.2.2 0 = u9.2.1.toInt64)) (rw_B D (va_A (((wDp ad o pa ka (fx 0) (sx 0)) ++ ((wOf o (x 0) (y 0)) ++ (wSt y rp rw rt cI cQ P n Wi Ti (nI nt)))) ++ (wOu ou cJ fo9)) sz) (fun u9 : Nat × Int32 × (Nat → Nat → Int32) × (Nat → Int64) => ((wDp ad o pa ka (fx 0) (sx 0)) ++ ((wOf o (x 0) (y 0)) ++ (wSt y rp rw rt cI cQ P n Wi u9.2.2.1 (nI nt)))) ++ (wOu ou cJ u9.2.2.2))) (va_A (((wDp ad o pa ka (fx 0) (sx 0)) ++ ((wOf o (x 0) (y 0)) ++ (wSt y rp rw rt cI cQ P n Wi Ti (nI nt)))) ++ (wOu ou cJ fo9)) sz)) (rx_X (fun (E9 : String) (x9 : Unit) => False) D (va_A (((wDp ad o pa ka (fx 0) (sx 0)) ++ ((wOf o (x 0) (y 0)) ++ (wSt y rp rw rt cI cQ P n Wi Ti (nI nt)))) ++ (wOu ou cJ fo9)) sz) (fun x9 : Unit => ((wDp ad o pa ka (fx 0) (sx 0)) ++ ((wOf o (x 0) (y 0)) ++ (wSt y rp rw rt cI cQ P n Wi Ti (nI nt)))) ++ (wOu ou cJ fo9))) 4 24 (va_A (((wDp ad o pa ka (fx 0) (sx 0)) ++ ((wOf o (x 0) (y 0)) ++ (wSt y rp rw rt cI cQ P n Wi Ti (nI nt)))) ++ (wOu ou cJ fo9)) sz) := by
  refine vx_ofWH (cc := cL_setTie) (maxL := 6) (ret := (some .int)) (hh := [(0, 12, 15, 13), (0, 12, 19, 21)]) (by decide) rfl ?_
  intro p e s m args below meth c s₁ B hml hv
  obtain ⟨rfl, ⟨hsz, hP, hSt, hD0⟩, hDc, hZ⟩ := hv
  change W p l e ({ frames := 8, cells := 4, slots := 24, locals := 128 } : Room) s m _ below meth c s.heap [] 0 0 _ _
  have hx := B.exec
  have hb := B.bytes
  have hr := B.returns
  have hts : ∀ w ∈ ALL, w.before ([.ref ad, .int t, .int z, .int m9, .ref ou] : List Value).toArray s = true := fun w h => atoms_spec (ws := (.codeWith yL_setTie cL_setTie 6 (some .int) [(0, 12, 15, 13), (0, 12, 19, 21)] :: ALL)) B.pre w (List.mem_cons_of_mem _ h)
  have hown : s.vm.findClass RL = some m.cls := findClass_of_methodNamed B.named
  have hlocks := B.notSynchronized
  have htb : c.exceptionTable.toList = tableOf [(0, 12, 15, 13), (0, 12, 19, 21)] := vx_table (x := yL_setTie) B (atoms_spec (ws := (.codeWith yL_setTie cL_setTie 6 (some .int) [(0, 12, 15, 13), (0, 12, 19, 21)] :: ALL)) B.pre _ List.mem_cons_self)
  subst hsz
  have hD := hD0.self (sz := s.heap.size)
  clear hD0
  generalize hAe : va_A (((wDp ad o pa ka (fx 0) (sx 0)) ++ ((wOf o (x 0) (y 0)) ++ (wSt y rp rw rt cI cQ P n Wi Ti (nI nt)))) ++ (wOu ou cJ fo9)) s.heap.size = A at hD hZ ⊢
  have hA : ∀ q : Nat, s.heap.size ≤ q → A q := fun q h => by rw [← hAe]; exact Or.inr h
  have hS : va_S A s.heap s.heap [] := va_S.rf
  have hl := lv_entry ([.ref ad, .int t, .int z, .int m9, .ref ou]) (n := 6) (Nat.le_of_ble_eq_true rfl)
  rw [lg_entry_eq]
  generalize (lg_sl ([.ref ad, .int t, .int z, .int m9, .ref ou]) ++ List.replicate (6 - (lg_sl ([.ref ad, .int t, .int z, .int m9, .ref ou])).length) Slot.unset).toArray = ls at hl ⊢
  have hl : lv_has ls 6 [(0, .ref ad), (1, .int t), (2, .int z), (3, .int m9), (4, .ref ou)] := hl
  obtain ⟨H, hHe⟩ : ∃ H : Heap, H = s.heap := ⟨_, rfl⟩
  obtain ⟨locs, hLe⟩ : ∃ L : List Loc, L = [] := ⟨_, rfl⟩
  have hP : va_P D vwCl (((wDp ad o pa ka (fx 0) (sx 0)) ++ ((wOf o (x 0) (y 0)) ++ (wSt y rp rw rt cI cQ P n Wi Ti (nI nt)))) ++ (wOu ou cJ fo9)) H := by rw [hHe]; exact hP
  have hS : va_S A s.heap H locs := by rw [hHe, hLe]; exact hS
  refine W.eqHL hHe hLe ?_
  refine lv_aload hx hb dL_setTie_0 (lv_at hl 4 rfl) ?_
  refine lv_iconst (v := nI 0) hx hb dL_setTie_2 (by decide) ?_
  refine lv_aload_n hx hb dL_setTie_3 rfl (lv_at hl 0 rfl) ?_
  refine lv_iload_n hx hb dL_setTie_4 rfl (lv_at hl 1 rfl) ?_
  refine lv_iload_n hx hb dL_setTie_5 rfl (lv_at hl 2 rfl) ?_
  refine lv_iload_n hx hb dL_setTie_6 rfl (lv_at hl 3 rfl) ?_
  refine rx_i (wr := wOu ou cJ fo9) (w_VX (As := [.int t, .int z, .int m9]) ⟨hx, hb, hml, hown, hts⟩ (c_X7_setTie l D cI cZ cQ cJ ad o pa ka fx sx x y rp rw rt P n Wi Ti nt t z m9 H.size (by first | assumption | omega) (by first | assumption | omega)) (gV t3_74 t3_75 t3_76 t1_1 t3_77) rfl rfl hd_X7_setTie ⟨Nat.le_of_ble_eq_true rfl, Nat.le_of_ble_eq_true rfl⟩ (rx_pre hP hD hSt hDc hZ hS hA [0, 1, 2, 3, 4, 5, 6, 7, 8, 9, 10, 11, 12, 13, 14, 15, 16, 17, 18, 19, 20, 21, 22, 23, 24, 25, 26, 27] rfl (by decide)) (va_recv hSt.1 hP (ci := 7) (q0 := 0) rfl rfl) rfl hl.1 (rest := [.int (nI 0), .ref ou]) rfl (Nat.le_of_ble_eq_true rfl) dL_setTie_7 ⟨Nat.le_of_ble_eq_true rfl, Nat.le_of_ble_eq_true rfl⟩) hP hD hS hA [0, 1, 2, 3, 4, 5, 6, 7, 8, 9, 10, 11, 12, 13, 14, 15, 16, 17, 18, 19, 20, 21, 22, 23, 24, 25, 26, 27] [28] rfl rfl (by decide) (by decide) (fun E9 ce9 q9 x9 H locs hx9 hP hD hS hc91 hc92 hc93 => ?_) (fun r_9 u_3 H locs hw9 hP hD hS => ?_)
  · have hx9 : (E9 = "java/lang/IndexOutOfBoundsException" ∧ sSetTie nt Ti t z m9 1 0 Ti) ∨ (E9 = "java/lang/IllegalArgumentException" ∧ sSetTie nt Ti t z m9 2 0 Ti) := hx9
    have hP : va_P D vwCl ((wOu ou cJ fo9) ++ ((wDp ad o pa ka (fx 0) (sx 0)) ++ ((wOf o (x 0) (y 0)) ++ (wSt y rp rw rt cI cQ P n Wi Ti (nI nt))))) H := hP
    have hD : va_D A ((wOu ou cJ fo9) ++ ((wDp ad o pa ka (fx 0) (sx 0)) ++ ((wOf o (x 0) (y 0)) ++ (wSt y rp rw rt cI cQ P n Wi Ti (nI nt))))) := hD
    rcases hx9 with ⟨rfl, hsx⟩ | ⟨rfl, hsx⟩
    · refine vx_catch (own := RL) hown [] ⟨0, 12, 15, 13⟩ [⟨0, 12, 19, 21⟩] (by rw [htb]; rfl) (fun _ h9 => nomatch h9) (by decide) (by decide) (hts _ t2_88) (hSt.2.e 0 rfl) hc91 hc92 hc93 ?_
      refine lv_astore (lv' := [(5, .ref q9), (0, .ref ad), (1, .int t), (2, .int z), (3, .int m9), (4, .ref ou)]) hx hb dL_setTie_15 hl (by decide) rfl (fun ls hl => ?_)
      refine lv_iconst (v := nI 1) hx hb dL_setTie_17 (by decide) ?_
      have hP9 : va_P D vwCl (((wDp ad o pa ka (fx 0) (sx 0)) ++ ((wOf o (x 0) (y 0)) ++ (wSt y rp rw rt cI cQ P n Wi Ti (nI nt)))) ++ (wOu ou cJ fo9)) H := (hP.sub (ws' := ((wDp ad o pa ka (fx 0) (sx 0)) ++ ((wOf o (x 0) (y 0)) ++ (wSt y rp rw rt cI cQ P n Wi Ti (nI nt)))) ++ (wOu ou cJ fo9)) [1, 2, 3, 4, 5, 6, 7, 8, 9, 10, 11, 12, 13, 14, 15, 16, 17, 18, 19, 20, 21, 22, 23, 24, 25, 26, 27, 28, 0] rfl)
      have hD9 : va_D A (((wDp ad o pa ka (fx 0) (sx 0)) ++ ((wOf o (x 0) (y 0)) ++ (wSt y rp rw rt cI cQ P n Wi Ti (nI nt)))) ++ (wOu ou cJ fo9)) := (hD.sub (ws' := ((wDp ad o pa ka (fx 0) (sx 0)) ++ ((wOf o (x 0) (y 0)) ++ (wSt y rp rw rt cI cQ P n Wi Ti (nI nt)))) ++ (wOu ou cJ fo9)) [1, 2, 3, 4, 5, 6, 7, 8, 9, 10, 11, 12, 13, 14, 15, 16, 17, 18, 19, 20, 21, 22, 23, 24, 25, 26, 27, 28, 0] (by decide) rfl)
      have g_4 : sSetTie nt Ti t z m9 1 (0 : Int32) Ti := hsx
      have g_5 : 1 = 0 → fo9 0 = (0 : Int32).toInt64 := fun h9 => absurd h9 (by decide)
      refine W.widen (k := 4) (n := 24) (by omega) (by omega) ?_
      exact vx_ret (W.iret (v := nI 1) hx hb hr (fun t9 ht9 hW9 => ⟨⟨nI 1, (1, (0 : Int32), Ti, fo9), rfl, ⟨rfl, g_4, g_5⟩, by rw [ht9]; exact hP9, hD9⟩, hS.F ht9⟩) hS.2.2 dL_setTie_18)
    · refine vx_catch (own := RL) hown [⟨0, 12, 15, 13⟩] ⟨0, 12, 19, 21⟩ [] (by rw [htb]; rfl) (List.forall_mem_cons.mpr ⟨Or.inr ⟨by decide, _, hts _ t2_88, hSt.2.p 1 rfl⟩, fun _ h9 => nomatch h9⟩) (by decide) (by decide) (hts _ t2_213) (hSt.2.e 1 rfl) hc91 hc92 hc93 ?_
      refine lv_astore (lv' := [(5, .ref q9), (0, .ref ad), (1, .int t), (2, .int z), (3, .int m9), (4, .ref ou)]) hx hb dL_setTie_19 hl (by decide) rfl (fun ls hl => ?_)
      refine lv_iconst (v := nI 2) hx hb dL_setTie_21 (by decide) ?_
      have hP9 : va_P D vwCl (((wDp ad o pa ka (fx 0) (sx 0)) ++ ((wOf o (x 0) (y 0)) ++ (wSt y rp rw rt cI cQ P n Wi Ti (nI nt)))) ++ (wOu ou cJ fo9)) H := (hP.sub (ws' := ((wDp ad o pa ka (fx 0) (sx 0)) ++ ((wOf o (x 0) (y 0)) ++ (wSt y rp rw rt cI cQ P n Wi Ti (nI nt)))) ++ (wOu ou cJ fo9)) [1, 2, 3, 4, 5, 6, 7, 8, 9, 10, 11, 12, 13, 14, 15, 16, 17, 18, 19, 20, 21, 22, 23, 24, 25, 26, 27, 28, 0] rfl)
      have hD9 : va_D A (((wDp ad o pa ka (fx 0) (sx 0)) ++ ((wOf o (x 0) (y 0)) ++ (wSt y rp rw rt cI cQ P n Wi Ti (nI nt)))) ++ (wOu ou cJ fo9)) := (hD.sub (ws' := ((wDp ad o pa ka (fx 0) (sx 0)) ++ ((wOf o (x 0) (y 0)) ++ (wSt y rp rw rt cI cQ P n Wi Ti (nI nt)))) ++ (wOu ou cJ fo9)) [1, 2, 3, 4, 5, 6, 7, 8, 9, 10, 11, 12, 13, 14, 15, 16, 17, 18, 19, 20, 21, 22, 23, 24, 25, 26, 27, 28, 0] (by decide) rfl)
      have g_6 : sSetTie nt Ti t z m9 2 (0 : Int32) Ti := hsx
      have g_7 : 2 = 0 → fo9 0 = (0 : Int32).toInt64 := fun h9 => absurd h9 (by decide)
      refine W.widen (k := 4) (n := 24) (by omega) (by omega) ?_
      exact vx_ret (W.iret (v := nI 2) hx hb hr (fun t9 ht9 hW9 => ⟨⟨nI 2, (2, (0 : Int32), Ti, fo9), rfl, ⟨rfl, g_6, g_7⟩, by rw [ht9]; exact hP9, hD9⟩, hS.F ht9⟩) hS.2.2 dL_setTie_22)
  · obtain ⟨j_1, j_2⟩ := u_3
    obtain ⟨er_9, f_8⟩ := hw9
    replace er_9 := er_9.symm
    subst er_9
    have hs9 : sSetTie nt Ti t z m9 0 j_1 j_2 := f_8
    have hP : va_P D vwCl ((wOu ou cJ fo9) ++ ((wDp ad o pa ka (fx 0) (sx 0)) ++ ((wOf o (x 0) (y 0)) ++ (wSt y rp rw rt cI cQ P n Wi j_2 (nI nt))))) H := hP
    have hD : va_D A ((wOu ou cJ fo9) ++ ((wDp ad o pa ka (fx 0) (sx 0)) ++ ((wOf o (x 0) (y 0)) ++ (wSt y rp rw rt cI cQ P n Wi j_2 (nI nt))))) := hD
    refine lv_i2l (v := (j_1).toInt64) hx hb dL_setTie_10 rfl ?_
    refine r_last hx hb hSt.1 hP hD hS 0 3 rfl rfl (k := 0) (by omega) (by omega) dL_setTie_11 (fun H locs hP hD hS => ?_)
    have hP : va_P D vwCl ((wOu ou cJ (vp_updL fo9 0 ((j_1).toInt64))) ++ ((wDp ad o pa ka (fx 0) (sx 0)) ++ ((wOf o (x 0) (y 0)) ++ (wSt y rp rw rt cI cQ P n Wi j_2 (nI nt))))) H := hP
    have hD : va_D A ((wOu ou cJ (vp_updL fo9 0 ((j_1).toInt64))) ++ ((wDp ad o pa ka (fx 0) (sx 0)) ++ ((wOf o (x 0) (y 0)) ++ (wSt y rp rw rt cI cQ P n Wi j_2 (nI nt))))) := hD
    refine lv_goto (tgt := 23) hx hb dL_setTie_12 (by decide) ?_
    refine lv_iconst (v := nI 0) hx hb dL_setTie_23 (by decide) ?_
    have hP9 : va_P D vwCl (((wDp ad o pa ka (fx 0) (sx 0)) ++ ((wOf o (x 0) (y 0)) ++ (wSt y rp rw rt cI cQ P n Wi j_2 (nI nt)))) ++ (wOu ou cJ (vp_updL fo9 0 ((j_1).toInt64)))) H := (hP.sub (ws' := ((wDp ad o pa ka (fx 0) (sx 0)) ++ ((wOf o (x 0) (y 0)) ++ (wSt y rp rw rt cI cQ P n Wi j_2 (nI nt)))) ++ (wOu ou cJ (vp_updL fo9 0 ((j_1).toInt64)))) [1, 2, 3, 4, 5, 6, 7, 8, 9, 10, 11, 12, 13, 14, 15, 16, 17, 18, 19, 20, 21, 22, 23, 24, 25, 26, 27, 28, 0] rfl)
    have hD9 : va_D A (((wDp ad o pa ka (fx 0) (sx 0)) ++ ((wOf o (x 0) (y 0)) ++ (wSt y rp rw rt cI cQ P n Wi j_2 (nI nt)))) ++ (wOu ou cJ (vp_updL fo9 0 ((j_1).toInt64)))) := (hD.sub (ws' := ((wDp ad o pa ka (fx 0) (sx 0)) ++ ((wOf o (x 0) (y 0)) ++ (wSt y rp rw rt cI cQ P n Wi j_2 (nI nt)))) ++ (wOu ou cJ (vp_updL fo9 0 ((j_1).toInt64)))) [1, 2, 3, 4, 5, 6, 7, 8, 9, 10, 11, 12, 13, 14, 15, 16, 17, 18, 19, 20, 21, 22, 23, 24, 25, 26, 27, 28, 0] (by decide) rfl)
    have g_9 : sSetTie nt Ti t z m9 0 j_1 j_2 := hs9
    have g_10 : 0 = 0 → (vp_updL fo9 0 ((j_1).toInt64)) 0 = j_1.toInt64 := fun _ => pk_uLs
    refine W.widen (k := 4) (n := 24) (by omega) (by omega) ?_
    exact vx_ret (W.iret (v := nI 0) hx hb hr (fun t9 ht9 hW9 => ⟨⟨nI 0, (0, j_1, j_2, vp_updL fo9 0 ((j_1).toInt64)), rfl, ⟨rfl, g_9, g_10⟩, by rw [ht9]; exact hP9, hD9⟩, hS.F ht9⟩) hS.2.2 dL_setTie_24)
set_option maxHeartbeats 4000000 in
set_option maxRecDepth 100000 in
theorem c_L_place (l : Launch) (D : va_G) (cI cZ cQ cJ : ClassId) (ad : Nat) (o : Nat) (pa : Nat) (ka : Nat) (fx : Nat → Nat) (sx : Nat → Nat) (x : Nat → Nat) (r : Nat → Nat) (w : Nat → Int32) (q : Nat → Int32) (d : Nat → Int32) (T : Nat → Nat → Int32) (st : Nat → Int32) (re : Nat → Int32) (rc : Int32) (nz : Nat) (y : Nat → Nat) (rp : Nat → Nat) (rw : Nat → Nat) (rt : Nat → Nat) (P : Nat → Nat → Int32) (n : Nat → Int32) (Wi : Nat → Nat → Int32) (Ti : Nat → Nat → Int32) (nt : Nat) (pb : Nat) (zo : Nat → Int32) (t : Int32) (z : Int32) (ou : Nat) (fo9 : Nat → Int64) (sz : Nat) (hnz : nz ≤ 7) (hnt : nt ≤ 7) (hfl : l.stackTraces = false) : vx_Met l yL_place (.codeWith yL_place cL_place 5 (some .int) [(0, 10, 13, 13), (0, 10, 17, 15)] :: ALL) ({ frames := 8, cells := 3, slots := 18, locals := 128 } : Room) (va_Pc [.ref ad, .int t, .int z, .ref ou] (rx_P D cI cZ cQ cJ (((wDp ad o pa ka (fx 0) (sx 0)) ++ ((wOf o (x 0) (y 0)) ++ ((wFl x r cI cZ cQ w q d T st re rc (nI nz)) ++ ((wSt y rp rw rt cI cQ P n Wi Ti (nI nt)) ++ (wPl pa pb cI zo))))) ++ (wOu ou cJ fo9)) sz)) (va_Qi (fun (r9 : Int32) (u9 : Nat × Int32 × (Nat → Int32) × (Nat → Int64)) => (r9 = (nI u9.1)) ∧ (sPlace nt nz zo n d t z u9.1 u9.2.1 u9.2.2.1) ∧ (u9.1 = 0 → u9.2.2.2 0 = u9.2.1.toInt64)) (rw_B D (va_A (((wDp ad o pa ka (fx 0) (sx 0)) ++ ((wOf o (x 0) (y 0)) ++ ((wFl x r cI cZ cQ w q d T st re rc (nI nz)) ++ ((wSt y rp rw rt cI cQ P n Wi Ti (nI nt)) ++ (wPl pa pb cI zo))))) ++ (wOu ou cJ fo9)) sz) (fun u9 : Nat × Int32 × (Nat → Int32) × (Nat → Int64) => ((wDp ad o pa ka (fx 0) (sx 0)) ++ ((wOf o (x 0) (y 0)) ++ ((wFl x r cI cZ cQ w q d T st re rc (nI nz)) ++ ((wSt y rp rw rt cI cQ P n Wi Ti (nI nt)) ++ (wPl pa pb cI u9.2.2.1))))) ++ (wOu ou cJ u9.2.2.2))) (va_A (((wDp ad o pa ka (fx 0) (sx 0)) ++ ((wOf o (x 0) (y 0)) ++ ((wFl x r cI cZ cQ w q d T st re rc (nI nz)) ++ ((wSt y rp rw rt cI cQ P n Wi Ti (nI nt)) ++ (wPl pa pb cI zo))))) ++ (wOu ou cJ fo9)) sz)) (rx_X (fun (E9 : String) (x9 : Unit) => False) D (va_A (((wDp ad o pa ka (fx 0) (sx 0)) ++ ((wOf o (x 0) (y 0)) ++ ((wFl x r cI cZ cQ w q d T st re rc (nI nz)) ++ ((wSt y rp rw rt cI cQ P n Wi Ti (nI nt)) ++ (wPl pa pb cI zo))))) ++ (wOu ou cJ fo9)) sz) (fun x9 : Unit => ((wDp ad o pa ka (fx 0) (sx 0)) ++ ((wOf o (x 0) (y 0)) ++ ((wFl x r cI cZ cQ w q d T st re rc (nI nz)) ++ ((wSt y rp rw rt cI cQ P n Wi Ti (nI nt)) ++ (wPl pa pb cI zo))))) ++ (wOu ou cJ fo9))) 3 18 (va_A (((wDp ad o pa ka (fx 0) (sx 0)) ++ ((wOf o (x 0) (y 0)) ++ ((wFl x r cI cZ cQ w q d T st re rc (nI nz)) ++ ((wSt y rp rw rt cI cQ P n Wi Ti (nI nt)) ++ (wPl pa pb cI zo))))) ++ (wOu ou cJ fo9)) sz) := by
  refine vx_ofWH (cc := cL_place) (maxL := 5) (ret := (some .int)) (hh := [(0, 10, 13, 13), (0, 10, 17, 15)]) (by decide) rfl ?_
  intro p e s m args below meth c s₁ B hml hv
  obtain ⟨rfl, ⟨hsz, hP, hSt, hD0⟩, hDc, hZ⟩ := hv
  change W p l e ({ frames := 8, cells := 3, slots := 18, locals := 128 } : Room) s m _ below meth c s.heap [] 0 0 _ _
  have hx := B.exec
  have hb := B.bytes
  have hr := B.returns
  have hts : ∀ w ∈ ALL, w.before ([.ref ad, .int t, .int z, .ref ou] : List Value).toArray s = true := fun w h => atoms_spec (ws := (.codeWith yL_place cL_place 5 (some .int) [(0, 10, 13, 13), (0, 10, 17, 15)] :: ALL)) B.pre w (List.mem_cons_of_mem _ h)
  have hown : s.vm.findClass RL = some m.cls := findClass_of_methodNamed B.named
  have hlocks := B.notSynchronized
  have htb : c.exceptionTable.toList = tableOf [(0, 10, 13, 13), (0, 10, 17, 15)] := vx_table (x := yL_place) B (atoms_spec (ws := (.codeWith yL_place cL_place 5 (some .int) [(0, 10, 13, 13), (0, 10, 17, 15)] :: ALL)) B.pre _ List.mem_cons_self)
  subst hsz
  have hD := hD0.self (sz := s.heap.size)
  clear hD0
  generalize hAe : va_A (((wDp ad o pa ka (fx 0) (sx 0)) ++ ((wOf o (x 0) (y 0)) ++ ((wFl x r cI cZ cQ w q d T st re rc (nI nz)) ++ ((wSt y rp rw rt cI cQ P n Wi Ti (nI nt)) ++ (wPl pa pb cI zo))))) ++ (wOu ou cJ fo9)) s.heap.size = A at hD hZ ⊢
  have hA : ∀ q : Nat, s.heap.size ≤ q → A q := fun q h => by rw [← hAe]; exact Or.inr h
  have hS : va_S A s.heap s.heap [] := va_S.rf
  have hl := lv_entry ([.ref ad, .int t, .int z, .ref ou]) (n := 5) (Nat.le_of_ble_eq_true rfl)
  rw [lg_entry_eq]
  generalize (lg_sl ([.ref ad, .int t, .int z, .ref ou]) ++ List.replicate (5 - (lg_sl ([.ref ad, .int t, .int z, .ref ou])).length) Slot.unset).toArray = ls at hl ⊢
  have hl : lv_has ls 5 [(0, .ref ad), (1, .int t), (2, .int z), (3, .ref ou)] := hl
  obtain ⟨H, hHe⟩ : ∃ H : Heap, H = s.heap := ⟨_, rfl⟩
  obtain ⟨locs, hLe⟩ : ∃ L : List Loc, L = [] := ⟨_, rfl⟩
  have hP : va_P D vwCl (((wDp ad o pa ka (fx 0) (sx 0)) ++ ((wOf o (x 0) (y 0)) ++ ((wFl x r cI cZ cQ w q d T st re rc (nI nz)) ++ ((wSt y rp rw rt cI cQ P n Wi Ti (nI nt)) ++ (wPl pa pb cI zo))))) ++ (wOu ou cJ fo9)) H := by rw [hHe]; exact hP
  have hS : va_S A s.heap H locs := by rw [hHe, hLe]; exact hS
  refine W.eqHL hHe hLe ?_
  refine lv_aload_n hx hb dL_place_0 rfl (lv_at hl 3 rfl) ?_
  refine lv_iconst (v := nI 0) hx hb dL_place_1 (by decide) ?_
  refine lv_aload_n hx hb dL_place_2 rfl (lv_at hl 0 rfl) ?_
  refine lv_iload_n hx hb dL_place_3 rfl (lv_at hl 1 rfl) ?_
  refine lv_iload_n hx hb dL_place_4 rfl (lv_at hl 2 rfl) ?_
  refine rx_i (wr := wOu ou cJ fo9) (w_VX (As := [.int t, .int z]) ⟨hx, hb, hml, hown, hts⟩ (c_X7_place l D cI cZ cQ cJ ad o pa ka fx sx x r w q d T st re rc nz y rp rw rt P n Wi Ti nt pb zo t z H.size (by first | assumption | omega) (by first | assumption | omega) (by first | assumption | omega)) (gV t3_86 t3_87 t3_88 t1_1 t3_89) rfl rfl hd_X7_place ⟨Nat.le_of_ble_eq_true rfl, Nat.le_of_ble_eq_true rfl⟩ (rx_pre hP hD hSt hDc hZ hS hA [0, 1, 2, 3, 4, 5, 6, 7, 8, 9, 10, 11, 12, 13, 14, 15, 16, 17, 18, 19, 20, 21, 22, 23, 24, 25, 26, 27, 28, 29, 30, 31, 32, 33, 34, 35, 36, 37, 38, 39, 40, 41, 42, 43] rfl (by decide)) (va_recv hSt.1 hP (ci := 7) (q0 := 0) rfl rfl) rfl hl.1 (rest := [.int (nI 0), .ref ou]) rfl (Nat.le_of_ble_eq_true rfl) dL_place_5 ⟨Nat.le_of_ble_eq_true rfl, Nat.le_of_ble_eq_true rfl⟩) hP hD hS hA [0, 1, 2, 3, 4, 5, 6, 7, 8, 9, 10, 11, 12, 13, 14, 15, 16, 17, 18, 19, 20, 21, 22, 23, 24, 25, 26, 27, 28, 29, 30, 31, 32, 33, 34, 35, 36, 37, 38, 39, 40, 41, 42, 43] [44] rfl rfl (by decide) (by decide) (fun E9 ce9 q9 x9 H locs hx9 hP hD hS hc91 hc92 hc93 => ?_) (fun r_9 u_3 H locs hw9 hP hD hS => ?_)
  · have hx9 : (E9 = "java/lang/IndexOutOfBoundsException" ∧ sPlace nt nz zo n d t z 1 0 zo) ∨ (E9 = "java/lang/IllegalStateException" ∧ sPlace nt nz zo n d t z 2 0 zo) := hx9
    have hP : va_P D vwCl ((wOu ou cJ fo9) ++ ((wDp ad o pa ka (fx 0) (sx 0)) ++ ((wOf o (x 0) (y 0)) ++ ((wFl x r cI cZ cQ w q d T st re rc (nI nz)) ++ ((wSt y rp rw rt cI cQ P n Wi Ti (nI nt)) ++ (wPl pa pb cI zo)))))) H := hP
    have hD : va_D A ((wOu ou cJ fo9) ++ ((wDp ad o pa ka (fx 0) (sx 0)) ++ ((wOf o (x 0) (y 0)) ++ ((wFl x r cI cZ cQ w q d T st re rc (nI nz)) ++ ((wSt y rp rw rt cI cQ P n Wi Ti (nI nt)) ++ (wPl pa pb cI zo)))))) := hD
    rcases hx9 with ⟨rfl, hsx⟩ | ⟨rfl, hsx⟩
    · refine vx_catch (own := RL) hown [] ⟨0, 10, 13, 13⟩ [⟨0, 10, 17, 15⟩] (by rw [htb]; rfl) (fun _ h9 => nomatch h9) (by decide) (by decide) (hts _ t2_88) (hSt.2.e 0 rfl) hc91 hc92 hc93 ?_
      refine lv_astore (lv' := [(4, .ref q9), (0, .ref ad), (1, .int t), (2, .int z), (3, .ref ou)]) hx hb dL_place_13 hl (by decide) rfl (fun ls hl => ?_)
      refine lv_iconst (v := nI 1) hx hb dL_place_15 (by decide) ?_
      have hP9 : va_P D vwCl (((wDp ad o pa ka (fx 0) (sx 0)) ++ ((wOf o (x 0) (y 0)) ++ ((wFl x r cI cZ cQ w q d T st re rc (nI nz)) ++ ((wSt y rp rw rt cI cQ P n Wi Ti (nI nt)) ++ (wPl pa pb cI zo))))) ++ (wOu ou cJ fo9)) H := (hP.sub (ws' := ((wDp ad o pa ka (fx 0) (sx 0)) ++ ((wOf o (x 0) (y 0)) ++ ((wFl x r cI cZ cQ w q d T st re rc (nI nz)) ++ ((wSt y rp rw rt cI cQ P n Wi Ti (nI nt)) ++ (wPl pa pb cI zo))))) ++ (wOu ou cJ fo9)) [1, 2, 3, 4, 5, 6, 7, 8, 9, 10, 11, 12, 13, 14, 15, 16, 17, 18, 19, 20, 21, 22, 23, 24, 25, 26, 27, 28, 29, 30, 31, 32, 33, 34, 35, 36, 37, 38, 39, 40, 41, 42, 43, 44, 0] rfl)
      have hD9 : va_D A (((wDp ad o pa ka (fx 0) (sx 0)) ++ ((wOf o (x 0) (y 0)) ++ ((wFl x r cI cZ cQ w q d T st re rc (nI nz)) ++ ((wSt y rp rw rt cI cQ P n Wi Ti (nI nt)) ++ (wPl pa pb cI zo))))) ++ (wOu ou cJ fo9)) := (hD.sub (ws' := ((wDp ad o pa ka (fx 0) (sx 0)) ++ ((wOf o (x 0) (y 0)) ++ ((wFl x r cI cZ cQ w q d T st re rc (nI nz)) ++ ((wSt y rp rw rt cI cQ P n Wi Ti (nI nt)) ++ (wPl pa pb cI zo))))) ++ (wOu ou cJ fo9)) [1, 2, 3, 4, 5, 6, 7, 8, 9, 10, 11, 12, 13, 14, 15, 16, 17, 18, 19, 20, 21, 22, 23, 24, 25, 26, 27, 28, 29, 30, 31, 32, 33, 34, 35, 36, 37, 38, 39, 40, 41, 42, 43, 44, 0] (by decide) rfl)
      have g_4 : sPlace nt nz zo n d t z 1 (0 : Int32) zo := hsx
      have g_5 : 1 = 0 → fo9 0 = (0 : Int32).toInt64 := fun h9 => absurd h9 (by decide)
      refine W.widen (k := 3) (n := 18) (by omega) (by omega) ?_
      exact vx_ret (W.iret (v := nI 1) hx hb hr (fun t9 ht9 hW9 => ⟨⟨nI 1, (1, (0 : Int32), zo, fo9), rfl, ⟨rfl, g_4, g_5⟩, by rw [ht9]; exact hP9, hD9⟩, hS.F ht9⟩) hS.2.2 dL_place_16)
    · refine vx_catch (own := RL) hown [⟨0, 10, 13, 13⟩] ⟨0, 10, 17, 15⟩ [] (by rw [htb]; rfl) (List.forall_mem_cons.mpr ⟨Or.inr ⟨by decide, _, hts _ t2_88, hSt.2.p 0 rfl⟩, fun _ h9 => nomatch h9⟩) (by decide) (by decide) (hts _ t2_89) (hSt.2.e 2 rfl) hc91 hc92 hc93 ?_
      refine lv_astore (lv' := [(4, .ref q9), (0, .ref ad), (1, .int t), (2, .int z), (3, .ref ou)]) hx hb dL_place_17 hl (by decide) rfl (fun ls hl => ?_)
      refine lv_iconst (v := nI 2) hx hb dL_place_19 (by decide) ?_
      have hP9 : va_P D vwCl (((wDp ad o pa ka (fx 0) (sx 0)) ++ ((wOf o (x 0) (y 0)) ++ ((wFl x r cI cZ cQ w q d T st re rc (nI nz)) ++ ((wSt y rp rw rt cI cQ P n Wi Ti (nI nt)) ++ (wPl pa pb cI zo))))) ++ (wOu ou cJ fo9)) H := (hP.sub (ws' := ((wDp ad o pa ka (fx 0) (sx 0)) ++ ((wOf o (x 0) (y 0)) ++ ((wFl x r cI cZ cQ w q d T st re rc (nI nz)) ++ ((wSt y rp rw rt cI cQ P n Wi Ti (nI nt)) ++ (wPl pa pb cI zo))))) ++ (wOu ou cJ fo9)) [1, 2, 3, 4, 5, 6, 7, 8, 9, 10, 11, 12, 13, 14, 15, 16, 17, 18, 19, 20, 21, 22, 23, 24, 25, 26, 27, 28, 29, 30, 31, 32, 33, 34, 35, 36, 37, 38, 39, 40, 41, 42, 43, 44, 0] rfl)
      have hD9 : va_D A (((wDp ad o pa ka (fx 0) (sx 0)) ++ ((wOf o (x 0) (y 0)) ++ ((wFl x r cI cZ cQ w q d T st re rc (nI nz)) ++ ((wSt y rp rw rt cI cQ P n Wi Ti (nI nt)) ++ (wPl pa pb cI zo))))) ++ (wOu ou cJ fo9)) := (hD.sub (ws' := ((wDp ad o pa ka (fx 0) (sx 0)) ++ ((wOf o (x 0) (y 0)) ++ ((wFl x r cI cZ cQ w q d T st re rc (nI nz)) ++ ((wSt y rp rw rt cI cQ P n Wi Ti (nI nt)) ++ (wPl pa pb cI zo))))) ++ (wOu ou cJ fo9)) [1, 2, 3, 4, 5, 6, 7, 8, 9, 10, 11, 12, 13, 14, 15, 16, 17, 18, 19, 20, 21, 22, 23, 24, 25, 26, 27, 28, 29, 30, 31, 32, 33, 34, 35, 36, 37, 38, 39, 40, 41, 42, 43, 44, 0] (by decide) rfl)
      have g_6 : sPlace nt nz zo n d t z 2 (0 : Int32) zo := hsx
      have g_7 : 2 = 0 → fo9 0 = (0 : Int32).toInt64 := fun h9 => absurd h9 (by decide)
      refine W.widen (k := 3) (n := 18) (by omega) (by omega) ?_
      exact vx_ret (W.iret (v := nI 2) hx hb hr (fun t9 ht9 hW9 => ⟨⟨nI 2, (2, (0 : Int32), zo, fo9), rfl, ⟨rfl, g_6, g_7⟩, by rw [ht9]; exact hP9, hD9⟩, hS.F ht9⟩) hS.2.2 dL_place_20)
  · obtain ⟨j_1, j_2⟩ := u_3
    obtain ⟨er_9, f_8⟩ := hw9
    replace er_9 := er_9.symm
    subst er_9
    have hs9 : sPlace nt nz zo n d t z 0 j_1 j_2 := f_8
    have hP : va_P D vwCl ((wOu ou cJ fo9) ++ ((wDp ad o pa ka (fx 0) (sx 0)) ++ ((wOf o (x 0) (y 0)) ++ ((wFl x r cI cZ cQ w q d T st re rc (nI nz)) ++ ((wSt y rp rw rt cI cQ P n Wi Ti (nI nt)) ++ (wPl pa pb cI j_2)))))) H := hP
    have hD : va_D A ((wOu ou cJ fo9) ++ ((wDp ad o pa ka (fx 0) (sx 0)) ++ ((wOf o (x 0) (y 0)) ++ ((wFl x r cI cZ cQ w q d T st re rc (nI nz)) ++ ((wSt y rp rw rt cI cQ P n Wi Ti (nI nt)) ++ (wPl pa pb cI j_2)))))) := hD
    refine lv_i2l (v := (j_1).toInt64) hx hb dL_place_8 rfl ?_
    refine r_last hx hb hSt.1 hP hD hS 0 3 rfl rfl (k := 0) (by omega) (by omega) dL_place_9 (fun H locs hP hD hS => ?_)
    have hP : va_P D vwCl ((wOu ou cJ (vp_updL fo9 0 ((j_1).toInt64))) ++ ((wDp ad o pa ka (fx 0) (sx 0)) ++ ((wOf o (x 0) (y 0)) ++ ((wFl x r cI cZ cQ w q d T st re rc (nI nz)) ++ ((wSt y rp rw rt cI cQ P n Wi Ti (nI nt)) ++ (wPl pa pb cI j_2)))))) H := hP
    have hD : va_D A ((wOu ou cJ (vp_updL fo9 0 ((j_1).toInt64))) ++ ((wDp ad o pa ka (fx 0) (sx 0)) ++ ((wOf o (x 0) (y 0)) ++ ((wFl x r cI cZ cQ w q d T st re rc (nI nz)) ++ ((wSt y rp rw rt cI cQ P n Wi Ti (nI nt)) ++ (wPl pa pb cI j_2)))))) := hD
    refine lv_goto (tgt := 21) hx hb dL_place_10 (by decide) ?_
    refine lv_iconst (v := nI 0) hx hb dL_place_21 (by decide) ?_
    have hP9 : va_P D vwCl (((wDp ad o pa ka (fx 0) (sx 0)) ++ ((wOf o (x 0) (y 0)) ++ ((wFl x r cI cZ cQ w q d T st re rc (nI nz)) ++ ((wSt y rp rw rt cI cQ P n Wi Ti (nI nt)) ++ (wPl pa pb cI j_2))))) ++ (wOu ou cJ (vp_updL fo9 0 ((j_1).toInt64)))) H := (hP.sub (ws' := ((wDp ad o pa ka (fx 0) (sx 0)) ++ ((wOf o (x 0) (y 0)) ++ ((wFl x r cI cZ cQ w q d T st re rc (nI nz)) ++ ((wSt y rp rw rt cI cQ P n Wi Ti (nI nt)) ++ (wPl pa pb cI j_2))))) ++ (wOu ou cJ (vp_updL fo9 0 ((j_1).toInt64)))) [1, 2, 3, 4, 5, 6, 7, 8, 9, 10, 11, 12, 13, 14, 15, 16, 17, 18, 19, 20, 21, 22, 23, 24, 25, 26, 27, 28, 29, 30, 31, 32, 33, 34, 35, 36, 37, 38, 39, 40, 41, 42, 43, 44, 0] rfl)
    have hD9 : va_D A (((wDp ad o pa ka (fx 0) (sx 0)) ++ ((wOf o (x 0) (y 0)) ++ ((wFl x r cI cZ cQ w q d T st re rc (nI nz)) ++ ((wSt y rp rw rt cI cQ P n Wi Ti (nI nt)) ++ (wPl pa pb cI j_2))))) ++ (wOu ou cJ (vp_updL fo9 0 ((j_1).toInt64)))) := (hD.sub (ws' := ((wDp ad o pa ka (fx 0) (sx 0)) ++ ((wOf o (x 0) (y 0)) ++ ((wFl x r cI cZ cQ w q d T st re rc (nI nz)) ++ ((wSt y rp rw rt cI cQ P n Wi Ti (nI nt)) ++ (wPl pa pb cI j_2))))) ++ (wOu ou cJ (vp_updL fo9 0 ((j_1).toInt64)))) [1, 2, 3, 4, 5, 6, 7, 8, 9, 10, 11, 12, 13, 14, 15, 16, 17, 18, 19, 20, 21, 22, 23, 24, 25, 26, 27, 28, 29, 30, 31, 32, 33, 34, 35, 36, 37, 38, 39, 40, 41, 42, 43, 44, 0] (by decide) rfl)
    have g_9 : sPlace nt nz zo n d t z 0 j_1 j_2 := hs9
    have g_10 : 0 = 0 → (vp_updL fo9 0 ((j_1).toInt64)) 0 = j_1.toInt64 := fun _ => pk_uLs
    refine W.widen (k := 3) (n := 18) (by omega) (by omega) ?_
    exact vx_ret (W.iret (v := nI 0) hx hb hr (fun t9 ht9 hW9 => ⟨⟨nI 0, (0, j_1, j_2, vp_updL fo9 0 ((j_1).toInt64)), rfl, ⟨rfl, g_9, g_10⟩, by rw [ht9]; exact hP9, hD9⟩, hS.F ht9⟩) hS.2.2 dL_place_22)
set_option maxHeartbeats 4000000 in
set_option maxRecDepth 100000 in
theorem c_L_need (l : Launch) (D : va_G) (cI cZ cQ cJ : ClassId) (ad : Nat) (o : Nat) (pa : Nat) (ka : Nat) (fx : Nat → Nat) (sx : Nat → Nat) (x : Nat → Nat) (y : Nat → Nat) (rp : Nat → Nat) (rw : Nat → Nat) (rt : Nat → Nat) (P : Nat → Nat → Int32) (n : Nat → Int32) (Wi : Nat → Nat → Int32) (Ti : Nat → Nat → Int32) (nt : Nat) (t : Int32) (ou : Nat) (fo9 : Nat → Int64) (sz : Nat) (hnt : nt ≤ 7) (hfl : l.stackTraces = false) : vx_Met l yL_need (.codeWith yL_need cL_need 4 (some .int) [(0, 9, 12, 13)] :: ALL) ({ frames := 8, cells := 1, slots := 6, locals := 124 } : Room) (va_Pc [.ref ad, .int t, .ref ou] (rx_P D cI cZ cQ cJ (((wDp ad o pa ka (fx 0) (sx 0)) ++ ((wOf o (x 0) (y 0)) ++ (wSt y rp rw rt cI cQ P n Wi Ti (nI nt)))) ++ (wOu ou cJ fo9)) sz)) (va_Qi (fun (r9 : Int32) (u9 : Nat × Int32 × (Nat → Int64)) => (r9 = (nI u9.1)) ∧ (sOne nt n t u9.1 u9.2.1) ∧ (u9.1 = 0 → u9.2.2 0 = u9.2.1.toInt64)) (rw_B D (va_A (((wDp ad o pa ka (fx 0) (sx 0)) ++ ((wOf o (x 0) (y 0)) ++ (wSt y rp rw rt cI cQ P n Wi Ti (nI nt)))) ++ (wOu ou cJ fo9)) sz) (fun u9 : Nat × Int32 × (Nat → Int64) => ((wDp ad o pa ka (fx 0) (sx 0)) ++ ((wOf o (x 0) (y 0)) ++ (wSt y rp rw rt cI cQ P n Wi Ti (nI nt)))) ++ (wOu ou cJ u9.2.2))) (va_A (((wDp ad o pa ka (fx 0) (sx 0)) ++ ((wOf o (x 0) (y 0)) ++ (wSt y rp rw rt cI cQ P n Wi Ti (nI nt)))) ++ (wOu ou cJ fo9)) sz)) (rx_X (fun (E9 : String) (x9 : Unit) => False) D (va_A (((wDp ad o pa ka (fx 0) (sx 0)) ++ ((wOf o (x 0) (y 0)) ++ (wSt y rp rw rt cI cQ P n Wi Ti (nI nt)))) ++ (wOu ou cJ fo9)) sz) (fun x9 : Unit => ((wDp ad o pa ka (fx 0) (sx 0)) ++ ((wOf o (x 0) (y 0)) ++ (wSt y rp rw rt cI cQ P n Wi Ti (nI nt)))) ++ (wOu ou cJ fo9))) 1 6 (va_A (((wDp ad o pa ka (fx 0) (sx 0)) ++ ((wOf o (x 0) (y 0)) ++ (wSt y rp rw rt cI cQ P n Wi Ti (nI nt)))) ++ (wOu ou cJ fo9)) sz) := by
  refine vx_ofWH (cc := cL_need) (maxL := 4) (ret := (some .int)) (hh := [(0, 9, 12, 13)]) (by decide) rfl ?_
  intro p e s m args below meth c s₁ B hml hv
  obtain ⟨rfl, ⟨hsz, hP, hSt, hD0⟩, hDc, hZ⟩ := hv
  change W p l e ({ frames := 8, cells := 1, slots := 6, locals := 124 } : Room) s m _ below meth c s.heap [] 0 0 _ _
  have hx := B.exec
  have hb := B.bytes
  have hr := B.returns
  have hts : ∀ w ∈ ALL, w.before ([.ref ad, .int t, .ref ou] : List Value).toArray s = true := fun w h => atoms_spec (ws := (.codeWith yL_need cL_need 4 (some .int) [(0, 9, 12, 13)] :: ALL)) B.pre w (List.mem_cons_of_mem _ h)
  have hown : s.vm.findClass RL = some m.cls := findClass_of_methodNamed B.named
  have hlocks := B.notSynchronized
  have htb : c.exceptionTable.toList = tableOf [(0, 9, 12, 13)] := vx_table (x := yL_need) B (atoms_spec (ws := (.codeWith yL_need cL_need 4 (some .int) [(0, 9, 12, 13)] :: ALL)) B.pre _ List.mem_cons_self)
  subst hsz
  have hD := hD0.self (sz := s.heap.size)
  clear hD0
  generalize hAe : va_A (((wDp ad o pa ka (fx 0) (sx 0)) ++ ((wOf o (x 0) (y 0)) ++ (wSt y rp rw rt cI cQ P n Wi Ti (nI nt)))) ++ (wOu ou cJ fo9)) s.heap.size = A at hD hZ ⊢
  have hA : ∀ q : Nat, s.heap.size ≤ q → A q := fun q h => by rw [← hAe]; exact Or.inr h
  have hS : va_S A s.heap s.heap [] := va_S.rf
  have hl := lv_entry ([.ref ad, .int t, .ref ou]) (n := 4) (Nat.le_of_ble_eq_true rfl)
  rw [lg_entry_eq]
  generalize (lg_sl ([.ref ad, .int t, .ref ou]) ++ List.replicate (4 - (lg_sl ([.ref ad, .int t, .ref ou])).length) Slot.unset).toArray = ls at hl ⊢
  have hl : lv_has ls 4 [(0, .ref ad), (1, .int t), (2, .ref ou)] := hl
  obtain ⟨H, hHe⟩ : ∃ H : Heap, H = s.heap := ⟨_, rfl⟩
  obtain ⟨locs, hLe⟩ : ∃ L : List Loc, L = [] := ⟨_, rfl⟩
  have hP : va_P D vwCl (((wDp ad o pa ka (fx 0) (sx 0)) ++ ((wOf o (x 0) (y 0)) ++ (wSt y rp rw rt cI cQ P n Wi Ti (nI nt)))) ++ (wOu ou cJ fo9)) H := by rw [hHe]; exact hP
  have hS : va_S A s.heap H locs := by rw [hHe, hLe]; exact hS
  refine W.eqHL hHe hLe ?_
  refine lv_aload_n hx hb dL_need_0 rfl (lv_at hl 2 rfl) ?_
  refine lv_iconst (v := nI 0) hx hb dL_need_1 (by decide) ?_
  refine lv_aload_n hx hb dL_need_2 rfl (lv_at hl 0 rfl) ?_
  refine lv_iload_n hx hb dL_need_3 rfl (lv_at hl 1 rfl) ?_
  refine rx_i (wr := wOu ou cJ fo9) (w_VX (As := [.int t]) ⟨hx, hb, hml, hown, hts⟩ (c_X7_need l D cI cZ cQ cJ ad o pa ka fx sx x y rp rw rt P n Wi Ti nt t H.size (by first | assumption | omega) (by first | assumption | omega)) (gV t3_171 t3_172 t3_173 t1_1 t3_174) rfl rfl hd_X7_need ⟨Nat.le_of_ble_eq_true rfl, Nat.le_of_ble_eq_true rfl⟩ (rx_pre hP hD hSt hDc hZ hS hA [0, 1, 2, 3, 4, 5, 6, 7, 8, 9, 10, 11, 12, 13, 14, 15, 16, 17, 18, 19, 20, 21, 22, 23, 24, 25, 26, 27] rfl (by decide)) (va_recv hSt.1 hP (ci := 7) (q0 := 0) rfl rfl) rfl hl.1 (rest := [.int (nI 0), .ref ou]) rfl (Nat.le_of_ble_eq_true rfl) dL_need_4 ⟨Nat.le_of_ble_eq_true rfl, Nat.le_of_ble_eq_true rfl⟩) hP hD hS hA [0, 1, 2, 3, 4, 5, 6, 7, 8, 9, 10, 11, 12, 13, 14, 15, 16, 17, 18, 19, 20, 21, 22, 23, 24, 25, 26, 27] [28] rfl rfl (by decide) (by decide) (fun E9 ce9 q9 x9 H locs hx9 hP hD hS hc91 hc92 hc93 => ?_) (fun r_9 u_2 H locs hw9 hP hD hS => ?_)
  · have hx9 : E9 = "java/lang/IndexOutOfBoundsException" ∧ sOne nt n t 1 0 := hx9
    have hP : va_P D vwCl ((wOu ou cJ fo9) ++ ((wDp ad o pa ka (fx 0) (sx 0)) ++ ((wOf o (x 0) (y 0)) ++ (wSt y rp rw rt cI cQ P n Wi Ti (nI nt))))) H := hP
    have hD : va_D A ((wOu ou cJ fo9) ++ ((wDp ad o pa ka (fx 0) (sx 0)) ++ ((wOf o (x 0) (y 0)) ++ (wSt y rp rw rt cI cQ P n Wi Ti (nI nt))))) := hD
    obtain ⟨rfl, hsx⟩ := hx9
    refine vx_catch (own := RL) hown [] ⟨0, 9, 12, 13⟩ [] (by rw [htb]; rfl) (fun _ h9 => nomatch h9) (by decide) (by decide) (hts _ t2_88) (hSt.2.e 0 rfl) hc91 hc92 hc93 ?_
    refine lv_astore_n (lv' := [(3, .ref q9), (0, .ref ad), (1, .int t), (2, .ref ou)]) hx hb dL_need_12 rfl hl (by decide) rfl (fun ls hl => ?_)
    refine lv_iconst (v := nI 1) hx hb dL_need_13 (by decide) ?_
    have hP9 : va_P D vwCl (((wDp ad o pa ka (fx 0) (sx 0)) ++ ((wOf o (x 0) (y 0)) ++ (wSt y rp rw rt cI cQ P n Wi Ti (nI nt)))) ++ (wOu ou cJ fo9)) H := (hP.sub (ws' := ((wDp ad o pa ka (fx 0) (sx 0)) ++ ((wOf o (x 0) (y 0)) ++ (wSt y rp rw rt cI cQ P n Wi Ti (nI nt)))) ++ (wOu ou cJ fo9)) [1, 2, 3, 4, 5, 6, 7, 8, 9, 10, 11, 12, 13, 14, 15, 16, 17, 18, 19, 20, 21, 22, 23, 24, 25, 26, 27, 28, 0] rfl)
    have hD9 : va_D A (((wDp ad o pa ka (fx 0) (sx 0)) ++ ((wOf o (x 0) (y 0)) ++ (wSt y rp rw rt cI cQ P n Wi Ti (nI nt)))) ++ (wOu ou cJ fo9)) := (hD.sub (ws' := ((wDp ad o pa ka (fx 0) (sx 0)) ++ ((wOf o (x 0) (y 0)) ++ (wSt y rp rw rt cI cQ P n Wi Ti (nI nt)))) ++ (wOu ou cJ fo9)) [1, 2, 3, 4, 5, 6, 7, 8, 9, 10, 11, 12, 13, 14, 15, 16, 17, 18, 19, 20, 21, 22, 23, 24, 25, 26, 27, 28, 0] (by decide) rfl)
    have g_3 : sOne nt n t 1 (0 : Int32) := hsx
    have g_4 : 1 = 0 → fo9 0 = (0 : Int32).toInt64 := fun h9 => absurd h9 (by decide)
    refine W.widen (k := 1) (n := 6) (by omega) (by omega) ?_
    exact vx_ret (W.iret (v := nI 1) hx hb hr (fun t9 ht9 hW9 => ⟨⟨nI 1, (1, (0 : Int32), fo9), rfl, ⟨rfl, g_3, g_4⟩, by rw [ht9]; exact hP9, hD9⟩, hS.F ht9⟩) hS.2.2 dL_need_14)
  · obtain ⟨j_1, rfl⟩ : ∃ z9, z9 = u_2 := ⟨_, rfl⟩
    obtain ⟨er_9, f_5⟩ := hw9
    replace er_9 := er_9.symm
    subst er_9
    have hs9 : sOne nt n t 0 j_1 := f_5
    have hP : va_P D vwCl ((wOu ou cJ fo9) ++ ((wDp ad o pa ka (fx 0) (sx 0)) ++ ((wOf o (x 0) (y 0)) ++ (wSt y rp rw rt cI cQ P n Wi Ti (nI nt))))) H := hP
    have hD : va_D A ((wOu ou cJ fo9) ++ ((wDp ad o pa ka (fx 0) (sx 0)) ++ ((wOf o (x 0) (y 0)) ++ (wSt y rp rw rt cI cQ P n Wi Ti (nI nt))))) := hD
    refine lv_i2l (v := (j_1).toInt64) hx hb dL_need_7 rfl ?_
    refine r_last hx hb hSt.1 hP hD hS 0 3 rfl rfl (k := 0) (by omega) (by omega) dL_need_8 (fun H locs hP hD hS => ?_)
    have hP : va_P D vwCl ((wOu ou cJ (vp_updL fo9 0 ((j_1).toInt64))) ++ ((wDp ad o pa ka (fx 0) (sx 0)) ++ ((wOf o (x 0) (y 0)) ++ (wSt y rp rw rt cI cQ P n Wi Ti (nI nt))))) H := hP
    have hD : va_D A ((wOu ou cJ (vp_updL fo9 0 ((j_1).toInt64))) ++ ((wDp ad o pa ka (fx 0) (sx 0)) ++ ((wOf o (x 0) (y 0)) ++ (wSt y rp rw rt cI cQ P n Wi Ti (nI nt))))) := hD
    refine lv_goto (tgt := 15) hx hb dL_need_9 (by decide) ?_
    refine lv_iconst (v := nI 0) hx hb dL_need_15 (by decide) ?_
    have hP9 : va_P D vwCl (((wDp ad o pa ka (fx 0) (sx 0)) ++ ((wOf o (x 0) (y 0)) ++ (wSt y rp rw rt cI cQ P n Wi Ti (nI nt)))) ++ (wOu ou cJ (vp_updL fo9 0 ((j_1).toInt64)))) H := (hP.sub (ws' := ((wDp ad o pa ka (fx 0) (sx 0)) ++ ((wOf o (x 0) (y 0)) ++ (wSt y rp rw rt cI cQ P n Wi Ti (nI nt)))) ++ (wOu ou cJ (vp_updL fo9 0 ((j_1).toInt64)))) [1, 2, 3, 4, 5, 6, 7, 8, 9, 10, 11, 12, 13, 14, 15, 16, 17, 18, 19, 20, 21, 22, 23, 24, 25, 26, 27, 28, 0] rfl)
    have hD9 : va_D A (((wDp ad o pa ka (fx 0) (sx 0)) ++ ((wOf o (x 0) (y 0)) ++ (wSt y rp rw rt cI cQ P n Wi Ti (nI nt)))) ++ (wOu ou cJ (vp_updL fo9 0 ((j_1).toInt64)))) := (hD.sub (ws' := ((wDp ad o pa ka (fx 0) (sx 0)) ++ ((wOf o (x 0) (y 0)) ++ (wSt y rp rw rt cI cQ P n Wi Ti (nI nt)))) ++ (wOu ou cJ (vp_updL fo9 0 ((j_1).toInt64)))) [1, 2, 3, 4, 5, 6, 7, 8, 9, 10, 11, 12, 13, 14, 15, 16, 17, 18, 19, 20, 21, 22, 23, 24, 25, 26, 27, 28, 0] (by decide) rfl)
    have g_6 : sOne nt n t 0 j_1 := hs9
    have g_7 : 0 = 0 → (vp_updL fo9 0 ((j_1).toInt64)) 0 = j_1.toInt64 := fun _ => pk_uLs
    refine W.widen (k := 1) (n := 6) (by omega) (by omega) ?_
    exact vx_ret (W.iret (v := nI 0) hx hb hr (fun t9 ht9 hW9 => ⟨⟨nI 0, (0, j_1, vp_updL fo9 0 ((j_1).toInt64)), rfl, ⟨rfl, g_6, g_7⟩, by rw [ht9]; exact hP9, hD9⟩, hS.F ht9⟩) hS.2.2 dL_need_16)
set_option maxHeartbeats 4000000 in
set_option maxRecDepth 100000 in
theorem c_L_share (l : Launch) (D : va_G) (cI cZ cQ cJ : ClassId) (ad : Nat) (o : Nat) (pa : Nat) (ka : Nat) (fx : Nat → Nat) (sx : Nat → Nat) (x : Nat → Nat) (y : Nat → Nat) (rp : Nat → Nat) (rw : Nat → Nat) (rt : Nat → Nat) (P : Nat → Nat → Int32) (n : Nat → Int32) (Wi : Nat → Nat → Int32) (Ti : Nat → Nat → Int32) (nt : Nat) (pp : Nat → Nat → Nat) (t : Int32) (ou : Nat) (fo9 : Nat → Int64) (sz : Nat) (hnt : nt ≤ 7) (hpp : ∀ t, t < nt → ∀ j, j < 5 → P t j = nI (pp t j) ∧ pp t j ≤ 60) (hnn : ∀ t, t < nt → n t = nI (ndN (pp t))) (hfl : l.stackTraces = false) : vx_Met l yL_share (.codeWith yL_share cL_share 4 (some .int) [(0, 9, 12, 13)] :: ALL) ({ frames := 8, cells := 1, slots := 6, locals := 124 } : Room) (va_Pc [.ref ad, .int t, .ref ou] (rx_P D cI cZ cQ cJ (((wDp ad o pa ka (fx 0) (sx 0)) ++ ((wOf o (x 0) (y 0)) ++ (wSt y rp rw rt cI cQ P n Wi Ti (nI nt)))) ++ (wOu ou cJ fo9)) sz)) (va_Qi (fun (r9 : Int32) (u9 : Nat × Int32 × (Nat → Int64)) => (r9 = (nI u9.1)) ∧ (sOne nt (fun u9 => nI (shN (pp u9))) t u9.1 u9.2.1) ∧ (u9.1 = 0 → u9.2.2 0 = u9.2.1.toInt64)) (rw_B D (va_A (((wDp ad o pa ka (fx 0) (sx 0)) ++ ((wOf o (x 0) (y 0)) ++ (wSt y rp rw rt cI cQ P n Wi Ti (nI nt)))) ++ (wOu ou cJ fo9)) sz) (fun u9 : Nat × Int32 × (Nat → Int64) => ((wDp ad o pa ka (fx 0) (sx 0)) ++ ((wOf o (x 0) (y 0)) ++ (wSt y rp rw rt cI cQ P n Wi Ti (nI nt)))) ++ (wOu ou cJ u9.2.2))) (va_A (((wDp ad o pa ka (fx 0) (sx 0)) ++ ((wOf o (x 0) (y 0)) ++ (wSt y rp rw rt cI cQ P n Wi Ti (nI nt)))) ++ (wOu ou cJ fo9)) sz)) (rx_X (fun (E9 : String) (x9 : Unit) => False) D (va_A (((wDp ad o pa ka (fx 0) (sx 0)) ++ ((wOf o (x 0) (y 0)) ++ (wSt y rp rw rt cI cQ P n Wi Ti (nI nt)))) ++ (wOu ou cJ fo9)) sz) (fun x9 : Unit => ((wDp ad o pa ka (fx 0) (sx 0)) ++ ((wOf o (x 0) (y 0)) ++ (wSt y rp rw rt cI cQ P n Wi Ti (nI nt)))) ++ (wOu ou cJ fo9))) 1 6 (va_A (((wDp ad o pa ka (fx 0) (sx 0)) ++ ((wOf o (x 0) (y 0)) ++ (wSt y rp rw rt cI cQ P n Wi Ti (nI nt)))) ++ (wOu ou cJ fo9)) sz) := by
  refine vx_ofWH (cc := cL_share) (maxL := 4) (ret := (some .int)) (hh := [(0, 9, 12, 13)]) (by decide) rfl ?_
  intro p e s m args below meth c s₁ B hml hv
  obtain ⟨rfl, ⟨hsz, hP, hSt, hD0⟩, hDc, hZ⟩ := hv
  change W p l e ({ frames := 8, cells := 1, slots := 6, locals := 124 } : Room) s m _ below meth c s.heap [] 0 0 _ _
  have hx := B.exec
  have hb := B.bytes
  have hr := B.returns
  have hts : ∀ w ∈ ALL, w.before ([.ref ad, .int t, .ref ou] : List Value).toArray s = true := fun w h => atoms_spec (ws := (.codeWith yL_share cL_share 4 (some .int) [(0, 9, 12, 13)] :: ALL)) B.pre w (List.mem_cons_of_mem _ h)
  have hown : s.vm.findClass RL = some m.cls := findClass_of_methodNamed B.named
  have hlocks := B.notSynchronized
  have htb : c.exceptionTable.toList = tableOf [(0, 9, 12, 13)] := vx_table (x := yL_share) B (atoms_spec (ws := (.codeWith yL_share cL_share 4 (some .int) [(0, 9, 12, 13)] :: ALL)) B.pre _ List.mem_cons_self)
  subst hsz
  have hD := hD0.self (sz := s.heap.size)
  clear hD0
  generalize hAe : va_A (((wDp ad o pa ka (fx 0) (sx 0)) ++ ((wOf o (x 0) (y 0)) ++ (wSt y rp rw rt cI cQ P n Wi Ti (nI nt)))) ++ (wOu ou cJ fo9)) s.heap.size = A at hD hZ ⊢
  have hA : ∀ q : Nat, s.heap.size ≤ q → A q := fun q h => by rw [← hAe]; exact Or.inr h
  have hS : va_S A s.heap s.heap [] := va_S.rf
  have hl := lv_entry ([.ref ad, .int t, .ref ou]) (n := 4) (Nat.le_of_ble_eq_true rfl)
  rw [lg_entry_eq]
  generalize (lg_sl ([.ref ad, .int t, .ref ou]) ++ List.replicate (4 - (lg_sl ([.ref ad, .int t, .ref ou])).length) Slot.unset).toArray = ls at hl ⊢
  have hl : lv_has ls 4 [(0, .ref ad), (1, .int t), (2, .ref ou)] := hl
  obtain ⟨H, hHe⟩ : ∃ H : Heap, H = s.heap := ⟨_, rfl⟩
  obtain ⟨locs, hLe⟩ : ∃ L : List Loc, L = [] := ⟨_, rfl⟩
  have hP : va_P D vwCl (((wDp ad o pa ka (fx 0) (sx 0)) ++ ((wOf o (x 0) (y 0)) ++ (wSt y rp rw rt cI cQ P n Wi Ti (nI nt)))) ++ (wOu ou cJ fo9)) H := by rw [hHe]; exact hP
  have hS : va_S A s.heap H locs := by rw [hHe, hLe]; exact hS
  refine W.eqHL hHe hLe ?_
  refine lv_aload_n hx hb dL_share_0 rfl (lv_at hl 2 rfl) ?_
  refine lv_iconst (v := nI 0) hx hb dL_share_1 (by decide) ?_
  refine lv_aload_n hx hb dL_share_2 rfl (lv_at hl 0 rfl) ?_
  refine lv_iload_n hx hb dL_share_3 rfl (lv_at hl 1 rfl) ?_
  refine rx_i (wr := wOu ou cJ fo9) (w_VX (As := [.int t]) ⟨hx, hb, hml, hown, hts⟩ (c_X7_share l D cI cZ cQ cJ ad o pa ka fx sx x y rp rw rt P n Wi Ti nt pp t H.size (by first | assumption | omega) (by first | assumption | omega) (by first | assumption | omega) (by first | assumption | omega)) (gV t3_178 t3_179 t3_180 t1_1 t3_181) rfl rfl hd_X7_share ⟨Nat.le_of_ble_eq_true rfl, Nat.le_of_ble_eq_true rfl⟩ (rx_pre hP hD hSt hDc hZ hS hA [0, 1, 2, 3, 4, 5, 6, 7, 8, 9, 10, 11, 12, 13, 14, 15, 16, 17, 18, 19, 20, 21, 22, 23, 24, 25, 26, 27] rfl (by decide)) (va_recv hSt.1 hP (ci := 7) (q0 := 0) rfl rfl) rfl hl.1 (rest := [.int (nI 0), .ref ou]) rfl (Nat.le_of_ble_eq_true rfl) dL_share_4 ⟨Nat.le_of_ble_eq_true rfl, Nat.le_of_ble_eq_true rfl⟩) hP hD hS hA [0, 1, 2, 3, 4, 5, 6, 7, 8, 9, 10, 11, 12, 13, 14, 15, 16, 17, 18, 19, 20, 21, 22, 23, 24, 25, 26, 27] [28] rfl rfl (by decide) (by decide) (fun E9 ce9 q9 x9 H locs hx9 hP hD hS hc91 hc92 hc93 => ?_) (fun r_9 u_2 H locs hw9 hP hD hS => ?_)
  · have hx9 : E9 = "java/lang/IndexOutOfBoundsException" ∧ sOne nt (fun u9 => nI (shN (pp u9))) t 1 0 := hx9
    have hP : va_P D vwCl ((wOu ou cJ fo9) ++ ((wDp ad o pa ka (fx 0) (sx 0)) ++ ((wOf o (x 0) (y 0)) ++ (wSt y rp rw rt cI cQ P n Wi Ti (nI nt))))) H := hP
    have hD : va_D A ((wOu ou cJ fo9) ++ ((wDp ad o pa ka (fx 0) (sx 0)) ++ ((wOf o (x 0) (y 0)) ++ (wSt y rp rw rt cI cQ P n Wi Ti (nI nt))))) := hD
    obtain ⟨rfl, hsx⟩ := hx9
    refine vx_catch (own := RL) hown [] ⟨0, 9, 12, 13⟩ [] (by rw [htb]; rfl) (fun _ h9 => nomatch h9) (by decide) (by decide) (hts _ t2_88) (hSt.2.e 0 rfl) hc91 hc92 hc93 ?_
    refine lv_astore_n (lv' := [(3, .ref q9), (0, .ref ad), (1, .int t), (2, .ref ou)]) hx hb dL_share_12 rfl hl (by decide) rfl (fun ls hl => ?_)
    refine lv_iconst (v := nI 1) hx hb dL_share_13 (by decide) ?_
    have hP9 : va_P D vwCl (((wDp ad o pa ka (fx 0) (sx 0)) ++ ((wOf o (x 0) (y 0)) ++ (wSt y rp rw rt cI cQ P n Wi Ti (nI nt)))) ++ (wOu ou cJ fo9)) H := (hP.sub (ws' := ((wDp ad o pa ka (fx 0) (sx 0)) ++ ((wOf o (x 0) (y 0)) ++ (wSt y rp rw rt cI cQ P n Wi Ti (nI nt)))) ++ (wOu ou cJ fo9)) [1, 2, 3, 4, 5, 6, 7, 8, 9, 10, 11, 12, 13, 14, 15, 16, 17, 18, 19, 20, 21, 22, 23, 24, 25, 26, 27, 28, 0] rfl)
    have hD9 : va_D A (((wDp ad o pa ka (fx 0) (sx 0)) ++ ((wOf o (x 0) (y 0)) ++ (wSt y rp rw rt cI cQ P n Wi Ti (nI nt)))) ++ (wOu ou cJ fo9)) := (hD.sub (ws' := ((wDp ad o pa ka (fx 0) (sx 0)) ++ ((wOf o (x 0) (y 0)) ++ (wSt y rp rw rt cI cQ P n Wi Ti (nI nt)))) ++ (wOu ou cJ fo9)) [1, 2, 3, 4, 5, 6, 7, 8, 9, 10, 11, 12, 13, 14, 15, 16, 17, 18, 19, 20, 21, 22, 23, 24, 25, 26, 27, 28, 0] (by decide) rfl)
    have g_3 : sOne nt (fun u9 => nI (shN (pp u9))) t 1 (0 : Int32) := hsx
    have g_4 : 1 = 0 → fo9 0 = (0 : Int32).toInt64 := fun h9 => absurd h9 (by decide)
    refine W.widen (k := 1) (n := 6) (by omega) (by omega) ?_
    exact vx_ret (W.iret (v := nI 1) hx hb hr (fun t9 ht9 hW9 => ⟨⟨nI 1, (1, (0 : Int32), fo9), rfl, ⟨rfl, g_3, g_4⟩, by rw [ht9]; exact hP9, hD9⟩, hS.F ht9⟩) hS.2.2 dL_share_14)
  · obtain ⟨j_1, rfl⟩ : ∃ z9, z9 = u_2 := ⟨_, rfl⟩
    obtain ⟨er_9, f_5⟩ := hw9
    replace er_9 := er_9.symm
    subst er_9
    have hs9 : sOne nt (fun u9 => nI (shN (pp u9))) t 0 j_1 := f_5
    have hP : va_P D vwCl ((wOu ou cJ fo9) ++ ((wDp ad o pa ka (fx 0) (sx 0)) ++ ((wOf o (x 0) (y 0)) ++ (wSt y rp rw rt cI cQ P n Wi Ti (nI nt))))) H := hP
    have hD : va_D A ((wOu ou cJ fo9) ++ ((wDp ad o pa ka (fx 0) (sx 0)) ++ ((wOf o (x 0) (y 0)) ++ (wSt y rp rw rt cI cQ P n Wi Ti (nI nt))))) := hD
    refine lv_i2l (v := (j_1).toInt64) hx hb dL_share_7 rfl ?_
    refine r_last hx hb hSt.1 hP hD hS 0 3 rfl rfl (k := 0) (by omega) (by omega) dL_share_8 (fun H locs hP hD hS => ?_)
    have hP : va_P D vwCl ((wOu ou cJ (vp_updL fo9 0 ((j_1).toInt64))) ++ ((wDp ad o pa ka (fx 0) (sx 0)) ++ ((wOf o (x 0) (y 0)) ++ (wSt y rp rw rt cI cQ P n Wi Ti (nI nt))))) H := hP
    have hD : va_D A ((wOu ou cJ (vp_updL fo9 0 ((j_1).toInt64))) ++ ((wDp ad o pa ka (fx 0) (sx 0)) ++ ((wOf o (x 0) (y 0)) ++ (wSt y rp rw rt cI cQ P n Wi Ti (nI nt))))) := hD
    refine lv_goto (tgt := 15) hx hb dL_share_9 (by decide) ?_
    refine lv_iconst (v := nI 0) hx hb dL_share_15 (by decide) ?_
    have hP9 : va_P D vwCl (((wDp ad o pa ka (fx 0) (sx 0)) ++ ((wOf o (x 0) (y 0)) ++ (wSt y rp rw rt cI cQ P n Wi Ti (nI nt)))) ++ (wOu ou cJ (vp_updL fo9 0 ((j_1).toInt64)))) H := (hP.sub (ws' := ((wDp ad o pa ka (fx 0) (sx 0)) ++ ((wOf o (x 0) (y 0)) ++ (wSt y rp rw rt cI cQ P n Wi Ti (nI nt)))) ++ (wOu ou cJ (vp_updL fo9 0 ((j_1).toInt64)))) [1, 2, 3, 4, 5, 6, 7, 8, 9, 10, 11, 12, 13, 14, 15, 16, 17, 18, 19, 20, 21, 22, 23, 24, 25, 26, 27, 28, 0] rfl)
    have hD9 : va_D A (((wDp ad o pa ka (fx 0) (sx 0)) ++ ((wOf o (x 0) (y 0)) ++ (wSt y rp rw rt cI cQ P n Wi Ti (nI nt)))) ++ (wOu ou cJ (vp_updL fo9 0 ((j_1).toInt64)))) := (hD.sub (ws' := ((wDp ad o pa ka (fx 0) (sx 0)) ++ ((wOf o (x 0) (y 0)) ++ (wSt y rp rw rt cI cQ P n Wi Ti (nI nt)))) ++ (wOu ou cJ (vp_updL fo9 0 ((j_1).toInt64)))) [1, 2, 3, 4, 5, 6, 7, 8, 9, 10, 11, 12, 13, 14, 15, 16, 17, 18, 19, 20, 21, 22, 23, 24, 25, 26, 27, 28, 0] (by decide) rfl)
    have g_6 : sOne nt (fun u9 => nI (shN (pp u9))) t 0 j_1 := hs9
    have g_7 : 0 = 0 → (vp_updL fo9 0 ((j_1).toInt64)) 0 = j_1.toInt64 := fun _ => pk_uLs
    refine W.widen (k := 1) (n := 6) (by omega) (by omega) ?_
    exact vx_ret (W.iret (v := nI 0) hx hb hr (fun t9 ht9 hW9 => ⟨⟨nI 0, (0, j_1, vp_updL fo9 0 ((j_1).toInt64)), rfl, ⟨rfl, g_6, g_7⟩, by rw [ht9]; exact hP9, hD9⟩, hS.F ht9⟩) hS.2.2 dL_share_16)
set_option maxHeartbeats 4000000 in
set_option maxRecDepth 100000 in
theorem c_L_zoneOf (l : Launch) (D : va_G) (cI cZ cQ cJ : ClassId) (ad : Nat) (o : Nat) (pa : Nat) (ka : Nat) (fx : Nat → Nat) (sx : Nat → Nat) (x : Nat → Nat) (y : Nat → Nat) (rp : Nat → Nat) (rw : Nat → Nat) (rt : Nat → Nat) (P : Nat → Nat → Int32) (n : Nat → Int32) (Wi : Nat → Nat → Int32) (Ti : Nat → Nat → Int32) (nt : Nat) (pb : Nat) (zo : Nat → Int32) (t : Int32) (ou : Nat) (fo9 : Nat → Int64) (sz : Nat) (hnt : nt ≤ 7) (hfl : l.stackTraces = false) : vx_Met l yL_zoneOf (.codeWith yL_zoneOf cL_zoneOf 4 (some .int) [(0, 9, 12, 13)] :: ALL) ({ frames := 8, cells := 1, slots := 6, locals := 124 } : Room) (va_Pc [.ref ad, .int t, .ref ou] (rx_P D cI cZ cQ cJ (((wDp ad o pa ka (fx 0) (sx 0)) ++ ((wOf o (x 0) (y 0)) ++ ((wSt y rp rw rt cI cQ P n Wi Ti (nI nt)) ++ (wPl pa pb cI zo)))) ++ (wOu ou cJ fo9)) sz)) (va_Qi (fun (r9 : Int32) (u9 : Nat × Int32 × (Nat → Int64)) => (r9 = (nI u9.1)) ∧ (sOne nt zo t u9.1 u9.2.1) ∧ (u9.1 = 0 → u9.2.2 0 = u9.2.1.toInt64)) (rw_B D (va_A (((wDp ad o pa ka (fx 0) (sx 0)) ++ ((wOf o (x 0) (y 0)) ++ ((wSt y rp rw rt cI cQ P n Wi Ti (nI nt)) ++ (wPl pa pb cI zo)))) ++ (wOu ou cJ fo9)) sz) (fun u9 : Nat × Int32 × (Nat → Int64) => ((wDp ad o pa ka (fx 0) (sx 0)) ++ ((wOf o (x 0) (y 0)) ++ ((wSt y rp rw rt cI cQ P n Wi Ti (nI nt)) ++ (wPl pa pb cI zo)))) ++ (wOu ou cJ u9.2.2))) (va_A (((wDp ad o pa ka (fx 0) (sx 0)) ++ ((wOf o (x 0) (y 0)) ++ ((wSt y rp rw rt cI cQ P n Wi Ti (nI nt)) ++ (wPl pa pb cI zo)))) ++ (wOu ou cJ fo9)) sz)) (rx_X (fun (E9 : String) (x9 : Unit) => False) D (va_A (((wDp ad o pa ka (fx 0) (sx 0)) ++ ((wOf o (x 0) (y 0)) ++ ((wSt y rp rw rt cI cQ P n Wi Ti (nI nt)) ++ (wPl pa pb cI zo)))) ++ (wOu ou cJ fo9)) sz) (fun x9 : Unit => ((wDp ad o pa ka (fx 0) (sx 0)) ++ ((wOf o (x 0) (y 0)) ++ ((wSt y rp rw rt cI cQ P n Wi Ti (nI nt)) ++ (wPl pa pb cI zo)))) ++ (wOu ou cJ fo9))) 1 6 (va_A (((wDp ad o pa ka (fx 0) (sx 0)) ++ ((wOf o (x 0) (y 0)) ++ ((wSt y rp rw rt cI cQ P n Wi Ti (nI nt)) ++ (wPl pa pb cI zo)))) ++ (wOu ou cJ fo9)) sz) := by
  refine vx_ofWH (cc := cL_zoneOf) (maxL := 4) (ret := (some .int)) (hh := [(0, 9, 12, 13)]) (by decide) rfl ?_
  intro p e s m args below meth c s₁ B hml hv
  obtain ⟨rfl, ⟨hsz, hP, hSt, hD0⟩, hDc, hZ⟩ := hv
  change W p l e ({ frames := 8, cells := 1, slots := 6, locals := 124 } : Room) s m _ below meth c s.heap [] 0 0 _ _
  have hx := B.exec
  have hb := B.bytes
  have hr := B.returns
  have hts : ∀ w ∈ ALL, w.before ([.ref ad, .int t, .ref ou] : List Value).toArray s = true := fun w h => atoms_spec (ws := (.codeWith yL_zoneOf cL_zoneOf 4 (some .int) [(0, 9, 12, 13)] :: ALL)) B.pre w (List.mem_cons_of_mem _ h)
  have hown : s.vm.findClass RL = some m.cls := findClass_of_methodNamed B.named
  have hlocks := B.notSynchronized
  have htb : c.exceptionTable.toList = tableOf [(0, 9, 12, 13)] := vx_table (x := yL_zoneOf) B (atoms_spec (ws := (.codeWith yL_zoneOf cL_zoneOf 4 (some .int) [(0, 9, 12, 13)] :: ALL)) B.pre _ List.mem_cons_self)
  subst hsz
  have hD := hD0.self (sz := s.heap.size)
  clear hD0
  generalize hAe : va_A (((wDp ad o pa ka (fx 0) (sx 0)) ++ ((wOf o (x 0) (y 0)) ++ ((wSt y rp rw rt cI cQ P n Wi Ti (nI nt)) ++ (wPl pa pb cI zo)))) ++ (wOu ou cJ fo9)) s.heap.size = A at hD hZ ⊢
  have hA : ∀ q : Nat, s.heap.size ≤ q → A q := fun q h => by rw [← hAe]; exact Or.inr h
  have hS : va_S A s.heap s.heap [] := va_S.rf
  have hl := lv_entry ([.ref ad, .int t, .ref ou]) (n := 4) (Nat.le_of_ble_eq_true rfl)
  rw [lg_entry_eq]
  generalize (lg_sl ([.ref ad, .int t, .ref ou]) ++ List.replicate (4 - (lg_sl ([.ref ad, .int t, .ref ou])).length) Slot.unset).toArray = ls at hl ⊢
  have hl : lv_has ls 4 [(0, .ref ad), (1, .int t), (2, .ref ou)] := hl
  obtain ⟨H, hHe⟩ : ∃ H : Heap, H = s.heap := ⟨_, rfl⟩
  obtain ⟨locs, hLe⟩ : ∃ L : List Loc, L = [] := ⟨_, rfl⟩
  have hP : va_P D vwCl (((wDp ad o pa ka (fx 0) (sx 0)) ++ ((wOf o (x 0) (y 0)) ++ ((wSt y rp rw rt cI cQ P n Wi Ti (nI nt)) ++ (wPl pa pb cI zo)))) ++ (wOu ou cJ fo9)) H := by rw [hHe]; exact hP
  have hS : va_S A s.heap H locs := by rw [hHe, hLe]; exact hS
  refine W.eqHL hHe hLe ?_
  refine lv_aload_n hx hb dL_zoneOf_0 rfl (lv_at hl 2 rfl) ?_
  refine lv_iconst (v := nI 0) hx hb dL_zoneOf_1 (by decide) ?_
  refine lv_aload_n hx hb dL_zoneOf_2 rfl (lv_at hl 0 rfl) ?_
  refine lv_iload_n hx hb dL_zoneOf_3 rfl (lv_at hl 1 rfl) ?_
  refine rx_i (wr := wOu ou cJ fo9) (w_VX (As := [.int t]) ⟨hx, hb, hml, hown, hts⟩ (c_X7_zoneOf l D cI cZ cQ cJ ad o pa ka fx sx x y rp rw rt P n Wi Ti nt pb zo t H.size (by first | assumption | omega) (by first | assumption | omega)) (gV t3_189 t3_190 t3_191 t1_1 t3_192) rfl rfl hd_X7_zoneOf ⟨Nat.le_of_ble_eq_true rfl, Nat.le_of_ble_eq_true rfl⟩ (rx_pre hP hD hSt hDc hZ hS hA [0, 1, 2, 3, 4, 5, 6, 7, 8, 9, 10, 11, 12, 13, 14, 15, 16, 17, 18, 19, 20, 21, 22, 23, 24, 25, 26, 27, 28, 29] rfl (by decide)) (va_recv hSt.1 hP (ci := 7) (q0 := 0) rfl rfl) rfl hl.1 (rest := [.int (nI 0), .ref ou]) rfl (Nat.le_of_ble_eq_true rfl) dL_zoneOf_4 ⟨Nat.le_of_ble_eq_true rfl, Nat.le_of_ble_eq_true rfl⟩) hP hD hS hA [0, 1, 2, 3, 4, 5, 6, 7, 8, 9, 10, 11, 12, 13, 14, 15, 16, 17, 18, 19, 20, 21, 22, 23, 24, 25, 26, 27, 28, 29] [30] rfl rfl (by decide) (by decide) (fun E9 ce9 q9 x9 H locs hx9 hP hD hS hc91 hc92 hc93 => ?_) (fun r_9 u_2 H locs hw9 hP hD hS => ?_)
  · have hx9 : E9 = "java/lang/IndexOutOfBoundsException" ∧ sOne nt zo t 1 0 := hx9
    have hP : va_P D vwCl ((wOu ou cJ fo9) ++ ((wDp ad o pa ka (fx 0) (sx 0)) ++ ((wOf o (x 0) (y 0)) ++ ((wSt y rp rw rt cI cQ P n Wi Ti (nI nt)) ++ (wPl pa pb cI zo))))) H := hP
    have hD : va_D A ((wOu ou cJ fo9) ++ ((wDp ad o pa ka (fx 0) (sx 0)) ++ ((wOf o (x 0) (y 0)) ++ ((wSt y rp rw rt cI cQ P n Wi Ti (nI nt)) ++ (wPl pa pb cI zo))))) := hD
    obtain ⟨rfl, hsx⟩ := hx9
    refine vx_catch (own := RL) hown [] ⟨0, 9, 12, 13⟩ [] (by rw [htb]; rfl) (fun _ h9 => nomatch h9) (by decide) (by decide) (hts _ t2_88) (hSt.2.e 0 rfl) hc91 hc92 hc93 ?_
    refine lv_astore_n (lv' := [(3, .ref q9), (0, .ref ad), (1, .int t), (2, .ref ou)]) hx hb dL_zoneOf_12 rfl hl (by decide) rfl (fun ls hl => ?_)
    refine lv_iconst (v := nI 1) hx hb dL_zoneOf_13 (by decide) ?_
    have hP9 : va_P D vwCl (((wDp ad o pa ka (fx 0) (sx 0)) ++ ((wOf o (x 0) (y 0)) ++ ((wSt y rp rw rt cI cQ P n Wi Ti (nI nt)) ++ (wPl pa pb cI zo)))) ++ (wOu ou cJ fo9)) H := (hP.sub (ws' := ((wDp ad o pa ka (fx 0) (sx 0)) ++ ((wOf o (x 0) (y 0)) ++ ((wSt y rp rw rt cI cQ P n Wi Ti (nI nt)) ++ (wPl pa pb cI zo)))) ++ (wOu ou cJ fo9)) [1, 2, 3, 4, 5, 6, 7, 8, 9, 10, 11, 12, 13, 14, 15, 16, 17, 18, 19, 20, 21, 22, 23, 24, 25, 26, 27, 28, 29, 30, 0] rfl)
    have hD9 : va_D A (((wDp ad o pa ka (fx 0) (sx 0)) ++ ((wOf o (x 0) (y 0)) ++ ((wSt y rp rw rt cI cQ P n Wi Ti (nI nt)) ++ (wPl pa pb cI zo)))) ++ (wOu ou cJ fo9)) := (hD.sub (ws' := ((wDp ad o pa ka (fx 0) (sx 0)) ++ ((wOf o (x 0) (y 0)) ++ ((wSt y rp rw rt cI cQ P n Wi Ti (nI nt)) ++ (wPl pa pb cI zo)))) ++ (wOu ou cJ fo9)) [1, 2, 3, 4, 5, 6, 7, 8, 9, 10, 11, 12, 13, 14, 15, 16, 17, 18, 19, 20, 21, 22, 23, 24, 25, 26, 27, 28, 29, 30, 0] (by decide) rfl)
    have g_3 : sOne nt zo t 1 (0 : Int32) := hsx
    have g_4 : 1 = 0 → fo9 0 = (0 : Int32).toInt64 := fun h9 => absurd h9 (by decide)
    refine W.widen (k := 1) (n := 6) (by omega) (by omega) ?_
    exact vx_ret (W.iret (v := nI 1) hx hb hr (fun t9 ht9 hW9 => ⟨⟨nI 1, (1, (0 : Int32), fo9), rfl, ⟨rfl, g_3, g_4⟩, by rw [ht9]; exact hP9, hD9⟩, hS.F ht9⟩) hS.2.2 dL_zoneOf_14)
  · obtain ⟨j_1, rfl⟩ : ∃ z9, z9 = u_2 := ⟨_, rfl⟩
    obtain ⟨er_9, f_5⟩ := hw9
    replace er_9 := er_9.symm
    subst er_9
    have hs9 : sOne nt zo t 0 j_1 := f_5
    have hP : va_P D vwCl ((wOu ou cJ fo9) ++ ((wDp ad o pa ka (fx 0) (sx 0)) ++ ((wOf o (x 0) (y 0)) ++ ((wSt y rp rw rt cI cQ P n Wi Ti (nI nt)) ++ (wPl pa pb cI zo))))) H := hP
    have hD : va_D A ((wOu ou cJ fo9) ++ ((wDp ad o pa ka (fx 0) (sx 0)) ++ ((wOf o (x 0) (y 0)) ++ ((wSt y rp rw rt cI cQ P n Wi Ti (nI nt)) ++ (wPl pa pb cI zo))))) := hD
    refine lv_i2l (v := (j_1).toInt64) hx hb dL_zoneOf_7 rfl ?_
    refine r_last hx hb hSt.1 hP hD hS 0 3 rfl rfl (k := 0) (by omega) (by omega) dL_zoneOf_8 (fun H locs hP hD hS => ?_)
    have hP : va_P D vwCl ((wOu ou cJ (vp_updL fo9 0 ((j_1).toInt64))) ++ ((wDp ad o pa ka (fx 0) (sx 0)) ++ ((wOf o (x 0) (y 0)) ++ ((wSt y rp rw rt cI cQ P n Wi Ti (nI nt)) ++ (wPl pa pb cI zo))))) H := hP
    have hD : va_D A ((wOu ou cJ (vp_updL fo9 0 ((j_1).toInt64))) ++ ((wDp ad o pa ka (fx 0) (sx 0)) ++ ((wOf o (x 0) (y 0)) ++ ((wSt y rp rw rt cI cQ P n Wi Ti (nI nt)) ++ (wPl pa pb cI zo))))) := hD
    refine lv_goto (tgt := 15) hx hb dL_zoneOf_9 (by decide) ?_
    refine lv_iconst (v := nI 0) hx hb dL_zoneOf_15 (by decide) ?_
    have hP9 : va_P D vwCl (((wDp ad o pa ka (fx 0) (sx 0)) ++ ((wOf o (x 0) (y 0)) ++ ((wSt y rp rw rt cI cQ P n Wi Ti (nI nt)) ++ (wPl pa pb cI zo)))) ++ (wOu ou cJ (vp_updL fo9 0 ((j_1).toInt64)))) H := (hP.sub (ws' := ((wDp ad o pa ka (fx 0) (sx 0)) ++ ((wOf o (x 0) (y 0)) ++ ((wSt y rp rw rt cI cQ P n Wi Ti (nI nt)) ++ (wPl pa pb cI zo)))) ++ (wOu ou cJ (vp_updL fo9 0 ((j_1).toInt64)))) [1, 2, 3, 4, 5, 6, 7, 8, 9, 10, 11, 12, 13, 14, 15, 16, 17, 18, 19, 20, 21, 22, 23, 24, 25, 26, 27, 28, 29, 30, 0] rfl)
    have hD9 : va_D A (((wDp ad o pa ka (fx 0) (sx 0)) ++ ((wOf o (x 0) (y 0)) ++ ((wSt y rp rw rt cI cQ P n Wi Ti (nI nt)) ++ (wPl pa pb cI zo)))) ++ (wOu ou cJ (vp_updL fo9 0 ((j_1).toInt64)))) := (hD.sub (ws' := ((wDp ad o pa ka (fx 0) (sx 0)) ++ ((wOf o (x 0) (y 0)) ++ ((wSt y rp rw rt cI cQ P n Wi Ti (nI nt)) ++ (wPl pa pb cI zo)))) ++ (wOu ou cJ (vp_updL fo9 0 ((j_1).toInt64)))) [1, 2, 3, 4, 5, 6, 7, 8, 9, 10, 11, 12, 13, 14, 15, 16, 17, 18, 19, 20, 21, 22, 23, 24, 25, 26, 27, 28, 29, 30, 0] (by decide) rfl)
    have g_6 : sOne nt zo t 0 j_1 := hs9
    have g_7 : 0 = 0 → (vp_updL fo9 0 ((j_1).toInt64)) 0 = j_1.toInt64 := fun _ => pk_uLs
    refine W.widen (k := 1) (n := 6) (by omega) (by omega) ?_
    exact vx_ret (W.iret (v := nI 0) hx hb hr (fun t9 ht9 hW9 => ⟨⟨nI 0, (0, j_1, vp_updL fo9 0 ((j_1).toInt64)), rfl, ⟨rfl, g_6, g_7⟩, by rw [ht9]; exact hP9, hD9⟩, hS.F ht9⟩) hS.2.2 dL_zoneOf_16)
set_option maxHeartbeats 4000000 in
set_option maxRecDepth 100000 in
theorem c_L_teamIn (l : Launch) (D : va_G) (cI cZ cQ cJ : ClassId) (ad : Nat) (o : Nat) (pa : Nat) (ka : Nat) (fx : Nat → Nat) (sx : Nat → Nat) (x : Nat → Nat) (r : Nat → Nat) (w : Nat → Int32) (q : Nat → Int32) (d : Nat → Int32) (T : Nat → Nat → Int32) (st : Nat → Int32) (re : Nat → Int32) (rc : Int32) (nz : Nat) (y : Nat → Nat) (pb : Nat) (zo : Nat → Int32) (z : Int32) (ou : Nat) (fo9 : Nat → Int64) (sz : Nat) (hnz : nz ≤ 7) (hfl : l.stackTraces = false) : vx_Met l yL_teamIn (.codeWith yL_teamIn cL_teamIn 4 (some .int) [(0, 9, 12, 13)] :: ALL) ({ frames := 8, cells := 1, slots := 6, locals := 124 } : Room) (va_Pc [.ref ad, .int z, .ref ou] (rx_P D cI cZ cQ cJ (((wDp ad o pa ka (fx 0) (sx 0)) ++ ((wOf o (x 0) (y 0)) ++ ((wFl x r cI cZ cQ w q d T st re rc (nI nz)) ++ (wPl pa pb cI zo)))) ++ (wOu ou cJ fo9)) sz)) (va_Qi (fun (r9 : Int32) (u9 : Nat × Int32 × (Nat → Int64)) => (r9 = (nI u9.1)) ∧ (sOne nz (fun u9 => tAt zo (nI u9)) z u9.1 u9.2.1) ∧ (u9.1 = 0 → u9.2.2 0 = u9.2.1.toInt64)) (rw_B D (va_A (((wDp ad o pa ka (fx 0) (sx 0)) ++ ((wOf o (x 0) (y 0)) ++ ((wFl x r cI cZ cQ w q d T st re rc (nI nz)) ++ (wPl pa pb cI zo)))) ++ (wOu ou cJ fo9)) sz) (fun u9 : Nat × Int32 × (Nat → Int64) => ((wDp ad o pa ka (fx 0) (sx 0)) ++ ((wOf o (x 0) (y 0)) ++ ((wFl x r cI cZ cQ w q d T st re rc (nI nz)) ++ (wPl pa pb cI zo)))) ++ (wOu ou cJ u9.2.2))) (va_A (((wDp ad o pa ka (fx 0) (sx 0)) ++ ((wOf o (x 0) (y 0)) ++ ((wFl x r cI cZ cQ w q d T st re rc (nI nz)) ++ (wPl pa pb cI zo)))) ++ (wOu ou cJ fo9)) sz)) (rx_X (fun (E9 : String) (x9 : Unit) => False) D (va_A (((wDp ad o pa ka (fx 0) (sx 0)) ++ ((wOf o (x 0) (y 0)) ++ ((wFl x r cI cZ cQ w q d T st re rc (nI nz)) ++ (wPl pa pb cI zo)))) ++ (wOu ou cJ fo9)) sz) (fun x9 : Unit => ((wDp ad o pa ka (fx 0) (sx 0)) ++ ((wOf o (x 0) (y 0)) ++ ((wFl x r cI cZ cQ w q d T st re rc (nI nz)) ++ (wPl pa pb cI zo)))) ++ (wOu ou cJ fo9))) 1 6 (va_A (((wDp ad o pa ka (fx 0) (sx 0)) ++ ((wOf o (x 0) (y 0)) ++ ((wFl x r cI cZ cQ w q d T st re rc (nI nz)) ++ (wPl pa pb cI zo)))) ++ (wOu ou cJ fo9)) sz) := by
  refine vx_ofWH (cc := cL_teamIn) (maxL := 4) (ret := (some .int)) (hh := [(0, 9, 12, 13)]) (by decide) rfl ?_
  intro p e s m args below meth c s₁ B hml hv
  obtain ⟨rfl, ⟨hsz, hP, hSt, hD0⟩, hDc, hZ⟩ := hv
  change W p l e ({ frames := 8, cells := 1, slots := 6, locals := 124 } : Room) s m _ below meth c s.heap [] 0 0 _ _
  have hx := B.exec
  have hb := B.bytes
  have hr := B.returns
  have hts : ∀ w ∈ ALL, w.before ([.ref ad, .int z, .ref ou] : List Value).toArray s = true := fun w h => atoms_spec (ws := (.codeWith yL_teamIn cL_teamIn 4 (some .int) [(0, 9, 12, 13)] :: ALL)) B.pre w (List.mem_cons_of_mem _ h)
  have hown : s.vm.findClass RL = some m.cls := findClass_of_methodNamed B.named
  have hlocks := B.notSynchronized
  have htb : c.exceptionTable.toList = tableOf [(0, 9, 12, 13)] := vx_table (x := yL_teamIn) B (atoms_spec (ws := (.codeWith yL_teamIn cL_teamIn 4 (some .int) [(0, 9, 12, 13)] :: ALL)) B.pre _ List.mem_cons_self)
  subst hsz
  have hD := hD0.self (sz := s.heap.size)
  clear hD0
  generalize hAe : va_A (((wDp ad o pa ka (fx 0) (sx 0)) ++ ((wOf o (x 0) (y 0)) ++ ((wFl x r cI cZ cQ w q d T st re rc (nI nz)) ++ (wPl pa pb cI zo)))) ++ (wOu ou cJ fo9)) s.heap.size = A at hD hZ ⊢
  have hA : ∀ q : Nat, s.heap.size ≤ q → A q := fun q h => by rw [← hAe]; exact Or.inr h
  have hS : va_S A s.heap s.heap [] := va_S.rf
  have hl := lv_entry ([.ref ad, .int z, .ref ou]) (n := 4) (Nat.le_of_ble_eq_true rfl)
  rw [lg_entry_eq]
  generalize (lg_sl ([.ref ad, .int z, .ref ou]) ++ List.replicate (4 - (lg_sl ([.ref ad, .int z, .ref ou])).length) Slot.unset).toArray = ls at hl ⊢
  have hl : lv_has ls 4 [(0, .ref ad), (1, .int z), (2, .ref ou)] := hl
  obtain ⟨H, hHe⟩ : ∃ H : Heap, H = s.heap := ⟨_, rfl⟩
  obtain ⟨locs, hLe⟩ : ∃ L : List Loc, L = [] := ⟨_, rfl⟩
  have hP : va_P D vwCl (((wDp ad o pa ka (fx 0) (sx 0)) ++ ((wOf o (x 0) (y 0)) ++ ((wFl x r cI cZ cQ w q d T st re rc (nI nz)) ++ (wPl pa pb cI zo)))) ++ (wOu ou cJ fo9)) H := by rw [hHe]; exact hP
  have hS : va_S A s.heap H locs := by rw [hHe, hLe]; exact hS
  refine W.eqHL hHe hLe ?_
  refine lv_aload_n hx hb dL_teamIn_0 rfl (lv_at hl 2 rfl) ?_
  refine lv_iconst (v := nI 0) hx hb dL_teamIn_1 (by decide) ?_
  refine lv_aload_n hx hb dL_teamIn_2 rfl (lv_at hl 0 rfl) ?_
  refine lv_iload_n hx hb dL_teamIn_3 rfl (lv_at hl 1 rfl) ?_
  refine rx_i (wr := wOu ou cJ fo9) (w_VX (As := [.int z]) ⟨hx, hb, hml, hown, hts⟩ (c_X7_teamIn l D cI cZ cQ cJ ad o pa ka fx sx x r w q d T st re rc nz y pb zo z H.size (by first | assumption | omega) (by first | assumption | omega)) (gV t3_196 t3_197 t3_198 t1_1 t3_199) rfl rfl hd_X7_teamIn ⟨Nat.le_of_ble_eq_true rfl, Nat.le_of_ble_eq_true rfl⟩ (rx_pre hP hD hSt hDc hZ hS hA [0, 1, 2, 3, 4, 5, 6, 7, 8, 9, 10, 11, 12, 13, 14, 15, 16, 17] rfl (by decide)) (va_recv hSt.1 hP (ci := 7) (q0 := 0) rfl rfl) rfl hl.1 (rest := [.int (nI 0), .ref ou]) rfl (Nat.le_of_ble_eq_true rfl) dL_teamIn_4 ⟨Nat.le_of_ble_eq_true rfl, Nat.le_of_ble_eq_true rfl⟩) hP hD hS hA [0, 1, 2, 3, 4, 5, 6, 7, 8, 9, 10, 11, 12, 13, 14, 15, 16, 17] [18] rfl rfl (by decide) (by decide) (fun E9 ce9 q9 x9 H locs hx9 hP hD hS hc91 hc92 hc93 => ?_) (fun r_9 u_2 H locs hw9 hP hD hS => ?_)
  · have hx9 : E9 = "java/lang/IndexOutOfBoundsException" ∧ sOne nz (fun u9 => tAt zo (nI u9)) z 1 0 := hx9
    have hP : va_P D vwCl ((wOu ou cJ fo9) ++ ((wDp ad o pa ka (fx 0) (sx 0)) ++ ((wOf o (x 0) (y 0)) ++ ((wFl x r cI cZ cQ w q d T st re rc (nI nz)) ++ (wPl pa pb cI zo))))) H := hP
    have hD : va_D A ((wOu ou cJ fo9) ++ ((wDp ad o pa ka (fx 0) (sx 0)) ++ ((wOf o (x 0) (y 0)) ++ ((wFl x r cI cZ cQ w q d T st re rc (nI nz)) ++ (wPl pa pb cI zo))))) := hD
    obtain ⟨rfl, hsx⟩ := hx9
    refine vx_catch (own := RL) hown [] ⟨0, 9, 12, 13⟩ [] (by rw [htb]; rfl) (fun _ h9 => nomatch h9) (by decide) (by decide) (hts _ t2_88) (hSt.2.e 0 rfl) hc91 hc92 hc93 ?_
    refine lv_astore_n (lv' := [(3, .ref q9), (0, .ref ad), (1, .int z), (2, .ref ou)]) hx hb dL_teamIn_12 rfl hl (by decide) rfl (fun ls hl => ?_)
    refine lv_iconst (v := nI 1) hx hb dL_teamIn_13 (by decide) ?_
    have hP9 : va_P D vwCl (((wDp ad o pa ka (fx 0) (sx 0)) ++ ((wOf o (x 0) (y 0)) ++ ((wFl x r cI cZ cQ w q d T st re rc (nI nz)) ++ (wPl pa pb cI zo)))) ++ (wOu ou cJ fo9)) H := (hP.sub (ws' := ((wDp ad o pa ka (fx 0) (sx 0)) ++ ((wOf o (x 0) (y 0)) ++ ((wFl x r cI cZ cQ w q d T st re rc (nI nz)) ++ (wPl pa pb cI zo)))) ++ (wOu ou cJ fo9)) [1, 2, 3, 4, 5, 6, 7, 8, 9, 10, 11, 12, 13, 14, 15, 16, 17, 18, 0] rfl)
    have hD9 : va_D A (((wDp ad o pa ka (fx 0) (sx 0)) ++ ((wOf o (x 0) (y 0)) ++ ((wFl x r cI cZ cQ w q d T st re rc (nI nz)) ++ (wPl pa pb cI zo)))) ++ (wOu ou cJ fo9)) := (hD.sub (ws' := ((wDp ad o pa ka (fx 0) (sx 0)) ++ ((wOf o (x 0) (y 0)) ++ ((wFl x r cI cZ cQ w q d T st re rc (nI nz)) ++ (wPl pa pb cI zo)))) ++ (wOu ou cJ fo9)) [1, 2, 3, 4, 5, 6, 7, 8, 9, 10, 11, 12, 13, 14, 15, 16, 17, 18, 0] (by decide) rfl)
    have g_3 : sOne nz (fun u9 => tAt zo (nI u9)) z 1 (0 : Int32) := hsx
    have g_4 : 1 = 0 → fo9 0 = (0 : Int32).toInt64 := fun h9 => absurd h9 (by decide)
    refine W.widen (k := 1) (n := 6) (by omega) (by omega) ?_
    exact vx_ret (W.iret (v := nI 1) hx hb hr (fun t9 ht9 hW9 => ⟨⟨nI 1, (1, (0 : Int32), fo9), rfl, ⟨rfl, g_3, g_4⟩, by rw [ht9]; exact hP9, hD9⟩, hS.F ht9⟩) hS.2.2 dL_teamIn_14)
  · obtain ⟨j_1, rfl⟩ : ∃ z9, z9 = u_2 := ⟨_, rfl⟩
    obtain ⟨er_9, f_5⟩ := hw9
    replace er_9 := er_9.symm
    subst er_9
    have hs9 : sOne nz (fun u9 => tAt zo (nI u9)) z 0 j_1 := f_5
    have hP : va_P D vwCl ((wOu ou cJ fo9) ++ ((wDp ad o pa ka (fx 0) (sx 0)) ++ ((wOf o (x 0) (y 0)) ++ ((wFl x r cI cZ cQ w q d T st re rc (nI nz)) ++ (wPl pa pb cI zo))))) H := hP
    have hD : va_D A ((wOu ou cJ fo9) ++ ((wDp ad o pa ka (fx 0) (sx 0)) ++ ((wOf o (x 0) (y 0)) ++ ((wFl x r cI cZ cQ w q d T st re rc (nI nz)) ++ (wPl pa pb cI zo))))) := hD
    refine lv_i2l (v := (j_1).toInt64) hx hb dL_teamIn_7 rfl ?_
    refine r_last hx hb hSt.1 hP hD hS 0 3 rfl rfl (k := 0) (by omega) (by omega) dL_teamIn_8 (fun H locs hP hD hS => ?_)
    have hP : va_P D vwCl ((wOu ou cJ (vp_updL fo9 0 ((j_1).toInt64))) ++ ((wDp ad o pa ka (fx 0) (sx 0)) ++ ((wOf o (x 0) (y 0)) ++ ((wFl x r cI cZ cQ w q d T st re rc (nI nz)) ++ (wPl pa pb cI zo))))) H := hP
    have hD : va_D A ((wOu ou cJ (vp_updL fo9 0 ((j_1).toInt64))) ++ ((wDp ad o pa ka (fx 0) (sx 0)) ++ ((wOf o (x 0) (y 0)) ++ ((wFl x r cI cZ cQ w q d T st re rc (nI nz)) ++ (wPl pa pb cI zo))))) := hD
    refine lv_goto (tgt := 15) hx hb dL_teamIn_9 (by decide) ?_
    refine lv_iconst (v := nI 0) hx hb dL_teamIn_15 (by decide) ?_
    have hP9 : va_P D vwCl (((wDp ad o pa ka (fx 0) (sx 0)) ++ ((wOf o (x 0) (y 0)) ++ ((wFl x r cI cZ cQ w q d T st re rc (nI nz)) ++ (wPl pa pb cI zo)))) ++ (wOu ou cJ (vp_updL fo9 0 ((j_1).toInt64)))) H := (hP.sub (ws' := ((wDp ad o pa ka (fx 0) (sx 0)) ++ ((wOf o (x 0) (y 0)) ++ ((wFl x r cI cZ cQ w q d T st re rc (nI nz)) ++ (wPl pa pb cI zo)))) ++ (wOu ou cJ (vp_updL fo9 0 ((j_1).toInt64)))) [1, 2, 3, 4, 5, 6, 7, 8, 9, 10, 11, 12, 13, 14, 15, 16, 17, 18, 0] rfl)
    have hD9 : va_D A (((wDp ad o pa ka (fx 0) (sx 0)) ++ ((wOf o (x 0) (y 0)) ++ ((wFl x r cI cZ cQ w q d T st re rc (nI nz)) ++ (wPl pa pb cI zo)))) ++ (wOu ou cJ (vp_updL fo9 0 ((j_1).toInt64)))) := (hD.sub (ws' := ((wDp ad o pa ka (fx 0) (sx 0)) ++ ((wOf o (x 0) (y 0)) ++ ((wFl x r cI cZ cQ w q d T st re rc (nI nz)) ++ (wPl pa pb cI zo)))) ++ (wOu ou cJ (vp_updL fo9 0 ((j_1).toInt64)))) [1, 2, 3, 4, 5, 6, 7, 8, 9, 10, 11, 12, 13, 14, 15, 16, 17, 18, 0] (by decide) rfl)
    have g_6 : sOne nz (fun u9 => tAt zo (nI u9)) z 0 j_1 := hs9
    have g_7 : 0 = 0 → (vp_updL fo9 0 ((j_1).toInt64)) 0 = j_1.toInt64 := fun _ => pk_uLs
    refine W.widen (k := 1) (n := 6) (by omega) (by omega) ?_
    exact vx_ret (W.iret (v := nI 0) hx hb hr (fun t9 ht9 hW9 => ⟨⟨nI 0, (0, j_1, vp_updL fo9 0 ((j_1).toInt64)), rfl, ⟨rfl, g_6, g_7⟩, by rw [ht9]; exact hP9, hD9⟩, hS.F ht9⟩) hS.2.2 dL_teamIn_16)
set_option maxHeartbeats 4000000 in
set_option maxRecDepth 100000 in
theorem c_L_free (l : Launch) (D : va_G) (cI cZ cQ cJ : ClassId) (ad : Nat) (o : Nat) (pa : Nat) (ka : Nat) (fx : Nat → Nat) (sx : Nat → Nat) (x : Nat → Nat) (r : Nat → Nat) (w : Nat → Int32) (q : Nat → Int32) (d : Nat → Int32) (T : Nat → Nat → Int32) (st : Nat → Int32) (re : Nat → Int32) (rc : Int32) (nz : Nat) (y : Nat → Nat) (rp : Nat → Nat) (rw : Nat → Nat) (rt : Nat → Nat) (P : Nat → Nat → Int32) (n : Nat → Int32) (Wi : Nat → Nat → Int32) (Ti : Nat → Nat → Int32) (nt : Nat) (pb : Nat) (zo : Nat → Int32) (z : Int32) (j9 : Int32) (ou : Nat) (fo9 : Nat → Int64) (sz : Nat) (hnz : nz ≤ 7) (hfl : l.stackTraces = false) : vx_Met l yL_free (.codeWith yL_free cL_free 5 (some .int) [(0, 10, 13, 13)] :: ALL) ({ frames := 8, cells := 2, slots := 12, locals := 127 } : Room) (va_Pc [.ref ad, .int z, .int j9, .ref ou] (rx_P D cI cZ cQ cJ (((wDp ad o pa ka (fx 0) (sx 0)) ++ ((wOf o (x 0) (y 0)) ++ ((wFl x r cI cZ cQ w q d T st re rc (nI nz)) ++ ((wSt y rp rw rt cI cQ P n Wi Ti (nI nt)) ++ (wPl pa pb cI zo))))) ++ (wOu ou cJ fo9)) sz)) (va_Qi (fun (r9 : Int32) (u9 : Nat × Int32 × (Nat → Int64)) => (r9 = (nI u9.1)) ∧ (sFree nz d zo P z j9 u9.1 u9.2.1) ∧ (u9.1 = 0 → u9.2.2 0 = u9.2.1.toInt64)) (rw_B D (va_A (((wDp ad o pa ka (fx 0) (sx 0)) ++ ((wOf o (x 0) (y 0)) ++ ((wFl x r cI cZ cQ w q d T st re rc (nI nz)) ++ ((wSt y rp rw rt cI cQ P n Wi Ti (nI nt)) ++ (wPl pa pb cI zo))))) ++ (wOu ou cJ fo9)) sz) (fun u9 : Nat × Int32 × (Nat → Int64) => ((wDp ad o pa ka (fx 0) (sx 0)) ++ ((wOf o (x 0) (y 0)) ++ ((wFl x r cI cZ cQ w q d T st re rc (nI nz)) ++ ((wSt y rp rw rt cI cQ P n Wi Ti (nI nt)) ++ (wPl pa pb cI zo))))) ++ (wOu ou cJ u9.2.2))) (va_A (((wDp ad o pa ka (fx 0) (sx 0)) ++ ((wOf o (x 0) (y 0)) ++ ((wFl x r cI cZ cQ w q d T st re rc (nI nz)) ++ ((wSt y rp rw rt cI cQ P n Wi Ti (nI nt)) ++ (wPl pa pb cI zo))))) ++ (wOu ou cJ fo9)) sz)) (rx_X (fun (E9 : String) (x9 : Unit) => False) D (va_A (((wDp ad o pa ka (fx 0) (sx 0)) ++ ((wOf o (x 0) (y 0)) ++ ((wFl x r cI cZ cQ w q d T st re rc (nI nz)) ++ ((wSt y rp rw rt cI cQ P n Wi Ti (nI nt)) ++ (wPl pa pb cI zo))))) ++ (wOu ou cJ fo9)) sz) (fun x9 : Unit => ((wDp ad o pa ka (fx 0) (sx 0)) ++ ((wOf o (x 0) (y 0)) ++ ((wFl x r cI cZ cQ w q d T st re rc (nI nz)) ++ ((wSt y rp rw rt cI cQ P n Wi Ti (nI nt)) ++ (wPl pa pb cI zo))))) ++ (wOu ou cJ fo9))) 2 12 (va_A (((wDp ad o pa ka (fx 0) (sx 0)) ++ ((wOf o (x 0) (y 0)) ++ ((wFl x r cI cZ cQ w q d T st re rc (nI nz)) ++ ((wSt y rp rw rt cI cQ P n Wi Ti (nI nt)) ++ (wPl pa pb cI zo))))) ++ (wOu ou cJ fo9)) sz) := by
  refine vx_ofWH (cc := cL_free) (maxL := 5) (ret := (some .int)) (hh := [(0, 10, 13, 13)]) (by decide) rfl ?_
  intro p e s m args below meth c s₁ B hml hv
  obtain ⟨rfl, ⟨hsz, hP, hSt, hD0⟩, hDc, hZ⟩ := hv
  change W p l e ({ frames := 8, cells := 2, slots := 12, locals := 127 } : Room) s m _ below meth c s.heap [] 0 0 _ _
  have hx := B.exec
  have hb := B.bytes
  have hr := B.returns
  have hts : ∀ w ∈ ALL, w.before ([.ref ad, .int z, .int j9, .ref ou] : List Value).toArray s = true := fun w h => atoms_spec (ws := (.codeWith yL_free cL_free 5 (some .int) [(0, 10, 13, 13)] :: ALL)) B.pre w (List.mem_cons_of_mem _ h)
  have hown : s.vm.findClass RL = some m.cls := findClass_of_methodNamed B.named
  have hlocks := B.notSynchronized
  have htb : c.exceptionTable.toList = tableOf [(0, 10, 13, 13)] := vx_table (x := yL_free) B (atoms_spec (ws := (.codeWith yL_free cL_free 5 (some .int) [(0, 10, 13, 13)] :: ALL)) B.pre _ List.mem_cons_self)
  subst hsz
  have hD := hD0.self (sz := s.heap.size)
  clear hD0
  generalize hAe : va_A (((wDp ad o pa ka (fx 0) (sx 0)) ++ ((wOf o (x 0) (y 0)) ++ ((wFl x r cI cZ cQ w q d T st re rc (nI nz)) ++ ((wSt y rp rw rt cI cQ P n Wi Ti (nI nt)) ++ (wPl pa pb cI zo))))) ++ (wOu ou cJ fo9)) s.heap.size = A at hD hZ ⊢
  have hA : ∀ q : Nat, s.heap.size ≤ q → A q := fun q h => by rw [← hAe]; exact Or.inr h
  have hS : va_S A s.heap s.heap [] := va_S.rf
  have hl := lv_entry ([.ref ad, .int z, .int j9, .ref ou]) (n := 5) (Nat.le_of_ble_eq_true rfl)
  rw [lg_entry_eq]
  generalize (lg_sl ([.ref ad, .int z, .int j9, .ref ou]) ++ List.replicate (5 - (lg_sl ([.ref ad, .int z, .int j9, .ref ou])).length) Slot.unset).toArray = ls at hl ⊢
  have hl : lv_has ls 5 [(0, .ref ad), (1, .int z), (2, .int j9), (3, .ref ou)] := hl
  obtain ⟨H, hHe⟩ : ∃ H : Heap, H = s.heap := ⟨_, rfl⟩
  obtain ⟨locs, hLe⟩ : ∃ L : List Loc, L = [] := ⟨_, rfl⟩
  have hP : va_P D vwCl (((wDp ad o pa ka (fx 0) (sx 0)) ++ ((wOf o (x 0) (y 0)) ++ ((wFl x r cI cZ cQ w q d T st re rc (nI nz)) ++ ((wSt y rp rw rt cI cQ P n Wi Ti (nI nt)) ++ (wPl pa pb cI zo))))) ++ (wOu ou cJ fo9)) H := by rw [hHe]; exact hP
  have hS : va_S A s.heap H locs := by rw [hHe, hLe]; exact hS
  refine W.eqHL hHe hLe ?_
  refine lv_aload_n hx hb dL_free_0 rfl (lv_at hl 3 rfl) ?_
  refine lv_iconst (v := nI 0) hx hb dL_free_1 (by decide) ?_
  refine lv_aload_n hx hb dL_free_2 rfl (lv_at hl 0 rfl) ?_
  refine lv_iload_n hx hb dL_free_3 rfl (lv_at hl 1 rfl) ?_
  refine lv_iload_n hx hb dL_free_4 rfl (lv_at hl 2 rfl) ?_
  refine rx_i (wr := wOu ou cJ fo9) (w_VX (As := [.int z, .int j9]) ⟨hx, hb, hml, hown, hts⟩ (c_X7_free l D cI cZ cQ cJ ad o pa ka fx sx x r w q d T st re rc nz y rp rw rt P n Wi Ti nt pb zo z j9 H.size (by first | assumption | omega) (by first | assumption | omega)) (gV t3_203 t3_204 t3_205 t1_1 t3_206) rfl rfl hd_X7_free ⟨Nat.le_of_ble_eq_true rfl, Nat.le_of_ble_eq_true rfl⟩ (rx_pre hP hD hSt hDc hZ hS hA [0, 1, 2, 3, 4, 5, 6, 7, 8, 9, 10, 11, 12, 13, 14, 15, 16, 17, 18, 19, 20, 21, 22, 23, 24, 25, 26, 27, 28, 29, 30, 31, 32, 33, 34, 35, 36, 37, 38, 39, 40, 41, 42, 43] rfl (by decide)) (va_recv hSt.1 hP (ci := 7) (q0 := 0) rfl rfl) rfl hl.1 (rest := [.int (nI 0), .ref ou]) rfl (Nat.le_of_ble_eq_true rfl) dL_free_5 ⟨Nat.le_of_ble_eq_true rfl, Nat.le_of_ble_eq_true rfl⟩) hP hD hS hA [0, 1, 2, 3, 4, 5, 6, 7, 8, 9, 10, 11, 12, 13, 14, 15, 16, 17, 18, 19, 20, 21, 22, 23, 24, 25, 26, 27, 28, 29, 30, 31, 32, 33, 34, 35, 36, 37, 38, 39, 40, 41, 42, 43] [44] rfl rfl (by decide) (by decide) (fun E9 ce9 q9 x9 H locs hx9 hP hD hS hc91 hc92 hc93 => ?_) (fun r_9 u_2 H locs hw9 hP hD hS => ?_)
  · have hx9 : E9 = "java/lang/IndexOutOfBoundsException" ∧ sFree nz d zo P z j9 1 0 := hx9
    have hP : va_P D vwCl ((wOu ou cJ fo9) ++ ((wDp ad o pa ka (fx 0) (sx 0)) ++ ((wOf o (x 0) (y 0)) ++ ((wFl x r cI cZ cQ w q d T st re rc (nI nz)) ++ ((wSt y rp rw rt cI cQ P n Wi Ti (nI nt)) ++ (wPl pa pb cI zo)))))) H := hP
    have hD : va_D A ((wOu ou cJ fo9) ++ ((wDp ad o pa ka (fx 0) (sx 0)) ++ ((wOf o (x 0) (y 0)) ++ ((wFl x r cI cZ cQ w q d T st re rc (nI nz)) ++ ((wSt y rp rw rt cI cQ P n Wi Ti (nI nt)) ++ (wPl pa pb cI zo)))))) := hD
    obtain ⟨rfl, hsx⟩ := hx9
    refine vx_catch (own := RL) hown [] ⟨0, 10, 13, 13⟩ [] (by rw [htb]; rfl) (fun _ h9 => nomatch h9) (by decide) (by decide) (hts _ t2_88) (hSt.2.e 0 rfl) hc91 hc92 hc93 ?_
    refine lv_astore (lv' := [(4, .ref q9), (0, .ref ad), (1, .int z), (2, .int j9), (3, .ref ou)]) hx hb dL_free_13 hl (by decide) rfl (fun ls hl => ?_)
    refine lv_iconst (v := nI 1) hx hb dL_free_15 (by decide) ?_
    have hP9 : va_P D vwCl (((wDp ad o pa ka (fx 0) (sx 0)) ++ ((wOf o (x 0) (y 0)) ++ ((wFl x r cI cZ cQ w q d T st re rc (nI nz)) ++ ((wSt y rp rw rt cI cQ P n Wi Ti (nI nt)) ++ (wPl pa pb cI zo))))) ++ (wOu ou cJ fo9)) H := (hP.sub (ws' := ((wDp ad o pa ka (fx 0) (sx 0)) ++ ((wOf o (x 0) (y 0)) ++ ((wFl x r cI cZ cQ w q d T st re rc (nI nz)) ++ ((wSt y rp rw rt cI cQ P n Wi Ti (nI nt)) ++ (wPl pa pb cI zo))))) ++ (wOu ou cJ fo9)) [1, 2, 3, 4, 5, 6, 7, 8, 9, 10, 11, 12, 13, 14, 15, 16, 17, 18, 19, 20, 21, 22, 23, 24, 25, 26, 27, 28, 29, 30, 31, 32, 33, 34, 35, 36, 37, 38, 39, 40, 41, 42, 43, 44, 0] rfl)
    have hD9 : va_D A (((wDp ad o pa ka (fx 0) (sx 0)) ++ ((wOf o (x 0) (y 0)) ++ ((wFl x r cI cZ cQ w q d T st re rc (nI nz)) ++ ((wSt y rp rw rt cI cQ P n Wi Ti (nI nt)) ++ (wPl pa pb cI zo))))) ++ (wOu ou cJ fo9)) := (hD.sub (ws' := ((wDp ad o pa ka (fx 0) (sx 0)) ++ ((wOf o (x 0) (y 0)) ++ ((wFl x r cI cZ cQ w q d T st re rc (nI nz)) ++ ((wSt y rp rw rt cI cQ P n Wi Ti (nI nt)) ++ (wPl pa pb cI zo))))) ++ (wOu ou cJ fo9)) [1, 2, 3, 4, 5, 6, 7, 8, 9, 10, 11, 12, 13, 14, 15, 16, 17, 18, 19, 20, 21, 22, 23, 24, 25, 26, 27, 28, 29, 30, 31, 32, 33, 34, 35, 36, 37, 38, 39, 40, 41, 42, 43, 44, 0] (by decide) rfl)
    have g_3 : sFree nz d zo P z j9 1 (0 : Int32) := hsx
    have g_4 : 1 = 0 → fo9 0 = (0 : Int32).toInt64 := fun h9 => absurd h9 (by decide)
    refine W.widen (k := 2) (n := 12) (by omega) (by omega) ?_
    exact vx_ret (W.iret (v := nI 1) hx hb hr (fun t9 ht9 hW9 => ⟨⟨nI 1, (1, (0 : Int32), fo9), rfl, ⟨rfl, g_3, g_4⟩, by rw [ht9]; exact hP9, hD9⟩, hS.F ht9⟩) hS.2.2 dL_free_16)
  · obtain ⟨j_1, rfl⟩ : ∃ z9, z9 = u_2 := ⟨_, rfl⟩
    obtain ⟨er_9, f_5⟩ := hw9
    replace er_9 := er_9.symm
    subst er_9
    have hs9 : sFree nz d zo P z j9 0 j_1 := f_5
    have hP : va_P D vwCl ((wOu ou cJ fo9) ++ ((wDp ad o pa ka (fx 0) (sx 0)) ++ ((wOf o (x 0) (y 0)) ++ ((wFl x r cI cZ cQ w q d T st re rc (nI nz)) ++ ((wSt y rp rw rt cI cQ P n Wi Ti (nI nt)) ++ (wPl pa pb cI zo)))))) H := hP
    have hD : va_D A ((wOu ou cJ fo9) ++ ((wDp ad o pa ka (fx 0) (sx 0)) ++ ((wOf o (x 0) (y 0)) ++ ((wFl x r cI cZ cQ w q d T st re rc (nI nz)) ++ ((wSt y rp rw rt cI cQ P n Wi Ti (nI nt)) ++ (wPl pa pb cI zo)))))) := hD
    refine lv_i2l (v := (j_1).toInt64) hx hb dL_free_8 rfl ?_
    refine r_last hx hb hSt.1 hP hD hS 0 3 rfl rfl (k := 0) (by omega) (by omega) dL_free_9 (fun H locs hP hD hS => ?_)
    have hP : va_P D vwCl ((wOu ou cJ (vp_updL fo9 0 ((j_1).toInt64))) ++ ((wDp ad o pa ka (fx 0) (sx 0)) ++ ((wOf o (x 0) (y 0)) ++ ((wFl x r cI cZ cQ w q d T st re rc (nI nz)) ++ ((wSt y rp rw rt cI cQ P n Wi Ti (nI nt)) ++ (wPl pa pb cI zo)))))) H := hP
    have hD : va_D A ((wOu ou cJ (vp_updL fo9 0 ((j_1).toInt64))) ++ ((wDp ad o pa ka (fx 0) (sx 0)) ++ ((wOf o (x 0) (y 0)) ++ ((wFl x r cI cZ cQ w q d T st re rc (nI nz)) ++ ((wSt y rp rw rt cI cQ P n Wi Ti (nI nt)) ++ (wPl pa pb cI zo)))))) := hD
    refine lv_goto (tgt := 17) hx hb dL_free_10 (by decide) ?_
    refine lv_iconst (v := nI 0) hx hb dL_free_17 (by decide) ?_
    have hP9 : va_P D vwCl (((wDp ad o pa ka (fx 0) (sx 0)) ++ ((wOf o (x 0) (y 0)) ++ ((wFl x r cI cZ cQ w q d T st re rc (nI nz)) ++ ((wSt y rp rw rt cI cQ P n Wi Ti (nI nt)) ++ (wPl pa pb cI zo))))) ++ (wOu ou cJ (vp_updL fo9 0 ((j_1).toInt64)))) H := (hP.sub (ws' := ((wDp ad o pa ka (fx 0) (sx 0)) ++ ((wOf o (x 0) (y 0)) ++ ((wFl x r cI cZ cQ w q d T st re rc (nI nz)) ++ ((wSt y rp rw rt cI cQ P n Wi Ti (nI nt)) ++ (wPl pa pb cI zo))))) ++ (wOu ou cJ (vp_updL fo9 0 ((j_1).toInt64)))) [1, 2, 3, 4, 5, 6, 7, 8, 9, 10, 11, 12, 13, 14, 15, 16, 17, 18, 19, 20, 21, 22, 23, 24, 25, 26, 27, 28, 29, 30, 31, 32, 33, 34, 35, 36, 37, 38, 39, 40, 41, 42, 43, 44, 0] rfl)
    have hD9 : va_D A (((wDp ad o pa ka (fx 0) (sx 0)) ++ ((wOf o (x 0) (y 0)) ++ ((wFl x r cI cZ cQ w q d T st re rc (nI nz)) ++ ((wSt y rp rw rt cI cQ P n Wi Ti (nI nt)) ++ (wPl pa pb cI zo))))) ++ (wOu ou cJ (vp_updL fo9 0 ((j_1).toInt64)))) := (hD.sub (ws' := ((wDp ad o pa ka (fx 0) (sx 0)) ++ ((wOf o (x 0) (y 0)) ++ ((wFl x r cI cZ cQ w q d T st re rc (nI nz)) ++ ((wSt y rp rw rt cI cQ P n Wi Ti (nI nt)) ++ (wPl pa pb cI zo))))) ++ (wOu ou cJ (vp_updL fo9 0 ((j_1).toInt64)))) [1, 2, 3, 4, 5, 6, 7, 8, 9, 10, 11, 12, 13, 14, 15, 16, 17, 18, 19, 20, 21, 22, 23, 24, 25, 26, 27, 28, 29, 30, 31, 32, 33, 34, 35, 36, 37, 38, 39, 40, 41, 42, 43, 44, 0] (by decide) rfl)
    have g_6 : sFree nz d zo P z j9 0 j_1 := hs9
    have g_7 : 0 = 0 → (vp_updL fo9 0 ((j_1).toInt64)) 0 = j_1.toInt64 := fun _ => pk_uLs
    refine W.widen (k := 2) (n := 12) (by omega) (by omega) ?_
    exact vx_ret (W.iret (v := nI 0) hx hb hr (fun t9 ht9 hW9 => ⟨⟨nI 0, (0, j_1, vp_updL fo9 0 ((j_1).toInt64)), rfl, ⟨rfl, g_6, g_7⟩, by rw [ht9]; exact hP9, hD9⟩, hS.F ht9⟩) hS.2.2 dL_free_18)
set_option maxHeartbeats 4000000 in
set_option maxRecDepth 100000 in
theorem c_L_distance (l : Launch) (D : va_G) (cI cZ cQ cJ : ClassId) (ad : Nat) (o : Nat) (pa : Nat) (ka : Nat) (fx : Nat → Nat) (sx : Nat → Nat) (x : Nat → Nat) (r : Nat → Nat) (w : Nat → Int32) (q : Nat → Int32) (d : Nat → Int32) (T : Nat → Nat → Int32) (st : Nat → Int32) (re : Nat → Int32) (rc : Int32) (nz : Nat) (y : Nat → Nat) (a8 : Int32) (b8 : Int32) (ou : Nat) (fo9 : Nat → Int64) (sz : Nat) (hnz : nz ≤ 7) (hfl : l.stackTraces = false) : vx_Met l yL_distance (.codeWith yL_distance cL_distance 5 (some .int) [(0, 10, 13, 13)] :: ALL) ({ frames := 8, cells := 2, slots := 12, locals := 125 } : Room) (va_Pc [.ref ad, .int a8, .int b8, .ref ou] (rx_P D cI cZ cQ cJ (((wDp ad o pa ka (fx 0) (sx 0)) ++ ((wOf o (x 0) (y 0)) ++ (wFl x r cI cZ cQ w q d T st re rc (nI nz)))) ++ (wOu ou cJ fo9)) sz)) (va_Qi (fun (r9 : Int32) (u9 : Nat × Int32 × (Nat → Int64)) => (r9 = (nI u9.1)) ∧ (sDist nz T a8 b8 u9.1 u9.2.1) ∧ (u9.1 = 0 → u9.2.2 0 = u9.2.1.toInt64)) (rw_B D (va_A (((wDp ad o pa ka (fx 0) (sx 0)) ++ ((wOf o (x 0) (y 0)) ++ (wFl x r cI cZ cQ w q d T st re rc (nI nz)))) ++ (wOu ou cJ fo9)) sz) (fun u9 : Nat × Int32 × (Nat → Int64) => ((wDp ad o pa ka (fx 0) (sx 0)) ++ ((wOf o (x 0) (y 0)) ++ (wFl x r cI cZ cQ w q d T st re rc (nI nz)))) ++ (wOu ou cJ u9.2.2))) (va_A (((wDp ad o pa ka (fx 0) (sx 0)) ++ ((wOf o (x 0) (y 0)) ++ (wFl x r cI cZ cQ w q d T st re rc (nI nz)))) ++ (wOu ou cJ fo9)) sz)) (rx_X (fun (E9 : String) (x9 : Unit) => False) D (va_A (((wDp ad o pa ka (fx 0) (sx 0)) ++ ((wOf o (x 0) (y 0)) ++ (wFl x r cI cZ cQ w q d T st re rc (nI nz)))) ++ (wOu ou cJ fo9)) sz) (fun x9 : Unit => ((wDp ad o pa ka (fx 0) (sx 0)) ++ ((wOf o (x 0) (y 0)) ++ (wFl x r cI cZ cQ w q d T st re rc (nI nz)))) ++ (wOu ou cJ fo9))) 2 12 (va_A (((wDp ad o pa ka (fx 0) (sx 0)) ++ ((wOf o (x 0) (y 0)) ++ (wFl x r cI cZ cQ w q d T st re rc (nI nz)))) ++ (wOu ou cJ fo9)) sz) := by
  refine vx_ofWH (cc := cL_distance) (maxL := 5) (ret := (some .int)) (hh := [(0, 10, 13, 13)]) (by decide) rfl ?_
  intro p e s m args below meth c s₁ B hml hv
  obtain ⟨rfl, ⟨hsz, hP, hSt, hD0⟩, hDc, hZ⟩ := hv
  change W p l e ({ frames := 8, cells := 2, slots := 12, locals := 125 } : Room) s m _ below meth c s.heap [] 0 0 _ _
  have hx := B.exec
  have hb := B.bytes
  have hr := B.returns
  have hts : ∀ w ∈ ALL, w.before ([.ref ad, .int a8, .int b8, .ref ou] : List Value).toArray s = true := fun w h => atoms_spec (ws := (.codeWith yL_distance cL_distance 5 (some .int) [(0, 10, 13, 13)] :: ALL)) B.pre w (List.mem_cons_of_mem _ h)
  have hown : s.vm.findClass RL = some m.cls := findClass_of_methodNamed B.named
  have hlocks := B.notSynchronized
  have htb : c.exceptionTable.toList = tableOf [(0, 10, 13, 13)] := vx_table (x := yL_distance) B (atoms_spec (ws := (.codeWith yL_distance cL_distance 5 (some .int) [(0, 10, 13, 13)] :: ALL)) B.pre _ List.mem_cons_self)
  subst hsz
  have hD := hD0.self (sz := s.heap.size)
  clear hD0
  generalize hAe : va_A (((wDp ad o pa ka (fx 0) (sx 0)) ++ ((wOf o (x 0) (y 0)) ++ (wFl x r cI cZ cQ w q d T st re rc (nI nz)))) ++ (wOu ou cJ fo9)) s.heap.size = A at hD hZ ⊢
  have hA : ∀ q : Nat, s.heap.size ≤ q → A q := fun q h => by rw [← hAe]; exact Or.inr h
  have hS : va_S A s.heap s.heap [] := va_S.rf
  have hl := lv_entry ([.ref ad, .int a8, .int b8, .ref ou]) (n := 5) (Nat.le_of_ble_eq_true rfl)
  rw [lg_entry_eq]
  generalize (lg_sl ([.ref ad, .int a8, .int b8, .ref ou]) ++ List.replicate (5 - (lg_sl ([.ref ad, .int a8, .int b8, .ref ou])).length) Slot.unset).toArray = ls at hl ⊢
  have hl : lv_has ls 5 [(0, .ref ad), (1, .int a8), (2, .int b8), (3, .ref ou)] := hl
  obtain ⟨H, hHe⟩ : ∃ H : Heap, H = s.heap := ⟨_, rfl⟩
  obtain ⟨locs, hLe⟩ : ∃ L : List Loc, L = [] := ⟨_, rfl⟩
  have hP : va_P D vwCl (((wDp ad o pa ka (fx 0) (sx 0)) ++ ((wOf o (x 0) (y 0)) ++ (wFl x r cI cZ cQ w q d T st re rc (nI nz)))) ++ (wOu ou cJ fo9)) H := by rw [hHe]; exact hP
  have hS : va_S A s.heap H locs := by rw [hHe, hLe]; exact hS
  refine W.eqHL hHe hLe ?_
  refine lv_aload_n hx hb dL_distance_0 rfl (lv_at hl 3 rfl) ?_
  refine lv_iconst (v := nI 0) hx hb dL_distance_1 (by decide) ?_
  refine lv_aload_n hx hb dL_distance_2 rfl (lv_at hl 0 rfl) ?_
  refine lv_iload_n hx hb dL_distance_3 rfl (lv_at hl 1 rfl) ?_
  refine lv_iload_n hx hb dL_distance_4 rfl (lv_at hl 2 rfl) ?_
  refine rx_i (wr := wOu ou cJ fo9) (w_VX (As := [.int a8, .int b8]) ⟨hx, hb, hml, hown, hts⟩ (c_X7_distance l D cI cZ cQ cJ ad o pa ka fx sx x r w q d T st re rc nz y a8 b8 H.size (by first | assumption | omega) (by first | assumption | omega)) (gV t3_210 t3_211 t3_212 t1_1 t3_213) rfl rfl hd_X7_distance ⟨Nat.le_of_ble_eq_true rfl, Nat.le_of_ble_eq_true rfl⟩ (rx_pre hP hD hSt hDc hZ hS hA [0, 1, 2, 3, 4, 5, 6, 7, 8, 9, 10, 11, 12, 13, 14, 15] rfl (by decide)) (va_recv hSt.1 hP (ci := 7) (q0 := 0) rfl rfl) rfl hl.1 (rest := [.int (nI 0), .ref ou]) rfl (Nat.le_of_ble_eq_true rfl) dL_distance_5 ⟨Nat.le_of_ble_eq_true rfl, Nat.le_of_ble_eq_true rfl⟩) hP hD hS hA [0, 1, 2, 3, 4, 5, 6, 7, 8, 9, 10, 11, 12, 13, 14, 15] [16] rfl rfl (by decide) (by decide) (fun E9 ce9 q9 x9 H locs hx9 hP hD hS hc91 hc92 hc93 => ?_) (fun r_9 u_2 H locs hw9 hP hD hS => ?_)
  · have hx9 : E9 = "java/lang/IndexOutOfBoundsException" ∧ sDist nz T a8 b8 1 0 := hx9
    have hP : va_P D vwCl ((wOu ou cJ fo9) ++ ((wDp ad o pa ka (fx 0) (sx 0)) ++ ((wOf o (x 0) (y 0)) ++ (wFl x r cI cZ cQ w q d T st re rc (nI nz))))) H := hP
    have hD : va_D A ((wOu ou cJ fo9) ++ ((wDp ad o pa ka (fx 0) (sx 0)) ++ ((wOf o (x 0) (y 0)) ++ (wFl x r cI cZ cQ w q d T st re rc (nI nz))))) := hD
    obtain ⟨rfl, hsx⟩ := hx9
    refine vx_catch (own := RL) hown [] ⟨0, 10, 13, 13⟩ [] (by rw [htb]; rfl) (fun _ h9 => nomatch h9) (by decide) (by decide) (hts _ t2_88) (hSt.2.e 0 rfl) hc91 hc92 hc93 ?_
    refine lv_astore (lv' := [(4, .ref q9), (0, .ref ad), (1, .int a8), (2, .int b8), (3, .ref ou)]) hx hb dL_distance_13 hl (by decide) rfl (fun ls hl => ?_)
    refine lv_iconst (v := nI 1) hx hb dL_distance_15 (by decide) ?_
    have hP9 : va_P D vwCl (((wDp ad o pa ka (fx 0) (sx 0)) ++ ((wOf o (x 0) (y 0)) ++ (wFl x r cI cZ cQ w q d T st re rc (nI nz)))) ++ (wOu ou cJ fo9)) H := (hP.sub (ws' := ((wDp ad o pa ka (fx 0) (sx 0)) ++ ((wOf o (x 0) (y 0)) ++ (wFl x r cI cZ cQ w q d T st re rc (nI nz)))) ++ (wOu ou cJ fo9)) [1, 2, 3, 4, 5, 6, 7, 8, 9, 10, 11, 12, 13, 14, 15, 16, 0] rfl)
    have hD9 : va_D A (((wDp ad o pa ka (fx 0) (sx 0)) ++ ((wOf o (x 0) (y 0)) ++ (wFl x r cI cZ cQ w q d T st re rc (nI nz)))) ++ (wOu ou cJ fo9)) := (hD.sub (ws' := ((wDp ad o pa ka (fx 0) (sx 0)) ++ ((wOf o (x 0) (y 0)) ++ (wFl x r cI cZ cQ w q d T st re rc (nI nz)))) ++ (wOu ou cJ fo9)) [1, 2, 3, 4, 5, 6, 7, 8, 9, 10, 11, 12, 13, 14, 15, 16, 0] (by decide) rfl)
    have g_3 : sDist nz T a8 b8 1 (0 : Int32) := hsx
    have g_4 : 1 = 0 → fo9 0 = (0 : Int32).toInt64 := fun h9 => absurd h9 (by decide)
    refine W.widen (k := 2) (n := 12) (by omega) (by omega) ?_
    exact vx_ret (W.iret (v := nI 1) hx hb hr (fun t9 ht9 hW9 => ⟨⟨nI 1, (1, (0 : Int32), fo9), rfl, ⟨rfl, g_3, g_4⟩, by rw [ht9]; exact hP9, hD9⟩, hS.F ht9⟩) hS.2.2 dL_distance_16)
  · obtain ⟨j_1, rfl⟩ : ∃ z9, z9 = u_2 := ⟨_, rfl⟩
    obtain ⟨er_9, f_5⟩ := hw9
    replace er_9 := er_9.symm
    subst er_9
    have hs9 : sDist nz T a8 b8 0 j_1 := f_5
    have hP : va_P D vwCl ((wOu ou cJ fo9) ++ ((wDp ad o pa ka (fx 0) (sx 0)) ++ ((wOf o (x 0) (y 0)) ++ (wFl x r cI cZ cQ w q d T st re rc (nI nz))))) H := hP
    have hD : va_D A ((wOu ou cJ fo9) ++ ((wDp ad o pa ka (fx 0) (sx 0)) ++ ((wOf o (x 0) (y 0)) ++ (wFl x r cI cZ cQ w q d T st re rc (nI nz))))) := hD
    refine lv_i2l (v := (j_1).toInt64) hx hb dL_distance_8 rfl ?_
    refine r_last hx hb hSt.1 hP hD hS 0 3 rfl rfl (k := 0) (by omega) (by omega) dL_distance_9 (fun H locs hP hD hS => ?_)
    have hP : va_P D vwCl ((wOu ou cJ (vp_updL fo9 0 ((j_1).toInt64))) ++ ((wDp ad o pa ka (fx 0) (sx 0)) ++ ((wOf o (x 0) (y 0)) ++ (wFl x r cI cZ cQ w q d T st re rc (nI nz))))) H := hP
    have hD : va_D A ((wOu ou cJ (vp_updL fo9 0 ((j_1).toInt64))) ++ ((wDp ad o pa ka (fx 0) (sx 0)) ++ ((wOf o (x 0) (y 0)) ++ (wFl x r cI cZ cQ w q d T st re rc (nI nz))))) := hD
    refine lv_goto (tgt := 17) hx hb dL_distance_10 (by decide) ?_
    refine lv_iconst (v := nI 0) hx hb dL_distance_17 (by decide) ?_
    have hP9 : va_P D vwCl (((wDp ad o pa ka (fx 0) (sx 0)) ++ ((wOf o (x 0) (y 0)) ++ (wFl x r cI cZ cQ w q d T st re rc (nI nz)))) ++ (wOu ou cJ (vp_updL fo9 0 ((j_1).toInt64)))) H := (hP.sub (ws' := ((wDp ad o pa ka (fx 0) (sx 0)) ++ ((wOf o (x 0) (y 0)) ++ (wFl x r cI cZ cQ w q d T st re rc (nI nz)))) ++ (wOu ou cJ (vp_updL fo9 0 ((j_1).toInt64)))) [1, 2, 3, 4, 5, 6, 7, 8, 9, 10, 11, 12, 13, 14, 15, 16, 0] rfl)
    have hD9 : va_D A (((wDp ad o pa ka (fx 0) (sx 0)) ++ ((wOf o (x 0) (y 0)) ++ (wFl x r cI cZ cQ w q d T st re rc (nI nz)))) ++ (wOu ou cJ (vp_updL fo9 0 ((j_1).toInt64)))) := (hD.sub (ws' := ((wDp ad o pa ka (fx 0) (sx 0)) ++ ((wOf o (x 0) (y 0)) ++ (wFl x r cI cZ cQ w q d T st re rc (nI nz)))) ++ (wOu ou cJ (vp_updL fo9 0 ((j_1).toInt64)))) [1, 2, 3, 4, 5, 6, 7, 8, 9, 10, 11, 12, 13, 14, 15, 16, 0] (by decide) rfl)
    have g_6 : sDist nz T a8 b8 0 j_1 := hs9
    have g_7 : 0 = 0 → (vp_updL fo9 0 ((j_1).toInt64)) 0 = j_1.toInt64 := fun _ => pk_uLs
    refine W.widen (k := 2) (n := 12) (by omega) (by omega) ?_
    exact vx_ret (W.iret (v := nI 0) hx hb hr (fun t9 ht9 hW9 => ⟨⟨nI 0, (0, j_1, vp_updL fo9 0 ((j_1).toInt64)), rfl, ⟨rfl, g_6, g_7⟩, by rw [ht9]; exact hP9, hD9⟩, hS.F ht9⟩) hS.2.2 dL_distance_18)
set_option maxHeartbeats 4000000 in
set_option maxRecDepth 100000 in
theorem c_L_addTeam (l : Launch) (D : va_G) (cI cZ cQ cJ : ClassId) (ad : Nat) (o : Nat) (pa : Nat) (ka : Nat) (fx : Nat → Nat) (sx : Nat → Nat) (x : Nat → Nat) (y : Nat → Nat) (rp : Nat → Nat) (rw : Nat → Nat) (rt : Nat → Nat) (P : Nat → Nat → Int32) (n : Nat → Int32) (Wi : Nat → Nat → Int32) (Ti : Nat → Nat → Int32) (nt : Nat) (ou : Nat) (fo9 : Nat → Int64) (sz : Nat) (hnt : nt ≤ 7) (hfl : l.stackTraces = false) : vx_Met l yL_addTeam (.codeWith yL_addTeam cL_addTeam 3 (some .int) [(0, 8, 11, 15)] :: ALL) ({ frames := 7, cells := 1, slots := 6, locals := 102 } : Room) (va_Pc [.ref ad, .ref ou] (rx_P D cI cZ cQ cJ (((wDp ad o pa ka (fx 0) (sx 0)) ++ ((wOf o (x 0) (y 0)) ++ (wSt y rp rw rt cI cQ P n Wi Ti (nI nt)))) ++ (wOu ou cJ fo9)) sz)) (va_Qi (fun (r9 : Int32) (u9 : Nat × Int32 × (Nat → Nat → Int32) × (Nat → Int32) × Nat × (Nat → Int64)) => (r9 = (nI u9.1)) ∧ (sAddTeam nt P n u9.1 u9.2.1 u9.2.2.2.2.1 u9.2.2.1 u9.2.2.2.1) ∧ (u9.1 = 0 → u9.2.2.2.2.2 0 = u9.2.1.toInt64)) (rw_B D (va_A (((wDp ad o pa ka (fx 0) (sx 0)) ++ ((wOf o (x 0) (y 0)) ++ (wSt y rp rw rt cI cQ P n Wi Ti (nI nt)))) ++ (wOu ou cJ fo9)) sz) (fun u9 : Nat × Int32 × (Nat → Nat → Int32) × (Nat → Int32) × Nat × (Nat → Int64) => ((wDp ad o pa ka (fx 0) (sx 0)) ++ ((wOf o (x 0) (y 0)) ++ (wSt y rp rw rt cI cQ u9.2.2.1 u9.2.2.2.1 Wi Ti (nI u9.2.2.2.2.1)))) ++ (wOu ou cJ u9.2.2.2.2.2))) (va_A (((wDp ad o pa ka (fx 0) (sx 0)) ++ ((wOf o (x 0) (y 0)) ++ (wSt y rp rw rt cI cQ P n Wi Ti (nI nt)))) ++ (wOu ou cJ fo9)) sz)) (rx_X (fun (E9 : String) (x9 : Unit) => False) D (va_A (((wDp ad o pa ka (fx 0) (sx 0)) ++ ((wOf o (x 0) (y 0)) ++ (wSt y rp rw rt cI cQ P n Wi Ti (nI nt)))) ++ (wOu ou cJ fo9)) sz) (fun x9 : Unit => ((wDp ad o pa ka (fx 0) (sx 0)) ++ ((wOf o (x 0) (y 0)) ++ (wSt y rp rw rt cI cQ P n Wi Ti (nI nt)))) ++ (wOu ou cJ fo9))) 1 6 (va_A (((wDp ad o pa ka (fx 0) (sx 0)) ++ ((wOf o (x 0) (y 0)) ++ (wSt y rp rw rt cI cQ P n Wi Ti (nI nt)))) ++ (wOu ou cJ fo9)) sz) := by
  refine vx_ofWH (cc := cL_addTeam) (maxL := 3) (ret := (some .int)) (hh := [(0, 8, 11, 15)]) (by decide) rfl ?_
  intro p e s m args below meth c s₁ B hml hv
  obtain ⟨rfl, ⟨hsz, hP, hSt, hD0⟩, hDc, hZ⟩ := hv
  change W p l e ({ frames := 7, cells := 1, slots := 6, locals := 102 } : Room) s m _ below meth c s.heap [] 0 0 _ _
  have hx := B.exec
  have hb := B.bytes
  have hr := B.returns
  have hts : ∀ w ∈ ALL, w.before ([.ref ad, .ref ou] : List Value).toArray s = true := fun w h => atoms_spec (ws := (.codeWith yL_addTeam cL_addTeam 3 (some .int) [(0, 8, 11, 15)] :: ALL)) B.pre w (List.mem_cons_of_mem _ h)
  have hown : s.vm.findClass RL = some m.cls := findClass_of_methodNamed B.named
  have hlocks := B.notSynchronized
  have htb : c.exceptionTable.toList = tableOf [(0, 8, 11, 15)] := vx_table (x := yL_addTeam) B (atoms_spec (ws := (.codeWith yL_addTeam cL_addTeam 3 (some .int) [(0, 8, 11, 15)] :: ALL)) B.pre _ List.mem_cons_self)
  subst hsz
  have hD := hD0.self (sz := s.heap.size)
  clear hD0
  generalize hAe : va_A (((wDp ad o pa ka (fx 0) (sx 0)) ++ ((wOf o (x 0) (y 0)) ++ (wSt y rp rw rt cI cQ P n Wi Ti (nI nt)))) ++ (wOu ou cJ fo9)) s.heap.size = A at hD hZ ⊢
  have hA : ∀ q : Nat, s.heap.size ≤ q → A q := fun q h => by rw [← hAe]; exact Or.inr h
  have hS : va_S A s.heap s.heap [] := va_S.rf
  have hl := lv_entry ([.ref ad, .ref ou]) (n := 3) (Nat.le_of_ble_eq_true rfl)
  rw [lg_entry_eq]
  generalize (lg_sl ([.ref ad, .ref ou]) ++ List.replicate (3 - (lg_sl ([.ref ad, .ref ou])).length) Slot.unset).toArray = ls at hl ⊢
  have hl : lv_has ls 3 [(0, .ref ad), (1, .ref ou)] := hl
  obtain ⟨H, hHe⟩ : ∃ H : Heap, H = s.heap := ⟨_, rfl⟩
  obtain ⟨locs, hLe⟩ : ∃ L : List Loc, L = [] := ⟨_, rfl⟩
  have hP : va_P D vwCl (((wDp ad o pa ka (fx 0) (sx 0)) ++ ((wOf o (x 0) (y 0)) ++ (wSt y rp rw rt cI cQ P n Wi Ti (nI nt)))) ++ (wOu ou cJ fo9)) H := by rw [hHe]; exact hP
  have hS : va_S A s.heap H locs := by rw [hHe, hLe]; exact hS
  refine W.eqHL hHe hLe ?_
  refine lv_aload_n hx hb dL_addTeam_0 rfl (lv_at hl 1 rfl) ?_
  refine lv_iconst (v := nI 0) hx hb dL_addTeam_1 (by decide) ?_
  refine lv_aload_n hx hb dL_addTeam_2 rfl (lv_at hl 0 rfl) ?_
  refine rx_i (wr := wOu ou cJ fo9) (w_VX (As := []) ⟨hx, hb, hml, hown, hts⟩ (c_X7_addTeam l D cI cZ cQ cJ ad o pa ka fx sx x y rp rw rt P n Wi Ti nt H.size (by first | assumption | omega) (by first | assumption | omega)) (gV t3_24 t3_25 t3_26 t1_1 t3_27) rfl rfl hd_X7_addTeam ⟨Nat.le_of_ble_eq_true rfl, Nat.le_of_ble_eq_true rfl⟩ (rx_pre hP hD hSt hDc hZ hS hA [0, 1, 2, 3, 4, 5, 6, 7, 8, 9, 10, 11, 12, 13, 14, 15, 16, 17, 18, 19, 20, 21, 22, 23, 24, 25, 26, 27] rfl (by decide)) (va_recv hSt.1 hP (ci := 7) (q0 := 0) rfl rfl) rfl hl.1 (rest := [.int (nI 0), .ref ou]) rfl (Nat.le_of_ble_eq_true rfl) dL_addTeam_3 ⟨Nat.le_of_ble_eq_true rfl, Nat.le_of_ble_eq_true rfl⟩) hP hD hS hA [0, 1, 2, 3, 4, 5, 6, 7, 8, 9, 10, 11, 12, 13, 14, 15, 16, 17, 18, 19, 20, 21, 22, 23, 24, 25, 26, 27] [28] rfl rfl (by decide) (by decide) (fun E9 ce9 q9 x9 H locs hx9 hP hD hS hc91 hc92 hc93 => ?_) (fun r_9 u_5 H locs hw9 hP hD hS => ?_)
  · have hx9 : (E9 = "java/lang/IllegalStateException" ∧ sAddTeam nt P n 1 0 nt P n) := hx9
    have hP : va_P D vwCl ((wOu ou cJ fo9) ++ ((wDp ad o pa ka (fx 0) (sx 0)) ++ ((wOf o (x 0) (y 0)) ++ (wSt y rp rw rt cI cQ P n Wi Ti (nI nt))))) H := hP
    have hD : va_D A ((wOu ou cJ fo9) ++ ((wDp ad o pa ka (fx 0) (sx 0)) ++ ((wOf o (x 0) (y 0)) ++ (wSt y rp rw rt cI cQ P n Wi Ti (nI nt))))) := hD
    obtain ⟨rfl, hsx⟩ := hx9
    refine vx_catch (own := RL) hown [] ⟨0, 8, 11, 15⟩ [] (by rw [htb]; rfl) (fun _ h9 => nomatch h9) (by decide) (by decide) (hts _ t2_89) (hSt.2.e 2 rfl) hc91 hc92 hc93 ?_
    refine lv_astore_n (lv' := [(2, .ref q9), (0, .ref ad), (1, .ref ou)]) hx hb dL_addTeam_11 rfl hl (by decide) rfl (fun ls hl => ?_)
    refine lv_iconst (v := nI 1) hx hb dL_addTeam_12 (by decide) ?_
    have hP9 : va_P D vwCl (((wDp ad o pa ka (fx 0) (sx 0)) ++ ((wOf o (x 0) (y 0)) ++ (wSt y rp rw rt cI cQ P n Wi Ti (nI nt)))) ++ (wOu ou cJ fo9)) H := (hP.sub (ws' := ((wDp ad o pa ka (fx 0) (sx 0)) ++ ((wOf o (x 0) (y 0)) ++ (wSt y rp rw rt cI cQ P n Wi Ti (nI nt)))) ++ (wOu ou cJ fo9)) [1, 2, 3, 4, 5, 6, 7, 8, 9, 10, 11, 12, 13, 14, 15, 16, 17, 18, 19, 20, 21, 22, 23, 24, 25, 26, 27, 28, 0] rfl)
    have hD9 : va_D A (((wDp ad o pa ka (fx 0) (sx 0)) ++ ((wOf o (x 0) (y 0)) ++ (wSt y rp rw rt cI cQ P n Wi Ti (nI nt)))) ++ (wOu ou cJ fo9)) := (hD.sub (ws' := ((wDp ad o pa ka (fx 0) (sx 0)) ++ ((wOf o (x 0) (y 0)) ++ (wSt y rp rw rt cI cQ P n Wi Ti (nI nt)))) ++ (wOu ou cJ fo9)) [1, 2, 3, 4, 5, 6, 7, 8, 9, 10, 11, 12, 13, 14, 15, 16, 17, 18, 19, 20, 21, 22, 23, 24, 25, 26, 27, 28, 0] (by decide) rfl)
    have g_6 : sAddTeam nt P n 1 (0 : Int32) nt P n := hsx
    have g_7 : 1 = 0 → fo9 0 = (0 : Int32).toInt64 := fun h9 => absurd h9 (by decide)
    refine W.widen (k := 1) (n := 6) (by omega) (by omega) ?_
    exact vx_ret (W.iret (v := nI 1) hx hb hr (fun t9 ht9 hW9 => ⟨⟨nI 1, (1, (0 : Int32), P, n, nt, fo9), rfl, ⟨rfl, g_6, g_7⟩, by rw [ht9]; exact hP9, hD9⟩, hS.F ht9⟩) hS.2.2 dL_addTeam_13)
  · obtain ⟨j_1, j_2, j_3, j_4⟩ := u_5
    obtain ⟨er_9, f_8⟩ := hw9
    replace er_9 := er_9.symm
    subst er_9
    have hs9 : sAddTeam nt P n 0 j_1 j_4 j_2 j_3 := f_8
    have hP : va_P D vwCl ((wOu ou cJ fo9) ++ ((wDp ad o pa ka (fx 0) (sx 0)) ++ ((wOf o (x 0) (y 0)) ++ (wSt y rp rw rt cI cQ j_2 j_3 Wi Ti (nI j_4))))) H := hP
    have hD : va_D A ((wOu ou cJ fo9) ++ ((wDp ad o pa ka (fx 0) (sx 0)) ++ ((wOf o (x 0) (y 0)) ++ (wSt y rp rw rt cI cQ j_2 j_3 Wi Ti (nI j_4))))) := hD
    refine lv_i2l (v := (j_1).toInt64) hx hb dL_addTeam_6 rfl ?_
    refine r_last hx hb hSt.1 hP hD hS 0 3 rfl rfl (k := 0) (by omega) (by omega) dL_addTeam_7 (fun H locs hP hD hS => ?_)
    have hP : va_P D vwCl ((wOu ou cJ (vp_updL fo9 0 ((j_1).toInt64))) ++ ((wDp ad o pa ka (fx 0) (sx 0)) ++ ((wOf o (x 0) (y 0)) ++ (wSt y rp rw rt cI cQ j_2 j_3 Wi Ti (nI j_4))))) H := hP
    have hD : va_D A ((wOu ou cJ (vp_updL fo9 0 ((j_1).toInt64))) ++ ((wDp ad o pa ka (fx 0) (sx 0)) ++ ((wOf o (x 0) (y 0)) ++ (wSt y rp rw rt cI cQ j_2 j_3 Wi Ti (nI j_4))))) := hD
    refine lv_goto (tgt := 14) hx hb dL_addTeam_8 (by decide) ?_
    refine lv_iconst (v := nI 0) hx hb dL_addTeam_14 (by decide) ?_
    have hP9 : va_P D vwCl (((wDp ad o pa ka (fx 0) (sx 0)) ++ ((wOf o (x 0) (y 0)) ++ (wSt y rp rw rt cI cQ j_2 j_3 Wi Ti (nI j_4)))) ++ (wOu ou cJ (vp_updL fo9 0 ((j_1).toInt64)))) H := (hP.sub (ws' := ((wDp ad o pa ka (fx 0) (sx 0)) ++ ((wOf o (x 0) (y 0)) ++ (wSt y rp rw rt cI cQ j_2 j_3 Wi Ti (nI j_4)))) ++ (wOu ou cJ (vp_updL fo9 0 ((j_1).toInt64)))) [1, 2, 3, 4, 5, 6, 7, 8, 9, 10, 11, 12, 13, 14, 15, 16, 17, 18, 19, 20, 21, 22, 23, 24, 25, 26, 27, 28, 0] rfl)
    have hD9 : va_D A (((wDp ad o pa ka (fx 0) (sx 0)) ++ ((wOf o (x 0) (y 0)) ++ (wSt y rp rw rt cI cQ j_2 j_3 Wi Ti (nI j_4)))) ++ (wOu ou cJ (vp_updL fo9 0 ((j_1).toInt64)))) := (hD.sub (ws' := ((wDp ad o pa ka (fx 0) (sx 0)) ++ ((wOf o (x 0) (y 0)) ++ (wSt y rp rw rt cI cQ j_2 j_3 Wi Ti (nI j_4)))) ++ (wOu ou cJ (vp_updL fo9 0 ((j_1).toInt64)))) [1, 2, 3, 4, 5, 6, 7, 8, 9, 10, 11, 12, 13, 14, 15, 16, 17, 18, 19, 20, 21, 22, 23, 24, 25, 26, 27, 28, 0] (by decide) rfl)
    have g_9 : sAddTeam nt P n 0 j_1 j_4 j_2 j_3 := hs9
    have g_10 : 0 = 0 → (vp_updL fo9 0 ((j_1).toInt64)) 0 = j_1.toInt64 := fun _ => pk_uLs
    refine W.widen (k := 1) (n := 6) (by omega) (by omega) ?_
    exact vx_ret (W.iret (v := nI 0) hx hb hr (fun t9 ht9 hW9 => ⟨⟨nI 0, (0, j_1, j_2, j_3, j_4, vp_updL fo9 0 ((j_1).toInt64)), rfl, ⟨rfl, g_9, g_10⟩, by rw [ht9]; exact hP9, hD9⟩, hS.F ht9⟩) hS.2.2 dL_addTeam_15)
set_option maxHeartbeats 4000000 in
set_option maxRecDepth 100000 in
theorem c_L_placeByWishes (l : Launch) (D : va_G) (cI cZ cQ cJ : ClassId) (ad : Nat) (o : Nat) (pa : Nat) (ka : Nat) (fx : Nat → Nat) (sx : Nat → Nat) (x : Nat → Nat) (r : Nat → Nat) (w : Nat → Int32) (q : Nat → Int32) (d : Nat → Int32) (T : Nat → Nat → Int32) (st : Nat → Int32) (re : Nat → Int32) (rc : Int32) (nz : Nat) (y : Nat → Nat) (rp : Nat → Nat) (rw : Nat → Nat) (rt : Nat → Nat) (P : Nat → Nat → Int32) (n : Nat → Int32) (Wi : Nat → Nat → Int32) (Ti : Nat → Nat → Int32) (nt : Nat) (pb : Nat) (zo : Nat → Int32) (ff : Nat → Int32) (fg : Nat → Int32) (tk : Nat → Int32) (wt : Int32) (le : Int32) (wi : Nat → Nat → Nat) (ti : Nat → Nat → Nat) (dd : Nat → Nat → Nat) (ou : Nat) (fo9 : Nat → Int64) (sz : Nat) (hnt : nt ≤ 7) (hnz : nz ≤ 7) (hwi : rOK 7 7 Wi wi) (hti : rOK 7 7 Ti ti) (hdd : rOK nz nz T dd) (hv : vOK nz wi ti dd) (hff2 : ∀ u, nt ≤ u → u < 7 → ff u = -1) (hfg2 : ∀ u, nt ≤ u → u < 7 → fg u = -1) (htk : ∀ u, u < 7 → tk u = 0) (hzz : ∀ u, nt ≤ u → u < 7 → zo u = -1) (hfl : l.stackTraces = false) : vx_Met l yL_placeByWishes (.codeWith yL_placeByWishes cL_placeByWishes 3 (some .int) [(0, 8, 11, 15)] :: ALL) ({ frames := 21, cells := 1, slots := 6, locals := 581 } : Room) (va_Pc [.ref ad, .ref ou] (rx_P D cI cZ cQ cJ (((wDp ad o pa ka (fx 0) (sx 0)) ++ ((wOf o (x 0) (y 0)) ++ ((wFl x r cI cZ cQ w q d T st re rc (nI nz)) ++ ((wSt y rp rw rt cI cQ P n Wi Ti (nI nt)) ++ ((wPl pa pb cI zo) ++ (wFs fx cI cZ ff fg tk wt le)))))) ++ (wOu ou cJ fo9)) sz)) (va_Qi (fun (r9 : Int32) (u9 : Nat × Int32 × (Nat → Int32) × (Nat → Int32) × (Nat → Int32) × Int32 × Int32 × (Nat → Int64)) => (r9 = (nI u9.1)) ∧ (sBest false nt nz n d wi ti dd u9.1 u9.2.1 u9.2.2.1) ∧ (∀ u, nt ≤ u → u < 7 → u9.2.2.1 u = -1) ∧ (∀ u, nt ≤ u → u < 7 → u9.2.2.2.1 u = -1) ∧ (∀ u, nt ≤ u → u < 7 → u9.2.2.2.2.1 u = -1) ∧ (u9.1 = 1 → u9.2.2.1 = zo) ∧ (u9.1 = 0 → u9.2.2.2.2.2.2.2 0 = u9.2.1.toInt64)) (rw_B D (va_A (((wDp ad o pa ka (fx 0) (sx 0)) ++ ((wOf o (x 0) (y 0)) ++ ((wFl x r cI cZ cQ w q d T st re rc (nI nz)) ++ ((wSt y rp rw rt cI cQ P n Wi Ti (nI nt)) ++ ((wPl pa pb cI zo) ++ (wFs fx cI cZ ff fg tk wt le)))))) ++ (wOu ou cJ fo9)) sz) (fun u9 : Nat × Int32 × (Nat → Int32) × (Nat → Int32) × (Nat → Int32) × Int32 × Int32 × (Nat → Int64) => ((wDp ad o pa ka (fx 0) (sx 0)) ++ ((wOf o (x 0) (y 0)) ++ ((wFl x r cI cZ cQ w q d T st re rc (nI nz)) ++ ((wSt y rp rw rt cI cQ P n Wi Ti (nI nt)) ++ ((wPl pa pb cI u9.2.2.1) ++ (wFs fx cI cZ u9.2.2.2.1 u9.2.2.2.2.1 tk u9.2.2.2.2.2.2.1 u9.2.2.2.2.2.1)))))) ++ (wOu ou cJ u9.2.2.2.2.2.2.2))) (va_A (((wDp ad o pa ka (fx 0) (sx 0)) ++ ((wOf o (x 0) (y 0)) ++ ((wFl x r cI cZ cQ w q d T st re rc (nI nz)) ++ ((wSt y rp rw rt cI cQ P n Wi Ti (nI nt)) ++ ((wPl pa pb cI zo) ++ (wFs fx cI cZ ff fg tk wt le)))))) ++ (wOu ou cJ fo9)) sz)) (rx_X (fun (E9 : String) (x9 : Unit) => False) D (va_A (((wDp ad o pa ka (fx 0) (sx 0)) ++ ((wOf o (x 0) (y 0)) ++ ((wFl x r cI cZ cQ w q d T st re rc (nI nz)) ++ ((wSt y rp rw rt cI cQ P n Wi Ti (nI nt)) ++ ((wPl pa pb cI zo) ++ (wFs fx cI cZ ff fg tk wt le)))))) ++ (wOu ou cJ fo9)) sz) (fun x9 : Unit => ((wDp ad o pa ka (fx 0) (sx 0)) ++ ((wOf o (x 0) (y 0)) ++ ((wFl x r cI cZ cQ w q d T st re rc (nI nz)) ++ ((wSt y rp rw rt cI cQ P n Wi Ti (nI nt)) ++ ((wPl pa pb cI zo) ++ (wFs fx cI cZ ff fg tk wt le)))))) ++ (wOu ou cJ fo9))) 1 6 (va_A (((wDp ad o pa ka (fx 0) (sx 0)) ++ ((wOf o (x 0) (y 0)) ++ ((wFl x r cI cZ cQ w q d T st re rc (nI nz)) ++ ((wSt y rp rw rt cI cQ P n Wi Ti (nI nt)) ++ ((wPl pa pb cI zo) ++ (wFs fx cI cZ ff fg tk wt le)))))) ++ (wOu ou cJ fo9)) sz) := by
  refine vx_ofWH (cc := cL_placeByWishes) (maxL := 3) (ret := (some .int)) (hh := [(0, 8, 11, 15)]) (by decide) rfl ?_
  intro p e s m args below meth c s₁ B hml hv
  obtain ⟨rfl, ⟨hsz, hP, hSt, hD0⟩, hDc, hZ⟩ := hv
  change W p l e ({ frames := 21, cells := 1, slots := 6, locals := 581 } : Room) s m _ below meth c s.heap [] 0 0 _ _
  have hx := B.exec
  have hb := B.bytes
  have hr := B.returns
  have hts : ∀ w ∈ ALL, w.before ([.ref ad, .ref ou] : List Value).toArray s = true := fun w h => atoms_spec (ws := (.codeWith yL_placeByWishes cL_placeByWishes 3 (some .int) [(0, 8, 11, 15)] :: ALL)) B.pre w (List.mem_cons_of_mem _ h)
  have hown : s.vm.findClass RL = some m.cls := findClass_of_methodNamed B.named
  have hlocks := B.notSynchronized
  have htb : c.exceptionTable.toList = tableOf [(0, 8, 11, 15)] := vx_table (x := yL_placeByWishes) B (atoms_spec (ws := (.codeWith yL_placeByWishes cL_placeByWishes 3 (some .int) [(0, 8, 11, 15)] :: ALL)) B.pre _ List.mem_cons_self)
  subst hsz
  have hD := hD0.self (sz := s.heap.size)
  clear hD0
  generalize hAe : va_A (((wDp ad o pa ka (fx 0) (sx 0)) ++ ((wOf o (x 0) (y 0)) ++ ((wFl x r cI cZ cQ w q d T st re rc (nI nz)) ++ ((wSt y rp rw rt cI cQ P n Wi Ti (nI nt)) ++ ((wPl pa pb cI zo) ++ (wFs fx cI cZ ff fg tk wt le)))))) ++ (wOu ou cJ fo9)) s.heap.size = A at hD hZ ⊢
  have hA : ∀ q : Nat, s.heap.size ≤ q → A q := fun q h => by rw [← hAe]; exact Or.inr h
  have hS : va_S A s.heap s.heap [] := va_S.rf
  have hl := lv_entry ([.ref ad, .ref ou]) (n := 3) (Nat.le_of_ble_eq_true rfl)
  rw [lg_entry_eq]
  generalize (lg_sl ([.ref ad, .ref ou]) ++ List.replicate (3 - (lg_sl ([.ref ad, .ref ou])).length) Slot.unset).toArray = ls at hl ⊢
  have hl : lv_has ls 3 [(0, .ref ad), (1, .ref ou)] := hl
  obtain ⟨H, hHe⟩ : ∃ H : Heap, H = s.heap := ⟨_, rfl⟩
  obtain ⟨locs, hLe⟩ : ∃ L : List Loc, L = [] := ⟨_, rfl⟩
  have hP : va_P D vwCl (((wDp ad o pa ka (fx 0) (sx 0)) ++ ((wOf o (x 0) (y 0)) ++ ((wFl x r cI cZ cQ w q d T st re rc (nI nz)) ++ ((wSt y rp rw rt cI cQ P n Wi Ti (nI nt)) ++ ((wPl pa pb cI zo) ++ (wFs fx cI cZ ff fg tk wt le)))))) ++ (wOu ou cJ fo9)) H := by rw [hHe]; exact hP
  have hS : va_S A s.heap H locs := by rw [hHe, hLe]; exact hS
  refine W.eqHL hHe hLe ?_
  refine lv_aload_n hx hb dL_placeByWishes_0 rfl (lv_at hl 1 rfl) ?_
  refine lv_iconst (v := nI 0) hx hb dL_placeByWishes_1 (by decide) ?_
  refine lv_aload_n hx hb dL_placeByWishes_2 rfl (lv_at hl 0 rfl) ?_
  refine rx_i (wr := wOu ou cJ fo9) (w_VX (As := []) ⟨hx, hb, hml, hown, hts⟩ (c_X7_placeByWishes l D cI cZ cQ cJ ad o pa ka fx sx x r w q d T st re rc nz y rp rw rt P n Wi Ti nt pb zo ff fg tk wt le wi ti dd H.size (by first | assumption | omega) (by first | assumption | omega) (by first | assumption | omega) (by first | assumption | omega) (by first | assumption | omega) (by first | assumption | omega) (by first | assumption | omega) (by first | assumption | omega) (by first | assumption | omega) (by first | assumption | omega)) (gV t3_101 t3_102 t3_103 t1_1 t3_104) rfl rfl hd_X7_placeByWishes ⟨Nat.le_of_ble_eq_true rfl, Nat.le_of_ble_eq_true rfl⟩ (rx_pre hP hD hSt hDc hZ hS hA [0, 1, 2, 3, 4, 5, 6, 7, 8, 9, 10, 11, 12, 13, 14, 15, 16, 17, 18, 19, 20, 21, 22, 23, 24, 25, 26, 27, 28, 29, 30, 31, 32, 33, 34, 35, 36, 37, 38, 39, 40, 41, 42, 43, 44, 45, 46, 47, 48, 49] rfl (by decide)) (va_recv hSt.1 hP (ci := 7) (q0 := 0) rfl rfl) rfl hl.1 (rest := [.int (nI 0), .ref ou]) rfl (Nat.le_of_ble_eq_true rfl) dL_placeByWishes_3 ⟨Nat.le_of_ble_eq_true rfl, Nat.le_of_ble_eq_true rfl⟩) hP hD hS hA [0, 1, 2, 3, 4, 5, 6, 7, 8, 9, 10, 11, 12, 13, 14, 15, 16, 17, 18, 19, 20, 21, 22, 23, 24, 25, 26, 27, 28, 29, 30, 31, 32, 33, 34, 35, 36, 37, 38, 39, 40, 41, 42, 43, 44, 45, 46, 47, 48, 49] [50] rfl rfl (by decide) (by decide) (fun E9 ce9 q9 x9 H locs hx9 hP hD hS hc91 hc92 hc93 => ?_) (fun r_9 u_7 H locs hw9 hP hD hS => ?_)
  · obtain ⟨x_8, x_9, x_10, x_11⟩ := x9
    have hx9 : E9 = "java/lang/IllegalStateException" ∧ sBest false nt nz n d wi ti dd 1 0 x_9 ∧ (∀ u, nt ≤ u → u < 7 → x_8 u = -1) ∧ (∀ u, nt ≤ u → u < 7 → x_9 u = -1) := hx9
    have hP : va_P D vwCl ((wOu ou cJ fo9) ++ ((wDp ad o pa ka (fx 0) (sx 0)) ++ ((wOf o (x 0) (y 0)) ++ ((wFl x r cI cZ cQ w q d T st re rc (nI nz)) ++ ((wSt y rp rw rt cI cQ P n Wi Ti (nI nt)) ++ ((wPl pa pb cI zo) ++ (wFs fx cI cZ x_8 x_9 tk x_11 x_10))))))) H := hP
    have hD : va_D A ((wOu ou cJ fo9) ++ ((wDp ad o pa ka (fx 0) (sx 0)) ++ ((wOf o (x 0) (y 0)) ++ ((wFl x r cI cZ cQ w q d T st re rc (nI nz)) ++ ((wSt y rp rw rt cI cQ P n Wi Ti (nI nt)) ++ ((wPl pa pb cI zo) ++ (wFs fx cI cZ x_8 x_9 tk x_11 x_10))))))) := hD
    obtain ⟨rfl, hsx⟩ := hx9
    refine vx_catch (own := RL) hown [] ⟨0, 8, 11, 15⟩ [] (by rw [htb]; rfl) (fun _ h9 => nomatch h9) (by decide) (by decide) (hts _ t2_89) (hSt.2.e 2 rfl) hc91 hc92 hc93 ?_
    refine lv_astore_n (lv' := [(2, .ref q9), (0, .ref ad), (1, .ref ou)]) hx hb dL_placeByWishes_11 rfl hl (by decide) rfl (fun ls hl => ?_)
    refine lv_iconst (v := nI 1) hx hb dL_placeByWishes_12 (by decide) ?_
    have hP9 : va_P D vwCl (((wDp ad o pa ka (fx 0) (sx 0)) ++ ((wOf o (x 0) (y 0)) ++ ((wFl x r cI cZ cQ w q d T st re rc (nI nz)) ++ ((wSt y rp rw rt cI cQ P n Wi Ti (nI nt)) ++ ((wPl pa pb cI zo) ++ (wFs fx cI cZ x_8 x_9 tk x_11 x_10)))))) ++ (wOu ou cJ fo9)) H := (hP.sub (ws' := ((wDp ad o pa ka (fx 0) (sx 0)) ++ ((wOf o (x 0) (y 0)) ++ ((wFl x r cI cZ cQ w q d T st re rc (nI nz)) ++ ((wSt y rp rw rt cI cQ P n Wi Ti (nI nt)) ++ ((wPl pa pb cI zo) ++ (wFs fx cI cZ x_8 x_9 tk x_11 x_10)))))) ++ (wOu ou cJ fo9)) [1, 2, 3, 4, 5, 6, 7, 8, 9, 10, 11, 12, 13, 14, 15, 16, 17, 18, 19, 20, 21, 22, 23, 24, 25, 26, 27, 28, 29, 30, 31, 32, 33, 34, 35, 36, 37, 38, 39, 40, 41, 42, 43, 44, 45, 46, 47, 48, 49, 50, 0] rfl)
    have hD9 : va_D A (((wDp ad o pa ka (fx 0) (sx 0)) ++ ((wOf o (x 0) (y 0)) ++ ((wFl x r cI cZ cQ w q d T st re rc (nI nz)) ++ ((wSt y rp rw rt cI cQ P n Wi Ti (nI nt)) ++ ((wPl pa pb cI zo) ++ (wFs fx cI cZ x_8 x_9 tk x_11 x_10)))))) ++ (wOu ou cJ fo9)) := (hD.sub (ws' := ((wDp ad o pa ka (fx 0) (sx 0)) ++ ((wOf o (x 0) (y 0)) ++ ((wFl x r cI cZ cQ w q d T st re rc (nI nz)) ++ ((wSt y rp rw rt cI cQ P n Wi Ti (nI nt)) ++ ((wPl pa pb cI zo) ++ (wFs fx cI cZ x_8 x_9 tk x_11 x_10)))))) ++ (wOu ou cJ fo9)) [1, 2, 3, 4, 5, 6, 7, 8, 9, 10, 11, 12, 13, 14, 15, 16, 17, 18, 19, 20, 21, 22, 23, 24, 25, 26, 27, 28, 29, 30, 31, 32, 33, 34, 35, 36, 37, 38, 39, 40, 41, 42, 43, 44, 45, 46, 47, 48, 49, 50, 0] (by decide) rfl)
    have g_12 : sBest false nt nz n d wi ti dd 1 (0 : Int32) zo := sBest_1 hsx.1
    have g_13 : ∀ u, nt ≤ u → u < 7 → zo u = -1 := hzz
    have g_14 : ∀ u, nt ≤ u → u < 7 → x_8 u = -1 := hsx.2.1
    have g_15 : ∀ u, nt ≤ u → u < 7 → x_9 u = -1 := hsx.2.2
    have g_16 : 1 = 1 → zo = zo := fun _ => rfl
    have g_17 : 1 = 0 → fo9 0 = (0 : Int32).toInt64 := fun h9 => absurd h9 (by decide)
    refine W.widen (k := 1) (n := 6) (by omega) (by omega) ?_
    exact vx_ret (W.iret (v := nI 1) hx hb hr (fun t9 ht9 hW9 => ⟨⟨nI 1, (1, (0 : Int32), zo, x_8, x_9, x_10, x_11, fo9), rfl, ⟨rfl, g_12, g_13, g_14, g_15, g_16, g_17⟩, by rw [ht9]; exact hP9, hD9⟩, hS.F ht9⟩) hS.2.2 dL_placeByWishes_13)
  · obtain ⟨j_1, j_2, j_3, j_4, j_5, j_6⟩ := u_7
    obtain ⟨er_9, f_18, f_19, f_20, f_21⟩ := hw9
    replace er_9 := er_9.symm
    subst er_9
    have hs9 : sBest false nt nz n d wi ti dd 0 j_1 j_2 := f_18
    have hz29 : ∀ u, nt ≤ u → u < 7 → j_2 u = -1 := f_19
    have hf29 : ∀ u, nt ≤ u → u < 7 → j_3 u = -1 := f_20
    have hg29 : ∀ u, nt ≤ u → u < 7 → j_4 u = -1 := f_21
    have hP : va_P D vwCl ((wOu ou cJ fo9) ++ ((wDp ad o pa ka (fx 0) (sx 0)) ++ ((wOf o (x 0) (y 0)) ++ ((wFl x r cI cZ cQ w q d T st re rc (nI nz)) ++ ((wSt y rp rw rt cI cQ P n Wi Ti (nI nt)) ++ ((wPl pa pb cI j_2) ++ (wFs fx cI cZ j_3 j_4 tk j_6 j_5))))))) H := hP
    have hD : va_D A ((wOu ou cJ fo9) ++ ((wDp ad o pa ka (fx 0) (sx 0)) ++ ((wOf o (x 0) (y 0)) ++ ((wFl x r cI cZ cQ w q d T st re rc (nI nz)) ++ ((wSt y rp rw rt cI cQ P n Wi Ti (nI nt)) ++ ((wPl pa pb cI j_2) ++ (wFs fx cI cZ j_3 j_4 tk j_6 j_5))))))) := hD
    refine lv_i2l (v := (j_1).toInt64) hx hb dL_placeByWishes_6 rfl ?_
    refine r_last hx hb hSt.1 hP hD hS 0 3 rfl rfl (k := 0) (by omega) (by omega) dL_placeByWishes_7 (fun H locs hP hD hS => ?_)
    have hP : va_P D vwCl ((wOu ou cJ (vp_updL fo9 0 ((j_1).toInt64))) ++ ((wDp ad o pa ka (fx 0) (sx 0)) ++ ((wOf o (x 0) (y 0)) ++ ((wFl x r cI cZ cQ w q d T st re rc (nI nz)) ++ ((wSt y rp rw rt cI cQ P n Wi Ti (nI nt)) ++ ((wPl pa pb cI j_2) ++ (wFs fx cI cZ j_3 j_4 tk j_6 j_5))))))) H := hP
    have hD : va_D A ((wOu ou cJ (vp_updL fo9 0 ((j_1).toInt64))) ++ ((wDp ad o pa ka (fx 0) (sx 0)) ++ ((wOf o (x 0) (y 0)) ++ ((wFl x r cI cZ cQ w q d T st re rc (nI nz)) ++ ((wSt y rp rw rt cI cQ P n Wi Ti (nI nt)) ++ ((wPl pa pb cI j_2) ++ (wFs fx cI cZ j_3 j_4 tk j_6 j_5))))))) := hD
    refine lv_goto (tgt := 14) hx hb dL_placeByWishes_8 (by decide) ?_
    refine lv_iconst (v := nI 0) hx hb dL_placeByWishes_14 (by decide) ?_
    have hP9 : va_P D vwCl (((wDp ad o pa ka (fx 0) (sx 0)) ++ ((wOf o (x 0) (y 0)) ++ ((wFl x r cI cZ cQ w q d T st re rc (nI nz)) ++ ((wSt y rp rw rt cI cQ P n Wi Ti (nI nt)) ++ ((wPl pa pb cI j_2) ++ (wFs fx cI cZ j_3 j_4 tk j_6 j_5)))))) ++ (wOu ou cJ (vp_updL fo9 0 ((j_1).toInt64)))) H := (hP.sub (ws' := ((wDp ad o pa ka (fx 0) (sx 0)) ++ ((wOf o (x 0) (y 0)) ++ ((wFl x r cI cZ cQ w q d T st re rc (nI nz)) ++ ((wSt y rp rw rt cI cQ P n Wi Ti (nI nt)) ++ ((wPl pa pb cI j_2) ++ (wFs fx cI cZ j_3 j_4 tk j_6 j_5)))))) ++ (wOu ou cJ (vp_updL fo9 0 ((j_1).toInt64)))) [1, 2, 3, 4, 5, 6, 7, 8, 9, 10, 11, 12, 13, 14, 15, 16, 17, 18, 19, 20, 21, 22, 23, 24, 25, 26, 27, 28, 29, 30, 31, 32, 33, 34, 35, 36, 37, 38, 39, 40, 41, 42, 43, 44, 45, 46, 47, 48, 49, 50, 0] rfl)
    have hD9 : va_D A (((wDp ad o pa ka (fx 0) (sx 0)) ++ ((wOf o (x 0) (y 0)) ++ ((wFl x r cI cZ cQ w q d T st re rc (nI nz)) ++ ((wSt y rp rw rt cI cQ P n Wi Ti (nI nt)) ++ ((wPl pa pb cI j_2) ++ (wFs fx cI cZ j_3 j_4 tk j_6 j_5)))))) ++ (wOu ou cJ (vp_updL fo9 0 ((j_1).toInt64)))) := (hD.sub (ws' := ((wDp ad o pa ka (fx 0) (sx 0)) ++ ((wOf o (x 0) (y 0)) ++ ((wFl x r cI cZ cQ w q d T st re rc (nI nz)) ++ ((wSt y rp rw rt cI cQ P n Wi Ti (nI nt)) ++ ((wPl pa pb cI j_2) ++ (wFs fx cI cZ j_3 j_4 tk j_6 j_5)))))) ++ (wOu ou cJ (vp_updL fo9 0 ((j_1).toInt64)))) [1, 2, 3, 4, 5, 6, 7, 8, 9, 10, 11, 12, 13, 14, 15, 16, 17, 18, 19, 20, 21, 22, 23, 24, 25, 26, 27, 28, 29, 30, 31, 32, 33, 34, 35, 36, 37, 38, 39, 40, 41, 42, 43, 44, 45, 46, 47, 48, 49, 50, 0] (by decide) rfl)
    have g_22 : sBest false nt nz n d wi ti dd 0 j_1 j_2 := hs9
    have g_23 : ∀ u, nt ≤ u → u < 7 → j_2 u = -1 := hz29
    have g_24 : ∀ u, nt ≤ u → u < 7 → j_3 u = -1 := hf29
    have g_25 : ∀ u, nt ≤ u → u < 7 → j_4 u = -1 := hg29
    have g_26 : 0 = 1 → j_2 = zo := fun h9 => absurd h9 (by decide)
    have g_27 : 0 = 0 → (vp_updL fo9 0 ((j_1).toInt64)) 0 = j_1.toInt64 := fun _ => pk_uLs
    refine W.widen (k := 1) (n := 6) (by omega) (by omega) ?_
    exact vx_ret (W.iret (v := nI 0) hx hb hr (fun t9 ht9 hW9 => ⟨⟨nI 0, (0, j_1, j_2, j_3, j_4, j_5, j_6, vp_updL fo9 0 ((j_1).toInt64)), rfl, ⟨rfl, g_22, g_23, g_24, g_25, g_26, g_27⟩, by rw [ht9]; exact hP9, hD9⟩, hS.F ht9⟩) hS.2.2 dL_placeByWishes_15)
set_option maxHeartbeats 4000000 in
set_option maxRecDepth 100000 in
theorem c_L_placeBest (l : Launch) (D : va_G) (cI cZ cQ cJ : ClassId) (ad : Nat) (o : Nat) (pa : Nat) (ka : Nat) (fx : Nat → Nat) (sx : Nat → Nat) (x : Nat → Nat) (r : Nat → Nat) (w : Nat → Int32) (q : Nat → Int32) (d : Nat → Int32) (T : Nat → Nat → Int32) (st : Nat → Int32) (re : Nat → Int32) (rc : Int32) (nz : Nat) (y : Nat → Nat) (rp : Nat → Nat) (rw : Nat → Nat) (rt : Nat → Nat) (P : Nat → Nat → Int32) (n : Nat → Int32) (Wi : Nat → Nat → Int32) (Ti : Nat → Nat → Int32) (nt : Nat) (pb : Nat) (zo : Nat → Int32) (ff : Nat → Int32) (fg : Nat → Int32) (tk : Nat → Int32) (wt : Int32) (le : Int32) (wi : Nat → Nat → Nat) (ti : Nat → Nat → Nat) (dd : Nat → Nat → Nat) (ou : Nat) (fo9 : Nat → Int64) (sz : Nat) (hnt : nt ≤ 7) (hnz : nz ≤ 7) (hwi : rOK 7 7 Wi wi) (hti : rOK 7 7 Ti ti) (hdd : rOK nz nz T dd) (hv : vOK nz wi ti dd) (hff2 : ∀ u, nt ≤ u → u < 7 → ff u = -1) (hfg2 : ∀ u, nt ≤ u → u < 7 → fg u = -1) (htk : ∀ u, u < 7 → tk u = 0) (hzz : ∀ u, nt ≤ u → u < 7 → zo u = -1) (hfl : l.stackTraces = false) : vx_Met l yL_placeBest (.codeWith yL_placeBest cL_placeBest 3 (some .int) [(0, 8, 11, 15)] :: ALL) ({ frames := 21, cells := 1, slots := 6, locals := 581 } : Room) (va_Pc [.ref ad, .ref ou] (rx_P D cI cZ cQ cJ (((wDp ad o pa ka (fx 0) (sx 0)) ++ ((wOf o (x 0) (y 0)) ++ ((wFl x r cI cZ cQ w q d T st re rc (nI nz)) ++ ((wSt y rp rw rt cI cQ P n Wi Ti (nI nt)) ++ ((wPl pa pb cI zo) ++ (wFs fx cI cZ ff fg tk wt le)))))) ++ (wOu ou cJ fo9)) sz)) (va_Qi (fun (r9 : Int32) (u9 : Nat × Int32 × (Nat → Int32) × (Nat → Int32) × (Nat → Int32) × Int32 × Int32 × (Nat → Int64)) => (r9 = (nI u9.1)) ∧ (sBest true nt nz n d wi ti dd u9.1 u9.2.1 u9.2.2.1) ∧ (∀ u, nt ≤ u → u < 7 → u9.2.2.1 u = -1) ∧ (∀ u, nt ≤ u → u < 7 → u9.2.2.2.1 u = -1) ∧ (∀ u, nt ≤ u → u < 7 → u9.2.2.2.2.1 u = -1) ∧ (u9.1 = 1 → u9.2.2.1 = zo) ∧ (u9.1 = 0 → u9.2.2.2.2.2.2.2 0 = u9.2.1.toInt64)) (rw_B D (va_A (((wDp ad o pa ka (fx 0) (sx 0)) ++ ((wOf o (x 0) (y 0)) ++ ((wFl x r cI cZ cQ w q d T st re rc (nI nz)) ++ ((wSt y rp rw rt cI cQ P n Wi Ti (nI nt)) ++ ((wPl pa pb cI zo) ++ (wFs fx cI cZ ff fg tk wt le)))))) ++ (wOu ou cJ fo9)) sz) (fun u9 : Nat × Int32 × (Nat → Int32) × (Nat → Int32) × (Nat → Int32) × Int32 × Int32 × (Nat → Int64) => ((wDp ad o pa ka (fx 0) (sx 0)) ++ ((wOf o (x 0) (y 0)) ++ ((wFl x r cI cZ cQ w q d T st re rc (nI nz)) ++ ((wSt y rp rw rt cI cQ P n Wi Ti (nI nt)) ++ ((wPl pa pb cI u9.2.2.1) ++ (wFs fx cI cZ u9.2.2.2.1 u9.2.2.2.2.1 tk u9.2.2.2.2.2.2.1 u9.2.2.2.2.2.1)))))) ++ (wOu ou cJ u9.2.2.2.2.2.2.2))) (va_A (((wDp ad o pa ka (fx 0) (sx 0)) ++ ((wOf o (x 0) (y 0)) ++ ((wFl x r cI cZ cQ w q d T st re rc (nI nz)) ++ ((wSt y rp rw rt cI cQ P n Wi Ti (nI nt)) ++ ((wPl pa pb cI zo) ++ (wFs fx cI cZ ff fg tk wt le)))))) ++ (wOu ou cJ fo9)) sz)) (rx_X (fun (E9 : String) (x9 : Unit) => False) D (va_A (((wDp ad o pa ka (fx 0) (sx 0)) ++ ((wOf o (x 0) (y 0)) ++ ((wFl x r cI cZ cQ w q d T st re rc (nI nz)) ++ ((wSt y rp rw rt cI cQ P n Wi Ti (nI nt)) ++ ((wPl pa pb cI zo) ++ (wFs fx cI cZ ff fg tk wt le)))))) ++ (wOu ou cJ fo9)) sz) (fun x9 : Unit => ((wDp ad o pa ka (fx 0) (sx 0)) ++ ((wOf o (x 0) (y 0)) ++ ((wFl x r cI cZ cQ w q d T st re rc (nI nz)) ++ ((wSt y rp rw rt cI cQ P n Wi Ti (nI nt)) ++ ((wPl pa pb cI zo) ++ (wFs fx cI cZ ff fg tk wt le)))))) ++ (wOu ou cJ fo9))) 1 6 (va_A (((wDp ad o pa ka (fx 0) (sx 0)) ++ ((wOf o (x 0) (y 0)) ++ ((wFl x r cI cZ cQ w q d T st re rc (nI nz)) ++ ((wSt y rp rw rt cI cQ P n Wi Ti (nI nt)) ++ ((wPl pa pb cI zo) ++ (wFs fx cI cZ ff fg tk wt le)))))) ++ (wOu ou cJ fo9)) sz) := by
  refine vx_ofWH (cc := cL_placeBest) (maxL := 3) (ret := (some .int)) (hh := [(0, 8, 11, 15)]) (by decide) rfl ?_
  intro p e s m args below meth c s₁ B hml hv
  obtain ⟨rfl, ⟨hsz, hP, hSt, hD0⟩, hDc, hZ⟩ := hv
  change W p l e ({ frames := 21, cells := 1, slots := 6, locals := 581 } : Room) s m _ below meth c s.heap [] 0 0 _ _
  have hx := B.exec
  have hb := B.bytes
  have hr := B.returns
  have hts : ∀ w ∈ ALL, w.before ([.ref ad, .ref ou] : List Value).toArray s = true := fun w h => atoms_spec (ws := (.codeWith yL_placeBest cL_placeBest 3 (some .int) [(0, 8, 11, 15)] :: ALL)) B.pre w (List.mem_cons_of_mem _ h)
  have hown : s.vm.findClass RL = some m.cls := findClass_of_methodNamed B.named
  have hlocks := B.notSynchronized
  have htb : c.exceptionTable.toList = tableOf [(0, 8, 11, 15)] := vx_table (x := yL_placeBest) B (atoms_spec (ws := (.codeWith yL_placeBest cL_placeBest 3 (some .int) [(0, 8, 11, 15)] :: ALL)) B.pre _ List.mem_cons_self)
  subst hsz
  have hD := hD0.self (sz := s.heap.size)
  clear hD0
  generalize hAe : va_A (((wDp ad o pa ka (fx 0) (sx 0)) ++ ((wOf o (x 0) (y 0)) ++ ((wFl x r cI cZ cQ w q d T st re rc (nI nz)) ++ ((wSt y rp rw rt cI cQ P n Wi Ti (nI nt)) ++ ((wPl pa pb cI zo) ++ (wFs fx cI cZ ff fg tk wt le)))))) ++ (wOu ou cJ fo9)) s.heap.size = A at hD hZ ⊢
  have hA : ∀ q : Nat, s.heap.size ≤ q → A q := fun q h => by rw [← hAe]; exact Or.inr h
  have hS : va_S A s.heap s.heap [] := va_S.rf
  have hl := lv_entry ([.ref ad, .ref ou]) (n := 3) (Nat.le_of_ble_eq_true rfl)
  rw [lg_entry_eq]
  generalize (lg_sl ([.ref ad, .ref ou]) ++ List.replicate (3 - (lg_sl ([.ref ad, .ref ou])).length) Slot.unset).toArray = ls at hl ⊢
  have hl : lv_has ls 3 [(0, .ref ad), (1, .ref ou)] := hl
  obtain ⟨H, hHe⟩ : ∃ H : Heap, H = s.heap := ⟨_, rfl⟩
  obtain ⟨locs, hLe⟩ : ∃ L : List Loc, L = [] := ⟨_, rfl⟩
  have hP : va_P D vwCl (((wDp ad o pa ka (fx 0) (sx 0)) ++ ((wOf o (x 0) (y 0)) ++ ((wFl x r cI cZ cQ w q d T st re rc (nI nz)) ++ ((wSt y rp rw rt cI cQ P n Wi Ti (nI nt)) ++ ((wPl pa pb cI zo) ++ (wFs fx cI cZ ff fg tk wt le)))))) ++ (wOu ou cJ fo9)) H := by rw [hHe]; exact hP
  have hS : va_S A s.heap H locs := by rw [hHe, hLe]; exact hS
  refine W.eqHL hHe hLe ?_
  refine lv_aload_n hx hb dL_placeBest_0 rfl (lv_at hl 1 rfl) ?_
  refine lv_iconst (v := nI 0) hx hb dL_placeBest_1 (by decide) ?_
  refine lv_aload_n hx hb dL_placeBest_2 rfl (lv_at hl 0 rfl) ?_
  refine rx_i (wr := wOu ou cJ fo9) (w_VX (As := []) ⟨hx, hb, hml, hown, hts⟩ (c_X7_placeBest l D cI cZ cQ cJ ad o pa ka fx sx x r w q d T st re rc nz y rp rw rt P n Wi Ti nt pb zo ff fg tk wt le wi ti dd H.size (by first | assumption | omega) (by first | assumption | omega) (by first | assumption | omega) (by first | assumption | omega) (by first | assumption | omega) (by first | assumption | omega) (by first | assumption | omega) (by first | assumption | omega) (by first | assumption | omega) (by first | assumption | omega)) (gV t3_113 t3_114 t3_115 t1_1 t3_116) rfl rfl hd_X7_placeBest ⟨Nat.le_of_ble_eq_true rfl, Nat.le_of_ble_eq_true rfl⟩ (rx_pre hP hD hSt hDc hZ hS hA [0, 1, 2, 3, 4, 5, 6, 7, 8, 9, 10, 11, 12, 13, 14, 15, 16, 17, 18, 19, 20, 21, 22, 23, 24, 25, 26, 27, 28, 29, 30, 31, 32, 33, 34, 35, 36, 37, 38, 39, 40, 41, 42, 43, 44, 45, 46, 47, 48, 49] rfl (by decide)) (va_recv hSt.1 hP (ci := 7) (q0 := 0) rfl rfl) rfl hl.1 (rest := [.int (nI 0), .ref ou]) rfl (Nat.le_of_ble_eq_true rfl) dL_placeBest_3 ⟨Nat.le_of_ble_eq_true rfl, Nat.le_of_ble_eq_true rfl⟩) hP hD hS hA [0, 1, 2, 3, 4, 5, 6, 7, 8, 9, 10, 11, 12, 13, 14, 15, 16, 17, 18, 19, 20, 21, 22, 23, 24, 25, 26, 27, 28, 29, 30, 31, 32, 33, 34, 35, 36, 37, 38, 39, 40, 41, 42, 43, 44, 45, 46, 47, 48, 49] [50] rfl rfl (by decide) (by decide) (fun E9 ce9 q9 x9 H locs hx9 hP hD hS hc91 hc92 hc93 => ?_) (fun r_9 u_7 H locs hw9 hP hD hS => ?_)
  · obtain ⟨x_8, x_9, x_10, x_11⟩ := x9
    have hx9 : E9 = "java/lang/IllegalStateException" ∧ sBest true nt nz n d wi ti dd 1 0 x_9 ∧ (∀ u, nt ≤ u → u < 7 → x_8 u = -1) ∧ (∀ u, nt ≤ u → u < 7 → x_9 u = -1) := hx9
    have hP : va_P D vwCl ((wOu ou cJ fo9) ++ ((wDp ad o pa ka (fx 0) (sx 0)) ++ ((wOf o (x 0) (y 0)) ++ ((wFl x r cI cZ cQ w q d T st re rc (nI nz)) ++ ((wSt y rp rw rt cI cQ P n Wi Ti (nI nt)) ++ ((wPl pa pb cI zo) ++ (wFs fx cI cZ x_8 x_9 tk x_11 x_10))))))) H := hP
    have hD : va_D A ((wOu ou cJ fo9) ++ ((wDp ad o pa ka (fx 0) (sx 0)) ++ ((wOf o (x 0) (y 0)) ++ ((wFl x r cI cZ cQ w q d T st re rc (nI nz)) ++ ((wSt y rp rw rt cI cQ P n Wi Ti (nI nt)) ++ ((wPl pa pb cI zo) ++ (wFs fx cI cZ x_8 x_9 tk x_11 x_10))))))) := hD
    obtain ⟨rfl, hsx⟩ := hx9
    refine vx_catch (own := RL) hown [] ⟨0, 8, 11, 15⟩ [] (by rw [htb]; rfl) (fun _ h9 => nomatch h9) (by decide) (by decide) (hts _ t2_89) (hSt.2.e 2 rfl) hc91 hc92 hc93 ?_
    refine lv_astore_n (lv' := [(2, .ref q9), (0, .ref ad), (1, .ref ou)]) hx hb dL_placeBest_11 rfl hl (by decide) rfl (fun ls hl => ?_)
    refine lv_iconst (v := nI 1) hx hb dL_placeBest_12 (by decide) ?_
    have hP9 : va_P D vwCl (((wDp ad o pa ka (fx 0) (sx 0)) ++ ((wOf o (x 0) (y 0)) ++ ((wFl x r cI cZ cQ w q d T st re rc (nI nz)) ++ ((wSt y rp rw rt cI cQ P n Wi Ti (nI nt)) ++ ((wPl pa pb cI zo) ++ (wFs fx cI cZ x_8 x_9 tk x_11 x_10)))))) ++ (wOu ou cJ fo9)) H := (hP.sub (ws' := ((wDp ad o pa ka (fx 0) (sx 0)) ++ ((wOf o (x 0) (y 0)) ++ ((wFl x r cI cZ cQ w q d T st re rc (nI nz)) ++ ((wSt y rp rw rt cI cQ P n Wi Ti (nI nt)) ++ ((wPl pa pb cI zo) ++ (wFs fx cI cZ x_8 x_9 tk x_11 x_10)))))) ++ (wOu ou cJ fo9)) [1, 2, 3, 4, 5, 6, 7, 8, 9, 10, 11, 12, 13, 14, 15, 16, 17, 18, 19, 20, 21, 22, 23, 24, 25, 26, 27, 28, 29, 30, 31, 32, 33, 34, 35, 36, 37, 38, 39, 40, 41, 42, 43, 44, 45, 46, 47, 48, 49, 50, 0] rfl)
    have hD9 : va_D A (((wDp ad o pa ka (fx 0) (sx 0)) ++ ((wOf o (x 0) (y 0)) ++ ((wFl x r cI cZ cQ w q d T st re rc (nI nz)) ++ ((wSt y rp rw rt cI cQ P n Wi Ti (nI nt)) ++ ((wPl pa pb cI zo) ++ (wFs fx cI cZ x_8 x_9 tk x_11 x_10)))))) ++ (wOu ou cJ fo9)) := (hD.sub (ws' := ((wDp ad o pa ka (fx 0) (sx 0)) ++ ((wOf o (x 0) (y 0)) ++ ((wFl x r cI cZ cQ w q d T st re rc (nI nz)) ++ ((wSt y rp rw rt cI cQ P n Wi Ti (nI nt)) ++ ((wPl pa pb cI zo) ++ (wFs fx cI cZ x_8 x_9 tk x_11 x_10)))))) ++ (wOu ou cJ fo9)) [1, 2, 3, 4, 5, 6, 7, 8, 9, 10, 11, 12, 13, 14, 15, 16, 17, 18, 19, 20, 21, 22, 23, 24, 25, 26, 27, 28, 29, 30, 31, 32, 33, 34, 35, 36, 37, 38, 39, 40, 41, 42, 43, 44, 45, 46, 47, 48, 49, 50, 0] (by decide) rfl)
    have g_12 : sBest true nt nz n d wi ti dd 1 (0 : Int32) zo := sBest_1 hsx.1
    have g_13 : ∀ u, nt ≤ u → u < 7 → zo u = -1 := hzz
    have g_14 : ∀ u, nt ≤ u → u < 7 → x_8 u = -1 := hsx.2.1
    have g_15 : ∀ u, nt ≤ u → u < 7 → x_9 u = -1 := hsx.2.2
    have g_16 : 1 = 1 → zo = zo := fun _ => rfl
    have g_17 : 1 = 0 → fo9 0 = (0 : Int32).toInt64 := fun h9 => absurd h9 (by decide)
    refine W.widen (k := 1) (n := 6) (by omega) (by omega) ?_
    exact vx_ret (W.iret (v := nI 1) hx hb hr (fun t9 ht9 hW9 => ⟨⟨nI 1, (1, (0 : Int32), zo, x_8, x_9, x_10, x_11, fo9), rfl, ⟨rfl, g_12, g_13, g_14, g_15, g_16, g_17⟩, by rw [ht9]; exact hP9, hD9⟩, hS.F ht9⟩) hS.2.2 dL_placeBest_13)
  · obtain ⟨j_1, j_2, j_3, j_4, j_5, j_6⟩ := u_7
    obtain ⟨er_9, f_18, f_19, f_20, f_21⟩ := hw9
    replace er_9 := er_9.symm
    subst er_9
    have hs9 : sBest true nt nz n d wi ti dd 0 j_1 j_2 := f_18
    have hz29 : ∀ u, nt ≤ u → u < 7 → j_2 u = -1 := f_19
    have hf29 : ∀ u, nt ≤ u → u < 7 → j_3 u = -1 := f_20
    have hg29 : ∀ u, nt ≤ u → u < 7 → j_4 u = -1 := f_21
    have hP : va_P D vwCl ((wOu ou cJ fo9) ++ ((wDp ad o pa ka (fx 0) (sx 0)) ++ ((wOf o (x 0) (y 0)) ++ ((wFl x r cI cZ cQ w q d T st re rc (nI nz)) ++ ((wSt y rp rw rt cI cQ P n Wi Ti (nI nt)) ++ ((wPl pa pb cI j_2) ++ (wFs fx cI cZ j_3 j_4 tk j_6 j_5))))))) H := hP
    have hD : va_D A ((wOu ou cJ fo9) ++ ((wDp ad o pa ka (fx 0) (sx 0)) ++ ((wOf o (x 0) (y 0)) ++ ((wFl x r cI cZ cQ w q d T st re rc (nI nz)) ++ ((wSt y rp rw rt cI cQ P n Wi Ti (nI nt)) ++ ((wPl pa pb cI j_2) ++ (wFs fx cI cZ j_3 j_4 tk j_6 j_5))))))) := hD
    refine lv_i2l (v := (j_1).toInt64) hx hb dL_placeBest_6 rfl ?_
    refine r_last hx hb hSt.1 hP hD hS 0 3 rfl rfl (k := 0) (by omega) (by omega) dL_placeBest_7 (fun H locs hP hD hS => ?_)
    have hP : va_P D vwCl ((wOu ou cJ (vp_updL fo9 0 ((j_1).toInt64))) ++ ((wDp ad o pa ka (fx 0) (sx 0)) ++ ((wOf o (x 0) (y 0)) ++ ((wFl x r cI cZ cQ w q d T st re rc (nI nz)) ++ ((wSt y rp rw rt cI cQ P n Wi Ti (nI nt)) ++ ((wPl pa pb cI j_2) ++ (wFs fx cI cZ j_3 j_4 tk j_6 j_5))))))) H := hP
    have hD : va_D A ((wOu ou cJ (vp_updL fo9 0 ((j_1).toInt64))) ++ ((wDp ad o pa ka (fx 0) (sx 0)) ++ ((wOf o (x 0) (y 0)) ++ ((wFl x r cI cZ cQ w q d T st re rc (nI nz)) ++ ((wSt y rp rw rt cI cQ P n Wi Ti (nI nt)) ++ ((wPl pa pb cI j_2) ++ (wFs fx cI cZ j_3 j_4 tk j_6 j_5))))))) := hD
    refine lv_goto (tgt := 14) hx hb dL_placeBest_8 (by decide) ?_
    refine lv_iconst (v := nI 0) hx hb dL_placeBest_14 (by decide) ?_
    have hP9 : va_P D vwCl (((wDp ad o pa ka (fx 0) (sx 0)) ++ ((wOf o (x 0) (y 0)) ++ ((wFl x r cI cZ cQ w q d T st re rc (nI nz)) ++ ((wSt y rp rw rt cI cQ P n Wi Ti (nI nt)) ++ ((wPl pa pb cI j_2) ++ (wFs fx cI cZ j_3 j_4 tk j_6 j_5)))))) ++ (wOu ou cJ (vp_updL fo9 0 ((j_1).toInt64)))) H := (hP.sub (ws' := ((wDp ad o pa ka (fx 0) (sx 0)) ++ ((wOf o (x 0) (y 0)) ++ ((wFl x r cI cZ cQ w q d T st re rc (nI nz)) ++ ((wSt y rp rw rt cI cQ P n Wi Ti (nI nt)) ++ ((wPl pa pb cI j_2) ++ (wFs fx cI cZ j_3 j_4 tk j_6 j_5)))))) ++ (wOu ou cJ (vp_updL fo9 0 ((j_1).toInt64)))) [1, 2, 3, 4, 5, 6, 7, 8, 9, 10, 11, 12, 13, 14, 15, 16, 17, 18, 19, 20, 21, 22, 23, 24, 25, 26, 27, 28, 29, 30, 31, 32, 33, 34, 35, 36, 37, 38, 39, 40, 41, 42, 43, 44, 45, 46, 47, 48, 49, 50, 0] rfl)
    have hD9 : va_D A (((wDp ad o pa ka (fx 0) (sx 0)) ++ ((wOf o (x 0) (y 0)) ++ ((wFl x r cI cZ cQ w q d T st re rc (nI nz)) ++ ((wSt y rp rw rt cI cQ P n Wi Ti (nI nt)) ++ ((wPl pa pb cI j_2) ++ (wFs fx cI cZ j_3 j_4 tk j_6 j_5)))))) ++ (wOu ou cJ (vp_updL fo9 0 ((j_1).toInt64)))) := (hD.sub (ws' := ((wDp ad o pa ka (fx 0) (sx 0)) ++ ((wOf o (x 0) (y 0)) ++ ((wFl x r cI cZ cQ w q d T st re rc (nI nz)) ++ ((wSt y rp rw rt cI cQ P n Wi Ti (nI nt)) ++ ((wPl pa pb cI j_2) ++ (wFs fx cI cZ j_3 j_4 tk j_6 j_5)))))) ++ (wOu ou cJ (vp_updL fo9 0 ((j_1).toInt64)))) [1, 2, 3, 4, 5, 6, 7, 8, 9, 10, 11, 12, 13, 14, 15, 16, 17, 18, 19, 20, 21, 22, 23, 24, 25, 26, 27, 28, 29, 30, 31, 32, 33, 34, 35, 36, 37, 38, 39, 40, 41, 42, 43, 44, 45, 46, 47, 48, 49, 50, 0] (by decide) rfl)
    have g_22 : sBest true nt nz n d wi ti dd 0 j_1 j_2 := hs9
    have g_23 : ∀ u, nt ≤ u → u < 7 → j_2 u = -1 := hz29
    have g_24 : ∀ u, nt ≤ u → u < 7 → j_3 u = -1 := hf29
    have g_25 : ∀ u, nt ≤ u → u < 7 → j_4 u = -1 := hg29
    have g_26 : 0 = 1 → j_2 = zo := fun h9 => absurd h9 (by decide)
    have g_27 : 0 = 0 → (vp_updL fo9 0 ((j_1).toInt64)) 0 = j_1.toInt64 := fun _ => pk_uLs
    refine W.widen (k := 1) (n := 6) (by omega) (by omega) ?_
    exact vx_ret (W.iret (v := nI 0) hx hb hr (fun t9 ht9 hW9 => ⟨⟨nI 0, (0, j_1, j_2, j_3, j_4, j_5, j_6, vp_updL fo9 0 ((j_1).toInt64)), rfl, ⟨rfl, g_22, g_23, g_24, g_25, g_26, g_27⟩, by rw [ht9]; exact hP9, hD9⟩, hS.F ht9⟩) hS.2.2 dL_placeBest_15)
set_option maxHeartbeats 4000000 in
set_option maxRecDepth 100000 in
theorem c_L_search (l : Launch) (D : va_G) (cI cZ cQ cJ : ClassId) (ad : Nat) (o : Nat) (pa : Nat) (ka : Nat) (fx : Nat → Nat) (sx : Nat → Nat) (x : Nat → Nat) (r : Nat → Nat) (w : Nat → Int32) (q : Nat → Int32) (d : Nat → Int32) (T : Nat → Nat → Int32) (st : Nat → Int32) (re : Nat → Int32) (rc : Int32) (nz : Nat) (y : Nat → Nat) (rp : Nat → Nat) (rw : Nat → Nat) (rt : Nat → Nat) (P : Nat → Nat → Int32) (n : Nat → Int32) (Wi : Nat → Nat → Int32) (Ti : Nat → Nat → Int32) (nt : Nat) (pb : Nat) (zo : Nat → Int32) (sf : Nat → Int32) (sg : Nat → Int32) (ra : Nat → Int32) (fo : Int32) (te : Int32) (ot : Int32) (zn : Int32) (co : Int32) (wi : Nat → Nat → Nat) (ti : Nat → Nat → Nat) (dd : Nat → Nat → Nat) (g : Nat → Nat) (a8 : Int32) (r8 : Int32) (ou : Nat) (fo9 : Nat → Int64) (sz : Nat) (hnt : nt ≤ 7) (hnz : nz ≤ 7) (hwi : rOK 7 7 Wi wi) (hti : rOK 7 7 Ti ti) (hdd : rOK nz nz T dd) (hv : vOK nz wi ti dd) (hzo : pOK 7 zo g) (hvg : vG nz nt g) (hfG : fG nt n d g) (hfl : l.stackTraces = false) : vx_Met l yL_search (.codeWith yL_search cL_search 5 (some .int) [(0, 10, 13, 21), (0, 10, 17, 15)] :: ALL) ({ frames := 8, cells := 3, slots := 18, locals := 169 } : Room) (va_Pc [.ref ad, .int a8, .int r8, .ref ou] (rx_P D cI cZ cQ cJ (((wDp ad o pa ka (fx 0) (sx 0)) ++ ((wOf o (x 0) (y 0)) ++ ((wFl x r cI cZ cQ w q d T st re rc (nI nz)) ++ ((wSt y rp rw rt cI cQ P n Wi Ti (nI nt)) ++ ((wPl pa pb cI zo) ++ (wSs sx cI sf sg ra fo te ot zn co)))))) ++ (wOu ou cJ fo9)) sz)) (va_Qi (fun (r9 : Int32) (u9 : Nat × Int32 × (Nat → Int32) × (Nat → Nat) × (Nat → Int32) × (Nat → Int32) × (Nat → Int32) × Int32 × Int32 × Int32 × Int32 × Int32 × (Nat → Int64)) => (r9 = (nI u9.1)) ∧ (sSearch nt nz n d wi ti dd g a8 r8 u9.1 u9.2.1 u9.2.2.2.1) ∧ (pOK 7 u9.2.2.1 u9.2.2.2.1) ∧ (u9.1 = 0 → u9.2.2.2.2.2.2.2.2.2.2.2.2 0 = u9.2.1.toInt64)) (rw_B D (va_A (((wDp ad o pa ka (fx 0) (sx 0)) ++ ((wOf o (x 0) (y 0)) ++ ((wFl x r cI cZ cQ w q d T st re rc (nI nz)) ++ ((wSt y rp rw rt cI cQ P n Wi Ti (nI nt)) ++ ((wPl pa pb cI zo) ++ (wSs sx cI sf sg ra fo te ot zn co)))))) ++ (wOu ou cJ fo9)) sz) (fun u9 : Nat × Int32 × (Nat → Int32) × (Nat → Nat) × (Nat → Int32) × (Nat → Int32) × (Nat → Int32) × Int32 × Int32 × Int32 × Int32 × Int32 × (Nat → Int64) => ((wDp ad o pa ka (fx 0) (sx 0)) ++ ((wOf o (x 0) (y 0)) ++ ((wFl x r cI cZ cQ w q d T st re rc (nI nz)) ++ ((wSt y rp rw rt cI cQ P n Wi Ti (nI nt)) ++ ((wPl pa pb cI u9.2.2.1) ++ (wSs sx cI u9.2.2.2.2.1 u9.2.2.2.2.2.1 u9.2.2.2.2.2.2.1 u9.2.2.2.2.2.2.2.1 u9.2.2.2.2.2.2.2.2.1 u9.2.2.2.2.2.2.2.2.2.1 u9.2.2.2.2.2.2.2.2.2.2.1 u9.2.2.2.2.2.2.2.2.2.2.2.1)))))) ++ (wOu ou cJ u9.2.2.2.2.2.2.2.2.2.2.2.2))) (va_A (((wDp ad o pa ka (fx 0) (sx 0)) ++ ((wOf o (x 0) (y 0)) ++ ((wFl x r cI cZ cQ w q d T st re rc (nI nz)) ++ ((wSt y rp rw rt cI cQ P n Wi Ti (nI nt)) ++ ((wPl pa pb cI zo) ++ (wSs sx cI sf sg ra fo te ot zn co)))))) ++ (wOu ou cJ fo9)) sz)) (rx_X (fun (E9 : String) (x9 : Unit) => False) D (va_A (((wDp ad o pa ka (fx 0) (sx 0)) ++ ((wOf o (x 0) (y 0)) ++ ((wFl x r cI cZ cQ w q d T st re rc (nI nz)) ++ ((wSt y rp rw rt cI cQ P n Wi Ti (nI nt)) ++ ((wPl pa pb cI zo) ++ (wSs sx cI sf sg ra fo te ot zn co)))))) ++ (wOu ou cJ fo9)) sz) (fun x9 : Unit => ((wDp ad o pa ka (fx 0) (sx 0)) ++ ((wOf o (x 0) (y 0)) ++ ((wFl x r cI cZ cQ w q d T st re rc (nI nz)) ++ ((wSt y rp rw rt cI cQ P n Wi Ti (nI nt)) ++ ((wPl pa pb cI zo) ++ (wSs sx cI sf sg ra fo te ot zn co)))))) ++ (wOu ou cJ fo9))) 3 18 (va_A (((wDp ad o pa ka (fx 0) (sx 0)) ++ ((wOf o (x 0) (y 0)) ++ ((wFl x r cI cZ cQ w q d T st re rc (nI nz)) ++ ((wSt y rp rw rt cI cQ P n Wi Ti (nI nt)) ++ ((wPl pa pb cI zo) ++ (wSs sx cI sf sg ra fo te ot zn co)))))) ++ (wOu ou cJ fo9)) sz) := by
  refine vx_ofWH (cc := cL_search) (maxL := 5) (ret := (some .int)) (hh := [(0, 10, 13, 21), (0, 10, 17, 15)]) (by decide) rfl ?_
  intro p e s m args below meth c s₁ B hml hv
  obtain ⟨rfl, ⟨hsz, hP, hSt, hD0⟩, hDc, hZ⟩ := hv
  change W p l e ({ frames := 8, cells := 3, slots := 18, locals := 169 } : Room) s m _ below meth c s.heap [] 0 0 _ _
  have hx := B.exec
  have hb := B.bytes
  have hr := B.returns
  have hts : ∀ w ∈ ALL, w.before ([.ref ad, .int a8, .int r8, .ref ou] : List Value).toArray s = true := fun w h => atoms_spec (ws := (.codeWith yL_search cL_search 5 (some .int) [(0, 10, 13, 21), (0, 10, 17, 15)] :: ALL)) B.pre w (List.mem_cons_of_mem _ h)
  have hown : s.vm.findClass RL = some m.cls := findClass_of_methodNamed B.named
  have hlocks := B.notSynchronized
  have htb : c.exceptionTable.toList = tableOf [(0, 10, 13, 21), (0, 10, 17, 15)] := vx_table (x := yL_search) B (atoms_spec (ws := (.codeWith yL_search cL_search 5 (some .int) [(0, 10, 13, 21), (0, 10, 17, 15)] :: ALL)) B.pre _ List.mem_cons_self)
  subst hsz
  have hD := hD0.self (sz := s.heap.size)
  clear hD0
  generalize hAe : va_A (((wDp ad o pa ka (fx 0) (sx 0)) ++ ((wOf o (x 0) (y 0)) ++ ((wFl x r cI cZ cQ w q d T st re rc (nI nz)) ++ ((wSt y rp rw rt cI cQ P n Wi Ti (nI nt)) ++ ((wPl pa pb cI zo) ++ (wSs sx cI sf sg ra fo te ot zn co)))))) ++ (wOu ou cJ fo9)) s.heap.size = A at hD hZ ⊢
  have hA : ∀ q : Nat, s.heap.size ≤ q → A q := fun q h => by rw [← hAe]; exact Or.inr h
  have hS : va_S A s.heap s.heap [] := va_S.rf
  have hl := lv_entry ([.ref ad, .int a8, .int r8, .ref ou]) (n := 5) (Nat.le_of_ble_eq_true rfl)
  rw [lg_entry_eq]
  generalize (lg_sl ([.ref ad, .int a8, .int r8, .ref ou]) ++ List.replicate (5 - (lg_sl ([.ref ad, .int a8, .int r8, .ref ou])).length) Slot.unset).toArray = ls at hl ⊢
  have hl : lv_has ls 5 [(0, .ref ad), (1, .int a8), (2, .int r8), (3, .ref ou)] := hl
  obtain ⟨H, hHe⟩ : ∃ H : Heap, H = s.heap := ⟨_, rfl⟩
  obtain ⟨locs, hLe⟩ : ∃ L : List Loc, L = [] := ⟨_, rfl⟩
  have hP : va_P D vwCl (((wDp ad o pa ka (fx 0) (sx 0)) ++ ((wOf o (x 0) (y 0)) ++ ((wFl x r cI cZ cQ w q d T st re rc (nI nz)) ++ ((wSt y rp rw rt cI cQ P n Wi Ti (nI nt)) ++ ((wPl pa pb cI zo) ++ (wSs sx cI sf sg ra fo te ot zn co)))))) ++ (wOu ou cJ fo9)) H := by rw [hHe]; exact hP
  have hS : va_S A s.heap H locs := by rw [hHe, hLe]; exact hS
  refine W.eqHL hHe hLe ?_
  refine lv_aload_n hx hb dL_search_0 rfl (lv_at hl 3 rfl) ?_
  refine lv_iconst (v := nI 0) hx hb dL_search_1 (by decide) ?_
  refine lv_aload_n hx hb dL_search_2 rfl (lv_at hl 0 rfl) ?_
  refine lv_iload_n hx hb dL_search_3 rfl (lv_at hl 1 rfl) ?_
  refine lv_iload_n hx hb dL_search_4 rfl (lv_at hl 2 rfl) ?_
  refine rx_i (wr := wOu ou cJ fo9) (w_VX (As := [.int a8, .int r8]) ⟨hx, hb, hml, hown, hts⟩ (c_X7_search l D cI cZ cQ cJ ad o pa ka fx sx x r w q d T st re rc nz y rp rw rt P n Wi Ti nt pb zo sf sg ra fo te ot zn co wi ti dd g a8 r8 H.size (by first | assumption | omega) (by first | assumption | omega) (by first | assumption | omega) (by first | assumption | omega) (by first | assumption | omega) (by first | assumption | omega) (by first | assumption | omega) (by first | assumption | omega) (by first | assumption | omega) (by first | assumption | omega)) (gV t3_120 t3_121 t3_122 t1_1 t3_123) rfl rfl hd_X7_search ⟨Nat.le_of_ble_eq_true rfl, Nat.le_of_ble_eq_true rfl⟩ (rx_pre hP hD hSt hDc hZ hS hA [0, 1, 2, 3, 4, 5, 6, 7, 8, 9, 10, 11, 12, 13, 14, 15, 16, 17, 18, 19, 20, 21, 22, 23, 24, 25, 26, 27, 28, 29, 30, 31, 32, 33, 34, 35, 36, 37, 38, 39, 40, 41, 42, 43, 44, 45, 46, 47, 48, 49, 50] rfl (by decide)) (va_recv hSt.1 hP (ci := 7) (q0 := 0) rfl rfl) rfl hl.1 (rest := [.int (nI 0), .ref ou]) rfl (Nat.le_of_ble_eq_true rfl) dL_search_5 ⟨Nat.le_of_ble_eq_true rfl, Nat.le_of_ble_eq_true rfl⟩) hP hD hS hA [0, 1, 2, 3, 4, 5, 6, 7, 8, 9, 10, 11, 12, 13, 14, 15, 16, 17, 18, 19, 20, 21, 22, 23, 24, 25, 26, 27, 28, 29, 30, 31, 32, 33, 34, 35, 36, 37, 38, 39, 40, 41, 42, 43, 44, 45, 46, 47, 48, 49, 50] [51] rfl rfl (by decide) (by decide) (fun E9 ce9 q9 x9 H locs hx9 hP hD hS hc91 hc92 hc93 => ?_) (fun r_9 u_12 H locs hw9 hP hD hS => ?_)
  · have hx9 : (E9 = "java/lang/IllegalArgumentException" ∧ sSearch nt nz n d wi ti dd g a8 r8 1 0 g) ∨ (E9 = "java/lang/IllegalStateException" ∧ sSearch nt nz n d wi ti dd g a8 r8 2 0 g) := hx9
    have hP : va_P D vwCl ((wOu ou cJ fo9) ++ ((wDp ad o pa ka (fx 0) (sx 0)) ++ ((wOf o (x 0) (y 0)) ++ ((wFl x r cI cZ cQ w q d T st re rc (nI nz)) ++ ((wSt y rp rw rt cI cQ P n Wi Ti (nI nt)) ++ ((wPl pa pb cI zo) ++ (wSs sx cI sf sg ra fo te ot zn co))))))) H := hP
    have hD : va_D A ((wOu ou cJ fo9) ++ ((wDp ad o pa ka (fx 0) (sx 0)) ++ ((wOf o (x 0) (y 0)) ++ ((wFl x r cI cZ cQ w q d T st re rc (nI nz)) ++ ((wSt y rp rw rt cI cQ P n Wi Ti (nI nt)) ++ ((wPl pa pb cI zo) ++ (wSs sx cI sf sg ra fo te ot zn co))))))) := hD
    rcases hx9 with ⟨rfl, hsx⟩ | ⟨rfl, hsx⟩
    · refine vx_catch (own := RL) hown [] ⟨0, 10, 13, 21⟩ [⟨0, 10, 17, 15⟩] (by rw [htb]; rfl) (fun _ h9 => nomatch h9) (by decide) (by decide) (hts _ t2_213) (hSt.2.e 1 rfl) hc91 hc92 hc93 ?_
      refine lv_astore (lv' := [(4, .ref q9), (0, .ref ad), (1, .int a8), (2, .int r8), (3, .ref ou)]) hx hb dL_search_13 hl (by decide) rfl (fun ls hl => ?_)
      refine lv_iconst (v := nI 1) hx hb dL_search_15 (by decide) ?_
      have hP9 : va_P D vwCl (((wDp ad o pa ka (fx 0) (sx 0)) ++ ((wOf o (x 0) (y 0)) ++ ((wFl x r cI cZ cQ w q d T st re rc (nI nz)) ++ ((wSt y rp rw rt cI cQ P n Wi Ti (nI nt)) ++ ((wPl pa pb cI zo) ++ (wSs sx cI sf sg ra fo te ot zn co)))))) ++ (wOu ou cJ fo9)) H := (hP.sub (ws' := ((wDp ad o pa ka (fx 0) (sx 0)) ++ ((wOf o (x 0) (y 0)) ++ ((wFl x r cI cZ cQ w q d T st re rc (nI nz)) ++ ((wSt y rp rw rt cI cQ P n Wi Ti (nI nt)) ++ ((wPl pa pb cI zo) ++ (wSs sx cI sf sg ra fo te ot zn co)))))) ++ (wOu ou cJ fo9)) [1, 2, 3, 4, 5, 6, 7, 8, 9, 10, 11, 12, 13, 14, 15, 16, 17, 18, 19, 20, 21, 22, 23, 24, 25, 26, 27, 28, 29, 30, 31, 32, 33, 34, 35, 36, 37, 38, 39, 40, 41, 42, 43, 44, 45, 46, 47, 48, 49, 50, 51, 0] rfl)
      have hD9 : va_D A (((wDp ad o pa ka (fx 0) (sx 0)) ++ ((wOf o (x 0) (y 0)) ++ ((wFl x r cI cZ cQ w q d T st re rc (nI nz)) ++ ((wSt y rp rw rt cI cQ P n Wi Ti (nI nt)) ++ ((wPl pa pb cI zo) ++ (wSs sx cI sf sg ra fo te ot zn co)))))) ++ (wOu ou cJ fo9)) := (hD.sub (ws' := ((wDp ad o pa ka (fx 0) (sx 0)) ++ ((wOf o (x 0) (y 0)) ++ ((wFl x r cI cZ cQ w q d T st re rc (nI nz)) ++ ((wSt y rp rw rt cI cQ P n Wi Ti (nI nt)) ++ ((wPl pa pb cI zo) ++ (wSs sx cI sf sg ra fo te ot zn co)))))) ++ (wOu ou cJ fo9)) [1, 2, 3, 4, 5, 6, 7, 8, 9, 10, 11, 12, 13, 14, 15, 16, 17, 18, 19, 20, 21, 22, 23, 24, 25, 26, 27, 28, 29, 30, 31, 32, 33, 34, 35, 36, 37, 38, 39, 40, 41, 42, 43, 44, 45, 46, 47, 48, 49, 50, 51, 0] (by decide) rfl)
      have g_13 : sSearch nt nz n d wi ti dd g a8 r8 1 (0 : Int32) g := hsx
      have g_14 : pOK 7 zo g := hzo
      have g_15 : 1 = 0 → fo9 0 = (0 : Int32).toInt64 := fun h9 => absurd h9 (by decide)
      refine W.widen (k := 3) (n := 18) (by omega) (by omega) ?_
      exact vx_ret (W.iret (v := nI 1) hx hb hr (fun t9 ht9 hW9 => ⟨⟨nI 1, (1, (0 : Int32), zo, g, sf, sg, ra, fo, te, ot, zn, co, fo9), rfl, ⟨rfl, g_13, g_14, g_15⟩, by rw [ht9]; exact hP9, hD9⟩, hS.F ht9⟩) hS.2.2 dL_search_16)
    · refine vx_catch (own := RL) hown [⟨0, 10, 13, 21⟩] ⟨0, 10, 17, 15⟩ [] (by rw [htb]; rfl) (List.forall_mem_cons.mpr ⟨Or.inr ⟨by decide, _, hts _ t2_213, hSt.2.p 5 rfl⟩, fun _ h9 => nomatch h9⟩) (by decide) (by decide) (hts _ t2_89) (hSt.2.e 2 rfl) hc91 hc92 hc93 ?_
      refine lv_astore (lv' := [(4, .ref q9), (0, .ref ad), (1, .int a8), (2, .int r8), (3, .ref ou)]) hx hb dL_search_17 hl (by decide) rfl (fun ls hl => ?_)
      refine lv_iconst (v := nI 2) hx hb dL_search_19 (by decide) ?_
      have hP9 : va_P D vwCl (((wDp ad o pa ka (fx 0) (sx 0)) ++ ((wOf o (x 0) (y 0)) ++ ((wFl x r cI cZ cQ w q d T st re rc (nI nz)) ++ ((wSt y rp rw rt cI cQ P n Wi Ti (nI nt)) ++ ((wPl pa pb cI zo) ++ (wSs sx cI sf sg ra fo te ot zn co)))))) ++ (wOu ou cJ fo9)) H := (hP.sub (ws' := ((wDp ad o pa ka (fx 0) (sx 0)) ++ ((wOf o (x 0) (y 0)) ++ ((wFl x r cI cZ cQ w q d T st re rc (nI nz)) ++ ((wSt y rp rw rt cI cQ P n Wi Ti (nI nt)) ++ ((wPl pa pb cI zo) ++ (wSs sx cI sf sg ra fo te ot zn co)))))) ++ (wOu ou cJ fo9)) [1, 2, 3, 4, 5, 6, 7, 8, 9, 10, 11, 12, 13, 14, 15, 16, 17, 18, 19, 20, 21, 22, 23, 24, 25, 26, 27, 28, 29, 30, 31, 32, 33, 34, 35, 36, 37, 38, 39, 40, 41, 42, 43, 44, 45, 46, 47, 48, 49, 50, 51, 0] rfl)
      have hD9 : va_D A (((wDp ad o pa ka (fx 0) (sx 0)) ++ ((wOf o (x 0) (y 0)) ++ ((wFl x r cI cZ cQ w q d T st re rc (nI nz)) ++ ((wSt y rp rw rt cI cQ P n Wi Ti (nI nt)) ++ ((wPl pa pb cI zo) ++ (wSs sx cI sf sg ra fo te ot zn co)))))) ++ (wOu ou cJ fo9)) := (hD.sub (ws' := ((wDp ad o pa ka (fx 0) (sx 0)) ++ ((wOf o (x 0) (y 0)) ++ ((wFl x r cI cZ cQ w q d T st re rc (nI nz)) ++ ((wSt y rp rw rt cI cQ P n Wi Ti (nI nt)) ++ ((wPl pa pb cI zo) ++ (wSs sx cI sf sg ra fo te ot zn co)))))) ++ (wOu ou cJ fo9)) [1, 2, 3, 4, 5, 6, 7, 8, 9, 10, 11, 12, 13, 14, 15, 16, 17, 18, 19, 20, 21, 22, 23, 24, 25, 26, 27, 28, 29, 30, 31, 32, 33, 34, 35, 36, 37, 38, 39, 40, 41, 42, 43, 44, 45, 46, 47, 48, 49, 50, 51, 0] (by decide) rfl)
      have g_16 : sSearch nt nz n d wi ti dd g a8 r8 2 (0 : Int32) g := hsx
      have g_17 : pOK 7 zo g := hzo
      have g_18 : 2 = 0 → fo9 0 = (0 : Int32).toInt64 := fun h9 => absurd h9 (by decide)
      refine W.widen (k := 3) (n := 18) (by omega) (by omega) ?_
      exact vx_ret (W.iret (v := nI 2) hx hb hr (fun t9 ht9 hW9 => ⟨⟨nI 2, (2, (0 : Int32), zo, g, sf, sg, ra, fo, te, ot, zn, co, fo9), rfl, ⟨rfl, g_16, g_17, g_18⟩, by rw [ht9]; exact hP9, hD9⟩, hS.F ht9⟩) hS.2.2 dL_search_20)
  · obtain ⟨j_1, j_2, j_3, j_4, j_5, j_6, j_7, j_8, j_9, j_10, j_11⟩ := u_12
    obtain ⟨er_9, f_19, f_20⟩ := hw9
    replace er_9 := er_9.symm
    subst er_9
    have hs9 : sSearch nt nz n d wi ti dd g a8 r8 0 j_1 j_3 := f_19
    have hz29 : pOK 7 j_2 j_3 := f_20
    have hP : va_P D vwCl ((wOu ou cJ fo9) ++ ((wDp ad o pa ka (fx 0) (sx 0)) ++ ((wOf o (x 0) (y 0)) ++ ((wFl x r cI cZ cQ w q d T st re rc (nI nz)) ++ ((wSt y rp rw rt cI cQ P n Wi Ti (nI nt)) ++ ((wPl pa pb cI j_2) ++ (wSs sx cI j_4 j_5 j_6 j_7 j_8 j_9 j_10 j_11))))))) H := hP
    have hD : va_D A ((wOu ou cJ fo9) ++ ((wDp ad o pa ka (fx 0) (sx 0)) ++ ((wOf o (x 0) (y 0)) ++ ((wFl x r cI cZ cQ w q d T st re rc (nI nz)) ++ ((wSt y rp rw rt cI cQ P n Wi Ti (nI nt)) ++ ((wPl pa pb cI j_2) ++ (wSs sx cI j_4 j_5 j_6 j_7 j_8 j_9 j_10 j_11))))))) := hD
    refine lv_i2l (v := (j_1).toInt64) hx hb dL_search_8 rfl ?_
    refine r_last hx hb hSt.1 hP hD hS 0 3 rfl rfl (k := 0) (by omega) (by omega) dL_search_9 (fun H locs hP hD hS => ?_)
    have hP : va_P D vwCl ((wOu ou cJ (vp_updL fo9 0 ((j_1).toInt64))) ++ ((wDp ad o pa ka (fx 0) (sx 0)) ++ ((wOf o (x 0) (y 0)) ++ ((wFl x r cI cZ cQ w q d T st re rc (nI nz)) ++ ((wSt y rp rw rt cI cQ P n Wi Ti (nI nt)) ++ ((wPl pa pb cI j_2) ++ (wSs sx cI j_4 j_5 j_6 j_7 j_8 j_9 j_10 j_11))))))) H := hP
    have hD : va_D A ((wOu ou cJ (vp_updL fo9 0 ((j_1).toInt64))) ++ ((wDp ad o pa ka (fx 0) (sx 0)) ++ ((wOf o (x 0) (y 0)) ++ ((wFl x r cI cZ cQ w q d T st re rc (nI nz)) ++ ((wSt y rp rw rt cI cQ P n Wi Ti (nI nt)) ++ ((wPl pa pb cI j_2) ++ (wSs sx cI j_4 j_5 j_6 j_7 j_8 j_9 j_10 j_11))))))) := hD
    refine lv_goto (tgt := 21) hx hb dL_search_10 (by decide) ?_
    refine lv_iconst (v := nI 0) hx hb dL_search_21 (by decide) ?_
    have hP9 : va_P D vwCl (((wDp ad o pa ka (fx 0) (sx 0)) ++ ((wOf o (x 0) (y 0)) ++ ((wFl x r cI cZ cQ w q d T st re rc (nI nz)) ++ ((wSt y rp rw rt cI cQ P n Wi Ti (nI nt)) ++ ((wPl pa pb cI j_2) ++ (wSs sx cI j_4 j_5 j_6 j_7 j_8 j_9 j_10 j_11)))))) ++ (wOu ou cJ (vp_updL fo9 0 ((j_1).toInt64)))) H := (hP.sub (ws' := ((wDp ad o pa ka (fx 0) (sx 0)) ++ ((wOf o (x 0) (y 0)) ++ ((wFl x r cI cZ cQ w q d T st re rc (nI nz)) ++ ((wSt y rp rw rt cI cQ P n Wi Ti (nI nt)) ++ ((wPl pa pb cI j_2) ++ (wSs sx cI j_4 j_5 j_6 j_7 j_8 j_9 j_10 j_11)))))) ++ (wOu ou cJ (vp_updL fo9 0 ((j_1).toInt64)))) [1, 2, 3, 4, 5, 6, 7, 8, 9, 10, 11, 12, 13, 14, 15, 16, 17, 18, 19, 20, 21, 22, 23, 24, 25, 26, 27, 28, 29, 30, 31, 32, 33, 34, 35, 36, 37, 38, 39, 40, 41, 42, 43, 44, 45, 46, 47, 48, 49, 50, 51, 0] rfl)
    have hD9 : va_D A (((wDp ad o pa ka (fx 0) (sx 0)) ++ ((wOf o (x 0) (y 0)) ++ ((wFl x r cI cZ cQ w q d T st re rc (nI nz)) ++ ((wSt y rp rw rt cI cQ P n Wi Ti (nI nt)) ++ ((wPl pa pb cI j_2) ++ (wSs sx cI j_4 j_5 j_6 j_7 j_8 j_9 j_10 j_11)))))) ++ (wOu ou cJ (vp_updL fo9 0 ((j_1).toInt64)))) := (hD.sub (ws' := ((wDp ad o pa ka (fx 0) (sx 0)) ++ ((wOf o (x 0) (y 0)) ++ ((wFl x r cI cZ cQ w q d T st re rc (nI nz)) ++ ((wSt y rp rw rt cI cQ P n Wi Ti (nI nt)) ++ ((wPl pa pb cI j_2) ++ (wSs sx cI j_4 j_5 j_6 j_7 j_8 j_9 j_10 j_11)))))) ++ (wOu ou cJ (vp_updL fo9 0 ((j_1).toInt64)))) [1, 2, 3, 4, 5, 6, 7, 8, 9, 10, 11, 12, 13, 14, 15, 16, 17, 18, 19, 20, 21, 22, 23, 24, 25, 26, 27, 28, 29, 30, 31, 32, 33, 34, 35, 36, 37, 38, 39, 40, 41, 42, 43, 44, 45, 46, 47, 48, 49, 50, 51, 0] (by decide) rfl)
    have g_21 : sSearch nt nz n d wi ti dd g a8 r8 0 j_1 j_3 := hs9
    have g_22 : pOK 7 j_2 j_3 := hz29
    have g_23 : 0 = 0 → (vp_updL fo9 0 ((j_1).toInt64)) 0 = j_1.toInt64 := fun _ => pk_uLs
    refine W.widen (k := 3) (n := 18) (by omega) (by omega) ?_
    exact vx_ret (W.iret (v := nI 0) hx hb hr (fun t9 ht9 hW9 => ⟨⟨nI 0, (0, j_1, j_2, j_3, j_4, j_5, j_6, j_7, j_8, j_9, j_10, j_11, vp_updL fo9 0 ((j_1).toInt64)), rfl, ⟨rfl, g_21, g_22, g_23⟩, by rw [ht9]; exact hP9, hD9⟩, hS.F ht9⟩) hS.2.2 dL_search_22)
set_option maxHeartbeats 4000000 in
set_option maxRecDepth 100000 in
theorem c_L_recall (l : Launch) (D : va_G) (cI cZ cQ cJ : ClassId) (ad : Nat) (o : Nat) (pa : Nat) (ka : Nat) (fx : Nat → Nat) (sx : Nat → Nat) (x : Nat → Nat) (r : Nat → Nat) (w : Nat → Int32) (q : Nat → Int32) (d : Nat → Int32) (T : Nat → Nat → Int32) (st : Nat → Int32) (re : Nat → Int32) (rc : Int32) (nz : Nat) (y : Nat → Nat) (rp : Nat → Nat) (rw : Nat → Nat) (rt : Nat → Nat) (P : Nat → Nat → Int32) (n : Nat → Int32) (Wi : Nat → Nat → Int32) (Ti : Nat → Nat → Int32) (nt : Nat) (pb : Nat) (zo : Nat → Int32) (kb : Nat) (ke : Nat → Int32) (g : Nat → Nat) (gk : Nat → Nat) (ou : Nat) (fo9 : Nat → Int64) (sz : Nat) (hnt : nt ≤ 7) (hnz : nz ≤ 7) (hzo : pOK 7 zo g) (hke : pOK 7 ke gk) (hvg : vG nz nt g) (hvk : vG nz nt gk) (hfl : l.stackTraces = false) : vx_Met l yL_recall (.codeWith yL_recall cL_recall 3 (some .int) [(0, 8, 11, 15)] :: ALL) ({ frames := 7, cells := 1, slots := 6, locals := 104 } : Room) (va_Pc [.ref ad, .ref ou] (rx_P D cI cZ cQ cJ (((wDp ad o pa ka (fx 0) (sx 0)) ++ ((wOf o (x 0) (y 0)) ++ ((wFl x r cI cZ cQ w q d T st re rc (nI nz)) ++ ((wSt y rp rw rt cI cQ P n Wi Ti (nI nt)) ++ ((wPl pa pb cI zo) ++ (wPl ka kb cI ke)))))) ++ (wOu ou cJ fo9)) sz)) (va_Qi (fun (r9 : Int32) (u9 : Nat × Int32 × (Nat → Int32) × (Nat → Nat) × (Nat → Int64)) => (r9 = (nI u9.1)) ∧ (sRecall nt n d g gk u9.1 u9.2.1 u9.2.2.2.1) ∧ (pOK 7 u9.2.2.1 u9.2.2.2.1) ∧ (u9.1 = 0 → u9.2.2.2.2 0 = u9.2.1.toInt64)) (rw_B D (va_A (((wDp ad o pa ka (fx 0) (sx 0)) ++ ((wOf o (x 0) (y 0)) ++ ((wFl x r cI cZ cQ w q d T st re rc (nI nz)) ++ ((wSt y rp rw rt cI cQ P n Wi Ti (nI nt)) ++ ((wPl pa pb cI zo) ++ (wPl ka kb cI ke)))))) ++ (wOu ou cJ fo9)) sz) (fun u9 : Nat × Int32 × (Nat → Int32) × (Nat → Nat) × (Nat → Int64) => ((wDp ad o pa ka (fx 0) (sx 0)) ++ ((wOf o (x 0) (y 0)) ++ ((wFl x r cI cZ cQ w q d T st re rc (nI nz)) ++ ((wSt y rp rw rt cI cQ P n Wi Ti (nI nt)) ++ ((wPl pa pb cI u9.2.2.1) ++ (wPl ka kb cI ke)))))) ++ (wOu ou cJ u9.2.2.2.2))) (va_A (((wDp ad o pa ka (fx 0) (sx 0)) ++ ((wOf o (x 0) (y 0)) ++ ((wFl x r cI cZ cQ w q d T st re rc (nI nz)) ++ ((wSt y rp rw rt cI cQ P n Wi Ti (nI nt)) ++ ((wPl pa pb cI zo) ++ (wPl ka kb cI ke)))))) ++ (wOu ou cJ fo9)) sz)) (rx_X (fun (E9 : String) (x9 : Unit) => False) D (va_A (((wDp ad o pa ka (fx 0) (sx 0)) ++ ((wOf o (x 0) (y 0)) ++ ((wFl x r cI cZ cQ w q d T st re rc (nI nz)) ++ ((wSt y rp rw rt cI cQ P n Wi Ti (nI nt)) ++ ((wPl pa pb cI zo) ++ (wPl ka kb cI ke)))))) ++ (wOu ou cJ fo9)) sz) (fun x9 : Unit => ((wDp ad o pa ka (fx 0) (sx 0)) ++ ((wOf o (x 0) (y 0)) ++ ((wFl x r cI cZ cQ w q d T st re rc (nI nz)) ++ ((wSt y rp rw rt cI cQ P n Wi Ti (nI nt)) ++ ((wPl pa pb cI zo) ++ (wPl ka kb cI ke)))))) ++ (wOu ou cJ fo9))) 1 6 (va_A (((wDp ad o pa ka (fx 0) (sx 0)) ++ ((wOf o (x 0) (y 0)) ++ ((wFl x r cI cZ cQ w q d T st re rc (nI nz)) ++ ((wSt y rp rw rt cI cQ P n Wi Ti (nI nt)) ++ ((wPl pa pb cI zo) ++ (wPl ka kb cI ke)))))) ++ (wOu ou cJ fo9)) sz) := by
  refine vx_ofWH (cc := cL_recall) (maxL := 3) (ret := (some .int)) (hh := [(0, 8, 11, 15)]) (by decide) rfl ?_
  intro p e s m args below meth c s₁ B hml hv
  obtain ⟨rfl, ⟨hsz, hP, hSt, hD0⟩, hDc, hZ⟩ := hv
  change W p l e ({ frames := 7, cells := 1, slots := 6, locals := 104 } : Room) s m _ below meth c s.heap [] 0 0 _ _
  have hx := B.exec
  have hb := B.bytes
  have hr := B.returns
  have hts : ∀ w ∈ ALL, w.before ([.ref ad, .ref ou] : List Value).toArray s = true := fun w h => atoms_spec (ws := (.codeWith yL_recall cL_recall 3 (some .int) [(0, 8, 11, 15)] :: ALL)) B.pre w (List.mem_cons_of_mem _ h)
  have hown : s.vm.findClass RL = some m.cls := findClass_of_methodNamed B.named
  have hlocks := B.notSynchronized
  have htb : c.exceptionTable.toList = tableOf [(0, 8, 11, 15)] := vx_table (x := yL_recall) B (atoms_spec (ws := (.codeWith yL_recall cL_recall 3 (some .int) [(0, 8, 11, 15)] :: ALL)) B.pre _ List.mem_cons_self)
  subst hsz
  have hD := hD0.self (sz := s.heap.size)
  clear hD0
  generalize hAe : va_A (((wDp ad o pa ka (fx 0) (sx 0)) ++ ((wOf o (x 0) (y 0)) ++ ((wFl x r cI cZ cQ w q d T st re rc (nI nz)) ++ ((wSt y rp rw rt cI cQ P n Wi Ti (nI nt)) ++ ((wPl pa pb cI zo) ++ (wPl ka kb cI ke)))))) ++ (wOu ou cJ fo9)) s.heap.size = A at hD hZ ⊢
  have hA : ∀ q : Nat, s.heap.size ≤ q → A q := fun q h => by rw [← hAe]; exact Or.inr h
  have hS : va_S A s.heap s.heap [] := va_S.rf
  have hl := lv_entry ([.ref ad, .ref ou]) (n := 3) (Nat.le_of_ble_eq_true rfl)
  rw [lg_entry_eq]
  generalize (lg_sl ([.ref ad, .ref ou]) ++ List.replicate (3 - (lg_sl ([.ref ad, .ref ou])).length) Slot.unset).toArray = ls at hl ⊢
  have hl : lv_has ls 3 [(0, .ref ad), (1, .ref ou)] := hl
  obtain ⟨H, hHe⟩ : ∃ H : Heap, H = s.heap := ⟨_, rfl⟩
  obtain ⟨locs, hLe⟩ : ∃ L : List Loc, L = [] := ⟨_, rfl⟩
  have hP : va_P D vwCl (((wDp ad o pa ka (fx 0) (sx 0)) ++ ((wOf o (x 0) (y 0)) ++ ((wFl x r cI cZ cQ w q d T st re rc (nI nz)) ++ ((wSt y rp rw rt cI cQ P n Wi Ti (nI nt)) ++ ((wPl pa pb cI zo) ++ (wPl ka kb cI ke)))))) ++ (wOu ou cJ fo9)) H := by rw [hHe]; exact hP
  have hS : va_S A s.heap H locs := by rw [hHe, hLe]; exact hS
  refine W.eqHL hHe hLe ?_
  refine lv_aload_n hx hb dL_recall_0 rfl (lv_at hl 1 rfl) ?_
  refine lv_iconst (v := nI 0) hx hb dL_recall_1 (by decide) ?_
  refine lv_aload_n hx hb dL_recall_2 rfl (lv_at hl 0 rfl) ?_
  refine rx_i (wr := wOu ou cJ fo9) (w_VX (As := []) ⟨hx, hb, hml, hown, hts⟩ (c_X7_recall l D cI cZ cQ cJ ad o pa ka fx sx x r w q d T st re rc nz y rp rw rt P n Wi Ti nt pb zo kb ke g gk H.size (by first | assumption | omega) (by first | assumption | omega) (by first | assumption | omega) (by first | assumption | omega) (by first | assumption | omega) (by first | assumption | omega) (by first | assumption | omega)) (gV t3_163 t3_164 t3_165 t1_1 t3_166) rfl rfl hd_X7_recall ⟨Nat.le_of_ble_eq_true rfl, Nat.le_of_ble_eq_true rfl⟩ (rx_pre hP hD hSt hDc hZ hS hA [0, 1, 2, 3, 4, 5, 6, 7, 8, 9, 10, 11, 12, 13, 14, 15, 16, 17, 18, 19, 20, 21, 22, 23, 24, 25, 26, 27, 28, 29, 30, 31, 32, 33, 34, 35, 36, 37, 38, 39, 40, 41, 42, 43, 44, 45] rfl (by decide)) (va_recv hSt.1 hP (ci := 7) (q0 := 0) rfl rfl) rfl hl.1 (rest := [.int (nI 0), .ref ou]) rfl (Nat.le_of_ble_eq_true rfl) dL_recall_3 ⟨Nat.le_of_ble_eq_true rfl, Nat.le_of_ble_eq_true rfl⟩) hP hD hS hA [0, 1, 2, 3, 4, 5, 6, 7, 8, 9, 10, 11, 12, 13, 14, 15, 16, 17, 18, 19, 20, 21, 22, 23, 24, 25, 26, 27, 28, 29, 30, 31, 32, 33, 34, 35, 36, 37, 38, 39, 40, 41, 42, 43, 44, 45] [46] rfl rfl (by decide) (by decide) (fun E9 ce9 q9 x9 H locs hx9 hP hD hS hc91 hc92 hc93 => ?_) (fun r_9 u_4 H locs hw9 hP hD hS => ?_)
  · have hx9 : E9 = "java/lang/IllegalStateException" ∧ sRecall nt n d g gk 1 0 g := hx9
    have hP : va_P D vwCl ((wOu ou cJ fo9) ++ ((wDp ad o pa ka (fx 0) (sx 0)) ++ ((wOf o (x 0) (y 0)) ++ ((wFl x r cI cZ cQ w q d T st re rc (nI nz)) ++ ((wSt y rp rw rt cI cQ P n Wi Ti (nI nt)) ++ ((wPl pa pb cI zo) ++ (wPl ka kb cI ke))))))) H := hP
    have hD : va_D A ((wOu ou cJ fo9) ++ ((wDp ad o pa ka (fx 0) (sx 0)) ++ ((wOf o (x 0) (y 0)) ++ ((wFl x r cI cZ cQ w q d T st re rc (nI nz)) ++ ((wSt y rp rw rt cI cQ P n Wi Ti (nI nt)) ++ ((wPl pa pb cI zo) ++ (wPl ka kb cI ke))))))) := hD
    obtain ⟨rfl, hsx⟩ := hx9
    refine vx_catch (own := RL) hown [] ⟨0, 8, 11, 15⟩ [] (by rw [htb]; rfl) (fun _ h9 => nomatch h9) (by decide) (by decide) (hts _ t2_89) (hSt.2.e 2 rfl) hc91 hc92 hc93 ?_
    refine lv_astore_n (lv' := [(2, .ref q9), (0, .ref ad), (1, .ref ou)]) hx hb dL_recall_11 rfl hl (by decide) rfl (fun ls hl => ?_)
    refine lv_iconst (v := nI 1) hx hb dL_recall_12 (by decide) ?_
    have hP9 : va_P D vwCl (((wDp ad o pa ka (fx 0) (sx 0)) ++ ((wOf o (x 0) (y 0)) ++ ((wFl x r cI cZ cQ w q d T st re rc (nI nz)) ++ ((wSt y rp rw rt cI cQ P n Wi Ti (nI nt)) ++ ((wPl pa pb cI zo) ++ (wPl ka kb cI ke)))))) ++ (wOu ou cJ fo9)) H := (hP.sub (ws' := ((wDp ad o pa ka (fx 0) (sx 0)) ++ ((wOf o (x 0) (y 0)) ++ ((wFl x r cI cZ cQ w q d T st re rc (nI nz)) ++ ((wSt y rp rw rt cI cQ P n Wi Ti (nI nt)) ++ ((wPl pa pb cI zo) ++ (wPl ka kb cI ke)))))) ++ (wOu ou cJ fo9)) [1, 2, 3, 4, 5, 6, 7, 8, 9, 10, 11, 12, 13, 14, 15, 16, 17, 18, 19, 20, 21, 22, 23, 24, 25, 26, 27, 28, 29, 30, 31, 32, 33, 34, 35, 36, 37, 38, 39, 40, 41, 42, 43, 44, 45, 46, 0] rfl)
    have hD9 : va_D A (((wDp ad o pa ka (fx 0) (sx 0)) ++ ((wOf o (x 0) (y 0)) ++ ((wFl x r cI cZ cQ w q d T st re rc (nI nz)) ++ ((wSt y rp rw rt cI cQ P n Wi Ti (nI nt)) ++ ((wPl pa pb cI zo) ++ (wPl ka kb cI ke)))))) ++ (wOu ou cJ fo9)) := (hD.sub (ws' := ((wDp ad o pa ka (fx 0) (sx 0)) ++ ((wOf o (x 0) (y 0)) ++ ((wFl x r cI cZ cQ w q d T st re rc (nI nz)) ++ ((wSt y rp rw rt cI cQ P n Wi Ti (nI nt)) ++ ((wPl pa pb cI zo) ++ (wPl ka kb cI ke)))))) ++ (wOu ou cJ fo9)) [1, 2, 3, 4, 5, 6, 7, 8, 9, 10, 11, 12, 13, 14, 15, 16, 17, 18, 19, 20, 21, 22, 23, 24, 25, 26, 27, 28, 29, 30, 31, 32, 33, 34, 35, 36, 37, 38, 39, 40, 41, 42, 43, 44, 45, 46, 0] (by decide) rfl)
    have g_5 : sRecall nt n d g gk 1 (0 : Int32) g := hsx
    have g_6 : pOK 7 zo g := hzo
    have g_7 : 1 = 0 → fo9 0 = (0 : Int32).toInt64 := fun h9 => absurd h9 (by decide)
    refine W.widen (k := 1) (n := 6) (by omega) (by omega) ?_
    exact vx_ret (W.iret (v := nI 1) hx hb hr (fun t9 ht9 hW9 => ⟨⟨nI 1, (1, (0 : Int32), zo, g, fo9), rfl, ⟨rfl, g_5, g_6, g_7⟩, by rw [ht9]; exact hP9, hD9⟩, hS.F ht9⟩) hS.2.2 dL_recall_13)
  · obtain ⟨j_1, j_2, j_3⟩ := u_4
    obtain ⟨er_9, f_8, f_9⟩ := hw9
    replace er_9 := er_9.symm
    subst er_9
    have hs9 : sRecall nt n d g gk 0 j_1 j_3 := f_8
    have hz29 : pOK 7 j_2 j_3 := f_9
    have hP : va_P D vwCl ((wOu ou cJ fo9) ++ ((wDp ad o pa ka (fx 0) (sx 0)) ++ ((wOf o (x 0) (y 0)) ++ ((wFl x r cI cZ cQ w q d T st re rc (nI nz)) ++ ((wSt y rp rw rt cI cQ P n Wi Ti (nI nt)) ++ ((wPl pa pb cI j_2) ++ (wPl ka kb cI ke))))))) H := hP
    have hD : va_D A ((wOu ou cJ fo9) ++ ((wDp ad o pa ka (fx 0) (sx 0)) ++ ((wOf o (x 0) (y 0)) ++ ((wFl x r cI cZ cQ w q d T st re rc (nI nz)) ++ ((wSt y rp rw rt cI cQ P n Wi Ti (nI nt)) ++ ((wPl pa pb cI j_2) ++ (wPl ka kb cI ke))))))) := hD
    refine lv_i2l (v := (j_1).toInt64) hx hb dL_recall_6 rfl ?_
    refine r_last hx hb hSt.1 hP hD hS 0 3 rfl rfl (k := 0) (by omega) (by omega) dL_recall_7 (fun H locs hP hD hS => ?_)
    have hP : va_P D vwCl ((wOu ou cJ (vp_updL fo9 0 ((j_1).toInt64))) ++ ((wDp ad o pa ka (fx 0) (sx 0)) ++ ((wOf o (x 0) (y 0)) ++ ((wFl x r cI cZ cQ w q d T st re rc (nI nz)) ++ ((wSt y rp rw rt cI cQ P n Wi Ti (nI nt)) ++ ((wPl pa pb cI j_2) ++ (wPl ka kb cI ke))))))) H := hP
    have hD : va_D A ((wOu ou cJ (vp_updL fo9 0 ((j_1).toInt64))) ++ ((wDp ad o pa ka (fx 0) (sx 0)) ++ ((wOf o (x 0) (y 0)) ++ ((wFl x r cI cZ cQ w q d T st re rc (nI nz)) ++ ((wSt y rp rw rt cI cQ P n Wi Ti (nI nt)) ++ ((wPl pa pb cI j_2) ++ (wPl ka kb cI ke))))))) := hD
    refine lv_goto (tgt := 14) hx hb dL_recall_8 (by decide) ?_
    refine lv_iconst (v := nI 0) hx hb dL_recall_14 (by decide) ?_
    have hP9 : va_P D vwCl (((wDp ad o pa ka (fx 0) (sx 0)) ++ ((wOf o (x 0) (y 0)) ++ ((wFl x r cI cZ cQ w q d T st re rc (nI nz)) ++ ((wSt y rp rw rt cI cQ P n Wi Ti (nI nt)) ++ ((wPl pa pb cI j_2) ++ (wPl ka kb cI ke)))))) ++ (wOu ou cJ (vp_updL fo9 0 ((j_1).toInt64)))) H := (hP.sub (ws' := ((wDp ad o pa ka (fx 0) (sx 0)) ++ ((wOf o (x 0) (y 0)) ++ ((wFl x r cI cZ cQ w q d T st re rc (nI nz)) ++ ((wSt y rp rw rt cI cQ P n Wi Ti (nI nt)) ++ ((wPl pa pb cI j_2) ++ (wPl ka kb cI ke)))))) ++ (wOu ou cJ (vp_updL fo9 0 ((j_1).toInt64)))) [1, 2, 3, 4, 5, 6, 7, 8, 9, 10, 11, 12, 13, 14, 15, 16, 17, 18, 19, 20, 21, 22, 23, 24, 25, 26, 27, 28, 29, 30, 31, 32, 33, 34, 35, 36, 37, 38, 39, 40, 41, 42, 43, 44, 45, 46, 0] rfl)
    have hD9 : va_D A (((wDp ad o pa ka (fx 0) (sx 0)) ++ ((wOf o (x 0) (y 0)) ++ ((wFl x r cI cZ cQ w q d T st re rc (nI nz)) ++ ((wSt y rp rw rt cI cQ P n Wi Ti (nI nt)) ++ ((wPl pa pb cI j_2) ++ (wPl ka kb cI ke)))))) ++ (wOu ou cJ (vp_updL fo9 0 ((j_1).toInt64)))) := (hD.sub (ws' := ((wDp ad o pa ka (fx 0) (sx 0)) ++ ((wOf o (x 0) (y 0)) ++ ((wFl x r cI cZ cQ w q d T st re rc (nI nz)) ++ ((wSt y rp rw rt cI cQ P n Wi Ti (nI nt)) ++ ((wPl pa pb cI j_2) ++ (wPl ka kb cI ke)))))) ++ (wOu ou cJ (vp_updL fo9 0 ((j_1).toInt64)))) [1, 2, 3, 4, 5, 6, 7, 8, 9, 10, 11, 12, 13, 14, 15, 16, 17, 18, 19, 20, 21, 22, 23, 24, 25, 26, 27, 28, 29, 30, 31, 32, 33, 34, 35, 36, 37, 38, 39, 40, 41, 42, 43, 44, 45, 46, 0] (by decide) rfl)
    have g_10 : sRecall nt n d g gk 0 j_1 j_3 := hs9
    have g_11 : pOK 7 j_2 j_3 := hz29
    have g_12 : 0 = 0 → (vp_updL fo9 0 ((j_1).toInt64)) 0 = j_1.toInt64 := fun _ => pk_uLs
    refine W.widen (k := 1) (n := 6) (by omega) (by omega) ?_
    exact vx_ret (W.iret (v := nI 0) hx hb hr (fun t9 ht9 hW9 => ⟨⟨nI 0, (0, j_1, j_2, j_3, vp_updL fo9 0 ((j_1).toInt64)), rfl, ⟨rfl, g_10, g_11, g_12⟩, by rw [ht9]; exact hP9, hD9⟩, hS.F ht9⟩) hS.2.2 dL_recall_15)
theorem hd_L_setWall : yL_setWall.cls ≠ "java/lang/invoke/MethodHandle" ∧ yL_setWall.cls ≠ "java/lang/invoke/VarHandle" ∧ (parseMethodDescriptor yL_setWall.desc).map (fun d => d.parameters.length) = some 5 := by decide +kernel
theorem hd_L_addZone : yL_addZone.cls ≠ "java/lang/invoke/MethodHandle" ∧ yL_addZone.cls ≠ "java/lang/invoke/VarHandle" ∧ (parseMethodDescriptor yL_addZone.desc).map (fun d => d.parameters.length) = some 5 := by decide +kernel
theorem hd_L_setDesks : yL_setDesks.cls ≠ "java/lang/invoke/MethodHandle" ∧ yL_setDesks.cls ≠ "java/lang/invoke/VarHandle" ∧ (parseMethodDescriptor yL_setDesks.desc).map (fun d => d.parameters.length) = some 4 := by decide +kernel
theorem hd_L_setPresent : yL_setPresent.cls ≠ "java/lang/invoke/MethodHandle" ∧ yL_setPresent.cls ≠ "java/lang/invoke/VarHandle" ∧ (parseMethodDescriptor yL_setPresent.desc).map (fun d => d.parameters.length) = some 5 := by decide +kernel
theorem hd_L_setWish : yL_setWish.cls ≠ "java/lang/invoke/MethodHandle" ∧ yL_setWish.cls ≠ "java/lang/invoke/VarHandle" ∧ (parseMethodDescriptor yL_setWish.desc).map (fun d => d.parameters.length) = some 5 := by decide +kernel
theorem hd_L_setTie : yL_setTie.cls ≠ "java/lang/invoke/MethodHandle" ∧ yL_setTie.cls ≠ "java/lang/invoke/VarHandle" ∧ (parseMethodDescriptor yL_setTie.desc).map (fun d => d.parameters.length) = some 5 := by decide +kernel
theorem hd_L_place : yL_place.cls ≠ "java/lang/invoke/MethodHandle" ∧ yL_place.cls ≠ "java/lang/invoke/VarHandle" ∧ (parseMethodDescriptor yL_place.desc).map (fun d => d.parameters.length) = some 4 := by decide +kernel
theorem hd_L_need : yL_need.cls ≠ "java/lang/invoke/MethodHandle" ∧ yL_need.cls ≠ "java/lang/invoke/VarHandle" ∧ (parseMethodDescriptor yL_need.desc).map (fun d => d.parameters.length) = some 3 := by decide +kernel
theorem hd_L_share : yL_share.cls ≠ "java/lang/invoke/MethodHandle" ∧ yL_share.cls ≠ "java/lang/invoke/VarHandle" ∧ (parseMethodDescriptor yL_share.desc).map (fun d => d.parameters.length) = some 3 := by decide +kernel
theorem hd_L_zoneOf : yL_zoneOf.cls ≠ "java/lang/invoke/MethodHandle" ∧ yL_zoneOf.cls ≠ "java/lang/invoke/VarHandle" ∧ (parseMethodDescriptor yL_zoneOf.desc).map (fun d => d.parameters.length) = some 3 := by decide +kernel
theorem hd_L_teamIn : yL_teamIn.cls ≠ "java/lang/invoke/MethodHandle" ∧ yL_teamIn.cls ≠ "java/lang/invoke/VarHandle" ∧ (parseMethodDescriptor yL_teamIn.desc).map (fun d => d.parameters.length) = some 3 := by decide +kernel
theorem hd_L_free : yL_free.cls ≠ "java/lang/invoke/MethodHandle" ∧ yL_free.cls ≠ "java/lang/invoke/VarHandle" ∧ (parseMethodDescriptor yL_free.desc).map (fun d => d.parameters.length) = some 4 := by decide +kernel
theorem hd_L_distance : yL_distance.cls ≠ "java/lang/invoke/MethodHandle" ∧ yL_distance.cls ≠ "java/lang/invoke/VarHandle" ∧ (parseMethodDescriptor yL_distance.desc).map (fun d => d.parameters.length) = some 4 := by decide +kernel
theorem hd_L_addTeam : yL_addTeam.cls ≠ "java/lang/invoke/MethodHandle" ∧ yL_addTeam.cls ≠ "java/lang/invoke/VarHandle" ∧ (parseMethodDescriptor yL_addTeam.desc).map (fun d => d.parameters.length) = some 2 := by decide +kernel
theorem hd_L_placeByWishes : yL_placeByWishes.cls ≠ "java/lang/invoke/MethodHandle" ∧ yL_placeByWishes.cls ≠ "java/lang/invoke/VarHandle" ∧ (parseMethodDescriptor yL_placeByWishes.desc).map (fun d => d.parameters.length) = some 2 := by decide +kernel
theorem hd_L_placeBest : yL_placeBest.cls ≠ "java/lang/invoke/MethodHandle" ∧ yL_placeBest.cls ≠ "java/lang/invoke/VarHandle" ∧ (parseMethodDescriptor yL_placeBest.desc).map (fun d => d.parameters.length) = some 2 := by decide +kernel
theorem hd_L_search : yL_search.cls ≠ "java/lang/invoke/MethodHandle" ∧ yL_search.cls ≠ "java/lang/invoke/VarHandle" ∧ (parseMethodDescriptor yL_search.desc).map (fun d => d.parameters.length) = some 4 := by decide +kernel
theorem hd_L_recall : yL_recall.cls ≠ "java/lang/invoke/MethodHandle" ∧ yL_recall.cls ≠ "java/lang/invoke/VarHandle" ∧ (parseMethodDescriptor yL_recall.desc).map (fun d => d.parameters.length) = some 2 := by decide +kernel
