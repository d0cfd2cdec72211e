set_option maxHeartbeats 4000000 in
set_option maxRecDepth 100000 in
theorem c_X8_search (l : Launch) (D : va_G) (cI cZ cQ cJ : ClassId) (mx : Nat → Nat) (w : Nat → Int32) (nz : Nat) (q : Nat → Int32) (d : Nat → Int32) (nt : Nat) (pr : Nat → Int32) (mw : Nat → Int32) (mt : Nat → Int32) (zo : Nat → Int32) (ke : Nat → Int32) (wy : Nat → Int32) (st : Nat → Int32) (tr : Nat → Int32) (be : Nat → Int32) (ch : Nat → Int32) (th : Int32) (pp : Nat → Nat → Nat) (n : Nat → Int32) (wi : Nat → Nat → Nat) (ti : Nat → Nat → Nat) (dd : Nat → Nat → Nat) (sq : Nat → Nat) (g : Nat → Nat) (a8 : Int32) (r8 : Int32) (sz : Nat) (hnz : nz ≤ 7) (hnt : nt ≤ 7) (hpr : ∀ t, t < nt → ∀ j, j < 5 → pr (5 * t + j) = nI (pp t j) ∧ pp t j ≤ 60) (hnn : ∀ t, t < nt → n t = nI (ndN (pp t))) (hmw : ∀ t z, t < 7 → z < 7 → mw (7 * t + z) = nI (wi t z)) (hmt : ∀ t o, t < 7 → o < 7 → mt (7 * t + o) = nI (ti t o)) (hq : ∀ o, o < nz → q o = nI (sq o) ∧ sq o < 64 ∧ w (sq o) = 0) (hdD : ∀ u v, u < nz → v < nz → isD w (sq u) (sq v) (nI (dd u v))) (hv : vOK nz wi ti dd) (hzo : pOK nt zo g) (hvg : vG nz nt g) (hfG : fG nt n d g) : Met l yX8_search (.code yX8_search cX8_search 13 (some .int) :: ALL) ({ frames := 5, cells := 0, slots := 0, locals := 112 } : Room) (va_Pc [.ref (mx 0), .int a8, .int r8] (rw_P D cI cZ cQ cJ (wMo mx cI cZ w (nI nz) q d (nI nt) pr mw mt zo ke wy st tr be ch th) sz)) (va_Qi (fun (r9 : Int32) (u9 : Int32 × Nat × (Nat → Int32) × (Nat → Int32) × (Nat → Int32) × (Nat → Int32) × (Nat → Int32) × (Nat → Int32) × (Nat → Nat)) => (r9 = u9.1) ∧ (sSearch nt nz n d wi ti dd g a8 r8 u9.2.1 u9.1 u9.2.2.2.2.2.2.2.2) ∧ (pOK nt u9.2.2.1 u9.2.2.2.2.2.2.2.2)) (rw_B D (va_A (wMo mx cI cZ w (nI nz) q d (nI nt) pr mw mt zo ke wy st tr be ch th) sz) (fun u9 : Int32 × Nat × (Nat → Int32) × (Nat → Int32) × (Nat → Int32) × (Nat → Int32) × (Nat → Int32) × (Nat → Int32) × (Nat → Nat) => wMo mx cI cZ w (nI nz) q d (nI nt) pr mw mt u9.2.2.1 ke u9.2.2.2.1 u9.2.2.2.2.1 u9.2.2.2.2.2.1 u9.2.2.2.2.2.2.1 u9.2.2.2.2.2.2.2.1 (nI u9.2.1))) (va_A (wMo mx cI cZ w (nI nz) q d (nI nt) pr mw mt zo ke wy st tr be ch th) sz)) 0 0 (va_A (wMo mx cI cZ w (nI nz) q d (nI nt) pr mw mt zo ke wy st tr be ch th) sz) := by
  refine Met.ofW (cc := cX8_search) (maxL := 13) (ret := (some .int)) (by decide) rfl ?_
  intro p e s m args below meth c s₁ B hml hv
  obtain ⟨rfl, hsz, hP, hSt, hD0⟩ := hv
  have hx := B.exec
  have hb := B.bytes
  have hr := B.returns
  have hts : ∀ w ∈ ALL, w.before ([.ref (mx 0), .int a8, .int r8] : List Value).toArray s = true := fun w h => atoms_spec (ws := (.code yX8_search cX8_search 13 (some .int) :: ALL)) B.pre w (List.mem_cons_of_mem _ h)
  have hown : s.vm.findClass RX8 = some m.cls := findClass_of_methodNamed B.named
  have hlocks := B.notSynchronized
  subst hsz
  have hD := hD0.self (sz := s.heap.size)
  clear hD0
  generalize hAe : va_A (wMo mx cI cZ w (nI nz) q d (nI nt) pr mw mt zo ke wy st tr be ch th) s.heap.size = A at hD ⊢
  have hA : ∀ q : Nat, s.heap.size ≤ q → A q := fun q h => by rw [← hAe]; exact Or.inr h
  have hS : va_S A s.heap s.heap [] := va_S.rf
  have hl := lv_entry ([.ref (mx 0), .int a8, .int r8]) (n := 13) (Nat.le_of_ble_eq_true rfl)
  rw [lg_entry_eq]
  generalize (lg_sl ([.ref (mx 0), .int a8, .int r8]) ++ List.replicate (13 - (lg_sl ([.ref (mx 0), .int a8, .int r8])).length) Slot.unset).toArray = ls at hl ⊢
  have hl : lv_has ls 13 [(0, .ref (mx 0)), (1, .int a8), (2, .int r8)] := hl
  obtain ⟨H, hHe⟩ : ∃ H : Heap, H = s.heap := ⟨_, rfl⟩
  obtain ⟨locs, hLe⟩ : ∃ L : List Loc, L = [] := ⟨_, rfl⟩
  have hP : va_P D vwCl (wMo mx cI cZ w (nI nz) q d (nI nt) pr mw mt zo ke wy st tr be ch th) H := by rw [hHe]; exact hP
  have hS : va_S A s.heap H locs := by rw [hHe, hLe]; exact hS
  refine W.eqHL hHe hLe ?_
  refine lv_aload_n hx hb dX8_search_0 rfl (lv_at hl 0 rfl) ?_
  refine lv_iload_n hx hb dX8_search_1 rfl (lv_at hl 1 rfl) ?_
  refine lv_iconst (v := nI 1) hx hb dX8_search_2 (by decide) ?_
  refine lv_bipush (v := nI 40) hx hb dX8_search_3 (by decide) ?_
  refine ro_S (As := [.int a8, .int (nI 1), .int (nI 40)]) (rest := [.ref (mx 0)]) (v := bI (inI a8 (nI 1) (nI 40))) ⟨hx, hb, hml, hown, hts⟩ (c_X8_in l D cI cZ cQ cJ a8 (nI 1) (nI 40)) (gS t4_40 t4_41 t1_10 t4_42) rfl rfl hd_X8_in ⟨Nat.le_of_ble_eq_true rfl, Nat.le_of_ble_eq_true rfl⟩ va_P_nil hSt rfl hl.1 rfl (Nat.le_of_ble_eq_true rfl) dX8_search_5 (Nat.zero_le _) (Nat.zero_le _) ?_
  refine lv_if_eq (tgt := 24) hx hb dX8_search_8 (by decide) (fun c_1 => ?_) (fun c_1 => ?_)
  · have c_1 := bI_0.mp c_1
    refine lv_iconst (v := nI 0) hx hb dX8_search_24 (by decide) ?_
    refine lv_aload_n hx hb dX8_search_25 rfl (lv_at hl 0 rfl) ?_
    refine ro_V (As := []) (rest := [.int (nI 0), .ref (mx 0)]) (v := bB (decide (cnt (fun u9 => !decide (zo u9 = -1)) nt = nt))) ⟨hx, hb, hml, hown, hts⟩ (c_X8_isPlaced l D cI cZ cQ cJ mx w nz q d nt pr mw mt zo ke wy st tr be ch th g (by first | assumption | omega) (by first | assumption | omega) (by first | assumption | omega)) (gV t4_151 t4_153 t0_36 t1_10 t4_154) rfl rfl hd_X8_isPlaced ⟨Nat.le_of_ble_eq_true rfl, Nat.le_of_ble_eq_true rfl⟩ hP hSt (va_recv hSt.1 hP (ci := 8) (q0 := 0) rfl rfl) rfl hl.1 rfl (Nat.le_of_ble_eq_true rfl) dX8_search_26 (Nat.zero_le _) (Nat.zero_le _) ?_
    refine rw_i (wr := ([] : va_W)) (w_V (As := [.int (nI 0), .int (bB (decide (cnt (fun u9 => !decide (zo u9 = -1)) nt = nt)))]) ⟨hx, hb, hml, hown, hts⟩ (c_X8_asked_ l D cI cZ cQ cJ mx w nz q d nt pr mw mt zo ke wy st tr be ch th (nI 0) (bB (decide (cnt (fun u9 => !decide (zo u9 = -1)) nt = nt))) H.size) (gV t4_47 t4_49 t0_20 t1_10 t4_50) rfl rfl hd_X8_asked_ ⟨Nat.le_of_ble_eq_true rfl, Nat.le_of_ble_eq_true rfl⟩ (rw_pre hP hD hSt [0, 1, 2, 3, 4, 5, 6, 7, 8, 9, 10, 11, 12, 13] rfl (by decide)) (va_recv hSt.1 hP (ci := 8) (q0 := 0) rfl rfl) rfl hl.1 (rest := []) rfl (Nat.le_of_ble_eq_true rfl) dX8_search_29 ⟨Nat.le_of_ble_eq_true rfl, Nat.le_of_ble_eq_true rfl⟩) hP hD hS hA [0, 1, 2, 3, 4, 5, 6, 7, 8, 9, 10, 11, 12, 13] [] rfl rfl (by decide) (by decide) (fun r_9 u_2 H locs hw9 hP hD hS => ?_)
    have er_9 := hw9
    replace er_9 := er_9.symm
    subst er_9
    have hP : va_P D vwCl (wMo mx cI cZ w (nI nz) q d (nI nt) pr mw mt zo ke wy st tr be ch (nI (as2 (nI 0) (bB (decide (cnt (fun u9 => !decide (zo u9 = -1)) nt = nt)))))) H := hP
    have hD : va_D A (wMo mx cI cZ w (nI nz) q d (nI nt) pr mw mt zo ke wy st tr be ch (nI (as2 (nI 0) (bB (decide (cnt (fun u9 => !decide (zo u9 = -1)) nt = nt)))))) := hD
    refine lv_if_ne (tgt := 37) hx hb dX8_search_32 (by decide) (fun c_3 => ?_) (fun c_3 => ?_)
    · have c_3 := bI_n0.mp c_3
      exact absurd nI0 (as2_0 c_3).1
    · have c_3 := bI_0.mp c_3
      refine lv_iconst (v := nI 0) hx hb dX8_search_35 (by decide) ?_
      have hP9 : va_P D vwCl (wMo mx cI cZ w (nI nz) q d (nI nt) pr mw mt zo ke wy st tr be ch (nI (as2 (nI 0) (bB (decide (cnt (fun u9 => !decide (zo u9 = -1)) nt = nt)))))) H := hP
      have hD9 : va_D A (wMo mx cI cZ w (nI nz) q d (nI nt) pr mw mt zo ke wy st tr be ch (nI (as2 (nI 0) (bB (decide (cnt (fun u9 => !decide (zo u9 = -1)) nt = nt)))))) := hD
      have g_4 : sSearch nt nz n d wi ti dd g a8 r8 (as2 (nI 0) (bB (decide (cnt (fun u9 => !decide (zo u9 = -1)) nt = nt)))) (nI 0) g := Or.inl ⟨fun q9 => c_1 ((inI_R (lo := 1) (hi := 40) (by omega) (by omega)).mpr q9.1), if_pos nI0, rfl⟩
      have g_5 : pOK nt zo g := hzo
      exact W.iret (v := nI 0) hx hb hr (fun t9 ht9 hW9 => ⟨⟨nI 0, (nI 0, as2 (nI 0) (bB (decide (cnt (fun u9 => !decide (zo u9 = -1)) nt = nt))), zo, wy, st, tr, be, ch, g), rfl, ⟨rfl, g_4, g_5⟩, by rw [ht9]; exact hP9, hD9⟩, hS.F ht9⟩) hS.2.2 dX8_search_36
  · have c_1 := bI_n0.mp c_1
    obtain ⟨aa, h1_aa, h2_aa, rfl⟩ := (inI_R (lo := 1) (hi := 40) (by omega) (by omega)).mp c_1
    refine lv_iload_n hx hb dX8_search_11 rfl (lv_at hl 2 rfl) ?_
    refine lv_iconst (v := nI 0) hx hb dX8_search_12 (by decide) ?_
    refine lv_iconst (v := nI 5) hx hb dX8_search_13 (by decide) ?_
    refine ro_S (As := [.int r8, .int (nI 0), .int (nI 5)]) (rest := [.ref (mx 0)]) (v := bI (inI r8 (nI 0) (nI 5))) ⟨hx, hb, hml, hown, hts⟩ (c_X8_in l D cI cZ cQ cJ r8 (nI 0) (nI 5)) (gS t4_40 t4_41 t1_10 t4_42) rfl rfl hd_X8_in ⟨Nat.le_of_ble_eq_true rfl, Nat.le_of_ble_eq_true rfl⟩ va_P_nil hSt rfl hl.1 rfl (Nat.le_of_ble_eq_true rfl) dX8_search_14 (Nat.zero_le _) (Nat.zero_le _) ?_
    refine lv_if_eq (tgt := 24) hx hb dX8_search_17 (by decide) (fun c_6 => ?_) (fun c_6 => ?_)
    · have c_6 := bI_0.mp c_6
      refine lv_iconst (v := nI 0) hx hb dX8_search_24 (by decide) ?_
      refine lv_aload_n hx hb dX8_search_25 rfl (lv_at hl 0 rfl) ?_
      refine ro_V (As := []) (rest := [.int (nI 0), .ref (mx 0)]) (v := bB (decide (cnt (fun u9 => !decide (zo u9 = -1)) nt = nt))) ⟨hx, hb, hml, hown, hts⟩ (c_X8_isPlaced l D cI cZ cQ cJ mx w nz q d nt pr mw mt zo ke wy st tr be ch th g (by first | assumption | omega) (by first | assumption | omega) (by first | assumption | omega)) (gV t4_151 t4_153 t0_36 t1_10 t4_154) rfl rfl hd_X8_isPlaced ⟨Nat.le_of_ble_eq_true rfl, Nat.le_of_ble_eq_true rfl⟩ hP hSt (va_recv hSt.1 hP (ci := 8) (q0 := 0) rfl rfl) rfl hl.1 rfl (Nat.le_of_ble_eq_true rfl) dX8_search_26 (Nat.zero_le _) (Nat.zero_le _) ?_
      refine rw_i (wr := ([] : va_W)) (w_V (As := [.int (nI 0), .int (bB (decide (cnt (fun u9 => !decide (zo u9 = -1)) nt = nt)))]) ⟨hx, hb, hml, hown, hts⟩ (c_X8_asked_ l D cI cZ cQ cJ mx w nz q d nt pr mw mt zo ke wy st tr be ch th (nI 0) (bB (decide (cnt (fun u9 => !decide (zo u9 = -1)) nt = nt))) H.size) (gV t4_47 t4_49 t0_20 t1_10 t4_50) rfl rfl hd_X8_asked_ ⟨Nat.le_of_ble_eq_true rfl, Nat.le_of_ble_eq_true rfl⟩ (rw_pre hP hD hSt [0, 1, 2, 3, 4, 5, 6, 7, 8, 9, 10, 11, 12, 13] rfl (by decide)) (va_recv hSt.1 hP (ci := 8) (q0 := 0) rfl rfl) rfl hl.1 (rest := []) rfl (Nat.le_of_ble_eq_true rfl) dX8_search_29 ⟨Nat.le_of_ble_eq_true rfl, Nat.le_of_ble_eq_true rfl⟩) hP hD hS hA [0, 1, 2, 3, 4, 5, 6, 7, 8, 9, 10, 11, 12, 13] [] rfl rfl (by decide) (by decide) (fun r_9 u_7 H locs hw9 hP hD hS => ?_)
      have er_9 := hw9
      replace er_9 := er_9.symm
      subst er_9
      have hP : va_P D vwCl (wMo mx cI cZ w (nI nz) q d (nI nt) pr mw mt zo ke wy st tr be ch (nI (as2 (nI 0) (bB (decide (cnt (fun u9 => !decide (zo u9 = -1)) nt = nt)))))) H := hP
      have hD : va_D A (wMo mx cI cZ w (nI nz) q d (nI nt) pr mw mt zo ke wy st tr be ch (nI (as2 (nI 0) (bB (decide (cnt (fun u9 => !decide (zo u9 = -1)) nt = nt)))))) := hD
      refine lv_if_ne (tgt := 37) hx hb dX8_search_32 (by decide) (fun c_8 => ?_) (fun c_8 => ?_)
      · have c_8 := bI_n0.mp c_8
        exact absurd nI0 (as2_0 c_8).1
      · have c_8 := bI_0.mp c_8
        refine lv_iconst (v := nI 0) hx hb dX8_search_35 (by decide) ?_
        have hP9 : va_P D vwCl (wMo mx cI cZ w (nI nz) q d (nI nt) pr mw mt zo ke wy st tr be ch (nI (as2 (nI 0) (bB (decide (cnt (fun u9 => !decide (zo u9 = -1)) nt = nt)))))) H := hP
        have hD9 : va_D A (wMo mx cI cZ w (nI nz) q d (nI nt) pr mw mt zo ke wy st tr be ch (nI (as2 (nI 0) (bB (decide (cnt (fun u9 => !decide (zo u9 = -1)) nt = nt)))))) := hD
        have g_9 : sSearch nt nz n d wi ti dd g (nI aa) r8 (as2 (nI 0) (bB (decide (cnt (fun u9 => !decide (zo u9 = -1)) nt = nt)))) (nI 0) g := Or.inl ⟨fun q9 => c_6 ((inI_R (lo := 0) (hi := 5) (by omega) (by omega)).mpr q9.2), if_pos nI0, rfl⟩
        have g_10 : pOK nt zo g := hzo
        exact W.iret (v := nI 0) hx hb hr (fun t9 ht9 hW9 => ⟨⟨nI 0, (nI 0, as2 (nI 0) (bB (decide (cnt (fun u9 => !decide (zo u9 = -1)) nt = nt))), zo, wy, st, tr, be, ch, g), rfl, ⟨rfl, g_9, g_10⟩, by rw [ht9]; exact hP9, hD9⟩, hS.F ht9⟩) hS.2.2 dX8_search_36
    · have c_6 := bI_n0.mp c_6
      obtain ⟨rr, h1_rr, h2_rr, rfl⟩ := (inI_R (lo := 0) (hi := 5) (by omega) (by omega)).mp c_6
      refine lv_iconst (v := nI 1) hx hb dX8_search_20 (by decide) ?_
      refine lv_goto (tgt := 25) hx hb dX8_search_21 (by decide) ?_
      refine lv_aload_n hx hb dX8_search_25 rfl (lv_at hl 0 rfl) ?_
      refine ro_V (As := []) (rest := [.int (nI 1), .ref (mx 0)]) (v := bB (decide (cnt (fun u9 => !decide (zo u9 = -1)) nt = nt))) ⟨hx, hb, hml, hown, hts⟩ (c_X8_isPlaced l D cI cZ cQ cJ mx w nz q d nt pr mw mt zo ke wy st tr be ch th g (by first | assumption | omega) (by first | assumption | omega) (by first | assumption | omega)) (gV t4_151 t4_153 t0_36 t1_10 t4_154) rfl rfl hd_X8_isPlaced ⟨Nat.le_of_ble_eq_true rfl, Nat.le_of_ble_eq_true rfl⟩ hP hSt (va_recv hSt.1 hP (ci := 8) (q0 := 0) rfl rfl) rfl hl.1 rfl (Nat.le_of_ble_eq_true rfl) dX8_search_26 (Nat.zero_le _) (Nat.zero_le _) ?_
      refine rw_i (wr := ([] : va_W)) (w_V (As := [.int (nI 1), .int (bB (decide (cnt (fun u9 => !decide (zo u9 = -1)) nt = nt)))]) ⟨hx, hb, hml, hown, hts⟩ (c_X8_asked_ l D cI cZ cQ cJ mx w nz q d nt pr mw mt zo ke wy st tr be ch th (nI 1) (bB (decide (cnt (fun u9 => !decide (zo u9 = -1)) nt = nt))) H.size) (gV t4_47 t4_49 t0_20 t1_10 t4_50) rfl rfl hd_X8_asked_ ⟨Nat.le_of_ble_eq_true rfl, Nat.le_of_ble_eq_true rfl⟩ (rw_pre hP hD hSt [0, 1, 2, 3, 4, 5, 6, 7, 8, 9, 10, 11, 12, 13] rfl (by decide)) (va_recv hSt.1 hP (ci := 8) (q0 := 0) rfl rfl) rfl hl.1 (rest := []) rfl (Nat.le_of_ble_eq_true rfl) dX8_search_29 ⟨Nat.le_of_ble_eq_true rfl, Nat.le_of_ble_eq_true rfl⟩) hP hD hS hA [0, 1, 2, 3, 4, 5, 6, 7, 8, 9, 10, 11, 12, 13] [] rfl rfl (by decide) (by decide) (fun r_9 u_11 H locs hw9 hP hD hS => ?_)
      have er_9 := hw9
      replace er_9 := er_9.symm
      subst er_9
      have hP : va_P D vwCl (wMo mx cI cZ w (nI nz) q d (nI nt) pr mw mt zo ke wy st tr be ch (nI (as2 (nI 1) (bB (decide (cnt (fun u9 => !decide (zo u9 = -1)) nt = nt)))))) H := hP
      have hD : va_D A (wMo mx cI cZ w (nI nz) q d (nI nt) pr mw mt zo ke wy st tr be ch (nI (as2 (nI 1) (bB (decide (cnt (fun u9 => !decide (zo u9 = -1)) nt = nt)))))) := hD
      refine lv_if_ne (tgt := 37) hx hb dX8_search_32 (by decide) (fun c_12 => ?_) (fun c_12 => ?_)
      · have c_12 := bI_n0.mp c_12
        have hall := (pl_all hzo).mp (pl_cnt.mp (of_decide_eq_true (bB_1 (as2_0 c_12).2)))
        have haP := aP_of hvg hfG hall
        have hcle : costN wi ti dd g nt ≤ 50000 := costN_le hv (fun t ht => gOK_aP haP t (by omega)) hnt hnz
        refine lv_aload_n hx hb dX8_search_37 rfl (lv_at hl 0 rfl) ?_
        refine rw_v (wr := ([] : va_W)) (w_V (As := []) ⟨hx, hb, hml, hown, hts⟩ (c_X8_findsWays l D cI cZ cQ cJ mx w nz q d nt pr mw mt zo ke wy st tr be ch (nI (as2 (nI 1) (bB (decide (cnt (fun u9 => !decide (zo u9 = -1)) nt = nt))))) sq dd H.size (by first | assumption | omega) (by first | assumption | omega) (by first | assumption | omega)) (gV t4_119 t4_121 t0_30 t1_10 t4_122) rfl rfl hd_X8_findsWays ⟨Nat.le_of_ble_eq_true rfl, Nat.le_of_ble_eq_true rfl⟩ (rw_pre hP hD hSt [0, 1, 2, 3, 4, 5, 6, 7, 8, 9, 10, 11, 12, 13] rfl (by decide)) (va_recv hSt.1 hP (ci := 8) (q0 := 0) rfl rfl) rfl hl.1 (rest := []) rfl (Nat.le_of_ble_eq_true rfl) dX8_search_38 ⟨Nat.le_of_ble_eq_true rfl, Nat.le_of_ble_eq_true rfl⟩) hP hD hS hA [0, 1, 2, 3, 4, 5, 6, 7, 8, 9, 10, 11, 12, 13] [] rfl rfl (by decide) (by decide) (fun  u_15 H locs hw9 hP hD hS => ?_)
        obtain ⟨j_13, j_14⟩ := u_15
        have f_16 := hw9
        have hwy9 : ∀ u v, u < nz → v < nz → j_13 (7 * u + v) = nI (dd u v) := f_16
        have hP : va_P D vwCl (wMo mx cI cZ w (nI nz) q d (nI nt) pr mw mt zo ke j_13 j_14 tr be ch (nI (as2 (nI 1) (bB (decide (cnt (fun u9 => !decide (zo u9 = -1)) nt = nt)))))) H := hP
        have hD : va_D A (wMo mx cI cZ w (nI nz) q d (nI nt) pr mw mt zo ke j_13 j_14 tr be ch (nI (as2 (nI 1) (bB (decide (cnt (fun u9 => !decide (zo u9 = -1)) nt = nt)))))) := hD
        refine lv_aload_n hx hb dX8_search_41 rfl (lv_at hl 0 rfl) ?_
        refine lv_aload_n hx hb dX8_search_42 rfl (lv_at hl 0 rfl) ?_
        refine va_get (D := D) (ci := 8) (v := .ref (mx 7)) (C := RX8) (T := TX8) (N := 16) hx hb hts tu_X8 hown hSt.1 hP 0 rfl rfl 8 (by decide) (hts _ t3_228) (fun _ h9 => h9) rfl dX8_search_43 ?_
        refine ro_V (As := [.ref (mx 7)]) (rest := []) (v := nI (costN wi ti dd g nt)) ⟨hx, hb, hml, hown, hts⟩ (c_X8_costOf_zo l D cI cZ cQ cJ mx w nz q d nt pr mw mt zo ke j_13 j_14 tr be ch (nI (as2 (nI 1) (bB (decide (cnt (fun u9 => !decide (zo u9 = -1)) nt = nt))))) wi ti dd g (by first | assumption | omega) (by first | assumption | omega) (by first | assumption | omega) (by first | assumption | omega) hwy9 hzo (fun t ht => gOK_aP haP t (by omega))) (gV t4_131 t4_133 t0_33 t1_10 t4_134) rfl rfl hd_X8_costOf ⟨Nat.le_of_ble_eq_true rfl, Nat.le_of_ble_eq_true rfl⟩ hP hSt (va_recv hSt.1 hP (ci := 8) (q0 := 0) rfl rfl) rfl hl.1 rfl (Nat.le_of_ble_eq_true rfl) dX8_search_46 (Nat.zero_le _) (Nat.zero_le _) ?_
        refine lv_istore_n (lv' := [(3, .int (nI (costN wi ti dd g nt))), (0, .ref (mx 0)), (1, .int (nI aa)), (2, .int (nI rr))]) hx hb dX8_search_49 rfl hl (by decide) rfl (fun ls hl => ?_)
        refine lv_iconst (v := nI 0) hx hb dX8_search_50 (by decide) ?_
        refine lv_istore (lv' := [(4, .int (nI 0)), (3, .int (nI (costN wi ti dd g nt))), (0, .ref (mx 0)), (1, .int (nI aa)), (2, .int (nI rr))]) hx hb dX8_search_51 hl (by decide) rfl (fun ls hl => ?_)
        have L53 : ∀ (n9 : Nat) (i : Nat) (b1 : Nat → Int32) (c1 : Nat → Int32), (i ≤ nt) → (∀ t, t < i → b1 t = zo t) → (∀ t, t < i → c1 t = -10) → (nt - i) < n9 → ∀ (H : Heap) (locs : List Loc), va_P D vwCl (wMo mx cI cZ w (nI nz) q d (nI nt) pr mw mt zo ke j_13 j_14 tr b1 c1 (nI (as2 (nI 1) (bB (decide (cnt (fun u9 => !decide (zo u9 = -1)) nt = nt)))))) H → va_D A (wMo mx cI cZ w (nI nz) q d (nI nt) pr mw mt zo ke j_13 j_14 tr b1 c1 (nI (as2 (nI 1) (bB (decide (cnt (fun u9 => !decide (zo u9 = -1)) nt = nt)))))) → va_S A s.heap H locs → ∀ (ls : Array Slot), lv_has ls 13 [(0, .ref (mx 0)), (1, .int (nI aa)), (2, .int (nI rr)), (3, .int (nI (costN wi ti dd g nt))), (4, .int (nI i))] → W p l e ({ frames := 5, cells := 0, slots := 0, locals := 112 } : Room) s m ([.ref (mx 0), .int (nI aa), .int (nI rr)] : List Value).toArray below meth c H locs 0 0 (MQ below (va_Qi (fun (r9 : Int32) (u9 : Int32 × Nat × (Nat → Int32) × (Nat → Int32) × (Nat → Int32) × (Nat → Int32) × (Nat → Int32) × (Nat → Int32) × (Nat → Nat)) => (r9 = u9.1) ∧ (sSearch nt nz n d wi ti dd g (nI aa) (nI rr) u9.2.1 u9.1 u9.2.2.2.2.2.2.2.2) ∧ (pOK nt u9.2.2.1 u9.2.2.2.2.2.2.2.2)) (rw_B D A (fun u9 : Int32 × Nat × (Nat → Int32) × (Nat → Int32) × (Nat → Int32) × (Nat → Int32) × (Nat → Int32) × (Nat → Int32) × (Nat → Nat) => wMo mx cI cZ w (nI nz) q d (nI nt) pr mw mt u9.2.2.1 ke u9.2.2.2.1 u9.2.2.2.2.1 u9.2.2.2.2.2.1 u9.2.2.2.2.2.2.1 u9.2.2.2.2.2.2.2.1 (nI u9.2.1))) A) ([.ref (mx 0), .int (nI aa), .int (nI rr)] : List Value).toArray s 0 0 A) (F0 m 53 ls []) := by
          intro n9
          induction n9 with
          | zero =>
            intro i b1 c1 hi hb1 hc1 hm
            exact absurd hm (by omega)
          | succ n9 ih =>
            intro i b1 c1 hi hb1 hc1 hm H locs hP hD hS ls hl
            have ih_L53 := ih
            refine lv_iload hx hb dX8_search_53 (lv_at hl 4 rfl) ?_
            refine lv_aload_n hx hb dX8_search_55 rfl (lv_at hl 0 rfl) ?_
            refine va_get (D := D) (ci := 8) (v := .int (nI nt)) (C := RX8) (T := TX8) (N := 16) hx hb hts tu_X8 hown hSt.1 hP 0 rfl rfl 4 (by decide) (hts _ t3_224) (fun _ h9 => h9) rfl dX8_search_56 ?_
            refine lv_icmp_ge (tgt := 91) hx hb dX8_search_59 (by decide) (fun c_17 => ?_) (fun c_17 => ?_)
            · have c_17 := z_le (by omega) (by omega) c_17
              have L429 : ∀ (k9 : Nat) (z9 : Nat → Int32) (b9 : Nat → Int32) (c9 : Nat → Int32) (tq9 : Nat → Int32), ((rn (fun g9 => costN wi ti dd g9 nt) (fun t9 z9 => n t9 ≤ d z9) nt nz rr g aa).2.2.2.1 = k9) → (pOK nt b9 (rn (fun g9 => costN wi ti dd g9 nt) (fun t9 z9 => n t9 ≤ d z9) nt nz rr g aa).2.2.2.2) → ∀ (H : Heap) (locs : List Loc), va_P D vwCl (wMo mx cI cZ w (nI nz) q d (nI nt) pr mw mt z9 ke j_13 j_14 tq9 b9 c9 (nI (as2 (nI 1) (bB (decide (cnt (fun u9 => !decide (zo u9 = -1)) nt = nt)))))) H → va_D A (wMo mx cI cZ w (nI nz) q d (nI nt) pr mw mt z9 ke j_13 j_14 tq9 b9 c9 (nI (as2 (nI 1) (bB (decide (cnt (fun u9 => !decide (zo u9 = -1)) nt = nt)))))) → va_S A s.heap H locs → ∀ (ls : Array Slot), lv_has ls 13 [(0, .ref (mx 0)), (3, .int (nI k9))] → W p l e ({ frames := 5, cells := 0, slots := 0, locals := 112 } : Room) s m ([.ref (mx 0), .int (nI aa), .int (nI rr)] : List Value).toArray below meth c H locs 0 0 (MQ below (va_Qi (fun (r9 : Int32) (u9 : Int32 × Nat × (Nat → Int32) × (Nat → Int32) × (Nat → Int32) × (Nat → Int32) × (Nat → Int32) × (Nat → Int32) × (Nat → Nat)) => (r9 = u9.1) ∧ (sSearch nt nz n d wi ti dd g (nI aa) (nI rr) u9.2.1 u9.1 u9.2.2.2.2.2.2.2.2) ∧ (pOK nt u9.2.2.1 u9.2.2.2.2.2.2.2.2)) (rw_B D A (fun u9 : Int32 × Nat × (Nat → Int32) × (Nat → Int32) × (Nat → Int32) × (Nat → Int32) × (Nat → Int32) × (Nat → Int32) × (Nat → Nat) => wMo mx cI cZ w (nI nz) q d (nI nt) pr mw mt u9.2.2.1 ke u9.2.2.2.1 u9.2.2.2.2.1 u9.2.2.2.2.2.1 u9.2.2.2.2.2.2.1 u9.2.2.2.2.2.2.2.1 (nI u9.2.1))) A) ([.ref (mx 0), .int (nI aa), .int (nI rr)] : List Value).toArray s 0 0 A) (F0 m 429 ls []) := by
                intro k9 z9 b9 c9 tq9 hk9 hb9 H locs hP hD hS ls hl
                refine lv_iconst (v := nI 0) hx hb dX8_search_429 (by decide) ?_
                refine lv_istore (lv' := [(5, .int (nI 0)), (0, .ref (mx 0)), (3, .int (nI k9))]) hx hb dX8_search_430 hl (by decide) rfl (fun ls hl => ?_)
                have L432 : ∀ (n9 : Nat) (i : Nat) (z8 : Nat → Int32), (i ≤ nt) → (∀ t, t < i → z8 t = b9 t) → (nt - i) < n9 → ∀ (H : Heap) (locs : List Loc), va_P D vwCl (wMo mx cI cZ w (nI nz) q d (nI nt) pr mw mt z8 ke j_13 j_14 tq9 b9 c9 (nI (as2 (nI 1) (bB (decide (cnt (fun u9 => !decide (zo u9 = -1)) nt = nt)))))) H → va_D A (wMo mx cI cZ w (nI nz) q d (nI nt) pr mw mt z8 ke j_13 j_14 tq9 b9 c9 (nI (as2 (nI 1) (bB (decide (cnt (fun u9 => !decide (zo u9 = -1)) nt = nt)))))) → va_S A s.heap H locs → ∀ (ls : Array Slot), lv_has ls 13 [(0, .ref (mx 0)), (3, .int (nI k9)), (5, .int (nI i))] → W p l e ({ frames := 5, cells := 0, slots := 0, locals := 112 } : Room) s m ([.ref (mx 0), .int (nI aa), .int (nI rr)] : List Value).toArray below meth c H locs 0 0 (MQ below (va_Qi (fun (r9 : Int32) (u9 : Int32 × Nat × (Nat → Int32) × (Nat → Int32) × (Nat → Int32) × (Nat → Int32) × (Nat → Int32) × (Nat → Int32) × (Nat → Nat)) => (r9 = u9.1) ∧ (sSearch nt nz n d wi ti dd g (nI aa) (nI rr) u9.2.1 u9.1 u9.2.2.2.2.2.2.2.2) ∧ (pOK nt u9.2.2.1 u9.2.2.2.2.2.2.2.2)) (rw_B D A (fun u9 : Int32 × Nat × (Nat → Int32) × (Nat → Int32) × (Nat → Int32) × (Nat → Int32) × (Nat → Int32) × (Nat → Int32) × (Nat → Nat) => wMo mx cI cZ w (nI nz) q d (nI nt) pr mw mt u9.2.2.1 ke u9.2.2.2.1 u9.2.2.2.2.1 u9.2.2.2.2.2.1 u9.2.2.2.2.2.2.1 u9.2.2.2.2.2.2.2.1 (nI u9.2.1))) A) ([.ref (mx 0), .int (nI aa), .int (nI rr)] : List Value).toArray s 0 0 A) (F0 m 432 ls []) := by
                  intro n9
                  induction n9 with
                  | zero =>
                    intro i z8 hi hz8 hm
                    exact absurd hm (by omega)
                  | succ n9 ih =>
                    intro i z8 hi hz8 hm H locs hP hD hS ls hl
                    have ih_L432 := ih
                    refine lv_iload hx hb dX8_search_432 (lv_at hl 2 rfl) ?_
                    refine lv_aload_n hx hb dX8_search_434 rfl (lv_at hl 0 rfl) ?_
                    refine va_get (D := D) (ci := 8) (v := .int (nI nt)) (C := RX8) (T := TX8) (N := 16) hx hb hts tu_X8 hown hSt.1 hP 0 rfl rfl 4 (by decide) (hts _ t3_224) (fun _ h9 => h9) rfl dX8_search_435 ?_
                    refine lv_icmp_ge (tgt := 461) hx hb dX8_search_438 (by decide) (fun c_18 => ?_) (fun c_18 => ?_)
                    · have c_18 := z_le (by omega) (by omega) c_18
                      refine lv_iload_n hx hb dX8_search_461 rfl (lv_at hl 1 rfl) ?_
                      have hP9 : va_P D vwCl (wMo mx cI cZ w (nI nz) q d (nI nt) pr mw mt z8 ke j_13 j_14 tq9 b9 c9 (nI (as2 (nI 1) (bB (decide (cnt (fun u9 => !decide (zo u9 = -1)) nt = nt)))))) H := hP
                      have hD9 : va_D A (wMo mx cI cZ w (nI nz) q d (nI nt) pr mw mt z8 ke j_13 j_14 tq9 b9 c9 (nI (as2 (nI 1) (bB (decide (cnt (fun u9 => !decide (zo u9 = -1)) nt = nt)))))) := hD
                      have g_19 : sSearch nt nz n d wi ti dd g (nI aa) (nI rr) (as2 (nI 1) (bB (decide (cnt (fun u9 => !decide (zo u9 = -1)) nt = nt)))) (nI k9) ((rn (fun g9 => costN wi ti dd g9 nt) (fun t9 z9 => n t9 ≤ d z9) nt nz rr g aa).2.2.2.2) := Or.inr (Or.inr ⟨⟨⟨aa, h1_aa, h2_aa, rfl⟩, ⟨rr, h1_rr, h2_rr, rfl⟩⟩, hall, c_12, by rw [nIc (by omega), nIc (by omega), hk9], by rw [nIc (by omega), nIc (by omega)]⟩)
                      have g_20 : pOK nt z8 ((rn (fun g9 => costN wi ti dd g9 nt) (fun t9 z9 => n t9 ≤ d z9) nt nz rr g aa).2.2.2.2) := fun t ht => by rw [hz8 t (by omega)]; exact hb9 t ht
                      exact W.iret (v := nI k9) hx hb hr (fun t9 ht9 hW9 => ⟨⟨nI k9, (nI k9, as2 (nI 1) (bB (decide (cnt (fun u9 => !decide (zo u9 = -1)) nt = nt))), z8, j_13, j_14, tq9, b9, c9, (rn (fun g9 => costN wi ti dd g9 nt) (fun t9 z9 => n t9 ≤ d z9) nt nz rr g aa).2.2.2.2), rfl, ⟨rfl, g_19, g_20⟩, by rw [ht9]; exact hP9, hD9⟩, hS.F ht9⟩) hS.2.2 dX8_search_462
                    · have c_18 := z_nle (by omega) (by omega) c_18
                      refine lv_aload_n hx hb dX8_search_441 rfl (lv_at hl 0 rfl) ?_
                      refine va_get (D := D) (ci := 8) (v := .ref (mx 7)) (C := RX8) (T := TX8) (N := 16) hx hb hts tu_X8 hown hSt.1 hP 0 rfl rfl 8 (by decide) (hts _ t3_228) (fun _ h9 => h9) rfl dX8_search_442 ?_
                      refine lv_iload hx hb dX8_search_445 (lv_at hl 2 rfl) ?_
                      refine lv_aload_n hx hb dX8_search_447 rfl (lv_at hl 0 rfl) ?_
                      refine va_get (D := D) (ci := 8) (v := .ref (mx 12)) (C := RX8) (T := TX8) (N := 16) hx hb hts tu_X8 hown hSt.1 hP 0 rfl rfl 13 (by decide) (hts _ t3_233) (fun _ h9 => h9) rfl dX8_search_448 ?_
                      refine lv_iload hx hb dX8_search_451 (lv_at hl 2 rfl) ?_
                      refine r_iald hx hb hSt.1 hP 12 0 rfl rfl (k := i) (by omega) (by omega) dX8_search_453 ?_
                      refine r_iast hx hb hSt.1 hP hD hS 7 0 rfl rfl (k := i) (by omega) (by omega) dX8_search_454 (fun H locs hP hD hS => ?_)
                      have hP : va_P D vwCl (wMo mx cI cZ w (nI nz) q d (nI nt) pr mw mt (upd z8 i (b9 i)) ke j_13 j_14 tq9 b9 c9 (nI (as2 (nI 1) (bB (decide (cnt (fun u9 => !decide (zo u9 = -1)) nt = nt)))))) H := hP
                      have hD : va_D A (wMo mx cI cZ w (nI nz) q d (nI nt) pr mw mt (upd z8 i (b9 i)) ke j_13 j_14 tq9 b9 c9 (nI (as2 (nI 1) (bB (decide (cnt (fun u9 => !decide (zo u9 = -1)) nt = nt)))))) := hD
                      refine lv_iinc (v := nI (i + 1)) (lv' := [(5, .int (nI (i + 1))), (0, .ref (mx 0)), (3, .int (nI k9))]) hx hb dX8_search_455 hl (k := 2) rfl (z_inc _) (by decide) rfl (fun ls hl => ?_)
                      refine lv_goto (tgt := 432) hx hb dX8_search_458 (by decide) ?_
                      exact ih_L432 (i + 1) (upd z8 i (b9 i)) (by omega) (fun t ht => if e : t = i then (by rw [e, pk_us]) else (by rw [pk_un e]; exact hz8 t (by omega))) (by omega) _ _ hP hD hS _ (lv_sub hl [1, 2, 0] rfl)
                exact L432 _ 0 z9 (by omega) (fun t ht => absurd ht (by omega)) (Nat.lt_succ_self _) _ _ hP hD hS _ (lv_sub hl [1, 2, 0] rfl)
              refine lv_iconst (v := nI 1) hx hb dX8_search_91 (by decide) ?_
              refine lv_istore (lv' := [(4, .int (nI 1)), (0, .ref (mx 0)), (1, .int (nI aa)), (2, .int (nI rr)), (3, .int (nI (costN wi ti dd g nt)))]) hx hb dX8_search_92 hl (by decide) rfl (fun ls hl => ?_)
              have hl : lv_has ls 13 [(4, .int (bB true)), (0, .ref (mx 0)), (1, .int (nI aa)), (2, .int (nI rr)), (3, .int (nI (costN wi ti dd g nt)))] := by exact hl
              refine lv_iconst (v := nI 1) hx hb dX8_search_94 (by decide) ?_
              refine lv_istore (lv' := [(5, .int (nI 1)), (4, .int (bB true)), (0, .ref (mx 0)), (1, .int (nI aa)), (2, .int (nI rr)), (3, .int (nI (costN wi ti dd g nt)))]) hx hb dX8_search_95 hl (by decide) rfl (fun ls hl => ?_)
              have L97 : ∀ (n9 : Nat) (s0 : Nat) (go : Bool) (g1 : Nat → Nat) (lc1 : Nat → Nat) (k1 : Nat) (bb : Nat → Nat) (z1 : Nat → Int32) (b1 : Nat → Int32) (c1 : Nat → Int32) (t1 : Nat → Int32), (s0 ≤ aa) → (rn (fun g9 => costN wi ti dd g9 nt) (fun t9 z9 => n t9 ≤ d z9) nt nz rr g s0 = (go, g1, lc1, k1, bb)) → (pOK nt z1 g1) → (pOK nt b1 bb) → (∀ t5, t5 < nt → c1 t5 = chI lc1 t5) → (∀ t, lc1 t ≤ s0) → (k1 ≤ 1000000) → (aa - s0) < n9 → ∀ (H : Heap) (locs : List Loc), va_P D vwCl (wMo mx cI cZ w (nI nz) q d (nI nt) pr mw mt z1 ke j_13 j_14 t1 b1 c1 (nI (as2 (nI 1) (bB (decide (cnt (fun u9 => !decide (zo u9 = -1)) nt = nt)))))) H → va_D A (wMo mx cI cZ w (nI nz) q d (nI nt) pr mw mt z1 ke j_13 j_14 t1 b1 c1 (nI (as2 (nI 1) (bB (decide (cnt (fun u9 => !decide (zo u9 = -1)) nt = nt)))))) → va_S A s.heap H locs → ∀ (ls : Array Slot), lv_has ls 13 [(0, .ref (mx 0)), (1, .int (nI aa)), (2, .int (nI rr)), (3, .int (nI k1)), (4, .int (bB go)), (5, .int (nI (s0 + 1)))] → W p l e ({ frames := 5, cells := 0, slots := 0, locals := 112 } : Room) s m ([.ref (mx 0), .int (nI aa), .int (nI rr)] : List Value).toArray below meth c H locs 0 0 (MQ below (va_Qi (fun (r9 : Int32) (u9 : Int32 × Nat × (Nat → Int32) × (Nat → Int32) × (Nat → Int32) × (Nat → Int32) × (Nat → Int32) × (Nat → Int32) × (Nat → Nat)) => (r9 = u9.1) ∧ (sSearch nt nz n d wi ti dd g (nI aa) (nI rr) u9.2.1 u9.1 u9.2.2.2.2.2.2.2.2) ∧ (pOK nt u9.2.2.1 u9.2.2.2.2.2.2.2.2)) (rw_B D A (fun u9 : Int32 × Nat × (Nat → Int32) × (Nat → Int32) × (Nat → Int32) × (Nat → Int32) × (Nat → Int32) × (Nat → Int32) × (Nat → Nat) => wMo mx cI cZ w (nI nz) q d (nI nt) pr mw mt u9.2.2.1 ke u9.2.2.2.1 u9.2.2.2.2.1 u9.2.2.2.2.2.1 u9.2.2.2.2.2.2.1 u9.2.2.2.2.2.2.2.1 (nI u9.2.1))) A) ([.ref (mx 0), .int (nI aa), .int (nI rr)] : List Value).toArray s 0 0 A) (F0 m 97 ls []) := by
                intro n9
                induction n9 with
                | zero =>
                  intro s0 go g1 lc1 k1 bb z1 b1 c1 t1 hs0 hrn hz1 hb1 hc1 hl1 hk1 hm
                  exact absurd hm (by omega)
                | succ n9 ih =>
                  intro s0 go g1 lc1 k1 bb z1 b1 c1 t1 hs0 hrn hz1 hb1 hc1 hl1 hk1 hm H locs hP hD hS ls hl
                  have ih_L97 := ih
                  refine lv_iload hx hb dX8_search_97 (lv_at hl 5 rfl) ?_
                  refine lv_iload_n hx hb dX8_search_99 rfl (lv_at hl 1 rfl) ?_
                  refine lv_icmp_gt (tgt := 429) hx hb dX8_search_100 (by decide) (fun c_21 => ?_) (fun c_21 => ?_)
                  · have c_21 := z_lt (by omega) (by omega) c_21
                    exact L429 k1 z1 b1 c1 t1 (by rw [← show s0 = aa by omega, hrn]) (by rw [← show s0 = aa by omega, hrn]; exact hb1) _ _ hP hD hS _ (lv_sub hl [0, 3] rfl)
                  · have c_21 := z_nlt (by omega) (by omega) c_21
                    refine lv_iload hx hb dX8_search_103 (lv_at hl 4 rfl) ?_
                    refine lv_if_eq (tgt := 429) hx hb dX8_search_105 (by decide) (fun c_22 => ?_) (fun c_22 => ?_)
                    · exact L429 k1 z1 b1 c1 t1 (by rw [rn_stop (S := (g1, lc1, k1, bb)) (by rw [hrn, bB_0 c_22]) aa (by omega)]) (by rw [rn_stop (S := (g1, lc1, k1, bb)) (by rw [hrn, bB_0 c_22]) aa (by omega)]; exact hb1) _ _ hP hD hS _ (lv_sub hl [0, 3] rfl)
                    · have hgo := bB_1 c_22
                      subst hgo
                      have haP1 := rn_g haP hnt hrn
                      have hvg1 := vG_aP haP1
                      refine lv_iconst (v := (-1 : Int32)) hx hb dX8_search_108 (by decide) ?_
                      refine lv_istore (lv' := [(6, .int (-1 : Int32)), (0, .ref (mx 0)), (1, .int (nI aa)), (2, .int (nI rr)), (3, .int (nI k1)), (4, .int (bB true)), (5, .int (nI (s0 + 1)))]) hx hb dX8_search_109 hl (by decide) rfl (fun ls hl => ?_)
                      refine lv_iconst (v := (-1 : Int32)) hx hb dX8_search_111 (by decide) ?_
                      refine lv_istore (lv' := [(7, .int (-1 : Int32)), (6, .int (-1 : Int32)), (0, .ref (mx 0)), (1, .int (nI aa)), (2, .int (nI rr)), (3, .int (nI k1)), (4, .int (bB true)), (5, .int (nI (s0 + 1)))]) hx hb dX8_search_112 hl (by decide) rfl (fun ls hl => ?_)
                      refine lv_iconst (v := (-1 : Int32)) hx hb dX8_search_114 (by decide) ?_
                      refine lv_istore (lv' := [(8, .int (-1 : Int32)), (7, .int (-1 : Int32)), (6, .int (-1 : Int32)), (0, .ref (mx 0)), (1, .int (nI aa)), (2, .int (nI rr)), (3, .int (nI k1)), (4, .int (bB true)), (5, .int (nI (s0 + 1)))]) hx hb dX8_search_115 hl (by decide) rfl (fun ls hl => ?_)
                      refine lv_iconst (v := (-1 : Int32)) hx hb dX8_search_117 (by decide) ?_
                      refine lv_istore (lv' := [(9, .int (-1 : Int32)), (8, .int (-1 : Int32)), (7, .int (-1 : Int32)), (6, .int (-1 : Int32)), (0, .ref (mx 0)), (1, .int (nI aa)), (2, .int (nI rr)), (3, .int (nI k1)), (4, .int (bB true)), (5, .int (nI (s0 + 1)))]) hx hb dX8_search_118 hl (by decide) rfl (fun ls hl => ?_)
                      refine lv_iconst (v := nI 0) hx hb dX8_search_120 (by decide) ?_
                      refine lv_istore (lv' := [(10, .int (nI 0)), (9, .int (-1 : Int32)), (8, .int (-1 : Int32)), (7, .int (-1 : Int32)), (6, .int (-1 : Int32)), (0, .ref (mx 0)), (1, .int (nI aa)), (2, .int (nI rr)), (3, .int (nI k1)), (4, .int (bB true)), (5, .int (nI (s0 + 1)))]) hx hb dX8_search_121 hl (by decide) rfl (fun ls hl => ?_)
                      have L123 : ∀ (n9 : Nat) (a : Nat) (x6 : Int32) (x7 : Int32) (x8 : Int32) (x9 : Int32) (t2 : Nat → Int32), (a ≤ nt) → (chV (chE (fun g9 => costN wi ti dd g9 nt) (fun t9 z9 => n t9 ≤ d z9) nt g1 lc1 rr (s0 + 1) a) x6 x7 x8 x9) → (nt - a) < n9 → ∀ (H : Heap) (locs : List Loc), va_P D vwCl (wMo mx cI cZ w (nI nz) q d (nI nt) pr mw mt z1 ke j_13 j_14 t2 b1 c1 (nI (as2 (nI 1) (bB (decide (cnt (fun u9 => !decide (zo u9 = -1)) nt = nt)))))) H → va_D A (wMo mx cI cZ w (nI nz) q d (nI nt) pr mw mt z1 ke j_13 j_14 t2 b1 c1 (nI (as2 (nI 1) (bB (decide (cnt (fun u9 => !decide (zo u9 = -1)) nt = nt)))))) → va_S A s.heap H locs → ∀ (ls : Array Slot), lv_has ls 13 [(0, .ref (mx 0)), (1, .int (nI aa)), (2, .int (nI rr)), (3, .int (nI k1)), (4, .int (bB true)), (5, .int (nI (s0 + 1))), (6, .int x6), (7, .int x7), (8, .int x8), (9, .int x9), (10, .int (nI a))] → W p l e ({ frames := 5, cells := 0, slots := 0, locals := 112 } : Room) s m ([.ref (mx 0), .int (nI aa), .int (nI rr)] : List Value).toArray below meth c H locs 0 0 (MQ below (va_Qi (fun (r9 : Int32) (u9 : Int32 × Nat × (Nat → Int32) × (Nat → Int32) × (Nat → Int32) × (Nat → Int32) × (Nat → Int32) × (Nat → Int32) × (Nat → Nat)) => (r9 = u9.1) ∧ (sSearch nt nz n d wi ti dd g (nI aa) (nI rr) u9.2.1 u9.1 u9.2.2.2.2.2.2.2.2) ∧ (pOK nt u9.2.2.1 u9.2.2.2.2.2.2.2.2)) (rw_B D A (fun u9 : Int32 × Nat × (Nat → Int32) × (Nat → Int32) × (Nat → Int32) × (Nat → Int32) × (Nat → Int32) × (Nat → Int32) × (Nat → Nat) => wMo mx cI cZ w (nI nz) q d (nI nt) pr mw mt u9.2.2.1 ke u9.2.2.2.1 u9.2.2.2.2.1 u9.2.2.2.2.2.1 u9.2.2.2.2.2.2.1 u9.2.2.2.2.2.2.2.1 (nI u9.2.1))) A) ([.ref (mx 0), .int (nI aa), .int (nI rr)] : List Value).toArray s 0 0 A) (F0 m 123 ls []) := by
                        intro n9
                        induction n9 with
                        | zero =>
                          intro a x6 x7 x8 x9 t2 ha hcv hm
                          exact absurd hm (by omega)
                        | succ n9 ih =>
                          intro a x6 x7 x8 x9 t2 ha hcv hm H locs hP hD hS ls hl
                          have ih_L123 := ih
                          refine lv_iload hx hb dX8_search_123 (lv_at hl 10 rfl) ?_
                          refine lv_aload_n hx hb dX8_search_125 rfl (lv_at hl 0 rfl) ?_
                          refine va_get (D := D) (ci := 8) (v := .int (nI nt)) (C := RX8) (T := TX8) (N := 16) hx hb hts tu_X8 hown hSt.1 hP 0 rfl rfl 4 (by decide) (hts _ t3_224) (fun _ h9 => h9) rfl dX8_search_126 ?_
                          refine lv_icmp_ge (tgt := 219) hx hb dX8_search_129 (by decide) (fun c_23 => ?_) (fun c_23 => ?_)
                          · have c_23 := z_le (by omega) (by omega) c_23
                            refine lv_iconst (v := nI 0) hx hb dX8_search_219 (by decide) ?_
                            refine lv_istore (lv' := [(10, .int (nI 0)), (0, .ref (mx 0)), (1, .int (nI aa)), (2, .int (nI rr)), (3, .int (nI k1)), (4, .int (bB true)), (5, .int (nI (s0 + 1))), (6, .int x6), (7, .int x7), (8, .int x8), (9, .int x9)]) hx hb dX8_search_220 hl (by decide) rfl (fun ls hl => ?_)
                            have L222 : ∀ (n9 : Nat) (a : Nat) (x6 : Int32) (x7 : Int32) (x8 : Int32) (x9 : Int32) (t2 : Nat → Int32), (a ≤ nt) → (chV (chM (fun g9 => costN wi ti dd g9 nt) (fun t9 z9 => n t9 ≤ d z9) nt nz g1 lc1 rr (s0 + 1) a) x6 x7 x8 x9) → (nt - a) < n9 → ∀ (H : Heap) (locs : List Loc), va_P D vwCl (wMo mx cI cZ w (nI nz) q d (nI nt) pr mw mt z1 ke j_13 j_14 t2 b1 c1 (nI (as2 (nI 1) (bB (decide (cnt (fun u9 => !decide (zo u9 = -1)) nt = nt)))))) H → va_D A (wMo mx cI cZ w (nI nz) q d (nI nt) pr mw mt z1 ke j_13 j_14 t2 b1 c1 (nI (as2 (nI 1) (bB (decide (cnt (fun u9 => !decide (zo u9 = -1)) nt = nt)))))) → va_S A s.heap H locs → ∀ (ls : Array Slot), lv_has ls 13 [(0, .ref (mx 0)), (1, .int (nI aa)), (2, .int (nI rr)), (3, .int (nI k1)), (4, .int (bB true)), (5, .int (nI (s0 + 1))), (6, .int x6), (7, .int x7), (8, .int x8), (9, .int x9), (10, .int (nI a))] → W p l e ({ frames := 5, cells := 0, slots := 0, locals := 112 } : Room) s m ([.ref (mx 0), .int (nI aa), .int (nI rr)] : List Value).toArray below meth c H locs 0 0 (MQ below (va_Qi (fun (r9 : Int32) (u9 : Int32 × Nat × (Nat → Int32) × (Nat → Int32) × (Nat → Int32) × (Nat → Int32) × (Nat → Int32) × (Nat → Int32) × (Nat → Nat)) => (r9 = u9.1) ∧ (sSearch nt nz n d wi ti dd g (nI aa) (nI rr) u9.2.1 u9.1 u9.2.2.2.2.2.2.2.2) ∧ (pOK nt u9.2.2.1 u9.2.2.2.2.2.2.2.2)) (rw_B D A (fun u9 : Int32 × Nat × (Nat → Int32) × (Nat → Int32) × (Nat → Int32) × (Nat → Int32) × (Nat → Int32) × (Nat → Int32) × (Nat → Nat) => wMo mx cI cZ w (nI nz) q d (nI nt) pr mw mt u9.2.2.1 ke u9.2.2.2.1 u9.2.2.2.2.1 u9.2.2.2.2.2.1 u9.2.2.2.2.2.2.1 u9.2.2.2.2.2.2.2.1 (nI u9.2.1))) A) ([.ref (mx 0), .int (nI aa), .int (nI rr)] : List Value).toArray s 0 0 A) (F0 m 222 ls []) := by
                              intro n9
                              induction n9 with
                              | zero =>
                                intro a x6 x7 x8 x9 t2 ha hcv hm
                                exact absurd hm (by omega)
                              | succ n9 ih =>
                                intro a x6 x7 x8 x9 t2 ha hcv hm H locs hP hD hS ls hl
                                have ih_L222 := ih
                                refine lv_iload hx hb dX8_search_222 (lv_at hl 10 rfl) ?_
                                refine lv_aload_n hx hb dX8_search_224 rfl (lv_at hl 0 rfl) ?_
                                refine va_get (D := D) (ci := 8) (v := .int (nI nt)) (C := RX8) (T := TX8) (N := 16) hx hb hts tu_X8 hown hSt.1 hP 0 rfl rfl 4 (by decide) (hts _ t3_224) (fun _ h9 => h9) rfl dX8_search_225 ?_
                                refine lv_icmp_ge (tgt := 303) hx hb dX8_search_228 (by decide) (fun c_24 => ?_) (fun c_24 => ?_)
                                · have c_24 := z_le (by omega) (by omega) c_24
                                  refine lv_iload hx hb dX8_search_303 (lv_at hl 6 rfl) ?_
                                  refine lv_iconst (v := (-1 : Int32)) hx hb dX8_search_305 (by decide) ?_
                                  refine lv_icmp_eq (tgt := 313) hx hb dX8_search_306 (by decide) (fun c_25 => ?_) (fun c_25 => ?_)
                                  · have hno : ¬ (chs (fun g9 => costN wi ti dd g9 nt) (fun t9 z9 => n t9 ≤ d z9) nt nz g1 lc1 rr (s0 + 1)).1 < 1000000 := fun q9 => by have e9 : a = nt := (by omega); rw [e9] at hcv; have h7 := lI_none (hcv.1.symm.trans c_25); exact absurd (show (chM (fun g9 => costN wi ti dd g9 nt) (fun t9 z9 => n t9 ≤ d z9) nt nz g1 lc1 rr (s0 + 1) nt).1 < 1000000 from q9) (by omega)
                                    refine lv_iconst (v := nI 0) hx hb dX8_search_313 (by decide) ?_
                                    refine lv_istore (lv' := [(4, .int (nI 0)), (0, .ref (mx 0)), (1, .int (nI aa)), (2, .int (nI rr)), (3, .int (nI k1)), (5, .int (nI (s0 + 1))), (6, .int x6), (7, .int x7), (8, .int x8), (9, .int x9), (10, .int (nI a))]) hx hb dX8_search_314 hl (by decide) rfl (fun ls hl => ?_)
                                    refine lv_iload hx hb dX8_search_316 (lv_at hl 0 rfl) ?_
                                    refine lv_if_eq (tgt := 423) hx hb dX8_search_318 (by decide) (fun c_26 => ?_) (fun c_26 => ?_)
                                    · have hl : lv_has ls 13 [(4, .int (bB false)), (0, .ref (mx 0)), (1, .int (nI aa)), (2, .int (nI rr)), (3, .int (nI k1)), (5, .int (nI (s0 + 1))), (6, .int x6), (7, .int x7), (8, .int x8), (9, .int x9), (10, .int (nI a))] := by exact hl
                                      refine lv_iinc (v := nI (s0 + 1 + 1)) (lv' := [(5, .int (nI (s0 + 1 + 1))), (4, .int (bB false)), (0, .ref (mx 0)), (1, .int (nI aa)), (2, .int (nI rr)), (3, .int (nI k1)), (6, .int x6), (7, .int x7), (8, .int x8), (9, .int x9), (10, .int (nI a))]) hx hb dX8_search_423 hl (k := 5) rfl (z_inc _) (by decide) rfl (fun ls hl => ?_)
                                      refine lv_goto (tgt := 97) hx hb dX8_search_426 (by decide) ?_
                                      exact ih_L97 (s0 + 1) false g1 lc1 k1 bb z1 b1 c1 t2 (by omega) (rn_halt hrn hno) hz1 hb1 hc1 (fun t => by have h7 := hl1 t; omega) hk1 (by omega) _ _ hP hD hS _ (lv_sub hl [2, 3, 4, 5, 1, 0] rfl)
                                    · exact absurd c_26 (by decide)
                                  · have e9 : a = nt := by omega
                                    rw [e9] at hcv
                                    obtain ⟨c4, hc4⟩ : ∃ c4, chs (fun g9 => costN wi ti dd g9 nt) (fun t9 z9 => n t9 ≤ d z9) nt nz g1 lc1 rr (s0 + 1) = c4 := ⟨_, rfl⟩
                                    have hcv9 : chV (chs (fun g9 => costN wi ti dd g9 nt) (fun t9 z9 => n t9 ≤ d z9) nt nz g1 lc1 rr (s0 + 1)) x6 x7 x8 x9 := hcv
                                    rw [hc4] at hcv9
                                    have hf1 : c4.1 < 1000000 := lI_some (fun q9 => c_25 (hcv9.1.trans q9))
                                    have hci := chs_is haP1 hnt (by rw [hc4]; exact hf1)
                                    rw [hc4] at hci
                                    obtain ⟨e7, e8, e9x⟩ := hcv9.2.2 hf1
                                    have ht9 := hci.2.1
                                    have hto9 : c4.2.2.2 < 7 := by rcases hci.2.2 with q9 | q9; (have h7 := aP_lt haP1 q9.1; omega); omega
                                    refine lv_iconst (v := nI 1) hx hb dX8_search_309 (by decide) ?_
                                    refine lv_goto (tgt := 314) hx hb dX8_search_310 (by decide) ?_
                                    refine lv_istore (lv' := [(4, .int (nI 1)), (0, .ref (mx 0)), (1, .int (nI aa)), (2, .int (nI rr)), (3, .int (nI k1)), (5, .int (nI (s0 + 1))), (6, .int x6), (7, .int x7), (8, .int x8), (9, .int x9), (10, .int (nI a))]) hx hb dX8_search_314 hl (by decide) rfl (fun ls hl => ?_)
                                    refine lv_iload hx hb dX8_search_316 (lv_at hl 0 rfl) ?_
                                    refine lv_if_eq (tgt := 423) hx hb dX8_search_318 (by decide) (fun c_27 => ?_) (fun c_27 => ?_)
                                    · exact absurd c_27 (by decide)
                                    · refine lv_aload_n hx hb dX8_search_321 rfl (lv_at hl 1 rfl) ?_
                                      refine va_get (D := D) (ci := 8) (v := .ref (mx 7)) (C := RX8) (T := TX8) (N := 16) hx hb hts tu_X8 hown hSt.1 hP 0 rfl rfl 8 (by decide) (hts _ t3_228) (fun _ h9 => h9) rfl dX8_search_322 ?_
                                      refine lv_iload hx hb dX8_search_325 (lv_at hl 7 rfl) ?_
                                      refine lv_as (y := nI c4.2.1) (e7) ?_
                                      refine r_iald hx hb hSt.1 hP 7 0 rfl rfl (k := c4.2.1) (by omega) (by omega) dX8_search_327 ?_
                                      refine lv_istore (lv' := [(10, .int (z1 c4.2.1)), (4, .int (nI 1)), (0, .ref (mx 0)), (1, .int (nI aa)), (2, .int (nI rr)), (3, .int (nI k1)), (5, .int (nI (s0 + 1))), (6, .int x6), (7, .int x7), (8, .int x8), (9, .int x9)]) hx hb dX8_search_328 hl (by decide) rfl (fun ls hl => ?_)
                                      refine lv_aload_n hx hb dX8_search_330 rfl (lv_at hl 2 rfl) ?_
                                      refine va_get (D := D) (ci := 8) (v := .ref (mx 7)) (C := RX8) (T := TX8) (N := 16) hx hb hts tu_X8 hown hSt.1 hP 0 rfl rfl 8 (by decide) (hts _ t3_228) (fun _ h9 => h9) rfl dX8_search_331 ?_
                                      refine lv_iload hx hb dX8_search_334 (lv_at hl 8 rfl) ?_
                                      refine lv_as (y := nI c4.2.1) (e7) ?_
                                      refine lv_iload hx hb dX8_search_336 (lv_at hl 10 rfl) ?_
                                      refine lv_as (y := nI c4.2.2.2) (e9x) ?_
                                      refine r_iast hx hb hSt.1 hP hD hS 7 0 rfl rfl (k := c4.2.1) (by omega) (by omega) dX8_search_338 (fun H locs hP hD hS => ?_)
                                      have hP : va_P D vwCl (wMo mx cI cZ w (nI nz) q d (nI nt) pr mw mt (upd z1 c4.2.1 (nI c4.2.2.2)) ke j_13 j_14 t2 b1 c1 (nI (as2 (nI 1) (bB (decide (cnt (fun u9 => !decide (zo u9 = -1)) nt = nt)))))) H := hP
                                      have hD : va_D A (wMo mx cI cZ w (nI nz) q d (nI nt) pr mw mt (upd z1 c4.2.1 (nI c4.2.2.2)) ke j_13 j_14 t2 b1 c1 (nI (as2 (nI 1) (bB (decide (cnt (fun u9 => !decide (zo u9 = -1)) nt = nt)))))) := hD
                                      refine lv_aload_n hx hb dX8_search_339 rfl (lv_at hl 2 rfl) ?_
                                      refine va_get (D := D) (ci := 8) (v := .ref (mx 13)) (C := RX8) (T := TX8) (N := 16) hx hb hts tu_X8 hown hSt.1 hP 0 rfl rfl 14 (by decide) (hts _ t3_234) (fun _ h9 => h9) rfl dX8_search_340 ?_
                                      refine lv_iload hx hb dX8_search_343 (lv_at hl 8 rfl) ?_
                                      refine lv_as (y := nI c4.2.1) (e7) ?_
                                      refine lv_iload hx hb dX8_search_345 (lv_at hl 6 rfl) ?_
                                      refine r_iast hx hb hSt.1 hP hD hS 13 0 rfl rfl (k := c4.2.1) (by omega) (by omega) dX8_search_347 (fun H locs hP hD hS => ?_)
                                      have hP : va_P D vwCl (wMo mx cI cZ w (nI nz) q d (nI nt) pr mw mt (upd z1 c4.2.1 (nI c4.2.2.2)) ke j_13 j_14 t2 b1 (upd c1 c4.2.1 (nI (s0 + 1))) (nI (as2 (nI 1) (bB (decide (cnt (fun u9 => !decide (zo u9 = -1)) nt = nt)))))) H := hP
                                      have hD : va_D A (wMo mx cI cZ w (nI nz) q d (nI nt) pr mw mt (upd z1 c4.2.1 (nI c4.2.2.2)) ke j_13 j_14 t2 b1 (upd c1 c4.2.1 (nI (s0 + 1))) (nI (as2 (nI 1) (bB (decide (cnt (fun u9 => !decide (zo u9 = -1)) nt = nt)))))) := hD
                                      refine lv_iload hx hb dX8_search_348 (lv_at hl 9 rfl) ?_
                                      refine lv_iconst (v := (-1 : Int32)) hx hb dX8_search_350 (by decide) ?_
                                      refine lv_icmp_eq (tgt := 372) hx hb dX8_search_351 (by decide) (fun c_28 => ?_) (fun c_28 => ?_)
                                      · have h77 : 7 ≤ c4.2.2.1 := zI_none (e8.symm.trans c_28)
                                        have hz3 : pOK nt (upd z1 c4.2.1 (nI c4.2.2.2)) (nxg c4 g1) := by rw [nxg, if_neg (by omega)]; exact zo_mv hz1 hto9
                                        refine lv_iconst (v := nI 0) hx hb dX8_search_372 (by decide) ?_
                                        refine lv_istore (lv' := [(11, .int (nI 0)), (10, .int (z1 c4.2.1)), (4, .int (nI 1)), (0, .ref (mx 0)), (1, .int (nI aa)), (2, .int (nI rr)), (3, .int (nI k1)), (5, .int (nI (s0 + 1))), (6, .int x6), (7, .int x7), (8, .int x8), (9, .int x9)]) hx hb dX8_search_373 hl (by decide) rfl (fun ls hl => ?_)
                                        have L375 : ∀ (n9 : Nat) (j : Nat) (b3 : Nat → Int32), (j ≤ nt) → ((c4.1 < k1 → ∀ i, i < j → b3 i = (upd z1 c4.2.1 (nI c4.2.2.2)) i) ∧ (k1 ≤ c4.1 → b3 = b1)) → (nt - j) < n9 → ∀ (H : Heap) (locs : List Loc), va_P D vwCl (wMo mx cI cZ w (nI nz) q d (nI nt) pr mw mt (upd z1 c4.2.1 (nI c4.2.2.2)) ke j_13 j_14 t2 b3 (upd c1 c4.2.1 (nI (s0 + 1))) (nI (as2 (nI 1) (bB (decide (cnt (fun u9 => !decide (zo u9 = -1)) nt = nt)))))) H → va_D A (wMo mx cI cZ w (nI nz) q d (nI nt) pr mw mt (upd z1 c4.2.1 (nI c4.2.2.2)) ke j_13 j_14 t2 b3 (upd c1 c4.2.1 (nI (s0 + 1))) (nI (as2 (nI 1) (bB (decide (cnt (fun u9 => !decide (zo u9 = -1)) nt = nt)))))) → va_S A s.heap H locs → ∀ (ls : Array Slot), lv_has ls 13 [(0, .ref (mx 0)), (1, .int (nI aa)), (2, .int (nI rr)), (3, .int (nI k1)), (4, .int (nI 1)), (5, .int (nI (s0 + 1))), (6, .int x6), (11, .int (nI j))] → W p l e ({ frames := 5, cells := 0, slots := 0, locals := 112 } : Room) s m ([.ref (mx 0), .int (nI aa), .int (nI rr)] : List Value).toArray below meth c H locs 0 0 (MQ below (va_Qi (fun (r9 : Int32) (u9 : Int32 × Nat × (Nat → Int32) × (Nat → Int32) × (Nat → Int32) × (Nat → Int32) × (Nat → Int32) × (Nat → Int32) × (Nat → Nat)) => (r9 = u9.1) ∧ (sSearch nt nz n d wi ti dd g (nI aa) (nI rr) u9.2.1 u9.1 u9.2.2.2.2.2.2.2.2) ∧ (pOK nt u9.2.2.1 u9.2.2.2.2.2.2.2.2)) (rw_B D A (fun u9 : Int32 × Nat × (Nat → Int32) × (Nat → Int32) × (Nat → Int32) × (Nat → Int32) × (Nat → Int32) × (Nat → Int32) × (Nat → Nat) => wMo mx cI cZ w (nI nz) q d (nI nt) pr mw mt u9.2.2.1 ke u9.2.2.2.1 u9.2.2.2.2.1 u9.2.2.2.2.2.1 u9.2.2.2.2.2.2.1 u9.2.2.2.2.2.2.2.1 (nI u9.2.1))) A) ([.ref (mx 0), .int (nI aa), .int (nI rr)] : List Value).toArray s 0 0 A) (F0 m 375 ls []) := by
                                          intro n9
                                          induction n9 with
                                          | zero =>
                                            intro j b3 hj hb3 hm
                                            exact absurd hm (by omega)
                                          | succ n9 ih =>
                                            intro j b3 hj hb3 hm H locs hP hD hS ls hl
                                            have ih_L375 := ih
                                            refine lv_iload hx hb dX8_search_375 (lv_at hl 7 rfl) ?_
                                            refine lv_aload_n hx hb dX8_search_377 rfl (lv_at hl 0 rfl) ?_
                                            refine va_get (D := D) (ci := 8) (v := .int (nI nt)) (C := RX8) (T := TX8) (N := 16) hx hb hts tu_X8 hown hSt.1 hP 0 rfl rfl 4 (by decide) (hts _ t3_224) (fun _ h9 => h9) rfl dX8_search_378 ?_
                                            refine lv_icmp_ge (tgt := 410) hx hb dX8_search_381 (by decide) (fun c_29 => ?_) (fun c_29 => ?_)
                                            · have c_29 := z_le (by omega) (by omega) c_29
                                              have hb3 : (c4.1 < k1 → ∀ i, i < nt → b3 i = (upd z1 c4.2.1 (nI c4.2.2.2)) i) ∧ (k1 ≤ c4.1 → b3 = b1) := ⟨fun q9 i hi => hb3.1 q9 i (by omega), hb3.2⟩
                                              refine lv_iload hx hb dX8_search_410 (lv_at hl 6 rfl) ?_
                                              refine lv_as (y := nI c4.1) (hcv9.1.trans (lI_lt hf1)) ?_
                                              refine lv_iload_n hx hb dX8_search_412 rfl (lv_at hl 3 rfl) ?_
                                              refine lv_icmp_ge (tgt := 421) hx hb dX8_search_413 (by decide) (fun c_30 => ?_) (fun c_30 => ?_)
                                              · have c_30 := z_le (by omega) (by omega) c_30
                                                refine lv_iload_n hx hb dX8_search_421 rfl (lv_at hl 3 rfl) ?_
                                                refine lv_istore_n (lv' := [(3, .int (nI k1)), (0, .ref (mx 0)), (1, .int (nI aa)), (2, .int (nI rr)), (4, .int (nI 1)), (5, .int (nI (s0 + 1))), (6, .int x6), (11, .int (nI j))]) hx hb dX8_search_422 rfl hl (by decide) rfl (fun ls hl => ?_)
                                                have hl : lv_has ls 13 [(3, .int (nI k1)), (0, .ref (mx 0)), (1, .int (nI aa)), (2, .int (nI rr)), (4, .int (bB true)), (5, .int (nI (s0 + 1))), (6, .int x6), (11, .int (nI j))] := by exact hl
                                                refine lv_iinc (v := nI (s0 + 1 + 1)) (lv' := [(5, .int (nI (s0 + 1 + 1))), (3, .int (nI k1)), (0, .ref (mx 0)), (1, .int (nI aa)), (2, .int (nI rr)), (4, .int (bB true)), (6, .int x6), (11, .int (nI j))]) hx hb dX8_search_423 hl (k := 5) rfl (z_inc _) (by decide) rfl (fun ls hl => ?_)
                                                refine lv_goto (tgt := 97) hx hb dX8_search_426 (by decide) ?_
                                                exact ih_L97 (s0 + 1) true (nxg c4 g1) (nxl c4 lc1 (s0 + 1)) k1 bb (upd z1 c4.2.1 (nI c4.2.2.2)) b3 (upd c1 c4.2.1 (nI (s0 + 1))) t2 (by omega) (rn_more hrn hc4 hf1 (by omega)) hz3 (by rw [hb3.2 c_30]; exact hb1) (by rw [nxl, if_neg (by omega)]; exact ch_mv hc1 (by omega)) (nxl_le hl1) hk1 (by omega) _ _ hP hD hS _ (lv_sub hl [2, 3, 4, 1, 5, 0] rfl)
                                              · have c_30 := z_nle (by omega) (by omega) c_30
                                                refine lv_iload hx hb dX8_search_416 (lv_at hl 6 rfl) ?_
                                                refine lv_as (y := nI c4.1) (hcv9.1.trans (lI_lt hf1)) ?_
                                                refine lv_goto (tgt := 422) hx hb dX8_search_418 (by decide) ?_
                                                refine lv_istore_n (lv' := [(3, .int (nI c4.1)), (0, .ref (mx 0)), (1, .int (nI aa)), (2, .int (nI rr)), (4, .int (nI 1)), (5, .int (nI (s0 + 1))), (6, .int x6), (11, .int (nI j))]) hx hb dX8_search_422 rfl hl (by decide) rfl (fun ls hl => ?_)
                                                have hl : lv_has ls 13 [(3, .int (nI c4.1)), (0, .ref (mx 0)), (1, .int (nI aa)), (2, .int (nI rr)), (4, .int (bB true)), (5, .int (nI (s0 + 1))), (6, .int x6), (11, .int (nI j))] := by exact hl
                                                refine lv_iinc (v := nI (s0 + 1 + 1)) (lv' := [(5, .int (nI (s0 + 1 + 1))), (3, .int (nI c4.1)), (0, .ref (mx 0)), (1, .int (nI aa)), (2, .int (nI rr)), (4, .int (bB true)), (6, .int x6), (11, .int (nI j))]) hx hb dX8_search_423 hl (k := 5) rfl (z_inc _) (by decide) rfl (fun ls hl => ?_)
                                                refine lv_goto (tgt := 97) hx hb dX8_search_426 (by decide) ?_
                                                exact ih_L97 (s0 + 1) true (nxg c4 g1) (nxl c4 lc1 (s0 + 1)) c4.1 (nxg c4 g1) (upd z1 c4.2.1 (nI c4.2.2.2)) b3 (upd c1 c4.2.1 (nI (s0 + 1))) t2 (by omega) (rn_less hrn hc4 hf1 c_30) hz3 (fun t ht => by rw [hb3.1 c_30 t (by omega)]; exact hz3 t ht) (by rw [nxl, if_neg (by omega)]; exact ch_mv hc1 (by omega)) (nxl_le hl1) (by omega) (by omega) _ _ hP hD hS _ (lv_sub hl [2, 3, 4, 1, 5, 0] rfl)
                                            · have c_29 := z_nle (by omega) (by omega) c_29
                                              refine lv_iload hx hb dX8_search_384 (lv_at hl 6 rfl) ?_
                                              refine lv_as (y := nI c4.1) (hcv9.1.trans (lI_lt hf1)) ?_
                                              refine lv_iload_n hx hb dX8_search_386 rfl (lv_at hl 3 rfl) ?_
                                              refine lv_icmp_ge (tgt := 410) hx hb dX8_search_387 (by decide) (fun c_31 => ?_) (fun c_31 => ?_)
                                              · have c_31 := z_le (by omega) (by omega) c_31
                                                have hb3 : (c4.1 < k1 → ∀ i, i < nt → b3 i = (upd z1 c4.2.1 (nI c4.2.2.2)) i) ∧ (k1 ≤ c4.1 → b3 = b1) := ⟨fun q9 i hi => hb3.1 q9 i (by omega), hb3.2⟩
                                                refine lv_iload hx hb dX8_search_410 (lv_at hl 6 rfl) ?_
                                                refine lv_as (y := nI c4.1) (hcv9.1.trans (lI_lt hf1)) ?_
                                                refine lv_iload_n hx hb dX8_search_412 rfl (lv_at hl 3 rfl) ?_
                                                refine lv_icmp_ge (tgt := 421) hx hb dX8_search_413 (by decide) (fun c_32 => ?_) (fun c_32 => ?_)
                                                · have c_32 := z_le (by omega) (by omega) c_32
                                                  refine lv_iload_n hx hb dX8_search_421 rfl (lv_at hl 3 rfl) ?_
                                                  refine lv_istore_n (lv' := [(3, .int (nI k1)), (0, .ref (mx 0)), (1, .int (nI aa)), (2, .int (nI rr)), (4, .int (nI 1)), (5, .int (nI (s0 + 1))), (6, .int x6), (11, .int (nI j))]) hx hb dX8_search_422 rfl hl (by decide) rfl (fun ls hl => ?_)
                                                  have hl : lv_has ls 13 [(3, .int (nI k1)), (0, .ref (mx 0)), (1, .int (nI aa)), (2, .int (nI rr)), (4, .int (bB true)), (5, .int (nI (s0 + 1))), (6, .int x6), (11, .int (nI j))] := by exact hl
                                                  refine lv_iinc (v := nI (s0 + 1 + 1)) (lv' := [(5, .int (nI (s0 + 1 + 1))), (3, .int (nI k1)), (0, .ref (mx 0)), (1, .int (nI aa)), (2, .int (nI rr)), (4, .int (bB true)), (6, .int x6), (11, .int (nI j))]) hx hb dX8_search_423 hl (k := 5) rfl (z_inc _) (by decide) rfl (fun ls hl => ?_)
                                                  refine lv_goto (tgt := 97) hx hb dX8_search_426 (by decide) ?_
                                                  exact ih_L97 (s0 + 1) true (nxg c4 g1) (nxl c4 lc1 (s0 + 1)) k1 bb (upd z1 c4.2.1 (nI c4.2.2.2)) b3 (upd c1 c4.2.1 (nI (s0 + 1))) t2 (by omega) (rn_more hrn hc4 hf1 (by omega)) hz3 (by rw [hb3.2 c_32]; exact hb1) (by rw [nxl, if_neg (by omega)]; exact ch_mv hc1 (by omega)) (nxl_le hl1) hk1 (by omega) _ _ hP hD hS _ (lv_sub hl [2, 3, 4, 1, 5, 0] rfl)
                                                · have c_32 := z_nle (by omega) (by omega) c_32
                                                  refine lv_iload hx hb dX8_search_416 (lv_at hl 6 rfl) ?_
                                                  refine lv_as (y := nI c4.1) (hcv9.1.trans (lI_lt hf1)) ?_
                                                  refine lv_goto (tgt := 422) hx hb dX8_search_418 (by decide) ?_
                                                  refine lv_istore_n (lv' := [(3, .int (nI c4.1)), (0, .ref (mx 0)), (1, .int (nI aa)), (2, .int (nI rr)), (4, .int (nI 1)), (5, .int (nI (s0 + 1))), (6, .int x6), (11, .int (nI j))]) hx hb dX8_search_422 rfl hl (by decide) rfl (fun ls hl => ?_)
                                                  have hl : lv_has ls 13 [(3, .int (nI c4.1)), (0, .ref (mx 0)), (1, .int (nI aa)), (2, .int (nI rr)), (4, .int (bB true)), (5, .int (nI (s0 + 1))), (6, .int x6), (11, .int (nI j))] := by exact hl
                                                  refine lv_iinc (v := nI (s0 + 1 + 1)) (lv' := [(5, .int (nI (s0 + 1 + 1))), (3, .int (nI c4.1)), (0, .ref (mx 0)), (1, .int (nI aa)), (2, .int (nI rr)), (4, .int (bB true)), (6, .int x6), (11, .int (nI j))]) hx hb dX8_search_423 hl (k := 5) rfl (z_inc _) (by decide) rfl (fun ls hl => ?_)
                                                  refine lv_goto (tgt := 97) hx hb dX8_search_426 (by decide) ?_
                                                  exact ih_L97 (s0 + 1) true (nxg c4 g1) (nxl c4 lc1 (s0 + 1)) c4.1 (nxg c4 g1) (upd z1 c4.2.1 (nI c4.2.2.2)) b3 (upd c1 c4.2.1 (nI (s0 + 1))) t2 (by omega) (rn_less hrn hc4 hf1 c_32) hz3 (fun t ht => by rw [hb3.1 c_32 t (by omega)]; exact hz3 t ht) (by rw [nxl, if_neg (by omega)]; exact ch_mv hc1 (by omega)) (nxl_le hl1) (by omega) (by omega) _ _ hP hD hS _ (lv_sub hl [2, 3, 4, 1, 5, 0] rfl)
                                              · have c_31 := z_nle (by omega) (by omega) c_31
                                                refine lv_aload_n hx hb dX8_search_390 rfl (lv_at hl 0 rfl) ?_
                                                refine va_get (D := D) (ci := 8) (v := .ref (mx 12)) (C := RX8) (T := TX8) (N := 16) hx hb hts tu_X8 hown hSt.1 hP 0 rfl rfl 13 (by decide) (hts _ t3_233) (fun _ h9 => h9) rfl dX8_search_391 ?_
                                                refine lv_iload hx hb dX8_search_394 (lv_at hl 7 rfl) ?_
                                                refine lv_aload_n hx hb dX8_search_396 rfl (lv_at hl 0 rfl) ?_
                                                refine va_get (D := D) (ci := 8) (v := .ref (mx 7)) (C := RX8) (T := TX8) (N := 16) hx hb hts tu_X8 hown hSt.1 hP 0 rfl rfl 8 (by decide) (hts _ t3_228) (fun _ h9 => h9) rfl dX8_search_397 ?_
                                                refine lv_iload hx hb dX8_search_400 (lv_at hl 7 rfl) ?_
                                                refine r_iald hx hb hSt.1 hP 7 0 rfl rfl (k := j) (by omega) (by omega) dX8_search_402 ?_
                                                refine r_iast hx hb hSt.1 hP hD hS 12 0 rfl rfl (k := j) (by omega) (by omega) dX8_search_403 (fun H locs hP hD hS => ?_)
                                                have hP : va_P D vwCl (wMo mx cI cZ w (nI nz) q d (nI nt) pr mw mt (upd z1 c4.2.1 (nI c4.2.2.2)) ke j_13 j_14 t2 (upd b3 j ((upd z1 c4.2.1 (nI c4.2.2.2)) j)) (upd c1 c4.2.1 (nI (s0 + 1))) (nI (as2 (nI 1) (bB (decide (cnt (fun u9 => !decide (zo u9 = -1)) nt = nt)))))) H := hP
                                                have hD : va_D A (wMo mx cI cZ w (nI nz) q d (nI nt) pr mw mt (upd z1 c4.2.1 (nI c4.2.2.2)) ke j_13 j_14 t2 (upd b3 j ((upd z1 c4.2.1 (nI c4.2.2.2)) j)) (upd c1 c4.2.1 (nI (s0 + 1))) (nI (as2 (nI 1) (bB (decide (cnt (fun u9 => !decide (zo u9 = -1)) nt = nt)))))) := hD
                                                refine lv_iinc (v := nI (j + 1)) (lv' := [(11, .int (nI (j + 1))), (0, .ref (mx 0)), (1, .int (nI aa)), (2, .int (nI rr)), (3, .int (nI k1)), (4, .int (nI 1)), (5, .int (nI (s0 + 1))), (6, .int x6)]) hx hb dX8_search_404 hl (k := 7) rfl (z_inc _) (by decide) rfl (fun ls hl => ?_)
                                                refine lv_goto (tgt := 375) hx hb dX8_search_407 (by decide) ?_
                                                exact ih_L375 (j + 1) (upd b3 j ((upd z1 c4.2.1 (nI c4.2.2.2)) j)) (by omega) (⟨fun q9 i hi => if e : i = j then (by rw [e, pk_us]) else (by rw [pk_un e]; exact hb3.1 q9 i (by omega)), fun q9 => absurd q9 (by omega)⟩) (by omega) _ _ hP hD hS _ (lv_sub hl [1, 2, 3, 4, 5, 6, 7, 0] rfl)
                                        exact L375 _ 0 b1 (by omega) (⟨fun _ i hi => absurd hi (by omega), fun _ => rfl⟩) (Nat.lt_succ_self _) _ _ hP hD hS _ (lv_sub hl [3, 4, 5, 6, 2, 7, 8, 0] rfl)
                                      · have ho7 : c4.2.2.1 < 7 := zI_some (fun q9 => c_28 (e8.trans q9))
                                        have hex := hci.2.2.resolve_right (fun q9 => by omega)
                                        have hto := hex.2.2
                                        have hot9 := hex.1
                                        refine lv_aload_n hx hb dX8_search_354 rfl (lv_at hl 2 rfl) ?_
                                        refine va_get (D := D) (ci := 8) (v := .ref (mx 7)) (C := RX8) (T := TX8) (N := 16) hx hb hts tu_X8 hown hSt.1 hP 0 rfl rfl 8 (by decide) (hts _ t3_228) (fun _ h9 => h9) rfl dX8_search_355 ?_
                                        refine lv_iload hx hb dX8_search_358 (lv_at hl 9 rfl) ?_
                                        refine lv_as (y := nI c4.2.2.1) (e8.trans (zI_lt ho7)) ?_
                                        refine lv_iload hx hb dX8_search_360 (lv_at hl 0 rfl) ?_
                                        refine r_iast hx hb hSt.1 hP hD hS 7 0 rfl rfl (k := c4.2.2.1) (by omega) (by omega) dX8_search_362 (fun H locs hP hD hS => ?_)
                                        have hP : va_P D vwCl (wMo mx cI cZ w (nI nz) q d (nI nt) pr mw mt (upd (upd z1 c4.2.1 (nI c4.2.2.2)) c4.2.2.1 (z1 c4.2.1)) ke j_13 j_14 t2 b1 (upd c1 c4.2.1 (nI (s0 + 1))) (nI (as2 (nI 1) (bB (decide (cnt (fun u9 => !decide (zo u9 = -1)) nt = nt)))))) H := hP
                                        have hD : va_D A (wMo mx cI cZ w (nI nz) q d (nI nt) pr mw mt (upd (upd z1 c4.2.1 (nI c4.2.2.2)) c4.2.2.1 (z1 c4.2.1)) ke j_13 j_14 t2 b1 (upd c1 c4.2.1 (nI (s0 + 1))) (nI (as2 (nI 1) (bB (decide (cnt (fun u9 => !decide (zo u9 = -1)) nt = nt)))))) := hD
                                        refine lv_aload_n hx hb dX8_search_363 rfl (lv_at hl 2 rfl) ?_
                                        refine va_get (D := D) (ci := 8) (v := .ref (mx 13)) (C := RX8) (T := TX8) (N := 16) hx hb hts tu_X8 hown hSt.1 hP 0 rfl rfl 14 (by decide) (hts _ t3_234) (fun _ h9 => h9) rfl dX8_search_364 ?_
                                        refine lv_iload hx hb dX8_search_367 (lv_at hl 9 rfl) ?_
                                        refine lv_as (y := nI c4.2.2.1) (e8.trans (zI_lt ho7)) ?_
                                        refine lv_iload hx hb dX8_search_369 (lv_at hl 6 rfl) ?_
                                        refine r_iast hx hb hSt.1 hP hD hS 13 0 rfl rfl (k := c4.2.2.1) (by omega) (by omega) dX8_search_371 (fun H locs hP hD hS => ?_)
                                        have hP : va_P D vwCl (wMo mx cI cZ w (nI nz) q d (nI nt) pr mw mt (upd (upd z1 c4.2.1 (nI c4.2.2.2)) c4.2.2.1 (z1 c4.2.1)) ke j_13 j_14 t2 b1 (upd (upd c1 c4.2.1 (nI (s0 + 1))) c4.2.2.1 (nI (s0 + 1))) (nI (as2 (nI 1) (bB (decide (cnt (fun u9 => !decide (zo u9 = -1)) nt = nt)))))) H := hP
                                        have hD : va_D A (wMo mx cI cZ w (nI nz) q d (nI nt) pr mw mt (upd (upd z1 c4.2.1 (nI c4.2.2.2)) c4.2.2.1 (z1 c4.2.1)) ke j_13 j_14 t2 b1 (upd (upd c1 c4.2.1 (nI (s0 + 1))) c4.2.2.1 (nI (s0 + 1))) (nI (as2 (nI 1) (bB (decide (cnt (fun u9 => !decide (zo u9 = -1)) nt = nt)))))) := hD
                                        have hz3 : pOK nt (upd (upd z1 c4.2.1 (nI c4.2.2.2)) c4.2.2.1 (z1 c4.2.1)) (nxg c4 g1) := by rw [nxg, if_pos ho7, hto]; exact zo_ex hz1 ht9 hot9 (by rw [← hto]; exact hto9)
                                        refine lv_iconst (v := nI 0) hx hb dX8_search_372 (by decide) ?_
                                        refine lv_istore (lv' := [(11, .int (nI 0)), (10, .int (z1 c4.2.1)), (4, .int (nI 1)), (0, .ref (mx 0)), (1, .int (nI aa)), (2, .int (nI rr)), (3, .int (nI k1)), (5, .int (nI (s0 + 1))), (6, .int x6), (7, .int x7), (8, .int x8), (9, .int x9)]) hx hb dX8_search_373 hl (by decide) rfl (fun ls hl => ?_)
                                        have L375 : ∀ (n9 : Nat) (j : Nat) (b3 : Nat → Int32), (j ≤ nt) → ((c4.1 < k1 → ∀ i, i < j → b3 i = (upd (upd z1 c4.2.1 (nI c4.2.2.2)) c4.2.2.1 (z1 c4.2.1)) i) ∧ (k1 ≤ c4.1 → b3 = b1)) → (nt - j) < n9 → ∀ (H : Heap) (locs : List Loc), va_P D vwCl (wMo mx cI cZ w (nI nz) q d (nI nt) pr mw mt (upd (upd z1 c4.2.1 (nI c4.2.2.2)) c4.2.2.1 (z1 c4.2.1)) ke j_13 j_14 t2 b3 (upd (upd c1 c4.2.1 (nI (s0 + 1))) c4.2.2.1 (nI (s0 + 1))) (nI (as2 (nI 1) (bB (decide (cnt (fun u9 => !decide (zo u9 = -1)) nt = nt)))))) H → va_D A (wMo mx cI cZ w (nI nz) q d (nI nt) pr mw mt (upd (upd z1 c4.2.1 (nI c4.2.2.2)) c4.2.2.1 (z1 c4.2.1)) ke j_13 j_14 t2 b3 (upd (upd c1 c4.2.1 (nI (s0 + 1))) c4.2.2.1 (nI (s0 + 1))) (nI (as2 (nI 1) (bB (decide (cnt (fun u9 => !decide (zo u9 = -1)) nt = nt)))))) → va_S A s.heap H locs → ∀ (ls : Array Slot), lv_has ls 13 [(0, .ref (mx 0)), (1, .int (nI aa)), (2, .int (nI rr)), (3, .int (nI k1)), (4, .int (nI 1)), (5, .int (nI (s0 + 1))), (6, .int x6), (11, .int (nI j))] → W p l e ({ frames := 5, cells := 0, slots := 0, locals := 112 } : Room) s m ([.ref (mx 0), .int (nI aa), .int (nI rr)] : List Value).toArray below meth c H locs 0 0 (MQ below (va_Qi (fun (r9 : Int32) (u9 : Int32 × Nat × (Nat → Int32) × (Nat → Int32) × (Nat → Int32) × (Nat → Int32) × (Nat → Int32) × (Nat → Int32) × (Nat → Nat)) => (r9 = u9.1) ∧ (sSearch nt nz n d wi ti dd g (nI aa) (nI rr) u9.2.1 u9.1 u9.2.2.2.2.2.2.2.2) ∧ (pOK nt u9.2.2.1 u9.2.2.2.2.2.2.2.2)) (rw_B D A (fun u9 : Int32 × Nat × (Nat → Int32) × (Nat → Int32) × (Nat → Int32) × (Nat → Int32) × (Nat → Int32) × (Nat → Int32) × (Nat → Nat) => wMo mx cI cZ w (nI nz) q d (nI nt) pr mw mt u9.2.2.1 ke u9.2.2.2.1 u9.2.2.2.2.1 u9.2.2.2.2.2.1 u9.2.2.2.2.2.2.1 u9.2.2.2.2.2.2.2.1 (nI u9.2.1))) A) ([.ref (mx 0), .int (nI aa), .int (nI rr)] : List Value).toArray s 0 0 A) (F0 m 375 ls []) := by
                                          intro n9
                                          induction n9 with
                                          | zero =>
                                            intro j b3 hj hb3 hm
                                            exact absurd hm (by omega)
                                          | succ n9 ih =>
                                            intro j b3 hj hb3 hm H locs hP hD hS ls hl
                                            have ih_L375 := ih
                                            refine lv_iload hx hb dX8_search_375 (lv_at hl 7 rfl) ?_
                                            refine lv_aload_n hx hb dX8_search_377 rfl (lv_at hl 0 rfl) ?_
                                            refine va_get (D := D) (ci := 8) (v := .int (nI nt)) (C := RX8) (T := TX8) (N := 16) hx hb hts tu_X8 hown hSt.1 hP 0 rfl rfl 4 (by decide) (hts _ t3_224) (fun _ h9 => h9) rfl dX8_search_378 ?_
                                            refine lv_icmp_ge (tgt := 410) hx hb dX8_search_381 (by decide) (fun c_33 => ?_) (fun c_33 => ?_)
                                            · have c_33 := z_le (by omega) (by omega) c_33
                                              have hb3 : (c4.1 < k1 → ∀ i, i < nt → b3 i = (upd (upd z1 c4.2.1 (nI c4.2.2.2)) c4.2.2.1 (z1 c4.2.1)) i) ∧ (k1 ≤ c4.1 → b3 = b1) := ⟨fun q9 i hi => hb3.1 q9 i (by omega), hb3.2⟩
                                              refine lv_iload hx hb dX8_search_410 (lv_at hl 6 rfl) ?_
                                              refine lv_as (y := nI c4.1) (hcv9.1.trans (lI_lt hf1)) ?_
                                              refine lv_iload_n hx hb dX8_search_412 rfl (lv_at hl 3 rfl) ?_
                                              refine lv_icmp_ge (tgt := 421) hx hb dX8_search_413 (by decide) (fun c_34 => ?_) (fun c_34 => ?_)
                                              · have c_34 := z_le (by omega) (by omega) c_34
                                                refine lv_iload_n hx hb dX8_search_421 rfl (lv_at hl 3 rfl) ?_
                                                refine lv_istore_n (lv' := [(3, .int (nI k1)), (0, .ref (mx 0)), (1, .int (nI aa)), (2, .int (nI rr)), (4, .int (nI 1)), (5, .int (nI (s0 + 1))), (6, .int x6), (11, .int (nI j))]) hx hb dX8_search_422 rfl hl (by decide) rfl (fun ls hl => ?_)
                                                have hl : lv_has ls 13 [(3, .int (nI k1)), (0, .ref (mx 0)), (1, .int (nI aa)), (2, .int (nI rr)), (4, .int (bB true)), (5, .int (nI (s0 + 1))), (6, .int x6), (11, .int (nI j))] := by exact hl
                                                refine lv_iinc (v := nI (s0 + 1 + 1)) (lv' := [(5, .int (nI (s0 + 1 + 1))), (3, .int (nI k1)), (0, .ref (mx 0)), (1, .int (nI aa)), (2, .int (nI rr)), (4, .int (bB true)), (6, .int x6), (11, .int (nI j))]) hx hb dX8_search_423 hl (k := 5) rfl (z_inc _) (by decide) rfl (fun ls hl => ?_)
                                                refine lv_goto (tgt := 97) hx hb dX8_search_426 (by decide) ?_
                                                exact ih_L97 (s0 + 1) true (nxg c4 g1) (nxl c4 lc1 (s0 + 1)) k1 bb (upd (upd z1 c4.2.1 (nI c4.2.2.2)) c4.2.2.1 (z1 c4.2.1)) b3 (upd (upd c1 c4.2.1 (nI (s0 + 1))) c4.2.2.1 (nI (s0 + 1))) t2 (by omega) (rn_more hrn hc4 hf1 (by omega)) hz3 (by rw [hb3.2 c_34]; exact hb1) (by rw [nxl, if_pos ho7]; exact ch_ex hc1 (by omega)) (nxl_le hl1) hk1 (by omega) _ _ hP hD hS _ (lv_sub hl [2, 3, 4, 1, 5, 0] rfl)
                                              · have c_34 := z_nle (by omega) (by omega) c_34
                                                refine lv_iload hx hb dX8_search_416 (lv_at hl 6 rfl) ?_
                                                refine lv_as (y := nI c4.1) (hcv9.1.trans (lI_lt hf1)) ?_
                                                refine lv_goto (tgt := 422) hx hb dX8_search_418 (by decide) ?_
                                                refine lv_istore_n (lv' := [(3, .int (nI c4.1)), (0, .ref (mx 0)), (1, .int (nI aa)), (2, .int (nI rr)), (4, .int (nI 1)), (5, .int (nI (s0 + 1))), (6, .int x6), (11, .int (nI j))]) hx hb dX8_search_422 rfl hl (by decide) rfl (fun ls hl => ?_)
                                                have hl : lv_has ls 13 [(3, .int (nI c4.1)), (0, .ref (mx 0)), (1, .int (nI aa)), (2, .int (nI rr)), (4, .int (bB true)), (5, .int (nI (s0 + 1))), (6, .int x6), (11, .int (nI j))] := by exact hl
                                                refine lv_iinc (v := nI (s0 + 1 + 1)) (lv' := [(5, .int (nI (s0 + 1 + 1))), (3, .int (nI c4.1)), (0, .ref (mx 0)), (1, .int (nI aa)), (2, .int (nI rr)), (4, .int (bB true)), (6, .int x6), (11, .int (nI j))]) hx hb dX8_search_423 hl (k := 5) rfl (z_inc _) (by decide) rfl (fun ls hl => ?_)
                                                refine lv_goto (tgt := 97) hx hb dX8_search_426 (by decide) ?_
                                                exact ih_L97 (s0 + 1) true (nxg c4 g1) (nxl c4 lc1 (s0 + 1)) c4.1 (nxg c4 g1) (upd (upd z1 c4.2.1 (nI c4.2.2.2)) c4.2.2.1 (z1 c4.2.1)) b3 (upd (upd c1 c4.2.1 (nI (s0 + 1))) c4.2.2.1 (nI (s0 + 1))) t2 (by omega) (rn_less hrn hc4 hf1 c_34) hz3 (fun t ht => by rw [hb3.1 c_34 t (by omega)]; exact hz3 t ht) (by rw [nxl, if_pos ho7]; exact ch_ex hc1 (by omega)) (nxl_le hl1) (by omega) (by omega) _ _ hP hD hS _ (lv_sub hl [2, 3, 4, 1, 5, 0] rfl)
                                            · have c_33 := z_nle (by omega) (by omega) c_33
                                              refine lv_iload hx hb dX8_search_384 (lv_at hl 6 rfl) ?_
                                              refine lv_as (y := nI c4.1) (hcv9.1.trans (lI_lt hf1)) ?_
                                              refine lv_iload_n hx hb dX8_search_386 rfl (lv_at hl 3 rfl) ?_
                                              refine lv_icmp_ge (tgt := 410) hx hb dX8_search_387 (by decide) (fun c_35 => ?_) (fun c_35 => ?_)
                                              · have c_35 := z_le (by omega) (by omega) c_35
                                                have hb3 : (c4.1 < k1 → ∀ i, i < nt → b3 i = (upd (upd z1 c4.2.1 (nI c4.2.2.2)) c4.2.2.1 (z1 c4.2.1)) i) ∧ (k1 ≤ c4.1 → b3 = b1) := ⟨fun q9 i hi => hb3.1 q9 i (by omega), hb3.2⟩
                                                refine lv_iload hx hb dX8_search_410 (lv_at hl 6 rfl) ?_
                                                refine lv_as (y := nI c4.1) (hcv9.1.trans (lI_lt hf1)) ?_
                                                refine lv_iload_n hx hb dX8_search_412 rfl (lv_at hl 3 rfl) ?_
                                                refine lv_icmp_ge (tgt := 421) hx hb dX8_search_413 (by decide) (fun c_36 => ?_) (fun c_36 => ?_)
                                                · have c_36 := z_le (by omega) (by omega) c_36
                                                  refine lv_iload_n hx hb dX8_search_421 rfl (lv_at hl 3 rfl) ?_
                                                  refine lv_istore_n (lv' := [(3, .int (nI k1)), (0, .ref (mx 0)), (1, .int (nI aa)), (2, .int (nI rr)), (4, .int (nI 1)), (5, .int (nI (s0 + 1))), (6, .int x6), (11, .int (nI j))]) hx hb dX8_search_422 rfl hl (by decide) rfl (fun ls hl => ?_)
                                                  have hl : lv_has ls 13 [(3, .int (nI k1)), (0, .ref (mx 0)), (1, .int (nI aa)), (2, .int (nI rr)), (4, .int (bB true)), (5, .int (nI (s0 + 1))), (6, .int x6), (11, .int (nI j))] := by exact hl
                                                  refine lv_iinc (v := nI (s0 + 1 + 1)) (lv' := [(5, .int (nI (s0 + 1 + 1))), (3, .int (nI k1)), (0, .ref (mx 0)), (1, .int (nI aa)), (2, .int (nI rr)), (4, .int (bB true)), (6, .int x6), (11, .int (nI j))]) hx hb dX8_search_423 hl (k := 5) rfl (z_inc _) (by decide) rfl (fun ls hl => ?_)
                                                  refine lv_goto (tgt := 97) hx hb dX8_search_426 (by decide) ?_
                                                  exact ih_L97 (s0 + 1) true (nxg c4 g1) (nxl c4 lc1 (s0 + 1)) k1 bb (upd (upd z1 c4.2.1 (nI c4.2.2.2)) c4.2.2.1 (z1 c4.2.1)) b3 (upd (upd c1 c4.2.1 (nI (s0 + 1))) c4.2.2.1 (nI (s0 + 1))) t2 (by omega) (rn_more hrn hc4 hf1 (by omega)) hz3 (by rw [hb3.2 c_36]; exact hb1) (by rw [nxl, if_pos ho7]; exact ch_ex hc1 (by omega)) (nxl_le hl1) hk1 (by omega) _ _ hP hD hS _ (lv_sub hl [2, 3, 4, 1, 5, 0] rfl)
                                                · have c_36 := z_nle (by omega) (by omega) c_36
                                                  refine lv_iload hx hb dX8_search_416 (lv_at hl 6 rfl) ?_
                                                  refine lv_as (y := nI c4.1) (hcv9.1.trans (lI_lt hf1)) ?_
                                                  refine lv_goto (tgt := 422) hx hb dX8_search_418 (by decide) ?_
                                                  refine lv_istore_n (lv' := [(3, .int (nI c4.1)), (0, .ref (mx 0)), (1, .int (nI aa)), (2, .int (nI rr)), (4, .int (nI 1)), (5, .int (nI (s0 + 1))), (6, .int x6), (11, .int (nI j))]) hx hb dX8_search_422 rfl hl (by decide) rfl (fun ls hl => ?_)
                                                  have hl : lv_has ls 13 [(3, .int (nI c4.1)), (0, .ref (mx 0)), (1, .int (nI aa)), (2, .int (nI rr)), (4, .int (bB true)), (5, .int (nI (s0 + 1))), (6, .int x6), (11, .int (nI j))] := by exact hl
                                                  refine lv_iinc (v := nI (s0 + 1 + 1)) (lv' := [(5, .int (nI (s0 + 1 + 1))), (3, .int (nI c4.1)), (0, .ref (mx 0)), (1, .int (nI aa)), (2, .int (nI rr)), (4, .int (bB true)), (6, .int x6), (11, .int (nI j))]) hx hb dX8_search_423 hl (k := 5) rfl (z_inc _) (by decide) rfl (fun ls hl => ?_)
                                                  refine lv_goto (tgt := 97) hx hb dX8_search_426 (by decide) ?_
                                                  exact ih_L97 (s0 + 1) true (nxg c4 g1) (nxl c4 lc1 (s0 + 1)) c4.1 (nxg c4 g1) (upd (upd z1 c4.2.1 (nI c4.2.2.2)) c4.2.2.1 (z1 c4.2.1)) b3 (upd (upd c1 c4.2.1 (nI (s0 + 1))) c4.2.2.1 (nI (s0 + 1))) t2 (by omega) (rn_less hrn hc4 hf1 c_36) hz3 (fun t ht => by rw [hb3.1 c_36 t (by omega)]; exact hz3 t ht) (by rw [nxl, if_pos ho7]; exact ch_ex hc1 (by omega)) (nxl_le hl1) (by omega) (by omega) _ _ hP hD hS _ (lv_sub hl [2, 3, 4, 1, 5, 0] rfl)
                                              · have c_35 := z_nle (by omega) (by omega) c_35
                                                refine lv_aload_n hx hb dX8_search_390 rfl (lv_at hl 0 rfl) ?_
                                                refine va_get (D := D) (ci := 8) (v := .ref (mx 12)) (C := RX8) (T := TX8) (N := 16) hx hb hts tu_X8 hown hSt.1 hP 0 rfl rfl 13 (by decide) (hts _ t3_233) (fun _ h9 => h9) rfl dX8_search_391 ?_
                                                refine lv_iload hx hb dX8_search_394 (lv_at hl 7 rfl) ?_
                                                refine lv_aload_n hx hb dX8_search_396 rfl (lv_at hl 0 rfl) ?_
                                                refine va_get (D := D) (ci := 8) (v := .ref (mx 7)) (C := RX8) (T := TX8) (N := 16) hx hb hts tu_X8 hown hSt.1 hP 0 rfl rfl 8 (by decide) (hts _ t3_228) (fun _ h9 => h9) rfl dX8_search_397 ?_
                                                refine lv_iload hx hb dX8_search_400 (lv_at hl 7 rfl) ?_
                                                refine r_iald hx hb hSt.1 hP 7 0 rfl rfl (k := j) (by omega) (by omega) dX8_search_402 ?_
                                                refine r_iast hx hb hSt.1 hP hD hS 12 0 rfl rfl (k := j) (by omega) (by omega) dX8_search_403 (fun H locs hP hD hS => ?_)
                                                have hP : va_P D vwCl (wMo mx cI cZ w (nI nz) q d (nI nt) pr mw mt (upd (upd z1 c4.2.1 (nI c4.2.2.2)) c4.2.2.1 (z1 c4.2.1)) ke j_13 j_14 t2 (upd b3 j ((upd (upd z1 c4.2.1 (nI c4.2.2.2)) c4.2.2.1 (z1 c4.2.1)) j)) (upd (upd c1 c4.2.1 (nI (s0 + 1))) c4.2.2.1 (nI (s0 + 1))) (nI (as2 (nI 1) (bB (decide (cnt (fun u9 => !decide (zo u9 = -1)) nt = nt)))))) H := hP
                                                have hD : va_D A (wMo mx cI cZ w (nI nz) q d (nI nt) pr mw mt (upd (upd z1 c4.2.1 (nI c4.2.2.2)) c4.2.2.1 (z1 c4.2.1)) ke j_13 j_14 t2 (upd b3 j ((upd (upd z1 c4.2.1 (nI c4.2.2.2)) c4.2.2.1 (z1 c4.2.1)) j)) (upd (upd c1 c4.2.1 (nI (s0 + 1))) c4.2.2.1 (nI (s0 + 1))) (nI (as2 (nI 1) (bB (decide (cnt (fun u9 => !decide (zo u9 = -1)) nt = nt)))))) := hD
                                                refine lv_iinc (v := nI (j + 1)) (lv' := [(11, .int (nI (j + 1))), (0, .ref (mx 0)), (1, .int (nI aa)), (2, .int (nI rr)), (3, .int (nI k1)), (4, .int (nI 1)), (5, .int (nI (s0 + 1))), (6, .int x6)]) hx hb dX8_search_404 hl (k := 7) rfl (z_inc _) (by decide) rfl (fun ls hl => ?_)
                                                refine lv_goto (tgt := 375) hx hb dX8_search_407 (by decide) ?_
                                                exact ih_L375 (j + 1) (upd b3 j ((upd (upd z1 c4.2.1 (nI c4.2.2.2)) c4.2.2.1 (z1 c4.2.1)) j)) (by omega) (⟨fun q9 i hi => if e : i = j then (by rw [e, pk_us]) else (by rw [pk_un e]; exact hb3.1 q9 i (by omega)), fun q9 => absurd q9 (by omega)⟩) (by omega) _ _ hP hD hS _ (lv_sub hl [1, 2, 3, 4, 5, 6, 7, 0] rfl)
                                        exact L375 _ 0 b1 (by omega) (⟨fun _ i hi => absurd hi (by omega), fun _ => rfl⟩) (Nat.lt_succ_self _) _ _ hP hD hS _ (lv_sub hl [3, 4, 5, 6, 2, 7, 8, 0] rfl)
                                · have c_24 := z_nle (by omega) (by omega) c_24
                                  refine lv_iconst (v := nI 0) hx hb dX8_search_231 (by decide) ?_
                                  refine lv_istore (lv' := [(11, .int (nI 0)), (0, .ref (mx 0)), (1, .int (nI aa)), (2, .int (nI rr)), (3, .int (nI k1)), (4, .int (bB true)), (5, .int (nI (s0 + 1))), (6, .int x6), (7, .int x7), (8, .int x8), (9, .int x9), (10, .int (nI a))]) hx hb dX8_search_232 hl (by decide) rfl (fun ls hl => ?_)
                                  have L234 : ∀ (n9 : Nat) (z : Nat) (x6B : Int32) (x7B : Int32) (x8B : Int32) (x9B : Int32) (t2B : Nat → Int32), (z ≤ nz) → (chV (chM2 (fun g9 => costN wi ti dd g9 nt) (fun t9 z9 => n t9 ≤ d z9) nt nz g1 lc1 rr (s0 + 1) a z) x6B x7B x8B x9B) → (nz - z) < n9 → ∀ (H : Heap) (locs : List Loc), va_P D vwCl (wMo mx cI cZ w (nI nz) q d (nI nt) pr mw mt z1 ke j_13 j_14 t2B b1 c1 (nI (as2 (nI 1) (bB (decide (cnt (fun u9 => !decide (zo u9 = -1)) nt = nt)))))) H → va_D A (wMo mx cI cZ w (nI nz) q d (nI nt) pr mw mt z1 ke j_13 j_14 t2B b1 c1 (nI (as2 (nI 1) (bB (decide (cnt (fun u9 => !decide (zo u9 = -1)) nt = nt)))))) → va_S A s.heap H locs → ∀ (ls : Array Slot), lv_has ls 13 [(0, .ref (mx 0)), (1, .int (nI aa)), (2, .int (nI rr)), (3, .int (nI k1)), (4, .int (bB true)), (5, .int (nI (s0 + 1))), (6, .int x6B), (7, .int x7B), (8, .int x8B), (9, .int x9B), (10, .int (nI a)), (11, .int (nI z))] → W p l e ({ frames := 5, cells := 0, slots := 0, locals := 112 } : Room) s m ([.ref (mx 0), .int (nI aa), .int (nI rr)] : List Value).toArray below meth c H locs 0 0 (MQ below (va_Qi (fun (r9 : Int32) (u9 : Int32 × Nat × (Nat → Int32) × (Nat → Int32) × (Nat → Int32) × (Nat → Int32) × (Nat → Int32) × (Nat → Int32) × (Nat → Nat)) => (r9 = u9.1) ∧ (sSearch nt nz n d wi ti dd g (nI aa) (nI rr) u9.2.1 u9.1 u9.2.2.2.2.2.2.2.2) ∧ (pOK nt u9.2.2.1 u9.2.2.2.2.2.2.2.2)) (rw_B D A (fun u9 : Int32 × Nat × (Nat → Int32) × (Nat → Int32) × (Nat → Int32) × (Nat → Int32) × (Nat → Int32) × (Nat → Int32) × (Nat → Nat) => wMo mx cI cZ w (nI nz) q d (nI nt) pr mw mt u9.2.2.1 ke u9.2.2.2.1 u9.2.2.2.2.1 u9.2.2.2.2.2.1 u9.2.2.2.2.2.2.1 u9.2.2.2.2.2.2.2.1 (nI u9.2.1))) A) ([.ref (mx 0), .int (nI aa), .int (nI rr)] : List Value).toArray s 0 0 A) (F0 m 234 ls []) := by
                                    intro n9
                                    induction n9 with
                                    | zero =>
                                      intro z x6B x7B x8B x9B t2B hzn hcvB hm
                                      exact absurd hm (by omega)
                                    | succ n9 ih =>
                                      intro z x6B x7B x8B x9B t2B hzn hcvB hm H locs hP hD hS ls hl
                                      have ih_L234 := ih
                                      refine lv_iload hx hb dX8_search_234 (lv_at hl 11 rfl) ?_
                                      refine lv_aload_n hx hb dX8_search_236 rfl (lv_at hl 0 rfl) ?_
                                      refine va_get (D := D) (ci := 8) (v := .int (nI nz)) (C := RX8) (T := TX8) (N := 16) hx hb hts tu_X8 hown hSt.1 hP 0 rfl rfl 1 (by decide) (hts _ t3_221) (fun _ h9 => h9) rfl dX8_search_237 ?_
                                      refine lv_icmp_ge (tgt := 297) hx hb dX8_search_240 (by decide) (fun c_37 => ?_) (fun c_37 => ?_)
                                      · have c_37 := z_le (by omega) (by omega) c_37
                                        refine lv_iinc (v := nI (a + 1)) (lv' := [(10, .int (nI (a + 1))), (0, .ref (mx 0)), (1, .int (nI aa)), (2, .int (nI rr)), (3, .int (nI k1)), (4, .int (bB true)), (5, .int (nI (s0 + 1))), (6, .int x6B), (7, .int x7B), (8, .int x8B), (9, .int x9B), (11, .int (nI z))]) hx hb dX8_search_297 hl (k := 10) rfl (z_inc _) (by decide) rfl (fun ls hl => ?_)
                                        refine lv_goto (tgt := 222) hx hb dX8_search_300 (by decide) ?_
                                        exact ih_L222 (a + 1) x6B x7B x8B x9B t2B (by omega) (by rw [chM_s]; have e9 : z = nz := (by omega); rw [e9] at hcvB; exact hcvB) (by omega) _ _ hP hD hS _ (lv_sub hl [1, 2, 3, 4, 5, 6, 7, 8, 9, 10, 0] rfl)
                                      · have c_37 := z_nle (by omega) (by omega) c_37
                                        refine lv_aload_n hx hb dX8_search_243 rfl (lv_at hl 0 rfl) ?_
                                        refine lv_iload hx hb dX8_search_244 (lv_at hl 10 rfl) ?_
                                        refine lv_iconst (v := (-1 : Int32)) hx hb dX8_search_246 (by decide) ?_
                                        refine lv_iload hx hb dX8_search_247 (lv_at hl 11 rfl) ?_
                                        refine lv_iload hx hb dX8_search_249 (lv_at hl 5 rfl) ?_
                                        refine lv_iload_n hx hb dX8_search_251 rfl (lv_at hl 2 rfl) ?_
                                        refine rw_i (wr := ([] : va_W)) (w_V (As := [.int (nI a), .int (-1 : Int32), .int (nI z), .int (nI (s0 + 1)), .int (nI rr)]) ⟨hx, hb, hml, hown, hts⟩ (c_X8_costBehind_mv l D cI cZ cQ cJ mx w nz q d nt pr mw mt z1 ke j_13 j_14 t2B b1 c1 (nI (as2 (nI 1) (bB (decide (cnt (fun u9 => !decide (zo u9 = -1)) nt = nt))))) pp n wi ti dd g1 (fun t => zI (g1 t)) lc1 rr (s0 + 1) a z H.size (by first | assumption | omega) (by first | assumption | omega) (by first | assumption | omega) (by first | assumption | omega) (by first | assumption | omega) (by first | assumption | omega) hwy9 (by first | assumption | omega) hz1 (fun t _ => rfl) hvg1 haP1 hc1 (fun t => by have h7 := hl1 t; omega) (by omega) (by omega) (by first | assumption | omega) (by first | assumption | omega)) (gV t4_155 t4_157 t0_37 t1_10 t4_158) rfl rfl hd_X8_costBehind ⟨Nat.le_of_ble_eq_true rfl, Nat.le_of_ble_eq_true rfl⟩ (rw_pre hP hD hSt [0, 1, 2, 3, 4, 5, 6, 7, 8, 9, 10, 11, 12, 13] rfl (by decide)) (va_recv hSt.1 hP (ci := 8) (q0 := 0) rfl rfl) rfl hl.1 (rest := []) rfl (Nat.le_of_ble_eq_true rfl) dX8_search_252 ⟨Nat.le_of_ble_eq_true rfl, Nat.le_of_ble_eq_true rfl⟩) hP hD hS hA [0, 1, 2, 3, 4, 5, 6, 7, 8, 9, 10, 11, 12, 13] [] rfl rfl (by decide) (by decide) (fun r_9 u_39 H locs hw9 hP hD hS => ?_)
                                        obtain ⟨j_38, rfl⟩ : ∃ z9, z9 = u_39 := ⟨_, rfl⟩
                                        have er_9 := hw9
                                        replace er_9 := er_9.symm
                                        subst er_9
                                        have hP : va_P D vwCl (wMo mx cI cZ w (nI nz) q d (nI nt) pr mw mt z1 ke j_13 j_14 j_38 b1 c1 (nI (as2 (nI 1) (bB (decide (cnt (fun u9 => !decide (zo u9 = -1)) nt = nt)))))) H := hP
                                        have hD : va_D A (wMo mx cI cZ w (nI nz) q d (nI nt) pr mw mt z1 ke j_13 j_14 j_38 b1 c1 (nI (as2 (nI 1) (bB (decide (cnt (fun u9 => !decide (zo u9 = -1)) nt = nt)))))) := hD
                                        have hx9 : (MVx (fun g9 => costN wi ti dd g9 nt) g1 a z).1 < 1000000 := Nat.lt_of_le_of_lt (costN_le hv (fun t ht => gOK_upd (gOK_aP haP1) (Or.inl (show z < nz by omega)) t (by omega)) hnt hnz) (by omega)
                                        refine lv_istore (lv' := [(12, .int (lI (cbN (MVp (fun t9 z9 => n t9 ≤ d z9) nt g1 lc1 rr (s0 + 1) a z) (costN wi ti dd (updN g1 a z) nt)))), (0, .ref (mx 0)), (1, .int (nI aa)), (2, .int (nI rr)), (3, .int (nI k1)), (4, .int (bB true)), (5, .int (nI (s0 + 1))), (6, .int x6B), (7, .int x7B), (8, .int x8B), (9, .int x9B), (10, .int (nI a)), (11, .int (nI z))]) hx hb dX8_search_255 hl (by decide) rfl (fun ls hl => ?_)
                                        refine lv_iload hx hb dX8_search_257 (lv_at hl 0 rfl) ?_
                                        refine lv_iconst (v := (-1 : Int32)) hx hb dX8_search_259 (by decide) ?_
                                        refine lv_icmp_eq (tgt := 291) hx hb dX8_search_260 (by decide) (fun c_40 => ?_) (fun c_40 => ?_)
                                        · refine lv_iinc (v := nI (z + 1)) (lv' := [(11, .int (nI (z + 1))), (12, .int (lI (cbN (MVp (fun t9 z9 => n t9 ≤ d z9) nt g1 lc1 rr (s0 + 1) a z) (costN wi ti dd (updN g1 a z) nt)))), (0, .ref (mx 0)), (1, .int (nI aa)), (2, .int (nI rr)), (3, .int (nI k1)), (4, .int (bB true)), (5, .int (nI (s0 + 1))), (6, .int x6B), (7, .int x7B), (8, .int x8B), (9, .int x9B), (10, .int (nI a))]) hx hb dX8_search_291 hl (k := 12) rfl (z_inc _) (by decide) rfl (fun ls hl => ?_)
                                          refine lv_goto (tgt := 234) hx hb dX8_search_294 (by decide) ?_
                                          exact ih_L234 (z + 1) x6B x7B x8B x9B j_38 (by omega) (by rw [chM2_s]; exact chV_no hcvB (lI_none c_40) hx9) (by omega) _ _ hP hD hS _ (lv_sub hl [2, 3, 4, 5, 6, 7, 8, 9, 10, 11, 12, 0] rfl)
                                        · have hcb9 : cbN (MVp (fun t9 z9 => n t9 ≤ d z9) nt g1 lc1 rr (s0 + 1) a z) (MVx (fun g9 => costN wi ti dd g9 nt) g1 a z).1 < 1000000 := lI_some c_40
                                          have hcb8 : cbN (MVp (fun t9 z9 => n t9 ≤ d z9) nt g1 lc1 rr (s0 + 1) a z) (costN wi ti dd (updN g1 a z) nt) < 1000000 := hcb9
                                          refine lv_iload hx hb dX8_search_263 (lv_at hl 7 rfl) ?_
                                          refine lv_iconst (v := (-1 : Int32)) hx hb dX8_search_265 (by decide) ?_
                                          refine lv_icmp_eq (tgt := 276) hx hb dX8_search_266 (by decide) (fun c_41 => ?_) (fun c_41 => ?_)
                                          · refine lv_iload hx hb dX8_search_276 (lv_at hl 0 rfl) ?_
                                            refine lv_istore (lv' := [(6, .int (lI (cbN (MVp (fun t9 z9 => n t9 ≤ d z9) nt g1 lc1 rr (s0 + 1) a z) (costN wi ti dd (updN g1 a z) nt)))), (12, .int (lI (cbN (MVp (fun t9 z9 => n t9 ≤ d z9) nt g1 lc1 rr (s0 + 1) a z) (costN wi ti dd (updN g1 a z) nt)))), (0, .ref (mx 0)), (1, .int (nI aa)), (2, .int (nI rr)), (3, .int (nI k1)), (4, .int (bB true)), (5, .int (nI (s0 + 1))), (7, .int x7B), (8, .int x8B), (9, .int x9B), (10, .int (nI a)), (11, .int (nI z))]) hx hb dX8_search_278 hl (by decide) rfl (fun ls hl => ?_)
                                            refine lv_iload hx hb dX8_search_280 (lv_at hl 11 rfl) ?_
                                            refine lv_istore (lv' := [(7, .int (nI a)), (6, .int (lI (cbN (MVp (fun t9 z9 => n t9 ≤ d z9) nt g1 lc1 rr (s0 + 1) a z) (costN wi ti dd (updN g1 a z) nt)))), (12, .int (lI (cbN (MVp (fun t9 z9 => n t9 ≤ d z9) nt g1 lc1 rr (s0 + 1) a z) (costN wi ti dd (updN g1 a z) nt)))), (0, .ref (mx 0)), (1, .int (nI aa)), (2, .int (nI rr)), (3, .int (nI k1)), (4, .int (bB true)), (5, .int (nI (s0 + 1))), (8, .int x8B), (9, .int x9B), (10, .int (nI a)), (11, .int (nI z))]) hx hb dX8_search_282 hl (by decide) rfl (fun ls hl => ?_)
                                            refine lv_iconst (v := (-1 : Int32)) hx hb dX8_search_284 (by decide) ?_
                                            refine lv_istore (lv' := [(8, .int (-1 : Int32)), (7, .int (nI a)), (6, .int (lI (cbN (MVp (fun t9 z9 => n t9 ≤ d z9) nt g1 lc1 rr (s0 + 1) a z) (costN wi ti dd (updN g1 a z) nt)))), (12, .int (lI (cbN (MVp (fun t9 z9 => n t9 ≤ d z9) nt g1 lc1 rr (s0 + 1) a z) (costN wi ti dd (updN g1 a z) nt)))), (0, .ref (mx 0)), (1, .int (nI aa)), (2, .int (nI rr)), (3, .int (nI k1)), (4, .int (bB true)), (5, .int (nI (s0 + 1))), (9, .int x9B), (10, .int (nI a)), (11, .int (nI z))]) hx hb dX8_search_285 hl (by decide) rfl (fun ls hl => ?_)
                                            refine lv_iload hx hb dX8_search_287 (lv_at hl 12 rfl) ?_
                                            refine lv_istore (lv' := [(9, .int (nI z)), (8, .int (-1 : Int32)), (7, .int (nI a)), (6, .int (lI (cbN (MVp (fun t9 z9 => n t9 ≤ d z9) nt g1 lc1 rr (s0 + 1) a z) (costN wi ti dd (updN g1 a z) nt)))), (12, .int (lI (cbN (MVp (fun t9 z9 => n t9 ≤ d z9) nt g1 lc1 rr (s0 + 1) a z) (costN wi ti dd (updN g1 a z) nt)))), (0, .ref (mx 0)), (1, .int (nI aa)), (2, .int (nI rr)), (3, .int (nI k1)), (4, .int (bB true)), (5, .int (nI (s0 + 1))), (10, .int (nI a)), (11, .int (nI z))]) hx hb dX8_search_289 hl (by decide) rfl (fun ls hl => ?_)
                                            refine lv_iinc (v := nI (z + 1)) (lv' := [(11, .int (nI (z + 1))), (9, .int (nI z)), (8, .int (-1 : Int32)), (7, .int (nI a)), (6, .int (lI (cbN (MVp (fun t9 z9 => n t9 ≤ d z9) nt g1 lc1 rr (s0 + 1) a z) (costN wi ti dd (updN g1 a z) nt)))), (12, .int (lI (cbN (MVp (fun t9 z9 => n t9 ≤ d z9) nt g1 lc1 rr (s0 + 1) a z) (costN wi ti dd (updN g1 a z) nt)))), (0, .ref (mx 0)), (1, .int (nI aa)), (2, .int (nI rr)), (3, .int (nI k1)), (4, .int (bB true)), (5, .int (nI (s0 + 1))), (10, .int (nI a))]) hx hb dX8_search_291 hl (k := 12) rfl (z_inc _) (by decide) rfl (fun ls hl => ?_)
                                            refine lv_goto (tgt := 234) hx hb dX8_search_294 (by decide) ?_
                                            exact ih_L234 (z + 1) (lI (cbN (MVp (fun t9 z9 => n t9 ≤ d z9) nt g1 lc1 rr (s0 + 1) a z) (costN wi ti dd (updN g1 a z) nt))) (nI a) (-1 : Int32) (nI z) j_38 (by omega) (by rw [chM2_s]; exact chV_new hcvB hcb9 (by have h7 := lI_none (hcvB.1.symm.trans c_41); omega)) (by omega) _ _ hP hD hS _ (lv_sub hl [6, 7, 8, 9, 10, 11, 4, 3, 2, 1, 12, 0] rfl)
                                          · refine lv_iload hx hb dX8_search_269 (lv_at hl 0 rfl) ?_
                                            refine lv_as (y := nI (cbN (MVp (fun t9 z9 => n t9 ≤ d z9) nt g1 lc1 rr (s0 + 1) a z) (costN wi ti dd (updN g1 a z) nt))) (lI_lt hcb9) ?_
                                            refine lv_iload hx hb dX8_search_271 (lv_at hl 7 rfl) ?_
                                            have h66 := lI_some (fun q9 => c_41 (hcvB.1.trans q9))
                                            refine lv_as (y := nI ((chM2 (fun g9 => costN wi ti dd g9 nt) (fun t9 z9 => n t9 ≤ d z9) nt nz g1 lc1 rr (s0 + 1) a z).1)) (hcvB.1.trans (lI_lt h66)) ?_
                                            refine lv_icmp_ge (tgt := 291) hx hb dX8_search_273 (by decide) (fun c_42 => ?_) (fun c_42 => ?_)
                                            · have c_42 := z_le (by omega) (by omega) c_42
                                              refine lv_iinc (v := nI (z + 1)) (lv' := [(11, .int (nI (z + 1))), (12, .int (lI (cbN (MVp (fun t9 z9 => n t9 ≤ d z9) nt g1 lc1 rr (s0 + 1) a z) (costN wi ti dd (updN g1 a z) nt)))), (0, .ref (mx 0)), (1, .int (nI aa)), (2, .int (nI rr)), (3, .int (nI k1)), (4, .int (bB true)), (5, .int (nI (s0 + 1))), (6, .int x6B), (7, .int x7B), (8, .int x8B), (9, .int x9B), (10, .int (nI a))]) hx hb dX8_search_291 hl (k := 12) rfl (z_inc _) (by decide) rfl (fun ls hl => ?_)
                                              refine lv_goto (tgt := 234) hx hb dX8_search_294 (by decide) ?_
                                              exact ih_L234 (z + 1) x6B x7B x8B x9B j_38 (by omega) (by rw [chM2_s]; exact chV_worse hcvB hcb9 c_42) (by omega) _ _ hP hD hS _ (lv_sub hl [2, 3, 4, 5, 6, 7, 8, 9, 10, 11, 12, 0] rfl)
                                            · have c_42 := z_nle (by omega) (by omega) c_42
                                              refine lv_iload hx hb dX8_search_276 (lv_at hl 0 rfl) ?_
                                              refine lv_istore (lv' := [(6, .int (lI (cbN (MVp (fun t9 z9 => n t9 ≤ d z9) nt g1 lc1 rr (s0 + 1) a z) (costN wi ti dd (updN g1 a z) nt)))), (12, .int (lI (cbN (MVp (fun t9 z9 => n t9 ≤ d z9) nt g1 lc1 rr (s0 + 1) a z) (costN wi ti dd (updN g1 a z) nt)))), (0, .ref (mx 0)), (1, .int (nI aa)), (2, .int (nI rr)), (3, .int (nI k1)), (4, .int (bB true)), (5, .int (nI (s0 + 1))), (7, .int x7B), (8, .int x8B), (9, .int x9B), (10, .int (nI a)), (11, .int (nI z))]) hx hb dX8_search_278 hl (by decide) rfl (fun ls hl => ?_)
                                              refine lv_iload hx hb dX8_search_280 (lv_at hl 11 rfl) ?_
                                              refine lv_istore (lv' := [(7, .int (nI a)), (6, .int (lI (cbN (MVp (fun t9 z9 => n t9 ≤ d z9) nt g1 lc1 rr (s0 + 1) a z) (costN wi ti dd (updN g1 a z) nt)))), (12, .int (lI (cbN (MVp (fun t9 z9 => n t9 ≤ d z9) nt g1 lc1 rr (s0 + 1) a z) (costN wi ti dd (updN g1 a z) nt)))), (0, .ref (mx 0)), (1, .int (nI aa)), (2, .int (nI rr)), (3, .int (nI k1)), (4, .int (bB true)), (5, .int (nI (s0 + 1))), (8, .int x8B), (9, .int x9B), (10, .int (nI a)), (11, .int (nI z))]) hx hb dX8_search_282 hl (by decide) rfl (fun ls hl => ?_)
                                              refine lv_iconst (v := (-1 : Int32)) hx hb dX8_search_284 (by decide) ?_
                                              refine lv_istore (lv' := [(8, .int (-1 : Int32)), (7, .int (nI a)), (6, .int (lI (cbN (MVp (fun t9 z9 => n t9 ≤ d z9) nt g1 lc1 rr (s0 + 1) a z) (costN wi ti dd (updN g1 a z) nt)))), (12, .int (lI (cbN (MVp (fun t9 z9 => n t9 ≤ d z9) nt g1 lc1 rr (s0 + 1) a z) (costN wi ti dd (updN g1 a z) nt)))), (0, .ref (mx 0)), (1, .int (nI aa)), (2, .int (nI rr)), (3, .int (nI k1)), (4, .int (bB true)), (5, .int (nI (s0 + 1))), (9, .int x9B), (10, .int (nI a)), (11, .int (nI z))]) hx hb dX8_search_285 hl (by decide) rfl (fun ls hl => ?_)
                                              refine lv_iload hx hb dX8_search_287 (lv_at hl 12 rfl) ?_
                                              refine lv_istore (lv' := [(9, .int (nI z)), (8, .int (-1 : Int32)), (7, .int (nI a)), (6, .int (lI (cbN (MVp (fun t9 z9 => n t9 ≤ d z9) nt g1 lc1 rr (s0 + 1) a z) (costN wi ti dd (updN g1 a z) nt)))), (12, .int (lI (cbN (MVp (fun t9 z9 => n t9 ≤ d z9) nt g1 lc1 rr (s0 + 1) a z) (costN wi ti dd (updN g1 a z) nt)))), (0, .ref (mx 0)), (1, .int (nI aa)), (2, .int (nI rr)), (3, .int (nI k1)), (4, .int (bB true)), (5, .int (nI (s0 + 1))), (10, .int (nI a)), (11, .int (nI z))]) hx hb dX8_search_289 hl (by decide) rfl (fun ls hl => ?_)
                                              refine lv_iinc (v := nI (z + 1)) (lv' := [(11, .int (nI (z + 1))), (9, .int (nI z)), (8, .int (-1 : Int32)), (7, .int (nI a)), (6, .int (lI (cbN (MVp (fun t9 z9 => n t9 ≤ d z9) nt g1 lc1 rr (s0 + 1) a z) (costN wi ti dd (updN g1 a z) nt)))), (12, .int (lI (cbN (MVp (fun t9 z9 => n t9 ≤ d z9) nt g1 lc1 rr (s0 + 1) a z) (costN wi ti dd (updN g1 a z) nt)))), (0, .ref (mx 0)), (1, .int (nI aa)), (2, .int (nI rr)), (3, .int (nI k1)), (4, .int (bB true)), (5, .int (nI (s0 + 1))), (10, .int (nI a))]) hx hb dX8_search_291 hl (k := 12) rfl (z_inc _) (by decide) rfl (fun ls hl => ?_)
                                              refine lv_goto (tgt := 234) hx hb dX8_search_294 (by decide) ?_
                                              exact ih_L234 (z + 1) (lI (cbN (MVp (fun t9 z9 => n t9 ≤ d z9) nt g1 lc1 rr (s0 + 1) a z) (costN wi ti dd (updN g1 a z) nt))) (nI a) (-1 : Int32) (nI z) j_38 (by omega) (by rw [chM2_s]; exact chV_new hcvB hcb9 (c_42)) (by omega) _ _ hP hD hS _ (lv_sub hl [6, 7, 8, 9, 10, 11, 4, 3, 2, 1, 12, 0] rfl)
                                  exact L234 _ 0 x6 x7 x8 x9 t2 (by omega) (by rw [chM2_0]; exact hcv) (Nat.lt_succ_self _) _ _ hP hD hS _ (lv_sub hl [1, 2, 3, 4, 5, 6, 7, 8, 9, 10, 11, 0] rfl)
                            exact L222 _ 0 x6 x7 x8 x9 t2 (by omega) (by rw [chM_0]; have e9 : a = nt := (by omega); rw [e9] at hcv; exact hcv) (Nat.lt_succ_self _) _ _ hP hD hS _ (lv_sub hl [1, 2, 3, 4, 5, 6, 7, 8, 9, 10, 0] rfl)
                          · have c_23 := z_nle (by omega) (by omega) c_23
                            refine lv_iload hx hb dX8_search_132 (lv_at hl 10 rfl) ?_
                            refine lv_iconst (v := nI 1) hx hb dX8_search_134 (by decide) ?_
                            refine r_addn hx hb dX8_search_135 ?_
                            refine lv_istore (lv' := [(11, .int (nI (a + 1))), (0, .ref (mx 0)), (1, .int (nI aa)), (2, .int (nI rr)), (3, .int (nI k1)), (4, .int (bB true)), (5, .int (nI (s0 + 1))), (6, .int x6), (7, .int x7), (8, .int x8), (9, .int x9), (10, .int (nI a))]) hx hb dX8_search_136 hl (by decide) rfl (fun ls hl => ?_)
                            have L138 : ∀ (n9 : Nat) (b : Nat) (x6B : Int32) (x7B : Int32) (x8B : Int32) (x9B : Int32) (t2B : Nat → Int32), (a < b) → (b ≤ nt) → (chV (chE2 (fun g9 => costN wi ti dd g9 nt) (fun t9 z9 => n t9 ≤ d z9) nt g1 lc1 rr (s0 + 1) a b) x6B x7B x8B x9B) → (nt - b) < n9 → ∀ (H : Heap) (locs : List Loc), va_P D vwCl (wMo mx cI cZ w (nI nz) q d (nI nt) pr mw mt z1 ke j_13 j_14 t2B b1 c1 (nI (as2 (nI 1) (bB (decide (cnt (fun u9 => !decide (zo u9 = -1)) nt = nt)))))) H → va_D A (wMo mx cI cZ w (nI nz) q d (nI nt) pr mw mt z1 ke j_13 j_14 t2B b1 c1 (nI (as2 (nI 1) (bB (decide (cnt (fun u9 => !decide (zo u9 = -1)) nt = nt)))))) → va_S A s.heap H locs → ∀ (ls : Array Slot), lv_has ls 13 [(0, .ref (mx 0)), (1, .int (nI aa)), (2, .int (nI rr)), (3, .int (nI k1)), (4, .int (bB true)), (5, .int (nI (s0 + 1))), (6, .int x6B), (7, .int x7B), (8, .int x8B), (9, .int x9B), (10, .int (nI a)), (11, .int (nI b))] → W p l e ({ frames := 5, cells := 0, slots := 0, locals := 112 } : Room) s m ([.ref (mx 0), .int (nI aa), .int (nI rr)] : List Value).toArray below meth c H locs 0 0 (MQ below (va_Qi (fun (r9 : Int32) (u9 : Int32 × Nat × (Nat → Int32) × (Nat → Int32) × (Nat → Int32) × (Nat → Int32) × (Nat → Int32) × (Nat → Int32) × (Nat → Nat)) => (r9 = u9.1) ∧ (sSearch nt nz n d wi ti dd g (nI aa) (nI rr) u9.2.1 u9.1 u9.2.2.2.2.2.2.2.2) ∧ (pOK nt u9.2.2.1 u9.2.2.2.2.2.2.2.2)) (rw_B D A (fun u9 : Int32 × Nat × (Nat → Int32) × (Nat → Int32) × (Nat → Int32) × (Nat → Int32) × (Nat → Int32) × (Nat → Int32) × (Nat → Nat) => wMo mx cI cZ w (nI nz) q d (nI nt) pr mw mt u9.2.2.1 ke u9.2.2.2.1 u9.2.2.2.2.1 u9.2.2.2.2.2.1 u9.2.2.2.2.2.2.1 u9.2.2.2.2.2.2.2.1 (nI u9.2.1))) A) ([.ref (mx 0), .int (nI aa), .int (nI rr)] : List Value).toArray s 0 0 A) (F0 m 138 ls []) := by
                              intro n9
                              induction n9 with
                              | zero =>
                                intro b x6B x7B x8B x9B t2B hab hbn hcvB hm
                                exact absurd hm (by omega)
                              | succ n9 ih =>
                                intro b x6B x7B x8B x9B t2B hab hbn hcvB hm H locs hP hD hS ls hl
                                have ih_L138 := ih
                                refine lv_iload hx hb dX8_search_138 (lv_at hl 11 rfl) ?_
                                refine lv_aload_n hx hb dX8_search_140 rfl (lv_at hl 0 rfl) ?_
                                refine va_get (D := D) (ci := 8) (v := .int (nI nt)) (C := RX8) (T := TX8) (N := 16) hx hb hts tu_X8 hown hSt.1 hP 0 rfl rfl 4 (by decide) (hts _ t3_224) (fun _ h9 => h9) rfl dX8_search_141 ?_
                                refine lv_icmp_ge (tgt := 213) hx hb dX8_search_144 (by decide) (fun c_43 => ?_) (fun c_43 => ?_)
                                · have c_43 := z_le (by omega) (by omega) c_43
                                  refine lv_iinc (v := nI (a + 1)) (lv' := [(10, .int (nI (a + 1))), (0, .ref (mx 0)), (1, .int (nI aa)), (2, .int (nI rr)), (3, .int (nI k1)), (4, .int (bB true)), (5, .int (nI (s0 + 1))), (6, .int x6B), (7, .int x7B), (8, .int x8B), (9, .int x9B), (11, .int (nI b))]) hx hb dX8_search_213 hl (k := 10) rfl (z_inc _) (by decide) rfl (fun ls hl => ?_)
                                  refine lv_goto (tgt := 123) hx hb dX8_search_216 (by decide) ?_
                                  exact ih_L123 (a + 1) x6B x7B x8B x9B t2B (by omega) (by rw [chE_s (by omega)]; have e9 : b = nt := (by omega); rw [e9] at hcvB; exact hcvB) (by omega) _ _ hP hD hS _ (lv_sub hl [1, 2, 3, 4, 5, 6, 7, 8, 9, 10, 0] rfl)
                                · have c_43 := z_nle (by omega) (by omega) c_43
                                  refine lv_aload_n hx hb dX8_search_147 rfl (lv_at hl 0 rfl) ?_
                                  refine lv_iload hx hb dX8_search_148 (lv_at hl 10 rfl) ?_
                                  refine lv_iload hx hb dX8_search_150 (lv_at hl 11 rfl) ?_
                                  refine lv_aload_n hx hb dX8_search_152 rfl (lv_at hl 0 rfl) ?_
                                  refine va_get (D := D) (ci := 8) (v := .ref (mx 7)) (C := RX8) (T := TX8) (N := 16) hx hb hts tu_X8 hown hSt.1 hP 0 rfl rfl 8 (by decide) (hts _ t3_228) (fun _ h9 => h9) rfl dX8_search_153 ?_
                                  refine lv_iload hx hb dX8_search_156 (lv_at hl 11 rfl) ?_
                                  refine r_iald hx hb hSt.1 hP 7 0 rfl rfl (k := b) (by omega) (by omega) dX8_search_158 ?_
                                  refine lv_as (y := nI (g1 b)) ((hz1 b (by omega)).trans (zI_lt (by have h7 := aP_lt haP1 (t := b) (by omega); omega))) ?_
                                  refine lv_iload hx hb dX8_search_159 (lv_at hl 5 rfl) ?_
                                  refine lv_iload_n hx hb dX8_search_161 rfl (lv_at hl 2 rfl) ?_
                                  refine rw_i (wr := ([] : va_W)) (w_V (As := [.int (nI a), .int (nI b), .int (nI (g1 b)), .int (nI (s0 + 1)), .int (nI rr)]) ⟨hx, hb, hml, hown, hts⟩ (c_X8_costBehind_ex l D cI cZ cQ cJ mx w nz q d nt pr mw mt z1 ke j_13 j_14 t2B b1 c1 (nI (as2 (nI 1) (bB (decide (cnt (fun u9 => !decide (zo u9 = -1)) nt = nt))))) pp n wi ti dd g1 (fun t => zI (g1 t)) lc1 rr (s0 + 1) a b H.size (by first | assumption | omega) (by first | assumption | omega) (by first | assumption | omega) (by first | assumption | omega) (by first | assumption | omega) (by first | assumption | omega) hwy9 (by first | assumption | omega) hz1 (fun t _ => rfl) hvg1 haP1 hc1 (fun t => by have h7 := hl1 t; omega) (by omega) (by omega) (by first | assumption | omega) (by first | assumption | omega) (by omega)) (gV t4_155 t4_157 t0_37 t1_10 t4_158) rfl rfl hd_X8_costBehind ⟨Nat.le_of_ble_eq_true rfl, Nat.le_of_ble_eq_true rfl⟩ (rw_pre hP hD hSt [0, 1, 2, 3, 4, 5, 6, 7, 8, 9, 10, 11, 12, 13] rfl (by decide)) (va_recv hSt.1 hP (ci := 8) (q0 := 0) rfl rfl) rfl hl.1 (rest := []) rfl (Nat.le_of_ble_eq_true rfl) dX8_search_162 ⟨Nat.le_of_ble_eq_true rfl, Nat.le_of_ble_eq_true rfl⟩) hP hD hS hA [0, 1, 2, 3, 4, 5, 6, 7, 8, 9, 10, 11, 12, 13] [] rfl rfl (by decide) (by decide) (fun r_9 u_45 H locs hw9 hP hD hS => ?_)
                                  obtain ⟨j_44, rfl⟩ : ∃ z9, z9 = u_45 := ⟨_, rfl⟩
                                  have er_9 := hw9
                                  replace er_9 := er_9.symm
                                  subst er_9
                                  have hP : va_P D vwCl (wMo mx cI cZ w (nI nz) q d (nI nt) pr mw mt z1 ke j_13 j_14 j_44 b1 c1 (nI (as2 (nI 1) (bB (decide (cnt (fun u9 => !decide (zo u9 = -1)) nt = nt)))))) H := hP
                                  have hD : va_D A (wMo mx cI cZ w (nI nz) q d (nI nt) pr mw mt z1 ke j_13 j_14 j_44 b1 c1 (nI (as2 (nI 1) (bB (decide (cnt (fun u9 => !decide (zo u9 = -1)) nt = nt)))))) := hD
                                  have hx9 : (EXx (fun g9 => costN wi ti dd g9 nt) g1 a b).1 < 1000000 := Nat.lt_of_le_of_lt (costN_le hv (fun t ht => gOK_swp (gOK_aP haP1) (by omega) (by omega) t (by omega)) hnt hnz) (by omega)
                                  refine lv_istore (lv' := [(12, .int (lI (cbN (EXp (fun t9 z9 => n t9 ≤ d z9) g1 lc1 rr (s0 + 1) a b) (costN wi ti dd (swp g1 a b) nt)))), (0, .ref (mx 0)), (1, .int (nI aa)), (2, .int (nI rr)), (3, .int (nI k1)), (4, .int (bB true)), (5, .int (nI (s0 + 1))), (6, .int x6B), (7, .int x7B), (8, .int x8B), (9, .int x9B), (10, .int (nI a)), (11, .int (nI b))]) hx hb dX8_search_165 hl (by decide) rfl (fun ls hl => ?_)
                                  refine lv_iload hx hb dX8_search_167 (lv_at hl 0 rfl) ?_
                                  refine lv_iconst (v := (-1 : Int32)) hx hb dX8_search_169 (by decide) ?_
                                  refine lv_icmp_eq (tgt := 207) hx hb dX8_search_170 (by decide) (fun c_46 => ?_) (fun c_46 => ?_)
                                  · refine lv_iinc (v := nI (b + 1)) (lv' := [(11, .int (nI (b + 1))), (12, .int (lI (cbN (EXp (fun t9 z9 => n t9 ≤ d z9) g1 lc1 rr (s0 + 1) a b) (costN wi ti dd (swp g1 a b) nt)))), (0, .ref (mx 0)), (1, .int (nI aa)), (2, .int (nI rr)), (3, .int (nI k1)), (4, .int (bB true)), (5, .int (nI (s0 + 1))), (6, .int x6B), (7, .int x7B), (8, .int x8B), (9, .int x9B), (10, .int (nI a))]) hx hb dX8_search_207 hl (k := 12) rfl (z_inc _) (by decide) rfl (fun ls hl => ?_)
                                    refine lv_goto (tgt := 138) hx hb dX8_search_210 (by decide) ?_
                                    exact ih_L138 (b + 1) x6B x7B x8B x9B j_44 (by omega) (by omega) (by rw [chE2_s (by omega)]; exact chV_no hcvB (lI_none c_46) hx9) (by omega) _ _ hP hD hS _ (lv_sub hl [2, 3, 4, 5, 6, 7, 8, 9, 10, 11, 12, 0] rfl)
                                  · have hcb9 : cbN (EXp (fun t9 z9 => n t9 ≤ d z9) g1 lc1 rr (s0 + 1) a b) (EXx (fun g9 => costN wi ti dd g9 nt) g1 a b).1 < 1000000 := lI_some c_46
                                    have hcb8 : cbN (EXp (fun t9 z9 => n t9 ≤ d z9) g1 lc1 rr (s0 + 1) a b) (costN wi ti dd (swp g1 a b) nt) < 1000000 := hcb9
                                    refine lv_iload hx hb dX8_search_173 (lv_at hl 7 rfl) ?_
                                    refine lv_iconst (v := (-1 : Int32)) hx hb dX8_search_175 (by decide) ?_
                                    refine lv_icmp_eq (tgt := 186) hx hb dX8_search_176 (by decide) (fun c_47 => ?_) (fun c_47 => ?_)
                                    · refine lv_iload hx hb dX8_search_186 (lv_at hl 0 rfl) ?_
                                      refine lv_istore (lv' := [(6, .int (lI (cbN (EXp (fun t9 z9 => n t9 ≤ d z9) g1 lc1 rr (s0 + 1) a b) (costN wi ti dd (swp g1 a b) nt)))), (12, .int (lI (cbN (EXp (fun t9 z9 => n t9 ≤ d z9) g1 lc1 rr (s0 + 1) a b) (costN wi ti dd (swp g1 a b) nt)))), (0, .ref (mx 0)), (1, .int (nI aa)), (2, .int (nI rr)), (3, .int (nI k1)), (4, .int (bB true)), (5, .int (nI (s0 + 1))), (7, .int x7B), (8, .int x8B), (9, .int x9B), (10, .int (nI a)), (11, .int (nI b))]) hx hb dX8_search_188 hl (by decide) rfl (fun ls hl => ?_)
                                      refine lv_iload hx hb dX8_search_190 (lv_at hl 11 rfl) ?_
                                      refine lv_istore (lv' := [(7, .int (nI a)), (6, .int (lI (cbN (EXp (fun t9 z9 => n t9 ≤ d z9) g1 lc1 rr (s0 + 1) a b) (costN wi ti dd (swp g1 a b) nt)))), (12, .int (lI (cbN (EXp (fun t9 z9 => n t9 ≤ d z9) g1 lc1 rr (s0 + 1) a b) (costN wi ti dd (swp g1 a b) nt)))), (0, .ref (mx 0)), (1, .int (nI aa)), (2, .int (nI rr)), (3, .int (nI k1)), (4, .int (bB true)), (5, .int (nI (s0 + 1))), (8, .int x8B), (9, .int x9B), (10, .int (nI a)), (11, .int (nI b))]) hx hb dX8_search_192 hl (by decide) rfl (fun ls hl => ?_)
                                      refine lv_iload hx hb dX8_search_194 (lv_at hl 12 rfl) ?_
                                      refine lv_istore (lv' := [(8, .int (nI b)), (7, .int (nI a)), (6, .int (lI (cbN (EXp (fun t9 z9 => n t9 ≤ d z9) g1 lc1 rr (s0 + 1) a b) (costN wi ti dd (swp g1 a b) nt)))), (12, .int (lI (cbN (EXp (fun t9 z9 => n t9 ≤ d z9) g1 lc1 rr (s0 + 1) a b) (costN wi ti dd (swp g1 a b) nt)))), (0, .ref (mx 0)), (1, .int (nI aa)), (2, .int (nI rr)), (3, .int (nI k1)), (4, .int (bB true)), (5, .int (nI (s0 + 1))), (9, .int x9B), (10, .int (nI a)), (11, .int (nI b))]) hx hb dX8_search_196 hl (by decide) rfl (fun ls hl => ?_)
                                      refine lv_aload_n hx hb dX8_search_198 rfl (lv_at hl 4 rfl) ?_
                                      refine va_get (D := D) (ci := 8) (v := .ref (mx 7)) (C := RX8) (T := TX8) (N := 16) hx hb hts tu_X8 hown hSt.1 hP 0 rfl rfl 8 (by decide) (hts _ t3_228) (fun _ h9 => h9) rfl dX8_search_199 ?_
                                      refine lv_iload hx hb dX8_search_202 (lv_at hl 12 rfl) ?_
                                      refine r_iald hx hb hSt.1 hP 7 0 rfl rfl (k := b) (by omega) (by omega) dX8_search_204 ?_
                                      refine lv_as (y := nI (g1 b)) ((hz1 b (by omega)).trans (zI_lt (by have h7 := aP_lt haP1 (t := b) (by omega); omega))) ?_
                                      refine lv_istore (lv' := [(9, .int (nI (g1 b))), (8, .int (nI b)), (7, .int (nI a)), (6, .int (lI (cbN (EXp (fun t9 z9 => n t9 ≤ d z9) g1 lc1 rr (s0 + 1) a b) (costN wi ti dd (swp g1 a b) nt)))), (12, .int (lI (cbN (EXp (fun t9 z9 => n t9 ≤ d z9) g1 lc1 rr (s0 + 1) a b) (costN wi ti dd (swp g1 a b) nt)))), (0, .ref (mx 0)), (1, .int (nI aa)), (2, .int (nI rr)), (3, .int (nI k1)), (4, .int (bB true)), (5, .int (nI (s0 + 1))), (10, .int (nI a)), (11, .int (nI b))]) hx hb dX8_search_205 hl (by decide) rfl (fun ls hl => ?_)
                                      refine lv_iinc (v := nI (b + 1)) (lv' := [(11, .int (nI (b + 1))), (9, .int (nI (g1 b))), (8, .int (nI b)), (7, .int (nI a)), (6, .int (lI (cbN (EXp (fun t9 z9 => n t9 ≤ d z9) g1 lc1 rr (s0 + 1) a b) (costN wi ti dd (swp g1 a b) nt)))), (12, .int (lI (cbN (EXp (fun t9 z9 => n t9 ≤ d z9) g1 lc1 rr (s0 + 1) a b) (costN wi ti dd (swp g1 a b) nt)))), (0, .ref (mx 0)), (1, .int (nI aa)), (2, .int (nI rr)), (3, .int (nI k1)), (4, .int (bB true)), (5, .int (nI (s0 + 1))), (10, .int (nI a))]) hx hb dX8_search_207 hl (k := 12) rfl (z_inc _) (by decide) rfl (fun ls hl => ?_)
                                      refine lv_goto (tgt := 138) hx hb dX8_search_210 (by decide) ?_
                                      exact ih_L138 (b + 1) (lI (cbN (EXp (fun t9 z9 => n t9 ≤ d z9) g1 lc1 rr (s0 + 1) a b) (costN wi ti dd (swp g1 a b) nt))) (nI a) (nI b) (nI (g1 b)) j_44 (by omega) (by omega) (by rw [chE2_s (by omega), ← zI_lt (show b < 7 by omega)]; exact chV_new hcvB hcb9 (by have h7 := lI_none (hcvB.1.symm.trans c_47); omega)) (by omega) _ _ hP hD hS _ (lv_sub hl [6, 7, 8, 9, 10, 11, 4, 3, 2, 1, 12, 0] rfl)
                                    · refine lv_iload hx hb dX8_search_179 (lv_at hl 0 rfl) ?_
                                      refine lv_as (y := nI (cbN (EXp (fun t9 z9 => n t9 ≤ d z9) g1 lc1 rr (s0 + 1) a b) (costN wi ti dd (swp g1 a b) nt))) (lI_lt hcb9) ?_
                                      refine lv_iload hx hb dX8_search_181 (lv_at hl 7 rfl) ?_
                                      have h66 := lI_some (fun q9 => c_47 (hcvB.1.trans q9))
                                      refine lv_as (y := nI ((chE2 (fun g9 => costN wi ti dd g9 nt) (fun t9 z9 => n t9 ≤ d z9) nt g1 lc1 rr (s0 + 1) a b).1)) (hcvB.1.trans (lI_lt h66)) ?_
                                      refine lv_icmp_ge (tgt := 207) hx hb dX8_search_183 (by decide) (fun c_48 => ?_) (fun c_48 => ?_)
                                      · have c_48 := z_le (by omega) (by omega) c_48
                                        refine lv_iinc (v := nI (b + 1)) (lv' := [(11, .int (nI (b + 1))), (12, .int (lI (cbN (EXp (fun t9 z9 => n t9 ≤ d z9) g1 lc1 rr (s0 + 1) a b) (costN wi ti dd (swp g1 a b) nt)))), (0, .ref (mx 0)), (1, .int (nI aa)), (2, .int (nI rr)), (3, .int (nI k1)), (4, .int (bB true)), (5, .int (nI (s0 + 1))), (6, .int x6B), (7, .int x7B), (8, .int x8B), (9, .int x9B), (10, .int (nI a))]) hx hb dX8_search_207 hl (k := 12) rfl (z_inc _) (by decide) rfl (fun ls hl => ?_)
                                        refine lv_goto (tgt := 138) hx hb dX8_search_210 (by decide) ?_
                                        exact ih_L138 (b + 1) x6B x7B x8B x9B j_44 (by omega) (by omega) (by rw [chE2_s (by omega)]; exact chV_worse hcvB hcb9 c_48) (by omega) _ _ hP hD hS _ (lv_sub hl [2, 3, 4, 5, 6, 7, 8, 9, 10, 11, 12, 0] rfl)
                                      · have c_48 := z_nle (by omega) (by omega) c_48
                                        refine lv_iload hx hb dX8_search_186 (lv_at hl 0 rfl) ?_
                                        refine lv_istore (lv' := [(6, .int (lI (cbN (EXp (fun t9 z9 => n t9 ≤ d z9) g1 lc1 rr (s0 + 1) a b) (costN wi ti dd (swp g1 a b) nt)))), (12, .int (lI (cbN (EXp (fun t9 z9 => n t9 ≤ d z9) g1 lc1 rr (s0 + 1) a b) (costN wi ti dd (swp g1 a b) nt)))), (0, .ref (mx 0)), (1, .int (nI aa)), (2, .int (nI rr)), (3, .int (nI k1)), (4, .int (bB true)), (5, .int (nI (s0 + 1))), (7, .int x7B), (8, .int x8B), (9, .int x9B), (10, .int (nI a)), (11, .int (nI b))]) hx hb dX8_search_188 hl (by decide) rfl (fun ls hl => ?_)
                                        refine lv_iload hx hb dX8_search_190 (lv_at hl 11 rfl) ?_
                                        refine lv_istore (lv' := [(7, .int (nI a)), (6, .int (lI (cbN (EXp (fun t9 z9 => n t9 ≤ d z9) g1 lc1 rr (s0 + 1) a b) (costN wi ti dd (swp g1 a b) nt)))), (12, .int (lI (cbN (EXp (fun t9 z9 => n t9 ≤ d z9) g1 lc1 rr (s0 + 1) a b) (costN wi ti dd (swp g1 a b) nt)))), (0, .ref (mx 0)), (1, .int (nI aa)), (2, .int (nI rr)), (3, .int (nI k1)), (4, .int (bB true)), (5, .int (nI (s0 + 1))), (8, .int x8B), (9, .int x9B), (10, .int (nI a)), (11, .int (nI b))]) hx hb dX8_search_192 hl (by decide) rfl (fun ls hl => ?_)
                                        refine lv_iload hx hb dX8_search_194 (lv_at hl 12 rfl) ?_
                                        refine lv_istore (lv' := [(8, .int (nI b)), (7, .int (nI a)), (6, .int (lI (cbN (EXp (fun t9 z9 => n t9 ≤ d z9) g1 lc1 rr (s0 + 1) a b) (costN wi ti dd (swp g1 a b) nt)))), (12, .int (lI (cbN (EXp (fun t9 z9 => n t9 ≤ d z9) g1 lc1 rr (s0 + 1) a b) (costN wi ti dd (swp g1 a b) nt)))), (0, .ref (mx 0)), (1, .int (nI aa)), (2, .int (nI rr)), (3, .int (nI k1)), (4, .int (bB true)), (5, .int (nI (s0 + 1))), (9, .int x9B), (10, .int (nI a)), (11, .int (nI b))]) hx hb dX8_search_196 hl (by decide) rfl (fun ls hl => ?_)
                                        refine lv_aload_n hx hb dX8_search_198 rfl (lv_at hl 4 rfl) ?_
                                        refine va_get (D := D) (ci := 8) (v := .ref (mx 7)) (C := RX8) (T := TX8) (N := 16) hx hb hts tu_X8 hown hSt.1 hP 0 rfl rfl 8 (by decide) (hts _ t3_228) (fun _ h9 => h9) rfl dX8_search_199 ?_
                                        refine lv_iload hx hb dX8_search_202 (lv_at hl 12 rfl) ?_
                                        refine r_iald hx hb hSt.1 hP 7 0 rfl rfl (k := b) (by omega) (by omega) dX8_search_204 ?_
                                        refine lv_as (y := nI (g1 b)) ((hz1 b (by omega)).trans (zI_lt (by have h7 := aP_lt haP1 (t := b) (by omega); omega))) ?_
                                        refine lv_istore (lv' := [(9, .int (nI (g1 b))), (8, .int (nI b)), (7, .int (nI a)), (6, .int (lI (cbN (EXp (fun t9 z9 => n t9 ≤ d z9) g1 lc1 rr (s0 + 1) a b) (costN wi ti dd (swp g1 a b) nt)))), (12, .int (lI (cbN (EXp (fun t9 z9 => n t9 ≤ d z9) g1 lc1 rr (s0 + 1) a b) (costN wi ti dd (swp g1 a b) nt)))), (0, .ref (mx 0)), (1, .int (nI aa)), (2, .int (nI rr)), (3, .int (nI k1)), (4, .int (bB true)), (5, .int (nI (s0 + 1))), (10, .int (nI a)), (11, .int (nI b))]) hx hb dX8_search_205 hl (by decide) rfl (fun ls hl => ?_)
                                        refine lv_iinc (v := nI (b + 1)) (lv' := [(11, .int (nI (b + 1))), (9, .int (nI (g1 b))), (8, .int (nI b)), (7, .int (nI a)), (6, .int (lI (cbN (EXp (fun t9 z9 => n t9 ≤ d z9) g1 lc1 rr (s0 + 1) a b) (costN wi ti dd (swp g1 a b) nt)))), (12, .int (lI (cbN (EXp (fun t9 z9 => n t9 ≤ d z9) g1 lc1 rr (s0 + 1) a b) (costN wi ti dd (swp g1 a b) nt)))), (0, .ref (mx 0)), (1, .int (nI aa)), (2, .int (nI rr)), (3, .int (nI k1)), (4, .int (bB true)), (5, .int (nI (s0 + 1))), (10, .int (nI a))]) hx hb dX8_search_207 hl (k := 12) rfl (z_inc _) (by decide) rfl (fun ls hl => ?_)
                                        refine lv_goto (tgt := 138) hx hb dX8_search_210 (by decide) ?_
                                        exact ih_L138 (b + 1) (lI (cbN (EXp (fun t9 z9 => n t9 ≤ d z9) g1 lc1 rr (s0 + 1) a b) (costN wi ti dd (swp g1 a b) nt))) (nI a) (nI b) (nI (g1 b)) j_44 (by omega) (by omega) (by rw [chE2_s (by omega), ← zI_lt (show b < 7 by omega)]; exact chV_new hcvB hcb9 (c_48)) (by omega) _ _ hP hD hS _ (lv_sub hl [6, 7, 8, 9, 10, 11, 4, 3, 2, 1, 12, 0] rfl)
                            exact L138 _ (a + 1) x6 x7 x8 x9 t2 (by omega) (by omega) (by rw [chE2_0]; exact hcv) (Nat.lt_succ_self _) _ _ hP hD hS _ (lv_sub hl [1, 2, 3, 4, 5, 6, 7, 8, 9, 10, 11, 0] rfl)
                      exact L123 _ 0 (-1 : Int32) (-1 : Int32) (-1 : Int32) (-1 : Int32) t1 (by omega) chV_0 (Nat.lt_succ_self _) _ _ hP hD hS _ (lv_sub hl [5, 6, 7, 8, 9, 10, 4, 3, 2, 1, 0] rfl)
              exact L97 _ 0 true g (fun _ => 0) (costN wi ti dd g nt) g zo b1 c1 tr (by omega) rfl hzo (fun t ht => by rw [hb1 t (by omega)]; exact hzo t ht) (fun t ht => by rw [hc1 t (by omega)]; rfl) (fun t => Nat.zero_le _) (by omega) (Nat.lt_succ_self _) _ _ hP hD hS _ (lv_sub hl [2, 3, 4, 5, 1, 0] rfl)
            · have c_17 := z_nle (by omega) (by omega) c_17
              refine lv_aload_n hx hb dX8_search_62 rfl (lv_at hl 0 rfl) ?_
              refine va_get (D := D) (ci := 8) (v := .ref (mx 12)) (C := RX8) (T := TX8) (N := 16) hx hb hts tu_X8 hown hSt.1 hP 0 rfl rfl 13 (by decide) (hts _ t3_233) (fun _ h9 => h9) rfl dX8_search_63 ?_
              refine lv_iload hx hb dX8_search_66 (lv_at hl 4 rfl) ?_
              refine lv_aload_n hx hb dX8_search_68 rfl (lv_at hl 0 rfl) ?_
              refine va_get (D := D) (ci := 8) (v := .ref (mx 7)) (C := RX8) (T := TX8) (N := 16) hx hb hts tu_X8 hown hSt.1 hP 0 rfl rfl 8 (by decide) (hts _ t3_228) (fun _ h9 => h9) rfl dX8_search_69 ?_
              refine lv_iload hx hb dX8_search_72 (lv_at hl 4 rfl) ?_
              refine r_iald hx hb hSt.1 hP 7 0 rfl rfl (k := i) (by omega) (by omega) dX8_search_74 ?_
              refine r_iast hx hb hSt.1 hP hD hS 12 0 rfl rfl (k := i) (by omega) (by omega) dX8_search_75 (fun H locs hP hD hS => ?_)
              have hP : va_P D vwCl (wMo mx cI cZ w (nI nz) q d (nI nt) pr mw mt zo ke j_13 j_14 tr (upd b1 i (zo i)) c1 (nI (as2 (nI 1) (bB (decide (cnt (fun u9 => !decide (zo u9 = -1)) nt = nt)))))) H := hP
              have hD : va_D A (wMo mx cI cZ w (nI nz) q d (nI nt) pr mw mt zo ke j_13 j_14 tr (upd b1 i (zo i)) c1 (nI (as2 (nI 1) (bB (decide (cnt (fun u9 => !decide (zo u9 = -1)) nt = nt)))))) := hD
              refine lv_aload_n hx hb dX8_search_76 rfl (lv_at hl 0 rfl) ?_
              refine va_get (D := D) (ci := 8) (v := .ref (mx 13)) (C := RX8) (T := TX8) (N := 16) hx hb hts tu_X8 hown hSt.1 hP 0 rfl rfl 14 (by decide) (hts _ t3_234) (fun _ h9 => h9) rfl dX8_search_77 ?_
              refine lv_iload hx hb dX8_search_80 (lv_at hl 4 rfl) ?_
              refine lv_bipush (v := (-10 : Int32)) hx hb dX8_search_82 (by decide) ?_
              refine r_iast hx hb hSt.1 hP hD hS 13 0 rfl rfl (k := i) (by omega) (by omega) dX8_search_84 (fun H locs hP hD hS => ?_)
              have hP : va_P D vwCl (wMo mx cI cZ w (nI nz) q d (nI nt) pr mw mt zo ke j_13 j_14 tr (upd b1 i (zo i)) (upd c1 i (-10 : Int32)) (nI (as2 (nI 1) (bB (decide (cnt (fun u9 => !decide (zo u9 = -1)) nt = nt)))))) H := hP
              have hD : va_D A (wMo mx cI cZ w (nI nz) q d (nI nt) pr mw mt zo ke j_13 j_14 tr (upd b1 i (zo i)) (upd c1 i (-10 : Int32)) (nI (as2 (nI 1) (bB (decide (cnt (fun u9 => !decide (zo u9 = -1)) nt = nt)))))) := hD
              refine lv_iinc (v := nI (i + 1)) (lv' := [(4, .int (nI (i + 1))), (0, .ref (mx 0)), (1, .int (nI aa)), (2, .int (nI rr)), (3, .int (nI (costN wi ti dd g nt)))]) hx hb dX8_search_85 hl (k := 4) rfl (z_inc _) (by decide) rfl (fun ls hl => ?_)
              refine lv_goto (tgt := 53) hx hb dX8_search_88 (by decide) ?_
              exact ih_L53 (i + 1) (upd b1 i (zo i)) (upd c1 i (-10 : Int32)) (by omega) (fun t ht => if e : t = i then (by rw [e, pk_us]) else (by rw [pk_un e]; exact hb1 t (by omega))) (fun t ht => if e : t = i then (by rw [e, pk_us]) else (by rw [pk_un e]; exact hc1 t (by omega))) (by omega) _ _ hP hD hS _ (lv_sub hl [1, 2, 3, 4, 0] rfl)
        exact L53 _ 0 be ch (by omega) (fun t ht => absurd ht (by omega)) (fun t ht => absurd ht (by omega)) (Nat.lt_succ_self _) _ _ hP hD hS _ (lv_sub hl [2, 3, 4, 1, 0] rfl)
      · have c_12 := bI_0.mp c_12
        refine lv_iconst (v := nI 0) hx hb dX8_search_35 (by decide) ?_
        have hP9 : va_P D vwCl (wMo mx cI cZ w (nI nz) q d (nI nt) pr mw mt zo ke wy st tr be ch (nI (as2 (nI 1) (bB (decide (cnt (fun u9 => !decide (zo u9 = -1)) nt = nt)))))) H := hP
        have hD9 : va_D A (wMo mx cI cZ w (nI nz) q d (nI nt) pr mw mt zo ke wy st tr be ch (nI (as2 (nI 1) (bB (decide (cnt (fun u9 => !decide (zo u9 = -1)) nt = nt)))))) := hD
        have g_49 : sSearch nt nz n d wi ti dd g (nI aa) (nI rr) (as2 (nI 1) (bB (decide (cnt (fun u9 => !decide (zo u9 = -1)) nt = nt)))) (nI 0) g := by rcases as2_c (nI 1) (bB (decide (cnt (fun u9 => !decide (zo u9 = -1)) nt = nt))) with q9 | q9 | q9; exact absurd q9.1 nI1; exact Or.inr (Or.inl ⟨⟨⟨aa, h1_aa, h2_aa, rfl⟩, ⟨rr, h1_rr, h2_rr, rfl⟩⟩, fun h9 => of_decide_eq_false (bB_0 q9.2.1) (pl_cnt.mpr ((pl_all hzo).mpr h9)), q9.2.2, rfl⟩); exact absurd q9.2.2 c_12
        have g_50 : pOK nt zo g := hzo
        exact W.iret (v := nI 0) hx hb hr (fun t9 ht9 hW9 => ⟨⟨nI 0, (nI 0, as2 (nI 1) (bB (decide (cnt (fun u9 => !decide (zo u9 = -1)) nt = nt))), zo, wy, st, tr, be, ch, g), rfl, ⟨rfl, g_49, g_50⟩, by rw [ht9]; exact hP9, hD9⟩, hS.F ht9⟩) hS.2.2 dX8_search_36
theorem hd_X8_placeByWishes : yX8_placeByWishes.cls = RX8 ∧ yX8_placeByWishes.cls ≠ "java/lang/invoke/MethodHandle" ∧ yX8_placeByWishes.cls ≠ "java/lang/invoke/VarHandle" ∧ (parseMethodDescriptor yX8_placeByWishes.desc).map (fun d => d.parameters.length) = some 0 := by decide +kernel
theorem hd_X8_placeBest : yX8_placeBest.cls = RX8 ∧ yX8_placeBest.cls ≠ "java/lang/invoke/MethodHandle" ∧ yX8_placeBest.cls ≠ "java/lang/invoke/VarHandle" ∧ (parseMethodDescriptor yX8_placeBest.desc).map (fun d => d.parameters.length) = some 0 := by decide +kernel
theorem hd_X8_leastWishCost : yX8_leastWishCost.cls = RX8 ∧ yX8_leastWishCost.cls ≠ "java/lang/invoke/MethodHandle" ∧ yX8_leastWishCost.cls ≠ "java/lang/invoke/VarHandle" ∧ (parseMethodDescriptor yX8_leastWishCost.desc).map (fun d => d.parameters.length) = some 0 := by decide +kernel
theorem hd_X8_distance : yX8_distance.cls = RX8 ∧ yX8_distance.cls ≠ "java/lang/invoke/MethodHandle" ∧ yX8_distance.cls ≠ "java/lang/invoke/VarHandle" ∧ (parseMethodDescriptor yX8_distance.desc).map (fun d => d.parameters.length) = some 2 := by decide +kernel
theorem hd_X8_wishCost : yX8_wishCost.cls = RX8 ∧ yX8_wishCost.cls ≠ "java/lang/invoke/MethodHandle" ∧ yX8_wishCost.cls ≠ "java/lang/invoke/VarHandle" ∧ (parseMethodDescriptor yX8_wishCost.desc).map (fun d => d.parameters.length) = some 0 := by decide +kernel
theorem hd_X8_cost : yX8_cost.cls = RX8 ∧ yX8_cost.cls ≠ "java/lang/invoke/MethodHandle" ∧ yX8_cost.cls ≠ "java/lang/invoke/VarHandle" ∧ (parseMethodDescriptor yX8_cost.desc).map (fun d => d.parameters.length) = some 0 := by decide +kernel
theorem hd_X8_search : yX8_search.cls = RX8 ∧ yX8_search.cls ≠ "java/lang/invoke/MethodHandle" ∧ yX8_search.cls ≠ "java/lang/invoke/VarHandle" ∧ (parseMethodDescriptor yX8_search.desc).map (fun d => d.parameters.length) = some 2 := by decide +kernel
