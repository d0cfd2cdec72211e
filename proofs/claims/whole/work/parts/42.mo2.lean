set_option maxHeartbeats 4000000 in
set_option maxRecDepth 100000 in
theorem c_X8_setPresent (l : Launch) (D : va_G) (cI cZ cQ cJ : ClassId) (mx : Nat → Nat) (w : Nat → Int32) (nz : Nat) (q : Nat → Int32) (d : Nat → Int32) (nt : Nat) (pr : Nat → Int32) (mw : Nat → Int32) (mt : Nat → Int32) (zo : Nat → Int32) (ke : Nat → Int32) (wy : Nat → Int32) (st : Nat → Int32) (tr : Nat → Int32) (be : Nat → Int32) (ch : Nat → Int32) (th : Int32) (pp : Nat → Nat → Nat) (n : Nat → Int32) (g : Nat → Nat) (cz : Nat → Int32) (P : Nat → Nat → Int32) (dn : Nat → Nat) (t : Int32) (j9 : Int32) (m9 : Int32) (sz : Nat) (hnz : nz ≤ 7) (hnt : nt ≤ 7) (hpr : ∀ t, t < nt → ∀ j, j < 5 → pr (5 * t + j) = nI (pp t j) ∧ pp t j ≤ 60) (hnn : ∀ t, t < nt → n t = nI (ndN (pp t))) (hzo : pOK nt zo g) (hcz : pOK 7 cz g) (hvg : vG nz nt g) (hpP : ∀ t j, t < 7 → j < 5 → pr (5 * t + j) = P t j) (hdn : ∀ o, o < nz → d o = nI (dn o) ∧ dn o ≤ 60) (hfG : fG nt n d g) : Met l yX8_setPresent (.code yX8_setPresent cX8_setPresent 8 (some .int) :: ALL) ({ frames := 2, cells := 0, slots := 0, locals := 43 } : Room) (va_Pc [.ref (mx 0), .int t, .int j9, .int m9] (rw_P D cI cZ cQ cJ (wMo mx cI cZ w (nI nz) q d (nI nt) pr mw mt zo ke wy st tr be ch th) sz)) (va_Qi (fun (r9 : Int32) (u9 : Int32 × Nat × (Nat → Int32) × (Nat → Nat → Int32) × (Nat → Int32)) => (r9 = u9.1) ∧ (sSetPresent nt P n d cz t j9 m9 u9.2.1 u9.1 u9.2.2.2.1 u9.2.2.2.2) ∧ (∀ t j, t < 7 → j < 5 → u9.2.2.1 (5 * t + j) = u9.2.2.2.1 t j)) (rw_B D (va_A (wMo mx cI cZ w (nI nz) q d (nI nt) pr mw mt zo ke wy st tr be ch th) sz) (fun u9 : Int32 × Nat × (Nat → Int32) × (Nat → Nat → Int32) × (Nat → Int32) => wMo mx cI cZ w (nI nz) q d (nI nt) u9.2.2.1 mw mt zo ke wy st tr be ch (nI u9.2.1))) (va_A (wMo mx cI cZ w (nI nz) q d (nI nt) pr mw mt zo ke wy st tr be ch th) sz)) 0 0 (va_A (wMo mx cI cZ w (nI nz) q d (nI nt) pr mw mt zo ke wy st tr be ch th) sz) := by
  refine Met.ofW (cc := cX8_setPresent) (maxL := 8) (ret := (some .int)) (by decide) rfl ?_
  intro p e s m args below meth c s₁ B hml hv
  obtain ⟨rfl, hsz, hP, hSt, hD0⟩ := hv
  have hx := B.exec
  have hb := B.bytes
  have hr := B.returns
  have hts : ∀ w ∈ ALL, w.before ([.ref (mx 0), .int t, .int j9, .int m9] : List Value).toArray s = true := fun w h => atoms_spec (ws := (.code yX8_setPresent cX8_setPresent 8 (some .int) :: ALL)) B.pre w (List.mem_cons_of_mem _ h)
  have hown : s.vm.findClass RX8 = some m.cls := findClass_of_methodNamed B.named
  have hlocks := B.notSynchronized
  subst hsz
  have hD := hD0.self (sz := s.heap.size)
  clear hD0
  generalize hAe : va_A (wMo mx cI cZ w (nI nz) q d (nI nt) pr mw mt zo ke wy st tr be ch th) s.heap.size = A at hD ⊢
  have hA : ∀ q : Nat, s.heap.size ≤ q → A q := fun q h => by rw [← hAe]; exact Or.inr h
  have hS : va_S A s.heap s.heap [] := va_S.rf
  have hl := lv_entry ([.ref (mx 0), .int t, .int j9, .int m9]) (n := 8) (Nat.le_of_ble_eq_true rfl)
  rw [lg_entry_eq]
  generalize (lg_sl ([.ref (mx 0), .int t, .int j9, .int m9]) ++ List.replicate (8 - (lg_sl ([.ref (mx 0), .int t, .int j9, .int m9])).length) Slot.unset).toArray = ls at hl ⊢
  have hl : lv_has ls 8 [(0, .ref (mx 0)), (1, .int t), (2, .int j9), (3, .int m9)] := hl
  obtain ⟨H, hHe⟩ : ∃ H : Heap, H = s.heap := ⟨_, rfl⟩
  obtain ⟨locs, hLe⟩ : ∃ L : List Loc, L = [] := ⟨_, rfl⟩
  have hP : va_P D vwCl (wMo mx cI cZ w (nI nz) q d (nI nt) pr mw mt zo ke wy st tr be ch th) H := by rw [hHe]; exact hP
  have hS : va_S A s.heap H locs := by rw [hHe, hLe]; exact hS
  refine W.eqHL hHe hLe ?_
  refine lv_aload_n hx hb dX8_setPresent_0 rfl (lv_at hl 0 rfl) ?_
  refine lv_iload_n hx hb dX8_setPresent_1 rfl (lv_at hl 1 rfl) ?_
  refine ro_V (As := [.int t]) (rest := []) (v := bI (inI t (nI 0) (nI nt - nI 1))) ⟨hx, hb, hml, hown, hts⟩ (c_X8_isTeam l D cI cZ cQ cJ mx w nz q d nt pr mw mt zo ke wy st tr be ch th t) (gV t4_87 t4_89 t0_26 t1_10 t4_90) rfl rfl hd_X8_isTeam ⟨Nat.le_of_ble_eq_true rfl, Nat.le_of_ble_eq_true rfl⟩ hP hSt (va_recv hSt.1 hP (ci := 8) (q0 := 0) rfl rfl) rfl hl.1 rfl (Nat.le_of_ble_eq_true rfl) dX8_setPresent_2 (Nat.zero_le _) (Nat.zero_le _) ?_
  refine lv_if_eq (tgt := 21) hx hb dX8_setPresent_5 (by decide) (fun c_1 => ?_) (fun c_1 => ?_)
  · have c_1 := bI_0.mp c_1
    refine lv_iconst (v := nI 0) hx hb dX8_setPresent_21 (by decide) ?_
    refine lv_istore (lv' := [(4, .int (nI 0)), (0, .ref (mx 0)), (1, .int t), (2, .int j9), (3, .int m9)]) hx hb dX8_setPresent_22 hl (by decide) rfl (fun ls hl => ?_)
    refine lv_iload_n hx hb dX8_setPresent_24 rfl (lv_at hl 4 rfl) ?_
    refine lv_iconst (v := nI 0) hx hb dX8_setPresent_25 (by decide) ?_
    refine lv_bipush (v := nI 60) hx hb dX8_setPresent_26 (by decide) ?_
    refine ro_S (As := [.int m9, .int (nI 0), .int (nI 60)]) (rest := []) (v := bI (inI m9 (nI 0) (nI 60))) ⟨hx, hb, hml, hown, hts⟩ (c_X8_in l D cI cZ cQ cJ m9 (nI 0) (nI 60)) (gS t4_40 t4_41 t1_10 t4_42) rfl rfl hd_X8_in ⟨Nat.le_of_ble_eq_true rfl, Nat.le_of_ble_eq_true rfl⟩ va_P_nil hSt rfl hl.1 rfl (Nat.le_of_ble_eq_true rfl) dX8_setPresent_28 (Nat.zero_le _) (Nat.zero_le _) ?_
    refine lv_istore (lv' := [(5, .int (bI (inI m9 (nI 0) (nI 60)))), (4, .int (nI 0)), (0, .ref (mx 0)), (1, .int t), (2, .int j9), (3, .int m9)]) hx hb dX8_setPresent_31 hl (by decide) rfl (fun ls hl => ?_)
    refine lv_iload hx hb dX8_setPresent_33 (lv_at hl 1 rfl) ?_
    refine lv_if_eq (tgt := 51) hx hb dX8_setPresent_35 (by decide) (fun c_2 => ?_) (fun c_2 => ?_)
    · refine lv_iconst (v := nI 0) hx hb dX8_setPresent_51 (by decide) ?_
      refine lv_istore (lv' := [(6, .int (nI 0)), (5, .int (bI (inI m9 (nI 0) (nI 60)))), (4, .int (nI 0)), (0, .ref (mx 0)), (1, .int t), (2, .int j9), (3, .int m9)]) hx hb dX8_setPresent_52 hl (by decide) rfl (fun ls hl => ?_)
      refine lv_iload hx hb dX8_setPresent_54 (lv_at hl 2 rfl) ?_
      refine lv_if_eq (tgt := 89) hx hb dX8_setPresent_56 (by decide) (fun c_3 => ?_) (fun c_3 => ?_)
      · refine lv_iconst (v := nI 1) hx hb dX8_setPresent_89 (by decide) ?_
        refine lv_goto (tgt := 94) hx hb dX8_setPresent_90 (by decide) ?_
        refine lv_istore (lv' := [(7, .int (nI 1)), (6, .int (nI 0)), (5, .int (bI (inI m9 (nI 0) (nI 60)))), (4, .int (nI 0)), (0, .ref (mx 0)), (1, .int t), (2, .int j9), (3, .int m9)]) hx hb dX8_setPresent_94 hl (by decide) rfl (fun ls hl => ?_)
        refine lv_aload_n hx hb dX8_setPresent_96 rfl (lv_at hl 4 rfl) ?_
        refine lv_iload hx hb dX8_setPresent_97 (lv_at hl 3 rfl) ?_
        refine lv_iload hx hb dX8_setPresent_99 (lv_at hl 2 rfl) ?_
        refine lv_iload hx hb dX8_setPresent_101 (lv_at hl 0 rfl) ?_
        refine rw_i (wr := ([] : va_W)) (w_V (As := [.int (nI 0), .int (bI (inI m9 (nI 0) (nI 60))), .int (nI 1)]) ⟨hx, hb, hml, hown, hts⟩ (c_X8_asked__ l D cI cZ cQ cJ mx w nz q d nt pr mw mt zo ke wy st tr be ch th (nI 0) (bI (inI m9 (nI 0) (nI 60))) (nI 1) H.size) (gV t4_55 t4_57 t0_21 t1_10 t4_58) rfl rfl hd_X8_asked__ ⟨Nat.le_of_ble_eq_true rfl, Nat.le_of_ble_eq_true rfl⟩ (rw_pre hP hD hSt [0, 1, 2, 3, 4, 5, 6, 7, 8, 9, 10, 11, 12, 13] rfl (by decide)) (va_recv hSt.1 hP (ci := 8) (q0 := 0) rfl rfl) rfl hl.1 (rest := []) rfl (Nat.le_of_ble_eq_true rfl) dX8_setPresent_103 ⟨Nat.le_of_ble_eq_true rfl, Nat.le_of_ble_eq_true rfl⟩) hP hD hS hA [0, 1, 2, 3, 4, 5, 6, 7, 8, 9, 10, 11, 12, 13] [] rfl rfl (by decide) (by decide) (fun r_9 u_4 H locs hw9 hP hD hS => ?_)
        have er_9 := hw9
        replace er_9 := er_9.symm
        subst er_9
        have hP : va_P D vwCl (wMo mx cI cZ w (nI nz) q d (nI nt) pr mw mt zo ke wy st tr be ch (nI (as3 (nI 0) (bI (inI m9 (nI 0) (nI 60))) (nI 1)))) H := hP
        have hD : va_D A (wMo mx cI cZ w (nI nz) q d (nI nt) pr mw mt zo ke wy st tr be ch (nI (as3 (nI 0) (bI (inI m9 (nI 0) (nI 60))) (nI 1)))) := hD
        refine lv_if_ne (tgt := 111) hx hb dX8_setPresent_106 (by decide) (fun c_5 => ?_) (fun c_5 => ?_)
        · have c_5 := bI_n0.mp c_5
          exact absurd nI0 (as3_0 c_5).1
        · have c_5 := bI_0.mp c_5
          refine lv_iconst (v := nI 0) hx hb dX8_setPresent_109 (by decide) ?_
          have hP9 : va_P D vwCl (wMo mx cI cZ w (nI nz) q d (nI nt) pr mw mt zo ke wy st tr be ch (nI (as3 (nI 0) (bI (inI m9 (nI 0) (nI 60))) (nI 1)))) H := hP
          have hD9 : va_D A (wMo mx cI cZ w (nI nz) q d (nI nt) pr mw mt zo ke wy st tr be ch (nI (as3 (nI 0) (bI (inI m9 (nI 0) (nI 60))) (nI 1)))) := hD
          have g_6 : sSetPresent nt P n d cz t j9 m9 (as3 (nI 0) (bI (inI m9 (nI 0) (nI 60))) (nI 1)) (nI 0) P n := Or.inl ⟨fun q9 => c_1 ((inI_N (n := nt) (by omega)).mpr q9.1), if_pos nI0, rfl, rfl⟩
          have g_7 : ∀ t j, t < 7 → j < 5 → pr (5 * t + j) = P t j := hpP
          exact W.iret (v := nI 0) hx hb hr (fun t9 ht9 hW9 => ⟨⟨nI 0, (nI 0, as3 (nI 0) (bI (inI m9 (nI 0) (nI 60))) (nI 1), pr, P, n), rfl, ⟨rfl, g_6, g_7⟩, by rw [ht9]; exact hP9, hD9⟩, hS.F ht9⟩) hS.2.2 dX8_setPresent_110
      · exact absurd c_3 (by decide)
    · exact absurd c_2 (by decide)
  · have c_1 := bI_n0.mp c_1
    obtain ⟨tt, h_tt, rfl⟩ := (inI_N (n := nt) (by omega)).mp c_1
    refine lv_iload_n hx hb dX8_setPresent_8 rfl (lv_at hl 2 rfl) ?_
    refine lv_iconst (v := nI 0) hx hb dX8_setPresent_9 (by decide) ?_
    refine lv_iconst (v := nI 4) hx hb dX8_setPresent_10 (by decide) ?_
    refine ro_S (As := [.int j9, .int (nI 0), .int (nI 4)]) (rest := []) (v := bI (inI j9 (nI 0) (nI 4))) ⟨hx, hb, hml, hown, hts⟩ (c_X8_in l D cI cZ cQ cJ j9 (nI 0) (nI 4)) (gS t4_40 t4_41 t1_10 t4_42) rfl rfl hd_X8_in ⟨Nat.le_of_ble_eq_true rfl, Nat.le_of_ble_eq_true rfl⟩ va_P_nil hSt rfl hl.1 rfl (Nat.le_of_ble_eq_true rfl) dX8_setPresent_11 (Nat.zero_le _) (Nat.zero_le _) ?_
    refine lv_if_eq (tgt := 21) hx hb dX8_setPresent_14 (by decide) (fun c_8 => ?_) (fun c_8 => ?_)
    · have c_8 := bI_0.mp c_8
      refine lv_iconst (v := nI 0) hx hb dX8_setPresent_21 (by decide) ?_
      refine lv_istore (lv' := [(4, .int (nI 0)), (0, .ref (mx 0)), (1, .int (nI tt)), (2, .int j9), (3, .int m9)]) hx hb dX8_setPresent_22 hl (by decide) rfl (fun ls hl => ?_)
      refine lv_iload_n hx hb dX8_setPresent_24 rfl (lv_at hl 4 rfl) ?_
      refine lv_iconst (v := nI 0) hx hb dX8_setPresent_25 (by decide) ?_
      refine lv_bipush (v := nI 60) hx hb dX8_setPresent_26 (by decide) ?_
      refine ro_S (As := [.int m9, .int (nI 0), .int (nI 60)]) (rest := []) (v := bI (inI m9 (nI 0) (nI 60))) ⟨hx, hb, hml, hown, hts⟩ (c_X8_in l D cI cZ cQ cJ m9 (nI 0) (nI 60)) (gS t4_40 t4_41 t1_10 t4_42) rfl rfl hd_X8_in ⟨Nat.le_of_ble_eq_true rfl, Nat.le_of_ble_eq_true rfl⟩ va_P_nil hSt rfl hl.1 rfl (Nat.le_of_ble_eq_true rfl) dX8_setPresent_28 (Nat.zero_le _) (Nat.zero_le _) ?_
      refine lv_istore (lv' := [(5, .int (bI (inI m9 (nI 0) (nI 60)))), (4, .int (nI 0)), (0, .ref (mx 0)), (1, .int (nI tt)), (2, .int j9), (3, .int m9)]) hx hb dX8_setPresent_31 hl (by decide) rfl (fun ls hl => ?_)
      refine lv_iload hx hb dX8_setPresent_33 (lv_at hl 1 rfl) ?_
      refine lv_if_eq (tgt := 51) hx hb dX8_setPresent_35 (by decide) (fun c_9 => ?_) (fun c_9 => ?_)
      · refine lv_iconst (v := nI 0) hx hb dX8_setPresent_51 (by decide) ?_
        refine lv_istore (lv' := [(6, .int (nI 0)), (5, .int (bI (inI m9 (nI 0) (nI 60)))), (4, .int (nI 0)), (0, .ref (mx 0)), (1, .int (nI tt)), (2, .int j9), (3, .int m9)]) hx hb dX8_setPresent_52 hl (by decide) rfl (fun ls hl => ?_)
        refine lv_iload hx hb dX8_setPresent_54 (lv_at hl 2 rfl) ?_
        refine lv_if_eq (tgt := 89) hx hb dX8_setPresent_56 (by decide) (fun c_10 => ?_) (fun c_10 => ?_)
        · refine lv_iconst (v := nI 1) hx hb dX8_setPresent_89 (by decide) ?_
          refine lv_goto (tgt := 94) hx hb dX8_setPresent_90 (by decide) ?_
          refine lv_istore (lv' := [(7, .int (nI 1)), (6, .int (nI 0)), (5, .int (bI (inI m9 (nI 0) (nI 60)))), (4, .int (nI 0)), (0, .ref (mx 0)), (1, .int (nI tt)), (2, .int j9), (3, .int m9)]) hx hb dX8_setPresent_94 hl (by decide) rfl (fun ls hl => ?_)
          refine lv_aload_n hx hb dX8_setPresent_96 rfl (lv_at hl 4 rfl) ?_
          refine lv_iload hx hb dX8_setPresent_97 (lv_at hl 3 rfl) ?_
          refine lv_iload hx hb dX8_setPresent_99 (lv_at hl 2 rfl) ?_
          refine lv_iload hx hb dX8_setPresent_101 (lv_at hl 0 rfl) ?_
          refine rw_i (wr := ([] : va_W)) (w_V (As := [.int (nI 0), .int (bI (inI m9 (nI 0) (nI 60))), .int (nI 1)]) ⟨hx, hb, hml, hown, hts⟩ (c_X8_asked__ l D cI cZ cQ cJ mx w nz q d nt pr mw mt zo ke wy st tr be ch th (nI 0) (bI (inI m9 (nI 0) (nI 60))) (nI 1) H.size) (gV t4_55 t4_57 t0_21 t1_10 t4_58) rfl rfl hd_X8_asked__ ⟨Nat.le_of_ble_eq_true rfl, Nat.le_of_ble_eq_true rfl⟩ (rw_pre hP hD hSt [0, 1, 2, 3, 4, 5, 6, 7, 8, 9, 10, 11, 12, 13] rfl (by decide)) (va_recv hSt.1 hP (ci := 8) (q0 := 0) rfl rfl) rfl hl.1 (rest := []) rfl (Nat.le_of_ble_eq_true rfl) dX8_setPresent_103 ⟨Nat.le_of_ble_eq_true rfl, Nat.le_of_ble_eq_true rfl⟩) hP hD hS hA [0, 1, 2, 3, 4, 5, 6, 7, 8, 9, 10, 11, 12, 13] [] rfl rfl (by decide) (by decide) (fun r_9 u_11 H locs hw9 hP hD hS => ?_)
          have er_9 := hw9
          replace er_9 := er_9.symm
          subst er_9
          have hP : va_P D vwCl (wMo mx cI cZ w (nI nz) q d (nI nt) pr mw mt zo ke wy st tr be ch (nI (as3 (nI 0) (bI (inI m9 (nI 0) (nI 60))) (nI 1)))) H := hP
          have hD : va_D A (wMo mx cI cZ w (nI nz) q d (nI nt) pr mw mt zo ke wy st tr be ch (nI (as3 (nI 0) (bI (inI m9 (nI 0) (nI 60))) (nI 1)))) := hD
          refine lv_if_ne (tgt := 111) hx hb dX8_setPresent_106 (by decide) (fun c_12 => ?_) (fun c_12 => ?_)
          · have c_12 := bI_n0.mp c_12
            exact absurd nI0 (as3_0 c_12).1
          · have c_12 := bI_0.mp c_12
            refine lv_iconst (v := nI 0) hx hb dX8_setPresent_109 (by decide) ?_
            have hP9 : va_P D vwCl (wMo mx cI cZ w (nI nz) q d (nI nt) pr mw mt zo ke wy st tr be ch (nI (as3 (nI 0) (bI (inI m9 (nI 0) (nI 60))) (nI 1)))) H := hP
            have hD9 : va_D A (wMo mx cI cZ w (nI nz) q d (nI nt) pr mw mt zo ke wy st tr be ch (nI (as3 (nI 0) (bI (inI m9 (nI 0) (nI 60))) (nI 1)))) := hD
            have g_13 : sSetPresent nt P n d cz (nI tt) j9 m9 (as3 (nI 0) (bI (inI m9 (nI 0) (nI 60))) (nI 1)) (nI 0) P n := Or.inl ⟨fun q9 => c_8 (inI_5.mpr q9.2), if_pos nI0, rfl, rfl⟩
            have g_14 : ∀ t j, t < 7 → j < 5 → pr (5 * t + j) = P t j := hpP
            exact W.iret (v := nI 0) hx hb hr (fun t9 ht9 hW9 => ⟨⟨nI 0, (nI 0, as3 (nI 0) (bI (inI m9 (nI 0) (nI 60))) (nI 1), pr, P, n), rfl, ⟨rfl, g_13, g_14⟩, by rw [ht9]; exact hP9, hD9⟩, hS.F ht9⟩) hS.2.2 dX8_setPresent_110
        · exact absurd c_10 (by decide)
      · exact absurd c_9 (by decide)
    · have c_8 := bI_n0.mp c_8
      obtain ⟨jj, h_jj, rfl⟩ := inI_5.mp c_8
      refine lv_iconst (v := nI 1) hx hb dX8_setPresent_17 (by decide) ?_
      refine lv_goto (tgt := 22) hx hb dX8_setPresent_18 (by decide) ?_
      refine lv_istore (lv' := [(4, .int (nI 1)), (0, .ref (mx 0)), (1, .int (nI tt)), (2, .int (nI jj)), (3, .int m9)]) hx hb dX8_setPresent_22 hl (by decide) rfl (fun ls hl => ?_)
      refine lv_iload_n hx hb dX8_setPresent_24 rfl (lv_at hl 4 rfl) ?_
      refine lv_iconst (v := nI 0) hx hb dX8_setPresent_25 (by decide) ?_
      refine lv_bipush (v := nI 60) hx hb dX8_setPresent_26 (by decide) ?_
      refine ro_S (As := [.int m9, .int (nI 0), .int (nI 60)]) (rest := []) (v := bI (inI m9 (nI 0) (nI 60))) ⟨hx, hb, hml, hown, hts⟩ (c_X8_in l D cI cZ cQ cJ m9 (nI 0) (nI 60)) (gS t4_40 t4_41 t1_10 t4_42) rfl rfl hd_X8_in ⟨Nat.le_of_ble_eq_true rfl, Nat.le_of_ble_eq_true rfl⟩ va_P_nil hSt rfl hl.1 rfl (Nat.le_of_ble_eq_true rfl) dX8_setPresent_28 (Nat.zero_le _) (Nat.zero_le _) ?_
      refine lv_istore (lv' := [(5, .int (bI (inI m9 (nI 0) (nI 60)))), (4, .int (nI 1)), (0, .ref (mx 0)), (1, .int (nI tt)), (2, .int (nI jj)), (3, .int m9)]) hx hb dX8_setPresent_31 hl (by decide) rfl (fun ls hl => ?_)
      refine lv_iload hx hb dX8_setPresent_33 (lv_at hl 1 rfl) ?_
      refine lv_if_eq (tgt := 51) hx hb dX8_setPresent_35 (by decide) (fun c_15 => ?_) (fun c_15 => ?_)
      · exact absurd c_15 (by decide)
      · refine lv_aload_n hx hb dX8_setPresent_38 rfl (lv_at hl 2 rfl) ?_
        refine va_get (D := D) (ci := 8) (v := .ref (mx 4)) (C := RX8) (T := TX8) (N := 16) hx hb hts tu_X8 hown hSt.1 hP 0 rfl rfl 5 (by decide) (hts _ t3_225) (fun _ h9 => h9) rfl dX8_setPresent_39 ?_
        refine lv_iconst (v := nI 5) hx hb dX8_setPresent_42 (by decide) ?_
        refine lv_iload_n hx hb dX8_setPresent_43 rfl (lv_at hl 3 rfl) ?_
        refine r_muln hx hb dX8_setPresent_44 ?_
        refine lv_iload_n hx hb dX8_setPresent_45 rfl (lv_at hl 4 rfl) ?_
        refine r_addn hx hb dX8_setPresent_46 ?_
        refine r_iald hx hb hSt.1 hP 4 0 rfl rfl (k := ((5 * tt) + jj)) (by omega) (by omega) dX8_setPresent_47 ?_
        refine lv_goto (tgt := 52) hx hb dX8_setPresent_48 (by decide) ?_
        refine lv_istore (lv' := [(6, .int (pr ((5 * tt) + jj))), (5, .int (bI (inI m9 (nI 0) (nI 60)))), (4, .int (nI 1)), (0, .ref (mx 0)), (1, .int (nI tt)), (2, .int (nI jj)), (3, .int m9)]) hx hb dX8_setPresent_52 hl (by decide) rfl (fun ls hl => ?_)
        refine lv_iload hx hb dX8_setPresent_54 (lv_at hl 2 rfl) ?_
        refine lv_if_eq (tgt := 89) hx hb dX8_setPresent_56 (by decide) (fun c_16 => ?_) (fun c_16 => ?_)
        · exact absurd c_16 (by decide)
        · refine lv_iload hx hb dX8_setPresent_59 (lv_at hl 1 rfl) ?_
          refine lv_if_eq (tgt := 89) hx hb dX8_setPresent_61 (by decide) (fun c_17 => ?_) (fun c_17 => ?_)
          · have c_17 := bI_0.mp c_17
            refine lv_iconst (v := nI 1) hx hb dX8_setPresent_89 (by decide) ?_
            refine lv_goto (tgt := 94) hx hb dX8_setPresent_90 (by decide) ?_
            refine lv_istore (lv' := [(7, .int (nI 1)), (6, .int (pr ((5 * tt) + jj))), (5, .int (bI (inI m9 (nI 0) (nI 60)))), (4, .int (nI 1)), (0, .ref (mx 0)), (1, .int (nI tt)), (2, .int (nI jj)), (3, .int m9)]) hx hb dX8_setPresent_94 hl (by decide) rfl (fun ls hl => ?_)
            refine lv_aload_n hx hb dX8_setPresent_96 rfl (lv_at hl 4 rfl) ?_
            refine lv_iload hx hb dX8_setPresent_97 (lv_at hl 3 rfl) ?_
            refine lv_iload hx hb dX8_setPresent_99 (lv_at hl 2 rfl) ?_
            refine lv_iload hx hb dX8_setPresent_101 (lv_at hl 0 rfl) ?_
            refine rw_i (wr := ([] : va_W)) (w_V (As := [.int (nI 1), .int (bI (inI m9 (nI 0) (nI 60))), .int (nI 1)]) ⟨hx, hb, hml, hown, hts⟩ (c_X8_asked__ l D cI cZ cQ cJ mx w nz q d nt pr mw mt zo ke wy st tr be ch th (nI 1) (bI (inI m9 (nI 0) (nI 60))) (nI 1) H.size) (gV t4_55 t4_57 t0_21 t1_10 t4_58) rfl rfl hd_X8_asked__ ⟨Nat.le_of_ble_eq_true rfl, Nat.le_of_ble_eq_true rfl⟩ (rw_pre hP hD hSt [0, 1, 2, 3, 4, 5, 6, 7, 8, 9, 10, 11, 12, 13] rfl (by decide)) (va_recv hSt.1 hP (ci := 8) (q0 := 0) rfl rfl) rfl hl.1 (rest := []) rfl (Nat.le_of_ble_eq_true rfl) dX8_setPresent_103 ⟨Nat.le_of_ble_eq_true rfl, Nat.le_of_ble_eq_true rfl⟩) hP hD hS hA [0, 1, 2, 3, 4, 5, 6, 7, 8, 9, 10, 11, 12, 13] [] rfl rfl (by decide) (by decide) (fun r_9 u_18 H locs hw9 hP hD hS => ?_)
            have er_9 := hw9
            replace er_9 := er_9.symm
            subst er_9
            have hP : va_P D vwCl (wMo mx cI cZ w (nI nz) q d (nI nt) pr mw mt zo ke wy st tr be ch (nI (as3 (nI 1) (bI (inI m9 (nI 0) (nI 60))) (nI 1)))) H := hP
            have hD : va_D A (wMo mx cI cZ w (nI nz) q d (nI nt) pr mw mt zo ke wy st tr be ch (nI (as3 (nI 1) (bI (inI m9 (nI 0) (nI 60))) (nI 1)))) := hD
            refine lv_if_ne (tgt := 111) hx hb dX8_setPresent_106 (by decide) (fun c_19 => ?_) (fun c_19 => ?_)
            · have c_19 := bI_n0.mp c_19
              exact absurd (bI_0.mpr c_17) (as3_0 c_19).2.1
            · have c_19 := bI_0.mp c_19
              refine lv_iconst (v := nI 0) hx hb dX8_setPresent_109 (by decide) ?_
              have hP9 : va_P D vwCl (wMo mx cI cZ w (nI nz) q d (nI nt) pr mw mt zo ke wy st tr be ch (nI (as3 (nI 1) (bI (inI m9 (nI 0) (nI 60))) (nI 1)))) H := hP
              have hD9 : va_D A (wMo mx cI cZ w (nI nz) q d (nI nt) pr mw mt zo ke wy st tr be ch (nI (as3 (nI 1) (bI (inI m9 (nI 0) (nI 60))) (nI 1)))) := hD
              have g_20 : sSetPresent nt P n d cz (nI tt) (nI jj) m9 (as3 (nI 1) (bI (inI m9 (nI 0) (nI 60))) (nI 1)) (nI 0) P n := Or.inr (Or.inl ⟨⟨⟨tt, h_tt, rfl⟩, ⟨jj, h_jj, rfl⟩⟩, fun h9 => c_17 ((inI_R (lo := 0) (hi := 60) (by omega) (by omega)).mpr h9), by unfold as3; rw [if_neg nI1, if_pos (bI_0.mpr c_17)], rfl, rfl⟩)
              have g_21 : ∀ t j, t < 7 → j < 5 → pr (5 * t + j) = P t j := hpP
              exact W.iret (v := nI 0) hx hb hr (fun t9 ht9 hW9 => ⟨⟨nI 0, (nI 0, as3 (nI 1) (bI (inI m9 (nI 0) (nI 60))) (nI 1), pr, P, n), rfl, ⟨rfl, g_20, g_21⟩, by rw [ht9]; exact hP9, hD9⟩, hS.F ht9⟩) hS.2.2 dX8_setPresent_110
          · have c_17 := bI_n0.mp c_17
            obtain ⟨m0, _, hm0, rfl⟩ := (inI_R (lo := 0) (hi := 60) (by omega) (by omega)).mp c_17
            refine lv_aload_n hx hb dX8_setPresent_64 rfl (lv_at hl 3 rfl) ?_
            refine va_get (D := D) (ci := 8) (v := .ref (mx 7)) (C := RX8) (T := TX8) (N := 16) hx hb hts tu_X8 hown hSt.1 hP 0 rfl rfl 8 (by decide) (hts _ t3_228) (fun _ h9 => h9) rfl dX8_setPresent_65 ?_
            refine lv_iload_n hx hb dX8_setPresent_68 rfl (lv_at hl 4 rfl) ?_
            refine r_iald hx hb hSt.1 hP 7 0 rfl rfl (k := tt) (by omega) (by omega) dX8_setPresent_69 ?_
            refine lv_as (y := zI (g tt)) (hzo tt (by omega)) ?_
            refine lv_iconst (v := (-1 : Int32)) hx hb dX8_setPresent_70 (by decide) ?_
            refine lv_icmp_eq (tgt := 89) hx hb dX8_setPresent_71 (by decide) (fun c_22 => ?_) (fun c_22 => ?_)
            · refine lv_iconst (v := nI 1) hx hb dX8_setPresent_89 (by decide) ?_
              refine lv_goto (tgt := 94) hx hb dX8_setPresent_90 (by decide) ?_
              refine lv_istore (lv' := [(7, .int (nI 1)), (6, .int (pr ((5 * tt) + jj))), (5, .int (bI (inI (nI m0) (nI 0) (nI 60)))), (4, .int (nI 1)), (0, .ref (mx 0)), (1, .int (nI tt)), (2, .int (nI jj)), (3, .int (nI m0))]) hx hb dX8_setPresent_94 hl (by decide) rfl (fun ls hl => ?_)
              refine lv_aload_n hx hb dX8_setPresent_96 rfl (lv_at hl 4 rfl) ?_
              refine lv_iload hx hb dX8_setPresent_97 (lv_at hl 3 rfl) ?_
              refine lv_iload hx hb dX8_setPresent_99 (lv_at hl 2 rfl) ?_
              refine lv_iload hx hb dX8_setPresent_101 (lv_at hl 0 rfl) ?_
              refine rw_i (wr := ([] : va_W)) (w_V (As := [.int (nI 1), .int (bI (inI (nI m0) (nI 0) (nI 60))), .int (nI 1)]) ⟨hx, hb, hml, hown, hts⟩ (c_X8_asked__ l D cI cZ cQ cJ mx w nz q d nt pr mw mt zo ke wy st tr be ch th (nI 1) (bI (inI (nI m0) (nI 0) (nI 60))) (nI 1) H.size) (gV t4_55 t4_57 t0_21 t1_10 t4_58) rfl rfl hd_X8_asked__ ⟨Nat.le_of_ble_eq_true rfl, Nat.le_of_ble_eq_true rfl⟩ (rw_pre hP hD hSt [0, 1, 2, 3, 4, 5, 6, 7, 8, 9, 10, 11, 12, 13] rfl (by decide)) (va_recv hSt.1 hP (ci := 8) (q0 := 0) rfl rfl) rfl hl.1 (rest := []) rfl (Nat.le_of_ble_eq_true rfl) dX8_setPresent_103 ⟨Nat.le_of_ble_eq_true rfl, Nat.le_of_ble_eq_true rfl⟩) hP hD hS hA [0, 1, 2, 3, 4, 5, 6, 7, 8, 9, 10, 11, 12, 13] [] rfl rfl (by decide) (by decide) (fun r_9 u_23 H locs hw9 hP hD hS => ?_)
              have er_9 := hw9
              replace er_9 := er_9.symm
              subst er_9
              have hP : va_P D vwCl (wMo mx cI cZ w (nI nz) q d (nI nt) pr mw mt zo ke wy st tr be ch (nI (as3 (nI 1) (bI (inI (nI m0) (nI 0) (nI 60))) (nI 1)))) H := hP
              have hD : va_D A (wMo mx cI cZ w (nI nz) q d (nI nt) pr mw mt zo ke wy st tr be ch (nI (as3 (nI 1) (bI (inI (nI m0) (nI 0) (nI 60))) (nI 1)))) := hD
              refine lv_if_ne (tgt := 111) hx hb dX8_setPresent_106 (by decide) (fun c_24 => ?_) (fun c_24 => ?_)
              · have c_24 := bI_n0.mp c_24
                refine lv_aload_n hx hb dX8_setPresent_111 rfl (lv_at hl 4 rfl) ?_
                refine va_get (D := D) (ci := 8) (v := .ref (mx 4)) (C := RX8) (T := TX8) (N := 16) hx hb hts tu_X8 hown hSt.1 hP 0 rfl rfl 5 (by decide) (hts _ t3_225) (fun _ h9 => h9) rfl dX8_setPresent_112 ?_
                refine lv_iconst (v := nI 5) hx hb dX8_setPresent_115 (by decide) ?_
                refine lv_iload_n hx hb dX8_setPresent_116 rfl (lv_at hl 5 rfl) ?_
                refine r_muln hx hb dX8_setPresent_117 ?_
                refine lv_iload_n hx hb dX8_setPresent_118 rfl (lv_at hl 6 rfl) ?_
                refine r_addn hx hb dX8_setPresent_119 ?_
                refine lv_iload_n hx hb dX8_setPresent_120 rfl (lv_at hl 7 rfl) ?_
                refine r_iast hx hb hSt.1 hP hD hS 4 0 rfl rfl (k := ((5 * tt) + jj)) (by omega) (by omega) dX8_setPresent_121 (fun H locs hP hD hS => ?_)
                have hP : va_P D vwCl (wMo mx cI cZ w (nI nz) q d (nI nt) (upd pr ((5 * tt) + jj) (nI m0)) mw mt zo ke wy st tr be ch (nI (as3 (nI 1) (bI (inI (nI m0) (nI 0) (nI 60))) (nI 1)))) H := hP
                have hD : va_D A (wMo mx cI cZ w (nI nz) q d (nI nt) (upd pr ((5 * tt) + jj) (nI m0)) mw mt zo ke wy st tr be ch (nI (as3 (nI 1) (bI (inI (nI m0) (nI 0) (nI 60))) (nI 1)))) := hD
                refine lv_iload hx hb dX8_setPresent_122 (lv_at hl 1 rfl) ?_
                have hP9 : va_P D vwCl (wMo mx cI cZ w (nI nz) q d (nI nt) (upd pr ((5 * tt) + jj) (nI m0)) mw mt zo ke wy st tr be ch (nI (as3 (nI 1) (bI (inI (nI m0) (nI 0) (nI 60))) (nI 1)))) H := hP
                have hD9 : va_D A (wMo mx cI cZ w (nI nz) q d (nI nt) (upd pr ((5 * tt) + jj) (nI m0)) mw mt zo ke wy st tr be ch (nI (as3 (nI 1) (bI (inI (nI m0) (nI 0) (nI 60))) (nI 1)))) := hD
                have g_25 : sSetPresent nt P n d cz (nI tt) (nI jj) (nI m0) (as3 (nI 1) (bI (inI (nI m0) (nI 0) (nI 60))) (nI 1)) (pr ((5 * tt) + jj)) (u2 P tt jj (nI m0)) (upd n tt (mxN (P tt) jj (nI m0) 5)) := Or.inr (Or.inr (Or.inr ⟨⟨⟨tt, h_tt, rfl⟩, ⟨jj, h_jj, rfl⟩⟩, ⟨m0, by omega, hm0, rfl⟩, fun ⟨z8, h8, e8, _⟩ => by rw [nIc (by omega), hcz tt (by omega), c_22] at e8; exact z_m1 (a := z8) (by omega) e8.symm, c_24, by rw [nIc (by omega), nIc (by omega)]; exact hpP tt jj (by omega) h_jj, by rw [nIc (by omega), nIc (by omega)], by rw [nIc (by omega), nIc (by omega)]⟩))
                have g_26 : ∀ t j, t < 7 → j < 5 → (upd pr ((5 * tt) + jj) (nI m0)) (5 * t + j) = (u2 P tt jj (nI m0)) t j := pr_u2 hpP h_jj
                exact W.iret (v := pr ((5 * tt) + jj)) hx hb hr (fun t9 ht9 hW9 => ⟨⟨pr ((5 * tt) + jj), (pr ((5 * tt) + jj), as3 (nI 1) (bI (inI (nI m0) (nI 0) (nI 60))) (nI 1), upd pr ((5 * tt) + jj) (nI m0), u2 P tt jj (nI m0), upd n tt (mxN (P tt) jj (nI m0) 5)), rfl, ⟨rfl, g_25, g_26⟩, by rw [ht9]; exact hP9, hD9⟩, hS.F ht9⟩) hS.2.2 dX8_setPresent_124
              · have c_24 := bI_0.mp c_24
                refine lv_iconst (v := nI 0) hx hb dX8_setPresent_109 (by decide) ?_
                have hP9 : va_P D vwCl (wMo mx cI cZ w (nI nz) q d (nI nt) pr mw mt zo ke wy st tr be ch (nI (as3 (nI 1) (bI (inI (nI m0) (nI 0) (nI 60))) (nI 1)))) H := hP
                have hD9 : va_D A (wMo mx cI cZ w (nI nz) q d (nI nt) pr mw mt zo ke wy st tr be ch (nI (as3 (nI 1) (bI (inI (nI m0) (nI 0) (nI 60))) (nI 1)))) := hD
                have g_27 : sSetPresent nt P n d cz (nI tt) (nI jj) (nI m0) (as3 (nI 1) (bI (inI (nI m0) (nI 0) (nI 60))) (nI 1)) (nI 0) P n := absurd (by unfold as3; rw [if_neg nI1, if_neg (show ¬ bI (inI (nI m0) (nI 0) (nI 60)) = 0 from fun q9 => bI_0.mp q9 ((inI_R (lo := 0) (hi := 60) (by omega) (by omega)).mpr ⟨m0, by omega, hm0, rfl⟩)), if_neg nI1]) c_24
                have g_28 : ∀ t j, t < 7 → j < 5 → pr (5 * t + j) = P t j := hpP
                exact W.iret (v := nI 0) hx hb hr (fun t9 ht9 hW9 => ⟨⟨nI 0, (nI 0, as3 (nI 1) (bI (inI (nI m0) (nI 0) (nI 60))) (nI 1), pr, P, n), rfl, ⟨rfl, g_27, g_28⟩, by rw [ht9]; exact hP9, hD9⟩, hS.F ht9⟩) hS.2.2 dX8_setPresent_110
            · have hg9 := zI_some c_22
              have hgz9 : g tt < nz := by rcases hvg.1 tt with q | q <;> omega
              have hdz := hdn (g tt) hgz9
              have hdz2 := hdz.2
              have hPtt : ∀ j, j < 5 → P tt j = nI (pp tt j) ∧ pp tt j ≤ 60 := fun j hj => by rw [← hpP tt j (by omega) hj]; exact hpr tt h_tt j hj
              have hiff := pres_iff (f := P tt) (p := pp tt) h_jj hm0 hdz.2 hPtt (by rw [← hnn tt h_tt, ← hdz.1]; exact hfG tt h_tt hg9)
              refine lv_iload_n hx hb dX8_setPresent_74 rfl (lv_at hl 6 rfl) ?_
              refine lv_aload_n hx hb dX8_setPresent_75 rfl (lv_at hl 3 rfl) ?_
              refine va_get (D := D) (ci := 8) (v := .ref (mx 3)) (C := RX8) (T := TX8) (N := 16) hx hb hts tu_X8 hown hSt.1 hP 0 rfl rfl 3 (by decide) (hts _ t3_223) (fun _ h9 => h9) rfl dX8_setPresent_76 ?_
              refine lv_aload_n hx hb dX8_setPresent_79 rfl (lv_at hl 3 rfl) ?_
              refine va_get (D := D) (ci := 8) (v := .ref (mx 7)) (C := RX8) (T := TX8) (N := 16) hx hb hts tu_X8 hown hSt.1 hP 0 rfl rfl 8 (by decide) (hts _ t3_228) (fun _ h9 => h9) rfl dX8_setPresent_80 ?_
              refine lv_iload_n hx hb dX8_setPresent_83 rfl (lv_at hl 4 rfl) ?_
              refine r_iald hx hb hSt.1 hP 7 0 rfl rfl (k := tt) (by omega) (by omega) dX8_setPresent_84 ?_
              refine lv_as (y := nI (g tt)) ((hzo tt (by omega)).trans (zI_lt hg9)) ?_
              refine r_iald hx hb hSt.1 hP 3 0 rfl rfl (k := (g tt)) (by omega) (by omega) dX8_setPresent_85 ?_
              refine lv_as (y := nI (dn (g tt))) (hdz.1) ?_
              refine lv_icmp_gt (tgt := 93) hx hb dX8_setPresent_86 (by decide) (fun c_29 => ?_) (fun c_29 => ?_)
              · have c_29 := z_lt (by omega) (by omega) c_29
                refine lv_iconst (v := nI 0) hx hb dX8_setPresent_93 (by decide) ?_
                refine lv_istore (lv' := [(7, .int (nI 0)), (6, .int (pr ((5 * tt) + jj))), (5, .int (bI (inI (nI m0) (nI 0) (nI 60)))), (4, .int (nI 1)), (0, .ref (mx 0)), (1, .int (nI tt)), (2, .int (nI jj)), (3, .int (nI m0))]) hx hb dX8_setPresent_94 hl (by decide) rfl (fun ls hl => ?_)
                refine lv_aload_n hx hb dX8_setPresent_96 rfl (lv_at hl 4 rfl) ?_
                refine lv_iload hx hb dX8_setPresent_97 (lv_at hl 3 rfl) ?_
                refine lv_iload hx hb dX8_setPresent_99 (lv_at hl 2 rfl) ?_
                refine lv_iload hx hb dX8_setPresent_101 (lv_at hl 0 rfl) ?_
                refine rw_i (wr := ([] : va_W)) (w_V (As := [.int (nI 1), .int (bI (inI (nI m0) (nI 0) (nI 60))), .int (nI 0)]) ⟨hx, hb, hml, hown, hts⟩ (c_X8_asked__ l D cI cZ cQ cJ mx w nz q d nt pr mw mt zo ke wy st tr be ch th (nI 1) (bI (inI (nI m0) (nI 0) (nI 60))) (nI 0) H.size) (gV t4_55 t4_57 t0_21 t1_10 t4_58) rfl rfl hd_X8_asked__ ⟨Nat.le_of_ble_eq_true rfl, Nat.le_of_ble_eq_true rfl⟩ (rw_pre hP hD hSt [0, 1, 2, 3, 4, 5, 6, 7, 8, 9, 10, 11, 12, 13] rfl (by decide)) (va_recv hSt.1 hP (ci := 8) (q0 := 0) rfl rfl) rfl hl.1 (rest := []) rfl (Nat.le_of_ble_eq_true rfl) dX8_setPresent_103 ⟨Nat.le_of_ble_eq_true rfl, Nat.le_of_ble_eq_true rfl⟩) hP hD hS hA [0, 1, 2, 3, 4, 5, 6, 7, 8, 9, 10, 11, 12, 13] [] rfl rfl (by decide) (by decide) (fun r_9 u_30 H locs hw9 hP hD hS => ?_)
                have er_9 := hw9
                replace er_9 := er_9.symm
                subst er_9
                have hP : va_P D vwCl (wMo mx cI cZ w (nI nz) q d (nI nt) pr mw mt zo ke wy st tr be ch (nI (as3 (nI 1) (bI (inI (nI m0) (nI 0) (nI 60))) (nI 0)))) H := hP
                have hD : va_D A (wMo mx cI cZ w (nI nz) q d (nI nt) pr mw mt zo ke wy st tr be ch (nI (as3 (nI 1) (bI (inI (nI m0) (nI 0) (nI 60))) (nI 0)))) := hD
                refine lv_if_ne (tgt := 111) hx hb dX8_setPresent_106 (by decide) (fun c_31 => ?_) (fun c_31 => ?_)
                · have c_31 := bI_n0.mp c_31
                  exact absurd nI0 (as3_0 c_31).2.2
                · have c_31 := bI_0.mp c_31
                  refine lv_iconst (v := nI 0) hx hb dX8_setPresent_109 (by decide) ?_
                  have hP9 : va_P D vwCl (wMo mx cI cZ w (nI nz) q d (nI nt) pr mw mt zo ke wy st tr be ch (nI (as3 (nI 1) (bI (inI (nI m0) (nI 0) (nI 60))) (nI 0)))) H := hP
                  have hD9 : va_D A (wMo mx cI cZ w (nI nz) q d (nI nt) pr mw mt zo ke wy st tr be ch (nI (as3 (nI 1) (bI (inI (nI m0) (nI 0) (nI 60))) (nI 0)))) := hD
                  have g_32 : sSetPresent nt P n d cz (nI tt) (nI jj) (nI m0) (as3 (nI 1) (bI (inI (nI m0) (nI 0) (nI 60))) (nI 0)) (nI 0) P n := Or.inr (Or.inr (Or.inl ⟨⟨⟨tt, h_tt, rfl⟩, ⟨jj, h_jj, rfl⟩⟩, ⟨m0, by omega, hm0, rfl⟩, ⟨g tt, hg9, by rw [nIc (by omega), hcz tt (by omega), zI_lt hg9], by rw [nIc (by omega), nIc (by omega), hdz.1]; exact hiff.mpr (nI_lt c_29 (by omega))⟩, by unfold as3; rw [if_neg nI1, if_neg (show ¬ bI (inI (nI m0) (nI 0) (nI 60)) = 0 from fun q9 => bI_0.mp q9 ((inI_R (lo := 0) (hi := 60) (by omega) (by omega)).mpr ⟨m0, by omega, hm0, rfl⟩)), if_pos nI0], rfl, rfl⟩))
                  have g_33 : ∀ t j, t < 7 → j < 5 → pr (5 * t + j) = P t j := hpP
                  exact W.iret (v := nI 0) hx hb hr (fun t9 ht9 hW9 => ⟨⟨nI 0, (nI 0, as3 (nI 1) (bI (inI (nI m0) (nI 0) (nI 60))) (nI 0), pr, P, n), rfl, ⟨rfl, g_32, g_33⟩, by rw [ht9]; exact hP9, hD9⟩, hS.F ht9⟩) hS.2.2 dX8_setPresent_110
              · have c_29 := z_nlt (by omega) (by omega) c_29
                refine lv_iconst (v := nI 1) hx hb dX8_setPresent_89 (by decide) ?_
                refine lv_goto (tgt := 94) hx hb dX8_setPresent_90 (by decide) ?_
                refine lv_istore (lv' := [(7, .int (nI 1)), (6, .int (pr ((5 * tt) + jj))), (5, .int (bI (inI (nI m0) (nI 0) (nI 60)))), (4, .int (nI 1)), (0, .ref (mx 0)), (1, .int (nI tt)), (2, .int (nI jj)), (3, .int (nI m0))]) hx hb dX8_setPresent_94 hl (by decide) rfl (fun ls hl => ?_)
                refine lv_aload_n hx hb dX8_setPresent_96 rfl (lv_at hl 4 rfl) ?_
                refine lv_iload hx hb dX8_setPresent_97 (lv_at hl 3 rfl) ?_
                refine lv_iload hx hb dX8_setPresent_99 (lv_at hl 2 rfl) ?_
                refine lv_iload hx hb dX8_setPresent_101 (lv_at hl 0 rfl) ?_
                refine rw_i (wr := ([] : va_W)) (w_V (As := [.int (nI 1), .int (bI (inI (nI m0) (nI 0) (nI 60))), .int (nI 1)]) ⟨hx, hb, hml, hown, hts⟩ (c_X8_asked__ l D cI cZ cQ cJ mx w nz q d nt pr mw mt zo ke wy st tr be ch th (nI 1) (bI (inI (nI m0) (nI 0) (nI 60))) (nI 1) H.size) (gV t4_55 t4_57 t0_21 t1_10 t4_58) rfl rfl hd_X8_asked__ ⟨Nat.le_of_ble_eq_true rfl, Nat.le_of_ble_eq_true rfl⟩ (rw_pre hP hD hSt [0, 1, 2, 3, 4, 5, 6, 7, 8, 9, 10, 11, 12, 13] rfl (by decide)) (va_recv hSt.1 hP (ci := 8) (q0 := 0) rfl rfl) rfl hl.1 (rest := []) rfl (Nat.le_of_ble_eq_true rfl) dX8_setPresent_103 ⟨Nat.le_of_ble_eq_true rfl, Nat.le_of_ble_eq_true rfl⟩) hP hD hS hA [0, 1, 2, 3, 4, 5, 6, 7, 8, 9, 10, 11, 12, 13] [] rfl rfl (by decide) (by decide) (fun r_9 u_34 H locs hw9 hP hD hS => ?_)
                have er_9 := hw9
                replace er_9 := er_9.symm
                subst er_9
                have hP : va_P D vwCl (wMo mx cI cZ w (nI nz) q d (nI nt) pr mw mt zo ke wy st tr be ch (nI (as3 (nI 1) (bI (inI (nI m0) (nI 0) (nI 60))) (nI 1)))) H := hP
                have hD : va_D A (wMo mx cI cZ w (nI nz) q d (nI nt) pr mw mt zo ke wy st tr be ch (nI (as3 (nI 1) (bI (inI (nI m0) (nI 0) (nI 60))) (nI 1)))) := hD
                refine lv_if_ne (tgt := 111) hx hb dX8_setPresent_106 (by decide) (fun c_35 => ?_) (fun c_35 => ?_)
                · have c_35 := bI_n0.mp c_35
                  refine lv_aload_n hx hb dX8_setPresent_111 rfl (lv_at hl 4 rfl) ?_
                  refine va_get (D := D) (ci := 8) (v := .ref (mx 4)) (C := RX8) (T := TX8) (N := 16) hx hb hts tu_X8 hown hSt.1 hP 0 rfl rfl 5 (by decide) (hts _ t3_225) (fun _ h9 => h9) rfl dX8_setPresent_112 ?_
                  refine lv_iconst (v := nI 5) hx hb dX8_setPresent_115 (by decide) ?_
                  refine lv_iload_n hx hb dX8_setPresent_116 rfl (lv_at hl 5 rfl) ?_
                  refine r_muln hx hb dX8_setPresent_117 ?_
                  refine lv_iload_n hx hb dX8_setPresent_118 rfl (lv_at hl 6 rfl) ?_
                  refine r_addn hx hb dX8_setPresent_119 ?_
                  refine lv_iload_n hx hb dX8_setPresent_120 rfl (lv_at hl 7 rfl) ?_
                  refine r_iast hx hb hSt.1 hP hD hS 4 0 rfl rfl (k := ((5 * tt) + jj)) (by omega) (by omega) dX8_setPresent_121 (fun H locs hP hD hS => ?_)
                  have hP : va_P D vwCl (wMo mx cI cZ w (nI nz) q d (nI nt) (upd pr ((5 * tt) + jj) (nI m0)) mw mt zo ke wy st tr be ch (nI (as3 (nI 1) (bI (inI (nI m0) (nI 0) (nI 60))) (nI 1)))) H := hP
                  have hD : va_D A (wMo mx cI cZ w (nI nz) q d (nI nt) (upd pr ((5 * tt) + jj) (nI m0)) mw mt zo ke wy st tr be ch (nI (as3 (nI 1) (bI (inI (nI m0) (nI 0) (nI 60))) (nI 1)))) := hD
                  refine lv_iload hx hb dX8_setPresent_122 (lv_at hl 1 rfl) ?_
                  have hP9 : va_P D vwCl (wMo mx cI cZ w (nI nz) q d (nI nt) (upd pr ((5 * tt) + jj) (nI m0)) mw mt zo ke wy st tr be ch (nI (as3 (nI 1) (bI (inI (nI m0) (nI 0) (nI 60))) (nI 1)))) H := hP
                  have hD9 : va_D A (wMo mx cI cZ w (nI nz) q d (nI nt) (upd pr ((5 * tt) + jj) (nI m0)) mw mt zo ke wy st tr be ch (nI (as3 (nI 1) (bI (inI (nI m0) (nI 0) (nI 60))) (nI 1)))) := hD
                  have g_36 : sSetPresent nt P n d cz (nI tt) (nI jj) (nI m0) (as3 (nI 1) (bI (inI (nI m0) (nI 0) (nI 60))) (nI 1)) (pr ((5 * tt) + jj)) (u2 P tt jj (nI m0)) (upd n tt (mxN (P tt) jj (nI m0) 5)) := Or.inr (Or.inr (Or.inr ⟨⟨⟨tt, h_tt, rfl⟩, ⟨jj, h_jj, rfl⟩⟩, ⟨m0, by omega, hm0, rfl⟩, fun ⟨z8, h8, e8, l8⟩ => by rw [nIc (by omega), hcz tt (by omega), zI_lt hg9] at e8; have e7 := z_eq (by omega) (by omega) e8; subst e7; rw [nIc (by omega), nIc (by omega), hdz.1] at l8; have l7 := z_lt (by omega) (by omega) (hiff.mp l8); omega, c_35, by rw [nIc (by omega), nIc (by omega)]; exact hpP tt jj (by omega) h_jj, by rw [nIc (by omega), nIc (by omega)], by rw [nIc (by omega), nIc (by omega)]⟩))
                  have g_37 : ∀ t j, t < 7 → j < 5 → (upd pr ((5 * tt) + jj) (nI m0)) (5 * t + j) = (u2 P tt jj (nI m0)) t j := pr_u2 hpP h_jj
                  exact W.iret (v := pr ((5 * tt) + jj)) hx hb hr (fun t9 ht9 hW9 => ⟨⟨pr ((5 * tt) + jj), (pr ((5 * tt) + jj), as3 (nI 1) (bI (inI (nI m0) (nI 0) (nI 60))) (nI 1), upd pr ((5 * tt) + jj) (nI m0), u2 P tt jj (nI m0), upd n tt (mxN (P tt) jj (nI m0) 5)), rfl, ⟨rfl, g_36, g_37⟩, by rw [ht9]; exact hP9, hD9⟩, hS.F ht9⟩) hS.2.2 dX8_setPresent_124
                · have c_35 := bI_0.mp c_35
                  refine lv_iconst (v := nI 0) hx hb dX8_setPresent_109 (by decide) ?_
                  have hP9 : va_P D vwCl (wMo mx cI cZ w (nI nz) q d (nI nt) pr mw mt zo ke wy st tr be ch (nI (as3 (nI 1) (bI (inI (nI m0) (nI 0) (nI 60))) (nI 1)))) H := hP
                  have hD9 : va_D A (wMo mx cI cZ w (nI nz) q d (nI nt) pr mw mt zo ke wy st tr be ch (nI (as3 (nI 1) (bI (inI (nI m0) (nI 0) (nI 60))) (nI 1)))) := hD
                  have g_38 : sSetPresent nt P n d cz (nI tt) (nI jj) (nI m0) (as3 (nI 1) (bI (inI (nI m0) (nI 0) (nI 60))) (nI 1)) (nI 0) P n := absurd (by unfold as3; rw [if_neg nI1, if_neg (show ¬ bI (inI (nI m0) (nI 0) (nI 60)) = 0 from fun q9 => bI_0.mp q9 ((inI_R (lo := 0) (hi := 60) (by omega) (by omega)).mpr ⟨m0, by omega, hm0, rfl⟩)), if_neg nI1]) c_35
                  have g_39 : ∀ t j, t < 7 → j < 5 → pr (5 * t + j) = P t j := hpP
                  exact W.iret (v := nI 0) hx hb hr (fun t9 ht9 hW9 => ⟨⟨nI 0, (nI 0, as3 (nI 1) (bI (inI (nI m0) (nI 0) (nI 60))) (nI 1), pr, P, n), rfl, ⟨rfl, g_38, g_39⟩, by rw [ht9]; exact hP9, hD9⟩, hS.F ht9⟩) hS.2.2 dX8_setPresent_110
set_option maxHeartbeats 4000000 in
set_option maxRecDepth 100000 in
theorem c_X8_setWish (l : Launch) (D : va_G) (cI cZ cQ cJ : ClassId) (mx : Nat → Nat) (w : Nat → Int32) (nz : Nat) (q : Nat → Int32) (d : Nat → Int32) (nt : Nat) (pr : Nat → Int32) (mw : Nat → Int32) (mt : Nat → Int32) (zo : Nat → Int32) (ke : Nat → Int32) (wy : Nat → Int32) (st : Nat → Int32) (tr : Nat → Int32) (be : Nat → Int32) (ch : Nat → Int32) (th : Int32) (Wf : Nat → Nat → Int32) (t : Int32) (z : Int32) (m9 : Int32) (sz : Nat) (hnz : nz ≤ 7) (hnt : nt ≤ 7) (hmW : ∀ t j, t < 7 → j < 7 → mw (7 * t + j) = Wf t j) : Met l yX8_setWish (.code yX8_setWish cX8_setWish 5 (some .int) :: ALL) ({ frames := 2, cells := 0, slots := 0, locals := 43 } : Room) (va_Pc [.ref (mx 0), .int t, .int z, .int m9] (rw_P D cI cZ cQ cJ (wMo mx cI cZ w (nI nz) q d (nI nt) pr mw mt zo ke wy st tr be ch th) sz)) (va_Qi (fun (r9 : Int32) (u9 : Int32 × Nat × (Nat → Int32) × (Nat → Nat → Int32)) => (r9 = u9.1) ∧ (sSetWish nt nz Wf t z m9 u9.2.1 u9.1 u9.2.2.2) ∧ (∀ t j, t < 7 → j < 7 → u9.2.2.1 (7 * t + j) = u9.2.2.2 t j)) (rw_B D (va_A (wMo mx cI cZ w (nI nz) q d (nI nt) pr mw mt zo ke wy st tr be ch th) sz) (fun u9 : Int32 × Nat × (Nat → Int32) × (Nat → Nat → Int32) => wMo mx cI cZ w (nI nz) q d (nI nt) pr u9.2.2.1 mt zo ke wy st tr be ch (nI u9.2.1))) (va_A (wMo mx cI cZ w (nI nz) q d (nI nt) pr mw mt zo ke wy st tr be ch th) sz)) 0 0 (va_A (wMo mx cI cZ w (nI nz) q d (nI nt) pr mw mt zo ke wy st tr be ch th) sz) := by
  refine Met.ofW (cc := cX8_setWish) (maxL := 5) (ret := (some .int)) (by decide) rfl ?_
  intro p e s m args below meth c s₁ B hml hv
  obtain ⟨rfl, hsz, hP, hSt, hD0⟩ := hv
  have hx := B.exec
  have hb := B.bytes
  have hr := B.returns
  have hts : ∀ w ∈ ALL, w.before ([.ref (mx 0), .int t, .int z, .int m9] : List Value).toArray s = true := fun w h => atoms_spec (ws := (.code yX8_setWish cX8_setWish 5 (some .int) :: ALL)) B.pre w (List.mem_cons_of_mem _ h)
  have hown : s.vm.findClass RX8 = some m.cls := findClass_of_methodNamed B.named
  have hlocks := B.notSynchronized
  subst hsz
  have hD := hD0.self (sz := s.heap.size)
  clear hD0
  generalize hAe : va_A (wMo mx cI cZ w (nI nz) q d (nI nt) pr mw mt zo ke wy st tr be ch th) s.heap.size = A at hD ⊢
  have hA : ∀ q : Nat, s.heap.size ≤ q → A q := fun q h => by rw [← hAe]; exact Or.inr h
  have hS : va_S A s.heap s.heap [] := va_S.rf
  have hl := lv_entry ([.ref (mx 0), .int t, .int z, .int m9]) (n := 5) (Nat.le_of_ble_eq_true rfl)
  rw [lg_entry_eq]
  generalize (lg_sl ([.ref (mx 0), .int t, .int z, .int m9]) ++ List.replicate (5 - (lg_sl ([.ref (mx 0), .int t, .int z, .int m9])).length) Slot.unset).toArray = ls at hl ⊢
  have hl : lv_has ls 5 [(0, .ref (mx 0)), (1, .int t), (2, .int z), (3, .int m9)] := hl
  obtain ⟨H, hHe⟩ : ∃ H : Heap, H = s.heap := ⟨_, rfl⟩
  obtain ⟨locs, hLe⟩ : ∃ L : List Loc, L = [] := ⟨_, rfl⟩
  have hP : va_P D vwCl (wMo mx cI cZ w (nI nz) q d (nI nt) pr mw mt zo ke wy st tr be ch th) H := by rw [hHe]; exact hP
  have hS : va_S A s.heap H locs := by rw [hHe, hLe]; exact hS
  refine W.eqHL hHe hLe ?_
  refine lv_aload_n hx hb dX8_setWish_0 rfl (lv_at hl 0 rfl) ?_
  refine lv_aload_n hx hb dX8_setWish_1 rfl (lv_at hl 0 rfl) ?_
  refine lv_iload_n hx hb dX8_setWish_2 rfl (lv_at hl 1 rfl) ?_
  refine ro_V (As := [.int t]) (rest := [.ref (mx 0)]) (v := bI (inI t (nI 0) (nI nt - nI 1))) ⟨hx, hb, hml, hown, hts⟩ (c_X8_isTeam l D cI cZ cQ cJ mx w nz q d nt pr mw mt zo ke wy st tr be ch th t) (gV t4_87 t4_89 t0_26 t1_10 t4_90) rfl rfl hd_X8_isTeam ⟨Nat.le_of_ble_eq_true rfl, Nat.le_of_ble_eq_true rfl⟩ hP hSt (va_recv hSt.1 hP (ci := 8) (q0 := 0) rfl rfl) rfl hl.1 rfl (Nat.le_of_ble_eq_true rfl) dX8_setWish_3 (Nat.zero_le _) (Nat.zero_le _) ?_
  refine lv_if_eq (tgt := 21) hx hb dX8_setWish_6 (by decide) (fun c_1 => ?_) (fun c_1 => ?_)
  · have c_1 := bI_0.mp c_1
    refine lv_iconst (v := nI 0) hx hb dX8_setWish_21 (by decide) ?_
    refine lv_iload_n hx hb dX8_setWish_22 rfl (lv_at hl 3 rfl) ?_
    refine lv_iconst (v := nI 0) hx hb dX8_setWish_23 (by decide) ?_
    refine lv_bipush (v := nI 99) hx hb dX8_setWish_24 (by decide) ?_
    refine ro_S (As := [.int m9, .int (nI 0), .int (nI 99)]) (rest := [.int (nI 0), .ref (mx 0)]) (v := bI (inI m9 (nI 0) (nI 99))) ⟨hx, hb, hml, hown, hts⟩ (c_X8_in l D cI cZ cQ cJ m9 (nI 0) (nI 99)) (gS t4_40 t4_41 t1_10 t4_42) rfl rfl hd_X8_in ⟨Nat.le_of_ble_eq_true rfl, Nat.le_of_ble_eq_true rfl⟩ va_P_nil hSt rfl hl.1 rfl (Nat.le_of_ble_eq_true rfl) dX8_setWish_26 (Nat.zero_le _) (Nat.zero_le _) ?_
    refine rw_i (wr := ([] : va_W)) (w_V (As := [.int (nI 0), .int (bI (inI m9 (nI 0) (nI 99)))]) ⟨hx, hb, hml, hown, hts⟩ (c_X8_asked_ l D cI cZ cQ cJ mx w nz q d nt pr mw mt zo ke wy st tr be ch th (nI 0) (bI (inI m9 (nI 0) (nI 99))) H.size) (gV t4_47 t4_49 t0_20 t1_10 t4_50) rfl rfl hd_X8_asked_ ⟨Nat.le_of_ble_eq_true rfl, Nat.le_of_ble_eq_true rfl⟩ (rw_pre hP hD hSt [0, 1, 2, 3, 4, 5, 6, 7, 8, 9, 10, 11, 12, 13] rfl (by decide)) (va_recv hSt.1 hP (ci := 8) (q0 := 0) rfl rfl) rfl hl.1 (rest := []) rfl (Nat.le_of_ble_eq_true rfl) dX8_setWish_29 ⟨Nat.le_of_ble_eq_true rfl, Nat.le_of_ble_eq_true rfl⟩) hP hD hS hA [0, 1, 2, 3, 4, 5, 6, 7, 8, 9, 10, 11, 12, 13] [] rfl rfl (by decide) (by decide) (fun r_9 u_2 H locs hw9 hP hD hS => ?_)
    have er_9 := hw9
    replace er_9 := er_9.symm
    subst er_9
    have hP : va_P D vwCl (wMo mx cI cZ w (nI nz) q d (nI nt) pr mw mt zo ke wy st tr be ch (nI (as2 (nI 0) (bI (inI m9 (nI 0) (nI 99)))))) H := hP
    have hD : va_D A (wMo mx cI cZ w (nI nz) q d (nI nt) pr mw mt zo ke wy st tr be ch (nI (as2 (nI 0) (bI (inI m9 (nI 0) (nI 99)))))) := hD
    refine lv_if_ne (tgt := 37) hx hb dX8_setWish_32 (by decide) (fun c_3 => ?_) (fun c_3 => ?_)
    · have c_3 := bI_n0.mp c_3
      exact absurd nI0 (as2_0 c_3).1
    · have c_3 := bI_0.mp c_3
      refine lv_iconst (v := nI 0) hx hb dX8_setWish_35 (by decide) ?_
      have hP9 : va_P D vwCl (wMo mx cI cZ w (nI nz) q d (nI nt) pr mw mt zo ke wy st tr be ch (nI (as2 (nI 0) (bI (inI m9 (nI 0) (nI 99)))))) H := hP
      have hD9 : va_D A (wMo mx cI cZ w (nI nz) q d (nI nt) pr mw mt zo ke wy st tr be ch (nI (as2 (nI 0) (bI (inI m9 (nI 0) (nI 99)))))) := hD
      have g_4 : sSetWish nt nz Wf t z m9 (as2 (nI 0) (bI (inI m9 (nI 0) (nI 99)))) (nI 0) Wf := Or.inl ⟨fun q9 => c_1 ((inI_N (n := nt) (by omega)).mpr q9.1), if_pos nI0, rfl⟩
      have g_5 : ∀ t j, t < 7 → j < 7 → mw (7 * t + j) = Wf t j := hmW
      exact W.iret (v := nI 0) hx hb hr (fun t9 ht9 hW9 => ⟨⟨nI 0, (nI 0, as2 (nI 0) (bI (inI m9 (nI 0) (nI 99))), mw, Wf), rfl, ⟨rfl, g_4, g_5⟩, by rw [ht9]; exact hP9, hD9⟩, hS.F ht9⟩) hS.2.2 dX8_setWish_36
  · have c_1 := bI_n0.mp c_1
    obtain ⟨tt, h_tt, rfl⟩ := (inI_N (n := nt) (by omega)).mp c_1
    refine lv_aload_n hx hb dX8_setWish_9 rfl (lv_at hl 0 rfl) ?_
    refine lv_iload_n hx hb dX8_setWish_10 rfl (lv_at hl 2 rfl) ?_
    refine ro_V (As := [.int z]) (rest := [.ref (mx 0)]) (v := bI (inI z (nI 0) (nI nz - nI 1))) ⟨hx, hb, hml, hown, hts⟩ (c_X8_isZone l D cI cZ cQ cJ mx w nz q d nt pr mw mt zo ke wy st tr be ch th z) (gV t4_63 t4_65 t0_22 t1_10 t4_66) rfl rfl hd_X8_isZone ⟨Nat.le_of_ble_eq_true rfl, Nat.le_of_ble_eq_true rfl⟩ hP hSt (va_recv hSt.1 hP (ci := 8) (q0 := 0) rfl rfl) rfl hl.1 rfl (Nat.le_of_ble_eq_true rfl) dX8_setWish_11 (Nat.zero_le _) (Nat.zero_le _) ?_
    refine lv_if_eq (tgt := 21) hx hb dX8_setWish_14 (by decide) (fun c_6 => ?_) (fun c_6 => ?_)
    · have c_6 := bI_0.mp c_6
      refine lv_iconst (v := nI 0) hx hb dX8_setWish_21 (by decide) ?_
      refine lv_iload_n hx hb dX8_setWish_22 rfl (lv_at hl 3 rfl) ?_
      refine lv_iconst (v := nI 0) hx hb dX8_setWish_23 (by decide) ?_
      refine lv_bipush (v := nI 99) hx hb dX8_setWish_24 (by decide) ?_
      refine ro_S (As := [.int m9, .int (nI 0), .int (nI 99)]) (rest := [.int (nI 0), .ref (mx 0)]) (v := bI (inI m9 (nI 0) (nI 99))) ⟨hx, hb, hml, hown, hts⟩ (c_X8_in l D cI cZ cQ cJ m9 (nI 0) (nI 99)) (gS t4_40 t4_41 t1_10 t4_42) rfl rfl hd_X8_in ⟨Nat.le_of_ble_eq_true rfl, Nat.le_of_ble_eq_true rfl⟩ va_P_nil hSt rfl hl.1 rfl (Nat.le_of_ble_eq_true rfl) dX8_setWish_26 (Nat.zero_le _) (Nat.zero_le _) ?_
      refine rw_i (wr := ([] : va_W)) (w_V (As := [.int (nI 0), .int (bI (inI m9 (nI 0) (nI 99)))]) ⟨hx, hb, hml, hown, hts⟩ (c_X8_asked_ l D cI cZ cQ cJ mx w nz q d nt pr mw mt zo ke wy st tr be ch th (nI 0) (bI (inI m9 (nI 0) (nI 99))) H.size) (gV t4_47 t4_49 t0_20 t1_10 t4_50) rfl rfl hd_X8_asked_ ⟨Nat.le_of_ble_eq_true rfl, Nat.le_of_ble_eq_true rfl⟩ (rw_pre hP hD hSt [0, 1, 2, 3, 4, 5, 6, 7, 8, 9, 10, 11, 12, 13] rfl (by decide)) (va_recv hSt.1 hP (ci := 8) (q0 := 0) rfl rfl) rfl hl.1 (rest := []) rfl (Nat.le_of_ble_eq_true rfl) dX8_setWish_29 ⟨Nat.le_of_ble_eq_true rfl, Nat.le_of_ble_eq_true rfl⟩) hP hD hS hA [0, 1, 2, 3, 4, 5, 6, 7, 8, 9, 10, 11, 12, 13] [] rfl rfl (by decide) (by decide) (fun r_9 u_7 H locs hw9 hP hD hS => ?_)
      have er_9 := hw9
      replace er_9 := er_9.symm
      subst er_9
      have hP : va_P D vwCl (wMo mx cI cZ w (nI nz) q d (nI nt) pr mw mt zo ke wy st tr be ch (nI (as2 (nI 0) (bI (inI m9 (nI 0) (nI 99)))))) H := hP
      have hD : va_D A (wMo mx cI cZ w (nI nz) q d (nI nt) pr mw mt zo ke wy st tr be ch (nI (as2 (nI 0) (bI (inI m9 (nI 0) (nI 99)))))) := hD
      refine lv_if_ne (tgt := 37) hx hb dX8_setWish_32 (by decide) (fun c_8 => ?_) (fun c_8 => ?_)
      · have c_8 := bI_n0.mp c_8
        exact absurd nI0 (as2_0 c_8).1
      · have c_8 := bI_0.mp c_8
        refine lv_iconst (v := nI 0) hx hb dX8_setWish_35 (by decide) ?_
        have hP9 : va_P D vwCl (wMo mx cI cZ w (nI nz) q d (nI nt) pr mw mt zo ke wy st tr be ch (nI (as2 (nI 0) (bI (inI m9 (nI 0) (nI 99)))))) H := hP
        have hD9 : va_D A (wMo mx cI cZ w (nI nz) q d (nI nt) pr mw mt zo ke wy st tr be ch (nI (as2 (nI 0) (bI (inI m9 (nI 0) (nI 99)))))) := hD
        have g_9 : sSetWish nt nz Wf (nI tt) z m9 (as2 (nI 0) (bI (inI m9 (nI 0) (nI 99)))) (nI 0) Wf := Or.inl ⟨fun q9 => c_6 ((inI_N (n := nz) (by omega)).mpr q9.2), if_pos nI0, rfl⟩
        have g_10 : ∀ t j, t < 7 → j < 7 → mw (7 * t + j) = Wf t j := hmW
        exact W.iret (v := nI 0) hx hb hr (fun t9 ht9 hW9 => ⟨⟨nI 0, (nI 0, as2 (nI 0) (bI (inI m9 (nI 0) (nI 99))), mw, Wf), rfl, ⟨rfl, g_9, g_10⟩, by rw [ht9]; exact hP9, hD9⟩, hS.F ht9⟩) hS.2.2 dX8_setWish_36
    · have c_6 := bI_n0.mp c_6
      obtain ⟨zz, h_zz, rfl⟩ := (inI_N (n := nz) (by omega)).mp c_6
      refine lv_iconst (v := nI 1) hx hb dX8_setWish_17 (by decide) ?_
      refine lv_goto (tgt := 22) hx hb dX8_setWish_18 (by decide) ?_
      refine lv_iload_n hx hb dX8_setWish_22 rfl (lv_at hl 3 rfl) ?_
      refine lv_iconst (v := nI 0) hx hb dX8_setWish_23 (by decide) ?_
      refine lv_bipush (v := nI 99) hx hb dX8_setWish_24 (by decide) ?_
      refine ro_S (As := [.int m9, .int (nI 0), .int (nI 99)]) (rest := [.int (nI 1), .ref (mx 0)]) (v := bI (inI m9 (nI 0) (nI 99))) ⟨hx, hb, hml, hown, hts⟩ (c_X8_in l D cI cZ cQ cJ m9 (nI 0) (nI 99)) (gS t4_40 t4_41 t1_10 t4_42) rfl rfl hd_X8_in ⟨Nat.le_of_ble_eq_true rfl, Nat.le_of_ble_eq_true rfl⟩ va_P_nil hSt rfl hl.1 rfl (Nat.le_of_ble_eq_true rfl) dX8_setWish_26 (Nat.zero_le _) (Nat.zero_le _) ?_
      refine rw_i (wr := ([] : va_W)) (w_V (As := [.int (nI 1), .int (bI (inI m9 (nI 0) (nI 99)))]) ⟨hx, hb, hml, hown, hts⟩ (c_X8_asked_ l D cI cZ cQ cJ mx w nz q d nt pr mw mt zo ke wy st tr be ch th (nI 1) (bI (inI m9 (nI 0) (nI 99))) H.size) (gV t4_47 t4_49 t0_20 t1_10 t4_50) rfl rfl hd_X8_asked_ ⟨Nat.le_of_ble_eq_true rfl, Nat.le_of_ble_eq_true rfl⟩ (rw_pre hP hD hSt [0, 1, 2, 3, 4, 5, 6, 7, 8, 9, 10, 11, 12, 13] rfl (by decide)) (va_recv hSt.1 hP (ci := 8) (q0 := 0) rfl rfl) rfl hl.1 (rest := []) rfl (Nat.le_of_ble_eq_true rfl) dX8_setWish_29 ⟨Nat.le_of_ble_eq_true rfl, Nat.le_of_ble_eq_true rfl⟩) hP hD hS hA [0, 1, 2, 3, 4, 5, 6, 7, 8, 9, 10, 11, 12, 13] [] rfl rfl (by decide) (by decide) (fun r_9 u_11 H locs hw9 hP hD hS => ?_)
      have er_9 := hw9
      replace er_9 := er_9.symm
      subst er_9
      have hP : va_P D vwCl (wMo mx cI cZ w (nI nz) q d (nI nt) pr mw mt zo ke wy st tr be ch (nI (as2 (nI 1) (bI (inI m9 (nI 0) (nI 99)))))) H := hP
      have hD : va_D A (wMo mx cI cZ w (nI nz) q d (nI nt) pr mw mt zo ke wy st tr be ch (nI (as2 (nI 1) (bI (inI m9 (nI 0) (nI 99)))))) := hD
      refine lv_if_ne (tgt := 37) hx hb dX8_setWish_32 (by decide) (fun c_12 => ?_) (fun c_12 => ?_)
      · have c_12 := bI_n0.mp c_12
        refine lv_aload_n hx hb dX8_setWish_37 rfl (lv_at hl 0 rfl) ?_
        refine va_get (D := D) (ci := 8) (v := .ref (mx 5)) (C := RX8) (T := TX8) (N := 16) hx hb hts tu_X8 hown hSt.1 hP 0 rfl rfl 6 (by decide) (hts _ t3_226) (fun _ h9 => h9) rfl dX8_setWish_38 ?_
        refine lv_bipush (v := nI 7) hx hb dX8_setWish_41 (by decide) ?_
        refine lv_iload_n hx hb dX8_setWish_43 rfl (lv_at hl 1 rfl) ?_
        refine r_muln hx hb dX8_setWish_44 ?_
        refine lv_iload_n hx hb dX8_setWish_45 rfl (lv_at hl 2 rfl) ?_
        refine r_addn hx hb dX8_setWish_46 ?_
        refine r_iald hx hb hSt.1 hP 5 0 rfl rfl (k := ((7 * tt) + zz)) (by omega) (by omega) dX8_setWish_47 ?_
        refine lv_istore (lv' := [(4, .int (mw ((7 * tt) + zz))), (0, .ref (mx 0)), (1, .int (nI tt)), (2, .int (nI zz)), (3, .int m9)]) hx hb dX8_setWish_48 hl (by decide) rfl (fun ls hl => ?_)
        refine lv_aload_n hx hb dX8_setWish_50 rfl (lv_at hl 1 rfl) ?_
        refine va_get (D := D) (ci := 8) (v := .ref (mx 5)) (C := RX8) (T := TX8) (N := 16) hx hb hts tu_X8 hown hSt.1 hP 0 rfl rfl 6 (by decide) (hts _ t3_226) (fun _ h9 => h9) rfl dX8_setWish_51 ?_
        refine lv_bipush (v := nI 7) hx hb dX8_setWish_54 (by decide) ?_
        refine lv_iload_n hx hb dX8_setWish_56 rfl (lv_at hl 2 rfl) ?_
        refine r_muln hx hb dX8_setWish_57 ?_
        refine lv_iload_n hx hb dX8_setWish_58 rfl (lv_at hl 3 rfl) ?_
        refine r_addn hx hb dX8_setWish_59 ?_
        refine lv_iload_n hx hb dX8_setWish_60 rfl (lv_at hl 4 rfl) ?_
        refine r_iast hx hb hSt.1 hP hD hS 5 0 rfl rfl (k := ((7 * tt) + zz)) (by omega) (by omega) dX8_setWish_61 (fun H locs hP hD hS => ?_)
        have hP : va_P D vwCl (wMo mx cI cZ w (nI nz) q d (nI nt) pr (upd mw ((7 * tt) + zz) m9) mt zo ke wy st tr be ch (nI (as2 (nI 1) (bI (inI m9 (nI 0) (nI 99)))))) H := hP
        have hD : va_D A (wMo mx cI cZ w (nI nz) q d (nI nt) pr (upd mw ((7 * tt) + zz) m9) mt zo ke wy st tr be ch (nI (as2 (nI 1) (bI (inI m9 (nI 0) (nI 99)))))) := hD
        refine lv_iload hx hb dX8_setWish_62 (lv_at hl 0 rfl) ?_
        have hP9 : va_P D vwCl (wMo mx cI cZ w (nI nz) q d (nI nt) pr (upd mw ((7 * tt) + zz) m9) mt zo ke wy st tr be ch (nI (as2 (nI 1) (bI (inI m9 (nI 0) (nI 99)))))) H := hP
        have hD9 : va_D A (wMo mx cI cZ w (nI nz) q d (nI nt) pr (upd mw ((7 * tt) + zz) m9) mt zo ke wy st tr be ch (nI (as2 (nI 1) (bI (inI m9 (nI 0) (nI 99)))))) := hD
        have g_13 : sSetWish nt nz Wf (nI tt) (nI zz) m9 (as2 (nI 1) (bI (inI m9 (nI 0) (nI 99)))) (mw ((7 * tt) + zz)) (u2 Wf tt zz m9) := Or.inr (Or.inr ⟨⟨⟨tt, h_tt, rfl⟩, ⟨zz, h_zz, rfl⟩⟩, (inI_R (lo := 0) (hi := 99) (by omega) (by omega)).mp (bI_n0.mp (as2_0 c_12).2), c_12, by rw [nIc (by omega), nIc (by omega)]; exact hmW tt zz (by omega) (by omega), by rw [nIc (by omega), nIc (by omega)]⟩)
        have g_14 : ∀ t j, t < 7 → j < 7 → (upd mw ((7 * tt) + zz) m9) (7 * t + j) = (u2 Wf tt zz m9) t j := mw_u2 hmW (by omega)
        exact W.iret (v := mw ((7 * tt) + zz)) hx hb hr (fun t9 ht9 hW9 => ⟨⟨mw ((7 * tt) + zz), (mw ((7 * tt) + zz), as2 (nI 1) (bI (inI m9 (nI 0) (nI 99))), upd mw ((7 * tt) + zz) m9, u2 Wf tt zz m9), rfl, ⟨rfl, g_13, g_14⟩, by rw [ht9]; exact hP9, hD9⟩, hS.F ht9⟩) hS.2.2 dX8_setWish_64
      · have c_12 := bI_0.mp c_12
        refine lv_iconst (v := nI 0) hx hb dX8_setWish_35 (by decide) ?_
        have hP9 : va_P D vwCl (wMo mx cI cZ w (nI nz) q d (nI nt) pr mw mt zo ke wy st tr be ch (nI (as2 (nI 1) (bI (inI m9 (nI 0) (nI 99)))))) H := hP
        have hD9 : va_D A (wMo mx cI cZ w (nI nz) q d (nI nt) pr mw mt zo ke wy st tr be ch (nI (as2 (nI 1) (bI (inI m9 (nI 0) (nI 99)))))) := hD
        have g_15 : sSetWish nt nz Wf (nI tt) (nI zz) m9 (as2 (nI 1) (bI (inI m9 (nI 0) (nI 99)))) (nI 0) Wf := by rcases as2_c (nI 1) (bI (inI m9 (nI 0) (nI 99))) with q9 | q9 | q9; exact absurd q9.1 nI1; exact Or.inr (Or.inl ⟨⟨⟨tt, h_tt, rfl⟩, ⟨zz, h_zz, rfl⟩⟩, fun h9 => bI_0.mp q9.2.1 ((inI_R (lo := 0) (hi := 99) (by omega) (by omega)).mpr h9), q9.2.2, rfl⟩); exact absurd q9.2.2 c_12
        have g_16 : ∀ t j, t < 7 → j < 7 → mw (7 * t + j) = Wf t j := hmW
        exact W.iret (v := nI 0) hx hb hr (fun t9 ht9 hW9 => ⟨⟨nI 0, (nI 0, as2 (nI 1) (bI (inI m9 (nI 0) (nI 99))), mw, Wf), rfl, ⟨rfl, g_15, g_16⟩, by rw [ht9]; exact hP9, hD9⟩, hS.F ht9⟩) hS.2.2 dX8_setWish_36
set_option maxHeartbeats 4000000 in
set_option maxRecDepth 100000 in
theorem c_X8_setTie (l : Launch) (D : va_G) (cI cZ cQ cJ : ClassId) (mx : Nat → Nat) (w : Nat → Int32) (nz : Nat) (q : Nat → Int32) (d : Nat → Int32) (nt : Nat) (pr : Nat → Int32) (mw : Nat → Int32) (mt : Nat → Int32) (zo : Nat → Int32) (ke : Nat → Int32) (wy : Nat → Int32) (st : Nat → Int32) (tr : Nat → Int32) (be : Nat → Int32) (ch : Nat → Int32) (th : Int32) (Wf : Nat → Nat → Int32) (t : Int32) (z : Int32) (m9 : Int32) (sz : Nat) (hnz : nz ≤ 7) (hnt : nt ≤ 7) (hmW : ∀ t j, t < 7 → j < 7 → mt (7 * t + j) = Wf t j) : Met l yX8_setTie (.code yX8_setTie cX8_setTie 5 (some .int) :: ALL) ({ frames := 2, cells := 0, slots := 0, locals := 43 } : Room) (va_Pc [.ref (mx 0), .int t, .int z, .int m9] (rw_P D cI cZ cQ cJ (wMo mx cI cZ w (nI nz) q d (nI nt) pr mw mt zo ke wy st tr be ch th) sz)) (va_Qi (fun (r9 : Int32) (u9 : Int32 × Nat × (Nat → Int32) × (Nat → Nat → Int32)) => (r9 = u9.1) ∧ (sSetTie nt Wf t z m9 u9.2.1 u9.1 u9.2.2.2) ∧ (∀ t j, t < 7 → j < 7 → u9.2.2.1 (7 * t + j) = u9.2.2.2 t j)) (rw_B D (va_A (wMo mx cI cZ w (nI nz) q d (nI nt) pr mw mt zo ke wy st tr be ch th) sz) (fun u9 : Int32 × Nat × (Nat → Int32) × (Nat → Nat → Int32) => wMo mx cI cZ w (nI nz) q d (nI nt) pr mw u9.2.2.1 zo ke wy st tr be ch (nI u9.2.1))) (va_A (wMo mx cI cZ w (nI nz) q d (nI nt) pr mw mt zo ke wy st tr be ch th) sz)) 0 0 (va_A (wMo mx cI cZ w (nI nz) q d (nI nt) pr mw mt zo ke wy st tr be ch th) sz) := by
  refine Met.ofW (cc := cX8_setTie) (maxL := 5) (ret := (some .int)) (by decide) rfl ?_
  intro p e s m args below meth c s₁ B hml hv
  obtain ⟨rfl, hsz, hP, hSt, hD0⟩ := hv
  have hx := B.exec
  have hb := B.bytes
  have hr := B.returns
  have hts : ∀ w ∈ ALL, w.before ([.ref (mx 0), .int t, .int z, .int m9] : List Value).toArray s = true := fun w h => atoms_spec (ws := (.code yX8_setTie cX8_setTie 5 (some .int) :: ALL)) B.pre w (List.mem_cons_of_mem _ h)
  have hown : s.vm.findClass RX8 = some m.cls := findClass_of_methodNamed B.named
  have hlocks := B.notSynchronized
  subst hsz
  have hD := hD0.self (sz := s.heap.size)
  clear hD0
  generalize hAe : va_A (wMo mx cI cZ w (nI nz) q d (nI nt) pr mw mt zo ke wy st tr be ch th) s.heap.size = A at hD ⊢
  have hA : ∀ q : Nat, s.heap.size ≤ q → A q := fun q h => by rw [← hAe]; exact Or.inr h
  have hS : va_S A s.heap s.heap [] := va_S.rf
  have hl := lv_entry ([.ref (mx 0), .int t, .int z, .int m9]) (n := 5) (Nat.le_of_ble_eq_true rfl)
  rw [lg_entry_eq]
  generalize (lg_sl ([.ref (mx 0), .int t, .int z, .int m9]) ++ List.replicate (5 - (lg_sl ([.ref (mx 0), .int t, .int z, .int m9])).length) Slot.unset).toArray = ls at hl ⊢
  have hl : lv_has ls 5 [(0, .ref (mx 0)), (1, .int t), (2, .int z), (3, .int m9)] := hl
  obtain ⟨H, hHe⟩ : ∃ H : Heap, H = s.heap := ⟨_, rfl⟩
  obtain ⟨locs, hLe⟩ : ∃ L : List Loc, L = [] := ⟨_, rfl⟩
  have hP : va_P D vwCl (wMo mx cI cZ w (nI nz) q d (nI nt) pr mw mt zo ke wy st tr be ch th) H := by rw [hHe]; exact hP
  have hS : va_S A s.heap H locs := by rw [hHe, hLe]; exact hS
  refine W.eqHL hHe hLe ?_
  refine lv_aload_n hx hb dX8_setTie_0 rfl (lv_at hl 0 rfl) ?_
  refine lv_aload_n hx hb dX8_setTie_1 rfl (lv_at hl 0 rfl) ?_
  refine lv_iload_n hx hb dX8_setTie_2 rfl (lv_at hl 1 rfl) ?_
  refine ro_V (As := [.int t]) (rest := [.ref (mx 0)]) (v := bI (inI t (nI 0) (nI nt - nI 1))) ⟨hx, hb, hml, hown, hts⟩ (c_X8_isTeam l D cI cZ cQ cJ mx w nz q d nt pr mw mt zo ke wy st tr be ch th t) (gV t4_87 t4_89 t0_26 t1_10 t4_90) rfl rfl hd_X8_isTeam ⟨Nat.le_of_ble_eq_true rfl, Nat.le_of_ble_eq_true rfl⟩ hP hSt (va_recv hSt.1 hP (ci := 8) (q0 := 0) rfl rfl) rfl hl.1 rfl (Nat.le_of_ble_eq_true rfl) dX8_setTie_3 (Nat.zero_le _) (Nat.zero_le _) ?_
  refine lv_if_eq (tgt := 21) hx hb dX8_setTie_6 (by decide) (fun c_1 => ?_) (fun c_1 => ?_)
  · have c_1 := bI_0.mp c_1
    refine lv_iconst (v := nI 0) hx hb dX8_setTie_21 (by decide) ?_
    refine lv_iload_n hx hb dX8_setTie_22 rfl (lv_at hl 3 rfl) ?_
    refine lv_iconst (v := nI 0) hx hb dX8_setTie_23 (by decide) ?_
    refine lv_bipush (v := nI 9) hx hb dX8_setTie_24 (by decide) ?_
    refine ro_S (As := [.int m9, .int (nI 0), .int (nI 9)]) (rest := [.int (nI 0), .ref (mx 0)]) (v := bI (inI m9 (nI 0) (nI 9))) ⟨hx, hb, hml, hown, hts⟩ (c_X8_in l D cI cZ cQ cJ m9 (nI 0) (nI 9)) (gS t4_40 t4_41 t1_10 t4_42) rfl rfl hd_X8_in ⟨Nat.le_of_ble_eq_true rfl, Nat.le_of_ble_eq_true rfl⟩ va_P_nil hSt rfl hl.1 rfl (Nat.le_of_ble_eq_true rfl) dX8_setTie_26 (Nat.zero_le _) (Nat.zero_le _) ?_
    refine lv_if_eq (tgt := 41) hx hb dX8_setTie_29 (by decide) (fun c_2 => ?_) (fun c_2 => ?_)
    · have c_2 := bI_0.mp c_2
      refine lv_iconst (v := nI 0) hx hb dX8_setTie_41 (by decide) ?_
      refine rw_i (wr := ([] : va_W)) (w_V (As := [.int (nI 0), .int (nI 0)]) ⟨hx, hb, hml, hown, hts⟩ (c_X8_asked_ l D cI cZ cQ cJ mx w nz q d nt pr mw mt zo ke wy st tr be ch th (nI 0) (nI 0) H.size) (gV t4_47 t4_49 t0_20 t1_10 t4_50) rfl rfl hd_X8_asked_ ⟨Nat.le_of_ble_eq_true rfl, Nat.le_of_ble_eq_true rfl⟩ (rw_pre hP hD hSt [0, 1, 2, 3, 4, 5, 6, 7, 8, 9, 10, 11, 12, 13] rfl (by decide)) (va_recv hSt.1 hP (ci := 8) (q0 := 0) rfl rfl) rfl hl.1 (rest := []) rfl (Nat.le_of_ble_eq_true rfl) dX8_setTie_42 ⟨Nat.le_of_ble_eq_true rfl, Nat.le_of_ble_eq_true rfl⟩) hP hD hS hA [0, 1, 2, 3, 4, 5, 6, 7, 8, 9, 10, 11, 12, 13] [] rfl rfl (by decide) (by decide) (fun r_9 u_3 H locs hw9 hP hD hS => ?_)
      have er_9 := hw9
      replace er_9 := er_9.symm
      subst er_9
      have hP : va_P D vwCl (wMo mx cI cZ w (nI nz) q d (nI nt) pr mw mt zo ke wy st tr be ch (nI (as2 (nI 0) (nI 0)))) H := hP
      have hD : va_D A (wMo mx cI cZ w (nI nz) q d (nI nt) pr mw mt zo ke wy st tr be ch (nI (as2 (nI 0) (nI 0)))) := hD
      refine lv_if_ne (tgt := 50) hx hb dX8_setTie_45 (by decide) (fun c_4 => ?_) (fun c_4 => ?_)
      · have c_4 := bI_n0.mp c_4
        exact absurd nI0 (as2_0 c_4).1
      · have c_4 := bI_0.mp c_4
        refine lv_iconst (v := nI 0) hx hb dX8_setTie_48 (by decide) ?_
        have hP9 : va_P D vwCl (wMo mx cI cZ w (nI nz) q d (nI nt) pr mw mt zo ke wy st tr be ch (nI (as2 (nI 0) (nI 0)))) H := hP
        have hD9 : va_D A (wMo mx cI cZ w (nI nz) q d (nI nt) pr mw mt zo ke wy st tr be ch (nI (as2 (nI 0) (nI 0)))) := hD
        have g_5 : sSetTie nt Wf t z m9 (as2 (nI 0) (nI 0)) (nI 0) Wf := Or.inl ⟨fun q9 => c_1 ((inI_N (n := nt) (by omega)).mpr q9.1), if_pos nI0, rfl⟩
        have g_6 : ∀ t j, t < 7 → j < 7 → mt (7 * t + j) = Wf t j := hmW
        exact W.iret (v := nI 0) hx hb hr (fun t9 ht9 hW9 => ⟨⟨nI 0, (nI 0, as2 (nI 0) (nI 0), mt, Wf), rfl, ⟨rfl, g_5, g_6⟩, by rw [ht9]; exact hP9, hD9⟩, hS.F ht9⟩) hS.2.2 dX8_setTie_49
    · have c_2 := bI_n0.mp c_2
      refine lv_iload_n hx hb dX8_setTie_32 rfl (lv_at hl 1 rfl) ?_
      refine lv_iload_n hx hb dX8_setTie_33 rfl (lv_at hl 2 rfl) ?_
      refine lv_icmp_eq (tgt := 41) hx hb dX8_setTie_34 (by decide) (fun c_7 => ?_) (fun c_7 => ?_)
      · refine lv_iconst (v := nI 0) hx hb dX8_setTie_41 (by decide) ?_
        refine rw_i (wr := ([] : va_W)) (w_V (As := [.int (nI 0), .int (nI 0)]) ⟨hx, hb, hml, hown, hts⟩ (c_X8_asked_ l D cI cZ cQ cJ mx w nz q d nt pr mw mt zo ke wy st tr be ch th (nI 0) (nI 0) H.size) (gV t4_47 t4_49 t0_20 t1_10 t4_50) rfl rfl hd_X8_asked_ ⟨Nat.le_of_ble_eq_true rfl, Nat.le_of_ble_eq_true rfl⟩ (rw_pre hP hD hSt [0, 1, 2, 3, 4, 5, 6, 7, 8, 9, 10, 11, 12, 13] rfl (by decide)) (va_recv hSt.1 hP (ci := 8) (q0 := 0) rfl rfl) rfl hl.1 (rest := []) rfl (Nat.le_of_ble_eq_true rfl) dX8_setTie_42 ⟨Nat.le_of_ble_eq_true rfl, Nat.le_of_ble_eq_true rfl⟩) hP hD hS hA [0, 1, 2, 3, 4, 5, 6, 7, 8, 9, 10, 11, 12, 13] [] rfl rfl (by decide) (by decide) (fun r_9 u_8 H locs hw9 hP hD hS => ?_)
        have er_9 := hw9
        replace er_9 := er_9.symm
        subst er_9
        have hP : va_P D vwCl (wMo mx cI cZ w (nI nz) q d (nI nt) pr mw mt zo ke wy st tr be ch (nI (as2 (nI 0) (nI 0)))) H := hP
        have hD : va_D A (wMo mx cI cZ w (nI nz) q d (nI nt) pr mw mt zo ke wy st tr be ch (nI (as2 (nI 0) (nI 0)))) := hD
        refine lv_if_ne (tgt := 50) hx hb dX8_setTie_45 (by decide) (fun c_9 => ?_) (fun c_9 => ?_)
        · have c_9 := bI_n0.mp c_9
          exact absurd nI0 (as2_0 c_9).1
        · have c_9 := bI_0.mp c_9
          refine lv_iconst (v := nI 0) hx hb dX8_setTie_48 (by decide) ?_
          have hP9 : va_P D vwCl (wMo mx cI cZ w (nI nz) q d (nI nt) pr mw mt zo ke wy st tr be ch (nI (as2 (nI 0) (nI 0)))) H := hP
          have hD9 : va_D A (wMo mx cI cZ w (nI nz) q d (nI nt) pr mw mt zo ke wy st tr be ch (nI (as2 (nI 0) (nI 0)))) := hD
          have g_10 : sSetTie nt Wf t z m9 (as2 (nI 0) (nI 0)) (nI 0) Wf := Or.inl ⟨fun q9 => c_1 ((inI_N (n := nt) (by omega)).mpr q9.1), if_pos nI0, rfl⟩
          have g_11 : ∀ t j, t < 7 → j < 7 → mt (7 * t + j) = Wf t j := hmW
          exact W.iret (v := nI 0) hx hb hr (fun t9 ht9 hW9 => ⟨⟨nI 0, (nI 0, as2 (nI 0) (nI 0), mt, Wf), rfl, ⟨rfl, g_10, g_11⟩, by rw [ht9]; exact hP9, hD9⟩, hS.F ht9⟩) hS.2.2 dX8_setTie_49
      · refine lv_iconst (v := nI 1) hx hb dX8_setTie_37 (by decide) ?_
        refine lv_goto (tgt := 42) hx hb dX8_setTie_38 (by decide) ?_
        refine rw_i (wr := ([] : va_W)) (w_V (As := [.int (nI 0), .int (nI 1)]) ⟨hx, hb, hml, hown, hts⟩ (c_X8_asked_ l D cI cZ cQ cJ mx w nz q d nt pr mw mt zo ke wy st tr be ch th (nI 0) (nI 1) H.size) (gV t4_47 t4_49 t0_20 t1_10 t4_50) rfl rfl hd_X8_asked_ ⟨Nat.le_of_ble_eq_true rfl, Nat.le_of_ble_eq_true rfl⟩ (rw_pre hP hD hSt [0, 1, 2, 3, 4, 5, 6, 7, 8, 9, 10, 11, 12, 13] rfl (by decide)) (va_recv hSt.1 hP (ci := 8) (q0 := 0) rfl rfl) rfl hl.1 (rest := []) rfl (Nat.le_of_ble_eq_true rfl) dX8_setTie_42 ⟨Nat.le_of_ble_eq_true rfl, Nat.le_of_ble_eq_true rfl⟩) hP hD hS hA [0, 1, 2, 3, 4, 5, 6, 7, 8, 9, 10, 11, 12, 13] [] rfl rfl (by decide) (by decide) (fun r_9 u_12 H locs hw9 hP hD hS => ?_)
        have er_9 := hw9
        replace er_9 := er_9.symm
        subst er_9
        have hP : va_P D vwCl (wMo mx cI cZ w (nI nz) q d (nI nt) pr mw mt zo ke wy st tr be ch (nI (as2 (nI 0) (nI 1)))) H := hP
        have hD : va_D A (wMo mx cI cZ w (nI nz) q d (nI nt) pr mw mt zo ke wy st tr be ch (nI (as2 (nI 0) (nI 1)))) := hD
        refine lv_if_ne (tgt := 50) hx hb dX8_setTie_45 (by decide) (fun c_13 => ?_) (fun c_13 => ?_)
        · have c_13 := bI_n0.mp c_13
          exact absurd nI0 (as2_0 c_13).1
        · have c_13 := bI_0.mp c_13
          refine lv_iconst (v := nI 0) hx hb dX8_setTie_48 (by decide) ?_
          have hP9 : va_P D vwCl (wMo mx cI cZ w (nI nz) q d (nI nt) pr mw mt zo ke wy st tr be ch (nI (as2 (nI 0) (nI 1)))) H := hP
          have hD9 : va_D A (wMo mx cI cZ w (nI nz) q d (nI nt) pr mw mt zo ke wy st tr be ch (nI (as2 (nI 0) (nI 1)))) := hD
          have g_14 : sSetTie nt Wf t z m9 (as2 (nI 0) (nI 1)) (nI 0) Wf := Or.inl ⟨fun q9 => c_1 ((inI_N (n := nt) (by omega)).mpr q9.1), if_pos nI0, rfl⟩
          have g_15 : ∀ t j, t < 7 → j < 7 → mt (7 * t + j) = Wf t j := hmW
          exact W.iret (v := nI 0) hx hb hr (fun t9 ht9 hW9 => ⟨⟨nI 0, (nI 0, as2 (nI 0) (nI 1), mt, Wf), rfl, ⟨rfl, g_14, g_15⟩, by rw [ht9]; exact hP9, hD9⟩, hS.F ht9⟩) hS.2.2 dX8_setTie_49
  · have c_1 := bI_n0.mp c_1
    obtain ⟨tt, h_tt, rfl⟩ := (inI_N (n := nt) (by omega)).mp c_1
    refine lv_aload_n hx hb dX8_setTie_9 rfl (lv_at hl 0 rfl) ?_
    refine lv_iload_n hx hb dX8_setTie_10 rfl (lv_at hl 2 rfl) ?_
    refine ro_V (As := [.int z]) (rest := [.ref (mx 0)]) (v := bI (inI z (nI 0) (nI nt - nI 1))) ⟨hx, hb, hml, hown, hts⟩ (c_X8_isTeam l D cI cZ cQ cJ mx w nz q d nt pr mw mt zo ke wy st tr be ch th z) (gV t4_87 t4_89 t0_26 t1_10 t4_90) rfl rfl hd_X8_isTeam ⟨Nat.le_of_ble_eq_true rfl, Nat.le_of_ble_eq_true rfl⟩ hP hSt (va_recv hSt.1 hP (ci := 8) (q0 := 0) rfl rfl) rfl hl.1 rfl (Nat.le_of_ble_eq_true rfl) dX8_setTie_11 (Nat.zero_le _) (Nat.zero_le _) ?_
    refine lv_if_eq (tgt := 21) hx hb dX8_setTie_14 (by decide) (fun c_16 => ?_) (fun c_16 => ?_)
    · have c_16 := bI_0.mp c_16
      refine lv_iconst (v := nI 0) hx hb dX8_setTie_21 (by decide) ?_
      refine lv_iload_n hx hb dX8_setTie_22 rfl (lv_at hl 3 rfl) ?_
      refine lv_iconst (v := nI 0) hx hb dX8_setTie_23 (by decide) ?_
      refine lv_bipush (v := nI 9) hx hb dX8_setTie_24 (by decide) ?_
      refine ro_S (As := [.int m9, .int (nI 0), .int (nI 9)]) (rest := [.int (nI 0), .ref (mx 0)]) (v := bI (inI m9 (nI 0) (nI 9))) ⟨hx, hb, hml, hown, hts⟩ (c_X8_in l D cI cZ cQ cJ m9 (nI 0) (nI 9)) (gS t4_40 t4_41 t1_10 t4_42) rfl rfl hd_X8_in ⟨Nat.le_of_ble_eq_true rfl, Nat.le_of_ble_eq_true rfl⟩ va_P_nil hSt rfl hl.1 rfl (Nat.le_of_ble_eq_true rfl) dX8_setTie_26 (Nat.zero_le _) (Nat.zero_le _) ?_
      refine lv_if_eq (tgt := 41) hx hb dX8_setTie_29 (by decide) (fun c_17 => ?_) (fun c_17 => ?_)
      · have c_17 := bI_0.mp c_17
        refine lv_iconst (v := nI 0) hx hb dX8_setTie_41 (by decide) ?_
        refine rw_i (wr := ([] : va_W)) (w_V (As := [.int (nI 0), .int (nI 0)]) ⟨hx, hb, hml, hown, hts⟩ (c_X8_asked_ l D cI cZ cQ cJ mx w nz q d nt pr mw mt zo ke wy st tr be ch th (nI 0) (nI 0) H.size) (gV t4_47 t4_49 t0_20 t1_10 t4_50) rfl rfl hd_X8_asked_ ⟨Nat.le_of_ble_eq_true rfl, Nat.le_of_ble_eq_true rfl⟩ (rw_pre hP hD hSt [0, 1, 2, 3, 4, 5, 6, 7, 8, 9, 10, 11, 12, 13] rfl (by decide)) (va_recv hSt.1 hP (ci := 8) (q0 := 0) rfl rfl) rfl hl.1 (rest := []) rfl (Nat.le_of_ble_eq_true rfl) dX8_setTie_42 ⟨Nat.le_of_ble_eq_true rfl, Nat.le_of_ble_eq_true rfl⟩) hP hD hS hA [0, 1, 2, 3, 4, 5, 6, 7, 8, 9, 10, 11, 12, 13] [] rfl rfl (by decide) (by decide) (fun r_9 u_18 H locs hw9 hP hD hS => ?_)
        have er_9 := hw9
        replace er_9 := er_9.symm
        subst er_9
        have hP : va_P D vwCl (wMo mx cI cZ w (nI nz) q d (nI nt) pr mw mt zo ke wy st tr be ch (nI (as2 (nI 0) (nI 0)))) H := hP
        have hD : va_D A (wMo mx cI cZ w (nI nz) q d (nI nt) pr mw mt zo ke wy st tr be ch (nI (as2 (nI 0) (nI 0)))) := hD
        refine lv_if_ne (tgt := 50) hx hb dX8_setTie_45 (by decide) (fun c_19 => ?_) (fun c_19 => ?_)
        · have c_19 := bI_n0.mp c_19
          exact absurd nI0 (as2_0 c_19).1
        · have c_19 := bI_0.mp c_19
          refine lv_iconst (v := nI 0) hx hb dX8_setTie_48 (by decide) ?_
          have hP9 : va_P D vwCl (wMo mx cI cZ w (nI nz) q d (nI nt) pr mw mt zo ke wy st tr be ch (nI (as2 (nI 0) (nI 0)))) H := hP
          have hD9 : va_D A (wMo mx cI cZ w (nI nz) q d (nI nt) pr mw mt zo ke wy st tr be ch (nI (as2 (nI 0) (nI 0)))) := hD
          have g_20 : sSetTie nt Wf (nI tt) z m9 (as2 (nI 0) (nI 0)) (nI 0) Wf := Or.inl ⟨fun q9 => c_16 ((inI_N (n := nt) (by omega)).mpr q9.2), if_pos nI0, rfl⟩
          have g_21 : ∀ t j, t < 7 → j < 7 → mt (7 * t + j) = Wf t j := hmW
          exact W.iret (v := nI 0) hx hb hr (fun t9 ht9 hW9 => ⟨⟨nI 0, (nI 0, as2 (nI 0) (nI 0), mt, Wf), rfl, ⟨rfl, g_20, g_21⟩, by rw [ht9]; exact hP9, hD9⟩, hS.F ht9⟩) hS.2.2 dX8_setTie_49
      · have c_17 := bI_n0.mp c_17
        refine lv_iload_n hx hb dX8_setTie_32 rfl (lv_at hl 1 rfl) ?_
        refine lv_iload_n hx hb dX8_setTie_33 rfl (lv_at hl 2 rfl) ?_
        refine lv_icmp_eq (tgt := 41) hx hb dX8_setTie_34 (by decide) (fun c_22 => ?_) (fun c_22 => ?_)
        · refine lv_iconst (v := nI 0) hx hb dX8_setTie_41 (by decide) ?_
          refine rw_i (wr := ([] : va_W)) (w_V (As := [.int (nI 0), .int (nI 0)]) ⟨hx, hb, hml, hown, hts⟩ (c_X8_asked_ l D cI cZ cQ cJ mx w nz q d nt pr mw mt zo ke wy st tr be ch th (nI 0) (nI 0) H.size) (gV t4_47 t4_49 t0_20 t1_10 t4_50) rfl rfl hd_X8_asked_ ⟨Nat.le_of_ble_eq_true rfl, Nat.le_of_ble_eq_true rfl⟩ (rw_pre hP hD hSt [0, 1, 2, 3, 4, 5, 6, 7, 8, 9, 10, 11, 12, 13] rfl (by decide)) (va_recv hSt.1 hP (ci := 8) (q0 := 0) rfl rfl) rfl hl.1 (rest := []) rfl (Nat.le_of_ble_eq_true rfl) dX8_setTie_42 ⟨Nat.le_of_ble_eq_true rfl, Nat.le_of_ble_eq_true rfl⟩) hP hD hS hA [0, 1, 2, 3, 4, 5, 6, 7, 8, 9, 10, 11, 12, 13] [] rfl rfl (by decide) (by decide) (fun r_9 u_23 H locs hw9 hP hD hS => ?_)
          have er_9 := hw9
          replace er_9 := er_9.symm
          subst er_9
          have hP : va_P D vwCl (wMo mx cI cZ w (nI nz) q d (nI nt) pr mw mt zo ke wy st tr be ch (nI (as2 (nI 0) (nI 0)))) H := hP
          have hD : va_D A (wMo mx cI cZ w (nI nz) q d (nI nt) pr mw mt zo ke wy st tr be ch (nI (as2 (nI 0) (nI 0)))) := hD
          refine lv_if_ne (tgt := 50) hx hb dX8_setTie_45 (by decide) (fun c_24 => ?_) (fun c_24 => ?_)
          · have c_24 := bI_n0.mp c_24
            exact absurd nI0 (as2_0 c_24).1
          · have c_24 := bI_0.mp c_24
            refine lv_iconst (v := nI 0) hx hb dX8_setTie_48 (by decide) ?_
            have hP9 : va_P D vwCl (wMo mx cI cZ w (nI nz) q d (nI nt) pr mw mt zo ke wy st tr be ch (nI (as2 (nI 0) (nI 0)))) H := hP
            have hD9 : va_D A (wMo mx cI cZ w (nI nz) q d (nI nt) pr mw mt zo ke wy st tr be ch (nI (as2 (nI 0) (nI 0)))) := hD
            have g_25 : sSetTie nt Wf (nI tt) z m9 (as2 (nI 0) (nI 0)) (nI 0) Wf := Or.inl ⟨fun q9 => c_16 ((inI_N (n := nt) (by omega)).mpr q9.2), if_pos nI0, rfl⟩
            have g_26 : ∀ t j, t < 7 → j < 7 → mt (7 * t + j) = Wf t j := hmW
            exact W.iret (v := nI 0) hx hb hr (fun t9 ht9 hW9 => ⟨⟨nI 0, (nI 0, as2 (nI 0) (nI 0), mt, Wf), rfl, ⟨rfl, g_25, g_26⟩, by rw [ht9]; exact hP9, hD9⟩, hS.F ht9⟩) hS.2.2 dX8_setTie_49
        · refine lv_iconst (v := nI 1) hx hb dX8_setTie_37 (by decide) ?_
          refine lv_goto (tgt := 42) hx hb dX8_setTie_38 (by decide) ?_
          refine rw_i (wr := ([] : va_W)) (w_V (As := [.int (nI 0), .int (nI 1)]) ⟨hx, hb, hml, hown, hts⟩ (c_X8_asked_ l D cI cZ cQ cJ mx w nz q d nt pr mw mt zo ke wy st tr be ch th (nI 0) (nI 1) H.size) (gV t4_47 t4_49 t0_20 t1_10 t4_50) rfl rfl hd_X8_asked_ ⟨Nat.le_of_ble_eq_true rfl, Nat.le_of_ble_eq_true rfl⟩ (rw_pre hP hD hSt [0, 1, 2, 3, 4, 5, 6, 7, 8, 9, 10, 11, 12, 13] rfl (by decide)) (va_recv hSt.1 hP (ci := 8) (q0 := 0) rfl rfl) rfl hl.1 (rest := []) rfl (Nat.le_of_ble_eq_true rfl) dX8_setTie_42 ⟨Nat.le_of_ble_eq_true rfl, Nat.le_of_ble_eq_true rfl⟩) hP hD hS hA [0, 1, 2, 3, 4, 5, 6, 7, 8, 9, 10, 11, 12, 13] [] rfl rfl (by decide) (by decide) (fun r_9 u_27 H locs hw9 hP hD hS => ?_)
          have er_9 := hw9
          replace er_9 := er_9.symm
          subst er_9
          have hP : va_P D vwCl (wMo mx cI cZ w (nI nz) q d (nI nt) pr mw mt zo ke wy st tr be ch (nI (as2 (nI 0) (nI 1)))) H := hP
          have hD : va_D A (wMo mx cI cZ w (nI nz) q d (nI nt) pr mw mt zo ke wy st tr be ch (nI (as2 (nI 0) (nI 1)))) := hD
          refine lv_if_ne (tgt := 50) hx hb dX8_setTie_45 (by decide) (fun c_28 => ?_) (fun c_28 => ?_)
          · have c_28 := bI_n0.mp c_28
            exact absurd nI0 (as2_0 c_28).1
          · have c_28 := bI_0.mp c_28
            refine lv_iconst (v := nI 0) hx hb dX8_setTie_48 (by decide) ?_
            have hP9 : va_P D vwCl (wMo mx cI cZ w (nI nz) q d (nI nt) pr mw mt zo ke wy st tr be ch (nI (as2 (nI 0) (nI 1)))) H := hP
            have hD9 : va_D A (wMo mx cI cZ w (nI nz) q d (nI nt) pr mw mt zo ke wy st tr be ch (nI (as2 (nI 0) (nI 1)))) := hD
            have g_29 : sSetTie nt Wf (nI tt) z m9 (as2 (nI 0) (nI 1)) (nI 0) Wf := Or.inl ⟨fun q9 => c_16 ((inI_N (n := nt) (by omega)).mpr q9.2), if_pos nI0, rfl⟩
            have g_30 : ∀ t j, t < 7 → j < 7 → mt (7 * t + j) = Wf t j := hmW
            exact W.iret (v := nI 0) hx hb hr (fun t9 ht9 hW9 => ⟨⟨nI 0, (nI 0, as2 (nI 0) (nI 1), mt, Wf), rfl, ⟨rfl, g_29, g_30⟩, by rw [ht9]; exact hP9, hD9⟩, hS.F ht9⟩) hS.2.2 dX8_setTie_49
    · have c_16 := bI_n0.mp c_16
      obtain ⟨zz, h_zz, rfl⟩ := (inI_N (n := nt) (by omega)).mp c_16
      refine lv_iconst (v := nI 1) hx hb dX8_setTie_17 (by decide) ?_
      refine lv_goto (tgt := 22) hx hb dX8_setTie_18 (by decide) ?_
      refine lv_iload_n hx hb dX8_setTie_22 rfl (lv_at hl 3 rfl) ?_
      refine lv_iconst (v := nI 0) hx hb dX8_setTie_23 (by decide) ?_
      refine lv_bipush (v := nI 9) hx hb dX8_setTie_24 (by decide) ?_
      refine ro_S (As := [.int m9, .int (nI 0), .int (nI 9)]) (rest := [.int (nI 1), .ref (mx 0)]) (v := bI (inI m9 (nI 0) (nI 9))) ⟨hx, hb, hml, hown, hts⟩ (c_X8_in l D cI cZ cQ cJ m9 (nI 0) (nI 9)) (gS t4_40 t4_41 t1_10 t4_42) rfl rfl hd_X8_in ⟨Nat.le_of_ble_eq_true rfl, Nat.le_of_ble_eq_true rfl⟩ va_P_nil hSt rfl hl.1 rfl (Nat.le_of_ble_eq_true rfl) dX8_setTie_26 (Nat.zero_le _) (Nat.zero_le _) ?_
      refine lv_if_eq (tgt := 41) hx hb dX8_setTie_29 (by decide) (fun c_31 => ?_) (fun c_31 => ?_)
      · have c_31 := bI_0.mp c_31
        refine lv_iconst (v := nI 0) hx hb dX8_setTie_41 (by decide) ?_
        refine rw_i (wr := ([] : va_W)) (w_V (As := [.int (nI 1), .int (nI 0)]) ⟨hx, hb, hml, hown, hts⟩ (c_X8_asked_ l D cI cZ cQ cJ mx w nz q d nt pr mw mt zo ke wy st tr be ch th (nI 1) (nI 0) H.size) (gV t4_47 t4_49 t0_20 t1_10 t4_50) rfl rfl hd_X8_asked_ ⟨Nat.le_of_ble_eq_true rfl, Nat.le_of_ble_eq_true rfl⟩ (rw_pre hP hD hSt [0, 1, 2, 3, 4, 5, 6, 7, 8, 9, 10, 11, 12, 13] rfl (by decide)) (va_recv hSt.1 hP (ci := 8) (q0 := 0) rfl rfl) rfl hl.1 (rest := []) rfl (Nat.le_of_ble_eq_true rfl) dX8_setTie_42 ⟨Nat.le_of_ble_eq_true rfl, Nat.le_of_ble_eq_true rfl⟩) hP hD hS hA [0, 1, 2, 3, 4, 5, 6, 7, 8, 9, 10, 11, 12, 13] [] rfl rfl (by decide) (by decide) (fun r_9 u_32 H locs hw9 hP hD hS => ?_)
        have er_9 := hw9
        replace er_9 := er_9.symm
        subst er_9
        have hP : va_P D vwCl (wMo mx cI cZ w (nI nz) q d (nI nt) pr mw mt zo ke wy st tr be ch (nI (as2 (nI 1) (nI 0)))) H := hP
        have hD : va_D A (wMo mx cI cZ w (nI nz) q d (nI nt) pr mw mt zo ke wy st tr be ch (nI (as2 (nI 1) (nI 0)))) := hD
        refine lv_if_ne (tgt := 50) hx hb dX8_setTie_45 (by decide) (fun c_33 => ?_) (fun c_33 => ?_)
        · have c_33 := bI_n0.mp c_33
          exact absurd nI0 (as2_0 c_33).2
        · have c_33 := bI_0.mp c_33
          refine lv_iconst (v := nI 0) hx hb dX8_setTie_48 (by decide) ?_
          have hP9 : va_P D vwCl (wMo mx cI cZ w (nI nz) q d (nI nt) pr mw mt zo ke wy st tr be ch (nI (as2 (nI 1) (nI 0)))) H := hP
          have hD9 : va_D A (wMo mx cI cZ w (nI nz) q d (nI nt) pr mw mt zo ke wy st tr be ch (nI (as2 (nI 1) (nI 0)))) := hD
          have g_34 : sSetTie nt Wf (nI tt) (nI zz) m9 (as2 (nI 1) (nI 0)) (nI 0) Wf := Or.inr (Or.inl ⟨⟨⟨tt, h_tt, rfl⟩, ⟨zz, h_zz, rfl⟩⟩, fun q9 => c_31 ((inI_R (lo := 0) (hi := 9) (by omega) (by omega)).mpr q9.1), as2_2 nI1 nI0, rfl⟩)
          have g_35 : ∀ t j, t < 7 → j < 7 → mt (7 * t + j) = Wf t j := hmW
          exact W.iret (v := nI 0) hx hb hr (fun t9 ht9 hW9 => ⟨⟨nI 0, (nI 0, as2 (nI 1) (nI 0), mt, Wf), rfl, ⟨rfl, g_34, g_35⟩, by rw [ht9]; exact hP9, hD9⟩, hS.F ht9⟩) hS.2.2 dX8_setTie_49
      · have c_31 := bI_n0.mp c_31
        refine lv_iload_n hx hb dX8_setTie_32 rfl (lv_at hl 1 rfl) ?_
        refine lv_iload_n hx hb dX8_setTie_33 rfl (lv_at hl 2 rfl) ?_
        refine lv_icmp_eq (tgt := 41) hx hb dX8_setTie_34 (by decide) (fun c_36 => ?_) (fun c_36 => ?_)
        · have c_36 := z_eq (by omega) (by omega) c_36
          refine lv_iconst (v := nI 0) hx hb dX8_setTie_41 (by decide) ?_
          refine rw_i (wr := ([] : va_W)) (w_V (As := [.int (nI 1), .int (nI 0)]) ⟨hx, hb, hml, hown, hts⟩ (c_X8_asked_ l D cI cZ cQ cJ mx w nz q d nt pr mw mt zo ke wy st tr be ch th (nI 1) (nI 0) H.size) (gV t4_47 t4_49 t0_20 t1_10 t4_50) rfl rfl hd_X8_asked_ ⟨Nat.le_of_ble_eq_true rfl, Nat.le_of_ble_eq_true rfl⟩ (rw_pre hP hD hSt [0, 1, 2, 3, 4, 5, 6, 7, 8, 9, 10, 11, 12, 13] rfl (by decide)) (va_recv hSt.1 hP (ci := 8) (q0 := 0) rfl rfl) rfl hl.1 (rest := []) rfl (Nat.le_of_ble_eq_true rfl) dX8_setTie_42 ⟨Nat.le_of_ble_eq_true rfl, Nat.le_of_ble_eq_true rfl⟩) hP hD hS hA [0, 1, 2, 3, 4, 5, 6, 7, 8, 9, 10, 11, 12, 13] [] rfl rfl (by decide) (by decide) (fun r_9 u_37 H locs hw9 hP hD hS => ?_)
          have er_9 := hw9
          replace er_9 := er_9.symm
          subst er_9
          have hP : va_P D vwCl (wMo mx cI cZ w (nI nz) q d (nI nt) pr mw mt zo ke wy st tr be ch (nI (as2 (nI 1) (nI 0)))) H := hP
          have hD : va_D A (wMo mx cI cZ w (nI nz) q d (nI nt) pr mw mt zo ke wy st tr be ch (nI (as2 (nI 1) (nI 0)))) := hD
          refine lv_if_ne (tgt := 50) hx hb dX8_setTie_45 (by decide) (fun c_38 => ?_) (fun c_38 => ?_)
          · have c_38 := bI_n0.mp c_38
            exact absurd nI0 (as2_0 c_38).2
          · have c_38 := bI_0.mp c_38
            refine lv_iconst (v := nI 0) hx hb dX8_setTie_48 (by decide) ?_
            have hP9 : va_P D vwCl (wMo mx cI cZ w (nI nz) q d (nI nt) pr mw mt zo ke wy st tr be ch (nI (as2 (nI 1) (nI 0)))) H := hP
            have hD9 : va_D A (wMo mx cI cZ w (nI nz) q d (nI nt) pr mw mt zo ke wy st tr be ch (nI (as2 (nI 1) (nI 0)))) := hD
            have g_39 : sSetTie nt Wf (nI tt) (nI zz) m9 (as2 (nI 1) (nI 0)) (nI 0) Wf := Or.inr (Or.inl ⟨⟨⟨tt, h_tt, rfl⟩, ⟨zz, h_zz, rfl⟩⟩, fun q9 => q9.2 (by rw [c_36]), as2_2 nI1 nI0, rfl⟩)
            have g_40 : ∀ t j, t < 7 → j < 7 → mt (7 * t + j) = Wf t j := hmW
            exact W.iret (v := nI 0) hx hb hr (fun t9 ht9 hW9 => ⟨⟨nI 0, (nI 0, as2 (nI 1) (nI 0), mt, Wf), rfl, ⟨rfl, g_39, g_40⟩, by rw [ht9]; exact hP9, hD9⟩, hS.F ht9⟩) hS.2.2 dX8_setTie_49
        · have c_36 := z_ne (by omega) (by omega) c_36
          refine lv_iconst (v := nI 1) hx hb dX8_setTie_37 (by decide) ?_
          refine lv_goto (tgt := 42) hx hb dX8_setTie_38 (by decide) ?_
          refine rw_i (wr := ([] : va_W)) (w_V (As := [.int (nI 1), .int (nI 1)]) ⟨hx, hb, hml, hown, hts⟩ (c_X8_asked_ l D cI cZ cQ cJ mx w nz q d nt pr mw mt zo ke wy st tr be ch th (nI 1) (nI 1) H.size) (gV t4_47 t4_49 t0_20 t1_10 t4_50) rfl rfl hd_X8_asked_ ⟨Nat.le_of_ble_eq_true rfl, Nat.le_of_ble_eq_true rfl⟩ (rw_pre hP hD hSt [0, 1, 2, 3, 4, 5, 6, 7, 8, 9, 10, 11, 12, 13] rfl (by decide)) (va_recv hSt.1 hP (ci := 8) (q0 := 0) rfl rfl) rfl hl.1 (rest := []) rfl (Nat.le_of_ble_eq_true rfl) dX8_setTie_42 ⟨Nat.le_of_ble_eq_true rfl, Nat.le_of_ble_eq_true rfl⟩) hP hD hS hA [0, 1, 2, 3, 4, 5, 6, 7, 8, 9, 10, 11, 12, 13] [] rfl rfl (by decide) (by decide) (fun r_9 u_41 H locs hw9 hP hD hS => ?_)
          have er_9 := hw9
          replace er_9 := er_9.symm
          subst er_9
          have hP : va_P D vwCl (wMo mx cI cZ w (nI nz) q d (nI nt) pr mw mt zo ke wy st tr be ch (nI (as2 (nI 1) (nI 1)))) H := hP
          have hD : va_D A (wMo mx cI cZ w (nI nz) q d (nI nt) pr mw mt zo ke wy st tr be ch (nI (as2 (nI 1) (nI 1)))) := hD
          refine lv_if_ne (tgt := 50) hx hb dX8_setTie_45 (by decide) (fun c_42 => ?_) (fun c_42 => ?_)
          · have c_42 := bI_n0.mp c_42
            refine lv_aload_n hx hb dX8_setTie_50 rfl (lv_at hl 0 rfl) ?_
            refine va_get (D := D) (ci := 8) (v := .ref (mx 6)) (C := RX8) (T := TX8) (N := 16) hx hb hts tu_X8 hown hSt.1 hP 0 rfl rfl 7 (by decide) (hts _ t3_227) (fun _ h9 => h9) rfl dX8_setTie_51 ?_
            refine lv_bipush (v := nI 7) hx hb dX8_setTie_54 (by decide) ?_
            refine lv_iload_n hx hb dX8_setTie_56 rfl (lv_at hl 1 rfl) ?_
            refine r_muln hx hb dX8_setTie_57 ?_
            refine lv_iload_n hx hb dX8_setTie_58 rfl (lv_at hl 2 rfl) ?_
            refine r_addn hx hb dX8_setTie_59 ?_
            refine r_iald hx hb hSt.1 hP 6 0 rfl rfl (k := ((7 * tt) + zz)) (by omega) (by omega) dX8_setTie_60 ?_
            refine lv_istore (lv' := [(4, .int (mt ((7 * tt) + zz))), (0, .ref (mx 0)), (1, .int (nI tt)), (2, .int (nI zz)), (3, .int m9)]) hx hb dX8_setTie_61 hl (by decide) rfl (fun ls hl => ?_)
            refine lv_aload_n hx hb dX8_setTie_63 rfl (lv_at hl 1 rfl) ?_
            refine va_get (D := D) (ci := 8) (v := .ref (mx 6)) (C := RX8) (T := TX8) (N := 16) hx hb hts tu_X8 hown hSt.1 hP 0 rfl rfl 7 (by decide) (hts _ t3_227) (fun _ h9 => h9) rfl dX8_setTie_64 ?_
            refine lv_bipush (v := nI 7) hx hb dX8_setTie_67 (by decide) ?_
            refine lv_iload_n hx hb dX8_setTie_69 rfl (lv_at hl 2 rfl) ?_
            refine r_muln hx hb dX8_setTie_70 ?_
            refine lv_iload_n hx hb dX8_setTie_71 rfl (lv_at hl 3 rfl) ?_
            refine r_addn hx hb dX8_setTie_72 ?_
            refine lv_iload_n hx hb dX8_setTie_73 rfl (lv_at hl 4 rfl) ?_
            refine r_iast hx hb hSt.1 hP hD hS 6 0 rfl rfl (k := ((7 * tt) + zz)) (by omega) (by omega) dX8_setTie_74 (fun H locs hP hD hS => ?_)
            have hP : va_P D vwCl (wMo mx cI cZ w (nI nz) q d (nI nt) pr mw (upd mt ((7 * tt) + zz) m9) zo ke wy st tr be ch (nI (as2 (nI 1) (nI 1)))) H := hP
            have hD : va_D A (wMo mx cI cZ w (nI nz) q d (nI nt) pr mw (upd mt ((7 * tt) + zz) m9) zo ke wy st tr be ch (nI (as2 (nI 1) (nI 1)))) := hD
            refine lv_aload_n hx hb dX8_setTie_75 rfl (lv_at hl 1 rfl) ?_
            refine va_get (D := D) (ci := 8) (v := .ref (mx 6)) (C := RX8) (T := TX8) (N := 16) hx hb hts tu_X8 hown hSt.1 hP 0 rfl rfl 7 (by decide) (hts _ t3_227) (fun _ h9 => h9) rfl dX8_setTie_76 ?_
            refine lv_bipush (v := nI 7) hx hb dX8_setTie_79 (by decide) ?_
            refine lv_iload_n hx hb dX8_setTie_81 rfl (lv_at hl 3 rfl) ?_
            refine r_muln hx hb dX8_setTie_82 ?_
            refine lv_iload_n hx hb dX8_setTie_83 rfl (lv_at hl 2 rfl) ?_
            refine r_addn hx hb dX8_setTie_84 ?_
            refine lv_iload_n hx hb dX8_setTie_85 rfl (lv_at hl 4 rfl) ?_
            refine r_iast hx hb hSt.1 hP hD hS 6 0 rfl rfl (k := ((7 * zz) + tt)) (by omega) (by omega) dX8_setTie_86 (fun H locs hP hD hS => ?_)
            have hP : va_P D vwCl (wMo mx cI cZ w (nI nz) q d (nI nt) pr mw (upd (upd mt ((7 * tt) + zz) m9) ((7 * zz) + tt) m9) zo ke wy st tr be ch (nI (as2 (nI 1) (nI 1)))) H := hP
            have hD : va_D A (wMo mx cI cZ w (nI nz) q d (nI nt) pr mw (upd (upd mt ((7 * tt) + zz) m9) ((7 * zz) + tt) m9) zo ke wy st tr be ch (nI (as2 (nI 1) (nI 1)))) := hD
            refine lv_iload hx hb dX8_setTie_87 (lv_at hl 0 rfl) ?_
            have hP9 : va_P D vwCl (wMo mx cI cZ w (nI nz) q d (nI nt) pr mw (upd (upd mt ((7 * tt) + zz) m9) ((7 * zz) + tt) m9) zo ke wy st tr be ch (nI (as2 (nI 1) (nI 1)))) H := hP
            have hD9 : va_D A (wMo mx cI cZ w (nI nz) q d (nI nt) pr mw (upd (upd mt ((7 * tt) + zz) m9) ((7 * zz) + tt) m9) zo ke wy st tr be ch (nI (as2 (nI 1) (nI 1)))) := hD
            have g_43 : sSetTie nt Wf (nI tt) (nI zz) m9 (as2 (nI 1) (nI 1)) (mt ((7 * tt) + zz)) (u2 (u2 Wf tt zz m9) zz tt m9) := Or.inr (Or.inr ⟨⟨⟨tt, h_tt, rfl⟩, ⟨zz, h_zz, rfl⟩⟩, ⟨(inI_R (lo := 0) (hi := 9) (by omega) (by omega)).mp c_31, fun q9 => c_36 (z_eq (by omega) (by omega) q9)⟩, c_42, by rw [nIc (by omega), nIc (by omega)]; exact hmW tt zz (by omega) (by omega), by rw [nIc (by omega), nIc (by omega)]⟩)
            have g_44 : ∀ t j, t < 7 → j < 7 → (upd (upd mt ((7 * tt) + zz) m9) ((7 * zz) + tt) m9) (7 * t + j) = (u2 (u2 Wf tt zz m9) zz tt m9) t j := mw_u2 (mw_u2 hmW (by omega)) (by omega)
            exact W.iret (v := mt ((7 * tt) + zz)) hx hb hr (fun t9 ht9 hW9 => ⟨⟨mt ((7 * tt) + zz), (mt ((7 * tt) + zz), as2 (nI 1) (nI 1), upd (upd mt ((7 * tt) + zz) m9) ((7 * zz) + tt) m9, u2 (u2 Wf tt zz m9) zz tt m9), rfl, ⟨rfl, g_43, g_44⟩, by rw [ht9]; exact hP9, hD9⟩, hS.F ht9⟩) hS.2.2 dX8_setTie_89
          · have c_42 := bI_0.mp c_42
            exact absurd (as2_3 nI1 nI1) c_42
set_option maxHeartbeats 4000000 in
set_option maxRecDepth 100000 in
theorem c_X8_place (l : Launch) (D : va_G) (cI cZ cQ cJ : ClassId) (mx : Nat → Nat) (w : Nat → Int32) (nz : Nat) (q : Nat → Int32) (d : Nat → Int32) (nt : Nat) (pr : Nat → Int32) (mw : Nat → Int32) (mt : Nat → Int32) (zo : Nat → Int32) (ke : Nat → Int32) (wy : Nat → Int32) (st : Nat → Int32) (tr : Nat → Int32) (be : Nat → Int32) (ch : Nat → Int32) (th : Int32) (pp : Nat → Nat → Nat) (n : Nat → Int32) (g : Nat → Nat) (cz : Nat → Int32) (t : Int32) (z : Int32) (sz : Nat) (hnz : nz ≤ 7) (hnt : nt ≤ 7) (hpr : ∀ t, t < nt → ∀ j, j < 5 → pr (5 * t + j) = nI (pp t j) ∧ pp t j ≤ 60) (hnn : ∀ t, t < nt → n t = nI (ndN (pp t))) (hzo : pOK nt zo g) (hcz : pOK 7 cz g) (hvg : vG nz nt g) : Met l yX8_place (.code yX8_place cX8_place 6 (some .int) :: ALL) ({ frames := 2, cells := 0, slots := 0, locals := 45 } : Room) (va_Pc [.ref (mx 0), .int t, .int z] (rw_P D cI cZ cQ cJ (wMo mx cI cZ w (nI nz) q d (nI nt) pr mw mt zo ke wy st tr be ch th) sz)) (va_Qi (fun (r9 : Int32) (u9 : Int32 × Nat × (Nat → Int32) × (Nat → Int32)) => (r9 = u9.1) ∧ (sPlace nt nz cz n d t z u9.2.1 u9.1 u9.2.2.2) ∧ (u9.2.2.1 = if u9.2.1 = 0 then upd zo t.toNatClampNeg z else zo)) (rw_B D (va_A (wMo mx cI cZ w (nI nz) q d (nI nt) pr mw mt zo ke wy st tr be ch th) sz) (fun u9 : Int32 × Nat × (Nat → Int32) × (Nat → Int32) => wMo mx cI cZ w (nI nz) q d (nI nt) pr mw mt u9.2.2.1 ke wy st tr be ch (nI u9.2.1))) (va_A (wMo mx cI cZ w (nI nz) q d (nI nt) pr mw mt zo ke wy st tr be ch th) sz)) 0 0 (va_A (wMo mx cI cZ w (nI nz) q d (nI nt) pr mw mt zo ke wy st tr be ch th) sz) := by
  refine Met.ofW (cc := cX8_place) (maxL := 6) (ret := (some .int)) (by decide) rfl ?_
  intro p e s m args below meth c s₁ B hml hv
  obtain ⟨rfl, hsz, hP, hSt, hD0⟩ := hv
  have hx := B.exec
  have hb := B.bytes
  have hr := B.returns
  have hts : ∀ w ∈ ALL, w.before ([.ref (mx 0), .int t, .int z] : List Value).toArray s = true := fun w h => atoms_spec (ws := (.code yX8_place cX8_place 6 (some .int) :: ALL)) B.pre w (List.mem_cons_of_mem _ h)
  have hown : s.vm.findClass RX8 = some m.cls := findClass_of_methodNamed B.named
  have hlocks := B.notSynchronized
  subst hsz
  have hD := hD0.self (sz := s.heap.size)
  clear hD0
  generalize hAe : va_A (wMo mx cI cZ w (nI nz) q d (nI nt) pr mw mt zo ke wy st tr be ch th) s.heap.size = A at hD ⊢
  have hA : ∀ q : Nat, s.heap.size ≤ q → A q := fun q h => by rw [← hAe]; exact Or.inr h
  have hS : va_S A s.heap s.heap [] := va_S.rf
  have hl := lv_entry ([.ref (mx 0), .int t, .int z]) (n := 6) (Nat.le_of_ble_eq_true rfl)
  rw [lg_entry_eq]
  generalize (lg_sl ([.ref (mx 0), .int t, .int z]) ++ List.replicate (6 - (lg_sl ([.ref (mx 0), .int t, .int z])).length) Slot.unset).toArray = ls at hl ⊢
  have hl : lv_has ls 6 [(0, .ref (mx 0)), (1, .int t), (2, .int z)] := hl
  obtain ⟨H, hHe⟩ : ∃ H : Heap, H = s.heap := ⟨_, rfl⟩
  obtain ⟨locs, hLe⟩ : ∃ L : List Loc, L = [] := ⟨_, rfl⟩
  have hP : va_P D vwCl (wMo mx cI cZ w (nI nz) q d (nI nt) pr mw mt zo ke wy st tr be ch th) H := by rw [hHe]; exact hP
  have hS : va_S A s.heap H locs := by rw [hHe, hLe]; exact hS
  refine W.eqHL hHe hLe ?_
  refine lv_aload_n hx hb dX8_place_0 rfl (lv_at hl 0 rfl) ?_
  refine lv_iload_n hx hb dX8_place_1 rfl (lv_at hl 1 rfl) ?_
  refine ro_V (As := [.int t]) (rest := []) (v := bI (inI t (nI 0) (nI nt - nI 1))) ⟨hx, hb, hml, hown, hts⟩ (c_X8_isTeam l D cI cZ cQ cJ mx w nz q d nt pr mw mt zo ke wy st tr be ch th t) (gV t4_87 t4_89 t0_26 t1_10 t4_90) rfl rfl hd_X8_isTeam ⟨Nat.le_of_ble_eq_true rfl, Nat.le_of_ble_eq_true rfl⟩ hP hSt (va_recv hSt.1 hP (ci := 8) (q0 := 0) rfl rfl) rfl hl.1 rfl (Nat.le_of_ble_eq_true rfl) dX8_place_2 (Nat.zero_le _) (Nat.zero_le _) ?_
  refine lv_if_eq (tgt := 25) hx hb dX8_place_5 (by decide) (fun c_1 => ?_) (fun c_1 => ?_)
  · have c_1 := bI_0.mp c_1
    refine lv_iconst (v := nI 0) hx hb dX8_place_25 (by decide) ?_
    refine lv_istore_n (lv' := [(3, .int (nI 0)), (0, .ref (mx 0)), (1, .int t), (2, .int z)]) hx hb dX8_place_26 rfl hl (by decide) rfl (fun ls hl => ?_)
    refine lv_iload_n hx hb dX8_place_27 rfl (lv_at hl 0 rfl) ?_
    refine lv_if_eq (tgt := 44) hx hb dX8_place_28 (by decide) (fun c_2 => ?_) (fun c_2 => ?_)
    · refine lv_iconst (v := (-1 : Int32)) hx hb dX8_place_44 (by decide) ?_
      refine lv_istore (lv' := [(4, .int (-1 : Int32)), (3, .int (nI 0)), (0, .ref (mx 0)), (1, .int t), (2, .int z)]) hx hb dX8_place_45 hl (by decide) rfl (fun ls hl => ?_)
      refine lv_aload_n hx hb dX8_place_47 rfl (lv_at hl 2 rfl) ?_
      refine lv_iload_n hx hb dX8_place_48 rfl (lv_at hl 1 rfl) ?_
      refine lv_iload_n hx hb dX8_place_49 rfl (lv_at hl 1 rfl) ?_
      refine lv_if_eq (tgt := 83) hx hb dX8_place_50 (by decide) (fun c_3 => ?_) (fun c_3 => ?_)
      · refine lv_iconst (v := nI 0) hx hb dX8_place_83 (by decide) ?_
        refine rw_i (wr := ([] : va_W)) (w_V (As := [.int (nI 0), .int (nI 0)]) ⟨hx, hb, hml, hown, hts⟩ (c_X8_asked_ l D cI cZ cQ cJ mx w nz q d nt pr mw mt zo ke wy st tr be ch th (nI 0) (nI 0) H.size) (gV t4_47 t4_49 t0_20 t1_10 t4_50) rfl rfl hd_X8_asked_ ⟨Nat.le_of_ble_eq_true rfl, Nat.le_of_ble_eq_true rfl⟩ (rw_pre hP hD hSt [0, 1, 2, 3, 4, 5, 6, 7, 8, 9, 10, 11, 12, 13] rfl (by decide)) (va_recv hSt.1 hP (ci := 8) (q0 := 0) rfl rfl) rfl hl.1 (rest := []) rfl (Nat.le_of_ble_eq_true rfl) dX8_place_84 ⟨Nat.le_of_ble_eq_true rfl, Nat.le_of_ble_eq_true rfl⟩) hP hD hS hA [0, 1, 2, 3, 4, 5, 6, 7, 8, 9, 10, 11, 12, 13] [] rfl rfl (by decide) (by decide) (fun r_9 u_4 H locs hw9 hP hD hS => ?_)
        have er_9 := hw9
        replace er_9 := er_9.symm
        subst er_9
        have hP : va_P D vwCl (wMo mx cI cZ w (nI nz) q d (nI nt) pr mw mt zo ke wy st tr be ch (nI (as2 (nI 0) (nI 0)))) H := hP
        have hD : va_D A (wMo mx cI cZ w (nI nz) q d (nI nt) pr mw mt zo ke wy st tr be ch (nI (as2 (nI 0) (nI 0)))) := hD
        refine lv_if_ne (tgt := 92) hx hb dX8_place_87 (by decide) (fun c_5 => ?_) (fun c_5 => ?_)
        · have c_5 := bI_n0.mp c_5
          exact absurd nI0 (as2_0 c_5).1
        · have c_5 := bI_0.mp c_5
          refine lv_iconst (v := nI 0) hx hb dX8_place_90 (by decide) ?_
          have hP9 : va_P D vwCl (wMo mx cI cZ w (nI nz) q d (nI nt) pr mw mt zo ke wy st tr be ch (nI (as2 (nI 0) (nI 0)))) H := hP
          have hD9 : va_D A (wMo mx cI cZ w (nI nz) q d (nI nt) pr mw mt zo ke wy st tr be ch (nI (as2 (nI 0) (nI 0)))) := hD
          have g_6 : sPlace nt nz cz n d t z (as2 (nI 0) (nI 0)) (nI 0) cz := Or.inl ⟨fun q9 => c_1 ((inI_N (n := nt) (by omega)).mpr q9.1), if_pos nI0, rfl⟩
          have g_7 : zo = if (as2 (nI 0) (nI 0)) = 0 then upd zo t.toNatClampNeg z else zo := by rw [as2_1 nI0, if_neg (by decide)]
          exact W.iret (v := nI 0) hx hb hr (fun t9 ht9 hW9 => ⟨⟨nI 0, (nI 0, as2 (nI 0) (nI 0), zo, cz), rfl, ⟨rfl, g_6, g_7⟩, by rw [ht9]; exact hP9, hD9⟩, hS.F ht9⟩) hS.2.2 dX8_place_91
      · exact absurd c_3 (by decide)
    · exact absurd c_2 (by decide)
  · have c_1 := bI_n0.mp c_1
    obtain ⟨tt, h_tt, rfl⟩ := (inI_N (n := nt) (by omega)).mp c_1
    refine lv_iload_n hx hb dX8_place_8 rfl (lv_at hl 2 rfl) ?_
    refine lv_iconst (v := (-1 : Int32)) hx hb dX8_place_9 (by decide) ?_
    refine lv_icmp_eq (tgt := 21) hx hb dX8_place_10 (by decide) (fun c_8 => ?_) (fun c_8 => ?_)
    · refine lv_iconst (v := nI 1) hx hb dX8_place_21 (by decide) ?_
      refine lv_goto (tgt := 26) hx hb dX8_place_22 (by decide) ?_
      refine lv_istore_n (lv' := [(3, .int (nI 1)), (0, .ref (mx 0)), (1, .int (nI tt)), (2, .int z)]) hx hb dX8_place_26 rfl hl (by decide) rfl (fun ls hl => ?_)
      refine lv_iload_n hx hb dX8_place_27 rfl (lv_at hl 0 rfl) ?_
      refine lv_if_eq (tgt := 44) hx hb dX8_place_28 (by decide) (fun c_9 => ?_) (fun c_9 => ?_)
      · exact absurd c_9 (by decide)
      · refine lv_iload_n hx hb dX8_place_31 rfl (lv_at hl 3 rfl) ?_
        refine lv_iconst (v := (-1 : Int32)) hx hb dX8_place_32 (by decide) ?_
        refine lv_icmp_eq (tgt := 44) hx hb dX8_place_33 (by decide) (fun c_10 => ?_) (fun c_10 => ?_)
        · refine lv_iconst (v := (-1 : Int32)) hx hb dX8_place_44 (by decide) ?_
          refine lv_istore (lv' := [(4, .int (-1 : Int32)), (3, .int (nI 1)), (0, .ref (mx 0)), (1, .int (nI tt)), (2, .int z)]) hx hb dX8_place_45 hl (by decide) rfl (fun ls hl => ?_)
          refine lv_aload_n hx hb dX8_place_47 rfl (lv_at hl 2 rfl) ?_
          refine lv_iload_n hx hb dX8_place_48 rfl (lv_at hl 1 rfl) ?_
          refine lv_iload_n hx hb dX8_place_49 rfl (lv_at hl 1 rfl) ?_
          refine lv_if_eq (tgt := 83) hx hb dX8_place_50 (by decide) (fun c_11 => ?_) (fun c_11 => ?_)
          · exact absurd c_11 (by decide)
          · refine lv_iload_n hx hb dX8_place_53 rfl (lv_at hl 4 rfl) ?_
            refine lv_iconst (v := (-1 : Int32)) hx hb dX8_place_54 (by decide) ?_
            refine lv_icmp_eq (tgt := 79) hx hb dX8_place_55 (by decide) (fun c_12 => ?_) (fun c_12 => ?_)
            · refine lv_iconst (v := nI 1) hx hb dX8_place_79 (by decide) ?_
              refine lv_goto (tgt := 84) hx hb dX8_place_80 (by decide) ?_
              refine rw_i (wr := ([] : va_W)) (w_V (As := [.int (nI 1), .int (nI 1)]) ⟨hx, hb, hml, hown, hts⟩ (c_X8_asked_ l D cI cZ cQ cJ mx w nz q d nt pr mw mt zo ke wy st tr be ch th (nI 1) (nI 1) H.size) (gV t4_47 t4_49 t0_20 t1_10 t4_50) rfl rfl hd_X8_asked_ ⟨Nat.le_of_ble_eq_true rfl, Nat.le_of_ble_eq_true rfl⟩ (rw_pre hP hD hSt [0, 1, 2, 3, 4, 5, 6, 7, 8, 9, 10, 11, 12, 13] rfl (by decide)) (va_recv hSt.1 hP (ci := 8) (q0 := 0) rfl rfl) rfl hl.1 (rest := []) rfl (Nat.le_of_ble_eq_true rfl) dX8_place_84 ⟨Nat.le_of_ble_eq_true rfl, Nat.le_of_ble_eq_true rfl⟩) hP hD hS hA [0, 1, 2, 3, 4, 5, 6, 7, 8, 9, 10, 11, 12, 13] [] rfl rfl (by decide) (by decide) (fun r_9 u_13 H locs hw9 hP hD hS => ?_)
              have er_9 := hw9
              replace er_9 := er_9.symm
              subst er_9
              have hP : va_P D vwCl (wMo mx cI cZ w (nI nz) q d (nI nt) pr mw mt zo ke wy st tr be ch (nI (as2 (nI 1) (nI 1)))) H := hP
              have hD : va_D A (wMo mx cI cZ w (nI nz) q d (nI nt) pr mw mt zo ke wy st tr be ch (nI (as2 (nI 1) (nI 1)))) := hD
              refine lv_if_ne (tgt := 92) hx hb dX8_place_87 (by decide) (fun c_14 => ?_) (fun c_14 => ?_)
              · have c_14 := bI_n0.mp c_14
                refine lv_aload_n hx hb dX8_place_92 rfl (lv_at hl 2 rfl) ?_
                refine va_get (D := D) (ci := 8) (v := .ref (mx 7)) (C := RX8) (T := TX8) (N := 16) hx hb hts tu_X8 hown hSt.1 hP 0 rfl rfl 8 (by decide) (hts _ t3_228) (fun _ h9 => h9) rfl dX8_place_93 ?_
                refine lv_iload_n hx hb dX8_place_96 rfl (lv_at hl 3 rfl) ?_
                refine r_iald hx hb hSt.1 hP 7 0 rfl rfl (k := tt) (by omega) (by omega) dX8_place_97 ?_
                refine lv_istore (lv' := [(5, .int (zo tt)), (4, .int (-1 : Int32)), (3, .int (nI 1)), (0, .ref (mx 0)), (1, .int (nI tt)), (2, .int z)]) hx hb dX8_place_98 hl (by decide) rfl (fun ls hl => ?_)
                refine lv_aload_n hx hb dX8_place_100 rfl (lv_at hl 3 rfl) ?_
                refine va_get (D := D) (ci := 8) (v := .ref (mx 7)) (C := RX8) (T := TX8) (N := 16) hx hb hts tu_X8 hown hSt.1 hP 0 rfl rfl 8 (by decide) (hts _ t3_228) (fun _ h9 => h9) rfl dX8_place_101 ?_
                refine lv_iload_n hx hb dX8_place_104 rfl (lv_at hl 4 rfl) ?_
                refine lv_iload_n hx hb dX8_place_105 rfl (lv_at hl 5 rfl) ?_
                refine r_iast hx hb hSt.1 hP hD hS 7 0 rfl rfl (k := tt) (by omega) (by omega) dX8_place_106 (fun H locs hP hD hS => ?_)
                have hP : va_P D vwCl (wMo mx cI cZ w (nI nz) q d (nI nt) pr mw mt (upd zo tt z) ke wy st tr be ch (nI (as2 (nI 1) (nI 1)))) H := hP
                have hD : va_D A (wMo mx cI cZ w (nI nz) q d (nI nt) pr mw mt (upd zo tt z) ke wy st tr be ch (nI (as2 (nI 1) (nI 1)))) := hD
                refine lv_iload hx hb dX8_place_107 (lv_at hl 0 rfl) ?_
                have hP9 : va_P D vwCl (wMo mx cI cZ w (nI nz) q d (nI nt) pr mw mt (upd zo tt z) ke wy st tr be ch (nI (as2 (nI 1) (nI 1)))) H := hP
                have hD9 : va_D A (wMo mx cI cZ w (nI nz) q d (nI nt) pr mw mt (upd zo tt z) ke wy st tr be ch (nI (as2 (nI 1) (nI 1)))) := hD
                have g_15 : sPlace nt nz cz n d (nI tt) z (as2 (nI 1) (nI 1)) (zo tt) (upd cz tt z) := Or.inr (Or.inr ⟨⟨⟨tt, h_tt, rfl⟩, Or.inl c_8⟩, Or.inl c_8, c_14, by rw [nIc (by omega), hzo tt (by omega), hcz tt (by omega)], by rw [nIc (by omega)]⟩)
                have g_16 : (upd zo tt z) = if (as2 (nI 1) (nI 1)) = 0 then upd zo (nI tt).toNatClampNeg z else zo := by rw [if_pos c_14, nIc (by omega)]
                exact W.iret (v := zo tt) hx hb hr (fun t9 ht9 hW9 => ⟨⟨zo tt, (zo tt, as2 (nI 1) (nI 1), upd zo tt z, upd cz tt z), rfl, ⟨rfl, g_15, g_16⟩, by rw [ht9]; exact hP9, hD9⟩, hS.F ht9⟩) hS.2.2 dX8_place_109
              · have c_14 := bI_0.mp c_14
                exact absurd (as2_3 nI1 nI1) c_14
            · exact absurd c_8 c_12
        · exact absurd c_8 c_10
    · refine lv_aload_n hx hb dX8_place_13 rfl (lv_at hl 0 rfl) ?_
      refine lv_iload_n hx hb dX8_place_14 rfl (lv_at hl 2 rfl) ?_
      refine ro_V (As := [.int z]) (rest := []) (v := bI (inI z (nI 0) (nI nz - nI 1))) ⟨hx, hb, hml, hown, hts⟩ (c_X8_isZone l D cI cZ cQ cJ mx w nz q d nt pr mw mt zo ke wy st tr be ch th z) (gV t4_63 t4_65 t0_22 t1_10 t4_66) rfl rfl hd_X8_isZone ⟨Nat.le_of_ble_eq_true rfl, Nat.le_of_ble_eq_true rfl⟩ hP hSt (va_recv hSt.1 hP (ci := 8) (q0 := 0) rfl rfl) rfl hl.1 rfl (Nat.le_of_ble_eq_true rfl) dX8_place_15 (Nat.zero_le _) (Nat.zero_le _) ?_
      refine lv_if_eq (tgt := 25) hx hb dX8_place_18 (by decide) (fun c_17 => ?_) (fun c_17 => ?_)
      · have c_17 := bI_0.mp c_17
        refine lv_iconst (v := nI 0) hx hb dX8_place_25 (by decide) ?_
        refine lv_istore_n (lv' := [(3, .int (nI 0)), (0, .ref (mx 0)), (1, .int (nI tt)), (2, .int z)]) hx hb dX8_place_26 rfl hl (by decide) rfl (fun ls hl => ?_)
        refine lv_iload_n hx hb dX8_place_27 rfl (lv_at hl 0 rfl) ?_
        refine lv_if_eq (tgt := 44) hx hb dX8_place_28 (by decide) (fun c_18 => ?_) (fun c_18 => ?_)
        · refine lv_iconst (v := (-1 : Int32)) hx hb dX8_place_44 (by decide) ?_
          refine lv_istore (lv' := [(4, .int (-1 : Int32)), (3, .int (nI 0)), (0, .ref (mx 0)), (1, .int (nI tt)), (2, .int z)]) hx hb dX8_place_45 hl (by decide) rfl (fun ls hl => ?_)
          refine lv_aload_n hx hb dX8_place_47 rfl (lv_at hl 2 rfl) ?_
          refine lv_iload_n hx hb dX8_place_48 rfl (lv_at hl 1 rfl) ?_
          refine lv_iload_n hx hb dX8_place_49 rfl (lv_at hl 1 rfl) ?_
          refine lv_if_eq (tgt := 83) hx hb dX8_place_50 (by decide) (fun c_19 => ?_) (fun c_19 => ?_)
          · refine lv_iconst (v := nI 0) hx hb dX8_place_83 (by decide) ?_
            refine rw_i (wr := ([] : va_W)) (w_V (As := [.int (nI 0), .int (nI 0)]) ⟨hx, hb, hml, hown, hts⟩ (c_X8_asked_ l D cI cZ cQ cJ mx w nz q d nt pr mw mt zo ke wy st tr be ch th (nI 0) (nI 0) H.size) (gV t4_47 t4_49 t0_20 t1_10 t4_50) rfl rfl hd_X8_asked_ ⟨Nat.le_of_ble_eq_true rfl, Nat.le_of_ble_eq_true rfl⟩ (rw_pre hP hD hSt [0, 1, 2, 3, 4, 5, 6, 7, 8, 9, 10, 11, 12, 13] rfl (by decide)) (va_recv hSt.1 hP (ci := 8) (q0 := 0) rfl rfl) rfl hl.1 (rest := []) rfl (Nat.le_of_ble_eq_true rfl) dX8_place_84 ⟨Nat.le_of_ble_eq_true rfl, Nat.le_of_ble_eq_true rfl⟩) hP hD hS hA [0, 1, 2, 3, 4, 5, 6, 7, 8, 9, 10, 11, 12, 13] [] rfl rfl (by decide) (by decide) (fun r_9 u_20 H locs hw9 hP hD hS => ?_)
            have er_9 := hw9
            replace er_9 := er_9.symm
            subst er_9
            have hP : va_P D vwCl (wMo mx cI cZ w (nI nz) q d (nI nt) pr mw mt zo ke wy st tr be ch (nI (as2 (nI 0) (nI 0)))) H := hP
            have hD : va_D A (wMo mx cI cZ w (nI nz) q d (nI nt) pr mw mt zo ke wy st tr be ch (nI (as2 (nI 0) (nI 0)))) := hD
            refine lv_if_ne (tgt := 92) hx hb dX8_place_87 (by decide) (fun c_21 => ?_) (fun c_21 => ?_)
            · have c_21 := bI_n0.mp c_21
              exact absurd nI0 (as2_0 c_21).1
            · have c_21 := bI_0.mp c_21
              refine lv_iconst (v := nI 0) hx hb dX8_place_90 (by decide) ?_
              have hP9 : va_P D vwCl (wMo mx cI cZ w (nI nz) q d (nI nt) pr mw mt zo ke wy st tr be ch (nI (as2 (nI 0) (nI 0)))) H := hP
              have hD9 : va_D A (wMo mx cI cZ w (nI nz) q d (nI nt) pr mw mt zo ke wy st tr be ch (nI (as2 (nI 0) (nI 0)))) := hD
              have g_22 : sPlace nt nz cz n d (nI tt) z (as2 (nI 0) (nI 0)) (nI 0) cz := Or.inl ⟨fun q9 => q9.2.elim c_8 (fun q8 => c_17 ((inI_N (n := nz) (by omega)).mpr q8)), if_pos nI0, rfl⟩
              have g_23 : zo = if (as2 (nI 0) (nI 0)) = 0 then upd zo (nI tt).toNatClampNeg z else zo := by rw [as2_1 nI0, if_neg (by decide)]
              exact W.iret (v := nI 0) hx hb hr (fun t9 ht9 hW9 => ⟨⟨nI 0, (nI 0, as2 (nI 0) (nI 0), zo, cz), rfl, ⟨rfl, g_22, g_23⟩, by rw [ht9]; exact hP9, hD9⟩, hS.F ht9⟩) hS.2.2 dX8_place_91
          · exact absurd c_19 (by decide)
        · exact absurd c_18 (by decide)
      · have c_17 := bI_n0.mp c_17
        obtain ⟨zz, h_zz, rfl⟩ := (inI_N (n := nz) (by omega)).mp c_17
        refine lv_iconst (v := nI 1) hx hb dX8_place_21 (by decide) ?_
        refine lv_goto (tgt := 26) hx hb dX8_place_22 (by decide) ?_
        refine lv_istore_n (lv' := [(3, .int (nI 1)), (0, .ref (mx 0)), (1, .int (nI tt)), (2, .int (nI zz))]) hx hb dX8_place_26 rfl hl (by decide) rfl (fun ls hl => ?_)
        refine lv_iload_n hx hb dX8_place_27 rfl (lv_at hl 0 rfl) ?_
        refine lv_if_eq (tgt := 44) hx hb dX8_place_28 (by decide) (fun c_24 => ?_) (fun c_24 => ?_)
        · exact absurd c_24 (by decide)
        · refine lv_iload_n hx hb dX8_place_31 rfl (lv_at hl 3 rfl) ?_
          refine lv_iconst (v := (-1 : Int32)) hx hb dX8_place_32 (by decide) ?_
          refine lv_icmp_eq (tgt := 44) hx hb dX8_place_33 (by decide) (fun c_25 => ?_) (fun c_25 => ?_)
          · exact absurd c_25 (z_m1 (by omega))
          · refine lv_aload_n hx hb dX8_place_36 rfl (lv_at hl 1 rfl) ?_
            refine lv_iload_n hx hb dX8_place_37 rfl (lv_at hl 3 rfl) ?_
            refine ro_V (As := [.int (nI zz)]) (rest := []) (v := tAt cz (nI zz)) ⟨hx, hb, hml, hown, hts⟩ (c_X8_inZone l D cI cZ cQ cJ mx w nz q d nt pr mw mt zo ke wy st tr be ch th g cz zz (by first | assumption | omega) (by first | assumption | omega) (by first | assumption | omega) (by first | assumption | omega) (by first | assumption | omega) (by omega)) (gV t4_67 t4_69 t0_23 t1_10 t4_70) rfl rfl hd_X8_inZone ⟨Nat.le_of_ble_eq_true rfl, Nat.le_of_ble_eq_true rfl⟩ hP hSt (va_recv hSt.1 hP (ci := 8) (q0 := 0) rfl rfl) rfl hl.1 rfl (Nat.le_of_ble_eq_true rfl) dX8_place_38 (Nat.zero_le _) (Nat.zero_le _) ?_
            refine lv_goto (tgt := 45) hx hb dX8_place_41 (by decide) ?_
            refine lv_istore (lv' := [(4, .int (tAt cz (nI zz))), (3, .int (nI 1)), (0, .ref (mx 0)), (1, .int (nI tt)), (2, .int (nI zz))]) hx hb dX8_place_45 hl (by decide) rfl (fun ls hl => ?_)
            refine lv_aload_n hx hb dX8_place_47 rfl (lv_at hl 2 rfl) ?_
            refine lv_iload_n hx hb dX8_place_48 rfl (lv_at hl 1 rfl) ?_
            refine lv_iload_n hx hb dX8_place_49 rfl (lv_at hl 1 rfl) ?_
            refine lv_if_eq (tgt := 83) hx hb dX8_place_50 (by decide) (fun c_26 => ?_) (fun c_26 => ?_)
            · exact absurd c_26 (by decide)
            · refine lv_iload_n hx hb dX8_place_53 rfl (lv_at hl 4 rfl) ?_
              refine lv_iconst (v := (-1 : Int32)) hx hb dX8_place_54 (by decide) ?_
              refine lv_icmp_eq (tgt := 79) hx hb dX8_place_55 (by decide) (fun c_27 => ?_) (fun c_27 => ?_)
              · exact absurd c_27 (z_m1 (by omega))
              · refine lv_iload hx hb dX8_place_58 (lv_at hl 0 rfl) ?_
                refine lv_iconst (v := (-1 : Int32)) hx hb dX8_place_60 (by decide) ?_
                refine lv_icmp_eq (tgt := 70) hx hb dX8_place_61 (by decide) (fun c_28 => ?_) (fun c_28 => ?_)
                · refine lv_aload_n hx hb dX8_place_70 rfl (lv_at hl 2 rfl) ?_
                  refine lv_iload_n hx hb dX8_place_71 rfl (lv_at hl 3 rfl) ?_
                  refine lv_iload_n hx hb dX8_place_72 rfl (lv_at hl 4 rfl) ?_
                  refine ro_V (As := [.int (nI tt), .int (nI zz)]) (rest := [.int (nI 1), .ref (mx 0)]) (v := bI (n tt ≤ d zz)) ⟨hx, hb, hml, hown, hts⟩ (c_X8_fits l D cI cZ cQ cJ mx w nz q d nt pr mw mt zo ke wy st tr be ch th pp n tt zz (by first | assumption | omega) (by first | assumption | omega) (by first | assumption | omega) (by first | assumption | omega) (by first | assumption | omega)) (gV t4_103 t4_105 t0_27 t1_10 t4_106) rfl rfl hd_X8_fits ⟨Nat.le_of_ble_eq_true rfl, Nat.le_of_ble_eq_true rfl⟩ hP hSt (va_recv hSt.1 hP (ci := 8) (q0 := 0) rfl rfl) rfl hl.1 rfl (Nat.le_of_ble_eq_true rfl) dX8_place_73 (Nat.zero_le _) (Nat.zero_le _) ?_
                  refine lv_if_eq (tgt := 83) hx hb dX8_place_76 (by decide) (fun c_29 => ?_) (fun c_29 => ?_)
                  · have c_29 := bI_0.mp c_29
                    refine lv_iconst (v := nI 0) hx hb dX8_place_83 (by decide) ?_
                    refine rw_i (wr := ([] : va_W)) (w_V (As := [.int (nI 1), .int (nI 0)]) ⟨hx, hb, hml, hown, hts⟩ (c_X8_asked_ l D cI cZ cQ cJ mx w nz q d nt pr mw mt zo ke wy st tr be ch th (nI 1) (nI 0) H.size) (gV t4_47 t4_49 t0_20 t1_10 t4_50) rfl rfl hd_X8_asked_ ⟨Nat.le_of_ble_eq_true rfl, Nat.le_of_ble_eq_true rfl⟩ (rw_pre hP hD hSt [0, 1, 2, 3, 4, 5, 6, 7, 8, 9, 10, 11, 12, 13] rfl (by decide)) (va_recv hSt.1 hP (ci := 8) (q0 := 0) rfl rfl) rfl hl.1 (rest := []) rfl (Nat.le_of_ble_eq_true rfl) dX8_place_84 ⟨Nat.le_of_ble_eq_true rfl, Nat.le_of_ble_eq_true rfl⟩) hP hD hS hA [0, 1, 2, 3, 4, 5, 6, 7, 8, 9, 10, 11, 12, 13] [] rfl rfl (by decide) (by decide) (fun r_9 u_30 H locs hw9 hP hD hS => ?_)
                    have er_9 := hw9
                    replace er_9 := er_9.symm
                    subst er_9
                    have hP : va_P D vwCl (wMo mx cI cZ w (nI nz) q d (nI nt) pr mw mt zo ke wy st tr be ch (nI (as2 (nI 1) (nI 0)))) H := hP
                    have hD : va_D A (wMo mx cI cZ w (nI nz) q d (nI nt) pr mw mt zo ke wy st tr be ch (nI (as2 (nI 1) (nI 0)))) := hD
                    refine lv_if_ne (tgt := 92) hx hb dX8_place_87 (by decide) (fun c_31 => ?_) (fun c_31 => ?_)
                    · have c_31 := bI_n0.mp c_31
                      exact absurd nI0 (as2_0 c_31).2
                    · have c_31 := bI_0.mp c_31
                      refine lv_iconst (v := nI 0) hx hb dX8_place_90 (by decide) ?_
                      have hP9 : va_P D vwCl (wMo mx cI cZ w (nI nz) q d (nI nt) pr mw mt zo ke wy st tr be ch (nI (as2 (nI 1) (nI 0)))) H := hP
                      have hD9 : va_D A (wMo mx cI cZ w (nI nz) q d (nI nt) pr mw mt zo ke wy st tr be ch (nI (as2 (nI 1) (nI 0)))) := hD
                      have g_32 : sPlace nt nz cz n d (nI tt) (nI zz) (as2 (nI 1) (nI 0)) (nI 0) cz := Or.inr (Or.inl ⟨⟨⟨tt, h_tt, rfl⟩, Or.inr ⟨zz, h_zz, rfl⟩⟩, fun q9 => q9.elim (z_m1 (a := zz) (by omega)) (fun q8 => c_29 (by rw [nIc (by omega), nIc (by omega)] at q8; exact q8.2)), as2_2 nI1 nI0, rfl⟩)
                      have g_33 : zo = if (as2 (nI 1) (nI 0)) = 0 then upd zo (nI tt).toNatClampNeg (nI zz) else zo := by rw [as2_2 nI1 nI0, if_neg (by decide)]
                      exact W.iret (v := nI 0) hx hb hr (fun t9 ht9 hW9 => ⟨⟨nI 0, (nI 0, as2 (nI 1) (nI 0), zo, cz), rfl, ⟨rfl, g_32, g_33⟩, by rw [ht9]; exact hP9, hD9⟩, hS.F ht9⟩) hS.2.2 dX8_place_91
                  · have c_29 := bI_n0.mp c_29
                    refine lv_iconst (v := nI 1) hx hb dX8_place_79 (by decide) ?_
                    refine lv_goto (tgt := 84) hx hb dX8_place_80 (by decide) ?_
                    refine rw_i (wr := ([] : va_W)) (w_V (As := [.int (nI 1), .int (nI 1)]) ⟨hx, hb, hml, hown, hts⟩ (c_X8_asked_ l D cI cZ cQ cJ mx w nz q d nt pr mw mt zo ke wy st tr be ch th (nI 1) (nI 1) H.size) (gV t4_47 t4_49 t0_20 t1_10 t4_50) rfl rfl hd_X8_asked_ ⟨Nat.le_of_ble_eq_true rfl, Nat.le_of_ble_eq_true rfl⟩ (rw_pre hP hD hSt [0, 1, 2, 3, 4, 5, 6, 7, 8, 9, 10, 11, 12, 13] rfl (by decide)) (va_recv hSt.1 hP (ci := 8) (q0 := 0) rfl rfl) rfl hl.1 (rest := []) rfl (Nat.le_of_ble_eq_true rfl) dX8_place_84 ⟨Nat.le_of_ble_eq_true rfl, Nat.le_of_ble_eq_true rfl⟩) hP hD hS hA [0, 1, 2, 3, 4, 5, 6, 7, 8, 9, 10, 11, 12, 13] [] rfl rfl (by decide) (by decide) (fun r_9 u_34 H locs hw9 hP hD hS => ?_)
                    have er_9 := hw9
                    replace er_9 := er_9.symm
                    subst er_9
                    have hP : va_P D vwCl (wMo mx cI cZ w (nI nz) q d (nI nt) pr mw mt zo ke wy st tr be ch (nI (as2 (nI 1) (nI 1)))) H := hP
                    have hD : va_D A (wMo mx cI cZ w (nI nz) q d (nI nt) pr mw mt zo ke wy st tr be ch (nI (as2 (nI 1) (nI 1)))) := hD
                    refine lv_if_ne (tgt := 92) hx hb dX8_place_87 (by decide) (fun c_35 => ?_) (fun c_35 => ?_)
                    · have c_35 := bI_n0.mp c_35
                      refine lv_aload_n hx hb dX8_place_92 rfl (lv_at hl 2 rfl) ?_
                      refine va_get (D := D) (ci := 8) (v := .ref (mx 7)) (C := RX8) (T := TX8) (N := 16) hx hb hts tu_X8 hown hSt.1 hP 0 rfl rfl 8 (by decide) (hts _ t3_228) (fun _ h9 => h9) rfl dX8_place_93 ?_
                      refine lv_iload_n hx hb dX8_place_96 rfl (lv_at hl 3 rfl) ?_
                      refine r_iald hx hb hSt.1 hP 7 0 rfl rfl (k := tt) (by omega) (by omega) dX8_place_97 ?_
                      refine lv_istore (lv' := [(5, .int (zo tt)), (4, .int (tAt cz (nI zz))), (3, .int (nI 1)), (0, .ref (mx 0)), (1, .int (nI tt)), (2, .int (nI zz))]) hx hb dX8_place_98 hl (by decide) rfl (fun ls hl => ?_)
                      refine lv_aload_n hx hb dX8_place_100 rfl (lv_at hl 3 rfl) ?_
                      refine va_get (D := D) (ci := 8) (v := .ref (mx 7)) (C := RX8) (T := TX8) (N := 16) hx hb hts tu_X8 hown hSt.1 hP 0 rfl rfl 8 (by decide) (hts _ t3_228) (fun _ h9 => h9) rfl dX8_place_101 ?_
                      refine lv_iload_n hx hb dX8_place_104 rfl (lv_at hl 4 rfl) ?_
                      refine lv_iload_n hx hb dX8_place_105 rfl (lv_at hl 5 rfl) ?_
                      refine r_iast hx hb hSt.1 hP hD hS 7 0 rfl rfl (k := tt) (by omega) (by omega) dX8_place_106 (fun H locs hP hD hS => ?_)
                      have hP : va_P D vwCl (wMo mx cI cZ w (nI nz) q d (nI nt) pr mw mt (upd zo tt (nI zz)) ke wy st tr be ch (nI (as2 (nI 1) (nI 1)))) H := hP
                      have hD : va_D A (wMo mx cI cZ w (nI nz) q d (nI nt) pr mw mt (upd zo tt (nI zz)) ke wy st tr be ch (nI (as2 (nI 1) (nI 1)))) := hD
                      refine lv_iload hx hb dX8_place_107 (lv_at hl 0 rfl) ?_
                      have hP9 : va_P D vwCl (wMo mx cI cZ w (nI nz) q d (nI nt) pr mw mt (upd zo tt (nI zz)) ke wy st tr be ch (nI (as2 (nI 1) (nI 1)))) H := hP
                      have hD9 : va_D A (wMo mx cI cZ w (nI nz) q d (nI nt) pr mw mt (upd zo tt (nI zz)) ke wy st tr be ch (nI (as2 (nI 1) (nI 1)))) := hD
                      have g_36 : sPlace nt nz cz n d (nI tt) (nI zz) (as2 (nI 1) (nI 1)) (zo tt) (upd cz tt (nI zz)) := Or.inr (Or.inr ⟨⟨⟨tt, h_tt, rfl⟩, Or.inr ⟨zz, h_zz, rfl⟩⟩, Or.inr ⟨Or.inl c_28, by rw [nIc (by omega), nIc (by omega)]; exact c_29⟩, c_35, by rw [nIc (by omega), hzo tt (by omega), hcz tt (by omega)], by rw [nIc (by omega)]⟩)
                      have g_37 : (upd zo tt (nI zz)) = if (as2 (nI 1) (nI 1)) = 0 then upd zo (nI tt).toNatClampNeg (nI zz) else zo := by rw [if_pos c_35, nIc (by omega)]
                      exact W.iret (v := zo tt) hx hb hr (fun t9 ht9 hW9 => ⟨⟨zo tt, (zo tt, as2 (nI 1) (nI 1), upd zo tt (nI zz), upd cz tt (nI zz)), rfl, ⟨rfl, g_36, g_37⟩, by rw [ht9]; exact hP9, hD9⟩, hS.F ht9⟩) hS.2.2 dX8_place_109
                    · have c_35 := bI_0.mp c_35
                      exact absurd (as2_3 nI1 nI1) c_35
                · refine lv_iload hx hb dX8_place_64 (lv_at hl 0 rfl) ?_
                  refine lv_iload_n hx hb dX8_place_66 rfl (lv_at hl 3 rfl) ?_
                  refine lv_icmp_ne (tgt := 83) hx hb dX8_place_67 (by decide) (fun c_38 => ?_) (fun c_38 => ?_)
                  · refine lv_iconst (v := nI 0) hx hb dX8_place_83 (by decide) ?_
                    refine rw_i (wr := ([] : va_W)) (w_V (As := [.int (nI 1), .int (nI 0)]) ⟨hx, hb, hml, hown, hts⟩ (c_X8_asked_ l D cI cZ cQ cJ mx w nz q d nt pr mw mt zo ke wy st tr be ch th (nI 1) (nI 0) H.size) (gV t4_47 t4_49 t0_20 t1_10 t4_50) rfl rfl hd_X8_asked_ ⟨Nat.le_of_ble_eq_true rfl, Nat.le_of_ble_eq_true rfl⟩ (rw_pre hP hD hSt [0, 1, 2, 3, 4, 5, 6, 7, 8, 9, 10, 11, 12, 13] rfl (by decide)) (va_recv hSt.1 hP (ci := 8) (q0 := 0) rfl rfl) rfl hl.1 (rest := []) rfl (Nat.le_of_ble_eq_true rfl) dX8_place_84 ⟨Nat.le_of_ble_eq_true rfl, Nat.le_of_ble_eq_true rfl⟩) hP hD hS hA [0, 1, 2, 3, 4, 5, 6, 7, 8, 9, 10, 11, 12, 13] [] rfl rfl (by decide) (by decide) (fun r_9 u_39 H locs hw9 hP hD hS => ?_)
                    have er_9 := hw9
                    replace er_9 := er_9.symm
                    subst er_9
                    have hP : va_P D vwCl (wMo mx cI cZ w (nI nz) q d (nI nt) pr mw mt zo ke wy st tr be ch (nI (as2 (nI 1) (nI 0)))) H := hP
                    have hD : va_D A (wMo mx cI cZ w (nI nz) q d (nI nt) pr mw mt zo ke wy st tr be ch (nI (as2 (nI 1) (nI 0)))) := hD
                    refine lv_if_ne (tgt := 92) hx hb dX8_place_87 (by decide) (fun c_40 => ?_) (fun c_40 => ?_)
                    · have c_40 := bI_n0.mp c_40
                      exact absurd nI0 (as2_0 c_40).2
                    · have c_40 := bI_0.mp c_40
                      refine lv_iconst (v := nI 0) hx hb dX8_place_90 (by decide) ?_
                      have hP9 : va_P D vwCl (wMo mx cI cZ w (nI nz) q d (nI nt) pr mw mt zo ke wy st tr be ch (nI (as2 (nI 1) (nI 0)))) H := hP
                      have hD9 : va_D A (wMo mx cI cZ w (nI nz) q d (nI nt) pr mw mt zo ke wy st tr be ch (nI (as2 (nI 1) (nI 0)))) := hD
                      have g_41 : sPlace nt nz cz n d (nI tt) (nI zz) (as2 (nI 1) (nI 0)) (nI 0) cz := Or.inr (Or.inl ⟨⟨⟨tt, h_tt, rfl⟩, Or.inr ⟨zz, h_zz, rfl⟩⟩, fun q9 => q9.elim (z_m1 (a := zz) (by omega)) (fun q8 => q8.1.elim c_28 c_38), as2_2 nI1 nI0, rfl⟩)
                      have g_42 : zo = if (as2 (nI 1) (nI 0)) = 0 then upd zo (nI tt).toNatClampNeg (nI zz) else zo := by rw [as2_2 nI1 nI0, if_neg (by decide)]
                      exact W.iret (v := nI 0) hx hb hr (fun t9 ht9 hW9 => ⟨⟨nI 0, (nI 0, as2 (nI 1) (nI 0), zo, cz), rfl, ⟨rfl, g_41, g_42⟩, by rw [ht9]; exact hP9, hD9⟩, hS.F ht9⟩) hS.2.2 dX8_place_91
                  · refine lv_aload_n hx hb dX8_place_70 rfl (lv_at hl 2 rfl) ?_
                    refine lv_iload_n hx hb dX8_place_71 rfl (lv_at hl 3 rfl) ?_
                    refine lv_iload_n hx hb dX8_place_72 rfl (lv_at hl 4 rfl) ?_
                    refine ro_V (As := [.int (nI tt), .int (nI zz)]) (rest := [.int (nI 1), .ref (mx 0)]) (v := bI (n tt ≤ d zz)) ⟨hx, hb, hml, hown, hts⟩ (c_X8_fits l D cI cZ cQ cJ mx w nz q d nt pr mw mt zo ke wy st tr be ch th pp n tt zz (by first | assumption | omega) (by first | assumption | omega) (by first | assumption | omega) (by first | assumption | omega) (by first | assumption | omega)) (gV t4_103 t4_105 t0_27 t1_10 t4_106) rfl rfl hd_X8_fits ⟨Nat.le_of_ble_eq_true rfl, Nat.le_of_ble_eq_true rfl⟩ hP hSt (va_recv hSt.1 hP (ci := 8) (q0 := 0) rfl rfl) rfl hl.1 rfl (Nat.le_of_ble_eq_true rfl) dX8_place_73 (Nat.zero_le _) (Nat.zero_le _) ?_
                    refine lv_if_eq (tgt := 83) hx hb dX8_place_76 (by decide) (fun c_43 => ?_) (fun c_43 => ?_)
                    · have c_43 := bI_0.mp c_43
                      refine lv_iconst (v := nI 0) hx hb dX8_place_83 (by decide) ?_
                      refine rw_i (wr := ([] : va_W)) (w_V (As := [.int (nI 1), .int (nI 0)]) ⟨hx, hb, hml, hown, hts⟩ (c_X8_asked_ l D cI cZ cQ cJ mx w nz q d nt pr mw mt zo ke wy st tr be ch th (nI 1) (nI 0) H.size) (gV t4_47 t4_49 t0_20 t1_10 t4_50) rfl rfl hd_X8_asked_ ⟨Nat.le_of_ble_eq_true rfl, Nat.le_of_ble_eq_true rfl⟩ (rw_pre hP hD hSt [0, 1, 2, 3, 4, 5, 6, 7, 8, 9, 10, 11, 12, 13] rfl (by decide)) (va_recv hSt.1 hP (ci := 8) (q0 := 0) rfl rfl) rfl hl.1 (rest := []) rfl (Nat.le_of_ble_eq_true rfl) dX8_place_84 ⟨Nat.le_of_ble_eq_true rfl, Nat.le_of_ble_eq_true rfl⟩) hP hD hS hA [0, 1, 2, 3, 4, 5, 6, 7, 8, 9, 10, 11, 12, 13] [] rfl rfl (by decide) (by decide) (fun r_9 u_44 H locs hw9 hP hD hS => ?_)
                      have er_9 := hw9
                      replace er_9 := er_9.symm
                      subst er_9
                      have hP : va_P D vwCl (wMo mx cI cZ w (nI nz) q d (nI nt) pr mw mt zo ke wy st tr be ch (nI (as2 (nI 1) (nI 0)))) H := hP
                      have hD : va_D A (wMo mx cI cZ w (nI nz) q d (nI nt) pr mw mt zo ke wy st tr be ch (nI (as2 (nI 1) (nI 0)))) := hD
                      refine lv_if_ne (tgt := 92) hx hb dX8_place_87 (by decide) (fun c_45 => ?_) (fun c_45 => ?_)
                      · have c_45 := bI_n0.mp c_45
                        exact absurd nI0 (as2_0 c_45).2
                      · have c_45 := bI_0.mp c_45
                        refine lv_iconst (v := nI 0) hx hb dX8_place_90 (by decide) ?_
                        have hP9 : va_P D vwCl (wMo mx cI cZ w (nI nz) q d (nI nt) pr mw mt zo ke wy st tr be ch (nI (as2 (nI 1) (nI 0)))) H := hP
                        have hD9 : va_D A (wMo mx cI cZ w (nI nz) q d (nI nt) pr mw mt zo ke wy st tr be ch (nI (as2 (nI 1) (nI 0)))) := hD
                        have g_46 : sPlace nt nz cz n d (nI tt) (nI zz) (as2 (nI 1) (nI 0)) (nI 0) cz := Or.inr (Or.inl ⟨⟨⟨tt, h_tt, rfl⟩, Or.inr ⟨zz, h_zz, rfl⟩⟩, fun q9 => q9.elim (z_m1 (a := zz) (by omega)) (fun q8 => c_43 (by rw [nIc (by omega), nIc (by omega)] at q8; exact q8.2)), as2_2 nI1 nI0, rfl⟩)
                        have g_47 : zo = if (as2 (nI 1) (nI 0)) = 0 then upd zo (nI tt).toNatClampNeg (nI zz) else zo := by rw [as2_2 nI1 nI0, if_neg (by decide)]
                        exact W.iret (v := nI 0) hx hb hr (fun t9 ht9 hW9 => ⟨⟨nI 0, (nI 0, as2 (nI 1) (nI 0), zo, cz), rfl, ⟨rfl, g_46, g_47⟩, by rw [ht9]; exact hP9, hD9⟩, hS.F ht9⟩) hS.2.2 dX8_place_91
                    · have c_43 := bI_n0.mp c_43
                      refine lv_iconst (v := nI 1) hx hb dX8_place_79 (by decide) ?_
                      refine lv_goto (tgt := 84) hx hb dX8_place_80 (by decide) ?_
                      refine rw_i (wr := ([] : va_W)) (w_V (As := [.int (nI 1), .int (nI 1)]) ⟨hx, hb, hml, hown, hts⟩ (c_X8_asked_ l D cI cZ cQ cJ mx w nz q d nt pr mw mt zo ke wy st tr be ch th (nI 1) (nI 1) H.size) (gV t4_47 t4_49 t0_20 t1_10 t4_50) rfl rfl hd_X8_asked_ ⟨Nat.le_of_ble_eq_true rfl, Nat.le_of_ble_eq_true rfl⟩ (rw_pre hP hD hSt [0, 1, 2, 3, 4, 5, 6, 7, 8, 9, 10, 11, 12, 13] rfl (by decide)) (va_recv hSt.1 hP (ci := 8) (q0 := 0) rfl rfl) rfl hl.1 (rest := []) rfl (Nat.le_of_ble_eq_true rfl) dX8_place_84 ⟨Nat.le_of_ble_eq_true rfl, Nat.le_of_ble_eq_true rfl⟩) hP hD hS hA [0, 1, 2, 3, 4, 5, 6, 7, 8, 9, 10, 11, 12, 13] [] rfl rfl (by decide) (by decide) (fun r_9 u_48 H locs hw9 hP hD hS => ?_)
                      have er_9 := hw9
                      replace er_9 := er_9.symm
                      subst er_9
                      have hP : va_P D vwCl (wMo mx cI cZ w (nI nz) q d (nI nt) pr mw mt zo ke wy st tr be ch (nI (as2 (nI 1) (nI 1)))) H := hP
                      have hD : va_D A (wMo mx cI cZ w (nI nz) q d (nI nt) pr mw mt zo ke wy st tr be ch (nI (as2 (nI 1) (nI 1)))) := hD
                      refine lv_if_ne (tgt := 92) hx hb dX8_place_87 (by decide) (fun c_49 => ?_) (fun c_49 => ?_)
                      · have c_49 := bI_n0.mp c_49
                        refine lv_aload_n hx hb dX8_place_92 rfl (lv_at hl 2 rfl) ?_
                        refine va_get (D := D) (ci := 8) (v := .ref (mx 7)) (C := RX8) (T := TX8) (N := 16) hx hb hts tu_X8 hown hSt.1 hP 0 rfl rfl 8 (by decide) (hts _ t3_228) (fun _ h9 => h9) rfl dX8_place_93 ?_
                        refine lv_iload_n hx hb dX8_place_96 rfl (lv_at hl 3 rfl) ?_
                        refine r_iald hx hb hSt.1 hP 7 0 rfl rfl (k := tt) (by omega) (by omega) dX8_place_97 ?_
                        refine lv_istore (lv' := [(5, .int (zo tt)), (4, .int (tAt cz (nI zz))), (3, .int (nI 1)), (0, .ref (mx 0)), (1, .int (nI tt)), (2, .int (nI zz))]) hx hb dX8_place_98 hl (by decide) rfl (fun ls hl => ?_)
                        refine lv_aload_n hx hb dX8_place_100 rfl (lv_at hl 3 rfl) ?_
                        refine va_get (D := D) (ci := 8) (v := .ref (mx 7)) (C := RX8) (T := TX8) (N := 16) hx hb hts tu_X8 hown hSt.1 hP 0 rfl rfl 8 (by decide) (hts _ t3_228) (fun _ h9 => h9) rfl dX8_place_101 ?_
                        refine lv_iload_n hx hb dX8_place_104 rfl (lv_at hl 4 rfl) ?_
                        refine lv_iload_n hx hb dX8_place_105 rfl (lv_at hl 5 rfl) ?_
                        refine r_iast hx hb hSt.1 hP hD hS 7 0 rfl rfl (k := tt) (by omega) (by omega) dX8_place_106 (fun H locs hP hD hS => ?_)
                        have hP : va_P D vwCl (wMo mx cI cZ w (nI nz) q d (nI nt) pr mw mt (upd zo tt (nI zz)) ke wy st tr be ch (nI (as2 (nI 1) (nI 1)))) H := hP
                        have hD : va_D A (wMo mx cI cZ w (nI nz) q d (nI nt) pr mw mt (upd zo tt (nI zz)) ke wy st tr be ch (nI (as2 (nI 1) (nI 1)))) := hD
                        refine lv_iload hx hb dX8_place_107 (lv_at hl 0 rfl) ?_
                        have hP9 : va_P D vwCl (wMo mx cI cZ w (nI nz) q d (nI nt) pr mw mt (upd zo tt (nI zz)) ke wy st tr be ch (nI (as2 (nI 1) (nI 1)))) H := hP
                        have hD9 : va_D A (wMo mx cI cZ w (nI nz) q d (nI nt) pr mw mt (upd zo tt (nI zz)) ke wy st tr be ch (nI (as2 (nI 1) (nI 1)))) := hD
                        have g_50 : sPlace nt nz cz n d (nI tt) (nI zz) (as2 (nI 1) (nI 1)) (zo tt) (upd cz tt (nI zz)) := Or.inr (Or.inr ⟨⟨⟨tt, h_tt, rfl⟩, Or.inr ⟨zz, h_zz, rfl⟩⟩, Or.inr ⟨Or.inr c_38, by rw [nIc (by omega), nIc (by omega)]; exact c_43⟩, c_49, by rw [nIc (by omega), hzo tt (by omega), hcz tt (by omega)], by rw [nIc (by omega)]⟩)
                        have g_51 : (upd zo tt (nI zz)) = if (as2 (nI 1) (nI 1)) = 0 then upd zo (nI tt).toNatClampNeg (nI zz) else zo := by rw [if_pos c_49, nIc (by omega)]
                        exact W.iret (v := zo tt) hx hb hr (fun t9 ht9 hW9 => ⟨⟨zo tt, (zo tt, as2 (nI 1) (nI 1), upd zo tt (nI zz), upd cz tt (nI zz)), rfl, ⟨rfl, g_50, g_51⟩, by rw [ht9]; exact hP9, hD9⟩, hS.F ht9⟩) hS.2.2 dX8_place_109
                      · have c_49 := bI_0.mp c_49
                        exact absurd (as2_3 nI1 nI1) c_49
set_option maxHeartbeats 4000000 in
set_option maxRecDepth 100000 in
theorem c_X8_need (l : Launch) (D : va_G) (cI cZ cQ cJ : ClassId) (mx : Nat → Nat) (w : Nat → Int32) (nz : Nat) (q : Nat → Int32) (d : Nat → Int32) (nt : Nat) (pr : Nat → Int32) (mw : Nat → Int32) (mt : Nat → Int32) (zo : Nat → Int32) (ke : Nat → Int32) (wy : Nat → Int32) (st : Nat → Int32) (tr : Nat → Int32) (be : Nat → Int32) (ch : Nat → Int32) (th : Int32) (pp : Nat → Nat → Nat) (n : Nat → Int32) (t : Int32) (sz : Nat) (hnt : nt ≤ 7) (hpr : ∀ t, t < nt → ∀ j, j < 5 → pr (5 * t + j) = nI (pp t j) ∧ pp t j ≤ 60) (hnn : ∀ t, t < nt → n t = nI (ndN (pp t))) : Met l yX8_need (.code yX8_need cX8_need 2 (some .int) :: ALL) ({ frames := 2, cells := 0, slots := 0, locals := 43 } : Room) (va_Pc [.ref (mx 0), .int t] (rw_P D cI cZ cQ cJ (wMo mx cI cZ w (nI nz) q d (nI nt) pr mw mt zo ke wy st tr be ch th) sz)) (va_Qi (fun (r9 : Int32) (u9 : Int32 × Nat) => (r9 = u9.1) ∧ (sOne nt n t u9.2 u9.1)) (rw_B D (va_A (wMo mx cI cZ w (nI nz) q d (nI nt) pr mw mt zo ke wy st tr be ch th) sz) (fun u9 : Int32 × Nat => wMo mx cI cZ w (nI nz) q d (nI nt) pr mw mt zo ke wy st tr be ch (nI u9.2))) (va_A (wMo mx cI cZ w (nI nz) q d (nI nt) pr mw mt zo ke wy st tr be ch th) sz)) 0 0 (va_A (wMo mx cI cZ w (nI nz) q d (nI nt) pr mw mt zo ke wy st tr be ch th) sz) := by
  refine Met.ofW (cc := cX8_need) (maxL := 2) (ret := (some .int)) (by decide) rfl ?_
  intro p e s m args below meth c s₁ B hml hv
  obtain ⟨rfl, hsz, hP, hSt, hD0⟩ := hv
  have hx := B.exec
  have hb := B.bytes
  have hr := B.returns
  have hts : ∀ w ∈ ALL, w.before ([.ref (mx 0), .int t] : List Value).toArray s = true := fun w h => atoms_spec (ws := (.code yX8_need cX8_need 2 (some .int) :: ALL)) B.pre w (List.mem_cons_of_mem _ h)
  have hown : s.vm.findClass RX8 = some m.cls := findClass_of_methodNamed B.named
  have hlocks := B.notSynchronized
  subst hsz
  have hD := hD0.self (sz := s.heap.size)
  clear hD0
  generalize hAe : va_A (wMo mx cI cZ w (nI nz) q d (nI nt) pr mw mt zo ke wy st tr be ch th) s.heap.size = A at hD ⊢
  have hA : ∀ q : Nat, s.heap.size ≤ q → A q := fun q h => by rw [← hAe]; exact Or.inr h
  have hS : va_S A s.heap s.heap [] := va_S.rf
  have hl := lv_entry ([.ref (mx 0), .int t]) (n := 2) (Nat.le_of_ble_eq_true rfl)
  rw [lg_entry_eq]
  generalize (lg_sl ([.ref (mx 0), .int t]) ++ List.replicate (2 - (lg_sl ([.ref (mx 0), .int t])).length) Slot.unset).toArray = ls at hl ⊢
  have hl : lv_has ls 2 [(0, .ref (mx 0)), (1, .int t)] := hl
  obtain ⟨H, hHe⟩ : ∃ H : Heap, H = s.heap := ⟨_, rfl⟩
  obtain ⟨locs, hLe⟩ : ∃ L : List Loc, L = [] := ⟨_, rfl⟩
  have hP : va_P D vwCl (wMo mx cI cZ w (nI nz) q d (nI nt) pr mw mt zo ke wy st tr be ch th) H := by rw [hHe]; exact hP
  have hS : va_S A s.heap H locs := by rw [hHe, hLe]; exact hS
  refine W.eqHL hHe hLe ?_
  refine lv_aload_n hx hb dX8_need_0 rfl (lv_at hl 0 rfl) ?_
  refine lv_aload_n hx hb dX8_need_1 rfl (lv_at hl 0 rfl) ?_
  refine lv_iload_n hx hb dX8_need_2 rfl (lv_at hl 1 rfl) ?_
  refine ro_V (As := [.int t]) (rest := [.ref (mx 0)]) (v := bI (inI t (nI 0) (nI nt - nI 1))) ⟨hx, hb, hml, hown, hts⟩ (c_X8_isTeam l D cI cZ cQ cJ mx w nz q d nt pr mw mt zo ke wy st tr be ch th t) (gV t4_87 t4_89 t0_26 t1_10 t4_90) rfl rfl hd_X8_isTeam ⟨Nat.le_of_ble_eq_true rfl, Nat.le_of_ble_eq_true rfl⟩ hP hSt (va_recv hSt.1 hP (ci := 8) (q0 := 0) rfl rfl) rfl hl.1 rfl (Nat.le_of_ble_eq_true rfl) dX8_need_3 (Nat.zero_le _) (Nat.zero_le _) ?_
  refine rw_i (wr := ([] : va_W)) (w_V (As := [.int (bI (inI t (nI 0) (nI nt - nI 1)))]) ⟨hx, hb, hml, hown, hts⟩ (c_X8_asked l D cI cZ cQ cJ mx w nz q d nt pr mw mt zo ke wy st tr be ch th (bI (inI t (nI 0) (nI nt - nI 1))) H.size (bI_01 _)) (gV t4_79 t4_81 t0_25 t1_10 t4_82) rfl rfl hd_X8_asked ⟨Nat.le_of_ble_eq_true rfl, Nat.le_of_ble_eq_true rfl⟩ (rw_pre hP hD hSt [0, 1, 2, 3, 4, 5, 6, 7, 8, 9, 10, 11, 12, 13] rfl (by decide)) (va_recv hSt.1 hP (ci := 8) (q0 := 0) rfl rfl) rfl hl.1 (rest := []) rfl (Nat.le_of_ble_eq_true rfl) dX8_need_6 ⟨Nat.le_of_ble_eq_true rfl, Nat.le_of_ble_eq_true rfl⟩) hP hD hS hA [0, 1, 2, 3, 4, 5, 6, 7, 8, 9, 10, 11, 12, 13] [] rfl rfl (by decide) (by decide) (fun r_9 u_1 H locs hw9 hP hD hS => ?_)
  have er_9 := hw9
  replace er_9 := er_9.symm
  subst er_9
  have hP : va_P D vwCl (wMo mx cI cZ w (nI nz) q d (nI nt) pr mw mt zo ke wy st tr be ch (nI (as1 (bI (inI t (nI 0) (nI nt - nI 1)))))) H := hP
  have hD : va_D A (wMo mx cI cZ w (nI nz) q d (nI nt) pr mw mt zo ke wy st tr be ch (nI (as1 (bI (inI t (nI 0) (nI nt - nI 1)))))) := hD
  refine lv_if_eq (tgt := 20) hx hb dX8_need_9 (by decide) (fun c_2 => ?_) (fun c_2 => ?_)
  · have c_2 := bI_0.mp c_2
    refine lv_iconst (v := nI 0) hx hb dX8_need_20 (by decide) ?_
    have hP9 : va_P D vwCl (wMo mx cI cZ w (nI nz) q d (nI nt) pr mw mt zo ke wy st tr be ch (nI (as1 (bI (inI t (nI 0) (nI nt - nI 1)))))) H := hP
    have hD9 : va_D A (wMo mx cI cZ w (nI nz) q d (nI nt) pr mw mt zo ke wy st tr be ch (nI (as1 (bI (inI t (nI 0) (nI nt - nI 1)))))) := hD
    have g_3 : sOne nt n t (as1 (bI (inI t (nI 0) (nI nt - nI 1)))) (nI 0) := Or.inl ⟨fun q9 => c_2 ((inI_N (n := nt) (by omega)).mpr q9), as1_1 (bI_0.mpr c_2)⟩
    exact W.iret (v := nI 0) hx hb hr (fun t9 ht9 hW9 => ⟨⟨nI 0, (nI 0, as1 (bI (inI t (nI 0) (nI nt - nI 1)))), rfl, ⟨rfl, g_3⟩, by rw [ht9]; exact hP9, hD9⟩, hS.F ht9⟩) hS.2.2 dX8_need_21
  · have c_2 := bI_n0.mp c_2
    obtain ⟨tt, h_tt, rfl⟩ := (inI_N (n := nt) (by omega)).mp c_2
    refine lv_aload_n hx hb dX8_need_12 rfl (lv_at hl 0 rfl) ?_
    refine lv_iload_n hx hb dX8_need_13 rfl (lv_at hl 1 rfl) ?_
    refine ro_V (As := [.int (nI tt)]) (rest := []) (v := n tt) ⟨hx, hb, hml, hown, hts⟩ (c_X8_needOf l D cI cZ cQ cJ mx w nz q d nt pr mw mt zo ke wy st tr be ch (nI (as1 (bI (inI (nI tt) (nI 0) (nI nt - nI 1))))) pp n tt (by first | assumption | omega) (by first | assumption | omega) (by first | assumption | omega) (by first | assumption | omega)) (gV t4_71 t4_73 t0_24 t1_10 t4_74) rfl rfl hd_X8_needOf ⟨Nat.le_of_ble_eq_true rfl, Nat.le_of_ble_eq_true rfl⟩ hP hSt (va_recv hSt.1 hP (ci := 8) (q0 := 0) rfl rfl) rfl hl.1 rfl (Nat.le_of_ble_eq_true rfl) dX8_need_14 (Nat.zero_le _) (Nat.zero_le _) ?_
    refine lv_goto (tgt := 21) hx hb dX8_need_17 (by decide) ?_
    have hP9 : va_P D vwCl (wMo mx cI cZ w (nI nz) q d (nI nt) pr mw mt zo ke wy st tr be ch (nI (as1 (bI (inI (nI tt) (nI 0) (nI nt - nI 1)))))) H := hP
    have hD9 : va_D A (wMo mx cI cZ w (nI nz) q d (nI nt) pr mw mt zo ke wy st tr be ch (nI (as1 (bI (inI (nI tt) (nI 0) (nI nt - nI 1)))))) := hD
    have g_4 : sOne nt n (nI tt) (as1 (bI (inI (nI tt) (nI 0) (nI nt - nI 1)))) (n tt) := Or.inr ⟨⟨tt, h_tt, rfl⟩, if_neg (bI_n0.mpr ((inI_N (n := nt) (by omega)).mpr ⟨tt, h_tt, rfl⟩)), by rw [nIc (by omega)]⟩
    exact W.iret (v := n tt) hx hb hr (fun t9 ht9 hW9 => ⟨⟨n tt, (n tt, as1 (bI (inI (nI tt) (nI 0) (nI nt - nI 1)))), rfl, ⟨rfl, g_4⟩, by rw [ht9]; exact hP9, hD9⟩, hS.F ht9⟩) hS.2.2 dX8_need_21
set_option maxHeartbeats 4000000 in
set_option maxRecDepth 100000 in
theorem c_X8_share (l : Launch) (D : va_G) (cI cZ cQ cJ : ClassId) (mx : Nat → Nat) (w : Nat → Int32) (nz : Nat) (q : Nat → Int32) (d : Nat → Int32) (nt : Nat) (pr : Nat → Int32) (mw : Nat → Int32) (mt : Nat → Int32) (zo : Nat → Int32) (ke : Nat → Int32) (wy : Nat → Int32) (st : Nat → Int32) (tr : Nat → Int32) (be : Nat → Int32) (ch : Nat → Int32) (th : Int32) (pp : Nat → Nat → Nat) (n : Nat → Int32) (t : Int32) (sz : Nat) (hnt : nt ≤ 7) (hpr : ∀ t, t < nt → ∀ j, j < 5 → pr (5 * t + j) = nI (pp t j) ∧ pp t j ≤ 60) (hnn : ∀ t, t < nt → n t = nI (ndN (pp t))) : Met l yX8_share (.code yX8_share cX8_share 4 (some .int) :: ALL) ({ frames := 2, cells := 0, slots := 0, locals := 43 } : Room) (va_Pc [.ref (mx 0), .int t] (rw_P D cI cZ cQ cJ (wMo mx cI cZ w (nI nz) q d (nI nt) pr mw mt zo ke wy st tr be ch th) sz)) (va_Qi (fun (r9 : Int32) (u9 : Int32 × Nat) => (r9 = u9.1) ∧ (sOne nt (fun u9 => nI (shN (pp u9))) t u9.2 u9.1)) (rw_B D (va_A (wMo mx cI cZ w (nI nz) q d (nI nt) pr mw mt zo ke wy st tr be ch th) sz) (fun u9 : Int32 × Nat => wMo mx cI cZ w (nI nz) q d (nI nt) pr mw mt zo ke wy st tr be ch (nI u9.2))) (va_A (wMo mx cI cZ w (nI nz) q d (nI nt) pr mw mt zo ke wy st tr be ch th) sz)) 0 0 (va_A (wMo mx cI cZ w (nI nz) q d (nI nt) pr mw mt zo ke wy st tr be ch th) sz) := by
  refine Met.ofW (cc := cX8_share) (maxL := 4) (ret := (some .int)) (by decide) rfl ?_
  intro p e s m args below meth c s₁ B hml hv
  obtain ⟨rfl, hsz, hP, hSt, hD0⟩ := hv
  have hx := B.exec
  have hb := B.bytes
  have hr := B.returns
  have hts : ∀ w ∈ ALL, w.before ([.ref (mx 0), .int t] : List Value).toArray s = true := fun w h => atoms_spec (ws := (.code yX8_share cX8_share 4 (some .int) :: ALL)) B.pre w (List.mem_cons_of_mem _ h)
  have hown : s.vm.findClass RX8 = some m.cls := findClass_of_methodNamed B.named
  have hlocks := B.notSynchronized
  subst hsz
  have hD := hD0.self (sz := s.heap.size)
  clear hD0
  generalize hAe : va_A (wMo mx cI cZ w (nI nz) q d (nI nt) pr mw mt zo ke wy st tr be ch th) s.heap.size = A at hD ⊢
  have hA : ∀ q : Nat, s.heap.size ≤ q → A q := fun q h => by rw [← hAe]; exact Or.inr h
  have hS : va_S A s.heap s.heap [] := va_S.rf
  have hl := lv_entry ([.ref (mx 0), .int t]) (n := 4) (Nat.le_of_ble_eq_true rfl)
  rw [lg_entry_eq]
  generalize (lg_sl ([.ref (mx 0), .int t]) ++ List.replicate (4 - (lg_sl ([.ref (mx 0), .int t])).length) Slot.unset).toArray = ls at hl ⊢
  have hl : lv_has ls 4 [(0, .ref (mx 0)), (1, .int t)] := hl
  obtain ⟨H, hHe⟩ : ∃ H : Heap, H = s.heap := ⟨_, rfl⟩
  obtain ⟨locs, hLe⟩ : ∃ L : List Loc, L = [] := ⟨_, rfl⟩
  have hP : va_P D vwCl (wMo mx cI cZ w (nI nz) q d (nI nt) pr mw mt zo ke wy st tr be ch th) H := by rw [hHe]; exact hP
  have hS : va_S A s.heap H locs := by rw [hHe, hLe]; exact hS
  refine W.eqHL hHe hLe ?_
  refine lv_aload_n hx hb dX8_share_0 rfl (lv_at hl 0 rfl) ?_
  refine lv_aload_n hx hb dX8_share_1 rfl (lv_at hl 0 rfl) ?_
  refine lv_iload_n hx hb dX8_share_2 rfl (lv_at hl 1 rfl) ?_
  refine ro_V (As := [.int t]) (rest := [.ref (mx 0)]) (v := bI (inI t (nI 0) (nI nt - nI 1))) ⟨hx, hb, hml, hown, hts⟩ (c_X8_isTeam l D cI cZ cQ cJ mx w nz q d nt pr mw mt zo ke wy st tr be ch th t) (gV t4_87 t4_89 t0_26 t1_10 t4_90) rfl rfl hd_X8_isTeam ⟨Nat.le_of_ble_eq_true rfl, Nat.le_of_ble_eq_true rfl⟩ hP hSt (va_recv hSt.1 hP (ci := 8) (q0 := 0) rfl rfl) rfl hl.1 rfl (Nat.le_of_ble_eq_true rfl) dX8_share_3 (Nat.zero_le _) (Nat.zero_le _) ?_
  refine rw_i (wr := ([] : va_W)) (w_V (As := [.int (bI (inI t (nI 0) (nI nt - nI 1)))]) ⟨hx, hb, hml, hown, hts⟩ (c_X8_asked l D cI cZ cQ cJ mx w nz q d nt pr mw mt zo ke wy st tr be ch th (bI (inI t (nI 0) (nI nt - nI 1))) H.size (bI_01 _)) (gV t4_79 t4_81 t0_25 t1_10 t4_82) rfl rfl hd_X8_asked ⟨Nat.le_of_ble_eq_true rfl, Nat.le_of_ble_eq_true rfl⟩ (rw_pre hP hD hSt [0, 1, 2, 3, 4, 5, 6, 7, 8, 9, 10, 11, 12, 13] rfl (by decide)) (va_recv hSt.1 hP (ci := 8) (q0 := 0) rfl rfl) rfl hl.1 (rest := []) rfl (Nat.le_of_ble_eq_true rfl) dX8_share_6 ⟨Nat.le_of_ble_eq_true rfl, Nat.le_of_ble_eq_true rfl⟩) hP hD hS hA [0, 1, 2, 3, 4, 5, 6, 7, 8, 9, 10, 11, 12, 13] [] rfl rfl (by decide) (by decide) (fun r_9 u_1 H locs hw9 hP hD hS => ?_)
  have er_9 := hw9
  replace er_9 := er_9.symm
  subst er_9
  have hP : va_P D vwCl (wMo mx cI cZ w (nI nz) q d (nI nt) pr mw mt zo ke wy st tr be ch (nI (as1 (bI (inI t (nI 0) (nI nt - nI 1)))))) H := hP
  have hD : va_D A (wMo mx cI cZ w (nI nz) q d (nI nt) pr mw mt zo ke wy st tr be ch (nI (as1 (bI (inI t (nI 0) (nI nt - nI 1)))))) := hD
  refine lv_if_ne (tgt := 14) hx hb dX8_share_9 (by decide) (fun c_2 => ?_) (fun c_2 => ?_)
  · have c_2 := bI_n0.mp c_2
    obtain ⟨tt, h_tt, rfl⟩ := (inI_N (n := nt) (by omega)).mp c_2
    refine lv_iconst (v := nI 0) hx hb dX8_share_14 (by decide) ?_
    refine lv_istore_n (lv' := [(2, .int (nI 0)), (0, .ref (mx 0)), (1, .int (nI tt))]) hx hb dX8_share_15 rfl hl (by decide) rfl (fun ls hl => ?_)
    refine lv_iconst (v := nI 0) hx hb dX8_share_16 (by decide) ?_
    refine lv_istore_n (lv' := [(3, .int (nI 0)), (2, .int (nI 0)), (0, .ref (mx 0)), (1, .int (nI tt))]) hx hb dX8_share_17 rfl hl (by decide) rfl (fun ls hl => ?_)
    have L18 : ∀ (n9 : Nat) (j : Nat) (s1 : Nat), (j ≤ 5) → (s1 = sumT (pp tt) j) → (s1 ≤ j * 60) → (5 - j) < n9 → ∀ (H : Heap) (locs : List Loc), va_P D vwCl (wMo mx cI cZ w (nI nz) q d (nI nt) pr mw mt zo ke wy st tr be ch (nI (as1 (bI (inI (nI tt) (nI 0) (nI nt - nI 1)))))) H → va_D A (wMo mx cI cZ w (nI nz) q d (nI nt) pr mw mt zo ke wy st tr be ch (nI (as1 (bI (inI (nI tt) (nI 0) (nI nt - nI 1)))))) → va_S A s.heap H locs → ∀ (ls : Array Slot), lv_has ls 4 [(0, .ref (mx 0)), (1, .int (nI tt)), (2, .int (nI s1)), (3, .int (nI j))] → W p l e ({ frames := 2, cells := 0, slots := 0, locals := 43 } : Room) s m ([.ref (mx 0), .int (nI tt)] : List Value).toArray below meth c H locs 0 0 (MQ below (va_Qi (fun (r9 : Int32) (u9 : Int32 × Nat) => (r9 = u9.1) ∧ (sOne nt (fun u9 => nI (shN (pp u9))) (nI tt) u9.2 u9.1)) (rw_B D A (fun u9 : Int32 × Nat => wMo mx cI cZ w (nI nz) q d (nI nt) pr mw mt zo ke wy st tr be ch (nI u9.2))) A) ([.ref (mx 0), .int (nI tt)] : List Value).toArray s 0 0 A) (F0 m 18 ls []) := by
      intro n9
      induction n9 with
      | zero =>
        intro j s1 hj hs1 hs2 hm
        exact absurd hm (by omega)
      | succ n9 ih =>
        intro j s1 hj hs1 hs2 hm H locs hP hD hS ls hl
        have ih_L18 := ih
        refine lv_iload_n hx hb dX8_share_18 rfl (lv_at hl 3 rfl) ?_
        refine lv_iconst (v := nI 5) hx hb dX8_share_19 (by decide) ?_
        refine lv_icmp_ge (tgt := 42) hx hb dX8_share_20 (by decide) (fun c_3 => ?_) (fun c_3 => ?_)
        · have c_3 := z_le (by omega) (by omega) c_3
          have hnd := ndN_le (fun j hj => (hpr tt h_tt j hj).2)
          refine lv_aload_n hx hb dX8_share_42 rfl (lv_at hl 0 rfl) ?_
          refine lv_iload_n hx hb dX8_share_43 rfl (lv_at hl 1 rfl) ?_
          refine ro_V (As := [.int (nI tt)]) (rest := []) (v := n tt) ⟨hx, hb, hml, hown, hts⟩ (c_X8_needOf l D cI cZ cQ cJ mx w nz q d nt pr mw mt zo ke wy st tr be ch (nI (as1 (bI (inI (nI tt) (nI 0) (nI nt - nI 1))))) pp n tt (by first | assumption | omega) (by first | assumption | omega) (by first | assumption | omega) (by first | assumption | omega)) (gV t4_71 t4_73 t0_24 t1_10 t4_74) rfl rfl hd_X8_needOf ⟨Nat.le_of_ble_eq_true rfl, Nat.le_of_ble_eq_true rfl⟩ hP hSt (va_recv hSt.1 hP (ci := 8) (q0 := 0) rfl rfl) rfl hl.1 rfl (Nat.le_of_ble_eq_true rfl) dX8_share_44 (Nat.zero_le _) (Nat.zero_le _) ?_
          refine lv_as (y := nI (ndN (pp tt))) (hnn tt h_tt) ?_
          refine lv_istore_n (lv' := [(3, .int (nI (ndN (pp tt)))), (0, .ref (mx 0)), (1, .int (nI tt)), (2, .int (nI s1))]) hx hb dX8_share_47 rfl hl (by decide) rfl (fun ls hl => ?_)
          refine lv_iload_n hx hb dX8_share_48 rfl (lv_at hl 0 rfl) ?_
          refine lv_if_ne (tgt := 57) hx hb dX8_share_49 (by decide) (fun c_4 => ?_) (fun c_4 => ?_)
          · have c_4 := z_ne (a := (ndN (pp tt))) (b := 0) (by omega) (by omega) c_4
            refine lv_bipush (v := nI 100) hx hb dX8_share_57 (by decide) ?_
            refine lv_iload_n hx hb dX8_share_59 rfl (lv_at hl 3 rfl) ?_
            refine r_muln hx hb dX8_share_60 ?_
            refine lv_iconst (v := nI 5) hx hb dX8_share_61 (by decide) ?_
            refine lv_iload_n hx hb dX8_share_62 rfl (lv_at hl 0 rfl) ?_
            refine r_muln hx hb dX8_share_63 ?_
            refine r_divn hx hb (by omega) (by omega) (by omega) dX8_share_64 ?_
            have hP9 : va_P D vwCl (wMo mx cI cZ w (nI nz) q d (nI nt) pr mw mt zo ke wy st tr be ch (nI (as1 (bI (inI (nI tt) (nI 0) (nI nt - nI 1)))))) H := hP
            have hD9 : va_D A (wMo mx cI cZ w (nI nz) q d (nI nt) pr mw mt zo ke wy st tr be ch (nI (as1 (bI (inI (nI tt) (nI 0) (nI nt - nI 1)))))) := hD
            have g_5 : sOne nt (fun u9 => nI (shN (pp u9))) (nI tt) (as1 (bI (inI (nI tt) (nI 0) (nI nt - nI 1)))) (nI ((100 * s1) / (5 * (ndN (pp tt))))) := Or.inr ⟨⟨tt, h_tt, rfl⟩, if_neg (bI_n0.mpr ((inI_N (n := nt) (by omega)).mpr ⟨tt, h_tt, rfl⟩)), by rw [nIc (by omega)]; show _ = nI (shN (pp tt)); unfold shN; rw [if_neg c_4, hs1, show j = 5 by omega, Nat.mul_comm 100]⟩
            exact W.iret (v := nI ((100 * s1) / (5 * (ndN (pp tt))))) hx hb hr (fun t9 ht9 hW9 => ⟨⟨nI ((100 * s1) / (5 * (ndN (pp tt)))), (nI ((100 * s1) / (5 * (ndN (pp tt)))), as1 (bI (inI (nI tt) (nI 0) (nI nt - nI 1)))), rfl, ⟨rfl, g_5⟩, by rw [ht9]; exact hP9, hD9⟩, hS.F ht9⟩) hS.2.2 dX8_share_65
          · have c_4 := z_eq (a := (ndN (pp tt))) (b := 0) (by omega) (by omega) c_4
            refine lv_bipush (v := nI 100) hx hb dX8_share_52 (by decide) ?_
            refine lv_goto (tgt := 65) hx hb dX8_share_54 (by decide) ?_
            have hP9 : va_P D vwCl (wMo mx cI cZ w (nI nz) q d (nI nt) pr mw mt zo ke wy st tr be ch (nI (as1 (bI (inI (nI tt) (nI 0) (nI nt - nI 1)))))) H := hP
            have hD9 : va_D A (wMo mx cI cZ w (nI nz) q d (nI nt) pr mw mt zo ke wy st tr be ch (nI (as1 (bI (inI (nI tt) (nI 0) (nI nt - nI 1)))))) := hD
            have g_6 : sOne nt (fun u9 => nI (shN (pp u9))) (nI tt) (as1 (bI (inI (nI tt) (nI 0) (nI nt - nI 1)))) (nI 100) := Or.inr ⟨⟨tt, h_tt, rfl⟩, if_neg (bI_n0.mpr ((inI_N (n := nt) (by omega)).mpr ⟨tt, h_tt, rfl⟩)), by rw [nIc (by omega)]; show _ = nI (shN (pp tt)); unfold shN; rw [if_pos c_4]⟩
            exact W.iret (v := nI 100) hx hb hr (fun t9 ht9 hW9 => ⟨⟨nI 100, (nI 100, as1 (bI (inI (nI tt) (nI 0) (nI nt - nI 1)))), rfl, ⟨rfl, g_6⟩, by rw [ht9]; exact hP9, hD9⟩, hS.F ht9⟩) hS.2.2 dX8_share_65
        · have c_3 := z_nle (by omega) (by omega) c_3
          refine lv_iload_n hx hb dX8_share_23 rfl (lv_at hl 2 rfl) ?_
          refine lv_aload_n hx hb dX8_share_24 rfl (lv_at hl 0 rfl) ?_
          have hpj := hpr tt h_tt j (by omega)
          have hpj2 := hpj.2
          refine va_get (D := D) (ci := 8) (v := .ref (mx 4)) (C := RX8) (T := TX8) (N := 16) hx hb hts tu_X8 hown hSt.1 hP 0 rfl rfl 5 (by decide) (hts _ t3_225) (fun _ h9 => h9) rfl dX8_share_25 ?_
          refine lv_iconst (v := nI 5) hx hb dX8_share_28 (by decide) ?_
          refine lv_iload_n hx hb dX8_share_29 rfl (lv_at hl 1 rfl) ?_
          refine r_muln hx hb dX8_share_30 ?_
          refine lv_iload_n hx hb dX8_share_31 rfl (lv_at hl 3 rfl) ?_
          refine r_addn hx hb dX8_share_32 ?_
          refine r_iald hx hb hSt.1 hP 4 0 rfl rfl (k := ((5 * tt) + j)) (by omega) (by omega) dX8_share_33 ?_
          refine lv_as (y := nI (pp tt j)) (hpj.1) ?_
          refine r_addn hx hb dX8_share_34 ?_
          refine lv_istore_n (lv' := [(2, .int (nI (s1 + (pp tt j)))), (0, .ref (mx 0)), (1, .int (nI tt)), (3, .int (nI j))]) hx hb dX8_share_35 rfl hl (by decide) rfl (fun ls hl => ?_)
          refine lv_iinc (v := nI (j + 1)) (lv' := [(3, .int (nI (j + 1))), (2, .int (nI (s1 + (pp tt j)))), (0, .ref (mx 0)), (1, .int (nI tt))]) hx hb dX8_share_36 hl (k := 3) rfl (z_inc _) (by decide) rfl (fun ls hl => ?_)
          refine lv_goto (tgt := 18) hx hb dX8_share_39 (by decide) ?_
          exact ih_L18 (j + 1) (s1 + (pp tt j)) (by omega) (by rw [sumT, hs1]) (by omega) (by omega) _ _ hP hD hS _ (lv_sub hl [2, 3, 1, 0] rfl)
    exact L18 _ 0 0 (by omega) rfl (Nat.zero_le _) (Nat.lt_succ_self _) _ _ hP hD hS _ (lv_sub hl [2, 3, 1, 0] rfl)
  · have c_2 := bI_0.mp c_2
    refine lv_iconst (v := nI 0) hx hb dX8_share_12 (by decide) ?_
    have hP9 : va_P D vwCl (wMo mx cI cZ w (nI nz) q d (nI nt) pr mw mt zo ke wy st tr be ch (nI (as1 (bI (inI t (nI 0) (nI nt - nI 1)))))) H := hP
    have hD9 : va_D A (wMo mx cI cZ w (nI nz) q d (nI nt) pr mw mt zo ke wy st tr be ch (nI (as1 (bI (inI t (nI 0) (nI nt - nI 1)))))) := hD
    have g_7 : sOne nt (fun u9 => nI (shN (pp u9))) t (as1 (bI (inI t (nI 0) (nI nt - nI 1)))) (nI 0) := Or.inl ⟨fun q9 => c_2 ((inI_N (n := nt) (by omega)).mpr q9), as1_1 (bI_0.mpr c_2)⟩
    exact W.iret (v := nI 0) hx hb hr (fun t9 ht9 hW9 => ⟨⟨nI 0, (nI 0, as1 (bI (inI t (nI 0) (nI nt - nI 1)))), rfl, ⟨rfl, g_7⟩, by rw [ht9]; exact hP9, hD9⟩, hS.F ht9⟩) hS.2.2 dX8_share_13
set_option maxHeartbeats 4000000 in
set_option maxRecDepth 100000 in
theorem c_X8_zoneOf (l : Launch) (D : va_G) (cI cZ cQ cJ : ClassId) (mx : Nat → Nat) (w : Nat → Int32) (nz : Nat) (q : Nat → Int32) (d : Nat → Int32) (nt : Nat) (pr : Nat → Int32) (mw : Nat → Int32) (mt : Nat → Int32) (zo : Nat → Int32) (ke : Nat → Int32) (wy : Nat → Int32) (st : Nat → Int32) (tr : Nat → Int32) (be : Nat → Int32) (ch : Nat → Int32) (th : Int32) (g : Nat → Nat) (cz : Nat → Int32) (t : Int32) (sz : Nat) (hnz : nz ≤ 7) (hnt : nt ≤ 7) (hzo : pOK nt zo g) (hcz : pOK 7 cz g) : Met l yX8_zoneOf (.code yX8_zoneOf cX8_zoneOf 2 (some .int) :: ALL) ({ frames := 2, cells := 0, slots := 0, locals := 43 } : Room) (va_Pc [.ref (mx 0), .int t] (rw_P D cI cZ cQ cJ (wMo mx cI cZ w (nI nz) q d (nI nt) pr mw mt zo ke wy st tr be ch th) sz)) (va_Qi (fun (r9 : Int32) (u9 : Int32 × Nat) => (r9 = u9.1) ∧ (sOne nt cz t u9.2 u9.1)) (rw_B D (va_A (wMo mx cI cZ w (nI nz) q d (nI nt) pr mw mt zo ke wy st tr be ch th) sz) (fun u9 : Int32 × Nat => wMo mx cI cZ w (nI nz) q d (nI nt) pr mw mt zo ke wy st tr be ch (nI u9.2))) (va_A (wMo mx cI cZ w (nI nz) q d (nI nt) pr mw mt zo ke wy st tr be ch th) sz)) 0 0 (va_A (wMo mx cI cZ w (nI nz) q d (nI nt) pr mw mt zo ke wy st tr be ch th) sz) := by
  refine Met.ofW (cc := cX8_zoneOf) (maxL := 2) (ret := (some .int)) (by decide) rfl ?_
  intro p e s m args below meth c s₁ B hml hv
  obtain ⟨rfl, hsz, hP, hSt, hD0⟩ := hv
  have hx := B.exec
  have hb := B.bytes
  have hr := B.returns
  have hts : ∀ w ∈ ALL, w.before ([.ref (mx 0), .int t] : List Value).toArray s = true := fun w h => atoms_spec (ws := (.code yX8_zoneOf cX8_zoneOf 2 (some .int) :: ALL)) B.pre w (List.mem_cons_of_mem _ h)
  have hown : s.vm.findClass RX8 = some m.cls := findClass_of_methodNamed B.named
  have hlocks := B.notSynchronized
  subst hsz
  have hD := hD0.self (sz := s.heap.size)
  clear hD0
  generalize hAe : va_A (wMo mx cI cZ w (nI nz) q d (nI nt) pr mw mt zo ke wy st tr be ch th) s.heap.size = A at hD ⊢
  have hA : ∀ q : Nat, s.heap.size ≤ q → A q := fun q h => by rw [← hAe]; exact Or.inr h
  have hS : va_S A s.heap s.heap [] := va_S.rf
  have hl := lv_entry ([.ref (mx 0), .int t]) (n := 2) (Nat.le_of_ble_eq_true rfl)
  rw [lg_entry_eq]
  generalize (lg_sl ([.ref (mx 0), .int t]) ++ List.replicate (2 - (lg_sl ([.ref (mx 0), .int t])).length) Slot.unset).toArray = ls at hl ⊢
  have hl : lv_has ls 2 [(0, .ref (mx 0)), (1, .int t)] := hl
  obtain ⟨H, hHe⟩ : ∃ H : Heap, H = s.heap := ⟨_, rfl⟩
  obtain ⟨locs, hLe⟩ : ∃ L : List Loc, L = [] := ⟨_, rfl⟩
  have hP : va_P D vwCl (wMo mx cI cZ w (nI nz) q d (nI nt) pr mw mt zo ke wy st tr be ch th) H := by rw [hHe]; exact hP
  have hS : va_S A s.heap H locs := by rw [hHe, hLe]; exact hS
  refine W.eqHL hHe hLe ?_
  refine lv_aload_n hx hb dX8_zoneOf_0 rfl (lv_at hl 0 rfl) ?_
  refine lv_aload_n hx hb dX8_zoneOf_1 rfl (lv_at hl 0 rfl) ?_
  refine lv_iload_n hx hb dX8_zoneOf_2 rfl (lv_at hl 1 rfl) ?_
  refine ro_V (As := [.int t]) (rest := [.ref (mx 0)]) (v := bI (inI t (nI 0) (nI nt - nI 1))) ⟨hx, hb, hml, hown, hts⟩ (c_X8_isTeam l D cI cZ cQ cJ mx w nz q d nt pr mw mt zo ke wy st tr be ch th t) (gV t4_87 t4_89 t0_26 t1_10 t4_90) rfl rfl hd_X8_isTeam ⟨Nat.le_of_ble_eq_true rfl, Nat.le_of_ble_eq_true rfl⟩ hP hSt (va_recv hSt.1 hP (ci := 8) (q0 := 0) rfl rfl) rfl hl.1 rfl (Nat.le_of_ble_eq_true rfl) dX8_zoneOf_3 (Nat.zero_le _) (Nat.zero_le _) ?_
  refine rw_i (wr := ([] : va_W)) (w_V (As := [.int (bI (inI t (nI 0) (nI nt - nI 1)))]) ⟨hx, hb, hml, hown, hts⟩ (c_X8_asked l D cI cZ cQ cJ mx w nz q d nt pr mw mt zo ke wy st tr be ch th (bI (inI t (nI 0) (nI nt - nI 1))) H.size (bI_01 _)) (gV t4_79 t4_81 t0_25 t1_10 t4_82) rfl rfl hd_X8_asked ⟨Nat.le_of_ble_eq_true rfl, Nat.le_of_ble_eq_true rfl⟩ (rw_pre hP hD hSt [0, 1, 2, 3, 4, 5, 6, 7, 8, 9, 10, 11, 12, 13] rfl (by decide)) (va_recv hSt.1 hP (ci := 8) (q0 := 0) rfl rfl) rfl hl.1 (rest := []) rfl (Nat.le_of_ble_eq_true rfl) dX8_zoneOf_6 ⟨Nat.le_of_ble_eq_true rfl, Nat.le_of_ble_eq_true rfl⟩) hP hD hS hA [0, 1, 2, 3, 4, 5, 6, 7, 8, 9, 10, 11, 12, 13] [] rfl rfl (by decide) (by decide) (fun r_9 u_1 H locs hw9 hP hD hS => ?_)
  have er_9 := hw9
  replace er_9 := er_9.symm
  subst er_9
  have hP : va_P D vwCl (wMo mx cI cZ w (nI nz) q d (nI nt) pr mw mt zo ke wy st tr be ch (nI (as1 (bI (inI t (nI 0) (nI nt - nI 1)))))) H := hP
  have hD : va_D A (wMo mx cI cZ w (nI nz) q d (nI nt) pr mw mt zo ke wy st tr be ch (nI (as1 (bI (inI t (nI 0) (nI nt - nI 1)))))) := hD
  refine lv_if_eq (tgt := 21) hx hb dX8_zoneOf_9 (by decide) (fun c_2 => ?_) (fun c_2 => ?_)
  · have c_2 := bI_0.mp c_2
    refine lv_iconst (v := nI 0) hx hb dX8_zoneOf_21 (by decide) ?_
    have hP9 : va_P D vwCl (wMo mx cI cZ w (nI nz) q d (nI nt) pr mw mt zo ke wy st tr be ch (nI (as1 (bI (inI t (nI 0) (nI nt - nI 1)))))) H := hP
    have hD9 : va_D A (wMo mx cI cZ w (nI nz) q d (nI nt) pr mw mt zo ke wy st tr be ch (nI (as1 (bI (inI t (nI 0) (nI nt - nI 1)))))) := hD
    have g_3 : sOne nt cz t (as1 (bI (inI t (nI 0) (nI nt - nI 1)))) (nI 0) := Or.inl ⟨fun q9 => c_2 ((inI_N (n := nt) (by omega)).mpr q9), as1_1 (bI_0.mpr c_2)⟩
    exact W.iret (v := nI 0) hx hb hr (fun t9 ht9 hW9 => ⟨⟨nI 0, (nI 0, as1 (bI (inI t (nI 0) (nI nt - nI 1)))), rfl, ⟨rfl, g_3⟩, by rw [ht9]; exact hP9, hD9⟩, hS.F ht9⟩) hS.2.2 dX8_zoneOf_22
  · have c_2 := bI_n0.mp c_2
    obtain ⟨tt, h_tt, rfl⟩ := (inI_N (n := nt) (by omega)).mp c_2
    refine lv_aload_n hx hb dX8_zoneOf_12 rfl (lv_at hl 0 rfl) ?_
    refine va_get (D := D) (ci := 8) (v := .ref (mx 7)) (C := RX8) (T := TX8) (N := 16) hx hb hts tu_X8 hown hSt.1 hP 0 rfl rfl 8 (by decide) (hts _ t3_228) (fun _ h9 => h9) rfl dX8_zoneOf_13 ?_
    refine lv_iload_n hx hb dX8_zoneOf_16 rfl (lv_at hl 1 rfl) ?_
    refine r_iald hx hb hSt.1 hP 7 0 rfl rfl (k := tt) (by omega) (by omega) dX8_zoneOf_17 ?_
    refine lv_goto (tgt := 22) hx hb dX8_zoneOf_18 (by decide) ?_
    have hP9 : va_P D vwCl (wMo mx cI cZ w (nI nz) q d (nI nt) pr mw mt zo ke wy st tr be ch (nI (as1 (bI (inI (nI tt) (nI 0) (nI nt - nI 1)))))) H := hP
    have hD9 : va_D A (wMo mx cI cZ w (nI nz) q d (nI nt) pr mw mt zo ke wy st tr be ch (nI (as1 (bI (inI (nI tt) (nI 0) (nI nt - nI 1)))))) := hD
    have g_4 : sOne nt cz (nI tt) (as1 (bI (inI (nI tt) (nI 0) (nI nt - nI 1)))) (zo tt) := Or.inr ⟨⟨tt, h_tt, rfl⟩, if_neg (bI_n0.mpr ((inI_N (n := nt) (by omega)).mpr ⟨tt, h_tt, rfl⟩)), by rw [nIc (by omega), hzo tt h_tt, hcz tt (by omega)]⟩
    exact W.iret (v := zo tt) hx hb hr (fun t9 ht9 hW9 => ⟨⟨zo tt, (zo tt, as1 (bI (inI (nI tt) (nI 0) (nI nt - nI 1)))), rfl, ⟨rfl, g_4⟩, by rw [ht9]; exact hP9, hD9⟩, hS.F ht9⟩) hS.2.2 dX8_zoneOf_22
set_option maxHeartbeats 4000000 in
set_option maxRecDepth 100000 in
theorem c_X8_teamIn (l : Launch) (D : va_G) (cI cZ cQ cJ : ClassId) (mx : Nat → Nat) (w : Nat → Int32) (nz : Nat) (q : Nat → Int32) (d : Nat → Int32) (nt : Nat) (pr : Nat → Int32) (mw : Nat → Int32) (mt : Nat → Int32) (zo : Nat → Int32) (ke : Nat → Int32) (wy : Nat → Int32) (st : Nat → Int32) (tr : Nat → Int32) (be : Nat → Int32) (ch : Nat → Int32) (th : Int32) (g : Nat → Nat) (cz : Nat → Int32) (z : Int32) (sz : Nat) (hnz : nz ≤ 7) (hnt : nt ≤ 7) (hzo : pOK nt zo g) (hcz : pOK 7 cz g) (hvg : vG nz nt g) : Met l yX8_teamIn (.code yX8_teamIn cX8_teamIn 2 (some .int) :: ALL) ({ frames := 2, cells := 0, slots := 0, locals := 43 } : Room) (va_Pc [.ref (mx 0), .int z] (rw_P D cI cZ cQ cJ (wMo mx cI cZ w (nI nz) q d (nI nt) pr mw mt zo ke wy st tr be ch th) sz)) (va_Qi (fun (r9 : Int32) (u9 : Int32 × Nat) => (r9 = u9.1) ∧ (sOne nz (fun u9 => tAt cz (nI u9)) z u9.2 u9.1)) (rw_B D (va_A (wMo mx cI cZ w (nI nz) q d (nI nt) pr mw mt zo ke wy st tr be ch th) sz) (fun u9 : Int32 × Nat => wMo mx cI cZ w (nI nz) q d (nI nt) pr mw mt zo ke wy st tr be ch (nI u9.2))) (va_A (wMo mx cI cZ w (nI nz) q d (nI nt) pr mw mt zo ke wy st tr be ch th) sz)) 0 0 (va_A (wMo mx cI cZ w (nI nz) q d (nI nt) pr mw mt zo ke wy st tr be ch th) sz) := by
  refine Met.ofW (cc := cX8_teamIn) (maxL := 2) (ret := (some .int)) (by decide) rfl ?_
  intro p e s m args below meth c s₁ B hml hv
  obtain ⟨rfl, hsz, hP, hSt, hD0⟩ := hv
  have hx := B.exec
  have hb := B.bytes
  have hr := B.returns
  have hts : ∀ w ∈ ALL, w.before ([.ref (mx 0), .int z] : List Value).toArray s = true := fun w h => atoms_spec (ws := (.code yX8_teamIn cX8_teamIn 2 (some .int) :: ALL)) B.pre w (List.mem_cons_of_mem _ h)
  have hown : s.vm.findClass RX8 = some m.cls := findClass_of_methodNamed B.named
  have hlocks := B.notSynchronized
  subst hsz
  have hD := hD0.self (sz := s.heap.size)
  clear hD0
  generalize hAe : va_A (wMo mx cI cZ w (nI nz) q d (nI nt) pr mw mt zo ke wy st tr be ch th) s.heap.size = A at hD ⊢
  have hA : ∀ q : Nat, s.heap.size ≤ q → A q := fun q h => by rw [← hAe]; exact Or.inr h
  have hS : va_S A s.heap s.heap [] := va_S.rf
  have hl := lv_entry ([.ref (mx 0), .int z]) (n := 2) (Nat.le_of_ble_eq_true rfl)
  rw [lg_entry_eq]
  generalize (lg_sl ([.ref (mx 0), .int z]) ++ List.replicate (2 - (lg_sl ([.ref (mx 0), .int z])).length) Slot.unset).toArray = ls at hl ⊢
  have hl : lv_has ls 2 [(0, .ref (mx 0)), (1, .int z)] := hl
  obtain ⟨H, hHe⟩ : ∃ H : Heap, H = s.heap := ⟨_, rfl⟩
  obtain ⟨locs, hLe⟩ : ∃ L : List Loc, L = [] := ⟨_, rfl⟩
  have hP : va_P D vwCl (wMo mx cI cZ w (nI nz) q d (nI nt) pr mw mt zo ke wy st tr be ch th) H := by rw [hHe]; exact hP
  have hS : va_S A s.heap H locs := by rw [hHe, hLe]; exact hS
  refine W.eqHL hHe hLe ?_
  refine lv_aload_n hx hb dX8_teamIn_0 rfl (lv_at hl 0 rfl) ?_
  refine lv_aload_n hx hb dX8_teamIn_1 rfl (lv_at hl 0 rfl) ?_
  refine lv_iload_n hx hb dX8_teamIn_2 rfl (lv_at hl 1 rfl) ?_
  refine ro_V (As := [.int z]) (rest := [.ref (mx 0)]) (v := bI (inI z (nI 0) (nI nz - nI 1))) ⟨hx, hb, hml, hown, hts⟩ (c_X8_isZone l D cI cZ cQ cJ mx w nz q d nt pr mw mt zo ke wy st tr be ch th z) (gV t4_63 t4_65 t0_22 t1_10 t4_66) rfl rfl hd_X8_isZone ⟨Nat.le_of_ble_eq_true rfl, Nat.le_of_ble_eq_true rfl⟩ hP hSt (va_recv hSt.1 hP (ci := 8) (q0 := 0) rfl rfl) rfl hl.1 rfl (Nat.le_of_ble_eq_true rfl) dX8_teamIn_3 (Nat.zero_le _) (Nat.zero_le _) ?_
  refine rw_i (wr := ([] : va_W)) (w_V (As := [.int (bI (inI z (nI 0) (nI nz - nI 1)))]) ⟨hx, hb, hml, hown, hts⟩ (c_X8_asked l D cI cZ cQ cJ mx w nz q d nt pr mw mt zo ke wy st tr be ch th (bI (inI z (nI 0) (nI nz - nI 1))) H.size (bI_01 _)) (gV t4_79 t4_81 t0_25 t1_10 t4_82) rfl rfl hd_X8_asked ⟨Nat.le_of_ble_eq_true rfl, Nat.le_of_ble_eq_true rfl⟩ (rw_pre hP hD hSt [0, 1, 2, 3, 4, 5, 6, 7, 8, 9, 10, 11, 12, 13] rfl (by decide)) (va_recv hSt.1 hP (ci := 8) (q0 := 0) rfl rfl) rfl hl.1 (rest := []) rfl (Nat.le_of_ble_eq_true rfl) dX8_teamIn_6 ⟨Nat.le_of_ble_eq_true rfl, Nat.le_of_ble_eq_true rfl⟩) hP hD hS hA [0, 1, 2, 3, 4, 5, 6, 7, 8, 9, 10, 11, 12, 13] [] rfl rfl (by decide) (by decide) (fun r_9 u_1 H locs hw9 hP hD hS => ?_)
  have er_9 := hw9
  replace er_9 := er_9.symm
  subst er_9
  have hP : va_P D vwCl (wMo mx cI cZ w (nI nz) q d (nI nt) pr mw mt zo ke wy st tr be ch (nI (as1 (bI (inI z (nI 0) (nI nz - nI 1)))))) H := hP
  have hD : va_D A (wMo mx cI cZ w (nI nz) q d (nI nt) pr mw mt zo ke wy st tr be ch (nI (as1 (bI (inI z (nI 0) (nI nz - nI 1)))))) := hD
  refine lv_if_eq (tgt := 20) hx hb dX8_teamIn_9 (by decide) (fun c_2 => ?_) (fun c_2 => ?_)
  · have c_2 := bI_0.mp c_2
    refine lv_iconst (v := nI 0) hx hb dX8_teamIn_20 (by decide) ?_
    have hP9 : va_P D vwCl (wMo mx cI cZ w (nI nz) q d (nI nt) pr mw mt zo ke wy st tr be ch (nI (as1 (bI (inI z (nI 0) (nI nz - nI 1)))))) H := hP
    have hD9 : va_D A (wMo mx cI cZ w (nI nz) q d (nI nt) pr mw mt zo ke wy st tr be ch (nI (as1 (bI (inI z (nI 0) (nI nz - nI 1)))))) := hD
    have g_3 : sOne nz (fun u9 => tAt cz (nI u9)) z (as1 (bI (inI z (nI 0) (nI nz - nI 1)))) (nI 0) := Or.inl ⟨fun q9 => c_2 ((inI_N (n := nz) (by omega)).mpr q9), as1_1 (bI_0.mpr c_2)⟩
    exact W.iret (v := nI 0) hx hb hr (fun t9 ht9 hW9 => ⟨⟨nI 0, (nI 0, as1 (bI (inI z (nI 0) (nI nz - nI 1)))), rfl, ⟨rfl, g_3⟩, by rw [ht9]; exact hP9, hD9⟩, hS.F ht9⟩) hS.2.2 dX8_teamIn_21
  · have c_2 := bI_n0.mp c_2
    obtain ⟨zz, h_zz, rfl⟩ := (inI_N (n := nz) (by omega)).mp c_2
    refine lv_aload_n hx hb dX8_teamIn_12 rfl (lv_at hl 0 rfl) ?_
    refine lv_iload_n hx hb dX8_teamIn_13 rfl (lv_at hl 1 rfl) ?_
    refine ro_V (As := [.int (nI zz)]) (rest := []) (v := tAt cz (nI zz)) ⟨hx, hb, hml, hown, hts⟩ (c_X8_inZone l D cI cZ cQ cJ mx w nz q d nt pr mw mt zo ke wy st tr be ch (nI (as1 (bI (inI (nI zz) (nI 0) (nI nz - nI 1))))) g cz zz (by first | assumption | omega) (by first | assumption | omega) (by first | assumption | omega) (by first | assumption | omega) (by first | assumption | omega) (by omega)) (gV t4_67 t4_69 t0_23 t1_10 t4_70) rfl rfl hd_X8_inZone ⟨Nat.le_of_ble_eq_true rfl, Nat.le_of_ble_eq_true rfl⟩ hP hSt (va_recv hSt.1 hP (ci := 8) (q0 := 0) rfl rfl) rfl hl.1 rfl (Nat.le_of_ble_eq_true rfl) dX8_teamIn_14 (Nat.zero_le _) (Nat.zero_le _) ?_
    refine lv_goto (tgt := 21) hx hb dX8_teamIn_17 (by decide) ?_
    have hP9 : va_P D vwCl (wMo mx cI cZ w (nI nz) q d (nI nt) pr mw mt zo ke wy st tr be ch (nI (as1 (bI (inI (nI zz) (nI 0) (nI nz - nI 1)))))) H := hP
    have hD9 : va_D A (wMo mx cI cZ w (nI nz) q d (nI nt) pr mw mt zo ke wy st tr be ch (nI (as1 (bI (inI (nI zz) (nI 0) (nI nz - nI 1)))))) := hD
    have g_4 : sOne nz (fun u9 => tAt cz (nI u9)) (nI zz) (as1 (bI (inI (nI zz) (nI 0) (nI nz - nI 1)))) (tAt cz (nI zz)) := Or.inr ⟨⟨zz, h_zz, rfl⟩, if_neg (bI_n0.mpr ((inI_N (n := nz) (by omega)).mpr ⟨zz, h_zz, rfl⟩)), by rw [nIc (by omega)]⟩
    exact W.iret (v := tAt cz (nI zz)) hx hb hr (fun t9 ht9 hW9 => ⟨⟨tAt cz (nI zz), (tAt cz (nI zz), as1 (bI (inI (nI zz) (nI 0) (nI nz - nI 1)))), rfl, ⟨rfl, g_4⟩, by rw [ht9]; exact hP9, hD9⟩, hS.F ht9⟩) hS.2.2 dX8_teamIn_21
set_option maxHeartbeats 4000000 in
set_option maxRecDepth 100000 in
theorem c_X8_free (l : Launch) (D : va_G) (cI cZ cQ cJ : ClassId) (mx : Nat → Nat) (w : Nat → Int32) (nz : Nat) (q : Nat → Int32) (d : Nat → Int32) (nt : Nat) (pr : Nat → Int32) (mw : Nat → Int32) (mt : Nat → Int32) (zo : Nat → Int32) (ke : Nat → Int32) (wy : Nat → Int32) (st : Nat → Int32) (tr : Nat → Int32) (be : Nat → Int32) (ch : Nat → Int32) (th : Int32) (g : Nat → Nat) (cz : Nat → Int32) (P : Nat → Nat → Int32) (z : Int32) (j9 : Int32) (sz : Nat) (hnz : nz ≤ 7) (hnt : nt ≤ 7) (hzo : pOK nt zo g) (hcz : pOK 7 cz g) (hvg : vG nz nt g) (hpP : ∀ t j, t < 7 → j < 5 → pr (5 * t + j) = P t j) : Met l yX8_free (.code yX8_free cX8_free 4 (some .int) :: ALL) ({ frames := 2, cells := 0, slots := 0, locals := 43 } : Room) (va_Pc [.ref (mx 0), .int z, .int j9] (rw_P D cI cZ cQ cJ (wMo mx cI cZ w (nI nz) q d (nI nt) pr mw mt zo ke wy st tr be ch th) sz)) (va_Qi (fun (r9 : Int32) (u9 : Int32 × Nat) => (r9 = u9.1) ∧ (sFree nz d cz P z j9 u9.2 u9.1)) (rw_B D (va_A (wMo mx cI cZ w (nI nz) q d (nI nt) pr mw mt zo ke wy st tr be ch th) sz) (fun u9 : Int32 × Nat => wMo mx cI cZ w (nI nz) q d (nI nt) pr mw mt zo ke wy st tr be ch (nI u9.2))) (va_A (wMo mx cI cZ w (nI nz) q d (nI nt) pr mw mt zo ke wy st tr be ch th) sz)) 0 0 (va_A (wMo mx cI cZ w (nI nz) q d (nI nt) pr mw mt zo ke wy st tr be ch th) sz) := by
  refine Met.ofW (cc := cX8_free) (maxL := 4) (ret := (some .int)) (by decide) rfl ?_
  intro p e s m args below meth c s₁ B hml hv
  obtain ⟨rfl, hsz, hP, hSt, hD0⟩ := hv
  have hx := B.exec
  have hb := B.bytes
  have hr := B.returns
  have hts : ∀ w ∈ ALL, w.before ([.ref (mx 0), .int z, .int j9] : List Value).toArray s = true := fun w h => atoms_spec (ws := (.code yX8_free cX8_free 4 (some .int) :: ALL)) B.pre w (List.mem_cons_of_mem _ h)
  have hown : s.vm.findClass RX8 = some m.cls := findClass_of_methodNamed B.named
  have hlocks := B.notSynchronized
  subst hsz
  have hD := hD0.self (sz := s.heap.size)
  clear hD0
  generalize hAe : va_A (wMo mx cI cZ w (nI nz) q d (nI nt) pr mw mt zo ke wy st tr be ch th) s.heap.size = A at hD ⊢
  have hA : ∀ q : Nat, s.heap.size ≤ q → A q := fun q h => by rw [← hAe]; exact Or.inr h
  have hS : va_S A s.heap s.heap [] := va_S.rf
  have hl := lv_entry ([.ref (mx 0), .int z, .int j9]) (n := 4) (Nat.le_of_ble_eq_true rfl)
  rw [lg_entry_eq]
  generalize (lg_sl ([.ref (mx 0), .int z, .int j9]) ++ List.replicate (4 - (lg_sl ([.ref (mx 0), .int z, .int j9])).length) Slot.unset).toArray = ls at hl ⊢
  have hl : lv_has ls 4 [(0, .ref (mx 0)), (1, .int z), (2, .int j9)] := hl
  obtain ⟨H, hHe⟩ : ∃ H : Heap, H = s.heap := ⟨_, rfl⟩
  obtain ⟨locs, hLe⟩ : ∃ L : List Loc, L = [] := ⟨_, rfl⟩
  have hP : va_P D vwCl (wMo mx cI cZ w (nI nz) q d (nI nt) pr mw mt zo ke wy st tr be ch th) H := by rw [hHe]; exact hP
  have hS : va_S A s.heap H locs := by rw [hHe, hLe]; exact hS
  refine W.eqHL hHe hLe ?_
  refine lv_aload_n hx hb dX8_free_0 rfl (lv_at hl 0 rfl) ?_
  refine lv_aload_n hx hb dX8_free_1 rfl (lv_at hl 0 rfl) ?_
  refine lv_iload_n hx hb dX8_free_2 rfl (lv_at hl 1 rfl) ?_
  refine ro_V (As := [.int z]) (rest := [.ref (mx 0)]) (v := bI (inI z (nI 0) (nI nz - nI 1))) ⟨hx, hb, hml, hown, hts⟩ (c_X8_isZone l D cI cZ cQ cJ mx w nz q d nt pr mw mt zo ke wy st tr be ch th z) (gV t4_63 t4_65 t0_22 t1_10 t4_66) rfl rfl hd_X8_isZone ⟨Nat.le_of_ble_eq_true rfl, Nat.le_of_ble_eq_true rfl⟩ hP hSt (va_recv hSt.1 hP (ci := 8) (q0 := 0) rfl rfl) rfl hl.1 rfl (Nat.le_of_ble_eq_true rfl) dX8_free_3 (Nat.zero_le _) (Nat.zero_le _) ?_
  refine lv_if_eq (tgt := 22) hx hb dX8_free_6 (by decide) (fun c_1 => ?_) (fun c_1 => ?_)
  · have c_1 := bI_0.mp c_1
    refine lv_iconst (v := nI 0) hx hb dX8_free_22 (by decide) ?_
    refine rw_i (wr := ([] : va_W)) (w_V (As := [.int (nI 0)]) ⟨hx, hb, hml, hown, hts⟩ (c_X8_asked l D cI cZ cQ cJ mx w nz q d nt pr mw mt zo ke wy st tr be ch th (nI 0) H.size (by first | exact Or.inl rfl | exact Or.inr rfl)) (gV t4_79 t4_81 t0_25 t1_10 t4_82) rfl rfl hd_X8_asked ⟨Nat.le_of_ble_eq_true rfl, Nat.le_of_ble_eq_true rfl⟩ (rw_pre hP hD hSt [0, 1, 2, 3, 4, 5, 6, 7, 8, 9, 10, 11, 12, 13] rfl (by decide)) (va_recv hSt.1 hP (ci := 8) (q0 := 0) rfl rfl) rfl hl.1 (rest := []) rfl (Nat.le_of_ble_eq_true rfl) dX8_free_23 ⟨Nat.le_of_ble_eq_true rfl, Nat.le_of_ble_eq_true rfl⟩) hP hD hS hA [0, 1, 2, 3, 4, 5, 6, 7, 8, 9, 10, 11, 12, 13] [] rfl rfl (by decide) (by decide) (fun r_9 u_2 H locs hw9 hP hD hS => ?_)
    have er_9 := hw9
    replace er_9 := er_9.symm
    subst er_9
    have hP : va_P D vwCl (wMo mx cI cZ w (nI nz) q d (nI nt) pr mw mt zo ke wy st tr be ch (nI (as1 (nI 0)))) H := hP
    have hD : va_D A (wMo mx cI cZ w (nI nz) q d (nI nt) pr mw mt zo ke wy st tr be ch (nI (as1 (nI 0)))) := hD
    refine lv_if_ne (tgt := 31) hx hb dX8_free_26 (by decide) (fun c_3 => ?_) (fun c_3 => ?_)
    · exact absurd c_3 (by decide)
    · refine lv_iconst (v := nI 0) hx hb dX8_free_29 (by decide) ?_
      have hP9 : va_P D vwCl (wMo mx cI cZ w (nI nz) q d (nI nt) pr mw mt zo ke wy st tr be ch (nI (as1 (nI 0)))) H := hP
      have hD9 : va_D A (wMo mx cI cZ w (nI nz) q d (nI nt) pr mw mt zo ke wy st tr be ch (nI (as1 (nI 0)))) := hD
      have g_4 : sFree nz d cz P z j9 (as1 (nI 0)) (nI 0) := Or.inl ⟨fun q9 => c_1 ((inI_N (n := nz) (by omega)).mpr q9.1), if_pos nI0⟩
      exact W.iret (v := nI 0) hx hb hr (fun t9 ht9 hW9 => ⟨⟨nI 0, (nI 0, as1 (nI 0)), rfl, ⟨rfl, g_4⟩, by rw [ht9]; exact hP9, hD9⟩, hS.F ht9⟩) hS.2.2 dX8_free_30
  · have c_1 := bI_n0.mp c_1
    obtain ⟨zz, h_zz, rfl⟩ := (inI_N (n := nz) (by omega)).mp c_1
    refine lv_iload_n hx hb dX8_free_9 rfl (lv_at hl 2 rfl) ?_
    refine lv_iconst (v := nI 0) hx hb dX8_free_10 (by decide) ?_
    refine lv_iconst (v := nI 4) hx hb dX8_free_11 (by decide) ?_
    refine ro_S (As := [.int j9, .int (nI 0), .int (nI 4)]) (rest := [.ref (mx 0)]) (v := bI (inI j9 (nI 0) (nI 4))) ⟨hx, hb, hml, hown, hts⟩ (c_X8_in l D cI cZ cQ cJ j9 (nI 0) (nI 4)) (gS t4_40 t4_41 t1_10 t4_42) rfl rfl hd_X8_in ⟨Nat.le_of_ble_eq_true rfl, Nat.le_of_ble_eq_true rfl⟩ va_P_nil hSt rfl hl.1 rfl (Nat.le_of_ble_eq_true rfl) dX8_free_12 (Nat.zero_le _) (Nat.zero_le _) ?_
    refine lv_if_eq (tgt := 22) hx hb dX8_free_15 (by decide) (fun c_5 => ?_) (fun c_5 => ?_)
    · have c_5 := bI_0.mp c_5
      refine lv_iconst (v := nI 0) hx hb dX8_free_22 (by decide) ?_
      refine rw_i (wr := ([] : va_W)) (w_V (As := [.int (nI 0)]) ⟨hx, hb, hml, hown, hts⟩ (c_X8_asked l D cI cZ cQ cJ mx w nz q d nt pr mw mt zo ke wy st tr be ch th (nI 0) H.size (by first | exact Or.inl rfl | exact Or.inr rfl)) (gV t4_79 t4_81 t0_25 t1_10 t4_82) rfl rfl hd_X8_asked ⟨Nat.le_of_ble_eq_true rfl, Nat.le_of_ble_eq_true rfl⟩ (rw_pre hP hD hSt [0, 1, 2, 3, 4, 5, 6, 7, 8, 9, 10, 11, 12, 13] rfl (by decide)) (va_recv hSt.1 hP (ci := 8) (q0 := 0) rfl rfl) rfl hl.1 (rest := []) rfl (Nat.le_of_ble_eq_true rfl) dX8_free_23 ⟨Nat.le_of_ble_eq_true rfl, Nat.le_of_ble_eq_true rfl⟩) hP hD hS hA [0, 1, 2, 3, 4, 5, 6, 7, 8, 9, 10, 11, 12, 13] [] rfl rfl (by decide) (by decide) (fun r_9 u_6 H locs hw9 hP hD hS => ?_)
      have er_9 := hw9
      replace er_9 := er_9.symm
      subst er_9
      have hP : va_P D vwCl (wMo mx cI cZ w (nI nz) q d (nI nt) pr mw mt zo ke wy st tr be ch (nI (as1 (nI 0)))) H := hP
      have hD : va_D A (wMo mx cI cZ w (nI nz) q d (nI nt) pr mw mt zo ke wy st tr be ch (nI (as1 (nI 0)))) := hD
      refine lv_if_ne (tgt := 31) hx hb dX8_free_26 (by decide) (fun c_7 => ?_) (fun c_7 => ?_)
      · exact absurd c_7 (by decide)
      · refine lv_iconst (v := nI 0) hx hb dX8_free_29 (by decide) ?_
        have hP9 : va_P D vwCl (wMo mx cI cZ w (nI nz) q d (nI nt) pr mw mt zo ke wy st tr be ch (nI (as1 (nI 0)))) H := hP
        have hD9 : va_D A (wMo mx cI cZ w (nI nz) q d (nI nt) pr mw mt zo ke wy st tr be ch (nI (as1 (nI 0)))) := hD
        have g_8 : sFree nz d cz P (nI zz) j9 (as1 (nI 0)) (nI 0) := Or.inl ⟨fun q9 => c_5 (inI_5.mpr q9.2), if_pos nI0⟩
        exact W.iret (v := nI 0) hx hb hr (fun t9 ht9 hW9 => ⟨⟨nI 0, (nI 0, as1 (nI 0)), rfl, ⟨rfl, g_8⟩, by rw [ht9]; exact hP9, hD9⟩, hS.F ht9⟩) hS.2.2 dX8_free_30
    · have c_5 := bI_n0.mp c_5
      obtain ⟨jj, h_jj, rfl⟩ := inI_5.mp c_5
      refine lv_iconst (v := nI 1) hx hb dX8_free_18 (by decide) ?_
      refine lv_goto (tgt := 23) hx hb dX8_free_19 (by decide) ?_
      refine rw_i (wr := ([] : va_W)) (w_V (As := [.int (nI 1)]) ⟨hx, hb, hml, hown, hts⟩ (c_X8_asked l D cI cZ cQ cJ mx w nz q d nt pr mw mt zo ke wy st tr be ch th (nI 1) H.size (by first | exact Or.inl rfl | exact Or.inr rfl)) (gV t4_79 t4_81 t0_25 t1_10 t4_82) rfl rfl hd_X8_asked ⟨Nat.le_of_ble_eq_true rfl, Nat.le_of_ble_eq_true rfl⟩ (rw_pre hP hD hSt [0, 1, 2, 3, 4, 5, 6, 7, 8, 9, 10, 11, 12, 13] rfl (by decide)) (va_recv hSt.1 hP (ci := 8) (q0 := 0) rfl rfl) rfl hl.1 (rest := []) rfl (Nat.le_of_ble_eq_true rfl) dX8_free_23 ⟨Nat.le_of_ble_eq_true rfl, Nat.le_of_ble_eq_true rfl⟩) hP hD hS hA [0, 1, 2, 3, 4, 5, 6, 7, 8, 9, 10, 11, 12, 13] [] rfl rfl (by decide) (by decide) (fun r_9 u_9 H locs hw9 hP hD hS => ?_)
      have er_9 := hw9
      replace er_9 := er_9.symm
      subst er_9
      have hP : va_P D vwCl (wMo mx cI cZ w (nI nz) q d (nI nt) pr mw mt zo ke wy st tr be ch (nI (as1 (nI 1)))) H := hP
      have hD : va_D A (wMo mx cI cZ w (nI nz) q d (nI nt) pr mw mt zo ke wy st tr be ch (nI (as1 (nI 1)))) := hD
      refine lv_if_ne (tgt := 31) hx hb dX8_free_26 (by decide) (fun c_10 => ?_) (fun c_10 => ?_)
      · refine lv_aload_n hx hb dX8_free_31 rfl (lv_at hl 0 rfl) ?_
        refine lv_iload_n hx hb dX8_free_32 rfl (lv_at hl 1 rfl) ?_
        refine ro_V (As := [.int (nI zz)]) (rest := []) (v := tAt cz (nI zz)) ⟨hx, hb, hml, hown, hts⟩ (c_X8_inZone l D cI cZ cQ cJ mx w nz q d nt pr mw mt zo ke wy st tr be ch (nI (as1 (nI 1))) g cz zz (by first | assumption | omega) (by first | assumption | omega) (by first | assumption | omega) (by first | assumption | omega) (by first | assumption | omega) (by omega)) (gV t4_67 t4_69 t0_23 t1_10 t4_70) rfl rfl hd_X8_inZone ⟨Nat.le_of_ble_eq_true rfl, Nat.le_of_ble_eq_true rfl⟩ hP hSt (va_recv hSt.1 hP (ci := 8) (q0 := 0) rfl rfl) rfl hl.1 rfl (Nat.le_of_ble_eq_true rfl) dX8_free_33 (Nat.zero_le _) (Nat.zero_le _) ?_
        refine lv_istore_n (lv' := [(3, .int (tAt cz (nI zz))), (0, .ref (mx 0)), (1, .int (nI zz)), (2, .int (nI jj))]) hx hb dX8_free_36 rfl hl (by decide) rfl (fun ls hl => ?_)
        refine lv_aload_n hx hb dX8_free_37 rfl (lv_at hl 1 rfl) ?_
        refine va_get (D := D) (ci := 8) (v := .ref (mx 3)) (C := RX8) (T := TX8) (N := 16) hx hb hts tu_X8 hown hSt.1 hP 0 rfl rfl 3 (by decide) (hts _ t3_223) (fun _ h9 => h9) rfl dX8_free_38 ?_
        refine lv_iload_n hx hb dX8_free_41 rfl (lv_at hl 2 rfl) ?_
        refine r_iald hx hb hSt.1 hP 3 0 rfl rfl (k := zz) (by omega) (by omega) dX8_free_42 ?_
        refine lv_iload_n hx hb dX8_free_43 rfl (lv_at hl 0 rfl) ?_
        refine lv_iconst (v := (-1 : Int32)) hx hb dX8_free_44 (by decide) ?_
        refine lv_icmp_ne (tgt := 52) hx hb dX8_free_45 (by decide) (fun c_11 => ?_) (fun c_11 => ?_)
        · obtain ⟨tm9, htm9, htm7, et9, eg9⟩ := tAt_team hcz hvg hnz (by omega) c_11
          refine lv_aload_n hx hb dX8_free_52 rfl (lv_at hl 1 rfl) ?_
          refine va_get (D := D) (ci := 8) (v := .ref (mx 4)) (C := RX8) (T := TX8) (N := 16) hx hb hts tu_X8 hown hSt.1 hP 0 rfl rfl 5 (by decide) (hts _ t3_225) (fun _ h9 => h9) rfl dX8_free_53 ?_
          refine lv_iconst (v := nI 5) hx hb dX8_free_56 (by decide) ?_
          refine lv_iload_n hx hb dX8_free_57 rfl (lv_at hl 0 rfl) ?_
          refine lv_as (y := nI tm9) (et9) ?_
          refine r_muln hx hb dX8_free_58 ?_
          refine lv_iload_n hx hb dX8_free_59 rfl (lv_at hl 3 rfl) ?_
          refine r_addn hx hb dX8_free_60 ?_
          refine r_iald hx hb hSt.1 hP 4 0 rfl rfl (k := ((5 * tm9) + jj)) (by omega) (by omega) dX8_free_61 ?_
          refine lv_isub hx hb dX8_free_62 ?_
          have hP9 : va_P D vwCl (wMo mx cI cZ w (nI nz) q d (nI nt) pr mw mt zo ke wy st tr be ch (nI (as1 (nI 1)))) H := hP
          have hD9 : va_D A (wMo mx cI cZ w (nI nz) q d (nI nt) pr mw mt zo ke wy st tr be ch (nI (as1 (nI 1)))) := hD
          have g_12 : sFree nz d cz P (nI zz) (nI jj) (as1 (nI 1)) ((d zz) - (pr ((5 * tm9) + jj))) := Or.inr ⟨⟨⟨zz, h_zz, rfl⟩, ⟨jj, h_jj, rfl⟩⟩, if_neg nI1, by rw [nIc (by omega), if_neg c_11, et9, nIc (by omega), nIc (by omega), hpP tm9 jj (by omega) h_jj]⟩
          exact W.iret (v := (d zz) - (pr ((5 * tm9) + jj))) hx hb hr (fun t9 ht9 hW9 => ⟨⟨(d zz) - (pr ((5 * tm9) + jj)), ((d zz) - (pr ((5 * tm9) + jj)), as1 (nI 1)), rfl, ⟨rfl, g_12⟩, by rw [ht9]; exact hP9, hD9⟩, hS.F ht9⟩) hS.2.2 dX8_free_63
        · refine lv_iconst (v := nI 0) hx hb dX8_free_48 (by decide) ?_
          refine lv_goto (tgt := 62) hx hb dX8_free_49 (by decide) ?_
          refine lv_isub hx hb dX8_free_62 ?_
          have hP9 : va_P D vwCl (wMo mx cI cZ w (nI nz) q d (nI nt) pr mw mt zo ke wy st tr be ch (nI (as1 (nI 1)))) H := hP
          have hD9 : va_D A (wMo mx cI cZ w (nI nz) q d (nI nt) pr mw mt zo ke wy st tr be ch (nI (as1 (nI 1)))) := hD
          have g_13 : sFree nz d cz P (nI zz) (nI jj) (as1 (nI 1)) ((d zz) - (nI 0)) := Or.inr ⟨⟨⟨zz, h_zz, rfl⟩, ⟨jj, h_jj, rfl⟩⟩, if_neg nI1, by rw [nIc (by omega), if_pos c_11]⟩
          exact W.iret (v := (d zz) - (nI 0)) hx hb hr (fun t9 ht9 hW9 => ⟨⟨(d zz) - (nI 0), ((d zz) - (nI 0), as1 (nI 1)), rfl, ⟨rfl, g_13⟩, by rw [ht9]; exact hP9, hD9⟩, hS.F ht9⟩) hS.2.2 dX8_free_63
      · exact absurd c_10 (by decide)
set_option maxHeartbeats 4000000 in
set_option maxRecDepth 100000 in
theorem c_X8_zones (l : Launch) (D : va_G) (cI cZ cQ cJ : ClassId) (mx : Nat → Nat) (w : Nat → Int32) (nz : Nat) (q : Nat → Int32) (d : Nat → Int32) (nt : Nat) (pr : Nat → Int32) (mw : Nat → Int32) (mt : Nat → Int32) (zo : Nat → Int32) (ke : Nat → Int32) (wy : Nat → Int32) (st : Nat → Int32) (tr : Nat → Int32) (be : Nat → Int32) (ch : Nat → Int32) (th : Int32) (sz : Nat)  : Met l yX8_zones (.code yX8_zones cX8_zones 1 (some .int) :: ALL) ({ frames := 1, cells := 0, slots := 0, locals := 21 } : Room) (va_Pc [.ref (mx 0)] (rw_P D cI cZ cQ cJ (wMo mx cI cZ w (nI nz) q d (nI nt) pr mw mt zo ke wy st tr be ch th) sz)) (va_Qi (fun (r9 : Int32) (u9 : Unit) => (r9 = (nI nz))) (rw_B D (va_A (wMo mx cI cZ w (nI nz) q d (nI nt) pr mw mt zo ke wy st tr be ch th) sz) (fun u9 : Unit => wMo mx cI cZ w (nI nz) q d (nI nt) pr mw mt zo ke wy st tr be ch (nI 0))) (va_A (wMo mx cI cZ w (nI nz) q d (nI nt) pr mw mt zo ke wy st tr be ch th) sz)) 0 0 (va_A (wMo mx cI cZ w (nI nz) q d (nI nt) pr mw mt zo ke wy st tr be ch th) sz) := by
  refine Met.ofW (cc := cX8_zones) (maxL := 1) (ret := (some .int)) (by decide) rfl ?_
  intro p e s m args below meth c s₁ B hml hv
  obtain ⟨rfl, hsz, hP, hSt, hD0⟩ := hv
  have hx := B.exec
  have hb := B.bytes
  have hr := B.returns
  have hts : ∀ w ∈ ALL, w.before ([.ref (mx 0)] : List Value).toArray s = true := fun w h => atoms_spec (ws := (.code yX8_zones cX8_zones 1 (some .int) :: ALL)) B.pre w (List.mem_cons_of_mem _ h)
  have hown : s.vm.findClass RX8 = some m.cls := findClass_of_methodNamed B.named
  have hlocks := B.notSynchronized
  subst hsz
  have hD := hD0.self (sz := s.heap.size)
  clear hD0
  generalize hAe : va_A (wMo mx cI cZ w (nI nz) q d (nI nt) pr mw mt zo ke wy st tr be ch th) s.heap.size = A at hD ⊢
  have hA : ∀ q : Nat, s.heap.size ≤ q → A q := fun q h => by rw [← hAe]; exact Or.inr h
  have hS : va_S A s.heap s.heap [] := va_S.rf
  have hl := lv_entry ([.ref (mx 0)]) (n := 1) (Nat.le_of_ble_eq_true rfl)
  rw [lg_entry_eq]
  generalize (lg_sl ([.ref (mx 0)]) ++ List.replicate (1 - (lg_sl ([.ref (mx 0)])).length) Slot.unset).toArray = ls at hl ⊢
  have hl : lv_has ls 1 [(0, .ref (mx 0))] := hl
  obtain ⟨H, hHe⟩ : ∃ H : Heap, H = s.heap := ⟨_, rfl⟩
  obtain ⟨locs, hLe⟩ : ∃ L : List Loc, L = [] := ⟨_, rfl⟩
  have hP : va_P D vwCl (wMo mx cI cZ w (nI nz) q d (nI nt) pr mw mt zo ke wy st tr be ch th) H := by rw [hHe]; exact hP
  have hS : va_S A s.heap H locs := by rw [hHe, hLe]; exact hS
  refine W.eqHL hHe hLe ?_
  refine lv_aload_n hx hb dX8_zones_0 rfl (lv_at hl 0 rfl) ?_
  refine lv_aload_n hx hb dX8_zones_1 rfl (lv_at hl 0 rfl) ?_
  refine va_get (D := D) (ci := 8) (v := .int (nI nz)) (C := RX8) (T := TX8) (N := 16) hx hb hts tu_X8 hown hSt.1 hP 0 rfl rfl 1 (by decide) (hts _ t3_221) (fun _ h9 => h9) rfl dX8_zones_2 ?_
  refine rw_i (wr := ([] : va_W)) (w_V (As := [.int (nI nz)]) ⟨hx, hb, hml, hown, hts⟩ (c_X8_told l D cI cZ cQ cJ mx w nz q d nt pr mw mt zo ke wy st tr be ch th (nI nz) H.size) (gV t4_163 t4_165 t0_38 t1_10 t4_166) rfl rfl hd_X8_told ⟨Nat.le_of_ble_eq_true rfl, Nat.le_of_ble_eq_true rfl⟩ (rw_pre hP hD hSt [0, 1, 2, 3, 4, 5, 6, 7, 8, 9, 10, 11, 12, 13] rfl (by decide)) (va_recv hSt.1 hP (ci := 8) (q0 := 0) rfl rfl) rfl hl.1 (rest := []) rfl (Nat.le_of_ble_eq_true rfl) dX8_zones_5 ⟨Nat.le_of_ble_eq_true rfl, Nat.le_of_ble_eq_true rfl⟩) hP hD hS hA [0, 1, 2, 3, 4, 5, 6, 7, 8, 9, 10, 11, 12, 13] [] rfl rfl (by decide) (by decide) (fun r_9 u_1 H locs hw9 hP hD hS => ?_)
  have er_9 := hw9
  replace er_9 := er_9.symm
  subst er_9
  have hP : va_P D vwCl (wMo mx cI cZ w (nI nz) q d (nI nt) pr mw mt zo ke wy st tr be ch (nI 0)) H := hP
  have hD : va_D A (wMo mx cI cZ w (nI nz) q d (nI nt) pr mw mt zo ke wy st tr be ch (nI 0)) := hD
  have hP9 : va_P D vwCl (wMo mx cI cZ w (nI nz) q d (nI nt) pr mw mt zo ke wy st tr be ch (nI 0)) H := hP
  have hD9 : va_D A (wMo mx cI cZ w (nI nz) q d (nI nt) pr mw mt zo ke wy st tr be ch (nI 0)) := hD
  exact W.iret (v := (nI nz)) hx hb hr (fun t9 ht9 hW9 => ⟨⟨(nI nz), (), rfl, rfl, by rw [ht9]; exact hP9, hD9⟩, hS.F ht9⟩) hS.2.2 dX8_zones_8
set_option maxHeartbeats 4000000 in
set_option maxRecDepth 100000 in
theorem c_X8_teams (l : Launch) (D : va_G) (cI cZ cQ cJ : ClassId) (mx : Nat → Nat) (w : Nat → Int32) (nz : Nat) (q : Nat → Int32) (d : Nat → Int32) (nt : Nat) (pr : Nat → Int32) (mw : Nat → Int32) (mt : Nat → Int32) (zo : Nat → Int32) (ke : Nat → Int32) (wy : Nat → Int32) (st : Nat → Int32) (tr : Nat → Int32) (be : Nat → Int32) (ch : Nat → Int32) (th : Int32) (sz : Nat)  : Met l yX8_teams (.code yX8_teams cX8_teams 1 (some .int) :: ALL) ({ frames := 1, cells := 0, slots := 0, locals := 21 } : Room) (va_Pc [.ref (mx 0)] (rw_P D cI cZ cQ cJ (wMo mx cI cZ w (nI nz) q d (nI nt) pr mw mt zo ke wy st tr be ch th) sz)) (va_Qi (fun (r9 : Int32) (u9 : Unit) => (r9 = (nI nt))) (rw_B D (va_A (wMo mx cI cZ w (nI nz) q d (nI nt) pr mw mt zo ke wy st tr be ch th) sz) (fun u9 : Unit => wMo mx cI cZ w (nI nz) q d (nI nt) pr mw mt zo ke wy st tr be ch (nI 0))) (va_A (wMo mx cI cZ w (nI nz) q d (nI nt) pr mw mt zo ke wy st tr be ch th) sz)) 0 0 (va_A (wMo mx cI cZ w (nI nz) q d (nI nt) pr mw mt zo ke wy st tr be ch th) sz) := by
  refine Met.ofW (cc := cX8_teams) (maxL := 1) (ret := (some .int)) (by decide) rfl ?_
  intro p e s m args below meth c s₁ B hml hv
  obtain ⟨rfl, hsz, hP, hSt, hD0⟩ := hv
  have hx := B.exec
  have hb := B.bytes
  have hr := B.returns
  have hts : ∀ w ∈ ALL, w.before ([.ref (mx 0)] : List Value).toArray s = true := fun w h => atoms_spec (ws := (.code yX8_teams cX8_teams 1 (some .int) :: ALL)) B.pre w (List.mem_cons_of_mem _ h)
  have hown : s.vm.findClass RX8 = some m.cls := findClass_of_methodNamed B.named
  have hlocks := B.notSynchronized
  subst hsz
  have hD := hD0.self (sz := s.heap.size)
  clear hD0
  generalize hAe : va_A (wMo mx cI cZ w (nI nz) q d (nI nt) pr mw mt zo ke wy st tr be ch th) s.heap.size = A at hD ⊢
  have hA : ∀ q : Nat, s.heap.size ≤ q → A q := fun q h => by rw [← hAe]; exact Or.inr h
  have hS : va_S A s.heap s.heap [] := va_S.rf
  have hl := lv_entry ([.ref (mx 0)]) (n := 1) (Nat.le_of_ble_eq_true rfl)
  rw [lg_entry_eq]
  generalize (lg_sl ([.ref (mx 0)]) ++ List.replicate (1 - (lg_sl ([.ref (mx 0)])).length) Slot.unset).toArray = ls at hl ⊢
  have hl : lv_has ls 1 [(0, .ref (mx 0))] := hl
  obtain ⟨H, hHe⟩ : ∃ H : Heap, H = s.heap := ⟨_, rfl⟩
  obtain ⟨locs, hLe⟩ : ∃ L : List Loc, L = [] := ⟨_, rfl⟩
  have hP : va_P D vwCl (wMo mx cI cZ w (nI nz) q d (nI nt) pr mw mt zo ke wy st tr be ch th) H := by rw [hHe]; exact hP
  have hS : va_S A s.heap H locs := by rw [hHe, hLe]; exact hS
  refine W.eqHL hHe hLe ?_
  refine lv_aload_n hx hb dX8_teams_0 rfl (lv_at hl 0 rfl) ?_
  refine lv_aload_n hx hb dX8_teams_1 rfl (lv_at hl 0 rfl) ?_
  refine va_get (D := D) (ci := 8) (v := .int (nI nt)) (C := RX8) (T := TX8) (N := 16) hx hb hts tu_X8 hown hSt.1 hP 0 rfl rfl 4 (by decide) (hts _ t3_224) (fun _ h9 => h9) rfl dX8_teams_2 ?_
  refine rw_i (wr := ([] : va_W)) (w_V (As := [.int (nI nt)]) ⟨hx, hb, hml, hown, hts⟩ (c_X8_told l D cI cZ cQ cJ mx w nz q d nt pr mw mt zo ke wy st tr be ch th (nI nt) H.size) (gV t4_163 t4_165 t0_38 t1_10 t4_166) rfl rfl hd_X8_told ⟨Nat.le_of_ble_eq_true rfl, Nat.le_of_ble_eq_true rfl⟩ (rw_pre hP hD hSt [0, 1, 2, 3, 4, 5, 6, 7, 8, 9, 10, 11, 12, 13] rfl (by decide)) (va_recv hSt.1 hP (ci := 8) (q0 := 0) rfl rfl) rfl hl.1 (rest := []) rfl (Nat.le_of_ble_eq_true rfl) dX8_teams_5 ⟨Nat.le_of_ble_eq_true rfl, Nat.le_of_ble_eq_true rfl⟩) hP hD hS hA [0, 1, 2, 3, 4, 5, 6, 7, 8, 9, 10, 11, 12, 13] [] rfl rfl (by decide) (by decide) (fun r_9 u_1 H locs hw9 hP hD hS => ?_)
  have er_9 := hw9
  replace er_9 := er_9.symm
  subst er_9
  have hP : va_P D vwCl (wMo mx cI cZ w (nI nz) q d (nI nt) pr mw mt zo ke wy st tr be ch (nI 0)) H := hP
  have hD : va_D A (wMo mx cI cZ w (nI nz) q d (nI nt) pr mw mt zo ke wy st tr be ch (nI 0)) := hD
  have hP9 : va_P D vwCl (wMo mx cI cZ w (nI nz) q d (nI nt) pr mw mt zo ke wy st tr be ch (nI 0)) H := hP
  have hD9 : va_D A (wMo mx cI cZ w (nI nz) q d (nI nt) pr mw mt zo ke wy st tr be ch (nI 0)) := hD
  exact W.iret (v := (nI nt)) hx hb hr (fun t9 ht9 hW9 => ⟨⟨(nI nt), (), rfl, rfl, by rw [ht9]; exact hP9, hD9⟩, hS.F ht9⟩) hS.2.2 dX8_teams_8
set_option maxHeartbeats 4000000 in
set_option maxRecDepth 100000 in
theorem c_X8_remember (l : Launch) (D : va_G) (cI cZ cQ cJ : ClassId) (mx : Nat → Nat) (w : Nat → Int32) (nz : Nat) (q : Nat → Int32) (d : Nat → Int32) (nt : Nat) (pr : Nat → Int32) (mw : Nat → Int32) (mt : Nat → Int32) (zo : Nat → Int32) (ke : Nat → Int32) (wy : Nat → Int32) (st : Nat → Int32) (tr : Nat → Int32) (be : Nat → Int32) (ch : Nat → Int32) (th : Int32) (sz : Nat) (hnt : nt ≤ 7) : Met l yX8_remember (.code yX8_remember cX8_remember 3 (some .int) :: ALL) ({ frames := 1, cells := 0, slots := 0, locals := 21 } : Room) (va_Pc [.ref (mx 0)] (rw_P D cI cZ cQ cJ (wMo mx cI cZ w (nI nz) q d (nI nt) pr mw mt zo ke wy st tr be ch th) sz)) (va_Qi (fun (r9 : Int32) (u9 : (Nat → Int32)) => (r9 = (nI (cnt (fun u9 => !decide (zo u9 = -1)) nt))) ∧ (∀ t, t < nt → u9 t = zo t) ∧ (∀ t, nt ≤ t → u9 t = ke t)) (rw_B D (va_A (wMo mx cI cZ w (nI nz) q d (nI nt) pr mw mt zo ke wy st tr be ch th) sz) (fun u9 : (Nat → Int32) => wMo mx cI cZ w (nI nz) q d (nI nt) pr mw mt zo u9 wy st tr be ch (nI 0))) (va_A (wMo mx cI cZ w (nI nz) q d (nI nt) pr mw mt zo ke wy st tr be ch th) sz)) 0 0 (va_A (wMo mx cI cZ w (nI nz) q d (nI nt) pr mw mt zo ke wy st tr be ch th) sz) := by
  refine Met.ofW (cc := cX8_remember) (maxL := 3) (ret := (some .int)) (by decide) rfl ?_
  intro p e s m args below meth c s₁ B hml hv
  obtain ⟨rfl, hsz, hP, hSt, hD0⟩ := hv
  have hx := B.exec
  have hb := B.bytes
  have hr := B.returns
  have hts : ∀ w ∈ ALL, w.before ([.ref (mx 0)] : List Value).toArray s = true := fun w h => atoms_spec (ws := (.code yX8_remember cX8_remember 3 (some .int) :: ALL)) B.pre w (List.mem_cons_of_mem _ h)
  have hown : s.vm.findClass RX8 = some m.cls := findClass_of_methodNamed B.named
  have hlocks := B.notSynchronized
  subst hsz
  have hD := hD0.self (sz := s.heap.size)
  clear hD0
  generalize hAe : va_A (wMo mx cI cZ w (nI nz) q d (nI nt) pr mw mt zo ke wy st tr be ch th) s.heap.size = A at hD ⊢
  have hA : ∀ q : Nat, s.heap.size ≤ q → A q := fun q h => by rw [← hAe]; exact Or.inr h
  have hS : va_S A s.heap s.heap [] := va_S.rf
  have hl := lv_entry ([.ref (mx 0)]) (n := 3) (Nat.le_of_ble_eq_true rfl)
  rw [lg_entry_eq]
  generalize (lg_sl ([.ref (mx 0)]) ++ List.replicate (3 - (lg_sl ([.ref (mx 0)])).length) Slot.unset).toArray = ls at hl ⊢
  have hl : lv_has ls 3 [(0, .ref (mx 0))] := hl
  obtain ⟨H, hHe⟩ : ∃ H : Heap, H = s.heap := ⟨_, rfl⟩
  obtain ⟨locs, hLe⟩ : ∃ L : List Loc, L = [] := ⟨_, rfl⟩
  have hP : va_P D vwCl (wMo mx cI cZ w (nI nz) q d (nI nt) pr mw mt zo ke wy st tr be ch th) H := by rw [hHe]; exact hP
  have hS : va_S A s.heap H locs := by rw [hHe, hLe]; exact hS
  refine W.eqHL hHe hLe ?_
  refine lv_iconst (v := nI 0) hx hb dX8_remember_0 (by decide) ?_
  refine lv_istore_n (lv' := [(1, .int (nI 0)), (0, .ref (mx 0))]) hx hb dX8_remember_1 rfl hl (by decide) rfl (fun ls hl => ?_)
  refine lv_iconst (v := nI 0) hx hb dX8_remember_2 (by decide) ?_
  refine lv_istore_n (lv' := [(2, .int (nI 0)), (1, .int (nI 0)), (0, .ref (mx 0))]) hx hb dX8_remember_3 rfl hl (by decide) rfl (fun ls hl => ?_)
  have L4 : ∀ (n9 : Nat) (i : Nat) (n1 : Nat) (k1 : Nat → Int32), (i ≤ nt) → (n1 = cnt (fun u9 => !decide (zo u9 = -1)) i) → (∀ t, t < i → k1 t = zo t) → (∀ t, i ≤ t → k1 t = ke t) → (nt - i) < n9 → ∀ (H : Heap) (locs : List Loc), va_P D vwCl (wMo mx cI cZ w (nI nz) q d (nI nt) pr mw mt zo k1 wy st tr be ch th) H → va_D A (wMo mx cI cZ w (nI nz) q d (nI nt) pr mw mt zo k1 wy st tr be ch th) → va_S A s.heap H locs → ∀ (ls : Array Slot), lv_has ls 3 [(0, .ref (mx 0)), (1, .int (nI n1)), (2, .int (nI i))] → W p l e ({ frames := 1, cells := 0, slots := 0, locals := 21 } : Room) s m ([.ref (mx 0)] : List Value).toArray below meth c H locs 0 0 (MQ below (va_Qi (fun (r9 : Int32) (u9 : (Nat → Int32)) => (r9 = (nI (cnt (fun u9 => !decide (zo u9 = -1)) nt))) ∧ (∀ t, t < nt → u9 t = zo t) ∧ (∀ t, nt ≤ t → u9 t = ke t)) (rw_B D A (fun u9 : (Nat → Int32) => wMo mx cI cZ w (nI nz) q d (nI nt) pr mw mt zo u9 wy st tr be ch (nI 0))) A) ([.ref (mx 0)] : List Value).toArray s 0 0 A) (F0 m 4 ls []) := by
    intro n9
    induction n9 with
    | zero =>
      intro i n1 k1 hi hn1 ha hb9 hm
      exact absurd hm (by omega)
    | succ n9 ih =>
      intro i n1 k1 hi hn1 ha hb9 hm H locs hP hD hS ls hl
      have ih_L4 := ih
      refine lv_iload_n hx hb dX8_remember_4 rfl (lv_at hl 2 rfl) ?_
      refine lv_aload_n hx hb dX8_remember_5 rfl (lv_at hl 0 rfl) ?_
      refine va_get (D := D) (ci := 8) (v := .int (nI nt)) (C := RX8) (T := TX8) (N := 16) hx hb hts tu_X8 hown hSt.1 hP 0 rfl rfl 4 (by decide) (hts _ t3_224) (fun _ h9 => h9) rfl dX8_remember_6 ?_
      refine lv_icmp_ge (tgt := 48) hx hb dX8_remember_9 (by decide) (fun c_1 => ?_) (fun c_1 => ?_)
      · have c_1 := z_le (by omega) (by omega) c_1
        refine lv_aload_n hx hb dX8_remember_48 rfl (lv_at hl 0 rfl) ?_
        refine lv_iload_n hx hb dX8_remember_49 rfl (lv_at hl 1 rfl) ?_
        refine rw_i (wr := ([] : va_W)) (w_V (As := [.int (nI n1)]) ⟨hx, hb, hml, hown, hts⟩ (c_X8_told l D cI cZ cQ cJ mx w nz q d nt pr mw mt zo k1 wy st tr be ch th (nI n1) H.size) (gV t4_163 t4_165 t0_38 t1_10 t4_166) rfl rfl hd_X8_told ⟨Nat.le_of_ble_eq_true rfl, Nat.le_of_ble_eq_true rfl⟩ (rw_pre hP hD hSt [0, 1, 2, 3, 4, 5, 6, 7, 8, 9, 10, 11, 12, 13] rfl (by decide)) (va_recv hSt.1 hP (ci := 8) (q0 := 0) rfl rfl) rfl hl.1 (rest := []) rfl (Nat.le_of_ble_eq_true rfl) dX8_remember_50 ⟨Nat.le_of_ble_eq_true rfl, Nat.le_of_ble_eq_true rfl⟩) hP hD hS hA [0, 1, 2, 3, 4, 5, 6, 7, 8, 9, 10, 11, 12, 13] [] rfl rfl (by decide) (by decide) (fun r_9 u_2 H locs hw9 hP hD hS => ?_)
        have er_9 := hw9
        replace er_9 := er_9.symm
        subst er_9
        have hP : va_P D vwCl (wMo mx cI cZ w (nI nz) q d (nI nt) pr mw mt zo k1 wy st tr be ch (nI 0)) H := hP
        have hD : va_D A (wMo mx cI cZ w (nI nz) q d (nI nt) pr mw mt zo k1 wy st tr be ch (nI 0)) := hD
        have hP9 : va_P D vwCl (wMo mx cI cZ w (nI nz) q d (nI nt) pr mw mt zo k1 wy st tr be ch (nI 0)) H := hP
        have hD9 : va_D A (wMo mx cI cZ w (nI nz) q d (nI nt) pr mw mt zo k1 wy st tr be ch (nI 0)) := hD
        have g_3 : ∀ t, t < nt → k1 t = zo t := fun t ht => ha t (by omega)
        have g_4 : ∀ t, nt ≤ t → k1 t = ke t := fun t ht => hb9 t (by omega)
        exact W.iret (v := (nI n1)) hx hb hr (fun t9 ht9 hW9 => ⟨⟨(nI n1), (k1), rfl, ⟨by rw [hn1, show i = nt by omega], g_3, g_4⟩, by rw [ht9]; exact hP9, hD9⟩, hS.F ht9⟩) hS.2.2 dX8_remember_53
      · have c_1 := z_nle (by omega) (by omega) c_1
        refine lv_aload_n hx hb dX8_remember_12 rfl (lv_at hl 0 rfl) ?_
        refine va_get (D := D) (ci := 8) (v := .ref (mx 8)) (C := RX8) (T := TX8) (N := 16) hx hb hts tu_X8 hown hSt.1 hP 0 rfl rfl 9 (by decide) (hts _ t3_229) (fun _ h9 => h9) rfl dX8_remember_13 ?_
        refine lv_iload_n hx hb dX8_remember_16 rfl (lv_at hl 2 rfl) ?_
        refine lv_aload_n hx hb dX8_remember_17 rfl (lv_at hl 0 rfl) ?_
        refine va_get (D := D) (ci := 8) (v := .ref (mx 7)) (C := RX8) (T := TX8) (N := 16) hx hb hts tu_X8 hown hSt.1 hP 0 rfl rfl 8 (by decide) (hts _ t3_228) (fun _ h9 => h9) rfl dX8_remember_18 ?_
        refine lv_iload_n hx hb dX8_remember_21 rfl (lv_at hl 2 rfl) ?_
        refine r_iald hx hb hSt.1 hP 7 0 rfl rfl (k := i) (by omega) (by omega) dX8_remember_22 ?_
        refine r_iast hx hb hSt.1 hP hD hS 8 0 rfl rfl (k := i) (by omega) (by omega) dX8_remember_23 (fun H locs hP hD hS => ?_)
        have hP : va_P D vwCl (wMo mx cI cZ w (nI nz) q d (nI nt) pr mw mt zo (upd k1 i (zo i)) wy st tr be ch th) H := hP
        have hD : va_D A (wMo mx cI cZ w (nI nz) q d (nI nt) pr mw mt zo (upd k1 i (zo i)) wy st tr be ch th) := hD
        refine lv_iload_n hx hb dX8_remember_24 rfl (lv_at hl 1 rfl) ?_
        refine lv_aload_n hx hb dX8_remember_25 rfl (lv_at hl 0 rfl) ?_
        refine va_get (D := D) (ci := 8) (v := .ref (mx 7)) (C := RX8) (T := TX8) (N := 16) hx hb hts tu_X8 hown hSt.1 hP 0 rfl rfl 8 (by decide) (hts _ t3_228) (fun _ h9 => h9) rfl dX8_remember_26 ?_
        refine lv_iload_n hx hb dX8_remember_29 rfl (lv_at hl 2 rfl) ?_
        refine r_iald hx hb hSt.1 hP 7 0 rfl rfl (k := i) (by omega) (by omega) dX8_remember_30 ?_
        refine lv_iconst (v := (-1 : Int32)) hx hb dX8_remember_31 (by decide) ?_
        refine lv_icmp_ne (tgt := 39) hx hb dX8_remember_32 (by decide) (fun c_5 => ?_) (fun c_5 => ?_)
        · refine lv_iconst (v := nI 1) hx hb dX8_remember_39 (by decide) ?_
          refine r_addn hx hb dX8_remember_40 ?_
          refine lv_istore_n (lv' := [(1, .int (nI (n1 + 1))), (0, .ref (mx 0)), (2, .int (nI i))]) hx hb dX8_remember_41 rfl hl (by decide) rfl (fun ls hl => ?_)
          refine lv_iinc (v := nI (i + 1)) (lv' := [(2, .int (nI (i + 1))), (1, .int (nI (n1 + 1))), (0, .ref (mx 0))]) hx hb dX8_remember_42 hl (k := 2) rfl (z_inc _) (by decide) rfl (fun ls hl => ?_)
          refine lv_goto (tgt := 4) hx hb dX8_remember_45 (by decide) ?_
          exact ih_L4 (i + 1) (n1 + 1) (upd k1 i (zo i)) (by omega) (cntN_s hn1 (by simp [c_5])) (fun t ht => if e : t = i then (by rw [e, pk_us]) else (by rw [pk_un e]; exact ha t (by omega))) (fun t ht => by rw [pk_un (show t ≠ i by omega)]; exact hb9 t (by omega)) (by omega) _ _ hP hD hS _ (lv_sub hl [2, 1, 0] rfl)
        · refine lv_iconst (v := nI 0) hx hb dX8_remember_35 (by decide) ?_
          refine lv_goto (tgt := 40) hx hb dX8_remember_36 (by decide) ?_
          refine r_addn hx hb dX8_remember_40 ?_
          refine lv_istore_n (lv' := [(1, .int (nI (n1 + 0))), (0, .ref (mx 0)), (2, .int (nI i))]) hx hb dX8_remember_41 rfl hl (by decide) rfl (fun ls hl => ?_)
          refine lv_iinc (v := nI (i + 1)) (lv' := [(2, .int (nI (i + 1))), (1, .int (nI (n1 + 0))), (0, .ref (mx 0))]) hx hb dX8_remember_42 hl (k := 2) rfl (z_inc _) (by decide) rfl (fun ls hl => ?_)
          refine lv_goto (tgt := 4) hx hb dX8_remember_45 (by decide) ?_
          exact ih_L4 (i + 1) (n1 + 0) (upd k1 i (zo i)) (by omega) (cntN_n hn1 (by simp [c_5])) (fun t ht => if e : t = i then (by rw [e, pk_us]) else (by rw [pk_un e]; exact ha t (by omega))) (fun t ht => by rw [pk_un (show t ≠ i by omega)]; exact hb9 t (by omega)) (by omega) _ _ hP hD hS _ (lv_sub hl [2, 1, 0] rfl)
  exact L4 _ 0 0 ke (by omega) rfl (fun t ht => absurd ht (by omega)) (fun t _ => rfl) (Nat.lt_succ_self _) _ _ hP hD hS _ (lv_sub hl [2, 1, 0] rfl)
set_option maxHeartbeats 4000000 in
set_option maxRecDepth 100000 in
theorem c_X8_recall (l : Launch) (D : va_G) (cI cZ cQ cJ : ClassId) (mx : Nat → Nat) (w : Nat → Int32) (nz : Nat) (q : Nat → Int32) (d : Nat → Int32) (nt : Nat) (pr : Nat → Int32) (mw : Nat → Int32) (mt : Nat → Int32) (zo : Nat → Int32) (ke : Nat → Int32) (wy : Nat → Int32) (st : Nat → Int32) (tr : Nat → Int32) (be : Nat → Int32) (ch : Nat → Int32) (th : Int32) (pp : Nat → Nat → Nat) (n : Nat → Int32) (g : Nat → Nat) (cz : Nat → Int32) (gk : Nat → Nat) (sz : Nat) (hnz : nz ≤ 7) (hnt : nt ≤ 7) (hpr : ∀ t, t < nt → ∀ j, j < 5 → pr (5 * t + j) = nI (pp t j) ∧ pp t j ≤ 60) (hnn : ∀ t, t < nt → n t = nI (ndN (pp t))) (hzo : pOK nt zo g) (hcz : pOK 7 cz g) (hvg : vG nz nt g) (hke : pOK 7 ke gk) (hvk : vG nz nt gk) : Met l yX8_recall (.code yX8_recall cX8_recall 4 (some .int) :: ALL) ({ frames := 2, cells := 0, slots := 0, locals := 45 } : Room) (va_Pc [.ref (mx 0)] (rw_P D cI cZ cQ cJ (wMo mx cI cZ w (nI nz) q d (nI nt) pr mw mt zo ke wy st tr be ch th) sz)) (va_Qi (fun (r9 : Int32) (u9 : Int32 × Nat × (Nat → Int32) × (Nat → Nat)) => (r9 = u9.1) ∧ (sRecall nt n d g gk u9.2.1 u9.1 u9.2.2.2) ∧ (pOK nt u9.2.2.1 u9.2.2.2)) (rw_B D (va_A (wMo mx cI cZ w (nI nz) q d (nI nt) pr mw mt zo ke wy st tr be ch th) sz) (fun u9 : Int32 × Nat × (Nat → Int32) × (Nat → Nat) => wMo mx cI cZ w (nI nz) q d (nI nt) pr mw mt u9.2.2.1 ke wy st tr be ch (nI u9.2.1))) (va_A (wMo mx cI cZ w (nI nz) q d (nI nt) pr mw mt zo ke wy st tr be ch th) sz)) 0 0 (va_A (wMo mx cI cZ w (nI nz) q d (nI nt) pr mw mt zo ke wy st tr be ch th) sz) := by
  refine Met.ofW (cc := cX8_recall) (maxL := 4) (ret := (some .int)) (by decide) rfl ?_
  intro p e s m args below meth c s₁ B hml hv
  obtain ⟨rfl, hsz, hP, hSt, hD0⟩ := hv
  have hx := B.exec
  have hb := B.bytes
  have hr := B.returns
  have hts : ∀ w ∈ ALL, w.before ([.ref (mx 0)] : List Value).toArray s = true := fun w h => atoms_spec (ws := (.code yX8_recall cX8_recall 4 (some .int) :: ALL)) B.pre w (List.mem_cons_of_mem _ h)
  have hown : s.vm.findClass RX8 = some m.cls := findClass_of_methodNamed B.named
  have hlocks := B.notSynchronized
  subst hsz
  have hD := hD0.self (sz := s.heap.size)
  clear hD0
  generalize hAe : va_A (wMo mx cI cZ w (nI nz) q d (nI nt) pr mw mt zo ke wy st tr be ch th) s.heap.size = A at hD ⊢
  have hA : ∀ q : Nat, s.heap.size ≤ q → A q := fun q h => by rw [← hAe]; exact Or.inr h
  have hS : va_S A s.heap s.heap [] := va_S.rf
  have hl := lv_entry ([.ref (mx 0)]) (n := 4) (Nat.le_of_ble_eq_true rfl)
  rw [lg_entry_eq]
  generalize (lg_sl ([.ref (mx 0)]) ++ List.replicate (4 - (lg_sl ([.ref (mx 0)])).length) Slot.unset).toArray = ls at hl ⊢
  have hl : lv_has ls 4 [(0, .ref (mx 0))] := hl
  obtain ⟨H, hHe⟩ : ∃ H : Heap, H = s.heap := ⟨_, rfl⟩
  obtain ⟨locs, hLe⟩ : ∃ L : List Loc, L = [] := ⟨_, rfl⟩
  have hP : va_P D vwCl (wMo mx cI cZ w (nI nz) q d (nI nt) pr mw mt zo ke wy st tr be ch th) H := by rw [hHe]; exact hP
  have hS : va_S A s.heap H locs := by rw [hHe, hLe]; exact hS
  refine W.eqHL hHe hLe ?_
  refine lv_iconst (v := nI 1) hx hb dX8_recall_0 (by decide) ?_
  refine lv_istore_n (lv' := [(1, .int (nI 1)), (0, .ref (mx 0))]) hx hb dX8_recall_1 rfl hl (by decide) rfl (fun ls hl => ?_)
  refine lv_iconst (v := nI 0) hx hb dX8_recall_2 (by decide) ?_
  refine lv_istore_n (lv' := [(2, .int (nI 0)), (1, .int (nI 1)), (0, .ref (mx 0))]) hx hb dX8_recall_3 rfl hl (by decide) rfl (fun ls hl => ?_)
  have L4 : ∀ (n9 : Nat) (i : Nat) (c9 : Int32), (i ≤ nt) → ((c9 = 1 ∧ ∀ t, t < i → (gk t = 7 ∨ n t ≤ d (gk t))) ∨ (c9 = 0 ∧ ¬ ∀ t, t < i → (gk t = 7 ∨ n t ≤ d (gk t)))) → (nt - i) < n9 → ∀ (H : Heap) (locs : List Loc), va_P D vwCl (wMo mx cI cZ w (nI nz) q d (nI nt) pr mw mt zo ke wy st tr be ch th) H → va_D A (wMo mx cI cZ w (nI nz) q d (nI nt) pr mw mt zo ke wy st tr be ch th) → va_S A s.heap H locs → ∀ (ls : Array Slot), lv_has ls 4 [(0, .ref (mx 0)), (1, .int c9), (2, .int (nI i))] → W p l e ({ frames := 2, cells := 0, slots := 0, locals := 45 } : Room) s m ([.ref (mx 0)] : List Value).toArray below meth c H locs 0 0 (MQ below (va_Qi (fun (r9 : Int32) (u9 : Int32 × Nat × (Nat → Int32) × (Nat → Nat)) => (r9 = u9.1) ∧ (sRecall nt n d g gk u9.2.1 u9.1 u9.2.2.2) ∧ (pOK nt u9.2.2.1 u9.2.2.2)) (rw_B D A (fun u9 : Int32 × Nat × (Nat → Int32) × (Nat → Nat) => wMo mx cI cZ w (nI nz) q d (nI nt) pr mw mt u9.2.2.1 ke wy st tr be ch (nI u9.2.1))) A) ([.ref (mx 0)] : List Value).toArray s 0 0 A) (F0 m 4 ls []) := by
    intro n9
    induction n9 with
    | zero =>
      intro i c9 hi hc9 hm
      exact absurd hm (by omega)
    | succ n9 ih =>
      intro i c9 hi hc9 hm H locs hP hD hS ls hl
      have ih_L4 := ih
      refine lv_iload_n hx hb dX8_recall_4 rfl (lv_at hl 2 rfl) ?_
      refine lv_aload_n hx hb dX8_recall_5 rfl (lv_at hl 0 rfl) ?_
      refine va_get (D := D) (ci := 8) (v := .int (nI nt)) (C := RX8) (T := TX8) (N := 16) hx hb hts tu_X8 hown hSt.1 hP 0 rfl rfl 4 (by decide) (hts _ t3_224) (fun _ h9 => h9) rfl dX8_recall_6 ?_
      refine lv_icmp_ge (tgt := 52) hx hb dX8_recall_9 (by decide) (fun c_1 => ?_) (fun c_1 => ?_)
      · have c_1 := z_le (by omega) (by omega) c_1
        refine lv_aload_n hx hb dX8_recall_52 rfl (lv_at hl 0 rfl) ?_
        refine lv_iload_n hx hb dX8_recall_53 rfl (lv_at hl 1 rfl) ?_
        refine rw_i (wr := ([] : va_W)) (w_V (As := [.int c9]) ⟨hx, hb, hml, hown, hts⟩ (c_X8_asked l D cI cZ cQ cJ mx w nz q d nt pr mw mt zo ke wy st tr be ch th c9 H.size (by rcases hc9 with q9 | q9; exact Or.inr q9.1; exact Or.inl q9.1)) (gV t4_79 t4_81 t0_25 t1_10 t4_82) rfl rfl hd_X8_asked ⟨Nat.le_of_ble_eq_true rfl, Nat.le_of_ble_eq_true rfl⟩ (rw_pre hP hD hSt [0, 1, 2, 3, 4, 5, 6, 7, 8, 9, 10, 11, 12, 13] rfl (by decide)) (va_recv hSt.1 hP (ci := 8) (q0 := 0) rfl rfl) rfl hl.1 (rest := []) rfl (Nat.le_of_ble_eq_true rfl) dX8_recall_54 ⟨Nat.le_of_ble_eq_true rfl, Nat.le_of_ble_eq_true rfl⟩) hP hD hS hA [0, 1, 2, 3, 4, 5, 6, 7, 8, 9, 10, 11, 12, 13] [] rfl rfl (by decide) (by decide) (fun r_9 u_2 H locs hw9 hP hD hS => ?_)
        have er_9 := hw9
        replace er_9 := er_9.symm
        subst er_9
        have hP : va_P D vwCl (wMo mx cI cZ w (nI nz) q d (nI nt) pr mw mt zo ke wy st tr be ch (nI (as1 c9))) H := hP
        have hD : va_D A (wMo mx cI cZ w (nI nz) q d (nI nt) pr mw mt zo ke wy st tr be ch (nI (as1 c9))) := hD
        refine lv_if_ne (tgt := 62) hx hb dX8_recall_57 (by decide) (fun c_3 => ?_) (fun c_3 => ?_)
        · have hallc : ∀ t, t < nt → (gk t = 7 ∨ n t ≤ d (gk t)) := fun t ht => hc9.elim (fun q9 => q9.2 t (by omega)) (fun q9 => absurd q9.1 c_3)
          refine lv_iconst (v := nI 0) hx hb dX8_recall_62 (by decide) ?_
          refine lv_istore_n (lv' := [(2, .int (nI 0)), (0, .ref (mx 0)), (1, .int c9)]) hx hb dX8_recall_63 rfl hl (by decide) rfl (fun ls hl => ?_)
          refine lv_iconst (v := nI 0) hx hb dX8_recall_64 (by decide) ?_
          refine lv_istore_n (lv' := [(3, .int (nI 0)), (2, .int (nI 0)), (0, .ref (mx 0)), (1, .int c9)]) hx hb dX8_recall_65 rfl hl (by decide) rfl (fun ls hl => ?_)
          have L66 : ∀ (n9 : Nat) (i : Nat) (n1 : Nat) (z1 : Nat → Int32), (i ≤ nt) → (n1 = cnt (fun u9 => !decide (zo u9 = ke u9)) i) → (∀ t, t < i → z1 t = ke t) → (∀ t, i ≤ t → z1 t = zo t) → (nt - i) < n9 → ∀ (H : Heap) (locs : List Loc), va_P D vwCl (wMo mx cI cZ w (nI nz) q d (nI nt) pr mw mt z1 ke wy st tr be ch (nI (as1 c9))) H → va_D A (wMo mx cI cZ w (nI nz) q d (nI nt) pr mw mt z1 ke wy st tr be ch (nI (as1 c9))) → va_S A s.heap H locs → ∀ (ls : Array Slot), lv_has ls 4 [(0, .ref (mx 0)), (2, .int (nI n1)), (3, .int (nI i))] → W p l e ({ frames := 2, cells := 0, slots := 0, locals := 45 } : Room) s m ([.ref (mx 0)] : List Value).toArray below meth c H locs 0 0 (MQ below (va_Qi (fun (r9 : Int32) (u9 : Int32 × Nat × (Nat → Int32) × (Nat → Nat)) => (r9 = u9.1) ∧ (sRecall nt n d g gk u9.2.1 u9.1 u9.2.2.2) ∧ (pOK nt u9.2.2.1 u9.2.2.2)) (rw_B D A (fun u9 : Int32 × Nat × (Nat → Int32) × (Nat → Nat) => wMo mx cI cZ w (nI nz) q d (nI nt) pr mw mt u9.2.2.1 ke wy st tr be ch (nI u9.2.1))) A) ([.ref (mx 0)] : List Value).toArray s 0 0 A) (F0 m 66 ls []) := by
            intro n9
            induction n9 with
            | zero =>
              intro i n1 z1 hi hn1 ha hb9 hm
              exact absurd hm (by omega)
            | succ n9 ih =>
              intro i n1 z1 hi hn1 ha hb9 hm H locs hP hD hS ls hl
              have ih_L66 := ih
              refine lv_iload_n hx hb dX8_recall_66 rfl (lv_at hl 2 rfl) ?_
              refine lv_aload_n hx hb dX8_recall_67 rfl (lv_at hl 0 rfl) ?_
              refine va_get (D := D) (ci := 8) (v := .int (nI nt)) (C := RX8) (T := TX8) (N := 16) hx hb hts tu_X8 hown hSt.1 hP 0 rfl rfl 4 (by decide) (hts _ t3_224) (fun _ h9 => h9) rfl dX8_recall_68 ?_
              refine lv_icmp_ge (tgt := 115) hx hb dX8_recall_71 (by decide) (fun c_4 => ?_) (fun c_4 => ?_)
              · have c_4 := z_le (by omega) (by omega) c_4
                refine lv_iload_n hx hb dX8_recall_115 rfl (lv_at hl 1 rfl) ?_
                have hP9 : va_P D vwCl (wMo mx cI cZ w (nI nz) q d (nI nt) pr mw mt z1 ke wy st tr be ch (nI (as1 c9))) H := hP
                have hD9 : va_D A (wMo mx cI cZ w (nI nz) q d (nI nt) pr mw mt z1 ke wy st tr be ch (nI (as1 c9))) := hD
                have g_5 : sRecall nt n d g gk (as1 c9) (nI n1) gk := Or.inr ⟨hallc, if_neg c_3, by rw [hn1, show i = nt by omega, cnt_o2 hzo (fun t ht => hke t (by omega)) (fun t ht => vG_7 hvg hnz t (by omega)) (fun t ht => vG_7 hvk hnz t (by omega))], rfl⟩
                have g_6 : pOK nt z1 gk := fun t ht => by rw [ha t (by omega)]; exact hke t (by omega)
                exact W.iret (v := nI n1) hx hb hr (fun t9 ht9 hW9 => ⟨⟨nI n1, (nI n1, as1 c9, z1, gk), rfl, ⟨rfl, g_5, g_6⟩, by rw [ht9]; exact hP9, hD9⟩, hS.F ht9⟩) hS.2.2 dX8_recall_116
              · have c_4 := z_nle (by omega) (by omega) c_4
                refine lv_iload_n hx hb dX8_recall_74 rfl (lv_at hl 1 rfl) ?_
                refine lv_aload_n hx hb dX8_recall_75 rfl (lv_at hl 0 rfl) ?_
                refine va_get (D := D) (ci := 8) (v := .ref (mx 7)) (C := RX8) (T := TX8) (N := 16) hx hb hts tu_X8 hown hSt.1 hP 0 rfl rfl 8 (by decide) (hts _ t3_228) (fun _ h9 => h9) rfl dX8_recall_76 ?_
                refine lv_iload_n hx hb dX8_recall_79 rfl (lv_at hl 2 rfl) ?_
                refine r_iald hx hb hSt.1 hP 7 0 rfl rfl (k := i) (by omega) (by omega) dX8_recall_80 ?_
                refine lv_as (y := zo i) (hb9 i (by omega)) ?_
                refine lv_aload_n hx hb dX8_recall_81 rfl (lv_at hl 0 rfl) ?_
                refine va_get (D := D) (ci := 8) (v := .ref (mx 8)) (C := RX8) (T := TX8) (N := 16) hx hb hts tu_X8 hown hSt.1 hP 0 rfl rfl 9 (by decide) (hts _ t3_229) (fun _ h9 => h9) rfl dX8_recall_82 ?_
                refine lv_iload_n hx hb dX8_recall_85 rfl (lv_at hl 2 rfl) ?_
                refine r_iald hx hb hSt.1 hP 8 0 rfl rfl (k := i) (by omega) (by omega) dX8_recall_86 ?_
                refine lv_icmp_ne (tgt := 94) hx hb dX8_recall_87 (by decide) (fun c_7 => ?_) (fun c_7 => ?_)
                · refine lv_iconst (v := nI 1) hx hb dX8_recall_94 (by decide) ?_
                  refine r_addn hx hb dX8_recall_95 ?_
                  refine lv_istore_n (lv' := [(2, .int (nI (n1 + 1))), (0, .ref (mx 0)), (3, .int (nI i))]) hx hb dX8_recall_96 rfl hl (by decide) rfl (fun ls hl => ?_)
                  refine lv_aload_n hx hb dX8_recall_97 rfl (lv_at hl 1 rfl) ?_
                  refine va_get (D := D) (ci := 8) (v := .ref (mx 7)) (C := RX8) (T := TX8) (N := 16) hx hb hts tu_X8 hown hSt.1 hP 0 rfl rfl 8 (by decide) (hts _ t3_228) (fun _ h9 => h9) rfl dX8_recall_98 ?_
                  refine lv_iload_n hx hb dX8_recall_101 rfl (lv_at hl 2 rfl) ?_
                  refine lv_aload_n hx hb dX8_recall_102 rfl (lv_at hl 1 rfl) ?_
                  refine va_get (D := D) (ci := 8) (v := .ref (mx 8)) (C := RX8) (T := TX8) (N := 16) hx hb hts tu_X8 hown hSt.1 hP 0 rfl rfl 9 (by decide) (hts _ t3_229) (fun _ h9 => h9) rfl dX8_recall_103 ?_
                  refine lv_iload_n hx hb dX8_recall_106 rfl (lv_at hl 2 rfl) ?_
                  refine r_iald hx hb hSt.1 hP 8 0 rfl rfl (k := i) (by omega) (by omega) dX8_recall_107 ?_
                  refine r_iast hx hb hSt.1 hP hD hS 7 0 rfl rfl (k := i) (by omega) (by omega) dX8_recall_108 (fun H locs hP hD hS => ?_)
                  have hP : va_P D vwCl (wMo mx cI cZ w (nI nz) q d (nI nt) pr mw mt (upd z1 i (ke i)) ke wy st tr be ch (nI (as1 c9))) H := hP
                  have hD : va_D A (wMo mx cI cZ w (nI nz) q d (nI nt) pr mw mt (upd z1 i (ke i)) ke wy st tr be ch (nI (as1 c9))) := hD
                  refine lv_iinc (v := nI (i + 1)) (lv' := [(3, .int (nI (i + 1))), (2, .int (nI (n1 + 1))), (0, .ref (mx 0))]) hx hb dX8_recall_109 hl (k := 2) rfl (z_inc _) (by decide) rfl (fun ls hl => ?_)
                  refine lv_goto (tgt := 66) hx hb dX8_recall_112 (by decide) ?_
                  exact ih_L66 (i + 1) (n1 + 1) (upd z1 i (ke i)) (by omega) (cntN_s hn1 (by simp [c_7])) (fun t ht => if e : t = i then (by rw [e, pk_us]) else (by rw [pk_un e]; exact ha t (by omega))) (fun t ht => by rw [pk_un (show t ≠ i by omega)]; exact hb9 t (by omega)) (by omega) _ _ hP hD hS _ (lv_sub hl [2, 1, 0] rfl)
                · refine lv_iconst (v := nI 0) hx hb dX8_recall_90 (by decide) ?_
                  refine lv_goto (tgt := 95) hx hb dX8_recall_91 (by decide) ?_
                  refine r_addn hx hb dX8_recall_95 ?_
                  refine lv_istore_n (lv' := [(2, .int (nI (n1 + 0))), (0, .ref (mx 0)), (3, .int (nI i))]) hx hb dX8_recall_96 rfl hl (by decide) rfl (fun ls hl => ?_)
                  refine lv_aload_n hx hb dX8_recall_97 rfl (lv_at hl 1 rfl) ?_
                  refine va_get (D := D) (ci := 8) (v := .ref (mx 7)) (C := RX8) (T := TX8) (N := 16) hx hb hts tu_X8 hown hSt.1 hP 0 rfl rfl 8 (by decide) (hts _ t3_228) (fun _ h9 => h9) rfl dX8_recall_98 ?_
                  refine lv_iload_n hx hb dX8_recall_101 rfl (lv_at hl 2 rfl) ?_
                  refine lv_aload_n hx hb dX8_recall_102 rfl (lv_at hl 1 rfl) ?_
                  refine va_get (D := D) (ci := 8) (v := .ref (mx 8)) (C := RX8) (T := TX8) (N := 16) hx hb hts tu_X8 hown hSt.1 hP 0 rfl rfl 9 (by decide) (hts _ t3_229) (fun _ h9 => h9) rfl dX8_recall_103 ?_
                  refine lv_iload_n hx hb dX8_recall_106 rfl (lv_at hl 2 rfl) ?_
                  refine r_iald hx hb hSt.1 hP 8 0 rfl rfl (k := i) (by omega) (by omega) dX8_recall_107 ?_
                  refine r_iast hx hb hSt.1 hP hD hS 7 0 rfl rfl (k := i) (by omega) (by omega) dX8_recall_108 (fun H locs hP hD hS => ?_)
                  have hP : va_P D vwCl (wMo mx cI cZ w (nI nz) q d (nI nt) pr mw mt (upd z1 i (ke i)) ke wy st tr be ch (nI (as1 c9))) H := hP
                  have hD : va_D A (wMo mx cI cZ w (nI nz) q d (nI nt) pr mw mt (upd z1 i (ke i)) ke wy st tr be ch (nI (as1 c9))) := hD
                  refine lv_iinc (v := nI (i + 1)) (lv' := [(3, .int (nI (i + 1))), (2, .int (nI (n1 + 0))), (0, .ref (mx 0))]) hx hb dX8_recall_109 hl (k := 2) rfl (z_inc _) (by decide) rfl (fun ls hl => ?_)
                  refine lv_goto (tgt := 66) hx hb dX8_recall_112 (by decide) ?_
                  exact ih_L66 (i + 1) (n1 + 0) (upd z1 i (ke i)) (by omega) (cntN_n hn1 (by simp [c_7])) (fun t ht => if e : t = i then (by rw [e, pk_us]) else (by rw [pk_un e]; exact ha t (by omega))) (fun t ht => by rw [pk_un (show t ≠ i by omega)]; exact hb9 t (by omega)) (by omega) _ _ hP hD hS _ (lv_sub hl [2, 1, 0] rfl)
          exact L66 _ 0 0 zo (by omega) rfl (fun t ht => absurd ht (by omega)) (fun t _ => rfl) (Nat.lt_succ_self _) _ _ hP hD hS _ (lv_sub hl [2, 1, 0] rfl)
        · refine lv_iconst (v := nI 0) hx hb dX8_recall_60 (by decide) ?_
          have hP9 : va_P D vwCl (wMo mx cI cZ w (nI nz) q d (nI nt) pr mw mt zo ke wy st tr be ch (nI (as1 c9))) H := hP
          have hD9 : va_D A (wMo mx cI cZ w (nI nz) q d (nI nt) pr mw mt zo ke wy st tr be ch (nI (as1 c9))) := hD
          have g_8 : sRecall nt n d g gk (as1 c9) (nI 0) g := Or.inl ⟨fun q9 => hc9.elim (fun q8 => absurd (q8.1.symm.trans c_3) (by decide)) (fun q8 => q8.2 (fun t ht => q9 t (by omega))), as1_1 c_3, rfl⟩
          have g_9 : pOK nt zo g := hzo
          exact W.iret (v := nI 0) hx hb hr (fun t9 ht9 hW9 => ⟨⟨nI 0, (nI 0, as1 c9, zo, g), rfl, ⟨rfl, g_8, g_9⟩, by rw [ht9]; exact hP9, hD9⟩, hS.F ht9⟩) hS.2.2 dX8_recall_61
      · have c_1 := z_nle (by omega) (by omega) c_1
        refine lv_iload_n hx hb dX8_recall_12 rfl (lv_at hl 1 rfl) ?_
        refine lv_if_eq (tgt := 44) hx hb dX8_recall_13 (by decide) (fun c_10 => ?_) (fun c_10 => ?_)
        · refine lv_iconst (v := nI 0) hx hb dX8_recall_44 (by decide) ?_
          refine lv_istore_n (lv' := [(1, .int (nI 0)), (0, .ref (mx 0)), (2, .int (nI i))]) hx hb dX8_recall_45 rfl hl (by decide) rfl (fun ls hl => ?_)
          refine lv_iinc (v := nI (i + 1)) (lv' := [(2, .int (nI (i + 1))), (1, .int (nI 0)), (0, .ref (mx 0))]) hx hb dX8_recall_46 hl (k := 2) rfl (z_inc _) (by decide) rfl (fun ls hl => ?_)
          refine lv_goto (tgt := 4) hx hb dX8_recall_49 (by decide) ?_
          exact ih_L4 (i + 1) (nI 0) (by omega) (Or.inr ⟨rfl, fun q9 => hc9.elim (fun q8 => absurd (q8.1.symm.trans c_10) (by decide)) (fun q8 => q8.2 (fun t ht => q9 t (by omega)))⟩) (by omega) _ _ hP hD hS _ (lv_sub hl [2, 1, 0] rfl)
        · refine lv_aload_n hx hb dX8_recall_16 rfl (lv_at hl 0 rfl) ?_
          refine va_get (D := D) (ci := 8) (v := .ref (mx 8)) (C := RX8) (T := TX8) (N := 16) hx hb hts tu_X8 hown hSt.1 hP 0 rfl rfl 9 (by decide) (hts _ t3_229) (fun _ h9 => h9) rfl dX8_recall_17 ?_
          refine lv_iload_n hx hb dX8_recall_20 rfl (lv_at hl 2 rfl) ?_
          refine r_iald hx hb hSt.1 hP 8 0 rfl rfl (k := i) (by omega) (by omega) dX8_recall_21 ?_
          refine lv_as (y := zI (gk i)) (hke i (by omega)) ?_
          refine lv_iconst (v := (-1 : Int32)) hx hb dX8_recall_22 (by decide) ?_
          refine lv_icmp_eq (tgt := 40) hx hb dX8_recall_23 (by decide) (fun c_11 => ?_) (fun c_11 => ?_)
          · refine lv_iconst (v := nI 1) hx hb dX8_recall_40 (by decide) ?_
            refine lv_goto (tgt := 45) hx hb dX8_recall_41 (by decide) ?_
            refine lv_istore_n (lv' := [(1, .int (nI 1)), (0, .ref (mx 0)), (2, .int (nI i))]) hx hb dX8_recall_45 rfl hl (by decide) rfl (fun ls hl => ?_)
            refine lv_iinc (v := nI (i + 1)) (lv' := [(2, .int (nI (i + 1))), (1, .int (nI 1)), (0, .ref (mx 0))]) hx hb dX8_recall_46 hl (k := 2) rfl (z_inc _) (by decide) rfl (fun ls hl => ?_)
            refine lv_goto (tgt := 4) hx hb dX8_recall_49 (by decide) ?_
            exact ih_L4 (i + 1) (nI 1) (by omega) (Or.inl ⟨rfl, fun t ht => if e : t = i then (by rw [e]; exact Or.inl (by have h7 := zI_none c_11; have h8 := vG_7 hvk hnz i (by omega); omega)) else (hc9.elim (fun q9 => q9.2) (fun q9 => absurd q9.1 c_10)) t (by omega)⟩) (by omega) _ _ hP hD hS _ (lv_sub hl [2, 1, 0] rfl)
          · have hg9 := zI_some c_11
            refine lv_aload_n hx hb dX8_recall_26 rfl (lv_at hl 0 rfl) ?_
            refine lv_iload_n hx hb dX8_recall_27 rfl (lv_at hl 2 rfl) ?_
            refine lv_aload_n hx hb dX8_recall_28 rfl (lv_at hl 0 rfl) ?_
            refine va_get (D := D) (ci := 8) (v := .ref (mx 8)) (C := RX8) (T := TX8) (N := 16) hx hb hts tu_X8 hown hSt.1 hP 0 rfl rfl 9 (by decide) (hts _ t3_229) (fun _ h9 => h9) rfl dX8_recall_29 ?_
            refine lv_iload_n hx hb dX8_recall_32 rfl (lv_at hl 2 rfl) ?_
            refine r_iald hx hb hSt.1 hP 8 0 rfl rfl (k := i) (by omega) (by omega) dX8_recall_33 ?_
            refine lv_as (y := nI (gk i)) ((hke i (by omega)).trans (zI_lt hg9)) ?_
            refine ro_V (As := [.int (nI i), .int (nI (gk i))]) (rest := []) (v := bI (n i ≤ d (gk i))) ⟨hx, hb, hml, hown, hts⟩ (c_X8_fits l D cI cZ cQ cJ mx w nz q d nt pr mw mt zo ke wy st tr be ch th pp n i (gk i) (by first | assumption | omega) (by first | assumption | omega) (by first | assumption | omega) (by first | assumption | omega) (by first | assumption | omega)) (gV t4_103 t4_105 t0_27 t1_10 t4_106) rfl rfl hd_X8_fits ⟨Nat.le_of_ble_eq_true rfl, Nat.le_of_ble_eq_true rfl⟩ hP hSt (va_recv hSt.1 hP (ci := 8) (q0 := 0) rfl rfl) rfl hl.1 rfl (Nat.le_of_ble_eq_true rfl) dX8_recall_34 (Nat.zero_le _) (Nat.zero_le _) ?_
            refine lv_if_eq (tgt := 44) hx hb dX8_recall_37 (by decide) (fun c_12 => ?_) (fun c_12 => ?_)
            · have c_12 := bI_0.mp c_12
              refine lv_iconst (v := nI 0) hx hb dX8_recall_44 (by decide) ?_
              refine lv_istore_n (lv' := [(1, .int (nI 0)), (0, .ref (mx 0)), (2, .int (nI i))]) hx hb dX8_recall_45 rfl hl (by decide) rfl (fun ls hl => ?_)
              refine lv_iinc (v := nI (i + 1)) (lv' := [(2, .int (nI (i + 1))), (1, .int (nI 0)), (0, .ref (mx 0))]) hx hb dX8_recall_46 hl (k := 2) rfl (z_inc _) (by decide) rfl (fun ls hl => ?_)
              refine lv_goto (tgt := 4) hx hb dX8_recall_49 (by decide) ?_
              exact ih_L4 (i + 1) (nI 0) (by omega) (Or.inr ⟨rfl, fun q9 => (q9 i (by omega)).elim (fun q8 => by omega) c_12⟩) (by omega) _ _ hP hD hS _ (lv_sub hl [2, 1, 0] rfl)
            · have c_12 := bI_n0.mp c_12
              refine lv_iconst (v := nI 1) hx hb dX8_recall_40 (by decide) ?_
              refine lv_goto (tgt := 45) hx hb dX8_recall_41 (by decide) ?_
              refine lv_istore_n (lv' := [(1, .int (nI 1)), (0, .ref (mx 0)), (2, .int (nI i))]) hx hb dX8_recall_45 rfl hl (by decide) rfl (fun ls hl => ?_)
              refine lv_iinc (v := nI (i + 1)) (lv' := [(2, .int (nI (i + 1))), (1, .int (nI 1)), (0, .ref (mx 0))]) hx hb dX8_recall_46 hl (k := 2) rfl (z_inc _) (by decide) rfl (fun ls hl => ?_)
              refine lv_goto (tgt := 4) hx hb dX8_recall_49 (by decide) ?_
              exact ih_L4 (i + 1) (nI 1) (by omega) (Or.inl ⟨rfl, fun t ht => if e : t = i then (by rw [e]; exact Or.inr c_12) else (hc9.elim (fun q9 => q9.2) (fun q9 => absurd q9.1 c_10)) t (by omega)⟩) (by omega) _ _ hP hD hS _ (lv_sub hl [2, 1, 0] rfl)
  exact L4 _ 0 (nI 1) (by omega) (Or.inl ⟨rfl, fun t ht => absurd ht (by omega)⟩) (Nat.lt_succ_self _) _ _ hP hD hS _ (lv_sub hl [2, 1, 0] rfl)
set_option maxHeartbeats 4000000 in
set_option maxRecDepth 100000 in
theorem c_X8_circlesNow (l : Launch) (D : va_G) (cI cZ cQ cJ : ClassId) (mx : Nat → Nat) (w : Nat → Int32) (nz : Nat) (q : Nat → Int32) (d : Nat → Int32) (nt : Nat) (pr : Nat → Int32) (mw : Nat → Int32) (mt : Nat → Int32) (zo : Nat → Int32) (ke : Nat → Int32) (wy : Nat → Int32) (st : Nat → Int32) (tr : Nat → Int32) (be : Nat → Int32) (ch : Nat → Int32) (th : Int32) (g : Nat → Nat) (cz : Nat → Int32) (gk : Nat → Nat) (nm : Nat → Nat) (hnz : nz ≤ 7) (hnt : nt ≤ 7) (hzo : pOK nt zo g) (hcz : pOK 7 cz g) (hvg : vG nz nt g) (hke : pOK 7 ke gk) (hvk : vG nz nt gk) (hnm : nmO nt cz g gk nm) : Met l yX8_circlesNow (.code yX8_circlesNow cX8_circlesNow 7 (some .int) :: ALL) ({ frames := 1, cells := 0, slots := 0, locals := 23 } : Room) (va_Pc [.ref (mx 0)] (ro_P D cI cZ cQ cJ (wMo mx cI cZ w (nI nz) q d (nI nt) pr mw mt zo ke wy st tr be ch th))) (vp_Si (fun r9 => r9 = nI (sumT (fun u9 => lmC nm u9 nt u9) nt))) 0 0 (fun _ => False) := by
  refine Met.ofW (cc := cX8_circlesNow) (maxL := 7) (ret := (some .int)) (by decide) rfl ?_
  intro p e s m args below meth c s₁ B hml hv
  obtain ⟨rfl, hP, hSt⟩ := hv
  have hx := B.exec
  have hb := B.bytes
  have hr := B.returns
  have hts : ∀ w ∈ ALL, w.before ([.ref (mx 0)] : List Value).toArray s = true := fun w h => atoms_spec (ws := (.code yX8_circlesNow cX8_circlesNow 7 (some .int) :: ALL)) B.pre w (List.mem_cons_of_mem _ h)
  have hown : s.vm.findClass RX8 = some m.cls := findClass_of_methodNamed B.named
  have hlocks := B.notSynchronized
  have hl := lv_entry ([.ref (mx 0)]) (n := 7) (Nat.le_of_ble_eq_true rfl)
  rw [lg_entry_eq]
  generalize (lg_sl ([.ref (mx 0)]) ++ List.replicate (7 - (lg_sl ([.ref (mx 0)])).length) Slot.unset).toArray = ls at hl ⊢
  have hl : lv_has ls 7 [(0, .ref (mx 0))] := hl
  refine lv_iconst (v := nI 0) hx hb dX8_circlesNow_0 (by decide) ?_
  refine lv_istore_n (lv' := [(1, .int (nI 0)), (0, .ref (mx 0))]) hx hb dX8_circlesNow_1 rfl hl (by decide) rfl (fun ls hl => ?_)
  refine lv_iconst (v := nI 0) hx hb dX8_circlesNow_2 (by decide) ?_
  refine lv_istore_n (lv' := [(2, .int (nI 0)), (1, .int (nI 0)), (0, .ref (mx 0))]) hx hb dX8_circlesNow_3 rfl hl (by decide) rfl (fun ls hl => ?_)
  have L4 : ∀ (n9 : Nat) (k : Nat) (n1 : Nat), (k ≤ nt) → (n1 = sumT (fun u9 => lmC nm u9 nt u9) k) → (nt - k) < n9 → ∀ (ls : Array Slot), lv_has ls 7 [(0, .ref (mx 0)), (1, .int (nI n1)), (2, .int (nI k))] → W p l e ({ frames := 1, cells := 0, slots := 0, locals := 23 } : Room) s m ([.ref (mx 0)] : List Value).toArray below meth c s.heap [] 0 0 (MQ below (vp_Si (fun r9 => r9 = nI (sumT (fun u9 => lmC nm u9 nt u9) nt))) ([.ref (mx 0)] : List Value).toArray s 0 0 (fun _ => False)) (F0 m 4 ls []) := by
    intro n9
    induction n9 with
    | zero =>
      intro k n1 hk hn1 hm
      exact absurd hm (by omega)
    | succ n9 ih =>
      intro k n1 hk hn1 hm ls hl
      have ih_L4 := ih
      refine lv_iload_n hx hb dX8_circlesNow_4 rfl (lv_at hl 2 rfl) ?_
      refine lv_aload_n hx hb dX8_circlesNow_5 rfl (lv_at hl 0 rfl) ?_
      refine va_get (D := D) (ci := 8) (v := .int (nI nt)) (C := RX8) (T := TX8) (N := 16) hx hb hts tu_X8 hown hSt.1 hP 0 rfl rfl 4 (by decide) (hts _ t3_224) (fun _ h9 => h9) rfl dX8_circlesNow_6 ?_
      refine lv_icmp_ge (tgt := 136) hx hb dX8_circlesNow_9 (by decide) (fun c_1 => ?_) (fun c_1 => ?_)
      · have c_1 := z_le (by omega) (by omega) c_1
        refine lv_iload_n hx hb dX8_circlesNow_136 rfl (lv_at hl 1 rfl) ?_
        exact W.iret (v := nI n1) hx hb hr (fun t9 ht9 hW9 => ⟨_, rfl, (by rw [hn1, show k = nt by omega]), ht9⟩) (fun q h => nomatch h) dX8_circlesNow_137
      · have c_1 := z_nle (by omega) (by omega) c_1
        refine lv_iload_n hx hb dX8_circlesNow_12 rfl (lv_at hl 2 rfl) ?_
        refine lv_istore_n (lv' := [(3, .int (nI k)), (0, .ref (mx 0)), (1, .int (nI n1)), (2, .int (nI k))]) hx hb dX8_circlesNow_13 rfl hl (by decide) rfl (fun ls hl => ?_)
        have hl : lv_has ls 7 [(3, .int (zI k)), (0, .ref (mx 0)), (1, .int (nI n1)), (2, .int (nI k))] := by rw [zI_lt (show k < 7 by omega)]; exact hl
        refine lv_iconst (v := nI 1) hx hb dX8_circlesNow_14 (by decide) ?_
        refine lv_istore (lv' := [(4, .int (nI 1)), (3, .int (zI k)), (0, .ref (mx 0)), (1, .int (nI n1)), (2, .int (nI k))]) hx hb dX8_circlesNow_15 hl (by decide) rfl (fun ls hl => ?_)
        have L130 : ∀ (n2 : Nat), (n2 = n1 + lmC nm k nt k) → ∀ (ls : Array Slot), lv_has ls 7 [(0, .ref (mx 0)), (1, .int (nI n2)), (2, .int (nI k))] → W p l e ({ frames := 1, cells := 0, slots := 0, locals := 23 } : Room) s m ([.ref (mx 0)] : List Value).toArray below meth c s.heap [] 0 0 (MQ below (vp_Si (fun r9 => r9 = nI (sumT (fun u9 => lmC nm u9 nt u9) nt))) ([.ref (mx 0)] : List Value).toArray s 0 0 (fun _ => False)) (F0 m 130 ls []) := by
          intro n2 hn2 ls hl
          refine lv_iinc (v := nI (k + 1)) (lv' := [(2, .int (nI (k + 1))), (0, .ref (mx 0)), (1, .int (nI n2))]) hx hb dX8_circlesNow_130 hl (k := 2) rfl (z_inc _) (by decide) rfl (fun ls hl => ?_)
          refine lv_goto (tgt := 4) hx hb dX8_circlesNow_133 (by decide) ?_
          exact ih_L4 (k + 1) n2 (by omega) (by rw [sumT, ← hn1]; exact hn2) (by omega) _ (lv_sub hl [1, 2, 0] rfl)
        refine lv_iconst (v := nI 0) hx hb dX8_circlesNow_17 (by decide) ?_
        refine lv_istore (lv' := [(5, .int (nI 0)), (4, .int (nI 1)), (3, .int (zI k)), (0, .ref (mx 0)), (1, .int (nI n1)), (2, .int (nI k))]) hx hb dX8_circlesNow_18 hl (by decide) rfl (fun ls hl => ?_)
        have L20 : ∀ (n9 : Nat) (u : Nat) (n2 : Nat) (x9 : Nat) (l9 : Int32), (u ≤ nt) → (x9 ≤ 7) → (x9 < 7 → x9 < nt) → (l9 = 0 ∨ l9 = 1) → (n2 + (if x9 < 7 ∧ l9 = 1 then lmC nm k (nt - u) x9 else 0) = n1 + lmC nm k nt k) → (nt - u) < n9 → ∀ (ls : Array Slot), lv_has ls 7 [(0, .ref (mx 0)), (1, .int (nI n2)), (2, .int (nI k)), (3, .int (zI x9)), (4, .int l9), (5, .int (nI u))] → W p l e ({ frames := 1, cells := 0, slots := 0, locals := 23 } : Room) s m ([.ref (mx 0)] : List Value).toArray below meth c s.heap [] 0 0 (MQ below (vp_Si (fun r9 => r9 = nI (sumT (fun u9 => lmC nm u9 nt u9) nt))) ([.ref (mx 0)] : List Value).toArray s 0 0 (fun _ => False)) (F0 m 20 ls []) := by
          intro n9
          induction n9 with
          | zero =>
            intro u n2 x9 l9 hu hx7 hxn hl9 hn2 hm
            exact absurd hm (by omega)
          | succ n9 ih =>
            intro u n2 x9 l9 hu hx7 hxn hl9 hn2 hm ls hl
            have ih_L20 := ih
            refine lv_iload hx hb dX8_circlesNow_20 (lv_at hl 5 rfl) ?_
            refine lv_aload_n hx hb dX8_circlesNow_22 rfl (lv_at hl 0 rfl) ?_
            refine va_get (D := D) (ci := 8) (v := .int (nI nt)) (C := RX8) (T := TX8) (N := 16) hx hb hts tu_X8 hown hSt.1 hP 0 rfl rfl 4 (by decide) (hts _ t3_224) (fun _ h9 => h9) rfl dX8_circlesNow_23 ?_
            refine lv_icmp_ge (tgt := 130) hx hb dX8_circlesNow_26 (by decide) (fun c_2 => ?_) (fun c_2 => ?_)
            · have c_2 := z_le (by omega) (by omega) c_2
              exact L130 n2 (by rw [← hn2]; have h9 : nt - u = 0 := (by omega); rw [h9]; split <;> rfl) _ (lv_sub hl [0, 1, 2] rfl)
            · have c_2 := z_nle (by omega) (by omega) c_2
              refine lv_iload_n hx hb dX8_circlesNow_29 rfl (lv_at hl 3 rfl) ?_
              refine lv_iconst (v := (-1 : Int32)) hx hb dX8_circlesNow_30 (by decide) ?_
              refine lv_icmp_eq (tgt := 130) hx hb dX8_circlesNow_31 (by decide) (fun c_3 => ?_) (fun c_3 => ?_)
              · exact L130 n2 (by rw [← hn2, if_neg (fun q9 => by have h9 := zI_none c_3; omega)]; rfl) _ (lv_sub hl [0, 1, 2] rfl)
              · have hx9 := zI_some c_3
                refine lv_iload hx hb dX8_circlesNow_34 (lv_at hl 4 rfl) ?_
                refine lv_if_eq (tgt := 130) hx hb dX8_circlesNow_36 (by decide) (fun c_4 => ?_) (fun c_4 => ?_)
                · exact L130 n2 (by rw [← hn2, if_neg (fun q9 => by rw [c_4] at q9; exact absurd q9.2 (by decide))]; rfl) _ (lv_sub hl [0, 1, 2] rfl)
                · have hl1 : l9 = 1 := hl9.resolve_left c_4
                  have hxt := hxn hx9
                  have hnx := hnm x9 hxt
                  refine lv_aload_n hx hb dX8_circlesNow_39 rfl (lv_at hl 0 rfl) ?_
                  refine va_get (D := D) (ci := 8) (v := .ref (mx 8)) (C := RX8) (T := TX8) (N := 16) hx hb hts tu_X8 hown hSt.1 hP 0 rfl rfl 9 (by decide) (hts _ t3_229) (fun _ h9 => h9) rfl dX8_circlesNow_40 ?_
                  refine lv_iload_n hx hb dX8_circlesNow_43 rfl (lv_at hl 3 rfl) ?_
                  refine lv_as (y := nI x9) (zI_lt hx9) ?_
                  refine r_iald hx hb hSt.1 hP 8 0 rfl rfl (k := x9) (by omega) (by omega) dX8_circlesNow_44 ?_
                  refine lv_as (y := zI (gk x9)) (hke x9 (by omega)) ?_
                  refine lv_iconst (v := (-1 : Int32)) hx hb dX8_circlesNow_45 (by decide) ?_
                  refine lv_icmp_eq (tgt := 74) hx hb dX8_circlesNow_46 (by decide) (fun c_5 => ?_) (fun c_5 => ?_)
                  · have hnm7 := hnx.2.2.1 (Or.inl (by have h7 := zI_none c_5; have h8 := vG_7 hvk hnz x9 (by omega); omega))
                    refine lv_iconst (v := (-1 : Int32)) hx hb dX8_circlesNow_74 (by decide) ?_
                    refine lv_goto (tgt := 88) hx hb dX8_circlesNow_75 (by decide) ?_
                    refine lv_istore (lv' := [(6, .int (-1 : Int32)), (0, .ref (mx 0)), (1, .int (nI n2)), (2, .int (nI k)), (3, .int (zI x9)), (4, .int l9), (5, .int (nI u))]) hx hb dX8_circlesNow_88 hl (by decide) rfl (fun ls hl => ?_)
                    refine lv_iload hx hb dX8_circlesNow_90 (lv_at hl 0 rfl) ?_
                    refine lv_iconst (v := (-1 : Int32)) hx hb dX8_circlesNow_92 (by decide) ?_
                    refine lv_icmp_eq (tgt := 102) hx hb dX8_circlesNow_93 (by decide) (fun c_6 => ?_) (fun c_6 => ?_)
                    · refine lv_iconst (v := nI 1) hx hb dX8_circlesNow_102 (by decide) ?_
                      refine lv_goto (tgt := 107) hx hb dX8_circlesNow_103 (by decide) ?_
                      refine lv_istore (lv' := [(4, .int (nI 1)), (6, .int (-1 : Int32)), (0, .ref (mx 0)), (1, .int (nI n2)), (2, .int (nI k)), (3, .int (zI x9)), (5, .int (nI u))]) hx hb dX8_circlesNow_107 hl (by decide) rfl (fun ls hl => ?_)
                      refine lv_iload hx hb dX8_circlesNow_109 (lv_at hl 1 rfl) ?_
                      refine lv_iload_n hx hb dX8_circlesNow_111 rfl (lv_at hl 4 rfl) ?_
                      refine lv_icmp_ne (tgt := 121) hx hb dX8_circlesNow_112 (by decide) (fun c_7 => ?_) (fun c_7 => ?_)
                      · refine lv_iload hx hb dX8_circlesNow_121 (lv_at hl 1 rfl) ?_
                        refine lv_istore_n (lv' := [(3, .int (-1 : Int32)), (4, .int (nI 1)), (6, .int (-1 : Int32)), (0, .ref (mx 0)), (1, .int (nI n2)), (2, .int (nI k)), (5, .int (nI u))]) hx hb dX8_circlesNow_123 rfl hl (by decide) rfl (fun ls hl => ?_)
                        refine lv_iinc (v := nI (u + 1)) (lv' := [(5, .int (nI (u + 1))), (3, .int (-1 : Int32)), (4, .int (nI 1)), (6, .int (-1 : Int32)), (0, .ref (mx 0)), (1, .int (nI n2)), (2, .int (nI k))]) hx hb dX8_circlesNow_124 hl (k := 6) rfl (z_inc _) (by decide) rfl (fun ls hl => ?_)
                        refine lv_goto (tgt := 20) hx hb dX8_circlesNow_127 (by decide) ?_
                        exact ih_L20 (u + 1) n2 7 (nI 1) (by omega) (Nat.le_refl _) (by omega) (Or.inr rfl) (by rw [if_pos ⟨hx9, hl1⟩, show nt - u = (nt - (u + 1)) + 1 by omega, lmC] at hn2; rw [if_neg (by omega)]; rw [hnm7, if_neg (by omega), if_pos (Or.inl (Nat.le_refl _))] at hn2; exact hn2) (by omega) _ (lv_sub hl [4, 5, 6, 1, 2, 0] rfl)
                      · exact absurd (c_7).symm (z_m1 (by omega))
                    · exact absurd c_6 (by decide)
                  · refine lv_aload_n hx hb dX8_circlesNow_49 rfl (lv_at hl 0 rfl) ?_
                    refine va_get (D := D) (ci := 8) (v := .ref (mx 7)) (C := RX8) (T := TX8) (N := 16) hx hb hts tu_X8 hown hSt.1 hP 0 rfl rfl 8 (by decide) (hts _ t3_228) (fun _ h9 => h9) rfl dX8_circlesNow_50 ?_
                    refine lv_iload_n hx hb dX8_circlesNow_53 rfl (lv_at hl 3 rfl) ?_
                    refine lv_as (y := nI x9) (zI_lt hx9) ?_
                    refine r_iald hx hb hSt.1 hP 7 0 rfl rfl (k := x9) (by omega) (by omega) dX8_circlesNow_54 ?_
                    refine lv_as (y := zI (g x9)) (hzo x9 (by omega)) ?_
                    refine lv_iconst (v := (-1 : Int32)) hx hb dX8_circlesNow_55 (by decide) ?_
                    refine lv_icmp_eq (tgt := 74) hx hb dX8_circlesNow_56 (by decide) (fun c_8 => ?_) (fun c_8 => ?_)
                    · have hnm7 := hnx.2.2.1 (Or.inr (Or.inl (by have h7 := zI_none c_8; have h8 := vG_7 hvg hnz x9 (by omega); omega)))
                      refine lv_iconst (v := (-1 : Int32)) hx hb dX8_circlesNow_74 (by decide) ?_
                      refine lv_goto (tgt := 88) hx hb dX8_circlesNow_75 (by decide) ?_
                      refine lv_istore (lv' := [(6, .int (-1 : Int32)), (0, .ref (mx 0)), (1, .int (nI n2)), (2, .int (nI k)), (3, .int (zI x9)), (4, .int l9), (5, .int (nI u))]) hx hb dX8_circlesNow_88 hl (by decide) rfl (fun ls hl => ?_)
                      refine lv_iload hx hb dX8_circlesNow_90 (lv_at hl 0 rfl) ?_
                      refine lv_iconst (v := (-1 : Int32)) hx hb dX8_circlesNow_92 (by decide) ?_
                      refine lv_icmp_eq (tgt := 102) hx hb dX8_circlesNow_93 (by decide) (fun c_9 => ?_) (fun c_9 => ?_)
                      · refine lv_iconst (v := nI 1) hx hb dX8_circlesNow_102 (by decide) ?_
                        refine lv_goto (tgt := 107) hx hb dX8_circlesNow_103 (by decide) ?_
                        refine lv_istore (lv' := [(4, .int (nI 1)), (6, .int (-1 : Int32)), (0, .ref (mx 0)), (1, .int (nI n2)), (2, .int (nI k)), (3, .int (zI x9)), (5, .int (nI u))]) hx hb dX8_circlesNow_107 hl (by decide) rfl (fun ls hl => ?_)
                        refine lv_iload hx hb dX8_circlesNow_109 (lv_at hl 1 rfl) ?_
                        refine lv_iload_n hx hb dX8_circlesNow_111 rfl (lv_at hl 4 rfl) ?_
                        refine lv_icmp_ne (tgt := 121) hx hb dX8_circlesNow_112 (by decide) (fun c_10 => ?_) (fun c_10 => ?_)
                        · refine lv_iload hx hb dX8_circlesNow_121 (lv_at hl 1 rfl) ?_
                          refine lv_istore_n (lv' := [(3, .int (-1 : Int32)), (4, .int (nI 1)), (6, .int (-1 : Int32)), (0, .ref (mx 0)), (1, .int (nI n2)), (2, .int (nI k)), (5, .int (nI u))]) hx hb dX8_circlesNow_123 rfl hl (by decide) rfl (fun ls hl => ?_)
                          refine lv_iinc (v := nI (u + 1)) (lv' := [(5, .int (nI (u + 1))), (3, .int (-1 : Int32)), (4, .int (nI 1)), (6, .int (-1 : Int32)), (0, .ref (mx 0)), (1, .int (nI n2)), (2, .int (nI k))]) hx hb dX8_circlesNow_124 hl (k := 6) rfl (z_inc _) (by decide) rfl (fun ls hl => ?_)
                          refine lv_goto (tgt := 20) hx hb dX8_circlesNow_127 (by decide) ?_
                          exact ih_L20 (u + 1) n2 7 (nI 1) (by omega) (Nat.le_refl _) (by omega) (Or.inr rfl) (by rw [if_pos ⟨hx9, hl1⟩, show nt - u = (nt - (u + 1)) + 1 by omega, lmC] at hn2; rw [if_neg (by omega)]; rw [hnm7, if_neg (by omega), if_pos (Or.inl (Nat.le_refl _))] at hn2; exact hn2) (by omega) _ (lv_sub hl [4, 5, 6, 1, 2, 0] rfl)
                        · exact absurd (c_10).symm (z_m1 (by omega))
                      · exact absurd c_9 (by decide)
                    · refine lv_aload_n hx hb dX8_circlesNow_59 rfl (lv_at hl 0 rfl) ?_
                      refine va_get (D := D) (ci := 8) (v := .ref (mx 8)) (C := RX8) (T := TX8) (N := 16) hx hb hts tu_X8 hown hSt.1 hP 0 rfl rfl 9 (by decide) (hts _ t3_229) (fun _ h9 => h9) rfl dX8_circlesNow_60 ?_
                      refine lv_iload_n hx hb dX8_circlesNow_63 rfl (lv_at hl 3 rfl) ?_
                      refine lv_as (y := nI x9) (zI_lt hx9) ?_
                      refine r_iald hx hb hSt.1 hP 8 0 rfl rfl (k := x9) (by omega) (by omega) dX8_circlesNow_64 ?_
                      refine lv_as (y := zI (gk x9)) (hke x9 (by omega)) ?_
                      refine lv_aload_n hx hb dX8_circlesNow_65 rfl (lv_at hl 0 rfl) ?_
                      refine va_get (D := D) (ci := 8) (v := .ref (mx 7)) (C := RX8) (T := TX8) (N := 16) hx hb hts tu_X8 hown hSt.1 hP 0 rfl rfl 8 (by decide) (hts _ t3_228) (fun _ h9 => h9) rfl dX8_circlesNow_66 ?_
                      refine lv_iload_n hx hb dX8_circlesNow_69 rfl (lv_at hl 3 rfl) ?_
                      refine lv_as (y := nI x9) (zI_lt hx9) ?_
                      refine r_iald hx hb hSt.1 hP 7 0 rfl rfl (k := x9) (by omega) (by omega) dX8_circlesNow_70 ?_
                      refine lv_as (y := zI (g x9)) (hzo x9 (by omega)) ?_
                      refine lv_icmp_ne (tgt := 78) hx hb dX8_circlesNow_71 (by decide) (fun c_11 => ?_) (fun c_11 => ?_)
                      · have hk9 := zI_some c_5
                        have hnot : ¬ (gk x9 = 7 ∨ g x9 = 7 ∨ gk x9 = g x9) := fun q9 => by rcases q9 with q9 | q9 | q9; omega; exact c_8 (by rw [q9]; rfl); exact c_11 (by rw [q9])
                        refine lv_aload_n hx hb dX8_circlesNow_78 rfl (lv_at hl 0 rfl) ?_
                        refine lv_aload_n hx hb dX8_circlesNow_79 rfl (lv_at hl 0 rfl) ?_
                        refine va_get (D := D) (ci := 8) (v := .ref (mx 8)) (C := RX8) (T := TX8) (N := 16) hx hb hts tu_X8 hown hSt.1 hP 0 rfl rfl 9 (by decide) (hts _ t3_229) (fun _ h9 => h9) rfl dX8_circlesNow_80 ?_
                        refine lv_iload_n hx hb dX8_circlesNow_83 rfl (lv_at hl 3 rfl) ?_
                        refine lv_as (y := nI x9) (zI_lt hx9) ?_
                        refine r_iald hx hb hSt.1 hP 8 0 rfl rfl (k := x9) (by omega) (by omega) dX8_circlesNow_84 ?_
                        refine lv_as (y := nI (gk x9)) ((hke x9 (by omega)).trans (zI_lt hk9)) ?_
                        refine ro_V (As := [.int (nI (gk x9))]) (rest := []) (v := tAt cz (nI (gk x9))) ⟨hx, hb, hml, hown, hts⟩ (c_X8_inZone l D cI cZ cQ cJ mx w nz q d nt pr mw mt zo ke wy st tr be ch th g cz (gk x9) (by first | assumption | omega) (by first | assumption | omega) (by first | assumption | omega) (by first | assumption | omega) (by first | assumption | omega) (by omega)) (gV t4_67 t4_69 t0_23 t1_10 t4_70) rfl rfl hd_X8_inZone ⟨Nat.le_of_ble_eq_true rfl, Nat.le_of_ble_eq_true rfl⟩ hP hSt (va_recv hSt.1 hP (ci := 8) (q0 := 0) rfl rfl) rfl hl.1 rfl (Nat.le_of_ble_eq_true rfl) dX8_circlesNow_85 (Nat.zero_le _) (Nat.zero_le _) ?_
                        refine lv_as (y := zI (nm x9)) (hnx.2.2.2 hnot) ?_
                        refine lv_istore (lv' := [(6, .int (zI (nm x9))), (0, .ref (mx 0)), (1, .int (nI n2)), (2, .int (nI k)), (3, .int (zI x9)), (4, .int l9), (5, .int (nI u))]) hx hb dX8_circlesNow_88 hl (by decide) rfl (fun ls hl => ?_)
                        refine lv_iload hx hb dX8_circlesNow_90 (lv_at hl 0 rfl) ?_
                        refine lv_iconst (v := (-1 : Int32)) hx hb dX8_circlesNow_92 (by decide) ?_
                        refine lv_icmp_eq (tgt := 102) hx hb dX8_circlesNow_93 (by decide) (fun c_12 => ?_) (fun c_12 => ?_)
                        · refine lv_iconst (v := nI 1) hx hb dX8_circlesNow_102 (by decide) ?_
                          refine lv_goto (tgt := 107) hx hb dX8_circlesNow_103 (by decide) ?_
                          refine lv_istore (lv' := [(4, .int (nI 1)), (6, .int (zI (nm x9))), (0, .ref (mx 0)), (1, .int (nI n2)), (2, .int (nI k)), (3, .int (zI x9)), (5, .int (nI u))]) hx hb dX8_circlesNow_107 hl (by decide) rfl (fun ls hl => ?_)
                          refine lv_iload hx hb dX8_circlesNow_109 (lv_at hl 1 rfl) ?_
                          refine lv_iload_n hx hb dX8_circlesNow_111 rfl (lv_at hl 4 rfl) ?_
                          refine lv_icmp_ne (tgt := 121) hx hb dX8_circlesNow_112 (by decide) (fun c_13 => ?_) (fun c_13 => ?_)
                          · refine lv_iload hx hb dX8_circlesNow_121 (lv_at hl 1 rfl) ?_
                            refine lv_istore_n (lv' := [(3, .int (zI (nm x9))), (4, .int (nI 1)), (6, .int (zI (nm x9))), (0, .ref (mx 0)), (1, .int (nI n2)), (2, .int (nI k)), (5, .int (nI u))]) hx hb dX8_circlesNow_123 rfl hl (by decide) rfl (fun ls hl => ?_)
                            refine lv_iinc (v := nI (u + 1)) (lv' := [(5, .int (nI (u + 1))), (3, .int (zI (nm x9))), (4, .int (nI 1)), (6, .int (zI (nm x9))), (0, .ref (mx 0)), (1, .int (nI n2)), (2, .int (nI k))]) hx hb dX8_circlesNow_124 hl (k := 6) rfl (z_inc _) (by decide) rfl (fun ls hl => ?_)
                            refine lv_goto (tgt := 20) hx hb dX8_circlesNow_127 (by decide) ?_
                            exact ih_L20 (u + 1) n2 (nm x9) (nI 1) (by omega) hnx.1 hnx.2.1 (Or.inr rfl) (by rw [if_pos ⟨hx9, hl1⟩, show nt - u = (nt - (u + 1)) + 1 by omega, lmC] at hn2; have h9 := zI_none c_12; rw [if_neg (by omega), if_pos (Or.inl h9)] at hn2; rw [if_neg (by omega)]; exact hn2) (by omega) _ (lv_sub hl [4, 5, 6, 1, 2, 0] rfl)
                          · exact absurd (c_13.symm.trans c_12) (z_m1 (by omega))
                        · have hn7 := zI_some c_12
                          refine lv_iload hx hb dX8_circlesNow_96 (lv_at hl 0 rfl) ?_
                          refine lv_as (y := nI (nm x9)) (zI_lt hn7) ?_
                          refine lv_iload_n hx hb dX8_circlesNow_98 rfl (lv_at hl 3 rfl) ?_
                          refine lv_icmp_lt (tgt := 106) hx hb dX8_circlesNow_99 (by decide) (fun c_14 => ?_) (fun c_14 => ?_)
                          · have c_14 := z_lt (by omega) (by omega) c_14
                            refine lv_iconst (v := nI 0) hx hb dX8_circlesNow_106 (by decide) ?_
                            refine lv_istore (lv' := [(4, .int (nI 0)), (6, .int (zI (nm x9))), (0, .ref (mx 0)), (1, .int (nI n2)), (2, .int (nI k)), (3, .int (zI x9)), (5, .int (nI u))]) hx hb dX8_circlesNow_107 hl (by decide) rfl (fun ls hl => ?_)
                            refine lv_iload hx hb dX8_circlesNow_109 (lv_at hl 1 rfl) ?_
                            refine lv_as (y := nI (nm x9)) (zI_lt hn7) ?_
                            refine lv_iload_n hx hb dX8_circlesNow_111 rfl (lv_at hl 4 rfl) ?_
                            refine lv_icmp_ne (tgt := 121) hx hb dX8_circlesNow_112 (by decide) (fun c_15 => ?_) (fun c_15 => ?_)
                            · have c_15 := z_ne (by omega) (by omega) c_15
                              refine lv_iload hx hb dX8_circlesNow_121 (lv_at hl 1 rfl) ?_
                              refine lv_istore_n (lv' := [(3, .int (zI (nm x9))), (4, .int (nI 0)), (6, .int (zI (nm x9))), (0, .ref (mx 0)), (1, .int (nI n2)), (2, .int (nI k)), (5, .int (nI u))]) hx hb dX8_circlesNow_123 rfl hl (by decide) rfl (fun ls hl => ?_)
                              refine lv_iinc (v := nI (u + 1)) (lv' := [(5, .int (nI (u + 1))), (3, .int (zI (nm x9))), (4, .int (nI 0)), (6, .int (zI (nm x9))), (0, .ref (mx 0)), (1, .int (nI n2)), (2, .int (nI k))]) hx hb dX8_circlesNow_124 hl (k := 6) rfl (z_inc _) (by decide) rfl (fun ls hl => ?_)
                              refine lv_goto (tgt := 20) hx hb dX8_circlesNow_127 (by decide) ?_
                              exact ih_L20 (u + 1) n2 (nm x9) (nI 0) (by omega) hnx.1 hnx.2.1 (Or.inl rfl) (by rw [if_pos ⟨hx9, hl1⟩, show nt - u = (nt - (u + 1)) + 1 by omega, lmC] at hn2; rw [if_neg (by omega), if_pos (Or.inr (by omega))] at hn2; rw [if_neg (fun q9 => absurd q9.2 (by decide))]; exact hn2) (by omega) _ (lv_sub hl [4, 5, 6, 1, 2, 0] rfl)
                            · have c_15 := z_eq (by omega) (by omega) c_15
                              refine lv_iinc (v := nI (n2 + 1)) (lv' := [(1, .int (nI (n2 + 1))), (4, .int (nI 0)), (6, .int (zI (nm x9))), (0, .ref (mx 0)), (2, .int (nI k)), (3, .int (zI x9)), (5, .int (nI u))]) hx hb dX8_circlesNow_115 hl (k := 3) rfl (z_inc _) (by decide) rfl (fun ls hl => ?_)
                              refine lv_iconst (v := (-1 : Int32)) hx hb dX8_circlesNow_118 (by decide) ?_
                              refine lv_istore (lv' := [(6, .int (-1 : Int32)), (1, .int (nI (n2 + 1))), (4, .int (nI 0)), (0, .ref (mx 0)), (2, .int (nI k)), (3, .int (zI x9)), (5, .int (nI u))]) hx hb dX8_circlesNow_119 hl (by decide) rfl (fun ls hl => ?_)
                              refine lv_iload hx hb dX8_circlesNow_121 (lv_at hl 0 rfl) ?_
                              refine lv_istore_n (lv' := [(3, .int (-1 : Int32)), (6, .int (-1 : Int32)), (1, .int (nI (n2 + 1))), (4, .int (nI 0)), (0, .ref (mx 0)), (2, .int (nI k)), (5, .int (nI u))]) hx hb dX8_circlesNow_123 rfl hl (by decide) rfl (fun ls hl => ?_)
                              refine lv_iinc (v := nI (u + 1)) (lv' := [(5, .int (nI (u + 1))), (3, .int (-1 : Int32)), (6, .int (-1 : Int32)), (1, .int (nI (n2 + 1))), (4, .int (nI 0)), (0, .ref (mx 0)), (2, .int (nI k))]) hx hb dX8_circlesNow_124 hl (k := 6) rfl (z_inc _) (by decide) rfl (fun ls hl => ?_)
                              refine lv_goto (tgt := 20) hx hb dX8_circlesNow_127 (by decide) ?_
                              exact ih_L20 (u + 1) (n2 + 1) 7 (nI 0) (by omega) (Nat.le_refl _) (by omega) (by first | exact Or.inl rfl | exact Or.inr rfl) (by rw [if_pos ⟨hx9, hl1⟩, show nt - u = (nt - (u + 1)) + 1 by omega, lmC] at hn2; rw [if_pos c_15] at hn2; rw [if_neg (by omega)]; exact hn2) (by omega) _ (lv_sub hl [5, 3, 6, 1, 4, 0] rfl)
                          · have c_14 := z_nlt (by omega) (by omega) c_14
                            refine lv_iconst (v := nI 1) hx hb dX8_circlesNow_102 (by decide) ?_
                            refine lv_goto (tgt := 107) hx hb dX8_circlesNow_103 (by decide) ?_
                            refine lv_istore (lv' := [(4, .int (nI 1)), (6, .int (zI (nm x9))), (0, .ref (mx 0)), (1, .int (nI n2)), (2, .int (nI k)), (3, .int (zI x9)), (5, .int (nI u))]) hx hb dX8_circlesNow_107 hl (by decide) rfl (fun ls hl => ?_)
                            refine lv_iload hx hb dX8_circlesNow_109 (lv_at hl 1 rfl) ?_
                            refine lv_as (y := nI (nm x9)) (zI_lt hn7) ?_
                            refine lv_iload_n hx hb dX8_circlesNow_111 rfl (lv_at hl 4 rfl) ?_
                            refine lv_icmp_ne (tgt := 121) hx hb dX8_circlesNow_112 (by decide) (fun c_16 => ?_) (fun c_16 => ?_)
                            · have c_16 := z_ne (by omega) (by omega) c_16
                              refine lv_iload hx hb dX8_circlesNow_121 (lv_at hl 1 rfl) ?_
                              refine lv_istore_n (lv' := [(3, .int (zI (nm x9))), (4, .int (nI 1)), (6, .int (zI (nm x9))), (0, .ref (mx 0)), (1, .int (nI n2)), (2, .int (nI k)), (5, .int (nI u))]) hx hb dX8_circlesNow_123 rfl hl (by decide) rfl (fun ls hl => ?_)
                              refine lv_iinc (v := nI (u + 1)) (lv' := [(5, .int (nI (u + 1))), (3, .int (zI (nm x9))), (4, .int (nI 1)), (6, .int (zI (nm x9))), (0, .ref (mx 0)), (1, .int (nI n2)), (2, .int (nI k))]) hx hb dX8_circlesNow_124 hl (k := 6) rfl (z_inc _) (by decide) rfl (fun ls hl => ?_)
                              refine lv_goto (tgt := 20) hx hb dX8_circlesNow_127 (by decide) ?_
                              exact ih_L20 (u + 1) n2 (nm x9) (nI 1) (by omega) hnx.1 hnx.2.1 (Or.inr rfl) (by rw [if_pos ⟨hx9, hl1⟩, show nt - u = (nt - (u + 1)) + 1 by omega, lmC] at hn2; rw [if_neg (by omega), if_neg (by omega)] at hn2; rw [if_pos ⟨hn7, rfl⟩]; exact hn2) (by omega) _ (lv_sub hl [4, 5, 6, 1, 2, 0] rfl)
                            · have c_16 := z_eq (by omega) (by omega) c_16
                              refine lv_iinc (v := nI (n2 + 1)) (lv' := [(1, .int (nI (n2 + 1))), (4, .int (nI 1)), (6, .int (zI (nm x9))), (0, .ref (mx 0)), (2, .int (nI k)), (3, .int (zI x9)), (5, .int (nI u))]) hx hb dX8_circlesNow_115 hl (k := 3) rfl (z_inc _) (by decide) rfl (fun ls hl => ?_)
                              refine lv_iconst (v := (-1 : Int32)) hx hb dX8_circlesNow_118 (by decide) ?_
                              refine lv_istore (lv' := [(6, .int (-1 : Int32)), (1, .int (nI (n2 + 1))), (4, .int (nI 1)), (0, .ref (mx 0)), (2, .int (nI k)), (3, .int (zI x9)), (5, .int (nI u))]) hx hb dX8_circlesNow_119 hl (by decide) rfl (fun ls hl => ?_)
                              refine lv_iload hx hb dX8_circlesNow_121 (lv_at hl 0 rfl) ?_
                              refine lv_istore_n (lv' := [(3, .int (-1 : Int32)), (6, .int (-1 : Int32)), (1, .int (nI (n2 + 1))), (4, .int (nI 1)), (0, .ref (mx 0)), (2, .int (nI k)), (5, .int (nI u))]) hx hb dX8_circlesNow_123 rfl hl (by decide) rfl (fun ls hl => ?_)
                              refine lv_iinc (v := nI (u + 1)) (lv' := [(5, .int (nI (u + 1))), (3, .int (-1 : Int32)), (6, .int (-1 : Int32)), (1, .int (nI (n2 + 1))), (4, .int (nI 1)), (0, .ref (mx 0)), (2, .int (nI k))]) hx hb dX8_circlesNow_124 hl (k := 6) rfl (z_inc _) (by decide) rfl (fun ls hl => ?_)
                              refine lv_goto (tgt := 20) hx hb dX8_circlesNow_127 (by decide) ?_
                              exact ih_L20 (u + 1) (n2 + 1) 7 (nI 1) (by omega) (Nat.le_refl _) (by omega) (by first | exact Or.inl rfl | exact Or.inr rfl) (by rw [if_pos ⟨hx9, hl1⟩, show nt - u = (nt - (u + 1)) + 1 by omega, lmC] at hn2; rw [if_pos c_16] at hn2; rw [if_neg (by omega)]; exact hn2) (by omega) _ (lv_sub hl [5, 3, 6, 1, 4, 0] rfl)
                      · have hnm7 := hnx.2.2.1 (Or.inr (Or.inr (zI_inj (vG_7 hvk hnz x9 (by omega)) (vG_7 hvg hnz x9 (by omega)) c_11)))
                        refine lv_iconst (v := (-1 : Int32)) hx hb dX8_circlesNow_74 (by decide) ?_
                        refine lv_goto (tgt := 88) hx hb dX8_circlesNow_75 (by decide) ?_
                        refine lv_istore (lv' := [(6, .int (-1 : Int32)), (0, .ref (mx 0)), (1, .int (nI n2)), (2, .int (nI k)), (3, .int (zI x9)), (4, .int l9), (5, .int (nI u))]) hx hb dX8_circlesNow_88 hl (by decide) rfl (fun ls hl => ?_)
                        refine lv_iload hx hb dX8_circlesNow_90 (lv_at hl 0 rfl) ?_
                        refine lv_iconst (v := (-1 : Int32)) hx hb dX8_circlesNow_92 (by decide) ?_
                        refine lv_icmp_eq (tgt := 102) hx hb dX8_circlesNow_93 (by decide) (fun c_17 => ?_) (fun c_17 => ?_)
                        · refine lv_iconst (v := nI 1) hx hb dX8_circlesNow_102 (by decide) ?_
                          refine lv_goto (tgt := 107) hx hb dX8_circlesNow_103 (by decide) ?_
                          refine lv_istore (lv' := [(4, .int (nI 1)), (6, .int (-1 : Int32)), (0, .ref (mx 0)), (1, .int (nI n2)), (2, .int (nI k)), (3, .int (zI x9)), (5, .int (nI u))]) hx hb dX8_circlesNow_107 hl (by decide) rfl (fun ls hl => ?_)
                          refine lv_iload hx hb dX8_circlesNow_109 (lv_at hl 1 rfl) ?_
                          refine lv_iload_n hx hb dX8_circlesNow_111 rfl (lv_at hl 4 rfl) ?_
                          refine lv_icmp_ne (tgt := 121) hx hb dX8_circlesNow_112 (by decide) (fun c_18 => ?_) (fun c_18 => ?_)
                          · refine lv_iload hx hb dX8_circlesNow_121 (lv_at hl 1 rfl) ?_
                            refine lv_istore_n (lv' := [(3, .int (-1 : Int32)), (4, .int (nI 1)), (6, .int (-1 : Int32)), (0, .ref (mx 0)), (1, .int (nI n2)), (2, .int (nI k)), (5, .int (nI u))]) hx hb dX8_circlesNow_123 rfl hl (by decide) rfl (fun ls hl => ?_)
                            refine lv_iinc (v := nI (u + 1)) (lv' := [(5, .int (nI (u + 1))), (3, .int (-1 : Int32)), (4, .int (nI 1)), (6, .int (-1 : Int32)), (0, .ref (mx 0)), (1, .int (nI n2)), (2, .int (nI k))]) hx hb dX8_circlesNow_124 hl (k := 6) rfl (z_inc _) (by decide) rfl (fun ls hl => ?_)
                            refine lv_goto (tgt := 20) hx hb dX8_circlesNow_127 (by decide) ?_
                            exact ih_L20 (u + 1) n2 7 (nI 1) (by omega) (Nat.le_refl _) (by omega) (Or.inr rfl) (by rw [if_pos ⟨hx9, hl1⟩, show nt - u = (nt - (u + 1)) + 1 by omega, lmC] at hn2; rw [if_neg (by omega)]; rw [hnm7, if_neg (by omega), if_pos (Or.inl (Nat.le_refl _))] at hn2; exact hn2) (by omega) _ (lv_sub hl [4, 5, 6, 1, 2, 0] rfl)
                          · exact absurd (c_18).symm (z_m1 (by omega))
                        · exact absurd c_17 (by decide)
        exact L20 _ 0 n1 k (nI 1) (by omega) (by omega) (fun _ => by omega) (Or.inr rfl) (by rw [if_pos ⟨by omega, rfl⟩, Nat.sub_zero]) (Nat.lt_succ_self _) _ (lv_sub hl [3, 4, 5, 2, 1, 0] rfl)
  exact L4 _ 0 0 (by omega) rfl (Nat.lt_succ_self _) _ (lv_sub hl [2, 1, 0] rfl)
theorem hd_X8_circlesNow : yX8_circlesNow.cls = RX8 ∧ yX8_circlesNow.cls ≠ "java/lang/invoke/MethodHandle" ∧ yX8_circlesNow.cls ≠ "java/lang/invoke/VarHandle" ∧ (parseMethodDescriptor yX8_circlesNow.desc).map (fun d => d.parameters.length) = some 0 := by decide +kernel
set_option maxHeartbeats 4000000 in
set_option maxRecDepth 100000 in
theorem c_X8_circles (l : Launch) (D : va_G) (cI cZ cQ cJ : ClassId) (mx : Nat → Nat) (w : Nat → Int32) (nz : Nat) (q : Nat → Int32) (d : Nat → Int32) (nt : Nat) (pr : Nat → Int32) (mw : Nat → Int32) (mt : Nat → Int32) (zo : Nat → Int32) (ke : Nat → Int32) (wy : Nat → Int32) (st : Nat → Int32) (tr : Nat → Int32) (be : Nat → Int32) (ch : Nat → Int32) (th : Int32) (g : Nat → Nat) (cz : Nat → Int32) (gk : Nat → Nat) (nm : Nat → Nat) (sz : Nat) (hnz : nz ≤ 7) (hnt : nt ≤ 7) (hzo : pOK nt zo g) (hcz : pOK 7 cz g) (hvg : vG nz nt g) (hke : pOK 7 ke gk) (hvk : vG nz nt gk) (hnm : nmO nt cz g gk nm) : Met l yX8_circles (.code yX8_circles cX8_circles 1 (some .int) :: ALL) ({ frames := 2, cells := 0, slots := 0, locals := 49 } : Room) (va_Pc [.ref (mx 0)] (rw_P D cI cZ cQ cJ (wMo mx cI cZ w (nI nz) q d (nI nt) pr mw mt zo ke wy st tr be ch th) sz)) (va_Qi (fun (r9 : Int32) (u9 : Unit) => (r9 = (nI (sumT (fun u9 => lmC nm u9 nt u9) nt)))) (rw_B D (va_A (wMo mx cI cZ w (nI nz) q d (nI nt) pr mw mt zo ke wy st tr be ch th) sz) (fun u9 : Unit => wMo mx cI cZ w (nI nz) q d (nI nt) pr mw mt zo ke wy st tr be ch (nI 0))) (va_A (wMo mx cI cZ w (nI nz) q d (nI nt) pr mw mt zo ke wy st tr be ch th) sz)) 0 0 (va_A (wMo mx cI cZ w (nI nz) q d (nI nt) pr mw mt zo ke wy st tr be ch th) sz) := by
  refine Met.ofW (cc := cX8_circles) (maxL := 1) (ret := (some .int)) (by decide) rfl ?_
  intro p e s m args below meth c s₁ B hml hv
  obtain ⟨rfl, hsz, hP, hSt, hD0⟩ := hv
  have hx := B.exec
  have hb := B.bytes
  have hr := B.returns
  have hts : ∀ w ∈ ALL, w.before ([.ref (mx 0)] : List Value).toArray s = true := fun w h => atoms_spec (ws := (.code yX8_circles cX8_circles 1 (some .int) :: ALL)) B.pre w (List.mem_cons_of_mem _ h)
  have hown : s.vm.findClass RX8 = some m.cls := findClass_of_methodNamed B.named
  have hlocks := B.notSynchronized
  subst hsz
  have hD := hD0.self (sz := s.heap.size)
  clear hD0
  generalize hAe : va_A (wMo mx cI cZ w (nI nz) q d (nI nt) pr mw mt zo ke wy st tr be ch th) s.heap.size = A at hD ⊢
  have hA : ∀ q : Nat, s.heap.size ≤ q → A q := fun q h => by rw [← hAe]; exact Or.inr h
  have hS : va_S A s.heap s.heap [] := va_S.rf
  have hl := lv_entry ([.ref (mx 0)]) (n := 1) (Nat.le_of_ble_eq_true rfl)
  rw [lg_entry_eq]
  generalize (lg_sl ([.ref (mx 0)]) ++ List.replicate (1 - (lg_sl ([.ref (mx 0)])).length) Slot.unset).toArray = ls at hl ⊢
  have hl : lv_has ls 1 [(0, .ref (mx 0))] := hl
  obtain ⟨H, hHe⟩ : ∃ H : Heap, H = s.heap := ⟨_, rfl⟩
  obtain ⟨locs, hLe⟩ : ∃ L : List Loc, L = [] := ⟨_, rfl⟩
  have hP : va_P D vwCl (wMo mx cI cZ w (nI nz) q d (nI nt) pr mw mt zo ke wy st tr be ch th) H := by rw [hHe]; exact hP
  have hS : va_S A s.heap H locs := by rw [hHe, hLe]; exact hS
  refine W.eqHL hHe hLe ?_
  refine lv_aload_n hx hb dX8_circles_0 rfl (lv_at hl 0 rfl) ?_
  refine lv_aload_n hx hb dX8_circles_1 rfl (lv_at hl 0 rfl) ?_
  refine ro_V (As := []) (rest := [.ref (mx 0)]) (v := nI (sumT (fun u9 => lmC nm u9 nt u9) nt)) ⟨hx, hb, hml, hown, hts⟩ (c_X8_circlesNow l D cI cZ cQ cJ mx w nz q d nt pr mw mt zo ke wy st tr be ch th g cz gk nm (by first | assumption | omega) (by first | assumption | omega) (by first | assumption | omega) (by first | assumption | omega) (by first | assumption | omega) (by first | assumption | omega) (by first | assumption | omega) (by first | assumption | omega)) (gV t4_219 t4_221 t0_39 t1_10 t4_222) rfl rfl hd_X8_circlesNow ⟨Nat.le_of_ble_eq_true rfl, Nat.le_of_ble_eq_true rfl⟩ hP hSt (va_recv hSt.1 hP (ci := 8) (q0 := 0) rfl rfl) rfl hl.1 rfl (Nat.le_of_ble_eq_true rfl) dX8_circles_2 (Nat.zero_le _) (Nat.zero_le _) ?_
  refine rw_i (wr := ([] : va_W)) (w_V (As := [.int (nI (sumT (fun u9 => lmC nm u9 nt u9) nt))]) ⟨hx, hb, hml, hown, hts⟩ (c_X8_told l D cI cZ cQ cJ mx w nz q d nt pr mw mt zo ke wy st tr be ch th (nI (sumT (fun u9 => lmC nm u9 nt u9) nt)) H.size) (gV t4_163 t4_165 t0_38 t1_10 t4_166) rfl rfl hd_X8_told ⟨Nat.le_of_ble_eq_true rfl, Nat.le_of_ble_eq_true rfl⟩ (rw_pre hP hD hSt [0, 1, 2, 3, 4, 5, 6, 7, 8, 9, 10, 11, 12, 13] rfl (by decide)) (va_recv hSt.1 hP (ci := 8) (q0 := 0) rfl rfl) rfl hl.1 (rest := []) rfl (Nat.le_of_ble_eq_true rfl) dX8_circles_5 ⟨Nat.le_of_ble_eq_true rfl, Nat.le_of_ble_eq_true rfl⟩) hP hD hS hA [0, 1, 2, 3, 4, 5, 6, 7, 8, 9, 10, 11, 12, 13] [] rfl rfl (by decide) (by decide) (fun r_9 u_1 H locs hw9 hP hD hS => ?_)
  have er_9 := hw9
  replace er_9 := er_9.symm
  subst er_9
  have hP : va_P D vwCl (wMo mx cI cZ w (nI nz) q d (nI nt) pr mw mt zo ke wy st tr be ch (nI 0)) H := hP
  have hD : va_D A (wMo mx cI cZ w (nI nz) q d (nI nt) pr mw mt zo ke wy st tr be ch (nI 0)) := hD
  have hP9 : va_P D vwCl (wMo mx cI cZ w (nI nz) q d (nI nt) pr mw mt zo ke wy st tr be ch (nI 0)) H := hP
  have hD9 : va_D A (wMo mx cI cZ w (nI nz) q d (nI nt) pr mw mt zo ke wy st tr be ch (nI 0)) := hD
  exact W.iret (v := (nI (sumT (fun u9 => lmC nm u9 nt u9) nt))) hx hb hr (fun t9 ht9 hW9 => ⟨⟨(nI (sumT (fun u9 => lmC nm u9 nt u9) nt)), (), rfl, rfl, by rw [ht9]; exact hP9, hD9⟩, hS.F ht9⟩) hS.2.2 dX8_circles_8
set_option maxHeartbeats 4000000 in
set_option maxRecDepth 100000 in
theorem c_X8_moves (l : Launch) (D : va_G) (cI cZ cQ cJ : ClassId) (mx : Nat → Nat) (w : Nat → Int32) (nz : Nat) (q : Nat → Int32) (d : Nat → Int32) (nt : Nat) (pr : Nat → Int32) (mw : Nat → Int32) (mt : Nat → Int32) (zo : Nat → Int32) (ke : Nat → Int32) (wy : Nat → Int32) (st : Nat → Int32) (tr : Nat → Int32) (be : Nat → Int32) (ch : Nat → Int32) (th : Int32) (g : Nat → Nat) (cz : Nat → Int32) (gk : Nat → Nat) (nm : Nat → Nat) (sz : Nat) (hnz : nz ≤ 7) (hnt : nt ≤ 7) (hzo : pOK nt zo g) (hcz : pOK 7 cz g) (hvg : vG nz nt g) (hke : pOK 7 ke gk) (hvk : vG nz nt gk) (hnm : nmO nt cz g gk nm) : Met l yX8_moves (.code yX8_moves cX8_moves 3 (some .int) :: ALL) ({ frames := 2, cells := 0, slots := 0, locals := 49 } : Room) (va_Pc [.ref (mx 0)] (rw_P D cI cZ cQ cJ (wMo mx cI cZ w (nI nz) q d (nI nt) pr mw mt zo ke wy st tr be ch th) sz)) (va_Qi (fun (r9 : Int32) (u9 : Unit) => (r9 = (nI (sumT (fun u9 => lmC nm u9 nt u9) nt + cnt (fun u9 => !decide (ke u9 = zo u9)) nt)))) (rw_B D (va_A (wMo mx cI cZ w (nI nz) q d (nI nt) pr mw mt zo ke wy st tr be ch th) sz) (fun u9 : Unit => wMo mx cI cZ w (nI nz) q d (nI nt) pr mw mt zo ke wy st tr be ch (nI 0))) (va_A (wMo mx cI cZ w (nI nz) q d (nI nt) pr mw mt zo ke wy st tr be ch th) sz)) 0 0 (va_A (wMo mx cI cZ w (nI nz) q d (nI nt) pr mw mt zo ke wy st tr be ch th) sz) := by
  refine Met.ofW (cc := cX8_moves) (maxL := 3) (ret := (some .int)) (by decide) rfl ?_
  intro p e s m args below meth c s₁ B hml hv
  obtain ⟨rfl, hsz, hP, hSt, hD0⟩ := hv
  have hx := B.exec
  have hb := B.bytes
  have hr := B.returns
  have hts : ∀ w ∈ ALL, w.before ([.ref (mx 0)] : List Value).toArray s = true := fun w h => atoms_spec (ws := (.code yX8_moves cX8_moves 3 (some .int) :: ALL)) B.pre w (List.mem_cons_of_mem _ h)
  have hown : s.vm.findClass RX8 = some m.cls := findClass_of_methodNamed B.named
  have hlocks := B.notSynchronized
  subst hsz
  have hD := hD0.self (sz := s.heap.size)
  clear hD0
  generalize hAe : va_A (wMo mx cI cZ w (nI nz) q d (nI nt) pr mw mt zo ke wy st tr be ch th) s.heap.size = A at hD ⊢
  have hA : ∀ q : Nat, s.heap.size ≤ q → A q := fun q h => by rw [← hAe]; exact Or.inr h
  have hS : va_S A s.heap s.heap [] := va_S.rf
  have hl := lv_entry ([.ref (mx 0)]) (n := 3) (Nat.le_of_ble_eq_true rfl)
  rw [lg_entry_eq]
  generalize (lg_sl ([.ref (mx 0)]) ++ List.replicate (3 - (lg_sl ([.ref (mx 0)])).length) Slot.unset).toArray = ls at hl ⊢
  have hl : lv_has ls 3 [(0, .ref (mx 0))] := hl
  obtain ⟨H, hHe⟩ : ∃ H : Heap, H = s.heap := ⟨_, rfl⟩
  obtain ⟨locs, hLe⟩ : ∃ L : List Loc, L = [] := ⟨_, rfl⟩
  have hP : va_P D vwCl (wMo mx cI cZ w (nI nz) q d (nI nt) pr mw mt zo ke wy st tr be ch th) H := by rw [hHe]; exact hP
  have hS : va_S A s.heap H locs := by rw [hHe, hLe]; exact hS
  refine W.eqHL hHe hLe ?_
  refine lv_aload_n hx hb dX8_moves_0 rfl (lv_at hl 0 rfl) ?_
  refine ro_V (As := []) (rest := []) (v := nI (sumT (fun u9 => lmC nm u9 nt u9) nt)) ⟨hx, hb, hml, hown, hts⟩ (c_X8_circlesNow l D cI cZ cQ cJ mx w nz q d nt pr mw mt zo ke wy st tr be ch th g cz gk nm (by first | assumption | omega) (by first | assumption | omega) (by first | assumption | omega) (by first | assumption | omega) (by first | assumption | omega) (by first | assumption | omega) (by first | assumption | omega) (by first | assumption | omega)) (gV t4_219 t4_221 t0_39 t1_10 t4_222) rfl rfl hd_X8_circlesNow ⟨Nat.le_of_ble_eq_true rfl, Nat.le_of_ble_eq_true rfl⟩ hP hSt (va_recv hSt.1 hP (ci := 8) (q0 := 0) rfl rfl) rfl hl.1 rfl (Nat.le_of_ble_eq_true rfl) dX8_moves_1 (Nat.zero_le _) (Nat.zero_le _) ?_
  refine lv_istore_n (lv' := [(1, .int (nI (sumT (fun u9 => lmC nm u9 nt u9) nt))), (0, .ref (mx 0))]) hx hb dX8_moves_4 rfl hl (by decide) rfl (fun ls hl => ?_)
  refine lv_iconst (v := nI 0) hx hb dX8_moves_5 (by decide) ?_
  refine lv_istore_n (lv' := [(2, .int (nI 0)), (1, .int (nI (sumT (fun u9 => lmC nm u9 nt u9) nt))), (0, .ref (mx 0))]) hx hb dX8_moves_6 rfl hl (by decide) rfl (fun ls hl => ?_)
  have L7 : ∀ (n9 : Nat) (i : Nat) (n1 : Nat), (i ≤ nt) → (n1 = sumT (fun u9 => lmC nm u9 nt u9) nt + cnt (fun u9 => !decide (ke u9 = zo u9)) i) → (nt - i) < n9 → ∀ (H : Heap) (locs : List Loc), va_P D vwCl (wMo mx cI cZ w (nI nz) q d (nI nt) pr mw mt zo ke wy st tr be ch th) H → va_D A (wMo mx cI cZ w (nI nz) q d (nI nt) pr mw mt zo ke wy st tr be ch th) → va_S A s.heap H locs → ∀ (ls : Array Slot), lv_has ls 3 [(0, .ref (mx 0)), (1, .int (nI n1)), (2, .int (nI i))] → W p l e ({ frames := 2, cells := 0, slots := 0, locals := 49 } : Room) s m ([.ref (mx 0)] : List Value).toArray below meth c H locs 0 0 (MQ below (va_Qi (fun (r9 : Int32) (u9 : Unit) => (r9 = (nI (sumT (fun u9 => lmC nm u9 nt u9) nt + cnt (fun u9 => !decide (ke u9 = zo u9)) nt)))) (rw_B D A (fun u9 : Unit => wMo mx cI cZ w (nI nz) q d (nI nt) pr mw mt zo ke wy st tr be ch (nI 0))) A) ([.ref (mx 0)] : List Value).toArray s 0 0 A) (F0 m 7 ls []) := by
    intro n9
    induction n9 with
    | zero =>
      intro i n1 hi hn1 hm
      exact absurd hm (by omega)
    | succ n9 ih =>
      intro i n1 hi hn1 hm H locs hP hD hS ls hl
      have ih_L7 := ih
      refine lv_iload_n hx hb dX8_moves_7 rfl (lv_at hl 2 rfl) ?_
      refine lv_aload_n hx hb dX8_moves_8 rfl (lv_at hl 0 rfl) ?_
      refine va_get (D := D) (ci := 8) (v := .int (nI nt)) (C := RX8) (T := TX8) (N := 16) hx hb hts tu_X8 hown hSt.1 hP 0 rfl rfl 4 (by decide) (hts _ t3_224) (fun _ h9 => h9) rfl dX8_moves_9 ?_
      refine lv_icmp_ge (tgt := 44) hx hb dX8_moves_12 (by decide) (fun c_1 => ?_) (fun c_1 => ?_)
      · have c_1 := z_le (by omega) (by omega) c_1
        refine lv_aload_n hx hb dX8_moves_44 rfl (lv_at hl 0 rfl) ?_
        refine lv_iload_n hx hb dX8_moves_45 rfl (lv_at hl 1 rfl) ?_
        refine rw_i (wr := ([] : va_W)) (w_V (As := [.int (nI n1)]) ⟨hx, hb, hml, hown, hts⟩ (c_X8_told l D cI cZ cQ cJ mx w nz q d nt pr mw mt zo ke wy st tr be ch th (nI n1) H.size) (gV t4_163 t4_165 t0_38 t1_10 t4_166) rfl rfl hd_X8_told ⟨Nat.le_of_ble_eq_true rfl, Nat.le_of_ble_eq_true rfl⟩ (rw_pre hP hD hSt [0, 1, 2, 3, 4, 5, 6, 7, 8, 9, 10, 11, 12, 13] rfl (by decide)) (va_recv hSt.1 hP (ci := 8) (q0 := 0) rfl rfl) rfl hl.1 (rest := []) rfl (Nat.le_of_ble_eq_true rfl) dX8_moves_46 ⟨Nat.le_of_ble_eq_true rfl, Nat.le_of_ble_eq_true rfl⟩) hP hD hS hA [0, 1, 2, 3, 4, 5, 6, 7, 8, 9, 10, 11, 12, 13] [] rfl rfl (by decide) (by decide) (fun r_9 u_2 H locs hw9 hP hD hS => ?_)
        have er_9 := hw9
        replace er_9 := er_9.symm
        subst er_9
        have hP : va_P D vwCl (wMo mx cI cZ w (nI nz) q d (nI nt) pr mw mt zo ke wy st tr be ch (nI 0)) H := hP
        have hD : va_D A (wMo mx cI cZ w (nI nz) q d (nI nt) pr mw mt zo ke wy st tr be ch (nI 0)) := hD
        have hP9 : va_P D vwCl (wMo mx cI cZ w (nI nz) q d (nI nt) pr mw mt zo ke wy st tr be ch (nI 0)) H := hP
        have hD9 : va_D A (wMo mx cI cZ w (nI nz) q d (nI nt) pr mw mt zo ke wy st tr be ch (nI 0)) := hD
        exact W.iret (v := (nI n1)) hx hb hr (fun t9 ht9 hW9 => ⟨⟨(nI n1), (), rfl, (by rw [hn1, show i = nt by omega]), by rw [ht9]; exact hP9, hD9⟩, hS.F ht9⟩) hS.2.2 dX8_moves_49
      · have c_1 := z_nle (by omega) (by omega) c_1
        refine lv_iload_n hx hb dX8_moves_15 rfl (lv_at hl 1 rfl) ?_
        refine lv_aload_n hx hb dX8_moves_16 rfl (lv_at hl 0 rfl) ?_
        refine va_get (D := D) (ci := 8) (v := .ref (mx 8)) (C := RX8) (T := TX8) (N := 16) hx hb hts tu_X8 hown hSt.1 hP 0 rfl rfl 9 (by decide) (hts _ t3_229) (fun _ h9 => h9) rfl dX8_moves_17 ?_
        refine lv_iload_n hx hb dX8_moves_20 rfl (lv_at hl 2 rfl) ?_
        refine r_iald hx hb hSt.1 hP 8 0 rfl rfl (k := i) (by omega) (by omega) dX8_moves_21 ?_
        refine lv_aload_n hx hb dX8_moves_22 rfl (lv_at hl 0 rfl) ?_
        refine va_get (D := D) (ci := 8) (v := .ref (mx 7)) (C := RX8) (T := TX8) (N := 16) hx hb hts tu_X8 hown hSt.1 hP 0 rfl rfl 8 (by decide) (hts _ t3_228) (fun _ h9 => h9) rfl dX8_moves_23 ?_
        refine lv_iload_n hx hb dX8_moves_26 rfl (lv_at hl 2 rfl) ?_
        refine r_iald hx hb hSt.1 hP 7 0 rfl rfl (k := i) (by omega) (by omega) dX8_moves_27 ?_
        refine lv_icmp_ne (tgt := 35) hx hb dX8_moves_28 (by decide) (fun c_3 => ?_) (fun c_3 => ?_)
        · refine lv_iconst (v := nI 1) hx hb dX8_moves_35 (by decide) ?_
          refine r_addn hx hb dX8_moves_36 ?_
          refine lv_istore_n (lv' := [(1, .int (nI (n1 + 1))), (0, .ref (mx 0)), (2, .int (nI i))]) hx hb dX8_moves_37 rfl hl (by decide) rfl (fun ls hl => ?_)
          refine lv_iinc (v := nI (i + 1)) (lv' := [(2, .int (nI (i + 1))), (1, .int (nI (n1 + 1))), (0, .ref (mx 0))]) hx hb dX8_moves_38 hl (k := 2) rfl (z_inc _) (by decide) rfl (fun ls hl => ?_)
          refine lv_goto (tgt := 7) hx hb dX8_moves_41 (by decide) ?_
          exact ih_L7 (i + 1) (n1 + 1) (by omega) (by rw [cnt, hn1]; simp [c_3]; try omega) (by omega) _ _ hP hD hS _ (lv_sub hl [2, 1, 0] rfl)
        · refine lv_iconst (v := nI 0) hx hb dX8_moves_31 (by decide) ?_
          refine lv_goto (tgt := 36) hx hb dX8_moves_32 (by decide) ?_
          refine r_addn hx hb dX8_moves_36 ?_
          refine lv_istore_n (lv' := [(1, .int (nI (n1 + 0))), (0, .ref (mx 0)), (2, .int (nI i))]) hx hb dX8_moves_37 rfl hl (by decide) rfl (fun ls hl => ?_)
          refine lv_iinc (v := nI (i + 1)) (lv' := [(2, .int (nI (i + 1))), (1, .int (nI (n1 + 0))), (0, .ref (mx 0))]) hx hb dX8_moves_38 hl (k := 2) rfl (z_inc _) (by decide) rfl (fun ls hl => ?_)
          refine lv_goto (tgt := 7) hx hb dX8_moves_41 (by decide) ?_
          exact ih_L7 (i + 1) (n1 + 0) (by omega) (by rw [cnt, hn1]; simp [c_3]; try omega) (by omega) _ _ hP hD hS _ (lv_sub hl [2, 1, 0] rfl)
  exact L7 _ 0 (sumT (fun u9 => lmC nm u9 nt u9) nt) (by omega) rfl (Nat.lt_succ_self _) _ _ hP hD hS _ (lv_sub hl [2, 1, 0] rfl)
theorem hd_X8_setPresent : yX8_setPresent.cls = RX8 ∧ yX8_setPresent.cls ≠ "java/lang/invoke/MethodHandle" ∧ yX8_setPresent.cls ≠ "java/lang/invoke/VarHandle" ∧ (parseMethodDescriptor yX8_setPresent.desc).map (fun d => d.parameters.length) = some 3 := by decide +kernel
theorem hd_X8_setWish : yX8_setWish.cls = RX8 ∧ yX8_setWish.cls ≠ "java/lang/invoke/MethodHandle" ∧ yX8_setWish.cls ≠ "java/lang/invoke/VarHandle" ∧ (parseMethodDescriptor yX8_setWish.desc).map (fun d => d.parameters.length) = some 3 := by decide +kernel
theorem hd_X8_setTie : yX8_setTie.cls = RX8 ∧ yX8_setTie.cls ≠ "java/lang/invoke/MethodHandle" ∧ yX8_setTie.cls ≠ "java/lang/invoke/VarHandle" ∧ (parseMethodDescriptor yX8_setTie.desc).map (fun d => d.parameters.length) = some 3 := by decide +kernel
theorem hd_X8_place : yX8_place.cls = RX8 ∧ yX8_place.cls ≠ "java/lang/invoke/MethodHandle" ∧ yX8_place.cls ≠ "java/lang/invoke/VarHandle" ∧ (parseMethodDescriptor yX8_place.desc).map (fun d => d.parameters.length) = some 2 := by decide +kernel
theorem hd_X8_need : yX8_need.cls = RX8 ∧ yX8_need.cls ≠ "java/lang/invoke/MethodHandle" ∧ yX8_need.cls ≠ "java/lang/invoke/VarHandle" ∧ (parseMethodDescriptor yX8_need.desc).map (fun d => d.parameters.length) = some 1 := by decide +kernel
theorem hd_X8_share : yX8_share.cls = RX8 ∧ yX8_share.cls ≠ "java/lang/invoke/MethodHandle" ∧ yX8_share.cls ≠ "java/lang/invoke/VarHandle" ∧ (parseMethodDescriptor yX8_share.desc).map (fun d => d.parameters.length) = some 1 := by decide +kernel
theorem hd_X8_zoneOf : yX8_zoneOf.cls = RX8 ∧ yX8_zoneOf.cls ≠ "java/lang/invoke/MethodHandle" ∧ yX8_zoneOf.cls ≠ "java/lang/invoke/VarHandle" ∧ (parseMethodDescriptor yX8_zoneOf.desc).map (fun d => d.parameters.length) = some 1 := by decide +kernel
theorem hd_X8_teamIn : yX8_teamIn.cls = RX8 ∧ yX8_teamIn.cls ≠ "java/lang/invoke/MethodHandle" ∧ yX8_teamIn.cls ≠ "java/lang/invoke/VarHandle" ∧ (parseMethodDescriptor yX8_teamIn.desc).map (fun d => d.parameters.length) = some 1 := by decide +kernel
theorem hd_X8_free : yX8_free.cls = RX8 ∧ yX8_free.cls ≠ "java/lang/invoke/MethodHandle" ∧ yX8_free.cls ≠ "java/lang/invoke/VarHandle" ∧ (parseMethodDescriptor yX8_free.desc).map (fun d => d.parameters.length) = some 2 := by decide +kernel
theorem hd_X8_zones : yX8_zones.cls = RX8 ∧ yX8_zones.cls ≠ "java/lang/invoke/MethodHandle" ∧ yX8_zones.cls ≠ "java/lang/invoke/VarHandle" ∧ (parseMethodDescriptor yX8_zones.desc).map (fun d => d.parameters.length) = some 0 := by decide +kernel
theorem hd_X8_teams : yX8_teams.cls = RX8 ∧ yX8_teams.cls ≠ "java/lang/invoke/MethodHandle" ∧ yX8_teams.cls ≠ "java/lang/invoke/VarHandle" ∧ (parseMethodDescriptor yX8_teams.desc).map (fun d => d.parameters.length) = some 0 := by decide +kernel
theorem hd_X8_remember : yX8_remember.cls = RX8 ∧ yX8_remember.cls ≠ "java/lang/invoke/MethodHandle" ∧ yX8_remember.cls ≠ "java/lang/invoke/VarHandle" ∧ (parseMethodDescriptor yX8_remember.desc).map (fun d => d.parameters.length) = some 0 := by decide +kernel
theorem hd_X8_recall : yX8_recall.cls = RX8 ∧ yX8_recall.cls ≠ "java/lang/invoke/MethodHandle" ∧ yX8_recall.cls ≠ "java/lang/invoke/VarHandle" ∧ (parseMethodDescriptor yX8_recall.desc).map (fun d => d.parameters.length) = some 0 := by decide +kernel
theorem hd_X8_circles : yX8_circles.cls = RX8 ∧ yX8_circles.cls ≠ "java/lang/invoke/MethodHandle" ∧ yX8_circles.cls ≠ "java/lang/invoke/VarHandle" ∧ (parseMethodDescriptor yX8_circles.desc).map (fun d => d.parameters.length) = some 0 := by decide +kernel
theorem hd_X8_moves : yX8_moves.cls = RX8 ∧ yX8_moves.cls ≠ "java/lang/invoke/MethodHandle" ∧ yX8_moves.cls ≠ "java/lang/invoke/VarHandle" ∧ (parseMethodDescriptor yX8_moves.desc).map (fun d => d.parameters.length) = some 0 := by decide +kernel
