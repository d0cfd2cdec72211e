set_option maxHeartbeats 4000000 in
set_option maxRecDepth 100000 in
theorem c_X8_lays (l : Launch) (D : va_G) (cI cZ cQ cJ : ClassId) (mx : Nat → Nat) (w : Nat → Int32) (nz : Nat) (q : Nat → Int32) (d : Nat → Int32) (nt : Nat) (pr : Nat → Int32) (mw : Nat → Int32) (mt : Nat → Int32) (zo : Nat → Int32) (ke : Nat → Int32) (wy : Nat → Int32) (st : Nat → Int32) (tr : Nat → Int32) (be : Nat → Int32) (ch : Nat → Int32) (th : Int32) (pp : Nat → Nat → Nat) (n : Nat → Int32) (wi : Nat → Nat → Nat) (ti : Nat → Nat → Nat) (dd : Nat → Nat → Nat) (sq : Nat → Nat) (wb : Bool) (sz : Nat) (hnz : nz ≤ 7) (hnt : nt ≤ 7) (hpr : ∀ t, t < nt → ∀ j, j < 5 → pr (5 * t + j) = nI (pp t j) ∧ pp t j ≤ 60) (hnn : ∀ t, t < nt → n t = nI (ndN (pp t))) (hmw : ∀ t z, t < 7 → z < 7 → mw (7 * t + z) = nI (wi t z)) (hmt : ∀ t o, t < 7 → o < 7 → mt (7 * t + o) = nI (ti t o)) (hq : ∀ o, o < nz → q o = nI (sq o) ∧ sq o < 64 ∧ w (sq o) = 0) (hdD : ∀ u v, u < nz → v < nz → isD w (sq u) (sq v) (nI (dd u v))) (hv : vOK nz wi ti dd) : Met l yX8_lays (.code yX8_lays cX8_lays 4 (some .int) :: ALL) ({ frames := 6, cells := 0, slots := 0, locals := 137 } : Room) (va_Pc [.ref (mx 0), .int (bB wb)] (rw_P D cI cZ cQ cJ (wMo mx cI cZ w (nI nz) q d (nI nt) pr mw mt zo ke wy st tr be ch th) sz)) (va_Qi (fun (r9 : Int32) (u9 : Int32 × Nat × (Nat → Int32) × (Nat → Int32) × (Nat → Int32) × (Nat → Int32) × (Nat → Int32)) => (r9 = u9.1) ∧ (sBest wb nt nz n d wi ti dd u9.2.1 u9.1 u9.2.2.2.2.2.2) ∧ (∀ t5, t5 < nt → u9.2.2.1 t5 = if u9.2.1 = 0 then u9.2.2.2.2.2.2 t5 else zo t5)) (rw_B D (va_A (wMo mx cI cZ w (nI nz) q d (nI nt) pr mw mt zo ke wy st tr be ch th) sz) (fun u9 : Int32 × Nat × (Nat → Int32) × (Nat → Int32) × (Nat → Int32) × (Nat → Int32) × (Nat → Int32) => wMo mx cI cZ w (nI nz) q d (nI nt) pr mw mt u9.2.2.1 ke u9.2.2.2.1 u9.2.2.2.2.1 u9.2.2.2.2.2.1 u9.2.2.2.2.2.2 ch (nI u9.2.1))) (va_A (wMo mx cI cZ w (nI nz) q d (nI nt) pr mw mt zo ke wy st tr be ch th) sz)) 0 0 (va_A (wMo mx cI cZ w (nI nz) q d (nI nt) pr mw mt zo ke wy st tr be ch th) sz) := by
  refine Met.ofW (cc := cX8_lays) (maxL := 4) (ret := (some .int)) (by decide) rfl ?_
  intro p e s m args below meth c s₁ B hml hv
  obtain ⟨rfl, hsz, hP, hSt, hD0⟩ := hv
  have hx := B.exec
  have hb := B.bytes
  have hr := B.returns
  have hts : ∀ w ∈ ALL, w.before ([.ref (mx 0), .int (bB wb)] : List Value).toArray s = true := fun w h => atoms_spec (ws := (.code yX8_lays cX8_lays 4 (some .int) :: ALL)) B.pre w (List.mem_cons_of_mem _ h)
  have hown : s.vm.findClass RX8 = some m.cls := findClass_of_methodNamed B.named
  have hlocks := B.notSynchronized
  subst hsz
  have hD := hD0.self (sz := s.heap.size)
  clear hD0
  generalize hAe : va_A (wMo mx cI cZ w (nI nz) q d (nI nt) pr mw mt zo ke wy st tr be ch th) s.heap.size = A at hD ⊢
  have hA : ∀ q : Nat, s.heap.size ≤ q → A q := fun q h => by rw [← hAe]; exact Or.inr h
  have hS : va_S A s.heap s.heap [] := va_S.rf
  have hl := lv_entry ([.ref (mx 0), .int (bB wb)]) (n := 4) (Nat.le_of_ble_eq_true rfl)
  rw [lg_entry_eq]
  generalize (lg_sl ([.ref (mx 0), .int (bB wb)]) ++ List.replicate (4 - (lg_sl ([.ref (mx 0), .int (bB wb)])).length) Slot.unset).toArray = ls at hl ⊢
  have hl : lv_has ls 4 [(0, .ref (mx 0)), (1, .int (bB wb))] := hl
  obtain ⟨H, hHe⟩ : ∃ H : Heap, H = s.heap := ⟨_, rfl⟩
  obtain ⟨locs, hLe⟩ : ∃ L : List Loc, L = [] := ⟨_, rfl⟩
  have hP : va_P D vwCl (wMo mx cI cZ w (nI nz) q d (nI nt) pr mw mt zo ke wy st tr be ch th) H := by rw [hHe]; exact hP
  have hS : va_S A s.heap H locs := by rw [hHe, hLe]; exact hS
  refine W.eqHL hHe hLe ?_
  refine lv_aload_n hx hb dX8_lays_0 rfl (lv_at hl 0 rfl) ?_
  refine lv_iload_n hx hb dX8_lays_1 rfl (lv_at hl 1 rfl) ?_
  refine rw_i (wr := ([] : va_W)) (w_V (As := [.int (bB wb)]) ⟨hx, hb, hml, hown, hts⟩ (c_X8_tries l D cI cZ cQ cJ mx w nz q d nt pr mw mt zo ke wy st tr be ch th pp n wi ti dd sq wb H.size (by first | assumption | omega) (by first | assumption | omega) (by first | assumption | omega) (by first | assumption | omega) (by first | assumption | omega) (by first | assumption | omega) (by first | assumption | omega) (by first | assumption | omega) (by first | assumption | omega)) (gV t4_115 t4_117 t0_29 t1_10 t4_118) rfl rfl hd_X8_tries ⟨Nat.le_of_ble_eq_true rfl, Nat.le_of_ble_eq_true rfl⟩ (rw_pre hP hD hSt [0, 1, 2, 3, 4, 5, 6, 7, 8, 9, 10, 11, 12, 13] rfl (by decide)) (va_recv hSt.1 hP (ci := 8) (q0 := 0) rfl rfl) rfl hl.1 (rest := []) rfl (Nat.le_of_ble_eq_true rfl) dX8_lays_2 ⟨Nat.le_of_ble_eq_true rfl, Nat.le_of_ble_eq_true rfl⟩) hP hD hS hA [0, 1, 2, 3, 4, 5, 6, 7, 8, 9, 10, 11, 12, 13] [] rfl rfl (by decide) (by decide) (fun r_9 u_6 H locs hw9 hP hD hS => ?_)
  obtain ⟨j_1, j_2, j_3, j_4, j_5⟩ := u_6
  obtain ⟨er_9, f_7⟩ := hw9
  replace er_9 := er_9.symm
  subst er_9
  have hSR : SR nt (fun g9 => pcN wb wi ti dd g9 nt) (cmp nz nt (fun t9 z9 => n t9 ≤ d z9)) 1000000 be j_5 j_4 := f_7
  have hP : va_P D vwCl (wMo mx cI cZ w (nI nz) q d (nI nt) pr mw mt zo ke j_1 j_2 j_3 j_4 ch th) H := hP
  have hD : va_D A (wMo mx cI cZ w (nI nz) q d (nI nt) pr mw mt zo ke j_1 j_2 j_3 j_4 ch th) := hD
  have hP77 := hP
  have hD77 := hD
  obtain ⟨be9, ebe9⟩ : ∃ z9, z9 = j_4 := ⟨_, rfl⟩
  subst ebe9
  obtain ⟨kc9, ekc9⟩ : ∃ z9, z9 = j_5 := ⟨_, rfl⟩
  subst ekc9
  have hP := hP77
  have hD := hD77
  refine lv_istore_n (lv' := [(2, .int (lI kc9)), (0, .ref (mx 0)), (1, .int (bB wb))]) hx hb dX8_lays_5 rfl hl (by decide) rfl (fun ls hl => ?_)
  refine lv_aload_n hx hb dX8_lays_6 rfl (lv_at hl 1 rfl) ?_
  refine lv_iload_n hx hb dX8_lays_7 rfl (lv_at hl 0 rfl) ?_
  refine lv_iconst (v := (-1 : Int32)) hx hb dX8_lays_8 (by decide) ?_
  refine lv_icmp_eq (tgt := 16) hx hb dX8_lays_9 (by decide) (fun c_8 => ?_) (fun c_8 => ?_)
  · refine lv_iconst (v := nI 0) hx hb dX8_lays_16 (by decide) ?_
    refine rw_i (wr := ([] : va_W)) (w_V (As := [.int (nI 0)]) ⟨hx, hb, hml, hown, hts⟩ (c_X8_asked l D cI cZ cQ cJ mx w nz q d nt pr mw mt zo ke j_1 j_2 j_3 be9 ch th (nI 0) H.size (by first | exact Or.inl rfl | exact Or.inr rfl)) (gV t4_79 t4_81 t0_25 t1_10 t4_82) rfl rfl hd_X8_asked ⟨Nat.le_of_ble_eq_true rfl, Nat.le_of_ble_eq_true rfl⟩ (rw_pre hP hD hSt [0, 1, 2, 3, 4, 5, 6, 7, 8, 9, 10, 11, 12, 13] rfl (by decide)) (va_recv hSt.1 hP (ci := 8) (q0 := 0) rfl rfl) rfl hl.1 (rest := []) rfl (Nat.le_of_ble_eq_true rfl) dX8_lays_17 ⟨Nat.le_of_ble_eq_true rfl, Nat.le_of_ble_eq_true rfl⟩) hP hD hS hA [0, 1, 2, 3, 4, 5, 6, 7, 8, 9, 10, 11, 12, 13] [] rfl rfl (by decide) (by decide) (fun r_9 u_9 H locs hw9 hP hD hS => ?_)
    have er_9 := hw9
    replace er_9 := er_9.symm
    subst er_9
    have hP : va_P D vwCl (wMo mx cI cZ w (nI nz) q d (nI nt) pr mw mt zo ke j_1 j_2 j_3 be9 ch (nI (as1 (nI 0)))) H := hP
    have hD : va_D A (wMo mx cI cZ w (nI nz) q d (nI nt) pr mw mt zo ke j_1 j_2 j_3 be9 ch (nI (as1 (nI 0)))) := hD
    refine lv_if_ne (tgt := 25) hx hb dX8_lays_20 (by decide) (fun c_10 => ?_) (fun c_10 => ?_)
    · exact absurd c_10 (by decide)
    · refine lv_iconst (v := nI 0) hx hb dX8_lays_23 (by decide) ?_
      have hP9 : va_P D vwCl (wMo mx cI cZ w (nI nz) q d (nI nt) pr mw mt zo ke j_1 j_2 j_3 be9 ch (nI (as1 (nI 0)))) H := hP
      have hD9 : va_D A (wMo mx cI cZ w (nI nz) q d (nI nt) pr mw mt zo ke j_1 j_2 j_3 be9 ch (nI (as1 (nI 0)))) := hD
      have g_11 : sBest wb nt nz n d wi ti dd (as1 (nI 0)) (nI 0) be9 := ⟨_, _, hSR, Or.inl ⟨by have h7 := lI_none c_8; have h8 := SR_le hSR; omega, if_pos nI0⟩⟩
      have g_12 : ∀ t5, t5 < nt → zo t5 = if (as1 (nI 0)) = 0 then be9 t5 else zo t5 := fun t ht => by rw [if_neg (by decide)]
      exact W.iret (v := nI 0) hx hb hr (fun t9 ht9 hW9 => ⟨⟨nI 0, (nI 0, as1 (nI 0), zo, j_1, j_2, j_3, be9), rfl, ⟨rfl, g_11, g_12⟩, by rw [ht9]; exact hP9, hD9⟩, hS.F ht9⟩) hS.2.2 dX8_lays_24
  · refine lv_iconst (v := nI 1) hx hb dX8_lays_12 (by decide) ?_
    refine lv_goto (tgt := 17) hx hb dX8_lays_13 (by decide) ?_
    refine rw_i (wr := ([] : va_W)) (w_V (As := [.int (nI 1)]) ⟨hx, hb, hml, hown, hts⟩ (c_X8_asked l D cI cZ cQ cJ mx w nz q d nt pr mw mt zo ke j_1 j_2 j_3 be9 ch th (nI 1) H.size (by first | exact Or.inl rfl | exact Or.inr rfl)) (gV t4_79 t4_81 t0_25 t1_10 t4_82) rfl rfl hd_X8_asked ⟨Nat.le_of_ble_eq_true rfl, Nat.le_of_ble_eq_true rfl⟩ (rw_pre hP hD hSt [0, 1, 2, 3, 4, 5, 6, 7, 8, 9, 10, 11, 12, 13] rfl (by decide)) (va_recv hSt.1 hP (ci := 8) (q0 := 0) rfl rfl) rfl hl.1 (rest := []) rfl (Nat.le_of_ble_eq_true rfl) dX8_lays_17 ⟨Nat.le_of_ble_eq_true rfl, Nat.le_of_ble_eq_true rfl⟩) hP hD hS hA [0, 1, 2, 3, 4, 5, 6, 7, 8, 9, 10, 11, 12, 13] [] rfl rfl (by decide) (by decide) (fun r_9 u_13 H locs hw9 hP hD hS => ?_)
    have er_9 := hw9
    replace er_9 := er_9.symm
    subst er_9
    have hP : va_P D vwCl (wMo mx cI cZ w (nI nz) q d (nI nt) pr mw mt zo ke j_1 j_2 j_3 be9 ch (nI (as1 (nI 1)))) H := hP
    have hD : va_D A (wMo mx cI cZ w (nI nz) q d (nI nt) pr mw mt zo ke j_1 j_2 j_3 be9 ch (nI (as1 (nI 1)))) := hD
    refine lv_if_ne (tgt := 25) hx hb dX8_lays_20 (by decide) (fun c_14 => ?_) (fun c_14 => ?_)
    · refine lv_iconst (v := nI 0) hx hb dX8_lays_25 (by decide) ?_
      refine lv_istore_n (lv' := [(3, .int (nI 0)), (2, .int (lI kc9)), (0, .ref (mx 0)), (1, .int (bB wb))]) hx hb dX8_lays_26 rfl hl (by decide) rfl (fun ls hl => ?_)
      have L27 : ∀ (n9 : Nat) (i : Nat) (z1 : Nat → Int32), (i ≤ nt) → (∀ t, t < i → z1 t = be9 t) → (nt - i) < n9 → ∀ (H : Heap) (locs : List Loc), va_P D vwCl (wMo mx cI cZ w (nI nz) q d (nI nt) pr mw mt z1 ke j_1 j_2 j_3 be9 ch (nI (as1 (nI 1)))) H → va_D A (wMo mx cI cZ w (nI nz) q d (nI nt) pr mw mt z1 ke j_1 j_2 j_3 be9 ch (nI (as1 (nI 1)))) → va_S A s.heap H locs → ∀ (ls : Array Slot), lv_has ls 4 [(0, .ref (mx 0)), (2, .int (lI kc9)), (3, .int (nI i))] → W p l e ({ frames := 6, cells := 0, slots := 0, locals := 137 } : Room) s m ([.ref (mx 0), .int (bB wb)] : List Value).toArray below meth c H locs 0 0 (MQ below (va_Qi (fun (r9 : Int32) (u9 : Int32 × Nat × (Nat → Int32) × (Nat → Int32) × (Nat → Int32) × (Nat → Int32) × (Nat → Int32)) => (r9 = u9.1) ∧ (sBest wb nt nz n d wi ti dd u9.2.1 u9.1 u9.2.2.2.2.2.2) ∧ (∀ t5, t5 < nt → u9.2.2.1 t5 = if u9.2.1 = 0 then u9.2.2.2.2.2.2 t5 else zo t5)) (rw_B D A (fun u9 : Int32 × Nat × (Nat → Int32) × (Nat → Int32) × (Nat → Int32) × (Nat → Int32) × (Nat → Int32) => wMo mx cI cZ w (nI nz) q d (nI nt) pr mw mt u9.2.2.1 ke u9.2.2.2.1 u9.2.2.2.2.1 u9.2.2.2.2.2.1 u9.2.2.2.2.2.2 ch (nI u9.2.1))) A) ([.ref (mx 0), .int (bB wb)] : List Value).toArray s 0 0 A) (F0 m 27 ls []) := by
        intro n9
        induction n9 with
        | zero =>
          intro i z1 hi hz1 hm
          exact absurd hm (by omega)
        | succ n9 ih =>
          intro i z1 hi hz1 hm H locs hP hD hS ls hl
          have ih_L27 := ih
          refine lv_iload_n hx hb dX8_lays_27 rfl (lv_at hl 2 rfl) ?_
          refine lv_aload_n hx hb dX8_lays_28 rfl (lv_at hl 0 rfl) ?_
          refine va_get (D := D) (ci := 8) (v := .int (nI nt)) (C := RX8) (T := TX8) (N := 16) hx hb hts tu_X8 hown hSt.1 hP 0 rfl rfl 4 (by decide) (hts _ t3_224) (fun _ h9 => h9) rfl dX8_lays_29 ?_
          refine lv_icmp_ge (tgt := 53) hx hb dX8_lays_32 (by decide) (fun c_15 => ?_) (fun c_15 => ?_)
          · have c_15 := z_le (by omega) (by omega) c_15
            refine lv_iload_n hx hb dX8_lays_53 rfl (lv_at hl 1 rfl) ?_
            have hP9 : va_P D vwCl (wMo mx cI cZ w (nI nz) q d (nI nt) pr mw mt z1 ke j_1 j_2 j_3 be9 ch (nI (as1 (nI 1)))) H := hP
            have hD9 : va_D A (wMo mx cI cZ w (nI nz) q d (nI nt) pr mw mt z1 ke j_1 j_2 j_3 be9 ch (nI (as1 (nI 1)))) := hD
            have g_16 : sBest wb nt nz n d wi ti dd (as1 (nI 1)) (lI kc9) be9 := ⟨_, _, hSR, Or.inr ⟨lI_some c_8, if_neg nI1, lI_lt (lI_some c_8)⟩⟩
            have g_17 : ∀ t5, t5 < nt → z1 t5 = if (as1 (nI 1)) = 0 then be9 t5 else zo t5 := fun t ht => by rw [if_pos (show as1 (nI 1) = 0 from if_neg nI1)]; exact hz1 t (by omega)
            exact W.iret (v := lI kc9) hx hb hr (fun t9 ht9 hW9 => ⟨⟨lI kc9, (lI kc9, as1 (nI 1), z1, j_1, j_2, j_3, be9), rfl, ⟨rfl, g_16, g_17⟩, by rw [ht9]; exact hP9, hD9⟩, hS.F ht9⟩) hS.2.2 dX8_lays_54
          · have c_15 := z_nle (by omega) (by omega) c_15
            refine lv_aload_n hx hb dX8_lays_35 rfl (lv_at hl 0 rfl) ?_
            refine va_get (D := D) (ci := 8) (v := .ref (mx 7)) (C := RX8) (T := TX8) (N := 16) hx hb hts tu_X8 hown hSt.1 hP 0 rfl rfl 8 (by decide) (hts _ t3_228) (fun _ h9 => h9) rfl dX8_lays_36 ?_
            refine lv_iload_n hx hb dX8_lays_39 rfl (lv_at hl 2 rfl) ?_
            refine lv_aload_n hx hb dX8_lays_40 rfl (lv_at hl 0 rfl) ?_
            refine va_get (D := D) (ci := 8) (v := .ref (mx 12)) (C := RX8) (T := TX8) (N := 16) hx hb hts tu_X8 hown hSt.1 hP 0 rfl rfl 13 (by decide) (hts _ t3_233) (fun _ h9 => h9) rfl dX8_lays_41 ?_
            refine lv_iload_n hx hb dX8_lays_44 rfl (lv_at hl 2 rfl) ?_
            refine r_iald hx hb hSt.1 hP 12 0 rfl rfl (k := i) (by omega) (by omega) dX8_lays_45 ?_
            refine r_iast hx hb hSt.1 hP hD hS 7 0 rfl rfl (k := i) (by omega) (by omega) dX8_lays_46 (fun H locs hP hD hS => ?_)
            have hP : va_P D vwCl (wMo mx cI cZ w (nI nz) q d (nI nt) pr mw mt (upd z1 i (be9 i)) ke j_1 j_2 j_3 be9 ch (nI (as1 (nI 1)))) H := hP
            have hD : va_D A (wMo mx cI cZ w (nI nz) q d (nI nt) pr mw mt (upd z1 i (be9 i)) ke j_1 j_2 j_3 be9 ch (nI (as1 (nI 1)))) := hD
            refine lv_iinc (v := nI (i + 1)) (lv' := [(3, .int (nI (i + 1))), (0, .ref (mx 0)), (2, .int (lI kc9))]) hx hb dX8_lays_47 hl (k := 2) rfl (z_inc _) (by decide) rfl (fun ls hl => ?_)
            refine lv_goto (tgt := 27) hx hb dX8_lays_50 (by decide) ?_
            exact ih_L27 (i + 1) (upd z1 i (be9 i)) (by omega) (fun t ht => if e : t = i then (by rw [e, pk_us]) else (by rw [pk_un e]; exact hz1 t (by omega))) (by omega) _ _ hP hD hS _ (lv_sub hl [1, 2, 0] rfl)
      exact L27 _ 0 zo (by omega) (fun t ht => absurd ht (by omega)) (Nat.lt_succ_self _) _ _ hP hD hS _ (lv_sub hl [2, 1, 0] rfl)
    · exact absurd c_14 (by decide)
theorem hd_X8_lays : yX8_lays.cls = RX8 ∧ yX8_lays.cls ≠ "java/lang/invoke/MethodHandle" ∧ yX8_lays.cls ≠ "java/lang/invoke/VarHandle" ∧ (parseMethodDescriptor yX8_lays.desc).map (fun d => d.parameters.length) = some 1 := by decide +kernel
set_option maxHeartbeats 4000000 in
set_option maxRecDepth 100000 in
theorem c_X8_placeByWishes (l : Launch) (D : va_G) (cI cZ cQ cJ : ClassId) (mx : Nat → Nat) (w : Nat → Int32) (nz : Nat) (q : Nat → Int32) (d : Nat → Int32) (nt : Nat) (pr : Nat → Int32) (mw : Nat → Int32) (mt : Nat → Int32) (zo : Nat → Int32) (ke : Nat → Int32) (wy : Nat → Int32) (st : Nat → Int32) (tr : Nat → Int32) (be : Nat → Int32) (ch : Nat → Int32) (th : Int32) (pp : Nat → Nat → Nat) (n : Nat → Int32) (wi : Nat → Nat → Nat) (ti : Nat → Nat → Nat) (dd : Nat → Nat → Nat) (sq : Nat → Nat) (sz : Nat) (hnz : nz ≤ 7) (hnt : nt ≤ 7) (hpr : ∀ t, t < nt → ∀ j, j < 5 → pr (5 * t + j) = nI (pp t j) ∧ pp t j ≤ 60) (hnn : ∀ t, t < nt → n t = nI (ndN (pp t))) (hmw : ∀ t z, t < 7 → z < 7 → mw (7 * t + z) = nI (wi t z)) (hmt : ∀ t o, t < 7 → o < 7 → mt (7 * t + o) = nI (ti t o)) (hq : ∀ o, o < nz → q o = nI (sq o) ∧ sq o < 64 ∧ w (sq o) = 0) (hdD : ∀ u v, u < nz → v < nz → isD w (sq u) (sq v) (nI (dd u v))) (hv : vOK nz wi ti dd) : Met l yX8_placeByWishes (.code yX8_placeByWishes cX8_placeByWishes 1 (some .int) :: ALL) ({ frames := 7, cells := 0, slots := 0, locals := 160 } : Room) (va_Pc [.ref (mx 0)] (rw_P D cI cZ cQ cJ (wMo mx cI cZ w (nI nz) q d (nI nt) pr mw mt zo ke wy st tr be ch th) sz)) (va_Qi (fun (r9 : Int32) (u9 : Int32 × Nat × (Nat → Int32) × (Nat → Int32) × (Nat → Int32) × (Nat → Int32) × (Nat → Int32)) => (r9 = u9.1) ∧ (sBest false nt nz n d wi ti dd u9.2.1 u9.1 u9.2.2.2.2.2.2) ∧ (∀ t5, t5 < nt → u9.2.2.1 t5 = if u9.2.1 = 0 then u9.2.2.2.2.2.2 t5 else zo t5)) (rw_B D (va_A (wMo mx cI cZ w (nI nz) q d (nI nt) pr mw mt zo ke wy st tr be ch th) sz) (fun u9 : Int32 × Nat × (Nat → Int32) × (Nat → Int32) × (Nat → Int32) × (Nat → Int32) × (Nat → Int32) => wMo mx cI cZ w (nI nz) q d (nI nt) pr mw mt u9.2.2.1 ke u9.2.2.2.1 u9.2.2.2.2.1 u9.2.2.2.2.2.1 u9.2.2.2.2.2.2 ch (nI u9.2.1))) (va_A (wMo mx cI cZ w (nI nz) q d (nI nt) pr mw mt zo ke wy st tr be ch th) sz)) 0 0 (va_A (wMo mx cI cZ w (nI nz) q d (nI nt) pr mw mt zo ke wy st tr be ch th) sz) := by
  refine Met.ofW (cc := cX8_placeByWishes) (maxL := 1) (ret := (some .int)) (by decide) rfl ?_
  intro p e s m args below meth c s₁ B hml hv
  obtain ⟨rfl, hsz, hP, hSt, hD0⟩ := hv
  have hx := B.exec
  have hb := B.bytes
  have hr := B.returns
  have hts : ∀ w ∈ ALL, w.before ([.ref (mx 0)] : List Value).toArray s = true := fun w h => atoms_spec (ws := (.code yX8_placeByWishes cX8_placeByWishes 1 (some .int) :: ALL)) B.pre w (List.mem_cons_of_mem _ h)
  have hown : s.vm.findClass RX8 = some m.cls := findClass_of_methodNamed B.named
  have hlocks := B.notSynchronized
  subst hsz
  have hD := hD0.self (sz := s.heap.size)
  clear hD0
  generalize hAe : va_A (wMo mx cI cZ w (nI nz) q d (nI nt) pr mw mt zo ke wy st tr be ch th) s.heap.size = A at hD ⊢
  have hA : ∀ q : Nat, s.heap.size ≤ q → A q := fun q h => by rw [← hAe]; exact Or.inr h
  have hS : va_S A s.heap s.heap [] := va_S.rf
  have hl := lv_entry ([.ref (mx 0)]) (n := 1) (Nat.le_of_ble_eq_true rfl)
  rw [lg_entry_eq]
  generalize (lg_sl ([.ref (mx 0)]) ++ List.replicate (1 - (lg_sl ([.ref (mx 0)])).length) Slot.unset).toArray = ls at hl ⊢
  have hl : lv_has ls 1 [(0, .ref (mx 0))] := hl
  obtain ⟨H, hHe⟩ : ∃ H : Heap, H = s.heap := ⟨_, rfl⟩
  obtain ⟨locs, hLe⟩ : ∃ L : List Loc, L = [] := ⟨_, rfl⟩
  have hP : va_P D vwCl (wMo mx cI cZ w (nI nz) q d (nI nt) pr mw mt zo ke wy st tr be ch th) H := by rw [hHe]; exact hP
  have hS : va_S A s.heap H locs := by rw [hHe, hLe]; exact hS
  refine W.eqHL hHe hLe ?_
  refine lv_aload_n hx hb dX8_placeByWishes_0 rfl (lv_at hl 0 rfl) ?_
  refine lv_iconst (v := nI 0) hx hb dX8_placeByWishes_1 (by decide) ?_
  refine lv_as (y := bB false) (rfl) ?_
  refine rw_i (wr := ([] : va_W)) (w_V (As := [.int (bB false)]) ⟨hx, hb, hml, hown, hts⟩ (c_X8_lays l D cI cZ cQ cJ mx w nz q d nt pr mw mt zo ke wy st tr be ch th pp n wi ti dd sq false H.size (by first | assumption | omega) (by first | assumption | omega) (by first | assumption | omega) (by first | assumption | omega) (by first | assumption | omega) (by first | assumption | omega) (by first | assumption | omega) (by first | assumption | omega) (by first | assumption | omega)) (gV t4_111 t4_113 t0_28 t1_10 t4_114) rfl rfl hd_X8_lays ⟨Nat.le_of_ble_eq_true rfl, Nat.le_of_ble_eq_true rfl⟩ (rw_pre hP hD hSt [0, 1, 2, 3, 4, 5, 6, 7, 8, 9, 10, 11, 12, 13] rfl (by decide)) (va_recv hSt.1 hP (ci := 8) (q0 := 0) rfl rfl) rfl hl.1 (rest := []) rfl (Nat.le_of_ble_eq_true rfl) dX8_placeByWishes_2 ⟨Nat.le_of_ble_eq_true rfl, Nat.le_of_ble_eq_true rfl⟩) hP hD hS hA [0, 1, 2, 3, 4, 5, 6, 7, 8, 9, 10, 11, 12, 13] [] rfl rfl (by decide) (by decide) (fun r_9 u_8 H locs hw9 hP hD hS => ?_)
  obtain ⟨j_1, j_2, j_3, j_4, j_5, j_6, j_7⟩ := u_8
  obtain ⟨er_9, f_9, f_10⟩ := hw9
  replace er_9 := er_9.symm
  subst er_9
  have hs : sBest false nt nz n d wi ti dd j_2 j_1 j_7 := f_9
  have hz2 : ∀ t5, t5 < nt → j_3 t5 = if j_2 = 0 then j_7 t5 else zo t5 := f_10
  have hP : va_P D vwCl (wMo mx cI cZ w (nI nz) q d (nI nt) pr mw mt j_3 ke j_4 j_5 j_6 j_7 ch (nI j_2)) H := hP
  have hD : va_D A (wMo mx cI cZ w (nI nz) q d (nI nt) pr mw mt j_3 ke j_4 j_5 j_6 j_7 ch (nI j_2)) := hD
  have hP9 : va_P D vwCl (wMo mx cI cZ w (nI nz) q d (nI nt) pr mw mt j_3 ke j_4 j_5 j_6 j_7 ch (nI j_2)) H := hP
  have hD9 : va_D A (wMo mx cI cZ w (nI nz) q d (nI nt) pr mw mt j_3 ke j_4 j_5 j_6 j_7 ch (nI j_2)) := hD
  have g_11 : sBest false nt nz n d wi ti dd j_2 j_1 j_7 := hs
  have g_12 : ∀ t5, t5 < nt → j_3 t5 = if j_2 = 0 then j_7 t5 else zo t5 := hz2
  exact W.iret (v := j_1) hx hb hr (fun t9 ht9 hW9 => ⟨⟨j_1, (j_1, j_2, j_3, j_4, j_5, j_6, j_7), rfl, ⟨rfl, g_11, g_12⟩, by rw [ht9]; exact hP9, hD9⟩, hS.F ht9⟩) hS.2.2 dX8_placeByWishes_5
set_option maxHeartbeats 4000000 in
set_option maxRecDepth 100000 in
theorem c_X8_placeBest (l : Launch) (D : va_G) (cI cZ cQ cJ : ClassId) (mx : Nat → Nat) (w : Nat → Int32) (nz : Nat) (q : Nat → Int32) (d : Nat → Int32) (nt : Nat) (pr : Nat → Int32) (mw : Nat → Int32) (mt : Nat → Int32) (zo : Nat → Int32) (ke : Nat → Int32) (wy : Nat → Int32) (st : Nat → Int32) (tr : Nat → Int32) (be : Nat → Int32) (ch : Nat → Int32) (th : Int32) (pp : Nat → Nat → Nat) (n : Nat → Int32) (wi : Nat → Nat → Nat) (ti : Nat → Nat → Nat) (dd : Nat → Nat → Nat) (sq : Nat → Nat) (sz : Nat) (hnz : nz ≤ 7) (hnt : nt ≤ 7) (hpr : ∀ t, t < nt → ∀ j, j < 5 → pr (5 * t + j) = nI (pp t j) ∧ pp t j ≤ 60) (hnn : ∀ t, t < nt → n t = nI (ndN (pp t))) (hmw : ∀ t z, t < 7 → z < 7 → mw (7 * t + z) = nI (wi t z)) (hmt : ∀ t o, t < 7 → o < 7 → mt (7 * t + o) = nI (ti t o)) (hq : ∀ o, o < nz → q o = nI (sq o) ∧ sq o < 64 ∧ w (sq o) = 0) (hdD : ∀ u v, u < nz → v < nz → isD w (sq u) (sq v) (nI (dd u v))) (hv : vOK nz wi ti dd) : Met l yX8_placeBest (.code yX8_placeBest cX8_placeBest 1 (some .int) :: ALL) ({ frames := 7, cells := 0, slots := 0, locals := 160 } : Room) (va_Pc [.ref (mx 0)] (rw_P D cI cZ cQ cJ (wMo mx cI cZ w (nI nz) q d (nI nt) pr mw mt zo ke wy st tr be ch th) sz)) (va_Qi (fun (r9 : Int32) (u9 : Int32 × Nat × (Nat → Int32) × (Nat → Int32) × (Nat → Int32) × (Nat → Int32) × (Nat → Int32)) => (r9 = u9.1) ∧ (sBest true nt nz n d wi ti dd u9.2.1 u9.1 u9.2.2.2.2.2.2) ∧ (∀ t5, t5 < nt → u9.2.2.1 t5 = if u9.2.1 = 0 then u9.2.2.2.2.2.2 t5 else zo t5)) (rw_B D (va_A (wMo mx cI cZ w (nI nz) q d (nI nt) pr mw mt zo ke wy st tr be ch th) sz) (fun u9 : Int32 × Nat × (Nat → Int32) × (Nat → Int32) × (Nat → Int32) × (Nat → Int32) × (Nat → Int32) => wMo mx cI cZ w (nI nz) q d (nI nt) pr mw mt u9.2.2.1 ke u9.2.2.2.1 u9.2.2.2.2.1 u9.2.2.2.2.2.1 u9.2.2.2.2.2.2 ch (nI u9.2.1))) (va_A (wMo mx cI cZ w (nI nz) q d (nI nt) pr mw mt zo ke wy st tr be ch th) sz)) 0 0 (va_A (wMo mx cI cZ w (nI nz) q d (nI nt) pr mw mt zo ke wy st tr be ch th) sz) := by
  refine Met.ofW (cc := cX8_placeBest) (maxL := 1) (ret := (some .int)) (by decide) rfl ?_
  intro p e s m args below meth c s₁ B hml hv
  obtain ⟨rfl, hsz, hP, hSt, hD0⟩ := hv
  have hx := B.exec
  have hb := B.bytes
  have hr := B.returns
  have hts : ∀ w ∈ ALL, w.before ([.ref (mx 0)] : List Value).toArray s = true := fun w h => atoms_spec (ws := (.code yX8_placeBest cX8_placeBest 1 (some .int) :: ALL)) B.pre w (List.mem_cons_of_mem _ h)
  have hown : s.vm.findClass RX8 = some m.cls := findClass_of_methodNamed B.named
  have hlocks := B.notSynchronized
  subst hsz
  have hD := hD0.self (sz := s.heap.size)
  clear hD0
  generalize hAe : va_A (wMo mx cI cZ w (nI nz) q d (nI nt) pr mw mt zo ke wy st tr be ch th) s.heap.size = A at hD ⊢
  have hA : ∀ q : Nat, s.heap.size ≤ q → A q := fun q h => by rw [← hAe]; exact Or.inr h
  have hS : va_S A s.heap s.heap [] := va_S.rf
  have hl := lv_entry ([.ref (mx 0)]) (n := 1) (Nat.le_of_ble_eq_true rfl)
  rw [lg_entry_eq]
  generalize (lg_sl ([.ref (mx 0)]) ++ List.replicate (1 - (lg_sl ([.ref (mx 0)])).length) Slot.unset).toArray = ls at hl ⊢
  have hl : lv_has ls 1 [(0, .ref (mx 0))] := hl
  obtain ⟨H, hHe⟩ : ∃ H : Heap, H = s.heap := ⟨_, rfl⟩
  obtain ⟨locs, hLe⟩ : ∃ L : List Loc, L = [] := ⟨_, rfl⟩
  have hP : va_P D vwCl (wMo mx cI cZ w (nI nz) q d (nI nt) pr mw mt zo ke wy st tr be ch th) H := by rw [hHe]; exact hP
  have hS : va_S A s.heap H locs := by rw [hHe, hLe]; exact hS
  refine W.eqHL hHe hLe ?_
  refine lv_aload_n hx hb dX8_placeBest_0 rfl (lv_at hl 0 rfl) ?_
  refine lv_iconst (v := nI 1) hx hb dX8_placeBest_1 (by decide) ?_
  refine lv_as (y := bB true) (rfl) ?_
  refine rw_i (wr := ([] : va_W)) (w_V (As := [.int (bB true)]) ⟨hx, hb, hml, hown, hts⟩ (c_X8_lays l D cI cZ cQ cJ mx w nz q d nt pr mw mt zo ke wy st tr be ch th pp n wi ti dd sq true H.size (by first | assumption | omega) (by first | assumption | omega) (by first | assumption | omega) (by first | assumption | omega) (by first | assumption | omega) (by first | assumption | omega) (by first | assumption | omega) (by first | assumption | omega) (by first | assumption | omega)) (gV t4_111 t4_113 t0_28 t1_10 t4_114) rfl rfl hd_X8_lays ⟨Nat.le_of_ble_eq_true rfl, Nat.le_of_ble_eq_true rfl⟩ (rw_pre hP hD hSt [0, 1, 2, 3, 4, 5, 6, 7, 8, 9, 10, 11, 12, 13] rfl (by decide)) (va_recv hSt.1 hP (ci := 8) (q0 := 0) rfl rfl) rfl hl.1 (rest := []) rfl (Nat.le_of_ble_eq_true rfl) dX8_placeBest_2 ⟨Nat.le_of_ble_eq_true rfl, Nat.le_of_ble_eq_true rfl⟩) hP hD hS hA [0, 1, 2, 3, 4, 5, 6, 7, 8, 9, 10, 11, 12, 13] [] rfl rfl (by decide) (by decide) (fun r_9 u_8 H locs hw9 hP hD hS => ?_)
  obtain ⟨j_1, j_2, j_3, j_4, j_5, j_6, j_7⟩ := u_8
  obtain ⟨er_9, f_9, f_10⟩ := hw9
  replace er_9 := er_9.symm
  subst er_9
  have hs : sBest true nt nz n d wi ti dd j_2 j_1 j_7 := f_9
  have hz2 : ∀ t5, t5 < nt → j_3 t5 = if j_2 = 0 then j_7 t5 else zo t5 := f_10
  have hP : va_P D vwCl (wMo mx cI cZ w (nI nz) q d (nI nt) pr mw mt j_3 ke j_4 j_5 j_6 j_7 ch (nI j_2)) H := hP
  have hD : va_D A (wMo mx cI cZ w (nI nz) q d (nI nt) pr mw mt j_3 ke j_4 j_5 j_6 j_7 ch (nI j_2)) := hD
  have hP9 : va_P D vwCl (wMo mx cI cZ w (nI nz) q d (nI nt) pr mw mt j_3 ke j_4 j_5 j_6 j_7 ch (nI j_2)) H := hP
  have hD9 : va_D A (wMo mx cI cZ w (nI nz) q d (nI nt) pr mw mt j_3 ke j_4 j_5 j_6 j_7 ch (nI j_2)) := hD
  have g_11 : sBest true nt nz n d wi ti dd j_2 j_1 j_7 := hs
  have g_12 : ∀ t5, t5 < nt → j_3 t5 = if j_2 = 0 then j_7 t5 else zo t5 := hz2
  exact W.iret (v := j_1) hx hb hr (fun t9 ht9 hW9 => ⟨⟨j_1, (j_1, j_2, j_3, j_4, j_5, j_6, j_7), rfl, ⟨rfl, g_11, g_12⟩, by rw [ht9]; exact hP9, hD9⟩, hS.F ht9⟩) hS.2.2 dX8_placeBest_5
set_option maxHeartbeats 4000000 in
set_option maxRecDepth 100000 in
theorem c_X8_leastWishCost (l : Launch) (D : va_G) (cI cZ cQ cJ : ClassId) (mx : Nat → Nat) (w : Nat → Int32) (nz : Nat) (q : Nat → Int32) (d : Nat → Int32) (nt : Nat) (pr : Nat → Int32) (mw : Nat → Int32) (mt : Nat → Int32) (zo : Nat → Int32) (ke : Nat → Int32) (wy : Nat → Int32) (st : Nat → Int32) (tr : Nat → Int32) (be : Nat → Int32) (ch : Nat → Int32) (th : Int32) (pp : Nat → Nat → Nat) (n : Nat → Int32) (wi : Nat → Nat → Nat) (ti : Nat → Nat → Nat) (dd : Nat → Nat → Nat) (sq : Nat → Nat) (sz : Nat) (hnz : nz ≤ 7) (hnt : nt ≤ 7) (hpr : ∀ t, t < nt → ∀ j, j < 5 → pr (5 * t + j) = nI (pp t j) ∧ pp t j ≤ 60) (hnn : ∀ t, t < nt → n t = nI (ndN (pp t))) (hmw : ∀ t z, t < 7 → z < 7 → mw (7 * t + z) = nI (wi t z)) (hmt : ∀ t o, t < 7 → o < 7 → mt (7 * t + o) = nI (ti t o)) (hq : ∀ o, o < nz → q o = nI (sq o) ∧ sq o < 64 ∧ w (sq o) = 0) (hdD : ∀ u v, u < nz → v < nz → isD w (sq u) (sq v) (nI (dd u v))) (hv : vOK nz wi ti dd) : Met l yX8_leastWishCost (.code yX8_leastWishCost cX8_leastWishCost 1 (some .int) :: ALL) ({ frames := 6, cells := 0, slots := 0, locals := 137 } : Room) (va_Pc [.ref (mx 0)] (rw_P D cI cZ cQ cJ (wMo mx cI cZ w (nI nz) q d (nI nt) pr mw mt zo ke wy st tr be ch th) sz)) (va_Qi (fun (r9 : Int32) (u9 : Int32 × (Nat → Int32) × (Nat → Int32) × (Nat → Int32) × (Nat → Int32)) => (r9 = u9.1) ∧ (sLeast nt nz n d wi ti dd u9.1)) (rw_B D (va_A (wMo mx cI cZ w (nI nz) q d (nI nt) pr mw mt zo ke wy st tr be ch th) sz) (fun u9 : Int32 × (Nat → Int32) × (Nat → Int32) × (Nat → Int32) × (Nat → Int32) => wMo mx cI cZ w (nI nz) q d (nI nt) pr mw mt zo ke u9.2.1 u9.2.2.1 u9.2.2.2.1 u9.2.2.2.2 ch (nI 0))) (va_A (wMo mx cI cZ w (nI nz) q d (nI nt) pr mw mt zo ke wy st tr be ch th) sz)) 0 0 (va_A (wMo mx cI cZ w (nI nz) q d (nI nt) pr mw mt zo ke wy st tr be ch th) sz) := by
  refine Met.ofW (cc := cX8_leastWishCost) (maxL := 1) (ret := (some .int)) (by decide) rfl ?_
  intro p e s m args below meth c s₁ B hml hv
  obtain ⟨rfl, hsz, hP, hSt, hD0⟩ := hv
  have hx := B.exec
  have hb := B.bytes
  have hr := B.returns
  have hts : ∀ w ∈ ALL, w.before ([.ref (mx 0)] : List Value).toArray s = true := fun w h => atoms_spec (ws := (.code yX8_leastWishCost cX8_leastWishCost 1 (some .int) :: ALL)) B.pre w (List.mem_cons_of_mem _ h)
  have hown : s.vm.findClass RX8 = some m.cls := findClass_of_methodNamed B.named
  have hlocks := B.notSynchronized
  subst hsz
  have hD := hD0.self (sz := s.heap.size)
  clear hD0
  generalize hAe : va_A (wMo mx cI cZ w (nI nz) q d (nI nt) pr mw mt zo ke wy st tr be ch th) s.heap.size = A at hD ⊢
  have hA : ∀ q : Nat, s.heap.size ≤ q → A q := fun q h => by rw [← hAe]; exact Or.inr h
  have hS : va_S A s.heap s.heap [] := va_S.rf
  have hl := lv_entry ([.ref (mx 0)]) (n := 1) (Nat.le_of_ble_eq_true rfl)
  rw [lg_entry_eq]
  generalize (lg_sl ([.ref (mx 0)]) ++ List.replicate (1 - (lg_sl ([.ref (mx 0)])).length) Slot.unset).toArray = ls at hl ⊢
  have hl : lv_has ls 1 [(0, .ref (mx 0))] := hl
  obtain ⟨H, hHe⟩ : ∃ H : Heap, H = s.heap := ⟨_, rfl⟩
  obtain ⟨locs, hLe⟩ : ∃ L : List Loc, L = [] := ⟨_, rfl⟩
  have hP : va_P D vwCl (wMo mx cI cZ w (nI nz) q d (nI nt) pr mw mt zo ke wy st tr be ch th) H := by rw [hHe]; exact hP
  have hS : va_S A s.heap H locs := by rw [hHe, hLe]; exact hS
  refine W.eqHL hHe hLe ?_
  refine lv_aload_n hx hb dX8_leastWishCost_0 rfl (lv_at hl 0 rfl) ?_
  refine lv_aload_n hx hb dX8_leastWishCost_1 rfl (lv_at hl 0 rfl) ?_
  refine lv_iconst (v := nI 0) hx hb dX8_leastWishCost_2 (by decide) ?_
  refine lv_as (y := bB false) (rfl) ?_
  refine rw_i (wr := ([] : va_W)) (w_V (As := [.int (bB false)]) ⟨hx, hb, hml, hown, hts⟩ (c_X8_tries l D cI cZ cQ cJ mx w nz q d nt pr mw mt zo ke wy st tr be ch th pp n wi ti dd sq false H.size (by first | assumption | omega) (by first | assumption | omega) (by first | assumption | omega) (by first | assumption | omega) (by first | assumption | omega) (by first | assumption | omega) (by first | assumption | omega) (by first | assumption | omega) (by first | assumption | omega)) (gV t4_115 t4_117 t0_29 t1_10 t4_118) rfl rfl hd_X8_tries ⟨Nat.le_of_ble_eq_true rfl, Nat.le_of_ble_eq_true rfl⟩ (rw_pre hP hD hSt [0, 1, 2, 3, 4, 5, 6, 7, 8, 9, 10, 11, 12, 13] rfl (by decide)) (va_recv hSt.1 hP (ci := 8) (q0 := 0) rfl rfl) rfl hl.1 (rest := [.ref (mx 0)]) rfl (Nat.le_of_ble_eq_true rfl) dX8_leastWishCost_3 ⟨Nat.le_of_ble_eq_true rfl, Nat.le_of_ble_eq_true rfl⟩) hP hD hS hA [0, 1, 2, 3, 4, 5, 6, 7, 8, 9, 10, 11, 12, 13] [] rfl rfl (by decide) (by decide) (fun r_9 u_6 H locs hw9 hP hD hS => ?_)
  obtain ⟨j_1, j_2, j_3, j_4, j_5⟩ := u_6
  obtain ⟨er_9, f_7⟩ := hw9
  replace er_9 := er_9.symm
  subst er_9
  have hSR : SR nt (fun g9 => pcN false wi ti dd g9 nt) (cmp nz nt (fun t9 z9 => n t9 ≤ d z9)) 1000000 be j_5 j_4 := f_7
  have hP : va_P D vwCl (wMo mx cI cZ w (nI nz) q d (nI nt) pr mw mt zo ke j_1 j_2 j_3 j_4 ch th) H := hP
  have hD : va_D A (wMo mx cI cZ w (nI nz) q d (nI nt) pr mw mt zo ke j_1 j_2 j_3 j_4 ch th) := hD
  refine rw_i (wr := ([] : va_W)) (w_V (As := [.int (lI j_5)]) ⟨hx, hb, hml, hown, hts⟩ (c_X8_told l D cI cZ cQ cJ mx w nz q d nt pr mw mt zo ke j_1 j_2 j_3 j_4 ch th (lI j_5) H.size) (gV t4_163 t4_165 t0_38 t1_10 t4_166) rfl rfl hd_X8_told ⟨Nat.le_of_ble_eq_true rfl, Nat.le_of_ble_eq_true rfl⟩ (rw_pre hP hD hSt [0, 1, 2, 3, 4, 5, 6, 7, 8, 9, 10, 11, 12, 13] rfl (by decide)) (va_recv hSt.1 hP (ci := 8) (q0 := 0) rfl rfl) rfl hl.1 (rest := []) rfl (Nat.le_of_ble_eq_true rfl) dX8_leastWishCost_6 ⟨Nat.le_of_ble_eq_true rfl, Nat.le_of_ble_eq_true rfl⟩) hP hD hS hA [0, 1, 2, 3, 4, 5, 6, 7, 8, 9, 10, 11, 12, 13] [] rfl rfl (by decide) (by decide) (fun r_9 u_8 H locs hw9 hP hD hS => ?_)
  have er_9 := hw9
  replace er_9 := er_9.symm
  subst er_9
  have hP : va_P D vwCl (wMo mx cI cZ w (nI nz) q d (nI nt) pr mw mt zo ke j_1 j_2 j_3 j_4 ch (nI 0)) H := hP
  have hD : va_D A (wMo mx cI cZ w (nI nz) q d (nI nt) pr mw mt zo ke j_1 j_2 j_3 j_4 ch (nI 0)) := hD
  have hP9 : va_P D vwCl (wMo mx cI cZ w (nI nz) q d (nI nt) pr mw mt zo ke j_1 j_2 j_3 j_4 ch (nI 0)) H := hP
  have hD9 : va_D A (wMo mx cI cZ w (nI nz) q d (nI nt) pr mw mt zo ke j_1 j_2 j_3 j_4 ch (nI 0)) := hD
  have g_9 : sLeast nt nz n d wi ti dd (lI j_5) := ⟨_, _, _, hSR, rfl⟩
  exact W.iret (v := (lI j_5)) hx hb hr (fun t9 ht9 hW9 => ⟨⟨(lI j_5), ((lI j_5), j_1, j_2, j_3, j_4), rfl, ⟨rfl, g_9⟩, by rw [ht9]; exact hP9, hD9⟩, hS.F ht9⟩) hS.2.2 dX8_leastWishCost_9
set_option maxHeartbeats 4000000 in
set_option maxRecDepth 100000 in
theorem c_X8_distance (l : Launch) (D : va_G) (cI cZ cQ cJ : ClassId) (mx : Nat → Nat) (w : Nat → Int32) (nz : Nat) (q : Nat → Int32) (d : Nat → Int32) (nt : Nat) (pr : Nat → Int32) (mw : Nat → Int32) (mt : Nat → Int32) (zo : Nat → Int32) (ke : Nat → Int32) (wy : Nat → Int32) (st : Nat → Int32) (tr : Nat → Int32) (be : Nat → Int32) (ch : Nat → Int32) (th : Int32) (sq : Nat → Nat) (dd : Nat → Nat → Nat) (T : Nat → Nat → Int32) (a8 : Int32) (b8 : Int32) (sz : Nat) (hnz : nz ≤ 7) (hq : ∀ o, o < nz → q o = nI (sq o) ∧ sq o < 64 ∧ w (sq o) = 0) (hdD : ∀ u v, u < nz → v < nz → isD w (sq u) (sq v) (nI (dd u v))) (hTd : ∀ u v, u < nz → v < nz → T u v = nI (dd u v)) : Met l yX8_distance (.code yX8_distance cX8_distance 3 (some .int) :: ALL) ({ frames := 5, cells := 0, slots := 0, locals := 112 } : Room) (va_Pc [.ref (mx 0), .int a8, .int b8] (rw_P D cI cZ cQ cJ (wMo mx cI cZ w (nI nz) q d (nI nt) pr mw mt zo ke wy st tr be ch th) sz)) (va_Qi (fun (r9 : Int32) (u9 : Int32 × Nat × (Nat → Int32) × (Nat → Int32)) => (r9 = u9.1) ∧ (sDist nz T a8 b8 u9.2.1 u9.1)) (rw_B D (va_A (wMo mx cI cZ w (nI nz) q d (nI nt) pr mw mt zo ke wy st tr be ch th) sz) (fun u9 : Int32 × Nat × (Nat → Int32) × (Nat → Int32) => wMo mx cI cZ w (nI nz) q d (nI nt) pr mw mt zo ke u9.2.2.1 u9.2.2.2 tr be ch (nI u9.2.1))) (va_A (wMo mx cI cZ w (nI nz) q d (nI nt) pr mw mt zo ke wy st tr be ch th) sz)) 0 0 (va_A (wMo mx cI cZ w (nI nz) q d (nI nt) pr mw mt zo ke wy st tr be ch th) sz) := by
  refine Met.ofW (cc := cX8_distance) (maxL := 3) (ret := (some .int)) (by decide) rfl ?_
  intro p e s m args below meth c s₁ B hml hv
  obtain ⟨rfl, hsz, hP, hSt, hD0⟩ := hv
  have hx := B.exec
  have hb := B.bytes
  have hr := B.returns
  have hts : ∀ w ∈ ALL, w.before ([.ref (mx 0), .int a8, .int b8] : List Value).toArray s = true := fun w h => atoms_spec (ws := (.code yX8_distance cX8_distance 3 (some .int) :: ALL)) B.pre w (List.mem_cons_of_mem _ h)
  have hown : s.vm.findClass RX8 = some m.cls := findClass_of_methodNamed B.named
  have hlocks := B.notSynchronized
  subst hsz
  have hD := hD0.self (sz := s.heap.size)
  clear hD0
  generalize hAe : va_A (wMo mx cI cZ w (nI nz) q d (nI nt) pr mw mt zo ke wy st tr be ch th) s.heap.size = A at hD ⊢
  have hA : ∀ q : Nat, s.heap.size ≤ q → A q := fun q h => by rw [← hAe]; exact Or.inr h
  have hS : va_S A s.heap s.heap [] := va_S.rf
  have hl := lv_entry ([.ref (mx 0), .int a8, .int b8]) (n := 3) (Nat.le_of_ble_eq_true rfl)
  rw [lg_entry_eq]
  generalize (lg_sl ([.ref (mx 0), .int a8, .int b8]) ++ List.replicate (3 - (lg_sl ([.ref (mx 0), .int a8, .int b8])).length) Slot.unset).toArray = ls at hl ⊢
  have hl : lv_has ls 3 [(0, .ref (mx 0)), (1, .int a8), (2, .int b8)] := hl
  obtain ⟨H, hHe⟩ : ∃ H : Heap, H = s.heap := ⟨_, rfl⟩
  obtain ⟨locs, hLe⟩ : ∃ L : List Loc, L = [] := ⟨_, rfl⟩
  have hP : va_P D vwCl (wMo mx cI cZ w (nI nz) q d (nI nt) pr mw mt zo ke wy st tr be ch th) H := by rw [hHe]; exact hP
  have hS : va_S A s.heap H locs := by rw [hHe, hLe]; exact hS
  refine W.eqHL hHe hLe ?_
  refine lv_aload_n hx hb dX8_distance_0 rfl (lv_at hl 0 rfl) ?_
  refine lv_aload_n hx hb dX8_distance_1 rfl (lv_at hl 0 rfl) ?_
  refine lv_iload_n hx hb dX8_distance_2 rfl (lv_at hl 1 rfl) ?_
  refine ro_V (As := [.int a8]) (rest := [.ref (mx 0)]) (v := bI (inI a8 (nI 0) (nI nz - nI 1))) ⟨hx, hb, hml, hown, hts⟩ (c_X8_isZone l D cI cZ cQ cJ mx w nz q d nt pr mw mt zo ke wy st tr be ch th a8) (gV t4_63 t4_65 t0_22 t1_10 t4_66) rfl rfl hd_X8_isZone ⟨Nat.le_of_ble_eq_true rfl, Nat.le_of_ble_eq_true rfl⟩ hP hSt (va_recv hSt.1 hP (ci := 8) (q0 := 0) rfl rfl) rfl hl.1 rfl (Nat.le_of_ble_eq_true rfl) dX8_distance_3 (Nat.zero_le _) (Nat.zero_le _) ?_
  refine lv_if_eq (tgt := 21) hx hb dX8_distance_6 (by decide) (fun c_1 => ?_) (fun c_1 => ?_)
  · have c_1 := bI_0.mp c_1
    refine lv_iconst (v := nI 0) hx hb dX8_distance_21 (by decide) ?_
    refine rw_i (wr := ([] : va_W)) (w_V (As := [.int (nI 0)]) ⟨hx, hb, hml, hown, hts⟩ (c_X8_asked l D cI cZ cQ cJ mx w nz q d nt pr mw mt zo ke wy st tr be ch th (nI 0) H.size (by first | exact Or.inl rfl | exact Or.inr rfl)) (gV t4_79 t4_81 t0_25 t1_10 t4_82) rfl rfl hd_X8_asked ⟨Nat.le_of_ble_eq_true rfl, Nat.le_of_ble_eq_true rfl⟩ (rw_pre hP hD hSt [0, 1, 2, 3, 4, 5, 6, 7, 8, 9, 10, 11, 12, 13] rfl (by decide)) (va_recv hSt.1 hP (ci := 8) (q0 := 0) rfl rfl) rfl hl.1 (rest := []) rfl (Nat.le_of_ble_eq_true rfl) dX8_distance_22 ⟨Nat.le_of_ble_eq_true rfl, Nat.le_of_ble_eq_true rfl⟩) hP hD hS hA [0, 1, 2, 3, 4, 5, 6, 7, 8, 9, 10, 11, 12, 13] [] rfl rfl (by decide) (by decide) (fun r_9 u_2 H locs hw9 hP hD hS => ?_)
    have er_9 := hw9
    replace er_9 := er_9.symm
    subst er_9
    have hP : va_P D vwCl (wMo mx cI cZ w (nI nz) q d (nI nt) pr mw mt zo ke wy st tr be ch (nI (as1 (nI 0)))) H := hP
    have hD : va_D A (wMo mx cI cZ w (nI nz) q d (nI nt) pr mw mt zo ke wy st tr be ch (nI (as1 (nI 0)))) := hD
    refine lv_if_ne (tgt := 30) hx hb dX8_distance_25 (by decide) (fun c_3 => ?_) (fun c_3 => ?_)
    · exact absurd c_3 (by decide)
    · refine lv_iconst (v := nI 0) hx hb dX8_distance_28 (by decide) ?_
      have hP9 : va_P D vwCl (wMo mx cI cZ w (nI nz) q d (nI nt) pr mw mt zo ke wy st tr be ch (nI (as1 (nI 0)))) H := hP
      have hD9 : va_D A (wMo mx cI cZ w (nI nz) q d (nI nt) pr mw mt zo ke wy st tr be ch (nI (as1 (nI 0)))) := hD
      have g_4 : sDist nz T a8 b8 (as1 (nI 0)) (nI 0) := Or.inl ⟨fun q9 => c_1 ((inI_N (n := nz) (by omega)).mpr q9.1), if_pos nI0⟩
      exact W.iret (v := nI 0) hx hb hr (fun t9 ht9 hW9 => ⟨⟨nI 0, (nI 0, as1 (nI 0), wy, st), rfl, ⟨rfl, g_4⟩, by rw [ht9]; exact hP9, hD9⟩, hS.F ht9⟩) hS.2.2 dX8_distance_29
  · have c_1 := bI_n0.mp c_1
    obtain ⟨aa, h_aa, rfl⟩ := (inI_N (n := nz) (by omega)).mp c_1
    refine lv_aload_n hx hb dX8_distance_9 rfl (lv_at hl 0 rfl) ?_
    refine lv_iload_n hx hb dX8_distance_10 rfl (lv_at hl 2 rfl) ?_
    refine ro_V (As := [.int b8]) (rest := [.ref (mx 0)]) (v := bI (inI b8 (nI 0) (nI nz - nI 1))) ⟨hx, hb, hml, hown, hts⟩ (c_X8_isZone l D cI cZ cQ cJ mx w nz q d nt pr mw mt zo ke wy st tr be ch th b8) (gV t4_63 t4_65 t0_22 t1_10 t4_66) rfl rfl hd_X8_isZone ⟨Nat.le_of_ble_eq_true rfl, Nat.le_of_ble_eq_true rfl⟩ hP hSt (va_recv hSt.1 hP (ci := 8) (q0 := 0) rfl rfl) rfl hl.1 rfl (Nat.le_of_ble_eq_true rfl) dX8_distance_11 (Nat.zero_le _) (Nat.zero_le _) ?_
    refine lv_if_eq (tgt := 21) hx hb dX8_distance_14 (by decide) (fun c_5 => ?_) (fun c_5 => ?_)
    · have c_5 := bI_0.mp c_5
      refine lv_iconst (v := nI 0) hx hb dX8_distance_21 (by decide) ?_
      refine rw_i (wr := ([] : va_W)) (w_V (As := [.int (nI 0)]) ⟨hx, hb, hml, hown, hts⟩ (c_X8_asked l D cI cZ cQ cJ mx w nz q d nt pr mw mt zo ke wy st tr be ch th (nI 0) H.size (by first | exact Or.inl rfl | exact Or.inr rfl)) (gV t4_79 t4_81 t0_25 t1_10 t4_82) rfl rfl hd_X8_asked ⟨Nat.le_of_ble_eq_true rfl, Nat.le_of_ble_eq_true rfl⟩ (rw_pre hP hD hSt [0, 1, 2, 3, 4, 5, 6, 7, 8, 9, 10, 11, 12, 13] rfl (by decide)) (va_recv hSt.1 hP (ci := 8) (q0 := 0) rfl rfl) rfl hl.1 (rest := []) rfl (Nat.le_of_ble_eq_true rfl) dX8_distance_22 ⟨Nat.le_of_ble_eq_true rfl, Nat.le_of_ble_eq_true rfl⟩) hP hD hS hA [0, 1, 2, 3, 4, 5, 6, 7, 8, 9, 10, 11, 12, 13] [] rfl rfl (by decide) (by decide) (fun r_9 u_6 H locs hw9 hP hD hS => ?_)
      have er_9 := hw9
      replace er_9 := er_9.symm
      subst er_9
      have hP : va_P D vwCl (wMo mx cI cZ w (nI nz) q d (nI nt) pr mw mt zo ke wy st tr be ch (nI (as1 (nI 0)))) H := hP
      have hD : va_D A (wMo mx cI cZ w (nI nz) q d (nI nt) pr mw mt zo ke wy st tr be ch (nI (as1 (nI 0)))) := hD
      refine lv_if_ne (tgt := 30) hx hb dX8_distance_25 (by decide) (fun c_7 => ?_) (fun c_7 => ?_)
      · exact absurd c_7 (by decide)
      · refine lv_iconst (v := nI 0) hx hb dX8_distance_28 (by decide) ?_
        have hP9 : va_P D vwCl (wMo mx cI cZ w (nI nz) q d (nI nt) pr mw mt zo ke wy st tr be ch (nI (as1 (nI 0)))) H := hP
        have hD9 : va_D A (wMo mx cI cZ w (nI nz) q d (nI nt) pr mw mt zo ke wy st tr be ch (nI (as1 (nI 0)))) := hD
        have g_8 : sDist nz T (nI aa) b8 (as1 (nI 0)) (nI 0) := Or.inl ⟨fun q9 => c_5 ((inI_N (n := nz) (by omega)).mpr q9.2), if_pos nI0⟩
        exact W.iret (v := nI 0) hx hb hr (fun t9 ht9 hW9 => ⟨⟨nI 0, (nI 0, as1 (nI 0), wy, st), rfl, ⟨rfl, g_8⟩, by rw [ht9]; exact hP9, hD9⟩, hS.F ht9⟩) hS.2.2 dX8_distance_29
    · have c_5 := bI_n0.mp c_5
      obtain ⟨bb, h_bb, rfl⟩ := (inI_N (n := nz) (by omega)).mp c_5
      refine lv_iconst (v := nI 1) hx hb dX8_distance_17 (by decide) ?_
      refine lv_goto (tgt := 22) hx hb dX8_distance_18 (by decide) ?_
      refine rw_i (wr := ([] : va_W)) (w_V (As := [.int (nI 1)]) ⟨hx, hb, hml, hown, hts⟩ (c_X8_asked l D cI cZ cQ cJ mx w nz q d nt pr mw mt zo ke wy st tr be ch th (nI 1) H.size (by first | exact Or.inl rfl | exact Or.inr rfl)) (gV t4_79 t4_81 t0_25 t1_10 t4_82) rfl rfl hd_X8_asked ⟨Nat.le_of_ble_eq_true rfl, Nat.le_of_ble_eq_true rfl⟩ (rw_pre hP hD hSt [0, 1, 2, 3, 4, 5, 6, 7, 8, 9, 10, 11, 12, 13] rfl (by decide)) (va_recv hSt.1 hP (ci := 8) (q0 := 0) rfl rfl) rfl hl.1 (rest := []) rfl (Nat.le_of_ble_eq_true rfl) dX8_distance_22 ⟨Nat.le_of_ble_eq_true rfl, Nat.le_of_ble_eq_true rfl⟩) hP hD hS hA [0, 1, 2, 3, 4, 5, 6, 7, 8, 9, 10, 11, 12, 13] [] rfl rfl (by decide) (by decide) (fun r_9 u_9 H locs hw9 hP hD hS => ?_)
      have er_9 := hw9
      replace er_9 := er_9.symm
      subst er_9
      have hP : va_P D vwCl (wMo mx cI cZ w (nI nz) q d (nI nt) pr mw mt zo ke wy st tr be ch (nI (as1 (nI 1)))) H := hP
      have hD : va_D A (wMo mx cI cZ w (nI nz) q d (nI nt) pr mw mt zo ke wy st tr be ch (nI (as1 (nI 1)))) := hD
      refine lv_if_ne (tgt := 30) hx hb dX8_distance_25 (by decide) (fun c_10 => ?_) (fun c_10 => ?_)
      · refine lv_aload_n hx hb dX8_distance_30 rfl (lv_at hl 0 rfl) ?_
        refine rw_v (wr := ([] : va_W)) (w_V (As := []) ⟨hx, hb, hml, hown, hts⟩ (c_X8_findsWays l D cI cZ cQ cJ mx w nz q d nt pr mw mt zo ke wy st tr be ch (nI (as1 (nI 1))) sq dd H.size (by first | assumption | omega) (by first | assumption | omega) (by first | assumption | omega)) (gV t4_119 t4_121 t0_30 t1_10 t4_122) rfl rfl hd_X8_findsWays ⟨Nat.le_of_ble_eq_true rfl, Nat.le_of_ble_eq_true rfl⟩ (rw_pre hP hD hSt [0, 1, 2, 3, 4, 5, 6, 7, 8, 9, 10, 11, 12, 13] rfl (by decide)) (va_recv hSt.1 hP (ci := 8) (q0 := 0) rfl rfl) rfl hl.1 (rest := []) rfl (Nat.le_of_ble_eq_true rfl) dX8_distance_31 ⟨Nat.le_of_ble_eq_true rfl, Nat.le_of_ble_eq_true rfl⟩) hP hD hS hA [0, 1, 2, 3, 4, 5, 6, 7, 8, 9, 10, 11, 12, 13] [] rfl rfl (by decide) (by decide) (fun  u_13 H locs hw9 hP hD hS => ?_)
        obtain ⟨j_11, j_12⟩ := u_13
        have f_14 := hw9
        have hwy9 : ∀ u v, u < nz → v < nz → j_11 (7 * u + v) = nI (dd u v) := f_14
        have hP : va_P D vwCl (wMo mx cI cZ w (nI nz) q d (nI nt) pr mw mt zo ke j_11 j_12 tr be ch (nI (as1 (nI 1)))) H := hP
        have hD : va_D A (wMo mx cI cZ w (nI nz) q d (nI nt) pr mw mt zo ke j_11 j_12 tr be ch (nI (as1 (nI 1)))) := hD
        refine lv_aload_n hx hb dX8_distance_34 rfl (lv_at hl 0 rfl) ?_
        refine va_get (D := D) (ci := 8) (v := .ref (mx 9)) (C := RX8) (T := TX8) (N := 16) hx hb hts tu_X8 hown hSt.1 hP 0 rfl rfl 10 (by decide) (hts _ t3_230) (fun _ h9 => h9) rfl dX8_distance_35 ?_
        refine lv_bipush (v := nI 7) hx hb dX8_distance_38 (by decide) ?_
        refine lv_iload_n hx hb dX8_distance_40 rfl (lv_at hl 1 rfl) ?_
        refine r_muln hx hb dX8_distance_41 ?_
        refine lv_iload_n hx hb dX8_distance_42 rfl (lv_at hl 2 rfl) ?_
        refine r_addn hx hb dX8_distance_43 ?_
        refine r_iald hx hb hSt.1 hP 9 0 rfl rfl (k := ((7 * aa) + bb)) (by omega) (by omega) dX8_distance_44 ?_
        have hP9 : va_P D vwCl (wMo mx cI cZ w (nI nz) q d (nI nt) pr mw mt zo ke j_11 j_12 tr be ch (nI (as1 (nI 1)))) H := hP
        have hD9 : va_D A (wMo mx cI cZ w (nI nz) q d (nI nt) pr mw mt zo ke j_11 j_12 tr be ch (nI (as1 (nI 1)))) := hD
        have g_15 : sDist nz T (nI aa) (nI bb) (as1 (nI 1)) (j_11 ((7 * aa) + bb)) := Or.inr ⟨⟨⟨aa, h_aa, rfl⟩, ⟨bb, h_bb, rfl⟩⟩, if_neg nI1, by rw [nIc (by omega), nIc (by omega), hwy9 aa bb h_aa h_bb, hTd aa bb h_aa h_bb]⟩
        exact W.iret (v := j_11 ((7 * aa) + bb)) hx hb hr (fun t9 ht9 hW9 => ⟨⟨j_11 ((7 * aa) + bb), (j_11 ((7 * aa) + bb), as1 (nI 1), j_11, j_12), rfl, ⟨rfl, g_15⟩, by rw [ht9]; exact hP9, hD9⟩, hS.F ht9⟩) hS.2.2 dX8_distance_45
      · exact absurd c_10 (by decide)
set_option maxHeartbeats 4000000 in
set_option maxRecDepth 100000 in
theorem c_X8_wishCost (l : Launch) (D : va_G) (cI cZ cQ cJ : ClassId) (mx : Nat → Nat) (w : Nat → Int32) (nz : Nat) (q : Nat → Int32) (d : Nat → Int32) (nt : Nat) (pr : Nat → Int32) (mw : Nat → Int32) (mt : Nat → Int32) (zo : Nat → Int32) (ke : Nat → Int32) (wy : Nat → Int32) (st : Nat → Int32) (tr : Nat → Int32) (be : Nat → Int32) (ch : Nat → Int32) (th : Int32) (wi : Nat → Nat → Nat) (g : Nat → Nat) (sz : Nat) (hnz : nz ≤ 7) (hnt : nt ≤ 7) (hmw : ∀ t z, t < 7 → z < 7 → mw (7 * t + z) = nI (wi t z)) (hg : pOK nt zo g) (hgz : gOK nz nt g) : Met l yX8_wishCost (.code yX8_wishCost cX8_wishCost 1 (some .int) :: ALL) ({ frames := 1, cells := 0, slots := 0, locals := 23 } : Room) (va_Pc [.ref (mx 0)] (rw_P D cI cZ cQ cJ (wMo mx cI cZ w (nI nz) q d (nI nt) pr mw mt zo ke wy st tr be ch th) sz)) (va_Qi (fun (r9 : Int32) (u9 : Unit) => (r9 = (nI (wishN wi g nt)))) (rw_B D (va_A (wMo mx cI cZ w (nI nz) q d (nI nt) pr mw mt zo ke wy st tr be ch th) sz) (fun u9 : Unit => wMo mx cI cZ w (nI nz) q d (nI nt) pr mw mt zo ke wy st tr be ch (nI 0))) (va_A (wMo mx cI cZ w (nI nz) q d (nI nt) pr mw mt zo ke wy st tr be ch th) sz)) 0 0 (va_A (wMo mx cI cZ w (nI nz) q d (nI nt) pr mw mt zo ke wy st tr be ch th) sz) := by
  refine Met.ofW (cc := cX8_wishCost) (maxL := 1) (ret := (some .int)) (by decide) rfl ?_
  intro p e s m args below meth c s₁ B hml hv
  obtain ⟨rfl, hsz, hP, hSt, hD0⟩ := hv
  have hx := B.exec
  have hb := B.bytes
  have hr := B.returns
  have hts : ∀ w ∈ ALL, w.before ([.ref (mx 0)] : List Value).toArray s = true := fun w h => atoms_spec (ws := (.code yX8_wishCost cX8_wishCost 1 (some .int) :: ALL)) B.pre w (List.mem_cons_of_mem _ h)
  have hown : s.vm.findClass RX8 = some m.cls := findClass_of_methodNamed B.named
  have hlocks := B.notSynchronized
  subst hsz
  have hD := hD0.self (sz := s.heap.size)
  clear hD0
  generalize hAe : va_A (wMo mx cI cZ w (nI nz) q d (nI nt) pr mw mt zo ke wy st tr be ch th) s.heap.size = A at hD ⊢
  have hA : ∀ q : Nat, s.heap.size ≤ q → A q := fun q h => by rw [← hAe]; exact Or.inr h
  have hS : va_S A s.heap s.heap [] := va_S.rf
  have hl := lv_entry ([.ref (mx 0)]) (n := 1) (Nat.le_of_ble_eq_true rfl)
  rw [lg_entry_eq]
  generalize (lg_sl ([.ref (mx 0)]) ++ List.replicate (1 - (lg_sl ([.ref (mx 0)])).length) Slot.unset).toArray = ls at hl ⊢
  have hl : lv_has ls 1 [(0, .ref (mx 0))] := hl
  obtain ⟨H, hHe⟩ : ∃ H : Heap, H = s.heap := ⟨_, rfl⟩
  obtain ⟨locs, hLe⟩ : ∃ L : List Loc, L = [] := ⟨_, rfl⟩
  have hP : va_P D vwCl (wMo mx cI cZ w (nI nz) q d (nI nt) pr mw mt zo ke wy st tr be ch th) H := by rw [hHe]; exact hP
  have hS : va_S A s.heap H locs := by rw [hHe, hLe]; exact hS
  refine W.eqHL hHe hLe ?_
  refine lv_aload_n hx hb dX8_wishCost_0 rfl (lv_at hl 0 rfl) ?_
  refine lv_aload_n hx hb dX8_wishCost_1 rfl (lv_at hl 0 rfl) ?_
  refine lv_aload_n hx hb dX8_wishCost_2 rfl (lv_at hl 0 rfl) ?_
  refine va_get (D := D) (ci := 8) (v := .ref (mx 7)) (C := RX8) (T := TX8) (N := 16) hx hb hts tu_X8 hown hSt.1 hP 0 rfl rfl 8 (by decide) (hts _ t3_228) (fun _ h9 => h9) rfl dX8_wishCost_3 ?_
  refine ro_V (As := [.ref (mx 7)]) (rest := [.ref (mx 0)]) (v := nI (wishN wi g nt)) ⟨hx, hb, hml, hown, hts⟩ (c_X8_wishOf_zo l D cI cZ cQ cJ mx w nz q d nt pr mw mt zo ke wy st tr be ch th wi g (by first | assumption | omega) (by first | assumption | omega) (by first | assumption | omega) (by first | assumption | omega) (by first | assumption | omega)) (gV t4_135 t4_137 t0_34 t1_10 t4_138) rfl rfl hd_X8_wishOf ⟨Nat.le_of_ble_eq_true rfl, Nat.le_of_ble_eq_true rfl⟩ hP hSt (va_recv hSt.1 hP (ci := 8) (q0 := 0) rfl rfl) rfl hl.1 rfl (Nat.le_of_ble_eq_true rfl) dX8_wishCost_6 (Nat.zero_le _) (Nat.zero_le _) ?_
  refine rw_i (wr := ([] : va_W)) (w_V (As := [.int (nI (wishN wi g nt))]) ⟨hx, hb, hml, hown, hts⟩ (c_X8_told l D cI cZ cQ cJ mx w nz q d nt pr mw mt zo ke wy st tr be ch th (nI (wishN wi g nt)) H.size) (gV t4_163 t4_165 t0_38 t1_10 t4_166) rfl rfl hd_X8_told ⟨Nat.le_of_ble_eq_true rfl, Nat.le_of_ble_eq_true rfl⟩ (rw_pre hP hD hSt [0, 1, 2, 3, 4, 5, 6, 7, 8, 9, 10, 11, 12, 13] rfl (by decide)) (va_recv hSt.1 hP (ci := 8) (q0 := 0) rfl rfl) rfl hl.1 (rest := []) rfl (Nat.le_of_ble_eq_true rfl) dX8_wishCost_9 ⟨Nat.le_of_ble_eq_true rfl, Nat.le_of_ble_eq_true rfl⟩) hP hD hS hA [0, 1, 2, 3, 4, 5, 6, 7, 8, 9, 10, 11, 12, 13] [] rfl rfl (by decide) (by decide) (fun r_9 u_1 H locs hw9 hP hD hS => ?_)
  have er_9 := hw9
  replace er_9 := er_9.symm
  subst er_9
  have hP : va_P D vwCl (wMo mx cI cZ w (nI nz) q d (nI nt) pr mw mt zo ke wy st tr be ch (nI 0)) H := hP
  have hD : va_D A (wMo mx cI cZ w (nI nz) q d (nI nt) pr mw mt zo ke wy st tr be ch (nI 0)) := hD
  have hP9 : va_P D vwCl (wMo mx cI cZ w (nI nz) q d (nI nt) pr mw mt zo ke wy st tr be ch (nI 0)) H := hP
  have hD9 : va_D A (wMo mx cI cZ w (nI nz) q d (nI nt) pr mw mt zo ke wy st tr be ch (nI 0)) := hD
  exact W.iret (v := (nI (wishN wi g nt))) hx hb hr (fun t9 ht9 hW9 => ⟨⟨(nI (wishN wi g nt)), (), rfl, rfl, by rw [ht9]; exact hP9, hD9⟩, hS.F ht9⟩) hS.2.2 dX8_wishCost_12
set_option maxHeartbeats 4000000 in
set_option maxRecDepth 100000 in
theorem c_X8_cost (l : Launch) (D : va_G) (cI cZ cQ cJ : ClassId) (mx : Nat → Nat) (w : Nat → Int32) (nz : Nat) (q : Nat → Int32) (d : Nat → Int32) (nt : Nat) (pr : Nat → Int32) (mw : Nat → Int32) (mt : Nat → Int32) (zo : Nat → Int32) (ke : Nat → Int32) (wy : Nat → Int32) (st : Nat → Int32) (tr : Nat → Int32) (be : Nat → Int32) (ch : Nat → Int32) (th : Int32) (wi : Nat → Nat → Nat) (ti : Nat → Nat → Nat) (dd : Nat → Nat → Nat) (sq : Nat → Nat) (g : Nat → Nat) (sz : Nat) (hnz : nz ≤ 7) (hnt : nt ≤ 7) (hmw : ∀ t z, t < 7 → z < 7 → mw (7 * t + z) = nI (wi t z)) (hmt : ∀ t o, t < 7 → o < 7 → mt (7 * t + o) = nI (ti t o)) (hq : ∀ o, o < nz → q o = nI (sq o) ∧ sq o < 64 ∧ w (sq o) = 0) (hdD : ∀ u v, u < nz → v < nz → isD w (sq u) (sq v) (nI (dd u v))) (hg : pOK nt zo g) (hgz : gOK nz nt g) : Met l yX8_cost (.code yX8_cost cX8_cost 1 (some .int) :: ALL) ({ frames := 5, cells := 0, slots := 0, locals := 112 } : Room) (va_Pc [.ref (mx 0)] (rw_P D cI cZ cQ cJ (wMo mx cI cZ w (nI nz) q d (nI nt) pr mw mt zo ke wy st tr be ch th) sz)) (va_Qi (fun (r9 : Int32) (u9 : (Nat → Int32) × (Nat → Int32)) => (r9 = (nI (costN wi ti dd g nt)))) (rw_B D (va_A (wMo mx cI cZ w (nI nz) q d (nI nt) pr mw mt zo ke wy st tr be ch th) sz) (fun u9 : (Nat → Int32) × (Nat → Int32) => wMo mx cI cZ w (nI nz) q d (nI nt) pr mw mt zo ke u9.1 u9.2 tr be ch (nI 0))) (va_A (wMo mx cI cZ w (nI nz) q d (nI nt) pr mw mt zo ke wy st tr be ch th) sz)) 0 0 (va_A (wMo mx cI cZ w (nI nz) q d (nI nt) pr mw mt zo ke wy st tr be ch th) sz) := by
  refine Met.ofW (cc := cX8_cost) (maxL := 1) (ret := (some .int)) (by decide) rfl ?_
  intro p e s m args below meth c s₁ B hml hv
  obtain ⟨rfl, hsz, hP, hSt, hD0⟩ := hv
  have hx := B.exec
  have hb := B.bytes
  have hr := B.returns
  have hts : ∀ w ∈ ALL, w.before ([.ref (mx 0)] : List Value).toArray s = true := fun w h => atoms_spec (ws := (.code yX8_cost cX8_cost 1 (some .int) :: ALL)) B.pre w (List.mem_cons_of_mem _ h)
  have hown : s.vm.findClass RX8 = some m.cls := findClass_of_methodNamed B.named
  have hlocks := B.notSynchronized
  subst hsz
  have hD := hD0.self (sz := s.heap.size)
  clear hD0
  generalize hAe : va_A (wMo mx cI cZ w (nI nz) q d (nI nt) pr mw mt zo ke wy st tr be ch th) s.heap.size = A at hD ⊢
  have hA : ∀ q : Nat, s.heap.size ≤ q → A q := fun q h => by rw [← hAe]; exact Or.inr h
  have hS : va_S A s.heap s.heap [] := va_S.rf
  have hl := lv_entry ([.ref (mx 0)]) (n := 1) (Nat.le_of_ble_eq_true rfl)
  rw [lg_entry_eq]
  generalize (lg_sl ([.ref (mx 0)]) ++ List.replicate (1 - (lg_sl ([.ref (mx 0)])).length) Slot.unset).toArray = ls at hl ⊢
  have hl : lv_has ls 1 [(0, .ref (mx 0))] := hl
  obtain ⟨H, hHe⟩ : ∃ H : Heap, H = s.heap := ⟨_, rfl⟩
  obtain ⟨locs, hLe⟩ : ∃ L : List Loc, L = [] := ⟨_, rfl⟩
  have hP : va_P D vwCl (wMo mx cI cZ w (nI nz) q d (nI nt) pr mw mt zo ke wy st tr be ch th) H := by rw [hHe]; exact hP
  have hS : va_S A s.heap H locs := by rw [hHe, hLe]; exact hS
  refine W.eqHL hHe hLe ?_
  refine lv_aload_n hx hb dX8_cost_0 rfl (lv_at hl 0 rfl) ?_
  refine rw_v (wr := ([] : va_W)) (w_V (As := []) ⟨hx, hb, hml, hown, hts⟩ (c_X8_findsWays l D cI cZ cQ cJ mx w nz q d nt pr mw mt zo ke wy st tr be ch th sq dd H.size (by first | assumption | omega) (by first | assumption | omega) (by first | assumption | omega)) (gV t4_119 t4_121 t0_30 t1_10 t4_122) rfl rfl hd_X8_findsWays ⟨Nat.le_of_ble_eq_true rfl, Nat.le_of_ble_eq_true rfl⟩ (rw_pre hP hD hSt [0, 1, 2, 3, 4, 5, 6, 7, 8, 9, 10, 11, 12, 13] rfl (by decide)) (va_recv hSt.1 hP (ci := 8) (q0 := 0) rfl rfl) rfl hl.1 (rest := []) rfl (Nat.le_of_ble_eq_true rfl) dX8_cost_1 ⟨Nat.le_of_ble_eq_true rfl, Nat.le_of_ble_eq_true rfl⟩) hP hD hS hA [0, 1, 2, 3, 4, 5, 6, 7, 8, 9, 10, 11, 12, 13] [] rfl rfl (by decide) (by decide) (fun  u_3 H locs hw9 hP hD hS => ?_)
  obtain ⟨j_1, j_2⟩ := u_3
  have f_4 := hw9
  have hwy9 : ∀ u v, u < nz → v < nz → j_1 (7 * u + v) = nI (dd u v) := f_4
  have hP : va_P D vwCl (wMo mx cI cZ w (nI nz) q d (nI nt) pr mw mt zo ke j_1 j_2 tr be ch th) H := hP
  have hD : va_D A (wMo mx cI cZ w (nI nz) q d (nI nt) pr mw mt zo ke j_1 j_2 tr be ch th) := hD
  refine lv_aload_n hx hb dX8_cost_4 rfl (lv_at hl 0 rfl) ?_
  refine lv_aload_n hx hb dX8_cost_5 rfl (lv_at hl 0 rfl) ?_
  refine lv_aload_n hx hb dX8_cost_6 rfl (lv_at hl 0 rfl) ?_
  refine va_get (D := D) (ci := 8) (v := .ref (mx 7)) (C := RX8) (T := TX8) (N := 16) hx hb hts tu_X8 hown hSt.1 hP 0 rfl rfl 8 (by decide) (hts _ t3_228) (fun _ h9 => h9) rfl dX8_cost_7 ?_
  refine ro_V (As := [.ref (mx 7)]) (rest := [.ref (mx 0)]) (v := nI (costN wi ti dd g nt)) ⟨hx, hb, hml, hown, hts⟩ (c_X8_costOf_zo l D cI cZ cQ cJ mx w nz q d nt pr mw mt zo ke j_1 j_2 tr be ch th wi ti dd g (by first | assumption | omega) (by first | assumption | omega) (by first | assumption | omega) (by first | assumption | omega) hwy9 (by first | assumption | omega) (by first | assumption | omega)) (gV t4_131 t4_133 t0_33 t1_10 t4_134) rfl rfl hd_X8_costOf ⟨Nat.le_of_ble_eq_true rfl, Nat.le_of_ble_eq_true rfl⟩ hP hSt (va_recv hSt.1 hP (ci := 8) (q0 := 0) rfl rfl) rfl hl.1 rfl (Nat.le_of_ble_eq_true rfl) dX8_cost_10 (Nat.zero_le _) (Nat.zero_le _) ?_
  refine rw_i (wr := ([] : va_W)) (w_V (As := [.int (nI (costN wi ti dd g nt))]) ⟨hx, hb, hml, hown, hts⟩ (c_X8_told l D cI cZ cQ cJ mx w nz q d nt pr mw mt zo ke j_1 j_2 tr be ch th (nI (costN wi ti dd g nt)) H.size) (gV t4_163 t4_165 t0_38 t1_10 t4_166) rfl rfl hd_X8_told ⟨Nat.le_of_ble_eq_true rfl, Nat.le_of_ble_eq_true rfl⟩ (rw_pre hP hD hSt [0, 1, 2, 3, 4, 5, 6, 7, 8, 9, 10, 11, 12, 13] rfl (by decide)) (va_recv hSt.1 hP (ci := 8) (q0 := 0) rfl rfl) rfl hl.1 (rest := []) rfl (Nat.le_of_ble_eq_true rfl) dX8_cost_13 ⟨Nat.le_of_ble_eq_true rfl, Nat.le_of_ble_eq_true rfl⟩) hP hD hS hA [0, 1, 2, 3, 4, 5, 6, 7, 8, 9, 10, 11, 12, 13] [] rfl rfl (by decide) (by decide) (fun r_9 u_5 H locs hw9 hP hD hS => ?_)
  have er_9 := hw9
  replace er_9 := er_9.symm
  subst er_9
  have hP : va_P D vwCl (wMo mx cI cZ w (nI nz) q d (nI nt) pr mw mt zo ke j_1 j_2 tr be ch (nI 0)) H := hP
  have hD : va_D A (wMo mx cI cZ w (nI nz) q d (nI nt) pr mw mt zo ke j_1 j_2 tr be ch (nI 0)) := hD
  have hP9 : va_P D vwCl (wMo mx cI cZ w (nI nz) q d (nI nt) pr mw mt zo ke j_1 j_2 tr be ch (nI 0)) H := hP
  have hD9 : va_D A (wMo mx cI cZ w (nI nz) q d (nI nt) pr mw mt zo ke j_1 j_2 tr be ch (nI 0)) := hD
  exact W.iret (v := (nI (costN wi ti dd g nt))) hx hb hr (fun t9 ht9 hW9 => ⟨⟨(nI (costN wi ti dd g nt)), (j_1, j_2), rfl, rfl, by rw [ht9]; exact hP9, hD9⟩, hS.F ht9⟩) hS.2.2 dX8_cost_16
theorem pl_cnt {zo : Nat → Int32} {n : Nat} : cnt (fun u9 => !decide (zo u9 = -1)) n = n ↔ ∀ t, t < n → ¬ zo t = -1 := by
  have h1 := cnt_le (fun u9 => !decide (zo u9 = -1)) n
  have h2 := cnt_full (p := fun u9 => !decide (zo u9 = -1)) (n := n)
  constructor
  · intro h t ht
    have := h2.mp (by omega) t ht
    simpa using this
  · intro h
    have := h2.mpr (fun t ht => by simpa using h t ht)
    omega
theorem pl_c9 {zo : Nat → Int32} {n : Nat} {c9 : Int32} (h : (c9 = 1 ∧ ∀ t, t < n → ¬ zo t = -1) ∨ (c9 = 0 ∧ ¬ ∀ t, t < n → ¬ zo t = -1)) : c9 = bB (decide (cnt (fun u9 => !decide (zo u9 = -1)) n = n)) := by
  rcases h with ⟨e, h⟩ | ⟨e, h⟩
  · rw [e, decide_eq_true (pl_cnt.mpr h)]; rfl
  · rw [e, decide_eq_false (fun q => h (pl_cnt.mp q))]; rfl
set_option maxHeartbeats 4000000 in
set_option maxRecDepth 100000 in
theorem c_X8_isPlaced (l : Launch) (D : va_G) (cI cZ cQ cJ : ClassId) (mx : Nat → Nat) (w : Nat → Int32) (nz : Nat) (q : Nat → Int32) (d : Nat → Int32) (nt : Nat) (pr : Nat → Int32) (mw : Nat → Int32) (mt : Nat → Int32) (zo : Nat → Int32) (ke : Nat → Int32) (wy : Nat → Int32) (st : Nat → Int32) (tr : Nat → Int32) (be : Nat → Int32) (ch : Nat → Int32) (th : Int32) (g : Nat → Nat) (hnz : nz ≤ 7) (hnt : nt ≤ 7) (hg : pOK nt zo g) : Met l yX8_isPlaced (.code yX8_isPlaced cX8_isPlaced 3 (some .boolean) :: ALL) ({ frames := 0, cells := 0, slots := 0, locals := 0 } : Room) (va_Pc [.ref (mx 0)] (ro_P D cI cZ cQ cJ (wMo mx cI cZ w (nI nz) q d (nI nt) pr mw mt zo ke wy st tr be ch th))) (vp_Si (fun r9 => r9 = bB (decide (cnt (fun u9 => !decide (zo u9 = -1)) nt = nt)))) 0 0 (fun _ => False) := by
  refine Met.ofW (cc := cX8_isPlaced) (maxL := 3) (ret := (some .boolean)) (by decide) rfl ?_
  intro p e s m args below meth c s₁ B hml hv
  obtain ⟨rfl, hP, hSt⟩ := hv
  have hx := B.exec
  have hb := B.bytes
  have hr := B.returns
  have hts : ∀ w ∈ ALL, w.before ([.ref (mx 0)] : List Value).toArray s = true := fun w h => atoms_spec (ws := (.code yX8_isPlaced cX8_isPlaced 3 (some .boolean) :: ALL)) B.pre w (List.mem_cons_of_mem _ h)
  have hown : s.vm.findClass RX8 = some m.cls := findClass_of_methodNamed B.named
  have hlocks := B.notSynchronized
  have hl := lv_entry ([.ref (mx 0)]) (n := 3) (Nat.le_of_ble_eq_true rfl)
  rw [lg_entry_eq]
  generalize (lg_sl ([.ref (mx 0)]) ++ List.replicate (3 - (lg_sl ([.ref (mx 0)])).length) Slot.unset).toArray = ls at hl ⊢
  have hl : lv_has ls 3 [(0, .ref (mx 0))] := hl
  refine lv_iconst (v := nI 1) hx hb dX8_isPlaced_0 (by decide) ?_
  refine lv_istore_n (lv' := [(1, .int (nI 1)), (0, .ref (mx 0))]) hx hb dX8_isPlaced_1 rfl hl (by decide) rfl (fun ls hl => ?_)
  refine lv_iconst (v := nI 0) hx hb dX8_isPlaced_2 (by decide) ?_
  refine lv_istore_n (lv' := [(2, .int (nI 0)), (1, .int (nI 1)), (0, .ref (mx 0))]) hx hb dX8_isPlaced_3 rfl hl (by decide) rfl (fun ls hl => ?_)
  have L4 : ∀ (n9 : Nat) (i : Nat) (c9 : Int32), (i ≤ nt) → ((c9 = 1 ∧ ∀ t, t < i → ¬ zo t = -1) ∨ (c9 = 0 ∧ ¬ ∀ t, t < i → ¬ zo t = -1)) → (nt - i) < n9 → ∀ (ls : Array Slot), lv_has ls 3 [(0, .ref (mx 0)), (1, .int c9), (2, .int (nI i))] → W p l e ({ frames := 0, cells := 0, slots := 0, locals := 0 } : Room) s m ([.ref (mx 0)] : List Value).toArray below meth c s.heap [] 0 0 (MQ below (vp_Si (fun r9 => r9 = bB (decide (cnt (fun u9 => !decide (zo u9 = -1)) nt = nt)))) ([.ref (mx 0)] : List Value).toArray s 0 0 (fun _ => False)) (F0 m 4 ls []) := by
    intro n9
    induction n9 with
    | zero =>
      intro i c9 hi hc9 hm
      exact absurd hm (by omega)
    | succ n9 ih =>
      intro i c9 hi hc9 hm ls hl
      have ih_L4 := ih
      refine lv_iload_n hx hb dX8_isPlaced_4 rfl (lv_at hl 2 rfl) ?_
      refine lv_aload_n hx hb dX8_isPlaced_5 rfl (lv_at hl 0 rfl) ?_
      refine va_get (D := D) (ci := 8) (v := .int (nI nt)) (C := RX8) (T := TX8) (N := 16) hx hb hts tu_X8 hown hSt.1 hP 0 rfl rfl 4 (by decide) (hts _ t3_224) (fun _ h9 => h9) rfl dX8_isPlaced_6 ?_
      refine lv_icmp_ge (tgt := 38) hx hb dX8_isPlaced_9 (by decide) (fun c_1 => ?_) (fun c_1 => ?_)
      · have c_1 := z_le (by omega) (by omega) c_1
        refine lv_iload_n hx hb dX8_isPlaced_38 rfl (lv_at hl 1 rfl) ?_
        exact W.zret (v := c9) hx hb hr (b01_nar' (by rcases hc9 with q9 | q9; exact Or.inr q9.1; exact Or.inl q9.1)) (fun t9 ht9 hW9 => ⟨_, rfl, (pl_c9 (by have e9 : i = nt := (by omega); rw [e9] at hc9; exact hc9)), ht9⟩) (fun q h => nomatch h) dX8_isPlaced_39
      · have c_1 := z_nle (by omega) (by omega) c_1
        refine lv_iload_n hx hb dX8_isPlaced_12 rfl (lv_at hl 1 rfl) ?_
        refine lv_if_eq (tgt := 30) hx hb dX8_isPlaced_13 (by decide) (fun c_2 => ?_) (fun c_2 => ?_)
        · refine lv_iconst (v := nI 0) hx hb dX8_isPlaced_30 (by decide) ?_
          refine lv_istore_n (lv' := [(1, .int (nI 0)), (0, .ref (mx 0)), (2, .int (nI i))]) hx hb dX8_isPlaced_31 rfl hl (by decide) rfl (fun ls hl => ?_)
          refine lv_iinc (v := nI (i + 1)) (lv' := [(2, .int (nI (i + 1))), (1, .int (nI 0)), (0, .ref (mx 0))]) hx hb dX8_isPlaced_32 hl (k := 2) rfl (z_inc _) (by decide) rfl (fun ls hl => ?_)
          refine lv_goto (tgt := 4) hx hb dX8_isPlaced_35 (by decide) ?_
          exact ih_L4 (i + 1) (nI 0) (by omega) (Or.inr ⟨rfl, fun q9 => hc9.elim (fun q8 => absurd (q8.1.symm.trans c_2) (by decide)) (fun q8 => q8.2 (fun t ht => q9 t (by omega)))⟩) (by omega) _ (lv_sub hl [2, 1, 0] rfl)
        · refine lv_aload_n hx hb dX8_isPlaced_16 rfl (lv_at hl 0 rfl) ?_
          refine va_get (D := D) (ci := 8) (v := .ref (mx 7)) (C := RX8) (T := TX8) (N := 16) hx hb hts tu_X8 hown hSt.1 hP 0 rfl rfl 8 (by decide) (hts _ t3_228) (fun _ h9 => h9) rfl dX8_isPlaced_17 ?_
          refine lv_iload_n hx hb dX8_isPlaced_20 rfl (lv_at hl 2 rfl) ?_
          refine r_iald hx hb hSt.1 hP 7 0 rfl rfl (k := i) (by omega) (by omega) dX8_isPlaced_21 ?_
          refine lv_iconst (v := (-1 : Int32)) hx hb dX8_isPlaced_22 (by decide) ?_
          refine lv_icmp_eq (tgt := 30) hx hb dX8_isPlaced_23 (by decide) (fun c_3 => ?_) (fun c_3 => ?_)
          · refine lv_iconst (v := nI 0) hx hb dX8_isPlaced_30 (by decide) ?_
            refine lv_istore_n (lv' := [(1, .int (nI 0)), (0, .ref (mx 0)), (2, .int (nI i))]) hx hb dX8_isPlaced_31 rfl hl (by decide) rfl (fun ls hl => ?_)
            refine lv_iinc (v := nI (i + 1)) (lv' := [(2, .int (nI (i + 1))), (1, .int (nI 0)), (0, .ref (mx 0))]) hx hb dX8_isPlaced_32 hl (k := 2) rfl (z_inc _) (by decide) rfl (fun ls hl => ?_)
            refine lv_goto (tgt := 4) hx hb dX8_isPlaced_35 (by decide) ?_
            exact ih_L4 (i + 1) (nI 0) (by omega) (Or.inr ⟨rfl, fun q9 => q9 i (by omega) c_3⟩) (by omega) _ (lv_sub hl [2, 1, 0] rfl)
          · refine lv_iconst (v := nI 1) hx hb dX8_isPlaced_26 (by decide) ?_
            refine lv_goto (tgt := 31) hx hb dX8_isPlaced_27 (by decide) ?_
            refine lv_istore_n (lv' := [(1, .int (nI 1)), (0, .ref (mx 0)), (2, .int (nI i))]) hx hb dX8_isPlaced_31 rfl hl (by decide) rfl (fun ls hl => ?_)
            refine lv_iinc (v := nI (i + 1)) (lv' := [(2, .int (nI (i + 1))), (1, .int (nI 1)), (0, .ref (mx 0))]) hx hb dX8_isPlaced_32 hl (k := 2) rfl (z_inc _) (by decide) rfl (fun ls hl => ?_)
            refine lv_goto (tgt := 4) hx hb dX8_isPlaced_35 (by decide) ?_
            exact ih_L4 (i + 1) (nI 1) (by omega) (Or.inl ⟨rfl, fun t ht => if e : t = i then (by rw [e]; exact c_3) else hc9.elim (fun q8 => q8.2 t (by omega)) (fun q8 => absurd q8.1 c_2)⟩) (by omega) _ (lv_sub hl [2, 1, 0] rfl)
  exact L4 _ 0 (nI 1) (by omega) (Or.inl ⟨rfl, fun t ht => absurd ht (by omega)⟩) (Nat.lt_succ_self _) _ (lv_sub hl [2, 1, 0] rfl)
theorem hd_X8_isPlaced : yX8_isPlaced.cls = RX8 ∧ yX8_isPlaced.cls ≠ "java/lang/invoke/MethodHandle" ∧ yX8_isPlaced.cls ≠ "java/lang/invoke/VarHandle" ∧ (parseMethodDescriptor yX8_isPlaced.desc).map (fun d => d.parameters.length) = some 0 := by decide +kernel
set_option maxHeartbeats 4000000 in
set_option maxRecDepth 100000 in
theorem c_X8_costBehind_ex (l : Launch) (D : va_G) (cI cZ cQ cJ : ClassId) (mx : Nat → Nat) (w : Nat → Int32) (nz : Nat) (q : Nat → Int32) (d : Nat → Int32) (nt : Nat) (pr : Nat → Int32) (mw : Nat → Int32) (mt : Nat → Int32) (zo : Nat → Int32) (ke : Nat → Int32) (wy : Nat → Int32) (st : Nat → Int32) (tr : Nat → Int32) (be : Nat → Int32) (ch : Nat → Int32) (th : Int32) (pp : Nat → Nat → Nat) (n : Nat → Int32) (wi : Nat → Nat → Nat) (ti : Nat → Nat → Nat) (dd : Nat → Nat → Nat) (g : Nat → Nat) (cz : Nat → Int32) (lc : Nat → Nat) (rest : Nat) (s9 : Nat) (i9 : Nat) (j9 : Nat) (sz : Nat) (hnz : nz ≤ 7) (hnt : nt ≤ 7) (hpr : ∀ t, t < nt → ∀ j, j < 5 → pr (5 * t + j) = nI (pp t j) ∧ pp t j ≤ 60) (hnn : ∀ t, t < nt → n t = nI (ndN (pp t))) (hmw : ∀ t z, t < 7 → z < 7 → mw (7 * t + z) = nI (wi t z)) (hmt : ∀ t o, t < 7 → o < 7 → mt (7 * t + o) = nI (ti t o)) (hwy : ∀ u v, u < nz → v < nz → wy (7 * u + v) = nI (dd u v)) (hv : vOK nz wi ti dd) (hzo : pOK nt zo g) (hcz : pOK 7 cz g) (hvg : vG nz nt g) (haP : aP nz nt (fun t9 z9 => n t9 ≤ d z9) g) (hch : ∀ t5, t5 < nt → ch t5 = chI lc t5) (hlc : ∀ t5, lc t5 ≤ s9) (hre : rest ≤ 5) (hs9 : s9 ≤ 41) (hi9 : i9 < nt) (hj9 : j9 < nt) (hij : i9 ≠ j9) : Met l yX8_costBehind (.code yX8_costBehind cX8_costBehind 8 (some .int) :: ALL) ({ frames := 2, cells := 0, slots := 0, locals := 47 } : Room) (va_Pc [.ref (mx 0), .int (nI i9), .int (nI j9), .int (nI (g j9)), .int (nI s9), .int (nI rest)] (rw_P D cI cZ cQ cJ (wMo mx cI cZ w (nI nz) q d (nI nt) pr mw mt zo ke wy st tr be ch th) sz)) (va_Qi (fun (r9 : Int32) (u9 : (Nat → Int32)) => (r9 = (lI (cbN (EXp (fun t9 z9 => n t9 ≤ d z9) g lc rest s9 i9 j9) (costN wi ti dd (swp g i9 j9) nt))))) (rw_B D (va_A (wMo mx cI cZ w (nI nz) q d (nI nt) pr mw mt zo ke wy st tr be ch th) sz) (fun u9 : (Nat → Int32) => wMo mx cI cZ w (nI nz) q d (nI nt) pr mw mt zo ke wy st u9 be ch th)) (va_A (wMo mx cI cZ w (nI nz) q d (nI nt) pr mw mt zo ke wy st tr be ch th) sz)) 0 0 (va_A (wMo mx cI cZ w (nI nz) q d (nI nt) pr mw mt zo ke wy st tr be ch th) sz) := by
  refine Met.ofW (cc := cX8_costBehind) (maxL := 8) (ret := (some .int)) (by decide) rfl ?_
  intro p e s m args below meth c s₁ B hml hv
  obtain ⟨rfl, hsz, hP, hSt, hD0⟩ := hv
  have hx := B.exec
  have hb := B.bytes
  have hr := B.returns
  have hts : ∀ w ∈ ALL, w.before ([.ref (mx 0), .int (nI i9), .int (nI j9), .int (nI (g j9)), .int (nI s9), .int (nI rest)] : List Value).toArray s = true := fun w h => atoms_spec (ws := (.code yX8_costBehind cX8_costBehind 8 (some .int) :: ALL)) B.pre w (List.mem_cons_of_mem _ h)
  have hown : s.vm.findClass RX8 = some m.cls := findClass_of_methodNamed B.named
  have hlocks := B.notSynchronized
  subst hsz
  have hD := hD0.self (sz := s.heap.size)
  clear hD0
  generalize hAe : va_A (wMo mx cI cZ w (nI nz) q d (nI nt) pr mw mt zo ke wy st tr be ch th) s.heap.size = A at hD ⊢
  have hA : ∀ q : Nat, s.heap.size ≤ q → A q := fun q h => by rw [← hAe]; exact Or.inr h
  have hS : va_S A s.heap s.heap [] := va_S.rf
  have hl := lv_entry ([.ref (mx 0), .int (nI i9), .int (nI j9), .int (nI (g j9)), .int (nI s9), .int (nI rest)]) (n := 8) (Nat.le_of_ble_eq_true rfl)
  rw [lg_entry_eq]
  generalize (lg_sl ([.ref (mx 0), .int (nI i9), .int (nI j9), .int (nI (g j9)), .int (nI s9), .int (nI rest)]) ++ List.replicate (8 - (lg_sl ([.ref (mx 0), .int (nI i9), .int (nI j9), .int (nI (g j9)), .int (nI s9), .int (nI rest)])).length) Slot.unset).toArray = ls at hl ⊢
  have hl : lv_has ls 8 [(0, .ref (mx 0)), (1, .int (nI i9)), (2, .int (nI j9)), (3, .int (nI (g j9))), (4, .int (nI s9)), (5, .int (nI rest))] := hl
  obtain ⟨H, hHe⟩ : ∃ H : Heap, H = s.heap := ⟨_, rfl⟩
  obtain ⟨locs, hLe⟩ : ∃ L : List Loc, L = [] := ⟨_, rfl⟩
  have hP : va_P D vwCl (wMo mx cI cZ w (nI nz) q d (nI nt) pr mw mt zo ke wy st tr be ch th) H := by rw [hHe]; exact hP
  have hS : va_S A s.heap H locs := by rw [hHe, hLe]; exact hS
  refine W.eqHL hHe hLe ?_
  refine lv_iload hx hb dX8_costBehind_0 (lv_at hl 4 rfl) ?_
  refine lv_aload_n hx hb dX8_costBehind_2 rfl (lv_at hl 0 rfl) ?_
  refine va_get (D := D) (ci := 8) (v := .ref (mx 13)) (C := RX8) (T := TX8) (N := 16) hx hb hts tu_X8 hown hSt.1 hP 0 rfl rfl 14 (by decide) (hts _ t3_234) (fun _ h9 => h9) rfl dX8_costBehind_3 ?_
  refine lv_iload_n hx hb dX8_costBehind_6 rfl (lv_at hl 1 rfl) ?_
  refine r_iald hx hb hSt.1 hP 13 0 rfl rfl (k := i9) (by omega) (by omega) dX8_costBehind_7 ?_
  refine lv_isub hx hb dX8_costBehind_8 ?_
  have hst_i9 := stC_le (lc := lc) (s := s9) (t := i9)
  refine lv_as (y := nI (stC lc s9 i9)) (by rw [hch i9 (by omega)]; exact stC_is (hlc i9)) ?_
  refine lv_iload hx hb dX8_costBehind_9 (lv_at hl 5 rfl) ?_
  refine lv_icmp_le (tgt := 18) hx hb dX8_costBehind_11 (by decide) (fun c_1 => ?_) (fun c_1 => ?_)
  · have c_1 := z_le (by omega) (by omega) c_1
    refine lv_iconst (v := nI 0) hx hb dX8_costBehind_18 (by decide) ?_
    refine lv_istore (lv' := [(6, .int (nI 0)), (0, .ref (mx 0)), (1, .int (nI i9)), (2, .int (nI j9)), (3, .int (nI (g j9))), (4, .int (nI s9)), (5, .int (nI rest))]) hx hb dX8_costBehind_19 hl (by decide) rfl (fun ls hl => ?_)
    refine lv_iload_n hx hb dX8_costBehind_21 rfl (lv_at hl 3 rfl) ?_
    refine lv_iconst (v := (-1 : Int32)) hx hb dX8_costBehind_22 (by decide) ?_
    refine lv_icmp_eq (tgt := 69) hx hb dX8_costBehind_23 (by decide) (fun c_2 => ?_) (fun c_2 => ?_)
    · exact absurd c_2 (z_m1 (by omega))
    · refine lv_iload hx hb dX8_costBehind_26 (lv_at hl 0 rfl) ?_
      refine lv_if_eq (tgt := 63) hx hb dX8_costBehind_28 (by decide) (fun c_3 => ?_) (fun c_3 => ?_)
      · refine lv_iconst (v := nI 0) hx hb dX8_costBehind_63 (by decide) ?_
        refine lv_istore (lv' := [(6, .int (nI 0)), (0, .ref (mx 0)), (1, .int (nI i9)), (2, .int (nI j9)), (3, .int (nI (g j9))), (4, .int (nI s9)), (5, .int (nI rest))]) hx hb dX8_costBehind_64 hl (by decide) rfl (fun ls hl => ?_)
        refine lv_goto (tgt := 90) hx hb dX8_costBehind_66 (by decide) ?_
        refine lv_iload hx hb dX8_costBehind_90 (lv_at hl 0 rfl) ?_
        refine lv_if_eq (tgt := 104) hx hb dX8_costBehind_92 (by decide) (fun c_4 => ?_) (fun c_4 => ?_)
        · refine lv_iconst (v := (-1 : Int32)) hx hb dX8_costBehind_104 (by decide) ?_
          have hP9 : va_P D vwCl (wMo mx cI cZ w (nI nz) q d (nI nt) pr mw mt zo ke wy st tr be ch th) H := hP
          have hD9 : va_D A (wMo mx cI cZ w (nI nz) q d (nI nt) pr mw mt zo ke wy st tr be ch th) := hD
          exact W.iret (v := (-1 : Int32)) hx hb hr (fun t9 ht9 hW9 => ⟨⟨(-1 : Int32), (tr), rfl, (by rw [cbN_f (fun q9 => by have h7 := (stC_ok hre).mpr q9.1.1; omega)]; exact lI_big.symm), by rw [ht9]; exact hP9, hD9⟩, hS.F ht9⟩) hS.2.2 dX8_costBehind_105
        · exact absurd c_4 (by decide)
      · exact absurd c_3 (by decide)
  · have c_1 := z_nle (by omega) (by omega) c_1
    refine lv_iconst (v := nI 1) hx hb dX8_costBehind_14 (by decide) ?_
    refine lv_goto (tgt := 19) hx hb dX8_costBehind_15 (by decide) ?_
    refine lv_istore (lv' := [(6, .int (nI 1)), (0, .ref (mx 0)), (1, .int (nI i9)), (2, .int (nI j9)), (3, .int (nI (g j9))), (4, .int (nI s9)), (5, .int (nI rest))]) hx hb dX8_costBehind_19 hl (by decide) rfl (fun ls hl => ?_)
    refine lv_iload_n hx hb dX8_costBehind_21 rfl (lv_at hl 3 rfl) ?_
    refine lv_iconst (v := (-1 : Int32)) hx hb dX8_costBehind_22 (by decide) ?_
    refine lv_icmp_eq (tgt := 69) hx hb dX8_costBehind_23 (by decide) (fun c_5 => ?_) (fun c_5 => ?_)
    · exact absurd c_5 (z_m1 (by omega))
    · refine lv_iload hx hb dX8_costBehind_26 (lv_at hl 0 rfl) ?_
      refine lv_if_eq (tgt := 63) hx hb dX8_costBehind_28 (by decide) (fun c_6 => ?_) (fun c_6 => ?_)
      · exact absurd c_6 (by decide)
      · refine lv_iload hx hb dX8_costBehind_31 (lv_at hl 5 rfl) ?_
        refine lv_aload_n hx hb dX8_costBehind_33 rfl (lv_at hl 1 rfl) ?_
        refine va_get (D := D) (ci := 8) (v := .ref (mx 13)) (C := RX8) (T := TX8) (N := 16) hx hb hts tu_X8 hown hSt.1 hP 0 rfl rfl 14 (by decide) (hts _ t3_234) (fun _ h9 => h9) rfl dX8_costBehind_34 ?_
        refine lv_iload_n hx hb dX8_costBehind_37 rfl (lv_at hl 3 rfl) ?_
        refine r_iald hx hb hSt.1 hP 13 0 rfl rfl (k := j9) (by omega) (by omega) dX8_costBehind_38 ?_
        refine lv_isub hx hb dX8_costBehind_39 ?_
        have hst_j9 := stC_le (lc := lc) (s := s9) (t := j9)
        refine lv_as (y := nI (stC lc s9 j9)) (by rw [hch j9 (by omega)]; exact stC_is (hlc j9)) ?_
        refine lv_iload hx hb dX8_costBehind_40 (lv_at hl 6 rfl) ?_
        refine lv_icmp_le (tgt := 63) hx hb dX8_costBehind_42 (by decide) (fun c_7 => ?_) (fun c_7 => ?_)
        · have c_7 := z_le (by omega) (by omega) c_7
          refine lv_iconst (v := nI 0) hx hb dX8_costBehind_63 (by decide) ?_
          refine lv_istore (lv' := [(6, .int (nI 0)), (0, .ref (mx 0)), (1, .int (nI i9)), (2, .int (nI j9)), (3, .int (nI (g j9))), (4, .int (nI s9)), (5, .int (nI rest))]) hx hb dX8_costBehind_64 hl (by decide) rfl (fun ls hl => ?_)
          refine lv_goto (tgt := 90) hx hb dX8_costBehind_66 (by decide) ?_
          refine lv_iload hx hb dX8_costBehind_90 (lv_at hl 0 rfl) ?_
          refine lv_if_eq (tgt := 104) hx hb dX8_costBehind_92 (by decide) (fun c_8 => ?_) (fun c_8 => ?_)
          · refine lv_iconst (v := (-1 : Int32)) hx hb dX8_costBehind_104 (by decide) ?_
            have hP9 : va_P D vwCl (wMo mx cI cZ w (nI nz) q d (nI nt) pr mw mt zo ke wy st tr be ch th) H := hP
            have hD9 : va_D A (wMo mx cI cZ w (nI nz) q d (nI nt) pr mw mt zo ke wy st tr be ch th) := hD
            exact W.iret (v := (-1 : Int32)) hx hb hr (fun t9 ht9 hW9 => ⟨⟨(-1 : Int32), (tr), rfl, (by rw [cbN_f (fun q9 => by have h7 := (stC_ok hre).mpr q9.1.2; omega)]; exact lI_big.symm), by rw [ht9]; exact hP9, hD9⟩, hS.F ht9⟩) hS.2.2 dX8_costBehind_105
          · exact absurd c_8 (by decide)
        · have c_7 := z_nle (by omega) (by omega) c_7
          refine lv_aload_n hx hb dX8_costBehind_45 rfl (lv_at hl 1 rfl) ?_
          refine lv_iload_n hx hb dX8_costBehind_46 rfl (lv_at hl 3 rfl) ?_
          refine lv_aload_n hx hb dX8_costBehind_47 rfl (lv_at hl 1 rfl) ?_
          refine va_get (D := D) (ci := 8) (v := .ref (mx 7)) (C := RX8) (T := TX8) (N := 16) hx hb hts tu_X8 hown hSt.1 hP 0 rfl rfl 8 (by decide) (hts _ t3_228) (fun _ h9 => h9) rfl dX8_costBehind_48 ?_
          refine lv_iload_n hx hb dX8_costBehind_51 rfl (lv_at hl 2 rfl) ?_
          refine r_iald hx hb hSt.1 hP 7 0 rfl rfl (k := i9) (by omega) (by omega) dX8_costBehind_52 ?_
          refine lv_as (y := nI (g i9)) ((hzo i9 (by omega)).trans (zI_lt (by have h7 := aP_lt haP hi9; omega))) ?_
          refine ro_V (As := [.int (nI j9), .int (nI (g i9))]) (rest := []) (v := bI (n j9 ≤ d (g i9))) ⟨hx, hb, hml, hown, hts⟩ (c_X8_fits l D cI cZ cQ cJ mx w nz q d nt pr mw mt zo ke wy st tr be ch th pp n j9 (g i9) (by first | assumption | omega) (by first | assumption | omega) (by first | assumption | omega) (by first | assumption | omega) (by have h7 := aP_lt haP hi9; omega)) (gV t4_103 t4_105 t0_27 t1_10 t4_106) rfl rfl hd_X8_fits ⟨Nat.le_of_ble_eq_true rfl, Nat.le_of_ble_eq_true rfl⟩ hP hSt (va_recv hSt.1 hP (ci := 8) (q0 := 0) rfl rfl) rfl hl.1 rfl (Nat.le_of_ble_eq_true rfl) dX8_costBehind_53 (Nat.zero_le _) (Nat.zero_le _) ?_
          refine lv_if_eq (tgt := 63) hx hb dX8_costBehind_56 (by decide) (fun c_9 => ?_) (fun c_9 => ?_)
          · have c_9 := bI_0.mp c_9
            refine lv_iconst (v := nI 0) hx hb dX8_costBehind_63 (by decide) ?_
            refine lv_istore (lv' := [(6, .int (nI 0)), (0, .ref (mx 0)), (1, .int (nI i9)), (2, .int (nI j9)), (3, .int (nI (g j9))), (4, .int (nI s9)), (5, .int (nI rest))]) hx hb dX8_costBehind_64 hl (by decide) rfl (fun ls hl => ?_)
            refine lv_goto (tgt := 90) hx hb dX8_costBehind_66 (by decide) ?_
            refine lv_iload hx hb dX8_costBehind_90 (lv_at hl 0 rfl) ?_
            refine lv_if_eq (tgt := 104) hx hb dX8_costBehind_92 (by decide) (fun c_10 => ?_) (fun c_10 => ?_)
            · refine lv_iconst (v := (-1 : Int32)) hx hb dX8_costBehind_104 (by decide) ?_
              have hP9 : va_P D vwCl (wMo mx cI cZ w (nI nz) q d (nI nt) pr mw mt zo ke wy st tr be ch th) H := hP
              have hD9 : va_D A (wMo mx cI cZ w (nI nz) q d (nI nt) pr mw mt zo ke wy st tr be ch th) := hD
              exact W.iret (v := (-1 : Int32)) hx hb hr (fun t9 ht9 hW9 => ⟨⟨(-1 : Int32), (tr), rfl, (by rw [cbN_f (fun q9 => c_9 q9.2.2)]; exact lI_big.symm), by rw [ht9]; exact hP9, hD9⟩, hS.F ht9⟩) hS.2.2 dX8_costBehind_105
            · exact absurd c_10 (by decide)
          · have c_9 := bI_n0.mp c_9
            refine lv_iconst (v := nI 1) hx hb dX8_costBehind_59 (by decide) ?_
            refine lv_goto (tgt := 64) hx hb dX8_costBehind_60 (by decide) ?_
            refine lv_istore (lv' := [(6, .int (nI 1)), (0, .ref (mx 0)), (1, .int (nI i9)), (2, .int (nI j9)), (3, .int (nI (g j9))), (4, .int (nI s9)), (5, .int (nI rest))]) hx hb dX8_costBehind_64 hl (by decide) rfl (fun ls hl => ?_)
            refine lv_goto (tgt := 90) hx hb dX8_costBehind_66 (by decide) ?_
            refine lv_iload hx hb dX8_costBehind_90 (lv_at hl 0 rfl) ?_
            refine lv_if_eq (tgt := 104) hx hb dX8_costBehind_92 (by decide) (fun c_11 => ?_) (fun c_11 => ?_)
            · exact absurd c_11 (by decide)
            · refine lv_aload_n hx hb dX8_costBehind_95 rfl (lv_at hl 1 rfl) ?_
              refine lv_iload_n hx hb dX8_costBehind_96 rfl (lv_at hl 2 rfl) ?_
              refine lv_iload_n hx hb dX8_costBehind_97 rfl (lv_at hl 4 rfl) ?_
              refine ro_V (As := [.int (nI i9), .int (nI (g j9))]) (rest := []) (v := bI (n i9 ≤ d (g j9))) ⟨hx, hb, hml, hown, hts⟩ (c_X8_fits l D cI cZ cQ cJ mx w nz q d nt pr mw mt zo ke wy st tr be ch th pp n i9 (g j9) (by first | assumption | omega) (by first | assumption | omega) (by first | assumption | omega) (by first | assumption | omega) (by have h7 := aP_lt haP hj9; omega)) (gV t4_103 t4_105 t0_27 t1_10 t4_106) rfl rfl hd_X8_fits ⟨Nat.le_of_ble_eq_true rfl, Nat.le_of_ble_eq_true rfl⟩ hP hSt (va_recv hSt.1 hP (ci := 8) (q0 := 0) rfl rfl) rfl hl.1 rfl (Nat.le_of_ble_eq_true rfl) dX8_costBehind_98 (Nat.zero_le _) (Nat.zero_le _) ?_
              refine lv_if_ne (tgt := 106) hx hb dX8_costBehind_101 (by decide) (fun c_12 => ?_) (fun c_12 => ?_)
              · have c_12 := bI_n0.mp c_12
                have hok9 : EXp (fun t9 z9 => n t9 ≤ d z9) g lc rest s9 i9 j9 := ⟨⟨(stC_ok hre).mp c_1, (stC_ok hre).mp c_7⟩, c_12, c_9⟩
                have hgk9 : gOK nz 7 (swp g i9 j9) := gOK_swp (gOK_aP haP) (by omega) (by omega)
                have hcle : costN wi ti dd (swp g i9 j9) nt ≤ 50000 := costN_le hv (fun t ht => hgk9 t (by omega)) hnt hnz
                refine lv_iconst (v := nI 0) hx hb dX8_costBehind_106 (by decide) ?_
                refine lv_istore (lv' := [(7, .int (nI 0)), (6, .int (nI 1)), (0, .ref (mx 0)), (1, .int (nI i9)), (2, .int (nI j9)), (3, .int (nI (g j9))), (4, .int (nI s9)), (5, .int (nI rest))]) hx hb dX8_costBehind_107 hl (by decide) rfl (fun ls hl => ?_)
                have L109 : ∀ (n9 : Nat) (u : Nat) (t1 : Nat → Int32), (u ≤ nt) → (∀ t, t < u → t1 t = zI ((swp g i9 j9) t)) → (nt - u) < n9 → ∀ (H : Heap) (locs : List Loc), va_P D vwCl (wMo mx cI cZ w (nI nz) q d (nI nt) pr mw mt zo ke wy st t1 be ch th) H → va_D A (wMo mx cI cZ w (nI nz) q d (nI nt) pr mw mt zo ke wy st t1 be ch th) → va_S A s.heap H locs → ∀ (ls : Array Slot), lv_has ls 8 [(0, .ref (mx 0)), (1, .int (nI i9)), (2, .int (nI j9)), (3, .int (nI (g j9))), (7, .int (nI u))] → W p l e ({ frames := 2, cells := 0, slots := 0, locals := 47 } : Room) s m ([.ref (mx 0), .int (nI i9), .int (nI j9), .int (nI (g j9)), .int (nI s9), .int (nI rest)] : List Value).toArray below meth c H locs 0 0 (MQ below (va_Qi (fun (r9 : Int32) (u9 : (Nat → Int32)) => (r9 = (lI (cbN (EXp (fun t9 z9 => n t9 ≤ d z9) g lc rest s9 i9 j9) (costN wi ti dd (swp g i9 j9) nt))))) (rw_B D A (fun u9 : (Nat → Int32) => wMo mx cI cZ w (nI nz) q d (nI nt) pr mw mt zo ke wy st u9 be ch th)) A) ([.ref (mx 0), .int (nI i9), .int (nI j9), .int (nI (g j9)), .int (nI s9), .int (nI rest)] : List Value).toArray s 0 0 A) (F0 m 109 ls []) := by
                  intro n9
                  induction n9 with
                  | zero =>
                    intro u t1 hu ht1 hm
                    exact absurd hm (by omega)
                  | succ n9 ih =>
                    intro u t1 hu ht1 hm H locs hP hD hS ls hl
                    have ih_L109 := ih
                    refine lv_iload hx hb dX8_costBehind_109 (lv_at hl 4 rfl) ?_
                    refine lv_aload_n hx hb dX8_costBehind_111 rfl (lv_at hl 0 rfl) ?_
                    refine va_get (D := D) (ci := 8) (v := .int (nI nt)) (C := RX8) (T := TX8) (N := 16) hx hb hts tu_X8 hown hSt.1 hP 0 rfl rfl 4 (by decide) (hts _ t3_224) (fun _ h9 => h9) rfl dX8_costBehind_112 ?_
                    refine lv_icmp_ge (tgt := 163) hx hb dX8_costBehind_115 (by decide) (fun c_13 => ?_) (fun c_13 => ?_)
                    · have c_13 := z_le (by omega) (by omega) c_13
                      refine lv_aload_n hx hb dX8_costBehind_163 rfl (lv_at hl 0 rfl) ?_
                      refine lv_aload_n hx hb dX8_costBehind_164 rfl (lv_at hl 0 rfl) ?_
                      refine va_get (D := D) (ci := 8) (v := .ref (mx 11)) (C := RX8) (T := TX8) (N := 16) hx hb hts tu_X8 hown hSt.1 hP 0 rfl rfl 12 (by decide) (hts _ t3_232) (fun _ h9 => h9) rfl dX8_costBehind_165 ?_
                      refine ro_V (As := [.ref (mx 11)]) (rest := []) (v := nI (costN wi ti dd (swp g i9 j9) nt)) ⟨hx, hb, hml, hown, hts⟩ (c_X8_costOf_tr l D cI cZ cQ cJ mx w nz q d nt pr mw mt zo ke wy st t1 be ch th wi ti dd (swp g i9 j9) (by first | assumption | omega) (by first | assumption | omega) (by first | assumption | omega) (by first | assumption | omega) (by first | assumption | omega) (fun t ht => ht1 t (by omega)) (fun t ht => hgk9 t (by omega))) (gV t4_131 t4_133 t0_33 t1_10 t4_134) rfl rfl hd_X8_costOf ⟨Nat.le_of_ble_eq_true rfl, Nat.le_of_ble_eq_true rfl⟩ hP hSt (va_recv hSt.1 hP (ci := 8) (q0 := 0) rfl rfl) rfl hl.1 rfl (Nat.le_of_ble_eq_true rfl) dX8_costBehind_168 (Nat.zero_le _) (Nat.zero_le _) ?_
                      have hP9 : va_P D vwCl (wMo mx cI cZ w (nI nz) q d (nI nt) pr mw mt zo ke wy st t1 be ch th) H := hP
                      have hD9 : va_D A (wMo mx cI cZ w (nI nz) q d (nI nt) pr mw mt zo ke wy st t1 be ch th) := hD
                      exact W.iret (v := nI (costN wi ti dd (swp g i9 j9) nt)) hx hb hr (fun t9 ht9 hW9 => ⟨⟨nI (costN wi ti dd (swp g i9 j9) nt), (t1), rfl, (by rw [cbN_t hok9, lI_lt (Nat.lt_of_le_of_lt hcle (by omega))]), by rw [ht9]; exact hP9, hD9⟩, hS.F ht9⟩) hS.2.2 dX8_costBehind_171
                    · have c_13 := z_nle (by omega) (by omega) c_13
                      refine lv_aload_n hx hb dX8_costBehind_118 rfl (lv_at hl 0 rfl) ?_
                      refine va_get (D := D) (ci := 8) (v := .ref (mx 11)) (C := RX8) (T := TX8) (N := 16) hx hb hts tu_X8 hown hSt.1 hP 0 rfl rfl 12 (by decide) (hts _ t3_232) (fun _ h9 => h9) rfl dX8_costBehind_119 ?_
                      refine lv_iload hx hb dX8_costBehind_122 (lv_at hl 4 rfl) ?_
                      refine lv_iload hx hb dX8_costBehind_124 (lv_at hl 4 rfl) ?_
                      refine lv_iload_n hx hb dX8_costBehind_126 rfl (lv_at hl 1 rfl) ?_
                      refine lv_icmp_ne (tgt := 134) hx hb dX8_costBehind_127 (by decide) (fun c_14 => ?_) (fun c_14 => ?_)
                      · have c_14 := z_ne (by omega) (by omega) c_14
                        refine lv_iload hx hb dX8_costBehind_134 (lv_at hl 4 rfl) ?_
                        refine lv_iload_n hx hb dX8_costBehind_136 rfl (lv_at hl 2 rfl) ?_
                        refine lv_icmp_ne (tgt := 149) hx hb dX8_costBehind_137 (by decide) (fun c_15 => ?_) (fun c_15 => ?_)
                        · have c_15 := z_ne (by omega) (by omega) c_15
                          refine lv_aload_n hx hb dX8_costBehind_149 rfl (lv_at hl 0 rfl) ?_
                          refine va_get (D := D) (ci := 8) (v := .ref (mx 7)) (C := RX8) (T := TX8) (N := 16) hx hb hts tu_X8 hown hSt.1 hP 0 rfl rfl 8 (by decide) (hts _ t3_228) (fun _ h9 => h9) rfl dX8_costBehind_150 ?_
                          refine lv_iload hx hb dX8_costBehind_153 (lv_at hl 4 rfl) ?_
                          refine r_iald hx hb hSt.1 hP 7 0 rfl rfl (k := u) (by omega) (by omega) dX8_costBehind_155 ?_
                          refine r_iast hx hb hSt.1 hP hD hS 11 0 rfl rfl (k := u) (by omega) (by omega) dX8_costBehind_156 (fun H locs hP hD hS => ?_)
                          have hP : va_P D vwCl (wMo mx cI cZ w (nI nz) q d (nI nt) pr mw mt zo ke wy st (upd t1 u (zo u)) be ch th) H := hP
                          have hD : va_D A (wMo mx cI cZ w (nI nz) q d (nI nt) pr mw mt zo ke wy st (upd t1 u (zo u)) be ch th) := hD
                          refine lv_iinc (v := nI (u + 1)) (lv' := [(7, .int (nI (u + 1))), (0, .ref (mx 0)), (1, .int (nI i9)), (2, .int (nI j9)), (3, .int (nI (g j9)))]) hx hb dX8_costBehind_157 hl (k := 4) rfl (z_inc _) (by decide) rfl (fun ls hl => ?_)
                          refine lv_goto (tgt := 109) hx hb dX8_costBehind_160 (by decide) ?_
                          exact ih_L109 (u + 1) (upd t1 u (zo u)) (by omega) (fun t ht => if e : t = u then (by rw [e, pk_us]; rw [swp_n c_14 c_15]; exact hzo u (by omega)) else (by rw [pk_un e]; exact ht1 t (by omega))) (by omega) _ _ hP hD hS _ (lv_sub hl [1, 2, 3, 4, 0] rfl)
                        · have c_15 := z_eq (by omega) (by omega) c_15
                          refine lv_aload_n hx hb dX8_costBehind_140 rfl (lv_at hl 0 rfl) ?_
                          refine va_get (D := D) (ci := 8) (v := .ref (mx 7)) (C := RX8) (T := TX8) (N := 16) hx hb hts tu_X8 hown hSt.1 hP 0 rfl rfl 8 (by decide) (hts _ t3_228) (fun _ h9 => h9) rfl dX8_costBehind_141 ?_
                          refine lv_iload_n hx hb dX8_costBehind_144 rfl (lv_at hl 1 rfl) ?_
                          refine r_iald hx hb hSt.1 hP 7 0 rfl rfl (k := i9) (by omega) (by omega) dX8_costBehind_145 ?_
                          refine lv_goto (tgt := 156) hx hb dX8_costBehind_146 (by decide) ?_
                          refine r_iast hx hb hSt.1 hP hD hS 11 0 rfl rfl (k := u) (by omega) (by omega) dX8_costBehind_156 (fun H locs hP hD hS => ?_)
                          have hP : va_P D vwCl (wMo mx cI cZ w (nI nz) q d (nI nt) pr mw mt zo ke wy st (upd t1 u (zo i9)) be ch th) H := hP
                          have hD : va_D A (wMo mx cI cZ w (nI nz) q d (nI nt) pr mw mt zo ke wy st (upd t1 u (zo i9)) be ch th) := hD
                          refine lv_iinc (v := nI (u + 1)) (lv' := [(7, .int (nI (u + 1))), (0, .ref (mx 0)), (1, .int (nI i9)), (2, .int (nI j9)), (3, .int (nI (g j9)))]) hx hb dX8_costBehind_157 hl (k := 4) rfl (z_inc _) (by decide) rfl (fun ls hl => ?_)
                          refine lv_goto (tgt := 109) hx hb dX8_costBehind_160 (by decide) ?_
                          exact ih_L109 (u + 1) (upd t1 u (zo i9)) (by omega) (fun t ht => if e : t = u then (by rw [e, pk_us]; rw [show u = j9 from c_15, swp_b]; exact hzo i9 (by omega)) else (by rw [pk_un e]; exact ht1 t (by omega))) (by omega) _ _ hP hD hS _ (lv_sub hl [1, 2, 3, 4, 0] rfl)
                      · have c_14 := z_eq (by omega) (by omega) c_14
                        refine lv_iload_n hx hb dX8_costBehind_130 rfl (lv_at hl 3 rfl) ?_
                        refine lv_goto (tgt := 156) hx hb dX8_costBehind_131 (by decide) ?_
                        refine r_iast hx hb hSt.1 hP hD hS 11 0 rfl rfl (k := u) (by omega) (by omega) dX8_costBehind_156 (fun H locs hP hD hS => ?_)
                        have hP : va_P D vwCl (wMo mx cI cZ w (nI nz) q d (nI nt) pr mw mt zo ke wy st (upd t1 u (nI (g j9))) be ch th) H := hP
                        have hD : va_D A (wMo mx cI cZ w (nI nz) q d (nI nt) pr mw mt zo ke wy st (upd t1 u (nI (g j9))) be ch th) := hD
                        refine lv_iinc (v := nI (u + 1)) (lv' := [(7, .int (nI (u + 1))), (0, .ref (mx 0)), (1, .int (nI i9)), (2, .int (nI j9)), (3, .int (nI (g j9)))]) hx hb dX8_costBehind_157 hl (k := 4) rfl (z_inc _) (by decide) rfl (fun ls hl => ?_)
                        refine lv_goto (tgt := 109) hx hb dX8_costBehind_160 (by decide) ?_
                        exact ih_L109 (u + 1) (upd t1 u (nI (g j9))) (by omega) (fun t ht => if e : t = u then (by rw [e, pk_us]; rw [show u = i9 from c_14, swp_a hij, zI_lt (by have h7 := aP_lt haP hj9; omega)]) else (by rw [pk_un e]; exact ht1 t (by omega))) (by omega) _ _ hP hD hS _ (lv_sub hl [1, 2, 3, 4, 0] rfl)
                exact L109 _ 0 tr (by omega) (fun t ht => absurd ht (by omega)) (Nat.lt_succ_self _) _ _ hP hD hS _ (lv_sub hl [2, 3, 4, 5, 0] rfl)
              · have c_12 := bI_0.mp c_12
                refine lv_iconst (v := (-1 : Int32)) hx hb dX8_costBehind_104 (by decide) ?_
                have hP9 : va_P D vwCl (wMo mx cI cZ w (nI nz) q d (nI nt) pr mw mt zo ke wy st tr be ch th) H := hP
                have hD9 : va_D A (wMo mx cI cZ w (nI nz) q d (nI nt) pr mw mt zo ke wy st tr be ch th) := hD
                exact W.iret (v := (-1 : Int32)) hx hb hr (fun t9 ht9 hW9 => ⟨⟨(-1 : Int32), (tr), rfl, (by rw [cbN_f (fun q9 => c_12 q9.2.1)]; exact lI_big.symm), by rw [ht9]; exact hP9, hD9⟩, hS.F ht9⟩) hS.2.2 dX8_costBehind_105
set_option maxHeartbeats 4000000 in
set_option maxRecDepth 100000 in
theorem c_X8_costBehind_mv (l : Launch) (D : va_G) (cI cZ cQ cJ : ClassId) (mx : Nat → Nat) (w : Nat → Int32) (nz : Nat) (q : Nat → Int32) (d : Nat → Int32) (nt : Nat) (pr : Nat → Int32) (mw : Nat → Int32) (mt : Nat → Int32) (zo : Nat → Int32) (ke : Nat → Int32) (wy : Nat → Int32) (st : Nat → Int32) (tr : Nat → Int32) (be : Nat → Int32) (ch : Nat → Int32) (th : Int32) (pp : Nat → Nat → Nat) (n : Nat → Int32) (wi : Nat → Nat → Nat) (ti : Nat → Nat → Nat) (dd : Nat → Nat → Nat) (g : Nat → Nat) (cz : Nat → Int32) (lc : Nat → Nat) (rest : Nat) (s9 : Nat) (i9 : Nat) (zk : Nat) (sz : Nat) (hnz : nz ≤ 7) (hnt : nt ≤ 7) (hpr : ∀ t, t < nt → ∀ j, j < 5 → pr (5 * t + j) = nI (pp t j) ∧ pp t j ≤ 60) (hnn : ∀ t, t < nt → n t = nI (ndN (pp t))) (hmw : ∀ t z, t < 7 → z < 7 → mw (7 * t + z) = nI (wi t z)) (hmt : ∀ t o, t < 7 → o < 7 → mt (7 * t + o) = nI (ti t o)) (hwy : ∀ u v, u < nz → v < nz → wy (7 * u + v) = nI (dd u v)) (hv : vOK nz wi ti dd) (hzo : pOK nt zo g) (hcz : pOK 7 cz g) (hvg : vG nz nt g) (haP : aP nz nt (fun t9 z9 => n t9 ≤ d z9) g) (hch : ∀ t5, t5 < nt → ch t5 = chI lc t5) (hlc : ∀ t5, lc t5 ≤ s9) (hre : rest ≤ 5) (hs9 : s9 ≤ 41) (hi9 : i9 < nt) (hz9 : zk < nz) : Met l yX8_costBehind (.code yX8_costBehind cX8_costBehind 8 (some .int) :: ALL) ({ frames := 2, cells := 0, slots := 0, locals := 47 } : Room) (va_Pc [.ref (mx 0), .int (nI i9), .int (-1 : Int32), .int (nI zk), .int (nI s9), .int (nI rest)] (rw_P D cI cZ cQ cJ (wMo mx cI cZ w (nI nz) q d (nI nt) pr mw mt zo ke wy st tr be ch th) sz)) (va_Qi (fun (r9 : Int32) (u9 : (Nat → Int32)) => (r9 = (lI (cbN (MVp (fun t9 z9 => n t9 ≤ d z9) nt g lc rest s9 i9 zk) (costN wi ti dd (updN g i9 zk) nt))))) (rw_B D (va_A (wMo mx cI cZ w (nI nz) q d (nI nt) pr mw mt zo ke wy st tr be ch th) sz) (fun u9 : (Nat → Int32) => wMo mx cI cZ w (nI nz) q d (nI nt) pr mw mt zo ke wy st u9 be ch th)) (va_A (wMo mx cI cZ w (nI nz) q d (nI nt) pr mw mt zo ke wy st tr be ch th) sz)) 0 0 (va_A (wMo mx cI cZ w (nI nz) q d (nI nt) pr mw mt zo ke wy st tr be ch th) sz) := by
  refine Met.ofW (cc := cX8_costBehind) (maxL := 8) (ret := (some .int)) (by decide) rfl ?_
  intro p e s m args below meth c s₁ B hml hv
  obtain ⟨rfl, hsz, hP, hSt, hD0⟩ := hv
  have hx := B.exec
  have hb := B.bytes
  have hr := B.returns
  have hts : ∀ w ∈ ALL, w.before ([.ref (mx 0), .int (nI i9), .int (-1 : Int32), .int (nI zk), .int (nI s9), .int (nI rest)] : List Value).toArray s = true := fun w h => atoms_spec (ws := (.code yX8_costBehind cX8_costBehind 8 (some .int) :: ALL)) B.pre w (List.mem_cons_of_mem _ h)
  have hown : s.vm.findClass RX8 = some m.cls := findClass_of_methodNamed B.named
  have hlocks := B.notSynchronized
  subst hsz
  have hD := hD0.self (sz := s.heap.size)
  clear hD0
  generalize hAe : va_A (wMo mx cI cZ w (nI nz) q d (nI nt) pr mw mt zo ke wy st tr be ch th) s.heap.size = A at hD ⊢
  have hA : ∀ q : Nat, s.heap.size ≤ q → A q := fun q h => by rw [← hAe]; exact Or.inr h
  have hS : va_S A s.heap s.heap [] := va_S.rf
  have hl := lv_entry ([.ref (mx 0), .int (nI i9), .int (-1 : Int32), .int (nI zk), .int (nI s9), .int (nI rest)]) (n := 8) (Nat.le_of_ble_eq_true rfl)
  rw [lg_entry_eq]
  generalize (lg_sl ([.ref (mx 0), .int (nI i9), .int (-1 : Int32), .int (nI zk), .int (nI s9), .int (nI rest)]) ++ List.replicate (8 - (lg_sl ([.ref (mx 0), .int (nI i9), .int (-1 : Int32), .int (nI zk), .int (nI s9), .int (nI rest)])).length) Slot.unset).toArray = ls at hl ⊢
  have hl : lv_has ls 8 [(0, .ref (mx 0)), (1, .int (nI i9)), (2, .int (-1 : Int32)), (3, .int (nI zk)), (4, .int (nI s9)), (5, .int (nI rest))] := hl
  obtain ⟨H, hHe⟩ : ∃ H : Heap, H = s.heap := ⟨_, rfl⟩
  obtain ⟨locs, hLe⟩ : ∃ L : List Loc, L = [] := ⟨_, rfl⟩
  have hP : va_P D vwCl (wMo mx cI cZ w (nI nz) q d (nI nt) pr mw mt zo ke wy st tr be ch th) H := by rw [hHe]; exact hP
  have hS : va_S A s.heap H locs := by rw [hHe, hLe]; exact hS
  refine W.eqHL hHe hLe ?_
  refine lv_iload hx hb dX8_costBehind_0 (lv_at hl 4 rfl) ?_
  refine lv_aload_n hx hb dX8_costBehind_2 rfl (lv_at hl 0 rfl) ?_
  refine va_get (D := D) (ci := 8) (v := .ref (mx 13)) (C := RX8) (T := TX8) (N := 16) hx hb hts tu_X8 hown hSt.1 hP 0 rfl rfl 14 (by decide) (hts _ t3_234) (fun _ h9 => h9) rfl dX8_costBehind_3 ?_
  refine lv_iload_n hx hb dX8_costBehind_6 rfl (lv_at hl 1 rfl) ?_
  refine r_iald hx hb hSt.1 hP 13 0 rfl rfl (k := i9) (by omega) (by omega) dX8_costBehind_7 ?_
  refine lv_isub hx hb dX8_costBehind_8 ?_
  have hst_i9 := stC_le (lc := lc) (s := s9) (t := i9)
  refine lv_as (y := nI (stC lc s9 i9)) (by rw [hch i9 (by omega)]; exact stC_is (hlc i9)) ?_
  refine lv_iload hx hb dX8_costBehind_9 (lv_at hl 5 rfl) ?_
  refine lv_icmp_le (tgt := 18) hx hb dX8_costBehind_11 (by decide) (fun c_1 => ?_) (fun c_1 => ?_)
  · have c_1 := z_le (by omega) (by omega) c_1
    refine lv_iconst (v := nI 0) hx hb dX8_costBehind_18 (by decide) ?_
    refine lv_istore (lv' := [(6, .int (nI 0)), (0, .ref (mx 0)), (1, .int (nI i9)), (2, .int (-1 : Int32)), (3, .int (nI zk)), (4, .int (nI s9)), (5, .int (nI rest))]) hx hb dX8_costBehind_19 hl (by decide) rfl (fun ls hl => ?_)
    refine lv_iload_n hx hb dX8_costBehind_21 rfl (lv_at hl 3 rfl) ?_
    refine lv_iconst (v := (-1 : Int32)) hx hb dX8_costBehind_22 (by decide) ?_
    refine lv_icmp_eq (tgt := 69) hx hb dX8_costBehind_23 (by decide) (fun c_2 => ?_) (fun c_2 => ?_)
    · refine lv_iload hx hb dX8_costBehind_69 (lv_at hl 0 rfl) ?_
      refine lv_if_eq (tgt := 87) hx hb dX8_costBehind_71 (by decide) (fun c_3 => ?_) (fun c_3 => ?_)
      · refine lv_iconst (v := nI 0) hx hb dX8_costBehind_87 (by decide) ?_
        refine lv_istore (lv' := [(6, .int (nI 0)), (0, .ref (mx 0)), (1, .int (nI i9)), (2, .int (-1 : Int32)), (3, .int (nI zk)), (4, .int (nI s9)), (5, .int (nI rest))]) hx hb dX8_costBehind_88 hl (by decide) rfl (fun ls hl => ?_)
        refine lv_iload hx hb dX8_costBehind_90 (lv_at hl 0 rfl) ?_
        refine lv_if_eq (tgt := 104) hx hb dX8_costBehind_92 (by decide) (fun c_4 => ?_) (fun c_4 => ?_)
        · refine lv_iconst (v := (-1 : Int32)) hx hb dX8_costBehind_104 (by decide) ?_
          have hP9 : va_P D vwCl (wMo mx cI cZ w (nI nz) q d (nI nt) pr mw mt zo ke wy st tr be ch th) H := hP
          have hD9 : va_D A (wMo mx cI cZ w (nI nz) q d (nI nt) pr mw mt zo ke wy st tr be ch th) := hD
          exact W.iret (v := (-1 : Int32)) hx hb hr (fun t9 ht9 hW9 => ⟨⟨(-1 : Int32), (tr), rfl, (by rw [cbN_f (fun q9 => by have h7 := (stC_ok hre).mpr q9.1.1; omega)]; exact lI_big.symm), by rw [ht9]; exact hP9, hD9⟩, hS.F ht9⟩) hS.2.2 dX8_costBehind_105
        · exact absurd c_4 (by decide)
      · exact absurd c_3 (by decide)
    · exact absurd c_2 (by decide)
  · have c_1 := z_nle (by omega) (by omega) c_1
    refine lv_iconst (v := nI 1) hx hb dX8_costBehind_14 (by decide) ?_
    refine lv_goto (tgt := 19) hx hb dX8_costBehind_15 (by decide) ?_
    refine lv_istore (lv' := [(6, .int (nI 1)), (0, .ref (mx 0)), (1, .int (nI i9)), (2, .int (-1 : Int32)), (3, .int (nI zk)), (4, .int (nI s9)), (5, .int (nI rest))]) hx hb dX8_costBehind_19 hl (by decide) rfl (fun ls hl => ?_)
    refine lv_iload_n hx hb dX8_costBehind_21 rfl (lv_at hl 3 rfl) ?_
    refine lv_iconst (v := (-1 : Int32)) hx hb dX8_costBehind_22 (by decide) ?_
    refine lv_icmp_eq (tgt := 69) hx hb dX8_costBehind_23 (by decide) (fun c_5 => ?_) (fun c_5 => ?_)
    · refine lv_iload hx hb dX8_costBehind_69 (lv_at hl 0 rfl) ?_
      refine lv_if_eq (tgt := 87) hx hb dX8_costBehind_71 (by decide) (fun c_6 => ?_) (fun c_6 => ?_)
      · exact absurd c_6 (by decide)
      · refine lv_aload_n hx hb dX8_costBehind_74 rfl (lv_at hl 1 rfl) ?_
        refine lv_iload_n hx hb dX8_costBehind_75 rfl (lv_at hl 4 rfl) ?_
        refine ro_V (As := [.int (nI zk)]) (rest := []) (v := tAt cz (nI zk)) ⟨hx, hb, hml, hown, hts⟩ (c_X8_inZone l D cI cZ cQ cJ mx w nz q d nt pr mw mt zo ke wy st tr be ch th g cz zk (by first | assumption | omega) (by first | assumption | omega) (by first | assumption | omega) (by first | assumption | omega) (by first | assumption | omega) (by omega)) (gV t4_67 t4_69 t0_23 t1_10 t4_70) rfl rfl hd_X8_inZone ⟨Nat.le_of_ble_eq_true rfl, Nat.le_of_ble_eq_true rfl⟩ hP hSt (va_recv hSt.1 hP (ci := 8) (q0 := 0) rfl rfl) rfl hl.1 rfl (Nat.le_of_ble_eq_true rfl) dX8_costBehind_76 (Nat.zero_le _) (Nat.zero_le _) ?_
        refine lv_iconst (v := (-1 : Int32)) hx hb dX8_costBehind_79 (by decide) ?_
        refine lv_icmp_ne (tgt := 87) hx hb dX8_costBehind_80 (by decide) (fun c_7 => ?_) (fun c_7 => ?_)
        · refine lv_iconst (v := nI 0) hx hb dX8_costBehind_87 (by decide) ?_
          refine lv_istore (lv' := [(6, .int (nI 0)), (0, .ref (mx 0)), (1, .int (nI i9)), (2, .int (-1 : Int32)), (3, .int (nI zk)), (4, .int (nI s9)), (5, .int (nI rest))]) hx hb dX8_costBehind_88 hl (by decide) rfl (fun ls hl => ?_)
          refine lv_iload hx hb dX8_costBehind_90 (lv_at hl 0 rfl) ?_
          refine lv_if_eq (tgt := 104) hx hb dX8_costBehind_92 (by decide) (fun c_8 => ?_) (fun c_8 => ?_)
          · refine lv_iconst (v := (-1 : Int32)) hx hb dX8_costBehind_104 (by decide) ?_
            have hP9 : va_P D vwCl (wMo mx cI cZ w (nI nz) q d (nI nt) pr mw mt zo ke wy st tr be ch th) H := hP
            have hD9 : va_D A (wMo mx cI cZ w (nI nz) q d (nI nt) pr mw mt zo ke wy st tr be ch th) := hD
            exact W.iret (v := (-1 : Int32)) hx hb hr (fun t9 ht9 hW9 => ⟨⟨(-1 : Int32), (tr), rfl, (by rw [cbN_f (fun q9 => c_7 ((tAt_none hcz (vG_7 hvg hnz) (vG_out hvg) hnt (by omega)).mpr q9.1.2))]; exact lI_big.symm), by rw [ht9]; exact hP9, hD9⟩, hS.F ht9⟩) hS.2.2 dX8_costBehind_105
          · exact absurd c_8 (by decide)
        · refine lv_iconst (v := nI 1) hx hb dX8_costBehind_83 (by decide) ?_
          refine lv_goto (tgt := 88) hx hb dX8_costBehind_84 (by decide) ?_
          refine lv_istore (lv' := [(6, .int (nI 1)), (0, .ref (mx 0)), (1, .int (nI i9)), (2, .int (-1 : Int32)), (3, .int (nI zk)), (4, .int (nI s9)), (5, .int (nI rest))]) hx hb dX8_costBehind_88 hl (by decide) rfl (fun ls hl => ?_)
          refine lv_iload hx hb dX8_costBehind_90 (lv_at hl 0 rfl) ?_
          refine lv_if_eq (tgt := 104) hx hb dX8_costBehind_92 (by decide) (fun c_9 => ?_) (fun c_9 => ?_)
          · exact absurd c_9 (by decide)
          · refine lv_aload_n hx hb dX8_costBehind_95 rfl (lv_at hl 1 rfl) ?_
            refine lv_iload_n hx hb dX8_costBehind_96 rfl (lv_at hl 2 rfl) ?_
            refine lv_iload_n hx hb dX8_costBehind_97 rfl (lv_at hl 4 rfl) ?_
            refine ro_V (As := [.int (nI i9), .int (nI zk)]) (rest := []) (v := bI (n i9 ≤ d zk)) ⟨hx, hb, hml, hown, hts⟩ (c_X8_fits l D cI cZ cQ cJ mx w nz q d nt pr mw mt zo ke wy st tr be ch th pp n i9 zk (by first | assumption | omega) (by first | assumption | omega) (by first | assumption | omega) (by first | assumption | omega) (by omega)) (gV t4_103 t4_105 t0_27 t1_10 t4_106) rfl rfl hd_X8_fits ⟨Nat.le_of_ble_eq_true rfl, Nat.le_of_ble_eq_true rfl⟩ hP hSt (va_recv hSt.1 hP (ci := 8) (q0 := 0) rfl rfl) rfl hl.1 rfl (Nat.le_of_ble_eq_true rfl) dX8_costBehind_98 (Nat.zero_le _) (Nat.zero_le _) ?_
            refine lv_if_ne (tgt := 106) hx hb dX8_costBehind_101 (by decide) (fun c_10 => ?_) (fun c_10 => ?_)
            · have c_10 := bI_n0.mp c_10
              have hok9 : MVp (fun t9 z9 => n t9 ≤ d z9) nt g lc rest s9 i9 zk := ⟨⟨(stC_ok hre).mp c_1, (tAt_none hcz (vG_7 hvg hnz) (vG_out hvg) hnt (by omega)).mp c_7⟩, c_10⟩
              have hgk9 : gOK nz 7 (updN g i9 zk) := gOK_upd (gOK_aP haP) (Or.inl hz9)
              have hcle : costN wi ti dd (updN g i9 zk) nt ≤ 50000 := costN_le hv (fun t ht => hgk9 t (by omega)) hnt hnz
              refine lv_iconst (v := nI 0) hx hb dX8_costBehind_106 (by decide) ?_
              refine lv_istore (lv' := [(7, .int (nI 0)), (6, .int (nI 1)), (0, .ref (mx 0)), (1, .int (nI i9)), (2, .int (-1 : Int32)), (3, .int (nI zk)), (4, .int (nI s9)), (5, .int (nI rest))]) hx hb dX8_costBehind_107 hl (by decide) rfl (fun ls hl => ?_)
              have L109 : ∀ (n9 : Nat) (u : Nat) (t1 : Nat → Int32), (u ≤ nt) → (∀ t, t < u → t1 t = zI ((updN g i9 zk) t)) → (nt - u) < n9 → ∀ (H : Heap) (locs : List Loc), va_P D vwCl (wMo mx cI cZ w (nI nz) q d (nI nt) pr mw mt zo ke wy st t1 be ch th) H → va_D A (wMo mx cI cZ w (nI nz) q d (nI nt) pr mw mt zo ke wy st t1 be ch th) → va_S A s.heap H locs → ∀ (ls : Array Slot), lv_has ls 8 [(0, .ref (mx 0)), (1, .int (nI i9)), (2, .int (-1 : Int32)), (3, .int (nI (zk))), (7, .int (nI u))] → W p l e ({ frames := 2, cells := 0, slots := 0, locals := 47 } : Room) s m ([.ref (mx 0), .int (nI i9), .int (-1 : Int32), .int (nI zk), .int (nI s9), .int (nI rest)] : List Value).toArray below meth c H locs 0 0 (MQ below (va_Qi (fun (r9 : Int32) (u9 : (Nat → Int32)) => (r9 = (lI (cbN (MVp (fun t9 z9 => n t9 ≤ d z9) nt g lc rest s9 i9 zk) (costN wi ti dd (updN g i9 zk) nt))))) (rw_B D A (fun u9 : (Nat → Int32) => wMo mx cI cZ w (nI nz) q d (nI nt) pr mw mt zo ke wy st u9 be ch th)) A) ([.ref (mx 0), .int (nI i9), .int (-1 : Int32), .int (nI zk), .int (nI s9), .int (nI rest)] : List Value).toArray s 0 0 A) (F0 m 109 ls []) := by
                intro n9
                induction n9 with
                | zero =>
                  intro u t1 hu ht1 hm
                  exact absurd hm (by omega)
                | succ n9 ih =>
                  intro u t1 hu ht1 hm H locs hP hD hS ls hl
                  have ih_L109 := ih
                  refine lv_iload hx hb dX8_costBehind_109 (lv_at hl 4 rfl) ?_
                  refine lv_aload_n hx hb dX8_costBehind_111 rfl (lv_at hl 0 rfl) ?_
                  refine va_get (D := D) (ci := 8) (v := .int (nI nt)) (C := RX8) (T := TX8) (N := 16) hx hb hts tu_X8 hown hSt.1 hP 0 rfl rfl 4 (by decide) (hts _ t3_224) (fun _ h9 => h9) rfl dX8_costBehind_112 ?_
                  refine lv_icmp_ge (tgt := 163) hx hb dX8_costBehind_115 (by decide) (fun c_11 => ?_) (fun c_11 => ?_)
                  · have c_11 := z_le (by omega) (by omega) c_11
                    refine lv_aload_n hx hb dX8_costBehind_163 rfl (lv_at hl 0 rfl) ?_
                    refine lv_aload_n hx hb dX8_costBehind_164 rfl (lv_at hl 0 rfl) ?_
                    refine va_get (D := D) (ci := 8) (v := .ref (mx 11)) (C := RX8) (T := TX8) (N := 16) hx hb hts tu_X8 hown hSt.1 hP 0 rfl rfl 12 (by decide) (hts _ t3_232) (fun _ h9 => h9) rfl dX8_costBehind_165 ?_
                    refine ro_V (As := [.ref (mx 11)]) (rest := []) (v := nI (costN wi ti dd (updN g i9 zk) nt)) ⟨hx, hb, hml, hown, hts⟩ (c_X8_costOf_tr l D cI cZ cQ cJ mx w nz q d nt pr mw mt zo ke wy st t1 be ch th wi ti dd (updN g i9 zk) (by first | assumption | omega) (by first | assumption | omega) (by first | assumption | omega) (by first | assumption | omega) (by first | assumption | omega) (fun t ht => ht1 t (by omega)) (fun t ht => hgk9 t (by omega))) (gV t4_131 t4_133 t0_33 t1_10 t4_134) rfl rfl hd_X8_costOf ⟨Nat.le_of_ble_eq_true rfl, Nat.le_of_ble_eq_true rfl⟩ hP hSt (va_recv hSt.1 hP (ci := 8) (q0 := 0) rfl rfl) rfl hl.1 rfl (Nat.le_of_ble_eq_true rfl) dX8_costBehind_168 (Nat.zero_le _) (Nat.zero_le _) ?_
                    have hP9 : va_P D vwCl (wMo mx cI cZ w (nI nz) q d (nI nt) pr mw mt zo ke wy st t1 be ch th) H := hP
                    have hD9 : va_D A (wMo mx cI cZ w (nI nz) q d (nI nt) pr mw mt zo ke wy st t1 be ch th) := hD
                    exact W.iret (v := nI (costN wi ti dd (updN g i9 zk) nt)) hx hb hr (fun t9 ht9 hW9 => ⟨⟨nI (costN wi ti dd (updN g i9 zk) nt), (t1), rfl, (by rw [cbN_t hok9, lI_lt (Nat.lt_of_le_of_lt hcle (by omega))]), by rw [ht9]; exact hP9, hD9⟩, hS.F ht9⟩) hS.2.2 dX8_costBehind_171
                  · have c_11 := z_nle (by omega) (by omega) c_11
                    refine lv_aload_n hx hb dX8_costBehind_118 rfl (lv_at hl 0 rfl) ?_
                    refine va_get (D := D) (ci := 8) (v := .ref (mx 11)) (C := RX8) (T := TX8) (N := 16) hx hb hts tu_X8 hown hSt.1 hP 0 rfl rfl 12 (by decide) (hts _ t3_232) (fun _ h9 => h9) rfl dX8_costBehind_119 ?_
                    refine lv_iload hx hb dX8_costBehind_122 (lv_at hl 4 rfl) ?_
                    refine lv_iload hx hb dX8_costBehind_124 (lv_at hl 4 rfl) ?_
                    refine lv_iload_n hx hb dX8_costBehind_126 rfl (lv_at hl 1 rfl) ?_
                    refine lv_icmp_ne (tgt := 134) hx hb dX8_costBehind_127 (by decide) (fun c_12 => ?_) (fun c_12 => ?_)
                    · have c_12 := z_ne (by omega) (by omega) c_12
                      refine lv_iload hx hb dX8_costBehind_134 (lv_at hl 4 rfl) ?_
                      refine lv_iload_n hx hb dX8_costBehind_136 rfl (lv_at hl 2 rfl) ?_
                      refine lv_icmp_ne (tgt := 149) hx hb dX8_costBehind_137 (by decide) (fun c_13 => ?_) (fun c_13 => ?_)
                      · refine lv_aload_n hx hb dX8_costBehind_149 rfl (lv_at hl 0 rfl) ?_
                        refine va_get (D := D) (ci := 8) (v := .ref (mx 7)) (C := RX8) (T := TX8) (N := 16) hx hb hts tu_X8 hown hSt.1 hP 0 rfl rfl 8 (by decide) (hts _ t3_228) (fun _ h9 => h9) rfl dX8_costBehind_150 ?_
                        refine lv_iload hx hb dX8_costBehind_153 (lv_at hl 4 rfl) ?_
                        refine r_iald hx hb hSt.1 hP 7 0 rfl rfl (k := u) (by omega) (by omega) dX8_costBehind_155 ?_
                        refine r_iast hx hb hSt.1 hP hD hS 11 0 rfl rfl (k := u) (by omega) (by omega) dX8_costBehind_156 (fun H locs hP hD hS => ?_)
                        have hP : va_P D vwCl (wMo mx cI cZ w (nI nz) q d (nI nt) pr mw mt zo ke wy st (upd t1 u (zo u)) be ch th) H := hP
                        have hD : va_D A (wMo mx cI cZ w (nI nz) q d (nI nt) pr mw mt zo ke wy st (upd t1 u (zo u)) be ch th) := hD
                        refine lv_iinc (v := nI (u + 1)) (lv' := [(7, .int (nI (u + 1))), (0, .ref (mx 0)), (1, .int (nI i9)), (2, .int (-1 : Int32)), (3, .int (nI (zk)))]) hx hb dX8_costBehind_157 hl (k := 4) rfl (z_inc _) (by decide) rfl (fun ls hl => ?_)
                        refine lv_goto (tgt := 109) hx hb dX8_costBehind_160 (by decide) ?_
                        exact ih_L109 (u + 1) (upd t1 u (zo u)) (by omega) (fun t ht => if e : t = u then (by rw [e, pk_us]; rw [updN_n _ _ c_12]; exact hzo u (by omega)) else (by rw [pk_un e]; exact ht1 t (by omega))) (by omega) _ _ hP hD hS _ (lv_sub hl [1, 2, 3, 4, 0] rfl)
                      · exact absurd c_13 (z_m1 (by omega))
                    · have c_12 := z_eq (by omega) (by omega) c_12
                      refine lv_iload_n hx hb dX8_costBehind_130 rfl (lv_at hl 3 rfl) ?_
                      refine lv_goto (tgt := 156) hx hb dX8_costBehind_131 (by decide) ?_
                      refine r_iast hx hb hSt.1 hP hD hS 11 0 rfl rfl (k := u) (by omega) (by omega) dX8_costBehind_156 (fun H locs hP hD hS => ?_)
                      have hP : va_P D vwCl (wMo mx cI cZ w (nI nz) q d (nI nt) pr mw mt zo ke wy st (upd t1 u (nI (zk))) be ch th) H := hP
                      have hD : va_D A (wMo mx cI cZ w (nI nz) q d (nI nt) pr mw mt zo ke wy st (upd t1 u (nI (zk))) be ch th) := hD
                      refine lv_iinc (v := nI (u + 1)) (lv' := [(7, .int (nI (u + 1))), (0, .ref (mx 0)), (1, .int (nI i9)), (2, .int (-1 : Int32)), (3, .int (nI (zk)))]) hx hb dX8_costBehind_157 hl (k := 4) rfl (z_inc _) (by decide) rfl (fun ls hl => ?_)
                      refine lv_goto (tgt := 109) hx hb dX8_costBehind_160 (by decide) ?_
                      exact ih_L109 (u + 1) (upd t1 u (nI (zk))) (by omega) (fun t ht => if e : t = u then (by rw [e, pk_us]; rw [show u = i9 from c_12, updN_s, zI_lt (by omega)]) else (by rw [pk_un e]; exact ht1 t (by omega))) (by omega) _ _ hP hD hS _ (lv_sub hl [1, 2, 3, 4, 0] rfl)
              exact L109 _ 0 tr (by omega) (fun t ht => absurd ht (by omega)) (Nat.lt_succ_self _) _ _ hP hD hS _ (lv_sub hl [2, 3, 4, 5, 0] rfl)
            · have c_10 := bI_0.mp c_10
              refine lv_iconst (v := (-1 : Int32)) hx hb dX8_costBehind_104 (by decide) ?_
              have hP9 : va_P D vwCl (wMo mx cI cZ w (nI nz) q d (nI nt) pr mw mt zo ke wy st tr be ch th) H := hP
              have hD9 : va_D A (wMo mx cI cZ w (nI nz) q d (nI nt) pr mw mt zo ke wy st tr be ch th) := hD
              exact W.iret (v := (-1 : Int32)) hx hb hr (fun t9 ht9 hW9 => ⟨⟨(-1 : Int32), (tr), rfl, (by rw [cbN_f (fun q9 => c_10 q9.2)]; exact lI_big.symm), by rw [ht9]; exact hP9, hD9⟩, hS.F ht9⟩) hS.2.2 dX8_costBehind_105
    · exact absurd c_5 (by decide)
theorem hd_X8_costBehind : yX8_costBehind.cls = RX8 ∧ yX8_costBehind.cls ≠ "java/lang/invoke/MethodHandle" ∧ yX8_costBehind.cls ≠ "java/lang/invoke/VarHandle" ∧ (parseMethodDescriptor yX8_costBehind.desc).map (fun d => d.parameters.length) = some 5 := by decide +kernel
