set_option maxHeartbeats 4000000 in
set_option maxRecDepth 100000 in
theorem c_X8_goes (l : Launch) (D : va_G) (cI cZ cQ cJ : ClassId) (mx : Nat → Nat) (w : Nat → Int32) (nz : Nat) (q : Nat → Int32) (d : Nat → Int32) (nt : Nat) (pr : Nat → Int32) (mw : Nat → Int32) (mt : Nat → Int32) (zo : Nat → Int32) (ke : Nat → Int32) (wy : Nat → Int32) (st : Nat → Int32) (tr : Nat → Int32) (be : Nat → Int32) (ch : Nat → Int32) (th : Int32) (co : Int32) (ro : Int32) (v : Int32) (sz : Nat)  : Met l yX8_goes (.code yX8_goes cX8_goes 4 none :: ALL) ({ frames := 2, cells := 0, slots := 0, locals := 43 } : Room) (va_Pc [.ref (mx 0), .int co, .int ro, .int v] (rw_P D cI cZ cQ cJ (wMo mx cI cZ w (nI nz) q d (nI nt) pr mw mt zo ke wy st tr be ch th) sz)) (va_Qv (fun u9 : (Nat → Int32) => (GS w co ro v st u9)) (rw_B D (va_A (wMo mx cI cZ w (nI nz) q d (nI nt) pr mw mt zo ke wy st tr be ch th) sz) (fun u9 : (Nat → Int32) => wMo mx cI cZ w (nI nz) q d (nI nt) pr mw mt zo ke wy u9 tr be ch th)) (va_A (wMo mx cI cZ w (nI nz) q d (nI nt) pr mw mt zo ke wy st tr be ch th) sz)) 0 0 (va_A (wMo mx cI cZ w (nI nz) q d (nI nt) pr mw mt zo ke wy st tr be ch th) sz) := by
  refine Met.ofW (cc := cX8_goes) (maxL := 4) (ret := none) (by decide) rfl ?_
  intro p e s m args below meth c s₁ B hml hv
  obtain ⟨rfl, hsz, hP, hSt, hD0⟩ := hv
  have hx := B.exec
  have hb := B.bytes
  have hr := B.returns
  have hts : ∀ w ∈ ALL, w.before ([.ref (mx 0), .int co, .int ro, .int v] : List Value).toArray s = true := fun w h => atoms_spec (ws := (.code yX8_goes cX8_goes 4 none :: ALL)) B.pre w (List.mem_cons_of_mem _ h)
  have hown : s.vm.findClass RX8 = some m.cls := findClass_of_methodNamed B.named
  have hlocks := B.notSynchronized
  subst hsz
  have hD := hD0.self (sz := s.heap.size)
  clear hD0
  generalize hAe : va_A (wMo mx cI cZ w (nI nz) q d (nI nt) pr mw mt zo ke wy st tr be ch th) s.heap.size = A at hD ⊢
  have hA : ∀ q : Nat, s.heap.size ≤ q → A q := fun q h => by rw [← hAe]; exact Or.inr h
  have hS : va_S A s.heap s.heap [] := va_S.rf
  have hl := lv_entry ([.ref (mx 0), .int co, .int ro, .int v]) (n := 4) (Nat.le_of_ble_eq_true rfl)
  rw [lg_entry_eq]
  generalize (lg_sl ([.ref (mx 0), .int co, .int ro, .int v]) ++ List.replicate (4 - (lg_sl ([.ref (mx 0), .int co, .int ro, .int v])).length) Slot.unset).toArray = ls at hl ⊢
  have hl : lv_has ls 4 [(0, .ref (mx 0)), (1, .int co), (2, .int ro), (3, .int v)] := hl
  obtain ⟨H, hHe⟩ : ∃ H : Heap, H = s.heap := ⟨_, rfl⟩
  obtain ⟨locs, hLe⟩ : ∃ L : List Loc, L = [] := ⟨_, rfl⟩
  have hP : va_P D vwCl (wMo mx cI cZ w (nI nz) q d (nI nt) pr mw mt zo ke wy st tr be ch th) H := by rw [hHe]; exact hP
  have hS : va_S A s.heap H locs := by rw [hHe, hLe]; exact hS
  refine W.eqHL hHe hLe ?_
  refine lv_iload_n hx hb dX8_goes_0 rfl (lv_at hl 1 rfl) ?_
  refine lv_iload_n hx hb dX8_goes_1 rfl (lv_at hl 2 rfl) ?_
  refine ro_S (As := [.int co, .int ro]) (rest := []) (v := bI (inSq co ro)) ⟨hx, hb, hml, hown, hts⟩ (c_X8_isSquare l D cI cZ cQ cJ co ro) (gS t4_37 t4_38 t1_10 t4_39) rfl rfl hd_X8_isSquare ⟨Nat.le_of_ble_eq_true rfl, Nat.le_of_ble_eq_true rfl⟩ va_P_nil hSt rfl hl.1 rfl (Nat.le_of_ble_eq_true rfl) dX8_goes_2 (Nat.zero_le _) (Nat.zero_le _) ?_
  refine lv_if_eq (tgt := 49) hx hb dX8_goes_5 (by decide) (fun c_1 => ?_) (fun c_1 => ?_)
  · have c_1 := bI_0.mp c_1
    have hP9 : va_P D vwCl (wMo mx cI cZ w (nI nz) q d (nI nt) pr mw mt zo ke wy st tr be ch th) H := hP
    have hD9 : va_D A (wMo mx cI cZ w (nI nz) q d (nI nt) pr mw mt zo ke wy st tr be ch th) := hD
    have g_2 : GS w co ro v st st := Or.inr ⟨fun q9 => c_1 q9.1, rfl⟩
    exact W.vret hx hb hr (fun t9 ht9 hW9 => ⟨⟨(st), rfl, g_2, by rw [ht9]; exact hP9, hD9⟩, hS.F ht9⟩) hS.2.2 dX8_goes_49
  · have c_1 := bI_n0.mp c_1
    have hsq := c_1
    obtain ⟨i0, j0, hi0, hj0, rfl, rfl⟩ := inSq_nat hsq
    have e9 : sqI (nI i0) (nI j0) = 8 * j0 + i0 := by rw [sqI_nat (by omega) (by omega)]; omega
    refine lv_aload_n hx hb dX8_goes_8 rfl (lv_at hl 0 rfl) ?_
    refine va_get (D := D) (ci := 8) (v := .ref (mx 1)) (C := RX8) (T := TX8) (N := 16) hx hb hts tu_X8 hown hSt.1 hP 0 rfl rfl 0 (by decide) (hts _ t3_220) (fun _ h9 => h9) rfl dX8_goes_9 ?_
    refine lv_bipush (v := nI 8) hx hb dX8_goes_12 (by decide) ?_
    refine lv_iload_n hx hb dX8_goes_14 rfl (lv_at hl 2 rfl) ?_
    refine r_muln hx hb dX8_goes_15 ?_
    refine lv_iload_n hx hb dX8_goes_16 rfl (lv_at hl 1 rfl) ?_
    refine r_addn hx hb dX8_goes_17 ?_
    refine r_zald hx hb hSt.1 hP 1 1 rfl rfl (k := ((8 * j0) + i0)) (by omega) (by omega) dX8_goes_18 ?_
    refine lv_if_ne (tgt := 49) hx hb dX8_goes_19 (by decide) (fun c_3 => ?_) (fun c_3 => ?_)
    · have hP9 : va_P D vwCl (wMo mx cI cZ w (nI nz) q d (nI nt) pr mw mt zo ke wy st tr be ch th) H := hP
      have hD9 : va_D A (wMo mx cI cZ w (nI nz) q d (nI nt) pr mw mt zo ke wy st tr be ch th) := hD
      have g_4 : GS w (nI i0) (nI j0) v st st := Or.inr ⟨fun q9 => by have h9 := q9.2.1; rw [e9] at h9; exact c_3 h9, rfl⟩
      exact W.vret hx hb hr (fun t9 ht9 hW9 => ⟨⟨(st), rfl, g_4, by rw [ht9]; exact hP9, hD9⟩, hS.F ht9⟩) hS.2.2 dX8_goes_49
    · refine lv_aload_n hx hb dX8_goes_22 rfl (lv_at hl 0 rfl) ?_
      refine va_get (D := D) (ci := 8) (v := .ref (mx 10)) (C := RX8) (T := TX8) (N := 16) hx hb hts tu_X8 hown hSt.1 hP 0 rfl rfl 11 (by decide) (hts _ t3_231) (fun _ h9 => h9) rfl dX8_goes_23 ?_
      refine lv_bipush (v := nI 8) hx hb dX8_goes_26 (by decide) ?_
      refine lv_iload_n hx hb dX8_goes_28 rfl (lv_at hl 2 rfl) ?_
      refine r_muln hx hb dX8_goes_29 ?_
      refine lv_iload_n hx hb dX8_goes_30 rfl (lv_at hl 1 rfl) ?_
      refine r_addn hx hb dX8_goes_31 ?_
      refine r_iald hx hb hSt.1 hP 10 0 rfl rfl (k := ((8 * j0) + i0)) (by omega) (by omega) dX8_goes_32 ?_
      refine lv_iconst (v := (-1 : Int32)) hx hb dX8_goes_33 (by decide) ?_
      refine lv_icmp_ne (tgt := 49) hx hb dX8_goes_34 (by decide) (fun c_5 => ?_) (fun c_5 => ?_)
      · have hP9 : va_P D vwCl (wMo mx cI cZ w (nI nz) q d (nI nt) pr mw mt zo ke wy st tr be ch th) H := hP
        have hD9 : va_D A (wMo mx cI cZ w (nI nz) q d (nI nt) pr mw mt zo ke wy st tr be ch th) := hD
        have g_6 : GS w (nI i0) (nI j0) v st st := Or.inr ⟨fun q9 => by have h9 := q9.2.2; rw [e9] at h9; exact c_5 h9, rfl⟩
        exact W.vret hx hb hr (fun t9 ht9 hW9 => ⟨⟨(st), rfl, g_6, by rw [ht9]; exact hP9, hD9⟩, hS.F ht9⟩) hS.2.2 dX8_goes_49
      · refine lv_aload_n hx hb dX8_goes_37 rfl (lv_at hl 0 rfl) ?_
        refine va_get (D := D) (ci := 8) (v := .ref (mx 10)) (C := RX8) (T := TX8) (N := 16) hx hb hts tu_X8 hown hSt.1 hP 0 rfl rfl 11 (by decide) (hts _ t3_231) (fun _ h9 => h9) rfl dX8_goes_38 ?_
        refine lv_bipush (v := nI 8) hx hb dX8_goes_41 (by decide) ?_
        refine lv_iload_n hx hb dX8_goes_43 rfl (lv_at hl 2 rfl) ?_
        refine r_muln hx hb dX8_goes_44 ?_
        refine lv_iload_n hx hb dX8_goes_45 rfl (lv_at hl 1 rfl) ?_
        refine r_addn hx hb dX8_goes_46 ?_
        refine lv_iload_n hx hb dX8_goes_47 rfl (lv_at hl 3 rfl) ?_
        refine r_iast hx hb hSt.1 hP hD hS 10 0 rfl rfl (k := ((8 * j0) + i0)) (by omega) (by omega) dX8_goes_48 (fun H locs hP hD hS => ?_)
        have hP : va_P D vwCl (wMo mx cI cZ w (nI nz) q d (nI nt) pr mw mt zo ke wy (upd st ((8 * j0) + i0) v) tr be ch th) H := hP
        have hD : va_D A (wMo mx cI cZ w (nI nz) q d (nI nt) pr mw mt zo ke wy (upd st ((8 * j0) + i0) v) tr be ch th) := hD
        have hP9 : va_P D vwCl (wMo mx cI cZ w (nI nz) q d (nI nt) pr mw mt zo ke wy (upd st ((8 * j0) + i0) v) tr be ch th) H := hP
        have hD9 : va_D A (wMo mx cI cZ w (nI nz) q d (nI nt) pr mw mt zo ke wy (upd st ((8 * j0) + i0) v) tr be ch th) := hD
        have g_7 : GS w (nI i0) (nI j0) v st (upd st ((8 * j0) + i0) v) := Or.inl ⟨⟨hsq, by rw [e9]; exact c_3, by rw [e9]; exact c_5⟩, by rw [e9]⟩
        exact W.vret hx hb hr (fun t9 ht9 hW9 => ⟨⟨(upd st ((8 * j0) + i0) v), rfl, g_7, by rw [ht9]; exact hP9, hD9⟩, hS.F ht9⟩) hS.2.2 dX8_goes_49
theorem hd_X8_goes : yX8_goes.cls = RX8 ∧ yX8_goes.cls ≠ "java/lang/invoke/MethodHandle" ∧ yX8_goes.cls ≠ "java/lang/invoke/VarHandle" ∧ (parseMethodDescriptor yX8_goes.desc).map (fun d => d.parameters.length) = some 3 := by decide +kernel
set_option maxHeartbeats 4000000 in
set_option maxRecDepth 100000 in
theorem c_X8_walks (l : Launch) (D : va_G) (cI cZ cQ cJ : ClassId) (mx : Nat → Nat) (w : Nat → Int32) (nz : Nat) (q : Nat → Int32) (d : Nat → Int32) (nt : Nat) (pr : Nat → Int32) (mw : Nat → Int32) (mt : Nat → Int32) (zo : Nat → Int32) (ke : Nat → Int32) (wy : Nat → Int32) (st : Nat → Int32) (tr : Nat → Int32) (be : Nat → Int32) (ch : Nat → Int32) (th : Int32) (a9 : Nat) (sz : Nat) (ha : a9 < 64) : Met l yX8_walks (.code yX8_walks cX8_walks 4 none :: ALL) ({ frames := 3, cells := 0, slots := 0, locals := 66 } : Room) (va_Pc [.ref (mx 0), .int (nI a9)] (rw_P D cI cZ cQ cJ (wMo mx cI cZ w (nI nz) q d (nI nt) pr mw mt zo ke wy st tr be ch th) sz)) (va_Qv (fun u9 : (Nat → Int32) => (LV w a9 64 0 u9)) (rw_B D (va_A (wMo mx cI cZ w (nI nz) q d (nI nt) pr mw mt zo ke wy st tr be ch th) sz) (fun u9 : (Nat → Int32) => wMo mx cI cZ w (nI nz) q d (nI nt) pr mw mt zo ke wy u9 tr be ch th)) (va_A (wMo mx cI cZ w (nI nz) q d (nI nt) pr mw mt zo ke wy st tr be ch th) sz)) 0 0 (va_A (wMo mx cI cZ w (nI nz) q d (nI nt) pr mw mt zo ke wy st tr be ch th) sz) := by
  refine Met.ofW (cc := cX8_walks) (maxL := 4) (ret := none) (by decide) rfl ?_
  intro p e s m args below meth c s₁ B hml hv
  obtain ⟨rfl, hsz, hP, hSt, hD0⟩ := hv
  have hx := B.exec
  have hb := B.bytes
  have hr := B.returns
  have hts : ∀ w ∈ ALL, w.before ([.ref (mx 0), .int (nI a9)] : List Value).toArray s = true := fun w h => atoms_spec (ws := (.code yX8_walks cX8_walks 4 none :: ALL)) B.pre w (List.mem_cons_of_mem _ h)
  have hown : s.vm.findClass RX8 = some m.cls := findClass_of_methodNamed B.named
  have hlocks := B.notSynchronized
  subst hsz
  have hD := hD0.self (sz := s.heap.size)
  clear hD0
  generalize hAe : va_A (wMo mx cI cZ w (nI nz) q d (nI nt) pr mw mt zo ke wy st tr be ch th) s.heap.size = A at hD ⊢
  have hA : ∀ q : Nat, s.heap.size ≤ q → A q := fun q h => by rw [← hAe]; exact Or.inr h
  have hS : va_S A s.heap s.heap [] := va_S.rf
  have hl := lv_entry ([.ref (mx 0), .int (nI a9)]) (n := 4) (Nat.le_of_ble_eq_true rfl)
  rw [lg_entry_eq]
  generalize (lg_sl ([.ref (mx 0), .int (nI a9)]) ++ List.replicate (4 - (lg_sl ([.ref (mx 0), .int (nI a9)])).length) Slot.unset).toArray = ls at hl ⊢
  have hl : lv_has ls 4 [(0, .ref (mx 0)), (1, .int (nI a9))] := hl
  obtain ⟨H, hHe⟩ : ∃ H : Heap, H = s.heap := ⟨_, rfl⟩
  obtain ⟨locs, hLe⟩ : ∃ L : List Loc, L = [] := ⟨_, rfl⟩
  have hP : va_P D vwCl (wMo mx cI cZ w (nI nz) q d (nI nt) pr mw mt zo ke wy st tr be ch th) H := by rw [hHe]; exact hP
  have hS : va_S A s.heap H locs := by rw [hHe, hLe]; exact hS
  refine W.eqHL hHe hLe ?_
  refine lv_iconst (v := nI 0) hx hb dX8_walks_0 (by decide) ?_
  refine lv_istore_n (lv' := [(2, .int (nI 0)), (0, .ref (mx 0)), (1, .int (nI a9))]) hx hb dX8_walks_1 rfl hl (by decide) rfl (fun ls hl => ?_)
  have L2 : ∀ (n9 : Nat) (k : Nat) (s1 : Nat → Int32), (k ≤ 64) → (∀ j, j < k → s1 j = if j = a9 then nI 0 else -1) → (64 - k) < n9 → ∀ (H : Heap) (locs : List Loc), va_P D vwCl (wMo mx cI cZ w (nI nz) q d (nI nt) pr mw mt zo ke wy s1 tr be ch th) H → va_D A (wMo mx cI cZ w (nI nz) q d (nI nt) pr mw mt zo ke wy s1 tr be ch th) → va_S A s.heap H locs → ∀ (ls : Array Slot), lv_has ls 4 [(0, .ref (mx 0)), (1, .int (nI a9)), (2, .int (nI k))] → W p l e ({ frames := 3, cells := 0, slots := 0, locals := 66 } : Room) s m ([.ref (mx 0), .int (nI a9)] : List Value).toArray below meth c H locs 0 0 (MQ below (va_Qv (fun u9 : (Nat → Int32) => (LV w a9 64 0 u9)) (rw_B D A (fun u9 : (Nat → Int32) => wMo mx cI cZ w (nI nz) q d (nI nt) pr mw mt zo ke wy u9 tr be ch th)) A) ([.ref (mx 0), .int (nI a9)] : List Value).toArray s 0 0 A) (F0 m 2 ls []) := by
    intro n9
    induction n9 with
    | zero =>
      intro k s1 hk hs1 hm
      exact absurd hm (by omega)
    | succ n9 ih =>
      intro k s1 hk hs1 hm H locs hP hD hS ls hl
      have ih_L2 := ih
      refine lv_iload_n hx hb dX8_walks_2 rfl (lv_at hl 2 rfl) ?_
      refine lv_bipush (v := nI 64) hx hb dX8_walks_3 (by decide) ?_
      refine lv_icmp_ge (tgt := 30) hx hb dX8_walks_5 (by decide) (fun c_1 => ?_) (fun c_1 => ?_)
      · have c_1 := z_le (by omega) (by omega) c_1
        refine lv_iconst (v := nI 0) hx hb dX8_walks_30 (by decide) ?_
        refine lv_istore_n (lv' := [(2, .int (nI 0)), (0, .ref (mx 0)), (1, .int (nI a9))]) hx hb dX8_walks_31 rfl hl (by decide) rfl (fun ls hl => ?_)
        have L32 : ∀ (n9 : Nat) (far : Nat) (s1 : Nat → Int32), (far ≤ 64) → (LV w a9 far 0 s1) → (64 - far) < n9 → ∀ (H : Heap) (locs : List Loc), va_P D vwCl (wMo mx cI cZ w (nI nz) q d (nI nt) pr mw mt zo ke wy s1 tr be ch th) H → va_D A (wMo mx cI cZ w (nI nz) q d (nI nt) pr mw mt zo ke wy s1 tr be ch th) → va_S A s.heap H locs → ∀ (ls : Array Slot), lv_has ls 4 [(0, .ref (mx 0)), (2, .int (nI far))] → W p l e ({ frames := 3, cells := 0, slots := 0, locals := 66 } : Room) s m ([.ref (mx 0), .int (nI a9)] : List Value).toArray below meth c H locs 0 0 (MQ below (va_Qv (fun u9 : (Nat → Int32) => (LV w a9 64 0 u9)) (rw_B D A (fun u9 : (Nat → Int32) => wMo mx cI cZ w (nI nz) q d (nI nt) pr mw mt zo ke wy u9 tr be ch th)) A) ([.ref (mx 0), .int (nI a9)] : List Value).toArray s 0 0 A) (F0 m 32 ls []) := by
          intro n9
          induction n9 with
          | zero =>
            intro far s1 hf hlv hm
            exact absurd hm (by omega)
          | succ n9 ih =>
            intro far s1 hf hlv hm H locs hP hD hS ls hl
            have ih_L32 := ih
            refine lv_iload_n hx hb dX8_walks_32 rfl (lv_at hl 1 rfl) ?_
            refine lv_bipush (v := nI 64) hx hb dX8_walks_33 (by decide) ?_
            refine lv_icmp_ge (tgt := 136) hx hb dX8_walks_35 (by decide) (fun c_2 => ?_) (fun c_2 => ?_)
            · have c_2 := z_le (by omega) (by omega) c_2
              have hP9 : va_P D vwCl (wMo mx cI cZ w (nI nz) q d (nI nt) pr mw mt zo ke wy s1 tr be ch th) H := hP
              have hD9 : va_D A (wMo mx cI cZ w (nI nz) q d (nI nt) pr mw mt zo ke wy s1 tr be ch th) := hD
              have g_3 : LV w a9 64 0 s1 := by have e9 : far = 64 := (by omega); rw [e9] at hlv; exact hlv
              exact W.vret hx hb hr (fun t9 ht9 hW9 => ⟨⟨(s1), rfl, g_3, by rw [ht9]; exact hP9, hD9⟩, hS.F ht9⟩) hS.2.2 dX8_walks_136
            · have c_2 := z_nle (by omega) (by omega) c_2
              refine lv_iconst (v := nI 0) hx hb dX8_walks_38 (by decide) ?_
              refine lv_istore_n (lv' := [(3, .int (nI 0)), (0, .ref (mx 0)), (2, .int (nI far))]) hx hb dX8_walks_39 rfl hl (by decide) rfl (fun ls hl => ?_)
              have L40 : ∀ (n9 : Nat) (k : Nat) (s2 : Nat → Int32), (k ≤ 64) → (LV w a9 far k s2) → (64 - k) < n9 → ∀ (H : Heap) (locs : List Loc), va_P D vwCl (wMo mx cI cZ w (nI nz) q d (nI nt) pr mw mt zo ke wy s2 tr be ch th) H → va_D A (wMo mx cI cZ w (nI nz) q d (nI nt) pr mw mt zo ke wy s2 tr be ch th) → va_S A s.heap H locs → ∀ (ls : Array Slot), lv_has ls 4 [(0, .ref (mx 0)), (2, .int (nI far)), (3, .int (nI k))] → W p l e ({ frames := 3, cells := 0, slots := 0, locals := 66 } : Room) s m ([.ref (mx 0), .int (nI a9)] : List Value).toArray below meth c H locs 0 0 (MQ below (va_Qv (fun u9 : (Nat → Int32) => (LV w a9 64 0 u9)) (rw_B D A (fun u9 : (Nat → Int32) => wMo mx cI cZ w (nI nz) q d (nI nt) pr mw mt zo ke wy u9 tr be ch th)) A) ([.ref (mx 0), .int (nI a9)] : List Value).toArray s 0 0 A) (F0 m 40 ls []) := by
                intro n9
                induction n9 with
                | zero =>
                  intro k s2 hk hlk hm
                  exact absurd hm (by omega)
                | succ n9 ih =>
                  intro k s2 hk hlk hm H locs hP hD hS ls hl
                  have ih_L40 := ih
                  refine lv_iload_n hx hb dX8_walks_40 rfl (lv_at hl 2 rfl) ?_
                  refine lv_bipush (v := nI 64) hx hb dX8_walks_41 (by decide) ?_
                  refine lv_icmp_ge (tgt := 130) hx hb dX8_walks_43 (by decide) (fun c_4 => ?_) (fun c_4 => ?_)
                  · have c_4 := z_le (by omega) (by omega) c_4
                    refine lv_iinc (v := nI (far + 1)) (lv' := [(2, .int (nI (far + 1))), (0, .ref (mx 0)), (3, .int (nI k))]) hx hb dX8_walks_130 hl (k := 1) rfl (z_inc _) (by decide) rfl (fun ls hl => ?_)
                    refine lv_goto (tgt := 32) hx hb dX8_walks_133 (by decide) ?_
                    exact ih_L32 (far + 1) s2 (by omega) (LV_up hlk (by omega)) (by omega) _ _ hP hD hS _ (lv_sub hl [1, 0] rfl)
                  · have c_4 := z_nle (by omega) (by omega) c_4
                    refine lv_aload_n hx hb dX8_walks_46 rfl (lv_at hl 0 rfl) ?_
                    refine va_get (D := D) (ci := 8) (v := .ref (mx 10)) (C := RX8) (T := TX8) (N := 16) hx hb hts tu_X8 hown hSt.1 hP 0 rfl rfl 11 (by decide) (hts _ t3_231) (fun _ h9 => h9) rfl dX8_walks_47 ?_
                    refine lv_iload_n hx hb dX8_walks_50 rfl (lv_at hl 2 rfl) ?_
                    refine r_iald hx hb hSt.1 hP 10 0 rfl rfl (k := k) (by omega) (by omega) dX8_walks_51 ?_
                    refine lv_iload_n hx hb dX8_walks_52 rfl (lv_at hl 1 rfl) ?_
                    refine lv_icmp_ne (tgt := 124) hx hb dX8_walks_53 (by decide) (fun c_5 => ?_) (fun c_5 => ?_)
                    · refine lv_iinc (v := nI (k + 1)) (lv' := [(3, .int (nI (k + 1))), (0, .ref (mx 0)), (2, .int (nI far))]) hx hb dX8_walks_124 hl (k := 2) rfl (z_inc _) (by decide) rfl (fun ls hl => ?_)
                      refine lv_goto (tgt := 40) hx hb dX8_walks_127 (by decide) ?_
                      exact ih_L40 (k + 1) s2 (by omega) (LV_skip ha hlk (by omega) (by omega) c_5) (by omega) _ _ hP hD hS _ (lv_sub hl [1, 2, 0] rfl)
                    · refine lv_aload_n hx hb dX8_walks_56 rfl (lv_at hl 0 rfl) ?_
                      refine lv_iload_n hx hb dX8_walks_57 rfl (lv_at hl 2 rfl) ?_
                      refine lv_bipush (v := nI 8) hx hb dX8_walks_58 (by decide) ?_
                      refine r_remn hx hb (by omega) (by omega) (by omega) dX8_walks_60 ?_
                      refine lv_iconst (v := nI 1) hx hb dX8_walks_61 (by decide) ?_
                      refine lv_isub hx hb dX8_walks_62 ?_
                      refine lv_iload_n hx hb dX8_walks_63 rfl (lv_at hl 2 rfl) ?_
                      refine lv_bipush (v := nI 8) hx hb dX8_walks_64 (by decide) ?_
                      refine r_divn hx hb (by omega) (by omega) (by omega) dX8_walks_66 ?_
                      refine lv_iload_n hx hb dX8_walks_67 rfl (lv_at hl 1 rfl) ?_
                      refine lv_iconst (v := nI 1) hx hb dX8_walks_68 (by decide) ?_
                      refine r_addn hx hb dX8_walks_69 ?_
                      refine rw_v (wr := ([] : va_W)) (w_V (As := [.int ((nI (k % 8)) - (nI 1)), .int (nI (k / 8)), .int (nI (far + 1))]) ⟨hx, hb, hml, hown, hts⟩ (c_X8_goes l D cI cZ cQ cJ mx w nz q d nt pr mw mt zo ke wy s2 tr be ch th ((nI (k % 8)) - (nI 1)) (nI (k / 8)) (nI (far + 1)) H.size) (gV t4_127 t4_129 t0_32 t1_10 t4_130) rfl rfl hd_X8_goes ⟨Nat.le_of_ble_eq_true rfl, Nat.le_of_ble_eq_true rfl⟩ (rw_pre hP hD hSt [0, 1, 2, 3, 4, 5, 6, 7, 8, 9, 10, 11, 12, 13] rfl (by decide)) (va_recv hSt.1 hP (ci := 8) (q0 := 0) rfl rfl) rfl hl.1 (rest := []) rfl (Nat.le_of_ble_eq_true rfl) dX8_walks_70 ⟨Nat.le_of_ble_eq_true rfl, Nat.le_of_ble_eq_true rfl⟩) hP hD hS hA [0, 1, 2, 3, 4, 5, 6, 7, 8, 9, 10, 11, 12, 13] [] rfl rfl (by decide) (by decide) (fun  u_7 H locs hw9 hP hD hS => ?_)
                      obtain ⟨j_6, rfl⟩ : ∃ z9, z9 = u_7 := ⟨_, rfl⟩
                      have f_8 := hw9
                      have R1 : GS w ((nI (k % 8)) - (nI 1)) (nI (k / 8)) (nI (far + 1)) s2 j_6 := f_8
                      have hP : va_P D vwCl (wMo mx cI cZ w (nI nz) q d (nI nt) pr mw mt zo ke wy j_6 tr be ch th) H := hP
                      have hD : va_D A (wMo mx cI cZ w (nI nz) q d (nI nt) pr mw mt zo ke wy j_6 tr be ch th) := hD
                      refine lv_aload_n hx hb dX8_walks_73 rfl (lv_at hl 0 rfl) ?_
                      refine lv_iload_n hx hb dX8_walks_74 rfl (lv_at hl 2 rfl) ?_
                      refine lv_bipush (v := nI 8) hx hb dX8_walks_75 (by decide) ?_
                      refine r_remn hx hb (by omega) (by omega) (by omega) dX8_walks_77 ?_
                      refine lv_iconst (v := nI 1) hx hb dX8_walks_78 (by decide) ?_
                      refine r_addn hx hb dX8_walks_79 ?_
                      refine lv_iload_n hx hb dX8_walks_80 rfl (lv_at hl 2 rfl) ?_
                      refine lv_bipush (v := nI 8) hx hb dX8_walks_81 (by decide) ?_
                      refine r_divn hx hb (by omega) (by omega) (by omega) dX8_walks_83 ?_
                      refine lv_iload_n hx hb dX8_walks_84 rfl (lv_at hl 1 rfl) ?_
                      refine lv_iconst (v := nI 1) hx hb dX8_walks_85 (by decide) ?_
                      refine r_addn hx hb dX8_walks_86 ?_
                      refine rw_v (wr := ([] : va_W)) (w_V (As := [.int (nI ((k % 8) + 1)), .int (nI (k / 8)), .int (nI (far + 1))]) ⟨hx, hb, hml, hown, hts⟩ (c_X8_goes l D cI cZ cQ cJ mx w nz q d nt pr mw mt zo ke wy j_6 tr be ch th (nI ((k % 8) + 1)) (nI (k / 8)) (nI (far + 1)) H.size) (gV t4_127 t4_129 t0_32 t1_10 t4_130) rfl rfl hd_X8_goes ⟨Nat.le_of_ble_eq_true rfl, Nat.le_of_ble_eq_true rfl⟩ (rw_pre hP hD hSt [0, 1, 2, 3, 4, 5, 6, 7, 8, 9, 10, 11, 12, 13] rfl (by decide)) (va_recv hSt.1 hP (ci := 8) (q0 := 0) rfl rfl) rfl hl.1 (rest := []) rfl (Nat.le_of_ble_eq_true rfl) dX8_walks_87 ⟨Nat.le_of_ble_eq_true rfl, Nat.le_of_ble_eq_true rfl⟩) hP hD hS hA [0, 1, 2, 3, 4, 5, 6, 7, 8, 9, 10, 11, 12, 13] [] rfl rfl (by decide) (by decide) (fun  u_10 H locs hw9 hP hD hS => ?_)
                      obtain ⟨j_9, rfl⟩ : ∃ z9, z9 = u_10 := ⟨_, rfl⟩
                      have f_11 := hw9
                      have R2 : GS w (nI ((k % 8) + 1)) (nI (k / 8)) (nI (far + 1)) j_6 j_9 := f_11
                      have hP : va_P D vwCl (wMo mx cI cZ w (nI nz) q d (nI nt) pr mw mt zo ke wy j_9 tr be ch th) H := hP
                      have hD : va_D A (wMo mx cI cZ w (nI nz) q d (nI nt) pr mw mt zo ke wy j_9 tr be ch th) := hD
                      refine lv_aload_n hx hb dX8_walks_90 rfl (lv_at hl 0 rfl) ?_
                      refine lv_iload_n hx hb dX8_walks_91 rfl (lv_at hl 2 rfl) ?_
                      refine lv_bipush (v := nI 8) hx hb dX8_walks_92 (by decide) ?_
                      refine r_remn hx hb (by omega) (by omega) (by omega) dX8_walks_94 ?_
                      refine lv_iload_n hx hb dX8_walks_95 rfl (lv_at hl 2 rfl) ?_
                      refine lv_bipush (v := nI 8) hx hb dX8_walks_96 (by decide) ?_
                      refine r_divn hx hb (by omega) (by omega) (by omega) dX8_walks_98 ?_
                      refine lv_iconst (v := nI 1) hx hb dX8_walks_99 (by decide) ?_
                      refine lv_isub hx hb dX8_walks_100 ?_
                      refine lv_iload_n hx hb dX8_walks_101 rfl (lv_at hl 1 rfl) ?_
                      refine lv_iconst (v := nI 1) hx hb dX8_walks_102 (by decide) ?_
                      refine r_addn hx hb dX8_walks_103 ?_
                      refine rw_v (wr := ([] : va_W)) (w_V (As := [.int (nI (k % 8)), .int ((nI (k / 8)) - (nI 1)), .int (nI (far + 1))]) ⟨hx, hb, hml, hown, hts⟩ (c_X8_goes l D cI cZ cQ cJ mx w nz q d nt pr mw mt zo ke wy j_9 tr be ch th (nI (k % 8)) ((nI (k / 8)) - (nI 1)) (nI (far + 1)) H.size) (gV t4_127 t4_129 t0_32 t1_10 t4_130) rfl rfl hd_X8_goes ⟨Nat.le_of_ble_eq_true rfl, Nat.le_of_ble_eq_true rfl⟩ (rw_pre hP hD hSt [0, 1, 2, 3, 4, 5, 6, 7, 8, 9, 10, 11, 12, 13] rfl (by decide)) (va_recv hSt.1 hP (ci := 8) (q0 := 0) rfl rfl) rfl hl.1 (rest := []) rfl (Nat.le_of_ble_eq_true rfl) dX8_walks_104 ⟨Nat.le_of_ble_eq_true rfl, Nat.le_of_ble_eq_true rfl⟩) hP hD hS hA [0, 1, 2, 3, 4, 5, 6, 7, 8, 9, 10, 11, 12, 13] [] rfl rfl (by decide) (by decide) (fun  u_13 H locs hw9 hP hD hS => ?_)
                      obtain ⟨j_12, rfl⟩ : ∃ z9, z9 = u_13 := ⟨_, rfl⟩
                      have f_14 := hw9
                      have R3 : GS w (nI (k % 8)) ((nI (k / 8)) - (nI 1)) (nI (far + 1)) j_9 j_12 := f_14
                      have hP : va_P D vwCl (wMo mx cI cZ w (nI nz) q d (nI nt) pr mw mt zo ke wy j_12 tr be ch th) H := hP
                      have hD : va_D A (wMo mx cI cZ w (nI nz) q d (nI nt) pr mw mt zo ke wy j_12 tr be ch th) := hD
                      refine lv_aload_n hx hb dX8_walks_107 rfl (lv_at hl 0 rfl) ?_
                      refine lv_iload_n hx hb dX8_walks_108 rfl (lv_at hl 2 rfl) ?_
                      refine lv_bipush (v := nI 8) hx hb dX8_walks_109 (by decide) ?_
                      refine r_remn hx hb (by omega) (by omega) (by omega) dX8_walks_111 ?_
                      refine lv_iload_n hx hb dX8_walks_112 rfl (lv_at hl 2 rfl) ?_
                      refine lv_bipush (v := nI 8) hx hb dX8_walks_113 (by decide) ?_
                      refine r_divn hx hb (by omega) (by omega) (by omega) dX8_walks_115 ?_
                      refine lv_iconst (v := nI 1) hx hb dX8_walks_116 (by decide) ?_
                      refine r_addn hx hb dX8_walks_117 ?_
                      refine lv_iload_n hx hb dX8_walks_118 rfl (lv_at hl 1 rfl) ?_
                      refine lv_iconst (v := nI 1) hx hb dX8_walks_119 (by decide) ?_
                      refine r_addn hx hb dX8_walks_120 ?_
                      refine rw_v (wr := ([] : va_W)) (w_V (As := [.int (nI (k % 8)), .int (nI ((k / 8) + 1)), .int (nI (far + 1))]) ⟨hx, hb, hml, hown, hts⟩ (c_X8_goes l D cI cZ cQ cJ mx w nz q d nt pr mw mt zo ke wy j_12 tr be ch th (nI (k % 8)) (nI ((k / 8) + 1)) (nI (far + 1)) H.size) (gV t4_127 t4_129 t0_32 t1_10 t4_130) rfl rfl hd_X8_goes ⟨Nat.le_of_ble_eq_true rfl, Nat.le_of_ble_eq_true rfl⟩ (rw_pre hP hD hSt [0, 1, 2, 3, 4, 5, 6, 7, 8, 9, 10, 11, 12, 13] rfl (by decide)) (va_recv hSt.1 hP (ci := 8) (q0 := 0) rfl rfl) rfl hl.1 (rest := []) rfl (Nat.le_of_ble_eq_true rfl) dX8_walks_121 ⟨Nat.le_of_ble_eq_true rfl, Nat.le_of_ble_eq_true rfl⟩) hP hD hS hA [0, 1, 2, 3, 4, 5, 6, 7, 8, 9, 10, 11, 12, 13] [] rfl rfl (by decide) (by decide) (fun  u_16 H locs hw9 hP hD hS => ?_)
                      obtain ⟨j_15, rfl⟩ : ∃ z9, z9 = u_16 := ⟨_, rfl⟩
                      have f_17 := hw9
                      have R4 : GS w (nI (k % 8)) (nI ((k / 8) + 1)) (nI (far + 1)) j_12 j_15 := f_17
                      have hP : va_P D vwCl (wMo mx cI cZ w (nI nz) q d (nI nt) pr mw mt zo ke wy j_15 tr be ch th) H := hP
                      have hD : va_D A (wMo mx cI cZ w (nI nz) q d (nI nt) pr mw mt zo ke wy j_15 tr be ch th) := hD
                      refine lv_iinc (v := nI (k + 1)) (lv' := [(3, .int (nI (k + 1))), (0, .ref (mx 0)), (2, .int (nI far))]) hx hb dX8_walks_124 hl (k := 2) rfl (z_inc _) (by decide) rfl (fun ls hl => ?_)
                      refine lv_goto (tgt := 40) hx hb dX8_walks_127 (by decide) ?_
                      exact ih_L40 (k + 1) j_15 (by omega) (LV_four ha hlk (by omega) (by omega) c_5 R1 R2 R3 R4) (by omega) _ _ hP hD hS _ (lv_sub hl [1, 2, 0] rfl)
              exact L40 _ 0 s1 (by omega) hlv (Nat.lt_succ_self _) _ _ hP hD hS _ (lv_sub hl [1, 2, 0] rfl)
        exact L32 _ 0 s1 (by omega) (LV_0 (fun b hb => hs1 b (by omega))) (Nat.lt_succ_self _) _ _ hP hD hS _ (lv_sub hl [1, 0] rfl)
      · have c_1 := z_nle (by omega) (by omega) c_1
        refine lv_aload_n hx hb dX8_walks_8 rfl (lv_at hl 0 rfl) ?_
        refine va_get (D := D) (ci := 8) (v := .ref (mx 10)) (C := RX8) (T := TX8) (N := 16) hx hb hts tu_X8 hown hSt.1 hP 0 rfl rfl 11 (by decide) (hts _ t3_231) (fun _ h9 => h9) rfl dX8_walks_9 ?_
        refine lv_iload_n hx hb dX8_walks_12 rfl (lv_at hl 2 rfl) ?_
        refine lv_iload_n hx hb dX8_walks_13 rfl (lv_at hl 2 rfl) ?_
        refine lv_iload_n hx hb dX8_walks_14 rfl (lv_at hl 1 rfl) ?_
        refine lv_icmp_ne (tgt := 22) hx hb dX8_walks_15 (by decide) (fun c_18 => ?_) (fun c_18 => ?_)
        · have c_18 := z_ne (by omega) (by omega) c_18
          refine lv_iconst (v := (-1 : Int32)) hx hb dX8_walks_22 (by decide) ?_
          refine r_iast hx hb hSt.1 hP hD hS 10 0 rfl rfl (k := k) (by omega) (by omega) dX8_walks_23 (fun H locs hP hD hS => ?_)
          have hP : va_P D vwCl (wMo mx cI cZ w (nI nz) q d (nI nt) pr mw mt zo ke wy (upd s1 k (-1 : Int32)) tr be ch th) H := hP
          have hD : va_D A (wMo mx cI cZ w (nI nz) q d (nI nt) pr mw mt zo ke wy (upd s1 k (-1 : Int32)) tr be ch th) := hD
          refine lv_iinc (v := nI (k + 1)) (lv' := [(2, .int (nI (k + 1))), (0, .ref (mx 0)), (1, .int (nI a9))]) hx hb dX8_walks_24 hl (k := 2) rfl (z_inc _) (by decide) rfl (fun ls hl => ?_)
          refine lv_goto (tgt := 2) hx hb dX8_walks_27 (by decide) ?_
          exact ih_L2 (k + 1) (upd s1 k (-1 : Int32)) (by omega) (fun j hj => if e : j = k then (by rw [e, pk_us, if_neg c_18]) else (by rw [pk_un e]; exact hs1 j (by omega))) (by omega) _ _ hP hD hS _ (lv_sub hl [1, 2, 0] rfl)
        · have c_18 := z_eq (by omega) (by omega) c_18
          refine lv_iconst (v := nI 0) hx hb dX8_walks_18 (by decide) ?_
          refine lv_goto (tgt := 23) hx hb dX8_walks_19 (by decide) ?_
          refine r_iast hx hb hSt.1 hP hD hS 10 0 rfl rfl (k := k) (by omega) (by omega) dX8_walks_23 (fun H locs hP hD hS => ?_)
          have hP : va_P D vwCl (wMo mx cI cZ w (nI nz) q d (nI nt) pr mw mt zo ke wy (upd s1 k (nI 0)) tr be ch th) H := hP
          have hD : va_D A (wMo mx cI cZ w (nI nz) q d (nI nt) pr mw mt zo ke wy (upd s1 k (nI 0)) tr be ch th) := hD
          refine lv_iinc (v := nI (k + 1)) (lv' := [(2, .int (nI (k + 1))), (0, .ref (mx 0)), (1, .int (nI a9))]) hx hb dX8_walks_24 hl (k := 2) rfl (z_inc _) (by decide) rfl (fun ls hl => ?_)
          refine lv_goto (tgt := 2) hx hb dX8_walks_27 (by decide) ?_
          exact ih_L2 (k + 1) (upd s1 k (nI 0)) (by omega) (fun j hj => if e : j = k then (by rw [e, pk_us, if_pos c_18]) else (by rw [pk_un e]; exact hs1 j (by omega))) (by omega) _ _ hP hD hS _ (lv_sub hl [1, 2, 0] rfl)
  exact L2 _ 0 st (by omega) (fun j hj => absurd hj (by omega)) (Nat.lt_succ_self _) _ _ hP hD hS _ (lv_sub hl [1, 2, 0] rfl)
theorem hd_X8_walks : yX8_walks.cls = RX8 ∧ yX8_walks.cls ≠ "java/lang/invoke/MethodHandle" ∧ yX8_walks.cls ≠ "java/lang/invoke/VarHandle" ∧ (parseMethodDescriptor yX8_walks.desc).map (fun d => d.parameters.length) = some 1 := by decide +kernel
theorem wy_step {y2 : Nat → Int32} {dd : Nat → Nat → Nat} {one oth nz : Nat} {x : Int32} (h : ∀ u v, (u < one ∨ (u = one ∧ v < oth)) → v < nz → y2 (7 * u + v) = nI (dd u v)) (hz : nz ≤ 7) (hx : x = nI (dd one oth)) : oth < nz → ∀ u v, (u < one ∨ (u = one ∧ v < oth + 1)) → v < nz → upd y2 (7 * one + oth) x (7 * u + v) = nI (dd u v) := fun ho u v h9 hv => by
  by_cases e : 7 * u + v = 7 * one + oth
  · have e1 : u = one := by omega
    have e2 : v = oth := by omega
    rw [e, pk_us, hx, e1, e2]
  · rw [pk_un e]
    exact h u v (by omega) hv
set_option maxHeartbeats 4000000 in
set_option maxRecDepth 100000 in
theorem c_X8_findsWays (l : Launch) (D : va_G) (cI cZ cQ cJ : ClassId) (mx : Nat → Nat) (w : Nat → Int32) (nz : Nat) (q : Nat → Int32) (d : Nat → Int32) (nt : Nat) (pr : Nat → Int32) (mw : Nat → Int32) (mt : Nat → Int32) (zo : Nat → Int32) (ke : Nat → Int32) (wy : Nat → Int32) (st : Nat → Int32) (tr : Nat → Int32) (be : Nat → Int32) (ch : Nat → Int32) (th : Int32) (sq : Nat → Nat) (dd : Nat → Nat → Nat) (sz : Nat) (hnz : nz ≤ 7) (hq : ∀ o, o < nz → q o = nI (sq o) ∧ sq o < 64 ∧ w (sq o) = 0) (hdD : ∀ u v, u < nz → v < nz → isD w (sq u) (sq v) (nI (dd u v))) : Met l yX8_findsWays (.code yX8_findsWays cX8_findsWays 4 none :: ALL) ({ frames := 4, cells := 0, slots := 0, locals := 89 } : Room) (va_Pc [.ref (mx 0)] (rw_P D cI cZ cQ cJ (wMo mx cI cZ w (nI nz) q d (nI nt) pr mw mt zo ke wy st tr be ch th) sz)) (va_Qv (fun u9 : (Nat → Int32) × (Nat → Int32) => (∀ u v, u < nz → v < nz → u9.1 (7 * u + v) = nI (dd u v))) (rw_B D (va_A (wMo mx cI cZ w (nI nz) q d (nI nt) pr mw mt zo ke wy st tr be ch th) sz) (fun u9 : (Nat → Int32) × (Nat → Int32) => wMo mx cI cZ w (nI nz) q d (nI nt) pr mw mt zo ke u9.1 u9.2 tr be ch th)) (va_A (wMo mx cI cZ w (nI nz) q d (nI nt) pr mw mt zo ke wy st tr be ch th) sz)) 0 0 (va_A (wMo mx cI cZ w (nI nz) q d (nI nt) pr mw mt zo ke wy st tr be ch th) sz) := by
  refine Met.ofW (cc := cX8_findsWays) (maxL := 4) (ret := none) (by decide) rfl ?_
  intro p e s m args below meth c s₁ B hml hv
  obtain ⟨rfl, hsz, hP, hSt, hD0⟩ := hv
  have hx := B.exec
  have hb := B.bytes
  have hr := B.returns
  have hts : ∀ w ∈ ALL, w.before ([.ref (mx 0)] : List Value).toArray s = true := fun w h => atoms_spec (ws := (.code yX8_findsWays cX8_findsWays 4 none :: ALL)) B.pre w (List.mem_cons_of_mem _ h)
  have hown : s.vm.findClass RX8 = some m.cls := findClass_of_methodNamed B.named
  have hlocks := B.notSynchronized
  subst hsz
  have hD := hD0.self (sz := s.heap.size)
  clear hD0
  generalize hAe : va_A (wMo mx cI cZ w (nI nz) q d (nI nt) pr mw mt zo ke wy st tr be ch th) s.heap.size = A at hD ⊢
  have hA : ∀ q : Nat, s.heap.size ≤ q → A q := fun q h => by rw [← hAe]; exact Or.inr h
  have hS : va_S A s.heap s.heap [] := va_S.rf
  have hl := lv_entry ([.ref (mx 0)]) (n := 4) (Nat.le_of_ble_eq_true rfl)
  rw [lg_entry_eq]
  generalize (lg_sl ([.ref (mx 0)]) ++ List.replicate (4 - (lg_sl ([.ref (mx 0)])).length) Slot.unset).toArray = ls at hl ⊢
  have hl : lv_has ls 4 [(0, .ref (mx 0))] := hl
  obtain ⟨H, hHe⟩ : ∃ H : Heap, H = s.heap := ⟨_, rfl⟩
  obtain ⟨locs, hLe⟩ : ∃ L : List Loc, L = [] := ⟨_, rfl⟩
  have hP : va_P D vwCl (wMo mx cI cZ w (nI nz) q d (nI nt) pr mw mt zo ke wy st tr be ch th) H := by rw [hHe]; exact hP
  have hS : va_S A s.heap H locs := by rw [hHe, hLe]; exact hS
  refine W.eqHL hHe hLe ?_
  refine lv_iconst (v := nI 0) hx hb dX8_findsWays_0 (by decide) ?_
  refine lv_istore_n (lv' := [(1, .int (nI 0)), (0, .ref (mx 0))]) hx hb dX8_findsWays_1 rfl hl (by decide) rfl (fun ls hl => ?_)
  have L2 : ∀ (n9 : Nat) (one : Nat) (y1 : Nat → Int32) (s1 : Nat → Int32), (one ≤ nz) → (∀ u v, u < one → v < nz → y1 (7 * u + v) = nI (dd u v)) → (nz - one) < n9 → ∀ (H : Heap) (locs : List Loc), va_P D vwCl (wMo mx cI cZ w (nI nz) q d (nI nt) pr mw mt zo ke y1 s1 tr be ch th) H → va_D A (wMo mx cI cZ w (nI nz) q d (nI nt) pr mw mt zo ke y1 s1 tr be ch th) → va_S A s.heap H locs → ∀ (ls : Array Slot), lv_has ls 4 [(0, .ref (mx 0)), (1, .int (nI one))] → W p l e ({ frames := 4, cells := 0, slots := 0, locals := 89 } : Room) s m ([.ref (mx 0)] : List Value).toArray below meth c H locs 0 0 (MQ below (va_Qv (fun u9 : (Nat → Int32) × (Nat → Int32) => (∀ u v, u < nz → v < nz → u9.1 (7 * u + v) = nI (dd u v))) (rw_B D A (fun u9 : (Nat → Int32) × (Nat → Int32) => wMo mx cI cZ w (nI nz) q d (nI nt) pr mw mt zo ke u9.1 u9.2 tr be ch th)) A) ([.ref (mx 0)] : List Value).toArray s 0 0 A) (F0 m 2 ls []) := by
    intro n9
    induction n9 with
    | zero =>
      intro one y1 s1 ho hy1 hm
      exact absurd hm (by omega)
    | succ n9 ih =>
      intro one y1 s1 ho hy1 hm H locs hP hD hS ls hl
      have ih_L2 := ih
      refine lv_iload_n hx hb dX8_findsWays_2 rfl (lv_at hl 1 rfl) ?_
      refine lv_aload_n hx hb dX8_findsWays_3 rfl (lv_at hl 0 rfl) ?_
      refine va_get (D := D) (ci := 8) (v := .int (nI nz)) (C := RX8) (T := TX8) (N := 16) hx hb hts tu_X8 hown hSt.1 hP 0 rfl rfl 1 (by decide) (hts _ t3_221) (fun _ h9 => h9) rfl dX8_findsWays_4 ?_
      refine lv_icmp_ge (tgt := 76) hx hb dX8_findsWays_7 (by decide) (fun c_1 => ?_) (fun c_1 => ?_)
      · have c_1 := z_le (by omega) (by omega) c_1
        have hP9 : va_P D vwCl (wMo mx cI cZ w (nI nz) q d (nI nt) pr mw mt zo ke y1 s1 tr be ch th) H := hP
        have hD9 : va_D A (wMo mx cI cZ w (nI nz) q d (nI nt) pr mw mt zo ke y1 s1 tr be ch th) := hD
        have g_2 : ∀ u v, u < nz → v < nz → y1 (7 * u + v) = nI (dd u v) := fun u v hu hv => hy1 u v (by omega) hv
        exact W.vret hx hb hr (fun t9 ht9 hW9 => ⟨⟨(y1, s1), rfl, g_2, by rw [ht9]; exact hP9, hD9⟩, hS.F ht9⟩) hS.2.2 dX8_findsWays_76
      · have c_1 := z_nle (by omega) (by omega) c_1
        refine lv_aload_n hx hb dX8_findsWays_10 rfl (lv_at hl 0 rfl) ?_
        refine lv_aload_n hx hb dX8_findsWays_11 rfl (lv_at hl 0 rfl) ?_
        refine va_get (D := D) (ci := 8) (v := .ref (mx 2)) (C := RX8) (T := TX8) (N := 16) hx hb hts tu_X8 hown hSt.1 hP 0 rfl rfl 2 (by decide) (hts _ t3_222) (fun _ h9 => h9) rfl dX8_findsWays_12 ?_
        refine lv_iload_n hx hb dX8_findsWays_15 rfl (lv_at hl 1 rfl) ?_
        refine r_iald hx hb hSt.1 hP 2 0 rfl rfl (k := one) (by omega) (by omega) dX8_findsWays_16 ?_
        refine lv_as (y := nI (sq one)) ((hq one (by omega)).1) ?_
        refine rw_v (wr := ([] : va_W)) (w_V (As := [.int (nI (sq one))]) ⟨hx, hb, hml, hown, hts⟩ (c_X8_walks l D cI cZ cQ cJ mx w nz q d nt pr mw mt zo ke y1 s1 tr be ch th (sq one) H.size ((hq one (by omega)).2.1)) (gV t4_123 t4_125 t0_31 t1_10 t4_126) rfl rfl hd_X8_walks ⟨Nat.le_of_ble_eq_true rfl, Nat.le_of_ble_eq_true rfl⟩ (rw_pre hP hD hSt [0, 1, 2, 3, 4, 5, 6, 7, 8, 9, 10, 11, 12, 13] rfl (by decide)) (va_recv hSt.1 hP (ci := 8) (q0 := 0) rfl rfl) rfl hl.1 (rest := []) rfl (Nat.le_of_ble_eq_true rfl) dX8_findsWays_17 ⟨Nat.le_of_ble_eq_true rfl, Nat.le_of_ble_eq_true rfl⟩) hP hD hS hA [0, 1, 2, 3, 4, 5, 6, 7, 8, 9, 10, 11, 12, 13] [] rfl rfl (by decide) (by decide) (fun  u_4 H locs hw9 hP hD hS => ?_)
        obtain ⟨j_3, rfl⟩ : ∃ z9, z9 = u_4 := ⟨_, rfl⟩
        have f_5 := hw9
        have hLV : LV w (sq one) 64 0 j_3 := f_5
        have hP : va_P D vwCl (wMo mx cI cZ w (nI nz) q d (nI nt) pr mw mt zo ke y1 j_3 tr be ch th) H := hP
        have hD : va_D A (wMo mx cI cZ w (nI nz) q d (nI nt) pr mw mt zo ke y1 j_3 tr be ch th) := hD
        refine lv_iconst (v := nI 0) hx hb dX8_findsWays_20 (by decide) ?_
        refine lv_istore_n (lv' := [(2, .int (nI 0)), (0, .ref (mx 0)), (1, .int (nI one))]) hx hb dX8_findsWays_21 rfl hl (by decide) rfl (fun ls hl => ?_)
        have L22 : ∀ (n9 : Nat) (oth : Nat) (y2 : Nat → Int32), (oth ≤ nz) → (∀ u v, (u < one ∨ (u = one ∧ v < oth)) → v < nz → y2 (7 * u + v) = nI (dd u v)) → (nz - oth) < n9 → ∀ (H : Heap) (locs : List Loc), va_P D vwCl (wMo mx cI cZ w (nI nz) q d (nI nt) pr mw mt zo ke y2 j_3 tr be ch th) H → va_D A (wMo mx cI cZ w (nI nz) q d (nI nt) pr mw mt zo ke y2 j_3 tr be ch th) → va_S A s.heap H locs → ∀ (ls : Array Slot), lv_has ls 4 [(0, .ref (mx 0)), (1, .int (nI one)), (2, .int (nI oth))] → W p l e ({ frames := 4, cells := 0, slots := 0, locals := 89 } : Room) s m ([.ref (mx 0)] : List Value).toArray below meth c H locs 0 0 (MQ below (va_Qv (fun u9 : (Nat → Int32) × (Nat → Int32) => (∀ u v, u < nz → v < nz → u9.1 (7 * u + v) = nI (dd u v))) (rw_B D A (fun u9 : (Nat → Int32) × (Nat → Int32) => wMo mx cI cZ w (nI nz) q d (nI nt) pr mw mt zo ke u9.1 u9.2 tr be ch th)) A) ([.ref (mx 0)] : List Value).toArray s 0 0 A) (F0 m 22 ls []) := by
          intro n9
          induction n9 with
          | zero =>
            intro oth y2 hoth hy2 hm
            exact absurd hm (by omega)
          | succ n9 ih =>
            intro oth y2 hoth hy2 hm H locs hP hD hS ls hl
            have ih_L22 := ih
            refine lv_iload_n hx hb dX8_findsWays_22 rfl (lv_at hl 2 rfl) ?_
            refine lv_aload_n hx hb dX8_findsWays_23 rfl (lv_at hl 0 rfl) ?_
            refine va_get (D := D) (ci := 8) (v := .int (nI nz)) (C := RX8) (T := TX8) (N := 16) hx hb hts tu_X8 hown hSt.1 hP 0 rfl rfl 1 (by decide) (hts _ t3_221) (fun _ h9 => h9) rfl dX8_findsWays_24 ?_
            refine lv_icmp_ge (tgt := 70) hx hb dX8_findsWays_27 (by decide) (fun c_6 => ?_) (fun c_6 => ?_)
            · have c_6 := z_le (by omega) (by omega) c_6
              refine lv_iinc (v := nI (one + 1)) (lv' := [(1, .int (nI (one + 1))), (0, .ref (mx 0)), (2, .int (nI oth))]) hx hb dX8_findsWays_70 hl (k := 1) rfl (z_inc _) (by decide) rfl (fun ls hl => ?_)
              refine lv_goto (tgt := 2) hx hb dX8_findsWays_73 (by decide) ?_
              exact ih_L2 (one + 1) y2 j_3 (by omega) (fun u v hu hv => if e : u = one then hy2 u v (Or.inr ⟨e, by omega⟩) hv else hy2 u v (Or.inl (by omega)) hv) (by omega) _ _ hP hD hS _ (lv_sub hl [1, 0] rfl)
            · have c_6 := z_nle (by omega) (by omega) c_6
              refine lv_aload_n hx hb dX8_findsWays_30 rfl (lv_at hl 0 rfl) ?_
              refine va_get (D := D) (ci := 8) (v := .ref (mx 10)) (C := RX8) (T := TX8) (N := 16) hx hb hts tu_X8 hown hSt.1 hP 0 rfl rfl 11 (by decide) (hts _ t3_231) (fun _ h9 => h9) rfl dX8_findsWays_31 ?_
              refine lv_aload_n hx hb dX8_findsWays_34 rfl (lv_at hl 0 rfl) ?_
              refine va_get (D := D) (ci := 8) (v := .ref (mx 2)) (C := RX8) (T := TX8) (N := 16) hx hb hts tu_X8 hown hSt.1 hP 0 rfl rfl 2 (by decide) (hts _ t3_222) (fun _ h9 => h9) rfl dX8_findsWays_35 ?_
              refine lv_iload_n hx hb dX8_findsWays_38 rfl (lv_at hl 2 rfl) ?_
              refine r_iald hx hb hSt.1 hP 2 0 rfl rfl (k := oth) (by omega) (by omega) dX8_findsWays_39 ?_
              have hqo := hq oth (by omega)
              refine lv_as (y := nI (sq oth)) (hqo.1) ?_
              refine r_iald hx hb hSt.1 hP 10 0 rfl rfl (k := (sq oth)) (hqo.2.1) (by omega) dX8_findsWays_40 ?_
              refine lv_istore_n (lv' := [(3, .int (j_3 (sq oth))), (0, .ref (mx 0)), (1, .int (nI one)), (2, .int (nI oth))]) hx hb dX8_findsWays_41 rfl hl (by decide) rfl (fun ls hl => ?_)
              have hE0 := LV_end (hq one (by omega)).2.1 hLV (Nat.le_refl _) (hq oth (by omega)).2.1
              refine lv_aload_n hx hb dX8_findsWays_42 rfl (lv_at hl 1 rfl) ?_
              refine va_get (D := D) (ci := 8) (v := .ref (mx 9)) (C := RX8) (T := TX8) (N := 16) hx hb hts tu_X8 hown hSt.1 hP 0 rfl rfl 10 (by decide) (hts _ t3_230) (fun _ h9 => h9) rfl dX8_findsWays_43 ?_
              refine lv_bipush (v := nI 7) hx hb dX8_findsWays_46 (by decide) ?_
              refine lv_iload_n hx hb dX8_findsWays_48 rfl (lv_at hl 2 rfl) ?_
              refine r_muln hx hb dX8_findsWays_49 ?_
              refine lv_iload_n hx hb dX8_findsWays_50 rfl (lv_at hl 3 rfl) ?_
              refine r_addn hx hb dX8_findsWays_51 ?_
              refine lv_iload_n hx hb dX8_findsWays_52 rfl (lv_at hl 0 rfl) ?_
              refine lv_iconst (v := (-1 : Int32)) hx hb dX8_findsWays_53 (by decide) ?_
              refine lv_icmp_ne (tgt := 62) hx hb dX8_findsWays_54 (by decide) (fun c_7 => ?_) (fun c_7 => ?_)
              · have hE := hE0; rw [if_neg c_7] at hE
                refine lv_iload_n hx hb dX8_findsWays_62 rfl (lv_at hl 0 rfl) ?_
                refine r_iast hx hb hSt.1 hP hD hS 9 0 rfl rfl (k := ((7 * one) + oth)) (by omega) (by omega) dX8_findsWays_63 (fun H locs hP hD hS => ?_)
                have hP : va_P D vwCl (wMo mx cI cZ w (nI nz) q d (nI nt) pr mw mt zo ke (upd y2 ((7 * one) + oth) (j_3 (sq oth))) j_3 tr be ch th) H := hP
                have hD : va_D A (wMo mx cI cZ w (nI nz) q d (nI nt) pr mw mt zo ke (upd y2 ((7 * one) + oth) (j_3 (sq oth))) j_3 tr be ch th) := hD
                refine lv_iinc (v := nI (oth + 1)) (lv' := [(2, .int (nI (oth + 1))), (3, .int (j_3 (sq oth))), (0, .ref (mx 0)), (1, .int (nI one))]) hx hb dX8_findsWays_64 hl (k := 3) rfl (z_inc _) (by decide) rfl (fun ls hl => ?_)
                refine lv_goto (tgt := 22) hx hb dX8_findsWays_67 (by decide) ?_
                exact ih_L22 (oth + 1) (upd y2 ((7 * one) + oth) (j_3 (sq oth))) (by omega) (wy_step hy2 hnz (isD_inj hE (hdD one oth (by omega) (by omega))) (by omega)) (by omega) _ _ hP hD hS _ (lv_sub hl [2, 3, 0] rfl)
              · have hE := hE0; rw [if_pos c_7] at hE
                refine lv_bipush (v := nI 100) hx hb dX8_findsWays_57 (by decide) ?_
                refine lv_goto (tgt := 63) hx hb dX8_findsWays_59 (by decide) ?_
                refine r_iast hx hb hSt.1 hP hD hS 9 0 rfl rfl (k := ((7 * one) + oth)) (by omega) (by omega) dX8_findsWays_63 (fun H locs hP hD hS => ?_)
                have hP : va_P D vwCl (wMo mx cI cZ w (nI nz) q d (nI nt) pr mw mt zo ke (upd y2 ((7 * one) + oth) (nI 100)) j_3 tr be ch th) H := hP
                have hD : va_D A (wMo mx cI cZ w (nI nz) q d (nI nt) pr mw mt zo ke (upd y2 ((7 * one) + oth) (nI 100)) j_3 tr be ch th) := hD
                refine lv_iinc (v := nI (oth + 1)) (lv' := [(2, .int (nI (oth + 1))), (3, .int (j_3 (sq oth))), (0, .ref (mx 0)), (1, .int (nI one))]) hx hb dX8_findsWays_64 hl (k := 3) rfl (z_inc _) (by decide) rfl (fun ls hl => ?_)
                refine lv_goto (tgt := 22) hx hb dX8_findsWays_67 (by decide) ?_
                exact ih_L22 (oth + 1) (upd y2 ((7 * one) + oth) (nI 100)) (by omega) (wy_step hy2 hnz (isD_inj hE (hdD one oth (by omega) (by omega))) (by omega)) (by omega) _ _ hP hD hS _ (lv_sub hl [2, 3, 0] rfl)
        exact L22 _ 0 y1 (by omega) (fun u v h9 hv => hy1 u v (by omega) hv) (Nat.lt_succ_self _) _ _ hP hD hS _ (lv_sub hl [1, 2, 0] rfl)
  exact L2 _ 0 wy st (by omega) (fun u v hu => absurd hu (by omega)) (Nat.lt_succ_self _) _ _ hP hD hS _ (lv_sub hl [1, 0] rfl)
theorem hd_X8_findsWays : yX8_findsWays.cls = RX8 ∧ yX8_findsWays.cls ≠ "java/lang/invoke/MethodHandle" ∧ yX8_findsWays.cls ≠ "java/lang/invoke/VarHandle" ∧ (parseMethodDescriptor yX8_findsWays.desc).map (fun d => d.parameters.length) = some 0 := by decide +kernel
set_option maxHeartbeats 4000000 in
set_option maxRecDepth 100000 in
theorem c_X8_wishOf_tr (l : Launch) (D : va_G) (cI cZ cQ cJ : ClassId) (mx : Nat → Nat) (w : Nat → Int32) (nz : Nat) (q : Nat → Int32) (d : Nat → Int32) (nt : Nat) (pr : Nat → Int32) (mw : Nat → Int32) (mt : Nat → Int32) (zo : Nat → Int32) (ke : Nat → Int32) (wy : Nat → Int32) (st : Nat → Int32) (tr : Nat → Int32) (be : Nat → Int32) (ch : Nat → Int32) (th : Int32) (wi : Nat → Nat → Nat) (g : Nat → Nat) (hnz : nz ≤ 7) (hnt : nt ≤ 7) (hmw : ∀ t z, t < 7 → z < 7 → mw (7 * t + z) = nI (wi t z)) (hg : pOK nt tr g) (hgz : gOK nz nt g) : Met l yX8_wishOf (.code yX8_wishOf cX8_wishOf 4 (some .int) :: ALL) ({ frames := 0, cells := 0, slots := 0, locals := 0 } : Room) (va_Pc [.ref (mx 0), .ref (mx 11)] (ro_P D cI cZ cQ cJ (wMo mx cI cZ w (nI nz) q d (nI nt) pr mw mt zo ke wy st tr be ch th))) (vp_Si (fun r9 => r9 = nI (wishN wi g nt))) 0 0 (fun _ => False) := by
  refine Met.ofW (cc := cX8_wishOf) (maxL := 4) (ret := (some .int)) (by decide) rfl ?_
  intro p e s m args below meth c s₁ B hml hv
  obtain ⟨rfl, hP, hSt⟩ := hv
  have hx := B.exec
  have hb := B.bytes
  have hr := B.returns
  have hts : ∀ w ∈ ALL, w.before ([.ref (mx 0), .ref (mx 11)] : List Value).toArray s = true := fun w h => atoms_spec (ws := (.code yX8_wishOf cX8_wishOf 4 (some .int) :: ALL)) B.pre w (List.mem_cons_of_mem _ h)
  have hown : s.vm.findClass RX8 = some m.cls := findClass_of_methodNamed B.named
  have hlocks := B.notSynchronized
  have hl := lv_entry ([.ref (mx 0), .ref (mx 11)]) (n := 4) (Nat.le_of_ble_eq_true rfl)
  rw [lg_entry_eq]
  generalize (lg_sl ([.ref (mx 0), .ref (mx 11)]) ++ List.replicate (4 - (lg_sl ([.ref (mx 0), .ref (mx 11)])).length) Slot.unset).toArray = ls at hl ⊢
  have hl : lv_has ls 4 [(0, .ref (mx 0)), (1, .ref (mx 11))] := hl
  refine lv_iconst (v := nI 0) hx hb dX8_wishOf_0 (by decide) ?_
  refine lv_istore_n (lv' := [(2, .int (nI 0)), (0, .ref (mx 0)), (1, .ref (mx 11))]) hx hb dX8_wishOf_1 rfl hl (by decide) rfl (fun ls hl => ?_)
  refine lv_iconst (v := nI 0) hx hb dX8_wishOf_2 (by decide) ?_
  refine lv_istore_n (lv' := [(3, .int (nI 0)), (2, .int (nI 0)), (0, .ref (mx 0)), (1, .ref (mx 11))]) hx hb dX8_wishOf_3 rfl hl (by decide) rfl (fun ls hl => ?_)
  have L4 : ∀ (n9 : Nat) (t : Nat) (s1 : Nat), (t ≤ nt) → (s1 = wishN wi g t) → (nt - t) < n9 → ∀ (ls : Array Slot), lv_has ls 4 [(0, .ref (mx 0)), (1, .ref (mx 11)), (2, .int (nI s1)), (3, .int (nI t))] → W p l e ({ frames := 0, cells := 0, slots := 0, locals := 0 } : Room) s m ([.ref (mx 0), .ref (mx 11)] : List Value).toArray below meth c s.heap [] 0 0 (MQ below (vp_Si (fun r9 => r9 = nI (wishN wi g nt))) ([.ref (mx 0), .ref (mx 11)] : List Value).toArray s 0 0 (fun _ => False)) (F0 m 4 ls []) := by
    intro n9
    induction n9 with
    | zero =>
      intro t s1 ht hs1 hm
      exact absurd hm (by omega)
    | succ n9 ih =>
      intro t s1 ht hs1 hm ls hl
      have ih_L4 := ih
      refine lv_iload_n hx hb dX8_wishOf_4 rfl (lv_at hl 3 rfl) ?_
      refine lv_aload_n hx hb dX8_wishOf_5 rfl (lv_at hl 0 rfl) ?_
      refine va_get (D := D) (ci := 8) (v := .int (nI nt)) (C := RX8) (T := TX8) (N := 16) hx hb hts tu_X8 hown hSt.1 hP 0 rfl rfl 4 (by decide) (hts _ t3_224) (fun _ h9 => h9) rfl dX8_wishOf_6 ?_
      refine lv_icmp_ge (tgt := 45) hx hb dX8_wishOf_9 (by decide) (fun c_1 => ?_) (fun c_1 => ?_)
      · have c_1 := z_le (by omega) (by omega) c_1
        refine lv_iload_n hx hb dX8_wishOf_45 rfl (lv_at hl 2 rfl) ?_
        exact W.iret (v := nI s1) hx hb hr (fun t9 ht9 hW9 => ⟨_, rfl, (by rw [hs1, show t = nt by omega]), ht9⟩) (fun q h => nomatch h) dX8_wishOf_46
      · have c_1 := z_nle (by omega) (by omega) c_1
        refine lv_iload_n hx hb dX8_wishOf_12 rfl (lv_at hl 2 rfl) ?_
        refine lv_aload_n hx hb dX8_wishOf_13 rfl (lv_at hl 1 rfl) ?_
        refine lv_iload_n hx hb dX8_wishOf_14 rfl (lv_at hl 3 rfl) ?_
        refine r_iald hx hb hSt.1 hP 11 0 rfl rfl (k := t) (by omega) (by omega) dX8_wishOf_15 ?_
        refine lv_as (y := zI (g t)) (hg t (by omega)) ?_
        refine lv_iconst (v := (-1 : Int32)) hx hb dX8_wishOf_16 (by decide) ?_
        refine lv_icmp_ne (tgt := 24) hx hb dX8_wishOf_17 (by decide) (fun c_2 => ?_) (fun c_2 => ?_)
        · have hgt := zI_some c_2
          refine lv_aload_n hx hb dX8_wishOf_24 rfl (lv_at hl 0 rfl) ?_
          refine va_get (D := D) (ci := 8) (v := .ref (mx 5)) (C := RX8) (T := TX8) (N := 16) hx hb hts tu_X8 hown hSt.1 hP 0 rfl rfl 6 (by decide) (hts _ t3_226) (fun _ h9 => h9) rfl dX8_wishOf_25 ?_
          refine lv_bipush (v := nI 7) hx hb dX8_wishOf_28 (by decide) ?_
          refine lv_iload_n hx hb dX8_wishOf_30 rfl (lv_at hl 3 rfl) ?_
          refine r_muln hx hb dX8_wishOf_31 ?_
          refine lv_aload_n hx hb dX8_wishOf_32 rfl (lv_at hl 1 rfl) ?_
          refine lv_iload_n hx hb dX8_wishOf_33 rfl (lv_at hl 3 rfl) ?_
          refine r_iald hx hb hSt.1 hP 11 0 rfl rfl (k := t) (by omega) (by omega) dX8_wishOf_34 ?_
          refine lv_as (y := nI (g t)) ((hg t (by omega)).trans (zI_lt hgt)) ?_
          refine r_addn hx hb dX8_wishOf_35 ?_
          refine r_iald hx hb hSt.1 hP 5 0 rfl rfl (k := ((7 * t) + (g t))) (by omega) (by omega) dX8_wishOf_36 ?_
          refine lv_as (y := nI (wi t (g t))) (hmw t (g t) (by omega) hgt) ?_
          refine r_addn hx hb dX8_wishOf_37 ?_
          refine lv_istore_n (lv' := [(2, .int (nI (s1 + (wi t (g t))))), (0, .ref (mx 0)), (1, .ref (mx 11)), (3, .int (nI t))]) hx hb dX8_wishOf_38 rfl hl (by decide) rfl (fun ls hl => ?_)
          refine lv_iinc (v := nI (t + 1)) (lv' := [(3, .int (nI (t + 1))), (2, .int (nI (s1 + (wi t (g t))))), (0, .ref (mx 0)), (1, .ref (mx 11))]) hx hb dX8_wishOf_39 hl (k := 3) rfl (z_inc _) (by decide) rfl (fun ls hl => ?_)
          refine lv_goto (tgt := 4) hx hb dX8_wishOf_42 (by decide) ?_
          exact ih_L4 (t + 1) (s1 + (wi t (g t))) (by omega) (wish_s hs1 hgt) (by omega) _ (lv_sub hl [2, 3, 1, 0] rfl)
        · refine lv_iconst (v := nI 0) hx hb dX8_wishOf_20 (by decide) ?_
          refine lv_goto (tgt := 37) hx hb dX8_wishOf_21 (by decide) ?_
          refine r_addn hx hb dX8_wishOf_37 ?_
          refine lv_istore_n (lv' := [(2, .int (nI (s1 + 0))), (0, .ref (mx 0)), (1, .ref (mx 11)), (3, .int (nI t))]) hx hb dX8_wishOf_38 rfl hl (by decide) rfl (fun ls hl => ?_)
          refine lv_iinc (v := nI (t + 1)) (lv' := [(3, .int (nI (t + 1))), (2, .int (nI (s1 + 0))), (0, .ref (mx 0)), (1, .ref (mx 11))]) hx hb dX8_wishOf_39 hl (k := 3) rfl (z_inc _) (by decide) rfl (fun ls hl => ?_)
          refine lv_goto (tgt := 4) hx hb dX8_wishOf_42 (by decide) ?_
          exact ih_L4 (t + 1) (s1 + 0) (by omega) ((Nat.add_zero _).trans (wish_n hs1 (fun q => by have h7 := zI_none c_2; omega))) (by omega) _ (lv_sub hl [2, 3, 1, 0] rfl)
  exact L4 _ 0 0 (by omega) rfl (Nat.lt_succ_self _) _ (lv_sub hl [2, 3, 1, 0] rfl)
set_option maxHeartbeats 4000000 in
set_option maxRecDepth 100000 in
theorem c_X8_wishOf_zo (l : Launch) (D : va_G) (cI cZ cQ cJ : ClassId) (mx : Nat → Nat) (w : Nat → Int32) (nz : Nat) (q : Nat → Int32) (d : Nat → Int32) (nt : Nat) (pr : Nat → Int32) (mw : Nat → Int32) (mt : Nat → Int32) (zo : Nat → Int32) (ke : Nat → Int32) (wy : Nat → Int32) (st : Nat → Int32) (tr : Nat → Int32) (be : Nat → Int32) (ch : Nat → Int32) (th : Int32) (wi : Nat → Nat → Nat) (g : Nat → Nat) (hnz : nz ≤ 7) (hnt : nt ≤ 7) (hmw : ∀ t z, t < 7 → z < 7 → mw (7 * t + z) = nI (wi t z)) (hg : pOK nt zo g) (hgz : gOK nz nt g) : Met l yX8_wishOf (.code yX8_wishOf cX8_wishOf 4 (some .int) :: ALL) ({ frames := 0, cells := 0, slots := 0, locals := 0 } : Room) (va_Pc [.ref (mx 0), .ref (mx 7)] (ro_P D cI cZ cQ cJ (wMo mx cI cZ w (nI nz) q d (nI nt) pr mw mt zo ke wy st tr be ch th))) (vp_Si (fun r9 => r9 = nI (wishN wi g nt))) 0 0 (fun _ => False) := by
  refine Met.ofW (cc := cX8_wishOf) (maxL := 4) (ret := (some .int)) (by decide) rfl ?_
  intro p e s m args below meth c s₁ B hml hv
  obtain ⟨rfl, hP, hSt⟩ := hv
  have hx := B.exec
  have hb := B.bytes
  have hr := B.returns
  have hts : ∀ w ∈ ALL, w.before ([.ref (mx 0), .ref (mx 7)] : List Value).toArray s = true := fun w h => atoms_spec (ws := (.code yX8_wishOf cX8_wishOf 4 (some .int) :: ALL)) B.pre w (List.mem_cons_of_mem _ h)
  have hown : s.vm.findClass RX8 = some m.cls := findClass_of_methodNamed B.named
  have hlocks := B.notSynchronized
  have hl := lv_entry ([.ref (mx 0), .ref (mx 7)]) (n := 4) (Nat.le_of_ble_eq_true rfl)
  rw [lg_entry_eq]
  generalize (lg_sl ([.ref (mx 0), .ref (mx 7)]) ++ List.replicate (4 - (lg_sl ([.ref (mx 0), .ref (mx 7)])).length) Slot.unset).toArray = ls at hl ⊢
  have hl : lv_has ls 4 [(0, .ref (mx 0)), (1, .ref (mx 7))] := hl
  refine lv_iconst (v := nI 0) hx hb dX8_wishOf_0 (by decide) ?_
  refine lv_istore_n (lv' := [(2, .int (nI 0)), (0, .ref (mx 0)), (1, .ref (mx 7))]) hx hb dX8_wishOf_1 rfl hl (by decide) rfl (fun ls hl => ?_)
  refine lv_iconst (v := nI 0) hx hb dX8_wishOf_2 (by decide) ?_
  refine lv_istore_n (lv' := [(3, .int (nI 0)), (2, .int (nI 0)), (0, .ref (mx 0)), (1, .ref (mx 7))]) hx hb dX8_wishOf_3 rfl hl (by decide) rfl (fun ls hl => ?_)
  have L4 : ∀ (n9 : Nat) (t : Nat) (s1 : Nat), (t ≤ nt) → (s1 = wishN wi g t) → (nt - t) < n9 → ∀ (ls : Array Slot), lv_has ls 4 [(0, .ref (mx 0)), (1, .ref (mx 7)), (2, .int (nI s1)), (3, .int (nI t))] → W p l e ({ frames := 0, cells := 0, slots := 0, locals := 0 } : Room) s m ([.ref (mx 0), .ref (mx 7)] : List Value).toArray below meth c s.heap [] 0 0 (MQ below (vp_Si (fun r9 => r9 = nI (wishN wi g nt))) ([.ref (mx 0), .ref (mx 7)] : List Value).toArray s 0 0 (fun _ => False)) (F0 m 4 ls []) := by
    intro n9
    induction n9 with
    | zero =>
      intro t s1 ht hs1 hm
      exact absurd hm (by omega)
    | succ n9 ih =>
      intro t s1 ht hs1 hm ls hl
      have ih_L4 := ih
      refine lv_iload_n hx hb dX8_wishOf_4 rfl (lv_at hl 3 rfl) ?_
      refine lv_aload_n hx hb dX8_wishOf_5 rfl (lv_at hl 0 rfl) ?_
      refine va_get (D := D) (ci := 8) (v := .int (nI nt)) (C := RX8) (T := TX8) (N := 16) hx hb hts tu_X8 hown hSt.1 hP 0 rfl rfl 4 (by decide) (hts _ t3_224) (fun _ h9 => h9) rfl dX8_wishOf_6 ?_
      refine lv_icmp_ge (tgt := 45) hx hb dX8_wishOf_9 (by decide) (fun c_1 => ?_) (fun c_1 => ?_)
      · have c_1 := z_le (by omega) (by omega) c_1
        refine lv_iload_n hx hb dX8_wishOf_45 rfl (lv_at hl 2 rfl) ?_
        exact W.iret (v := nI s1) hx hb hr (fun t9 ht9 hW9 => ⟨_, rfl, (by rw [hs1, show t = nt by omega]), ht9⟩) (fun q h => nomatch h) dX8_wishOf_46
      · have c_1 := z_nle (by omega) (by omega) c_1
        refine lv_iload_n hx hb dX8_wishOf_12 rfl (lv_at hl 2 rfl) ?_
        refine lv_aload_n hx hb dX8_wishOf_13 rfl (lv_at hl 1 rfl) ?_
        refine lv_iload_n hx hb dX8_wishOf_14 rfl (lv_at hl 3 rfl) ?_
        refine r_iald hx hb hSt.1 hP 7 0 rfl rfl (k := t) (by omega) (by omega) dX8_wishOf_15 ?_
        refine lv_as (y := zI (g t)) (hg t (by omega)) ?_
        refine lv_iconst (v := (-1 : Int32)) hx hb dX8_wishOf_16 (by decide) ?_
        refine lv_icmp_ne (tgt := 24) hx hb dX8_wishOf_17 (by decide) (fun c_2 => ?_) (fun c_2 => ?_)
        · have hgt := zI_some c_2
          refine lv_aload_n hx hb dX8_wishOf_24 rfl (lv_at hl 0 rfl) ?_
          refine va_get (D := D) (ci := 8) (v := .ref (mx 5)) (C := RX8) (T := TX8) (N := 16) hx hb hts tu_X8 hown hSt.1 hP 0 rfl rfl 6 (by decide) (hts _ t3_226) (fun _ h9 => h9) rfl dX8_wishOf_25 ?_
          refine lv_bipush (v := nI 7) hx hb dX8_wishOf_28 (by decide) ?_
          refine lv_iload_n hx hb dX8_wishOf_30 rfl (lv_at hl 3 rfl) ?_
          refine r_muln hx hb dX8_wishOf_31 ?_
          refine lv_aload_n hx hb dX8_wishOf_32 rfl (lv_at hl 1 rfl) ?_
          refine lv_iload_n hx hb dX8_wishOf_33 rfl (lv_at hl 3 rfl) ?_
          refine r_iald hx hb hSt.1 hP 7 0 rfl rfl (k := t) (by omega) (by omega) dX8_wishOf_34 ?_
          refine lv_as (y := nI (g t)) ((hg t (by omega)).trans (zI_lt hgt)) ?_
          refine r_addn hx hb dX8_wishOf_35 ?_
          refine r_iald hx hb hSt.1 hP 5 0 rfl rfl (k := ((7 * t) + (g t))) (by omega) (by omega) dX8_wishOf_36 ?_
          refine lv_as (y := nI (wi t (g t))) (hmw t (g t) (by omega) hgt) ?_
          refine r_addn hx hb dX8_wishOf_37 ?_
          refine lv_istore_n (lv' := [(2, .int (nI (s1 + (wi t (g t))))), (0, .ref (mx 0)), (1, .ref (mx 7)), (3, .int (nI t))]) hx hb dX8_wishOf_38 rfl hl (by decide) rfl (fun ls hl => ?_)
          refine lv_iinc (v := nI (t + 1)) (lv' := [(3, .int (nI (t + 1))), (2, .int (nI (s1 + (wi t (g t))))), (0, .ref (mx 0)), (1, .ref (mx 7))]) hx hb dX8_wishOf_39 hl (k := 3) rfl (z_inc _) (by decide) rfl (fun ls hl => ?_)
          refine lv_goto (tgt := 4) hx hb dX8_wishOf_42 (by decide) ?_
          exact ih_L4 (t + 1) (s1 + (wi t (g t))) (by omega) (wish_s hs1 hgt) (by omega) _ (lv_sub hl [2, 3, 1, 0] rfl)
        · refine lv_iconst (v := nI 0) hx hb dX8_wishOf_20 (by decide) ?_
          refine lv_goto (tgt := 37) hx hb dX8_wishOf_21 (by decide) ?_
          refine r_addn hx hb dX8_wishOf_37 ?_
          refine lv_istore_n (lv' := [(2, .int (nI (s1 + 0))), (0, .ref (mx 0)), (1, .ref (mx 7)), (3, .int (nI t))]) hx hb dX8_wishOf_38 rfl hl (by decide) rfl (fun ls hl => ?_)
          refine lv_iinc (v := nI (t + 1)) (lv' := [(3, .int (nI (t + 1))), (2, .int (nI (s1 + 0))), (0, .ref (mx 0)), (1, .ref (mx 7))]) hx hb dX8_wishOf_39 hl (k := 3) rfl (z_inc _) (by decide) rfl (fun ls hl => ?_)
          refine lv_goto (tgt := 4) hx hb dX8_wishOf_42 (by decide) ?_
          exact ih_L4 (t + 1) (s1 + 0) (by omega) ((Nat.add_zero _).trans (wish_n hs1 (fun q => by have h7 := zI_none c_2; omega))) (by omega) _ (lv_sub hl [2, 3, 1, 0] rfl)
  exact L4 _ 0 0 (by omega) rfl (Nat.lt_succ_self _) _ (lv_sub hl [2, 3, 1, 0] rfl)
theorem hd_X8_wishOf : yX8_wishOf.cls = RX8 ∧ yX8_wishOf.cls ≠ "java/lang/invoke/MethodHandle" ∧ yX8_wishOf.cls ≠ "java/lang/invoke/VarHandle" ∧ (parseMethodDescriptor yX8_wishOf.desc).map (fun d => d.parameters.length) = some 1 := by decide +kernel
set_option maxHeartbeats 4000000 in
set_option maxRecDepth 100000 in
theorem c_X8_costOf_tr (l : Launch) (D : va_G) (cI cZ cQ cJ : ClassId) (mx : Nat → Nat) (w : Nat → Int32) (nz : Nat) (q : Nat → Int32) (d : Nat → Int32) (nt : Nat) (pr : Nat → Int32) (mw : Nat → Int32) (mt : Nat → Int32) (zo : Nat → Int32) (ke : Nat → Int32) (wy : Nat → Int32) (st : Nat → Int32) (tr : Nat → Int32) (be : Nat → Int32) (ch : Nat → Int32) (th : Int32) (wi : Nat → Nat → Nat) (ti : Nat → Nat → Nat) (dd : Nat → Nat → Nat) (g : Nat → Nat) (hnz : nz ≤ 7) (hnt : nt ≤ 7) (hmw : ∀ t z, t < 7 → z < 7 → mw (7 * t + z) = nI (wi t z)) (hmt : ∀ t o, t < 7 → o < 7 → mt (7 * t + o) = nI (ti t o)) (hwy : ∀ u v, u < nz → v < nz → wy (7 * u + v) = nI (dd u v)) (hg : pOK nt tr g) (hgz : gOK nz nt g) : Met l yX8_costOf (.code yX8_costOf cX8_costOf 5 (some .int) :: ALL) ({ frames := 1, cells := 0, slots := 0, locals := 23 } : Room) (va_Pc [.ref (mx 0), .ref (mx 11)] (ro_P D cI cZ cQ cJ (wMo mx cI cZ w (nI nz) q d (nI nt) pr mw mt zo ke wy st tr be ch th))) (vp_Si (fun r9 => r9 = nI (costN wi ti dd g nt))) 0 0 (fun _ => False) := by
  refine Met.ofW (cc := cX8_costOf) (maxL := 5) (ret := (some .int)) (by decide) rfl ?_
  intro p e s m args below meth c s₁ B hml hv
  obtain ⟨rfl, hP, hSt⟩ := hv
  have hx := B.exec
  have hb := B.bytes
  have hr := B.returns
  have hts : ∀ w ∈ ALL, w.before ([.ref (mx 0), .ref (mx 11)] : List Value).toArray s = true := fun w h => atoms_spec (ws := (.code yX8_costOf cX8_costOf 5 (some .int) :: ALL)) B.pre w (List.mem_cons_of_mem _ h)
  have hown : s.vm.findClass RX8 = some m.cls := findClass_of_methodNamed B.named
  have hlocks := B.notSynchronized
  have hl := lv_entry ([.ref (mx 0), .ref (mx 11)]) (n := 5) (Nat.le_of_ble_eq_true rfl)
  rw [lg_entry_eq]
  generalize (lg_sl ([.ref (mx 0), .ref (mx 11)]) ++ List.replicate (5 - (lg_sl ([.ref (mx 0), .ref (mx 11)])).length) Slot.unset).toArray = ls at hl ⊢
  have hl : lv_has ls 5 [(0, .ref (mx 0)), (1, .ref (mx 11))] := hl
  refine lv_aload_n hx hb dX8_costOf_0 rfl (lv_at hl 0 rfl) ?_
  refine lv_aload_n hx hb dX8_costOf_1 rfl (lv_at hl 1 rfl) ?_
  refine ro_V (As := [.ref (mx 11)]) (rest := []) (v := nI (wishN wi g nt)) ⟨hx, hb, hml, hown, hts⟩ (c_X8_wishOf_tr l D cI cZ cQ cJ mx w nz q d nt pr mw mt zo ke wy st tr be ch th wi g (by first | assumption | omega) (by first | assumption | omega) (by first | assumption | omega) (by first | assumption | omega) (by first | assumption | omega)) (gV t4_135 t4_137 t0_34 t1_10 t4_138) rfl rfl hd_X8_wishOf ⟨Nat.le_of_ble_eq_true rfl, Nat.le_of_ble_eq_true rfl⟩ hP hSt (va_recv hSt.1 hP (ci := 8) (q0 := 0) rfl rfl) rfl hl.1 rfl (Nat.le_of_ble_eq_true rfl) dX8_costOf_2 (Nat.zero_le _) (Nat.zero_le _) ?_
  refine lv_istore_n (lv' := [(2, .int (nI (wishN wi g nt))), (0, .ref (mx 0)), (1, .ref (mx 11))]) hx hb dX8_costOf_5 rfl hl (by decide) rfl (fun ls hl => ?_)
  refine lv_iconst (v := nI 0) hx hb dX8_costOf_6 (by decide) ?_
  refine lv_istore_n (lv' := [(3, .int (nI 0)), (2, .int (nI (wishN wi g nt))), (0, .ref (mx 0)), (1, .ref (mx 11))]) hx hb dX8_costOf_7 rfl hl (by decide) rfl (fun ls hl => ?_)
  have L8 : ∀ (n9 : Nat) (t : Nat) (s1 : Nat), (t ≤ nt) → (s1 = wishN wi g nt + sumT (tieN ti dd g) t) → (nt - t) < n9 → ∀ (ls : Array Slot), lv_has ls 5 [(0, .ref (mx 0)), (1, .ref (mx 11)), (2, .int (nI s1)), (3, .int (nI t))] → W p l e ({ frames := 1, cells := 0, slots := 0, locals := 23 } : Room) s m ([.ref (mx 0), .ref (mx 11)] : List Value).toArray below meth c s.heap [] 0 0 (MQ below (vp_Si (fun r9 => r9 = nI (costN wi ti dd g nt))) ([.ref (mx 0), .ref (mx 11)] : List Value).toArray s 0 0 (fun _ => False)) (F0 m 8 ls []) := by
    intro n9
    induction n9 with
    | zero =>
      intro t s1 ht hs1 hm
      exact absurd hm (by omega)
    | succ n9 ih =>
      intro t s1 ht hs1 hm ls hl
      have ih_L8 := ih
      refine lv_iload_n hx hb dX8_costOf_8 rfl (lv_at hl 3 rfl) ?_
      refine lv_aload_n hx hb dX8_costOf_9 rfl (lv_at hl 0 rfl) ?_
      refine va_get (D := D) (ci := 8) (v := .int (nI nt)) (C := RX8) (T := TX8) (N := 16) hx hb hts tu_X8 hown hSt.1 hP 0 rfl rfl 4 (by decide) (hts _ t3_224) (fun _ h9 => h9) rfl dX8_costOf_10 ?_
      refine lv_icmp_ge (tgt := 88) hx hb dX8_costOf_13 (by decide) (fun c_1 => ?_) (fun c_1 => ?_)
      · have c_1 := z_le (by omega) (by omega) c_1
        refine lv_iload_n hx hb dX8_costOf_88 rfl (lv_at hl 2 rfl) ?_
        exact W.iret (v := nI s1) hx hb hr (fun t9 ht9 hW9 => ⟨_, rfl, (by rw [hs1, show t = nt by omega]; rfl), ht9⟩) (fun q h => nomatch h) dX8_costOf_89
      · have c_1 := z_nle (by omega) (by omega) c_1
        refine lv_iconst (v := nI 0) hx hb dX8_costOf_16 (by decide) ?_
        refine lv_istore (lv' := [(4, .int (nI 0)), (0, .ref (mx 0)), (1, .ref (mx 11)), (2, .int (nI s1)), (3, .int (nI t))]) hx hb dX8_costOf_17 hl (by decide) rfl (fun ls hl => ?_)
        have L19 : ∀ (n9 : Nat) (j : Nat) (s2 : Nat), (j ≤ t) → (s2 = s1 + sumT (tieT ti dd g t) j) → (t - j) < n9 → ∀ (ls : Array Slot), lv_has ls 5 [(0, .ref (mx 0)), (1, .ref (mx 11)), (2, .int (nI s2)), (3, .int (nI t)), (4, .int (nI j))] → W p l e ({ frames := 1, cells := 0, slots := 0, locals := 23 } : Room) s m ([.ref (mx 0), .ref (mx 11)] : List Value).toArray below meth c s.heap [] 0 0 (MQ below (vp_Si (fun r9 => r9 = nI (costN wi ti dd g nt))) ([.ref (mx 0), .ref (mx 11)] : List Value).toArray s 0 0 (fun _ => False)) (F0 m 19 ls []) := by
          intro n9
          induction n9 with
          | zero =>
            intro j s2 hj hs2 hm
            exact absurd hm (by omega)
          | succ n9 ih =>
            intro j s2 hj hs2 hm ls hl
            have ih_L19 := ih
            refine lv_iload hx hb dX8_costOf_19 (lv_at hl 4 rfl) ?_
            refine lv_iload_n hx hb dX8_costOf_21 rfl (lv_at hl 3 rfl) ?_
            refine lv_icmp_ge (tgt := 82) hx hb dX8_costOf_22 (by decide) (fun c_2 => ?_) (fun c_2 => ?_)
            · have c_2 := z_le (by omega) (by omega) c_2
              refine lv_iinc (v := nI (t + 1)) (lv' := [(3, .int (nI (t + 1))), (0, .ref (mx 0)), (1, .ref (mx 11)), (2, .int (nI s2)), (4, .int (nI j))]) hx hb dX8_costOf_82 hl (k := 3) rfl (z_inc _) (by decide) rfl (fun ls hl => ?_)
              refine lv_goto (tgt := 8) hx hb dX8_costOf_85 (by decide) ?_
              exact ih_L8 (t + 1) s2 (by omega) (by rw [hs2, sumT, show j = t by omega, hs1, tieN]; omega) (by omega) _ (lv_sub hl [1, 2, 3, 0] rfl)
            · have c_2 := z_nle (by omega) (by omega) c_2
              refine lv_iload_n hx hb dX8_costOf_25 rfl (lv_at hl 2 rfl) ?_
              refine lv_aload_n hx hb dX8_costOf_26 rfl (lv_at hl 1 rfl) ?_
              refine lv_iload_n hx hb dX8_costOf_27 rfl (lv_at hl 3 rfl) ?_
              refine r_iald hx hb hSt.1 hP 11 0 rfl rfl (k := t) (by omega) (by omega) dX8_costOf_28 ?_
              refine lv_as (y := zI (g t)) (hg t (by omega)) ?_
              refine lv_iconst (v := (-1 : Int32)) hx hb dX8_costOf_29 (by decide) ?_
              refine lv_icmp_eq (tgt := 41) hx hb dX8_costOf_30 (by decide) (fun c_3 => ?_) (fun c_3 => ?_)
              · refine lv_iconst (v := nI 0) hx hb dX8_costOf_41 (by decide) ?_
                refine lv_goto (tgt := 74) hx hb dX8_costOf_42 (by decide) ?_
                refine r_addn hx hb dX8_costOf_74 ?_
                refine lv_istore_n (lv' := [(2, .int (nI (s2 + 0))), (0, .ref (mx 0)), (1, .ref (mx 11)), (3, .int (nI t)), (4, .int (nI j))]) hx hb dX8_costOf_75 rfl hl (by decide) rfl (fun ls hl => ?_)
                refine lv_iinc (v := nI (j + 1)) (lv' := [(4, .int (nI (j + 1))), (2, .int (nI (s2 + 0))), (0, .ref (mx 0)), (1, .ref (mx 11)), (3, .int (nI t))]) hx hb dX8_costOf_76 hl (k := 4) rfl (z_inc _) (by decide) rfl (fun ls hl => ?_)
                refine lv_goto (tgt := 19) hx hb dX8_costOf_79 (by decide) ?_
                exact ih_L19 (j + 1) (s2 + 0) (by omega) (by rw [← tie_n (n := j) rfl (fun q => by have h7 := zI_none c_3; omega), hs2]; rfl) (by omega) _ (lv_sub hl [2, 3, 1, 4, 0] rfl)
              · refine lv_aload_n hx hb dX8_costOf_33 rfl (lv_at hl 1 rfl) ?_
                refine lv_iload hx hb dX8_costOf_34 (lv_at hl 4 rfl) ?_
                refine r_iald hx hb hSt.1 hP 11 0 rfl rfl (k := j) (by omega) (by omega) dX8_costOf_36 ?_
                refine lv_as (y := zI (g j)) (hg j (by omega)) ?_
                refine lv_iconst (v := (-1 : Int32)) hx hb dX8_costOf_37 (by decide) ?_
                refine lv_icmp_ne (tgt := 45) hx hb dX8_costOf_38 (by decide) (fun c_4 => ?_) (fun c_4 => ?_)
                · have hgt := zI_some c_3
                  have hgj := zI_some c_4
                  have hgt2 : g t < nz := (hgz t (by omega)).resolve_right (by omega)
                  have hgj2 : g j < nz := (hgz j (by omega)).resolve_right (by omega)
                  refine lv_aload_n hx hb dX8_costOf_45 rfl (lv_at hl 0 rfl) ?_
                  refine va_get (D := D) (ci := 8) (v := .ref (mx 6)) (C := RX8) (T := TX8) (N := 16) hx hb hts tu_X8 hown hSt.1 hP 0 rfl rfl 7 (by decide) (hts _ t3_227) (fun _ h9 => h9) rfl dX8_costOf_46 ?_
                  refine lv_bipush (v := nI 7) hx hb dX8_costOf_49 (by decide) ?_
                  refine lv_iload_n hx hb dX8_costOf_51 rfl (lv_at hl 3 rfl) ?_
                  refine r_muln hx hb dX8_costOf_52 ?_
                  refine lv_iload hx hb dX8_costOf_53 (lv_at hl 4 rfl) ?_
                  refine r_addn hx hb dX8_costOf_55 ?_
                  refine r_iald hx hb hSt.1 hP 6 0 rfl rfl (k := ((7 * t) + j)) (by omega) (by omega) dX8_costOf_56 ?_
                  refine lv_as (y := nI (ti t j)) (hmt t j (by omega) (by omega)) ?_
                  refine lv_aload_n hx hb dX8_costOf_57 rfl (lv_at hl 0 rfl) ?_
                  refine va_get (D := D) (ci := 8) (v := .ref (mx 9)) (C := RX8) (T := TX8) (N := 16) hx hb hts tu_X8 hown hSt.1 hP 0 rfl rfl 10 (by decide) (hts _ t3_230) (fun _ h9 => h9) rfl dX8_costOf_58 ?_
                  refine lv_bipush (v := nI 7) hx hb dX8_costOf_61 (by decide) ?_
                  refine lv_aload_n hx hb dX8_costOf_63 rfl (lv_at hl 1 rfl) ?_
                  refine lv_iload_n hx hb dX8_costOf_64 rfl (lv_at hl 3 rfl) ?_
                  refine r_iald hx hb hSt.1 hP 11 0 rfl rfl (k := t) (by omega) (by omega) dX8_costOf_65 ?_
                  refine lv_as (y := nI (g t)) ((hg t (by omega)).trans (zI_lt hgt)) ?_
                  refine r_muln hx hb dX8_costOf_66 ?_
                  refine lv_aload_n hx hb dX8_costOf_67 rfl (lv_at hl 1 rfl) ?_
                  refine lv_iload hx hb dX8_costOf_68 (lv_at hl 4 rfl) ?_
                  refine r_iald hx hb hSt.1 hP 11 0 rfl rfl (k := j) (by omega) (by omega) dX8_costOf_70 ?_
                  refine lv_as (y := nI (g j)) ((hg j (by omega)).trans (zI_lt hgj)) ?_
                  refine r_addn hx hb dX8_costOf_71 ?_
                  refine r_iald hx hb hSt.1 hP 9 0 rfl rfl (k := ((7 * (g t)) + (g j))) (by omega) (by omega) dX8_costOf_72 ?_
                  refine lv_as (y := nI (dd (g t) (g j))) (hwy _ _ hgt2 hgj2) ?_
                  refine r_muln hx hb dX8_costOf_73 ?_
                  refine r_addn hx hb dX8_costOf_74 ?_
                  refine lv_istore_n (lv' := [(2, .int (nI (s2 + ((ti t j) * (dd (g t) (g j)))))), (0, .ref (mx 0)), (1, .ref (mx 11)), (3, .int (nI t)), (4, .int (nI j))]) hx hb dX8_costOf_75 rfl hl (by decide) rfl (fun ls hl => ?_)
                  refine lv_iinc (v := nI (j + 1)) (lv' := [(4, .int (nI (j + 1))), (2, .int (nI (s2 + ((ti t j) * (dd (g t) (g j)))))), (0, .ref (mx 0)), (1, .ref (mx 11)), (3, .int (nI t))]) hx hb dX8_costOf_76 hl (k := 4) rfl (z_inc _) (by decide) rfl (fun ls hl => ?_)
                  refine lv_goto (tgt := 19) hx hb dX8_costOf_79 (by decide) ?_
                  exact ih_L19 (j + 1) (s2 + ((ti t j) * (dd (g t) (g j)))) (by omega) (by rw [← tie_s (n := j) rfl hgt hgj, hs2]; omega) (by omega) _ (lv_sub hl [2, 3, 1, 4, 0] rfl)
                · refine lv_iconst (v := nI 0) hx hb dX8_costOf_41 (by decide) ?_
                  refine lv_goto (tgt := 74) hx hb dX8_costOf_42 (by decide) ?_
                  refine r_addn hx hb dX8_costOf_74 ?_
                  refine lv_istore_n (lv' := [(2, .int (nI (s2 + 0))), (0, .ref (mx 0)), (1, .ref (mx 11)), (3, .int (nI t)), (4, .int (nI j))]) hx hb dX8_costOf_75 rfl hl (by decide) rfl (fun ls hl => ?_)
                  refine lv_iinc (v := nI (j + 1)) (lv' := [(4, .int (nI (j + 1))), (2, .int (nI (s2 + 0))), (0, .ref (mx 0)), (1, .ref (mx 11)), (3, .int (nI t))]) hx hb dX8_costOf_76 hl (k := 4) rfl (z_inc _) (by decide) rfl (fun ls hl => ?_)
                  refine lv_goto (tgt := 19) hx hb dX8_costOf_79 (by decide) ?_
                  exact ih_L19 (j + 1) (s2 + 0) (by omega) (by rw [← tie_n (n := j) rfl (fun q => by have h7 := zI_none c_4; omega), hs2]; rfl) (by omega) _ (lv_sub hl [2, 3, 1, 4, 0] rfl)
        exact L19 _ 0 s1 (by omega) rfl (Nat.lt_succ_self _) _ (lv_sub hl [1, 2, 3, 4, 0] rfl)
  exact L8 _ 0 (wishN wi g nt) (by omega) rfl (Nat.lt_succ_self _) _ (lv_sub hl [2, 3, 1, 0] rfl)
set_option maxHeartbeats 4000000 in
set_option maxRecDepth 100000 in
theorem c_X8_costOf_zo (l : Launch) (D : va_G) (cI cZ cQ cJ : ClassId) (mx : Nat → Nat) (w : Nat → Int32) (nz : Nat) (q : Nat → Int32) (d : Nat → Int32) (nt : Nat) (pr : Nat → Int32) (mw : Nat → Int32) (mt : Nat → Int32) (zo : Nat → Int32) (ke : Nat → Int32) (wy : Nat → Int32) (st : Nat → Int32) (tr : Nat → Int32) (be : Nat → Int32) (ch : Nat → Int32) (th : Int32) (wi : Nat → Nat → Nat) (ti : Nat → Nat → Nat) (dd : Nat → Nat → Nat) (g : Nat → Nat) (hnz : nz ≤ 7) (hnt : nt ≤ 7) (hmw : ∀ t z, t < 7 → z < 7 → mw (7 * t + z) = nI (wi t z)) (hmt : ∀ t o, t < 7 → o < 7 → mt (7 * t + o) = nI (ti t o)) (hwy : ∀ u v, u < nz → v < nz → wy (7 * u + v) = nI (dd u v)) (hg : pOK nt zo g) (hgz : gOK nz nt g) : Met l yX8_costOf (.code yX8_costOf cX8_costOf 5 (some .int) :: ALL) ({ frames := 1, cells := 0, slots := 0, locals := 23 } : Room) (va_Pc [.ref (mx 0), .ref (mx 7)] (ro_P D cI cZ cQ cJ (wMo mx cI cZ w (nI nz) q d (nI nt) pr mw mt zo ke wy st tr be ch th))) (vp_Si (fun r9 => r9 = nI (costN wi ti dd g nt))) 0 0 (fun _ => False) := by
  refine Met.ofW (cc := cX8_costOf) (maxL := 5) (ret := (some .int)) (by decide) rfl ?_
  intro p e s m args below meth c s₁ B hml hv
  obtain ⟨rfl, hP, hSt⟩ := hv
  have hx := B.exec
  have hb := B.bytes
  have hr := B.returns
  have hts : ∀ w ∈ ALL, w.before ([.ref (mx 0), .ref (mx 7)] : List Value).toArray s = true := fun w h => atoms_spec (ws := (.code yX8_costOf cX8_costOf 5 (some .int) :: ALL)) B.pre w (List.mem_cons_of_mem _ h)
  have hown : s.vm.findClass RX8 = some m.cls := findClass_of_methodNamed B.named
  have hlocks := B.notSynchronized
  have hl := lv_entry ([.ref (mx 0), .ref (mx 7)]) (n := 5) (Nat.le_of_ble_eq_true rfl)
  rw [lg_entry_eq]
  generalize (lg_sl ([.ref (mx 0), .ref (mx 7)]) ++ List.replicate (5 - (lg_sl ([.ref (mx 0), .ref (mx 7)])).length) Slot.unset).toArray = ls at hl ⊢
  have hl : lv_has ls 5 [(0, .ref (mx 0)), (1, .ref (mx 7))] := hl
  refine lv_aload_n hx hb dX8_costOf_0 rfl (lv_at hl 0 rfl) ?_
  refine lv_aload_n hx hb dX8_costOf_1 rfl (lv_at hl 1 rfl) ?_
  refine ro_V (As := [.ref (mx 7)]) (rest := []) (v := nI (wishN wi g nt)) ⟨hx, hb, hml, hown, hts⟩ (c_X8_wishOf_zo l D cI cZ cQ cJ mx w nz q d nt pr mw mt zo ke wy st tr be ch th wi g (by first | assumption | omega) (by first | assumption | omega) (by first | assumption | omega) (by first | assumption | omega) (by first | assumption | omega)) (gV t4_135 t4_137 t0_34 t1_10 t4_138) rfl rfl hd_X8_wishOf ⟨Nat.le_of_ble_eq_true rfl, Nat.le_of_ble_eq_true rfl⟩ hP hSt (va_recv hSt.1 hP (ci := 8) (q0 := 0) rfl rfl) rfl hl.1 rfl (Nat.le_of_ble_eq_true rfl) dX8_costOf_2 (Nat.zero_le _) (Nat.zero_le _) ?_
  refine lv_istore_n (lv' := [(2, .int (nI (wishN wi g nt))), (0, .ref (mx 0)), (1, .ref (mx 7))]) hx hb dX8_costOf_5 rfl hl (by decide) rfl (fun ls hl => ?_)
  refine lv_iconst (v := nI 0) hx hb dX8_costOf_6 (by decide) ?_
  refine lv_istore_n (lv' := [(3, .int (nI 0)), (2, .int (nI (wishN wi g nt))), (0, .ref (mx 0)), (1, .ref (mx 7))]) hx hb dX8_costOf_7 rfl hl (by decide) rfl (fun ls hl => ?_)
  have L8 : ∀ (n9 : Nat) (t : Nat) (s1 : Nat), (t ≤ nt) → (s1 = wishN wi g nt + sumT (tieN ti dd g) t) → (nt - t) < n9 → ∀ (ls : Array Slot), lv_has ls 5 [(0, .ref (mx 0)), (1, .ref (mx 7)), (2, .int (nI s1)), (3, .int (nI t))] → W p l e ({ frames := 1, cells := 0, slots := 0, locals := 23 } : Room) s m ([.ref (mx 0), .ref (mx 7)] : List Value).toArray below meth c s.heap [] 0 0 (MQ below (vp_Si (fun r9 => r9 = nI (costN wi ti dd g nt))) ([.ref (mx 0), .ref (mx 7)] : List Value).toArray s 0 0 (fun _ => False)) (F0 m 8 ls []) := by
    intro n9
    induction n9 with
    | zero =>
      intro t s1 ht hs1 hm
      exact absurd hm (by omega)
    | succ n9 ih =>
      intro t s1 ht hs1 hm ls hl
      have ih_L8 := ih
      refine lv_iload_n hx hb dX8_costOf_8 rfl (lv_at hl 3 rfl) ?_
      refine lv_aload_n hx hb dX8_costOf_9 rfl (lv_at hl 0 rfl) ?_
      refine va_get (D := D) (ci := 8) (v := .int (nI nt)) (C := RX8) (T := TX8) (N := 16) hx hb hts tu_X8 hown hSt.1 hP 0 rfl rfl 4 (by decide) (hts _ t3_224) (fun _ h9 => h9) rfl dX8_costOf_10 ?_
      refine lv_icmp_ge (tgt := 88) hx hb dX8_costOf_13 (by decide) (fun c_1 => ?_) (fun c_1 => ?_)
      · have c_1 := z_le (by omega) (by omega) c_1
        refine lv_iload_n hx hb dX8_costOf_88 rfl (lv_at hl 2 rfl) ?_
        exact W.iret (v := nI s1) hx hb hr (fun t9 ht9 hW9 => ⟨_, rfl, (by rw [hs1, show t = nt by omega]; rfl), ht9⟩) (fun q h => nomatch h) dX8_costOf_89
      · have c_1 := z_nle (by omega) (by omega) c_1
        refine lv_iconst (v := nI 0) hx hb dX8_costOf_16 (by decide) ?_
        refine lv_istore (lv' := [(4, .int (nI 0)), (0, .ref (mx 0)), (1, .ref (mx 7)), (2, .int (nI s1)), (3, .int (nI t))]) hx hb dX8_costOf_17 hl (by decide) rfl (fun ls hl => ?_)
        have L19 : ∀ (n9 : Nat) (j : Nat) (s2 : Nat), (j ≤ t) → (s2 = s1 + sumT (tieT ti dd g t) j) → (t - j) < n9 → ∀ (ls : Array Slot), lv_has ls 5 [(0, .ref (mx 0)), (1, .ref (mx 7)), (2, .int (nI s2)), (3, .int (nI t)), (4, .int (nI j))] → W p l e ({ frames := 1, cells := 0, slots := 0, locals := 23 } : Room) s m ([.ref (mx 0), .ref (mx 7)] : List Value).toArray below meth c s.heap [] 0 0 (MQ below (vp_Si (fun r9 => r9 = nI (costN wi ti dd g nt))) ([.ref (mx 0), .ref (mx 7)] : List Value).toArray s 0 0 (fun _ => False)) (F0 m 19 ls []) := by
          intro n9
          induction n9 with
          | zero =>
            intro j s2 hj hs2 hm
            exact absurd hm (by omega)
          | succ n9 ih =>
            intro j s2 hj hs2 hm ls hl
            have ih_L19 := ih
            refine lv_iload hx hb dX8_costOf_19 (lv_at hl 4 rfl) ?_
            refine lv_iload_n hx hb dX8_costOf_21 rfl (lv_at hl 3 rfl) ?_
            refine lv_icmp_ge (tgt := 82) hx hb dX8_costOf_22 (by decide) (fun c_2 => ?_) (fun c_2 => ?_)
            · have c_2 := z_le (by omega) (by omega) c_2
              refine lv_iinc (v := nI (t + 1)) (lv' := [(3, .int (nI (t + 1))), (0, .ref (mx 0)), (1, .ref (mx 7)), (2, .int (nI s2)), (4, .int (nI j))]) hx hb dX8_costOf_82 hl (k := 3) rfl (z_inc _) (by decide) rfl (fun ls hl => ?_)
              refine lv_goto (tgt := 8) hx hb dX8_costOf_85 (by decide) ?_
              exact ih_L8 (t + 1) s2 (by omega) (by rw [hs2, sumT, show j = t by omega, hs1, tieN]; omega) (by omega) _ (lv_sub hl [1, 2, 3, 0] rfl)
            · have c_2 := z_nle (by omega) (by omega) c_2
              refine lv_iload_n hx hb dX8_costOf_25 rfl (lv_at hl 2 rfl) ?_
              refine lv_aload_n hx hb dX8_costOf_26 rfl (lv_at hl 1 rfl) ?_
              refine lv_iload_n hx hb dX8_costOf_27 rfl (lv_at hl 3 rfl) ?_
              refine r_iald hx hb hSt.1 hP 7 0 rfl rfl (k := t) (by omega) (by omega) dX8_costOf_28 ?_
              refine lv_as (y := zI (g t)) (hg t (by omega)) ?_
              refine lv_iconst (v := (-1 : Int32)) hx hb dX8_costOf_29 (by decide) ?_
              refine lv_icmp_eq (tgt := 41) hx hb dX8_costOf_30 (by decide) (fun c_3 => ?_) (fun c_3 => ?_)
              · refine lv_iconst (v := nI 0) hx hb dX8_costOf_41 (by decide) ?_
                refine lv_goto (tgt := 74) hx hb dX8_costOf_42 (by decide) ?_
                refine r_addn hx hb dX8_costOf_74 ?_
                refine lv_istore_n (lv' := [(2, .int (nI (s2 + 0))), (0, .ref (mx 0)), (1, .ref (mx 7)), (3, .int (nI t)), (4, .int (nI j))]) hx hb dX8_costOf_75 rfl hl (by decide) rfl (fun ls hl => ?_)
                refine lv_iinc (v := nI (j + 1)) (lv' := [(4, .int (nI (j + 1))), (2, .int (nI (s2 + 0))), (0, .ref (mx 0)), (1, .ref (mx 7)), (3, .int (nI t))]) hx hb dX8_costOf_76 hl (k := 4) rfl (z_inc _) (by decide) rfl (fun ls hl => ?_)
                refine lv_goto (tgt := 19) hx hb dX8_costOf_79 (by decide) ?_
                exact ih_L19 (j + 1) (s2 + 0) (by omega) (by rw [← tie_n (n := j) rfl (fun q => by have h7 := zI_none c_3; omega), hs2]; rfl) (by omega) _ (lv_sub hl [2, 3, 1, 4, 0] rfl)
              · refine lv_aload_n hx hb dX8_costOf_33 rfl (lv_at hl 1 rfl) ?_
                refine lv_iload hx hb dX8_costOf_34 (lv_at hl 4 rfl) ?_
                refine r_iald hx hb hSt.1 hP 7 0 rfl rfl (k := j) (by omega) (by omega) dX8_costOf_36 ?_
                refine lv_as (y := zI (g j)) (hg j (by omega)) ?_
                refine lv_iconst (v := (-1 : Int32)) hx hb dX8_costOf_37 (by decide) ?_
                refine lv_icmp_ne (tgt := 45) hx hb dX8_costOf_38 (by decide) (fun c_4 => ?_) (fun c_4 => ?_)
                · have hgt := zI_some c_3
                  have hgj := zI_some c_4
                  have hgt2 : g t < nz := (hgz t (by omega)).resolve_right (by omega)
                  have hgj2 : g j < nz := (hgz j (by omega)).resolve_right (by omega)
                  refine lv_aload_n hx hb dX8_costOf_45 rfl (lv_at hl 0 rfl) ?_
                  refine va_get (D := D) (ci := 8) (v := .ref (mx 6)) (C := RX8) (T := TX8) (N := 16) hx hb hts tu_X8 hown hSt.1 hP 0 rfl rfl 7 (by decide) (hts _ t3_227) (fun _ h9 => h9) rfl dX8_costOf_46 ?_
                  refine lv_bipush (v := nI 7) hx hb dX8_costOf_49 (by decide) ?_
                  refine lv_iload_n hx hb dX8_costOf_51 rfl (lv_at hl 3 rfl) ?_
                  refine r_muln hx hb dX8_costOf_52 ?_
                  refine lv_iload hx hb dX8_costOf_53 (lv_at hl 4 rfl) ?_
                  refine r_addn hx hb dX8_costOf_55 ?_
                  refine r_iald hx hb hSt.1 hP 6 0 rfl rfl (k := ((7 * t) + j)) (by omega) (by omega) dX8_costOf_56 ?_
                  refine lv_as (y := nI (ti t j)) (hmt t j (by omega) (by omega)) ?_
                  refine lv_aload_n hx hb dX8_costOf_57 rfl (lv_at hl 0 rfl) ?_
                  refine va_get (D := D) (ci := 8) (v := .ref (mx 9)) (C := RX8) (T := TX8) (N := 16) hx hb hts tu_X8 hown hSt.1 hP 0 rfl rfl 10 (by decide) (hts _ t3_230) (fun _ h9 => h9) rfl dX8_costOf_58 ?_
                  refine lv_bipush (v := nI 7) hx hb dX8_costOf_61 (by decide) ?_
                  refine lv_aload_n hx hb dX8_costOf_63 rfl (lv_at hl 1 rfl) ?_
                  refine lv_iload_n hx hb dX8_costOf_64 rfl (lv_at hl 3 rfl) ?_
                  refine r_iald hx hb hSt.1 hP 7 0 rfl rfl (k := t) (by omega) (by omega) dX8_costOf_65 ?_
                  refine lv_as (y := nI (g t)) ((hg t (by omega)).trans (zI_lt hgt)) ?_
                  refine r_muln hx hb dX8_costOf_66 ?_
                  refine lv_aload_n hx hb dX8_costOf_67 rfl (lv_at hl 1 rfl) ?_
                  refine lv_iload hx hb dX8_costOf_68 (lv_at hl 4 rfl) ?_
                  refine r_iald hx hb hSt.1 hP 7 0 rfl rfl (k := j) (by omega) (by omega) dX8_costOf_70 ?_
                  refine lv_as (y := nI (g j)) ((hg j (by omega)).trans (zI_lt hgj)) ?_
                  refine r_addn hx hb dX8_costOf_71 ?_
                  refine r_iald hx hb hSt.1 hP 9 0 rfl rfl (k := ((7 * (g t)) + (g j))) (by omega) (by omega) dX8_costOf_72 ?_
                  refine lv_as (y := nI (dd (g t) (g j))) (hwy _ _ hgt2 hgj2) ?_
                  refine r_muln hx hb dX8_costOf_73 ?_
                  refine r_addn hx hb dX8_costOf_74 ?_
                  refine lv_istore_n (lv' := [(2, .int (nI (s2 + ((ti t j) * (dd (g t) (g j)))))), (0, .ref (mx 0)), (1, .ref (mx 7)), (3, .int (nI t)), (4, .int (nI j))]) hx hb dX8_costOf_75 rfl hl (by decide) rfl (fun ls hl => ?_)
                  refine lv_iinc (v := nI (j + 1)) (lv' := [(4, .int (nI (j + 1))), (2, .int (nI (s2 + ((ti t j) * (dd (g t) (g j)))))), (0, .ref (mx 0)), (1, .ref (mx 7)), (3, .int (nI t))]) hx hb dX8_costOf_76 hl (k := 4) rfl (z_inc _) (by decide) rfl (fun ls hl => ?_)
                  refine lv_goto (tgt := 19) hx hb dX8_costOf_79 (by decide) ?_
                  exact ih_L19 (j + 1) (s2 + ((ti t j) * (dd (g t) (g j)))) (by omega) (by rw [← tie_s (n := j) rfl hgt hgj, hs2]; omega) (by omega) _ (lv_sub hl [2, 3, 1, 4, 0] rfl)
                · refine lv_iconst (v := nI 0) hx hb dX8_costOf_41 (by decide) ?_
                  refine lv_goto (tgt := 74) hx hb dX8_costOf_42 (by decide) ?_
                  refine r_addn hx hb dX8_costOf_74 ?_
                  refine lv_istore_n (lv' := [(2, .int (nI (s2 + 0))), (0, .ref (mx 0)), (1, .ref (mx 7)), (3, .int (nI t)), (4, .int (nI j))]) hx hb dX8_costOf_75 rfl hl (by decide) rfl (fun ls hl => ?_)
                  refine lv_iinc (v := nI (j + 1)) (lv' := [(4, .int (nI (j + 1))), (2, .int (nI (s2 + 0))), (0, .ref (mx 0)), (1, .ref (mx 7)), (3, .int (nI t))]) hx hb dX8_costOf_76 hl (k := 4) rfl (z_inc _) (by decide) rfl (fun ls hl => ?_)
                  refine lv_goto (tgt := 19) hx hb dX8_costOf_79 (by decide) ?_
                  exact ih_L19 (j + 1) (s2 + 0) (by omega) (by rw [← tie_n (n := j) rfl (fun q => by have h7 := zI_none c_4; omega), hs2]; rfl) (by omega) _ (lv_sub hl [2, 3, 1, 4, 0] rfl)
        exact L19 _ 0 s1 (by omega) rfl (Nat.lt_succ_self _) _ (lv_sub hl [1, 2, 3, 4, 0] rfl)
  exact L8 _ 0 (wishN wi g nt) (by omega) rfl (Nat.lt_succ_self _) _ (lv_sub hl [2, 3, 1, 0] rfl)
theorem hd_X8_costOf : yX8_costOf.cls = RX8 ∧ yX8_costOf.cls ≠ "java/lang/invoke/MethodHandle" ∧ yX8_costOf.cls ≠ "java/lang/invoke/VarHandle" ∧ (parseMethodDescriptor yX8_costOf.desc).map (fun d => d.parameters.length) = some 1 := by decide +kernel
set_option maxHeartbeats 4000000 in
set_option maxRecDepth 100000 in
theorem c_X8_nextZone (l : Launch) (D : va_G) (cI cZ cQ cJ : ClassId) (mx : Nat → Nat) (w : Nat → Int32) (nz : Nat) (q : Nat → Int32) (d : Nat → Int32) (nt : Nat) (pr : Nat → Int32) (mw : Nat → Int32) (mt : Nat → Int32) (zo : Nat → Int32) (ke : Nat → Int32) (wy : Nat → Int32) (st : Nat → Int32) (tr : Nat → Int32) (be : Nat → Int32) (ch : Nat → Int32) (th : Int32) (pp : Nat → Nat → Nat) (n : Nat → Int32) (g : Nat → Nat) (t : Nat) (y : Nat) (hnz : nz ≤ 7) (hnt : nt ≤ 7) (hpr : ∀ t, t < nt → ∀ j, j < 5 → pr (5 * t + j) = nI (pp t j) ∧ pp t j ≤ 60) (hnn : ∀ t, t < nt → n t = nI (ndN (pp t))) (ht : t < nt) (htr : ∀ j, j < t → tr j = nI (g j)) (hgb : ∀ j, j < t → g j < 7) (htt : tr t = tI y) (hy : y ≤ nz) : Met l yX8_nextZone (.code yX8_nextZone cX8_nextZone 5 (some .int) :: ALL) ({ frames := 2, cells := 0, slots := 0, locals := 45 } : Room) (va_Pc [.ref (mx 0), .int (nI t)] (ro_P D cI cZ cQ cJ (wMo mx cI cZ w (nI nz) q d (nI nt) pr mw mt zo ke wy st tr be ch th))) (vp_Si (fun r9 => r9 = zI (nxZ (okZ (fun t9 z9 => n t9 ≤ d z9) g t) (nz - y) y))) 0 0 (fun _ => False) := by
  refine Met.ofW (cc := cX8_nextZone) (maxL := 5) (ret := (some .int)) (by decide) rfl ?_
  intro p e s m args below meth c s₁ B hml hv
  obtain ⟨rfl, hP, hSt⟩ := hv
  have hx := B.exec
  have hb := B.bytes
  have hr := B.returns
  have hts : ∀ w ∈ ALL, w.before ([.ref (mx 0), .int (nI t)] : List Value).toArray s = true := fun w h => atoms_spec (ws := (.code yX8_nextZone cX8_nextZone 5 (some .int) :: ALL)) B.pre w (List.mem_cons_of_mem _ h)
  have hown : s.vm.findClass RX8 = some m.cls := findClass_of_methodNamed B.named
  have hlocks := B.notSynchronized
  have hl := lv_entry ([.ref (mx 0), .int (nI t)]) (n := 5) (Nat.le_of_ble_eq_true rfl)
  rw [lg_entry_eq]
  generalize (lg_sl ([.ref (mx 0), .int (nI t)]) ++ List.replicate (5 - (lg_sl ([.ref (mx 0), .int (nI t)])).length) Slot.unset).toArray = ls at hl ⊢
  have hl : lv_has ls 5 [(0, .ref (mx 0)), (1, .int (nI t))] := hl
  refine lv_aload_n hx hb dX8_nextZone_0 rfl (lv_at hl 0 rfl) ?_
  refine va_get (D := D) (ci := 8) (v := .ref (mx 11)) (C := RX8) (T := TX8) (N := 16) hx hb hts tu_X8 hown hSt.1 hP 0 rfl rfl 12 (by decide) (hts _ t3_232) (fun _ h9 => h9) rfl dX8_nextZone_1 ?_
  refine lv_iload_n hx hb dX8_nextZone_4 rfl (lv_at hl 1 rfl) ?_
  refine r_iald hx hb hSt.1 hP 11 0 rfl rfl (k := t) (by omega) (by omega) dX8_nextZone_5 ?_
  refine lv_as (y := tI y) (htt) ?_
  refine lv_iconst (v := nI 1) hx hb dX8_nextZone_6 (by decide) ?_
  refine lv_iadd hx hb dX8_nextZone_7 ?_
  refine lv_as (y := nI y) (tI_1) ?_
  refine lv_istore_n (lv' := [(2, .int (nI y)), (0, .ref (mx 0)), (1, .int (nI t))]) hx hb dX8_nextZone_8 rfl hl (by decide) rfl (fun ls hl => ?_)
  have L9 : ∀ (n9 : Nat) (z : Nat), (z ≤ nz) → (nxZ (okZ (fun t9 z9 => n t9 ≤ d z9) g t) (nz - y) y = nxZ (okZ (fun t9 z9 => n t9 ≤ d z9) g t) (nz - z) z) → (nz - z) < n9 → ∀ (ls : Array Slot), lv_has ls 5 [(0, .ref (mx 0)), (1, .int (nI t)), (2, .int (nI z))] → W p l e ({ frames := 2, cells := 0, slots := 0, locals := 45 } : Room) s m ([.ref (mx 0), .int (nI t)] : List Value).toArray below meth c s.heap [] 0 0 (MQ below (vp_Si (fun r9 => r9 = zI (nxZ (okZ (fun t9 z9 => n t9 ≤ d z9) g t) (nz - y) y))) ([.ref (mx 0), .int (nI t)] : List Value).toArray s 0 0 (fun _ => False)) (F0 m 9 ls []) := by
    intro n9
    induction n9 with
    | zero =>
      intro z hz hnx hm
      exact absurd hm (by omega)
    | succ n9 ih =>
      intro z hz hnx hm ls hl
      have ih_L9 := ih
      refine lv_iload_n hx hb dX8_nextZone_9 rfl (lv_at hl 2 rfl) ?_
      refine lv_aload_n hx hb dX8_nextZone_10 rfl (lv_at hl 0 rfl) ?_
      refine va_get (D := D) (ci := 8) (v := .int (nI nz)) (C := RX8) (T := TX8) (N := 16) hx hb hts tu_X8 hown hSt.1 hP 0 rfl rfl 1 (by decide) (hts _ t3_221) (fun _ h9 => h9) rfl dX8_nextZone_11 ?_
      refine lv_icmp_ge (tgt := 72) hx hb dX8_nextZone_14 (by decide) (fun c_1 => ?_) (fun c_1 => ?_)
      · have c_1 := z_le (by omega) (by omega) c_1
        refine lv_iconst (v := (-1 : Int32)) hx hb dX8_nextZone_72 (by decide) ?_
        exact W.iret (v := (-1 : Int32)) hx hb hr (fun t9 ht9 hW9 => ⟨_, rfl, (by rw [hnx, show nz - z = 0 by omega]; rfl), ht9⟩) (fun q h => nomatch h) dX8_nextZone_73
      · have c_1 := z_nle (by omega) (by omega) c_1
        refine lv_aload_n hx hb dX8_nextZone_17 rfl (lv_at hl 0 rfl) ?_
        refine lv_iload_n hx hb dX8_nextZone_18 rfl (lv_at hl 1 rfl) ?_
        refine lv_iload_n hx hb dX8_nextZone_19 rfl (lv_at hl 2 rfl) ?_
        refine ro_V (As := [.int (nI t), .int (nI z)]) (rest := []) (v := bI (n t ≤ d z)) ⟨hx, hb, hml, hown, hts⟩ (c_X8_fits l D cI cZ cQ cJ mx w nz q d nt pr mw mt zo ke wy st tr be ch th pp n t z (by first | assumption | omega) (by first | assumption | omega) (by first | assumption | omega) (by first | assumption | omega) (by first | assumption | omega)) (gV t4_103 t4_105 t0_27 t1_10 t4_106) rfl rfl hd_X8_fits ⟨Nat.le_of_ble_eq_true rfl, Nat.le_of_ble_eq_true rfl⟩ hP hSt (va_recv hSt.1 hP (ci := 8) (q0 := 0) rfl rfl) rfl hl.1 rfl (Nat.le_of_ble_eq_true rfl) dX8_nextZone_20 (Nat.zero_le _) (Nat.zero_le _) ?_
        refine lv_istore_n (lv' := [(3, .int (bI (n t ≤ d z))), (0, .ref (mx 0)), (1, .int (nI t)), (2, .int (nI z))]) hx hb dX8_nextZone_23 rfl hl (by decide) rfl (fun ls hl => ?_)
        refine lv_iconst (v := nI 0) hx hb dX8_nextZone_24 (by decide) ?_
        refine lv_istore (lv' := [(4, .int (nI 0)), (3, .int (bI (n t ≤ d z))), (0, .ref (mx 0)), (1, .int (nI t)), (2, .int (nI z))]) hx hb dX8_nextZone_25 hl (by decide) rfl (fun ls hl => ?_)
        have L27 : ∀ (n9 : Nat) (k : Nat) (c9 : Int32), (k ≤ t) → ((c9 = 1 ∧ (n t ≤ d z ∧ ∀ j, j < k → g j ≠ z)) ∨ (c9 = 0 ∧ ¬ (n t ≤ d z ∧ ∀ j, j < k → g j ≠ z))) → (t - k) < n9 → ∀ (ls : Array Slot), lv_has ls 5 [(0, .ref (mx 0)), (1, .int (nI t)), (2, .int (nI z)), (3, .int c9), (4, .int (nI k))] → W p l e ({ frames := 2, cells := 0, slots := 0, locals := 45 } : Room) s m ([.ref (mx 0), .int (nI t)] : List Value).toArray below meth c s.heap [] 0 0 (MQ below (vp_Si (fun r9 => r9 = zI (nxZ (okZ (fun t9 z9 => n t9 ≤ d z9) g t) (nz - y) y))) ([.ref (mx 0), .int (nI t)] : List Value).toArray s 0 0 (fun _ => False)) (F0 m 27 ls []) := by
          intro n9
          induction n9 with
          | zero =>
            intro k c9 hk hc9 hm
            exact absurd hm (by omega)
          | succ n9 ih =>
            intro k c9 hk hc9 hm ls hl
            have ih_L27 := ih
            refine lv_iload hx hb dX8_nextZone_27 (lv_at hl 4 rfl) ?_
            refine lv_iload_n hx hb dX8_nextZone_29 rfl (lv_at hl 1 rfl) ?_
            refine lv_icmp_ge (tgt := 60) hx hb dX8_nextZone_30 (by decide) (fun c_2 => ?_) (fun c_2 => ?_)
            · have c_2 := z_le (by omega) (by omega) c_2
              refine lv_iload_n hx hb dX8_nextZone_60 rfl (lv_at hl 3 rfl) ?_
              refine lv_if_eq (tgt := 66) hx hb dX8_nextZone_61 (by decide) (fun c_3 => ?_) (fun c_3 => ?_)
              · refine lv_iinc (v := nI (z + 1)) (lv' := [(2, .int (nI (z + 1))), (0, .ref (mx 0)), (1, .int (nI t)), (3, .int c9), (4, .int (nI k))]) hx hb dX8_nextZone_66 hl (k := 2) rfl (z_inc _) (by decide) rfl (fun ls hl => ?_)
                refine lv_goto (tgt := 9) hx hb dX8_nextZone_69 (by decide) ?_
                exact ih_L9 (z + 1) (by omega) (by rw [hnx, show nz - z = (nz - (z + 1)) + 1 by omega]; exact nxZ_f (fun q9 => hc9.elim (fun q8 => absurd (q8.1.symm.trans c_3) (by decide)) (fun q8 => q8.2 ⟨q9.1, fun j hj => q9.2 j (by omega)⟩))) (by omega) _ (lv_sub hl [1, 2, 0] rfl)
              · refine lv_iload_n hx hb dX8_nextZone_64 rfl (lv_at hl 2 rfl) ?_
                exact W.iret (v := nI z) hx hb hr (fun t9 ht9 hW9 => ⟨_, rfl, (by rw [hnx, show nz - z = (nz - (z + 1)) + 1 by omega, nxZ_t (hc9.elim (fun q8 => ⟨q8.2.1, fun j hj => q8.2.2 j (by omega)⟩) (fun q8 => absurd q8.1 c_3)), zI_lt (by omega)]), ht9⟩) (fun q h => nomatch h) dX8_nextZone_65
            · have c_2 := z_nle (by omega) (by omega) c_2
              refine lv_iload_n hx hb dX8_nextZone_33 rfl (lv_at hl 3 rfl) ?_
              refine lv_if_eq (tgt := 52) hx hb dX8_nextZone_34 (by decide) (fun c_4 => ?_) (fun c_4 => ?_)
              · refine lv_iconst (v := nI 0) hx hb dX8_nextZone_52 (by decide) ?_
                refine lv_istore_n (lv' := [(3, .int (nI 0)), (0, .ref (mx 0)), (1, .int (nI t)), (2, .int (nI z)), (4, .int (nI k))]) hx hb dX8_nextZone_53 rfl hl (by decide) rfl (fun ls hl => ?_)
                refine lv_iinc (v := nI (k + 1)) (lv' := [(4, .int (nI (k + 1))), (3, .int (nI 0)), (0, .ref (mx 0)), (1, .int (nI t)), (2, .int (nI z))]) hx hb dX8_nextZone_54 hl (k := 4) rfl (z_inc _) (by decide) rfl (fun ls hl => ?_)
                refine lv_goto (tgt := 27) hx hb dX8_nextZone_57 (by decide) ?_
                exact ih_L27 (k + 1) (nI 0) (by omega) (Or.inr ⟨rfl, fun q9 => hc9.elim (fun q8 => absurd (q8.1.symm.trans c_4) (by decide)) (fun q8 => q8.2 ⟨q9.1, fun j hj => q9.2 j (by omega)⟩)⟩) (by omega) _ (lv_sub hl [2, 3, 4, 1, 0] rfl)
              · refine lv_aload_n hx hb dX8_nextZone_37 rfl (lv_at hl 0 rfl) ?_
                refine va_get (D := D) (ci := 8) (v := .ref (mx 11)) (C := RX8) (T := TX8) (N := 16) hx hb hts tu_X8 hown hSt.1 hP 0 rfl rfl 12 (by decide) (hts _ t3_232) (fun _ h9 => h9) rfl dX8_nextZone_38 ?_
                have hgk := hgb k (by omega)
                refine lv_iload hx hb dX8_nextZone_41 (lv_at hl 4 rfl) ?_
                refine r_iald hx hb hSt.1 hP 11 0 rfl rfl (k := k) (by omega) (by omega) dX8_nextZone_43 ?_
                refine lv_as (y := nI (g k)) (htr k (by omega)) ?_
                refine lv_iload_n hx hb dX8_nextZone_44 rfl (lv_at hl 2 rfl) ?_
                refine lv_icmp_eq (tgt := 52) hx hb dX8_nextZone_45 (by decide) (fun c_5 => ?_) (fun c_5 => ?_)
                · have c_5 := z_eq (by omega) (by omega) c_5
                  refine lv_iconst (v := nI 0) hx hb dX8_nextZone_52 (by decide) ?_
                  refine lv_istore_n (lv' := [(3, .int (nI 0)), (0, .ref (mx 0)), (1, .int (nI t)), (2, .int (nI z)), (4, .int (nI k))]) hx hb dX8_nextZone_53 rfl hl (by decide) rfl (fun ls hl => ?_)
                  refine lv_iinc (v := nI (k + 1)) (lv' := [(4, .int (nI (k + 1))), (3, .int (nI 0)), (0, .ref (mx 0)), (1, .int (nI t)), (2, .int (nI z))]) hx hb dX8_nextZone_54 hl (k := 4) rfl (z_inc _) (by decide) rfl (fun ls hl => ?_)
                  refine lv_goto (tgt := 27) hx hb dX8_nextZone_57 (by decide) ?_
                  exact ih_L27 (k + 1) (nI 0) (by omega) (Or.inr ⟨rfl, fun q9 => q9.2 k (by omega) c_5⟩) (by omega) _ (lv_sub hl [2, 3, 4, 1, 0] rfl)
                · have c_5 := z_ne (by omega) (by omega) c_5
                  refine lv_iconst (v := nI 1) hx hb dX8_nextZone_48 (by decide) ?_
                  refine lv_goto (tgt := 53) hx hb dX8_nextZone_49 (by decide) ?_
                  refine lv_istore_n (lv' := [(3, .int (nI 1)), (0, .ref (mx 0)), (1, .int (nI t)), (2, .int (nI z)), (4, .int (nI k))]) hx hb dX8_nextZone_53 rfl hl (by decide) rfl (fun ls hl => ?_)
                  refine lv_iinc (v := nI (k + 1)) (lv' := [(4, .int (nI (k + 1))), (3, .int (nI 1)), (0, .ref (mx 0)), (1, .int (nI t)), (2, .int (nI z))]) hx hb dX8_nextZone_54 hl (k := 4) rfl (z_inc _) (by decide) rfl (fun ls hl => ?_)
                  refine lv_goto (tgt := 27) hx hb dX8_nextZone_57 (by decide) ?_
                  exact ih_L27 (k + 1) (nI 1) (by omega) (Or.inl ⟨rfl, hc9.elim (fun q8 => ⟨q8.2.1, fun j hj => if e : j = k then (by rw [e]; exact c_5) else q8.2.2 j (by omega)⟩) (fun q8 => absurd q8.1 c_4)⟩) (by omega) _ (lv_sub hl [2, 3, 4, 1, 0] rfl)
        exact L27 _ 0 (bI (n t ≤ d z)) (by omega) (by by_cases e : n t ≤ d z; exact Or.inl ⟨bI_t e, e, fun j hj => absurd hj (by omega)⟩; exact Or.inr ⟨bI_f e, fun q9 => e q9.1⟩) (Nat.lt_succ_self _) _ (lv_sub hl [2, 3, 4, 1, 0] rfl)
  exact L9 _ y (by omega) rfl (Nat.lt_succ_self _) _ (lv_sub hl [1, 2, 0] rfl)
theorem hd_X8_nextZone : yX8_nextZone.cls = RX8 ∧ yX8_nextZone.cls ≠ "java/lang/invoke/MethodHandle" ∧ yX8_nextZone.cls ≠ "java/lang/invoke/VarHandle" ∧ (parseMethodDescriptor yX8_nextZone.desc).map (fun d => d.parameters.length) = some 1 := by decide +kernel
set_option maxHeartbeats 4000000 in
set_option maxRecDepth 100000 in
theorem c_X8_tries (l : Launch) (D : va_G) (cI cZ cQ cJ : ClassId) (mx : Nat → Nat) (w : Nat → Int32) (nz : Nat) (q : Nat → Int32) (d : Nat → Int32) (nt : Nat) (pr : Nat → Int32) (mw : Nat → Int32) (mt : Nat → Int32) (zo : Nat → Int32) (ke : Nat → Int32) (wy : Nat → Int32) (st : Nat → Int32) (tr : Nat → Int32) (be : Nat → Int32) (ch : Nat → Int32) (th : Int32) (pp : Nat → Nat → Nat) (n : Nat → Int32) (wi : Nat → Nat → Nat) (ti : Nat → Nat → Nat) (dd : Nat → Nat → Nat) (sq : Nat → Nat) (wb : Bool) (sz : Nat) (hnz : nz ≤ 7) (hnt : nt ≤ 7) (hpr : ∀ t, t < nt → ∀ j, j < 5 → pr (5 * t + j) = nI (pp t j) ∧ pp t j ≤ 60) (hnn : ∀ t, t < nt → n t = nI (ndN (pp t))) (hmw : ∀ t z, t < 7 → z < 7 → mw (7 * t + z) = nI (wi t z)) (hmt : ∀ t o, t < 7 → o < 7 → mt (7 * t + o) = nI (ti t o)) (hq : ∀ o, o < nz → q o = nI (sq o) ∧ sq o < 64 ∧ w (sq o) = 0) (hdD : ∀ u v, u < nz → v < nz → isD w (sq u) (sq v) (nI (dd u v))) (hv : vOK nz wi ti dd) : Met l yX8_tries (.code yX8_tries cX8_tries 6 (some .int) :: ALL) ({ frames := 5, cells := 0, slots := 0, locals := 112 } : Room) (va_Pc [.ref (mx 0), .int (bB wb)] (rw_P D cI cZ cQ cJ (wMo mx cI cZ w (nI nz) q d (nI nt) pr mw mt zo ke wy st tr be ch th) sz)) (va_Qi (fun (r9 : Int32) (u9 : (Nat → Int32) × (Nat → Int32) × (Nat → Int32) × (Nat → Int32) × Nat) => (r9 = (lI u9.2.2.2.2)) ∧ (SR nt (fun g9 => pcN wb wi ti dd g9 nt) (cmp nz nt (fun t9 z9 => n t9 ≤ d z9)) 1000000 be u9.2.2.2.2 u9.2.2.2.1)) (rw_B D (va_A (wMo mx cI cZ w (nI nz) q d (nI nt) pr mw mt zo ke wy st tr be ch th) sz) (fun u9 : (Nat → Int32) × (Nat → Int32) × (Nat → Int32) × (Nat → Int32) × Nat => wMo mx cI cZ w (nI nz) q d (nI nt) pr mw mt zo ke u9.1 u9.2.1 u9.2.2.1 u9.2.2.2.1 ch th)) (va_A (wMo mx cI cZ w (nI nz) q d (nI nt) pr mw mt zo ke wy st tr be ch th) sz)) 0 0 (va_A (wMo mx cI cZ w (nI nz) q d (nI nt) pr mw mt zo ke wy st tr be ch th) sz) := by
  refine Met.ofW (cc := cX8_tries) (maxL := 6) (ret := (some .int)) (by decide) rfl ?_
  intro p e s m args below meth c s₁ B hml hv
  obtain ⟨rfl, hsz, hP, hSt, hD0⟩ := hv
  have hx := B.exec
  have hb := B.bytes
  have hr := B.returns
  have hts : ∀ w ∈ ALL, w.before ([.ref (mx 0), .int (bB wb)] : List Value).toArray s = true := fun w h => atoms_spec (ws := (.code yX8_tries cX8_tries 6 (some .int) :: ALL)) B.pre w (List.mem_cons_of_mem _ h)
  have hown : s.vm.findClass RX8 = some m.cls := findClass_of_methodNamed B.named
  have hlocks := B.notSynchronized
  subst hsz
  have hD := hD0.self (sz := s.heap.size)
  clear hD0
  generalize hAe : va_A (wMo mx cI cZ w (nI nz) q d (nI nt) pr mw mt zo ke wy st tr be ch th) s.heap.size = A at hD ⊢
  have hA : ∀ q : Nat, s.heap.size ≤ q → A q := fun q h => by rw [← hAe]; exact Or.inr h
  have hS : va_S A s.heap s.heap [] := va_S.rf
  have hl := lv_entry ([.ref (mx 0), .int (bB wb)]) (n := 6) (Nat.le_of_ble_eq_true rfl)
  rw [lg_entry_eq]
  generalize (lg_sl ([.ref (mx 0), .int (bB wb)]) ++ List.replicate (6 - (lg_sl ([.ref (mx 0), .int (bB wb)])).length) Slot.unset).toArray = ls at hl ⊢
  have hl : lv_has ls 6 [(0, .ref (mx 0)), (1, .int (bB wb))] := hl
  obtain ⟨H, hHe⟩ : ∃ H : Heap, H = s.heap := ⟨_, rfl⟩
  obtain ⟨locs, hLe⟩ : ∃ L : List Loc, L = [] := ⟨_, rfl⟩
  have hP : va_P D vwCl (wMo mx cI cZ w (nI nz) q d (nI nt) pr mw mt zo ke wy st tr be ch th) H := by rw [hHe]; exact hP
  have hS : va_S A s.heap H locs := by rw [hHe, hLe]; exact hS
  refine W.eqHL hHe hLe ?_
  refine lv_iconst (v := (-1 : Int32)) hx hb dX8_tries_0 (by decide) ?_
  refine lv_istore_n (lv' := [(2, .int (-1 : Int32)), (0, .ref (mx 0)), (1, .int (bB wb))]) hx hb dX8_tries_1 rfl hl (by decide) rfl (fun ls hl => ?_)
  refine lv_iconst (v := nI 0) hx hb dX8_tries_2 (by decide) ?_
  refine lv_istore_n (lv' := [(3, .int (nI 0)), (2, .int (-1 : Int32)), (0, .ref (mx 0)), (1, .int (bB wb))]) hx hb dX8_tries_3 rfl hl (by decide) rfl (fun ls hl => ?_)
  refine lv_aload_n hx hb dX8_tries_4 rfl (lv_at hl 2 rfl) ?_
  refine rw_v (wr := ([] : va_W)) (w_V (As := []) ⟨hx, hb, hml, hown, hts⟩ (c_X8_findsWays l D cI cZ cQ cJ mx w nz q d nt pr mw mt zo ke wy st tr be ch th sq dd H.size (by first | assumption | omega) (by first | assumption | omega) (by first | assumption | omega)) (gV t4_119 t4_121 t0_30 t1_10 t4_122) rfl rfl hd_X8_findsWays ⟨Nat.le_of_ble_eq_true rfl, Nat.le_of_ble_eq_true rfl⟩ (rw_pre hP hD hSt [0, 1, 2, 3, 4, 5, 6, 7, 8, 9, 10, 11, 12, 13] rfl (by decide)) (va_recv hSt.1 hP (ci := 8) (q0 := 0) rfl rfl) rfl hl.1 (rest := []) rfl (Nat.le_of_ble_eq_true rfl) dX8_tries_5 ⟨Nat.le_of_ble_eq_true rfl, Nat.le_of_ble_eq_true rfl⟩) hP hD hS hA [0, 1, 2, 3, 4, 5, 6, 7, 8, 9, 10, 11, 12, 13] [] rfl rfl (by decide) (by decide) (fun  u_3 H locs hw9 hP hD hS => ?_)
  obtain ⟨j_1, j_2⟩ := u_3
  have f_4 := hw9
  have hwy9 : ∀ u v, u < nz → v < nz → j_1 (7 * u + v) = nI (dd u v) := f_4
  have hP : va_P D vwCl (wMo mx cI cZ w (nI nz) q d (nI nt) pr mw mt zo ke j_1 j_2 tr be ch th) H := hP
  have hD : va_D A (wMo mx cI cZ w (nI nz) q d (nI nt) pr mw mt zo ke j_1 j_2 tr be ch th) := hD
  have hl : lv_has ls 6 [(3, .int (nI 0)), (2, .int (lI 1000000)), (0, .ref (mx 0)), (1, .int (bB wb))] := by rw [lI_big]; exact hl
  have hl : lv_has ls 6 [(3, .int (tI (0 + 1))), (2, .int (lI 1000000)), (0, .ref (mx 0)), (1, .int (bB wb))] := by rw [tI_s]; exact hl
  refine lv_aload_n hx hb dX8_tries_8 rfl (lv_at hl 2 rfl) ?_
  refine va_get (D := D) (ci := 8) (v := .ref (mx 11)) (C := RX8) (T := TX8) (N := 16) hx hb hts tu_X8 hown hSt.1 hP 0 rfl rfl 12 (by decide) (hts _ t3_232) (fun _ h9 => h9) rfl dX8_tries_9 ?_
  refine lv_iconst (v := nI 0) hx hb dX8_tries_12 (by decide) ?_
  refine lv_iconst (v := (-1 : Int32)) hx hb dX8_tries_13 (by decide) ?_
  refine r_iast hx hb hSt.1 hP hD hS 11 0 rfl rfl (k := 0) (by omega) (by omega) dX8_tries_14 (fun H locs hP hD hS => ?_)
  have hP : va_P D vwCl (wMo mx cI cZ w (nI nz) q d (nI nt) pr mw mt zo ke j_1 j_2 (upd tr 0 (-1 : Int32)) be ch th) H := hP
  have hD : va_D A (wMo mx cI cZ w (nI nz) q d (nI nt) pr mw mt zo ke j_1 j_2 (upd tr 0 (-1 : Int32)) be ch th) := hD
  have L15 : ∀ (n9 : Nat) (u : Nat) (g1 : Nat → Nat) (y1 : Nat) (k1 : Nat) (tr1 : Nat → Int32) (be1 : Nat → Int32), (k1 ≤ 1000000) → (TI nz nt (fun t9 z9 => n t9 ≤ d z9) (fun g9 => pcN wb wi ti dd g9 nt) be u g1 y1 tr1 k1 be1) → (mz u g1 y1) < n9 → ∀ (H : Heap) (locs : List Loc), va_P D vwCl (wMo mx cI cZ w (nI nz) q d (nI nt) pr mw mt zo ke j_1 j_2 tr1 be1 ch th) H → va_D A (wMo mx cI cZ w (nI nz) q d (nI nt) pr mw mt zo ke j_1 j_2 tr1 be1 ch th) → va_S A s.heap H locs → ∀ (ls : Array Slot), lv_has ls 6 [(0, .ref (mx 0)), (1, .int (bB wb)), (2, .int (lI k1)), (3, .int (tI u))] → W p l e ({ frames := 5, cells := 0, slots := 0, locals := 112 } : Room) s m ([.ref (mx 0), .int (bB wb)] : List Value).toArray below meth c H locs 0 0 (MQ below (va_Qi (fun (r9 : Int32) (u9 : (Nat → Int32) × (Nat → Int32) × (Nat → Int32) × (Nat → Int32) × Nat) => (r9 = (lI u9.2.2.2.2)) ∧ (SR nt (fun g9 => pcN wb wi ti dd g9 nt) (cmp nz nt (fun t9 z9 => n t9 ≤ d z9)) 1000000 be u9.2.2.2.2 u9.2.2.2.1)) (rw_B D A (fun u9 : (Nat → Int32) × (Nat → Int32) × (Nat → Int32) × (Nat → Int32) × Nat => wMo mx cI cZ w (nI nz) q d (nI nt) pr mw mt zo ke u9.1 u9.2.1 u9.2.2.1 u9.2.2.2.1 ch th)) A) ([.ref (mx 0), .int (bB wb)] : List Value).toArray s 0 0 A) (F0 m 15 ls []) := by
    intro n9
    induction n9 with
    | zero =>
      intro u g1 y1 k1 tr1 be1 hk1 hTI hm
      exact absurd hm (by omega)
    | succ n9 ih =>
      intro u g1 y1 k1 tr1 be1 hk1 hTI hm H locs hP hD hS ls hl
      have ih_L15 := ih
      have hm15 := hm
      rcases hTI with ⟨rfl, hfin⟩ | ⟨t, rfl, htn, hty, hyz, hvp, htr, htt, hSR⟩
      · have hl : lv_has ls 6 [(0, .ref (mx 0)), (1, .int (bB wb)), (2, .int (lI k1)), (3, .int (-1 : Int32))] := by rw [← tI_0]; exact hl
        refine lv_iload_n hx hb dX8_tries_15 rfl (lv_at hl 3 rfl) ?_
        refine lv_if_lt (tgt := 152) hx hb dX8_tries_16 (by decide) (fun c_5 => ?_) (fun c_5 => ?_)
        · refine lv_iload_n hx hb dX8_tries_152 rfl (lv_at hl 2 rfl) ?_
          have hP9 : va_P D vwCl (wMo mx cI cZ w (nI nz) q d (nI nt) pr mw mt zo ke j_1 j_2 tr1 be1 ch th) H := hP
          have hD9 : va_D A (wMo mx cI cZ w (nI nz) q d (nI nt) pr mw mt zo ke j_1 j_2 tr1 be1 ch th) := hD
          have g_6 : SR nt (fun g9 => pcN wb wi ti dd g9 nt) (cmp nz nt (fun t9 z9 => n t9 ≤ d z9)) 1000000 be k1 be1 := hfin
          exact W.iret (v := lI k1) hx hb hr (fun t9 ht9 hW9 => ⟨⟨lI k1, (j_1, j_2, tr1, be1, k1), rfl, ⟨rfl, g_6⟩, by rw [ht9]; exact hP9, hD9⟩, hS.F ht9⟩) hS.2.2 dX8_tries_153
        · exact absurd c_5 (by decide)
      · have hl : lv_has ls 6 [(0, .ref (mx 0)), (1, .int (bB wb)), (2, .int (lI k1)), (3, .int (nI t))] := by rw [← tI_s t]; exact hl
        refine lv_iload_n hx hb dX8_tries_15 rfl (lv_at hl 3 rfl) ?_
        refine lv_if_lt (tgt := 152) hx hb dX8_tries_16 (by decide) (fun c_7 => ?_) (fun c_7 => ?_)
        · have c_7 := z_lt (a := t) (b := 0) (by omega) (by omega) c_7
          exact absurd c_7 (by omega)
        · have c_7 := z_nlt (a := t) (b := 0) (by omega) (by omega) c_7
          refine lv_iload_n hx hb dX8_tries_19 rfl (lv_at hl 3 rfl) ?_
          refine lv_aload_n hx hb dX8_tries_20 rfl (lv_at hl 0 rfl) ?_
          refine va_get (D := D) (ci := 8) (v := .int (nI nt)) (C := RX8) (T := TX8) (N := 16) hx hb hts tu_X8 hown hSt.1 hP 0 rfl rfl 4 (by decide) (hts _ t3_224) (fun _ h9 => h9) rfl dX8_tries_21 ?_
          refine lv_icmp_ne (tgt := 104) hx hb dX8_tries_24 (by decide) (fun c_8 => ?_) (fun c_8 => ?_)
          · have c_8 := z_ne (by omega) (by omega) c_8
            refine lv_aload_n hx hb dX8_tries_104 rfl (lv_at hl 0 rfl) ?_
            refine lv_iload_n hx hb dX8_tries_105 rfl (lv_at hl 3 rfl) ?_
            refine ro_V (As := [.int (nI t)]) (rest := []) (v := zI (nxZ (okZ (fun t9 z9 => n t9 ≤ d z9) g1 t) (nz - y1) y1)) ⟨hx, hb, hml, hown, hts⟩ (c_X8_nextZone l D cI cZ cQ cJ mx w nz q d nt pr mw mt zo ke j_1 j_2 tr1 be1 ch th pp n g1 t y1 (by first | assumption | omega) (by first | assumption | omega) (by first | assumption | omega) (by first | assumption | omega) (by omega) htr (fun j hj => by have := (hvp.1 j hj).1; omega) (htt (by omega)) hyz) (gV t4_139 t4_141 t0_35 t1_10 t4_142) rfl rfl hd_X8_nextZone ⟨Nat.le_of_ble_eq_true rfl, Nat.le_of_ble_eq_true rfl⟩ hP hSt (va_recv hSt.1 hP (ci := 8) (q0 := 0) rfl rfl) rfl hl.1 rfl (Nat.le_of_ble_eq_true rfl) dX8_tries_106 (Nat.zero_le _) (Nat.zero_le _) ?_
            obtain ⟨r9, hr9⟩ : ∃ r9, nxZ (okZ (fun t9 z9 => n t9 ≤ d z9) g1 t) (nz - y1) y1 = r9 := ⟨_, rfl⟩
            have his := nxZ_is (ok := okZ (fun t9 z9 => n t9 ≤ d z9) g1 t) (nz := nz) (nz - y1) y1 rfl
            rw [hr9] at his
            refine lv_as (y := zI r9) (by rw [hr9]) ?_
            refine lv_istore (lv' := [(4, .int (zI r9)), (0, .ref (mx 0)), (1, .int (bB wb)), (2, .int (lI k1)), (3, .int (nI t))]) hx hb dX8_tries_109 hl (by decide) rfl (fun ls hl => ?_)
            refine lv_aload_n hx hb dX8_tries_111 rfl (lv_at hl 1 rfl) ?_
            refine va_get (D := D) (ci := 8) (v := .ref (mx 11)) (C := RX8) (T := TX8) (N := 16) hx hb hts tu_X8 hown hSt.1 hP 0 rfl rfl 12 (by decide) (hts _ t3_232) (fun _ h9 => h9) rfl dX8_tries_112 ?_
            refine lv_iload_n hx hb dX8_tries_115 rfl (lv_at hl 4 rfl) ?_
            refine lv_iload hx hb dX8_tries_116 (lv_at hl 0 rfl) ?_
            refine r_iast hx hb hSt.1 hP hD hS 11 0 rfl rfl (k := t) (by omega) (by omega) dX8_tries_118 (fun H locs hP hD hS => ?_)
            have hP : va_P D vwCl (wMo mx cI cZ w (nI nz) q d (nI nt) pr mw mt zo ke j_1 j_2 (upd tr1 t (zI r9)) be1 ch th) H := hP
            have hD : va_D A (wMo mx cI cZ w (nI nz) q d (nI nt) pr mw mt zo ke j_1 j_2 (upd tr1 t (zI r9)) be1 ch th) := hD
            refine lv_iload hx hb dX8_tries_119 (lv_at hl 0 rfl) ?_
            refine lv_iconst (v := (-1 : Int32)) hx hb dX8_tries_121 (by decide) ?_
            refine lv_icmp_ne (tgt := 131) hx hb dX8_tries_122 (by decide) (fun c_9 => ?_) (fun c_9 => ?_)
            · have hr7 := zI_some c_9
              have hrz := his.resolve_left (fun q9 => by omega)
              refine lv_iinc (v := nI (t + 1)) (lv' := [(3, .int (nI (t + 1))), (4, .int (zI r9)), (0, .ref (mx 0)), (1, .int (bB wb)), (2, .int (lI k1))]) hx hb dX8_tries_131 hl (k := 4) rfl (z_inc _) (by decide) rfl (fun ls hl => ?_)
              refine lv_iload_n hx hb dX8_tries_134 rfl (lv_at hl 0 rfl) ?_
              refine lv_aload_n hx hb dX8_tries_135 rfl (lv_at hl 2 rfl) ?_
              refine va_get (D := D) (ci := 8) (v := .int (nI nt)) (C := RX8) (T := TX8) (N := 16) hx hb hts tu_X8 hown hSt.1 hP 0 rfl rfl 4 (by decide) (hts _ t3_224) (fun _ h9 => h9) rfl dX8_tries_136 ?_
              refine lv_icmp_ge (tgt := 149) hx hb dX8_tries_139 (by decide) (fun c_10 => ?_) (fun c_10 => ?_)
              · have c_10 := z_le (by omega) (by omega) c_10
                have hl : lv_has ls 6 [(3, .int (tI (t + 1 + 1))), (4, .int (zI r9)), (0, .ref (mx 0)), (1, .int (bB wb)), (2, .int (lI k1))] := by rw [tI_s (t + 1)]; exact hl
                refine lv_goto (tgt := 15) hx hb dX8_tries_149 (by decide) ?_
                exact ih_L15 (t + 1 + 1) (updN g1 t r9) 0 k1 (upd tr1 t (zI r9)) be1 (by omega) (Or.inr ⟨t + 1, rfl, by omega, fun _ => rfl, Nat.zero_le _, vP_next hvp hrz.1 hrz.2.2.1.1 hrz.2.2.1.2, fun j hj => if e : j = t then (by rw [e, pk_us, updN_s, zI_lt hr7]) else (by rw [pk_un e, updN_n _ _ e]; exact htr j (by omega)), fun q9 => absurd q9 (by omega), Vs_down (by omega) hrz.2.1 hrz.2.2.2 hSR⟩) (Nat.lt_of_lt_of_le (mz_down (by omega) (fun j hj => by have := (hvp.1 j hj).1; omega) (by omega) hrz.2.1) (Nat.le_of_lt_succ hm15)) _ _ hP hD hS _ (lv_sub hl [2, 3, 4, 0] rfl)
              · have c_10 := z_nle (by omega) (by omega) c_10
                refine lv_aload_n hx hb dX8_tries_142 rfl (lv_at hl 2 rfl) ?_
                refine va_get (D := D) (ci := 8) (v := .ref (mx 11)) (C := RX8) (T := TX8) (N := 16) hx hb hts tu_X8 hown hSt.1 hP 0 rfl rfl 12 (by decide) (hts _ t3_232) (fun _ h9 => h9) rfl dX8_tries_143 ?_
                refine lv_iload_n hx hb dX8_tries_146 rfl (lv_at hl 0 rfl) ?_
                refine lv_iconst (v := (-1 : Int32)) hx hb dX8_tries_147 (by decide) ?_
                refine r_iast hx hb hSt.1 hP hD hS 11 0 rfl rfl (k := (t + 1)) (by omega) (by omega) dX8_tries_148 (fun H locs hP hD hS => ?_)
                have hP : va_P D vwCl (wMo mx cI cZ w (nI nz) q d (nI nt) pr mw mt zo ke j_1 j_2 (upd (upd tr1 t (zI r9)) (t + 1) (-1 : Int32)) be1 ch th) H := hP
                have hD : va_D A (wMo mx cI cZ w (nI nz) q d (nI nt) pr mw mt zo ke j_1 j_2 (upd (upd tr1 t (zI r9)) (t + 1) (-1 : Int32)) be1 ch th) := hD
                have hl : lv_has ls 6 [(3, .int (tI (t + 1 + 1))), (4, .int (zI r9)), (0, .ref (mx 0)), (1, .int (bB wb)), (2, .int (lI k1))] := by rw [tI_s (t + 1)]; exact hl
                refine lv_goto (tgt := 15) hx hb dX8_tries_149 (by decide) ?_
                exact ih_L15 (t + 1 + 1) (updN g1 t r9) 0 k1 (upd (upd tr1 t (zI r9)) (t + 1) (-1 : Int32)) be1 (by omega) (Or.inr ⟨t + 1, rfl, by omega, fun _ => rfl, Nat.zero_le _, vP_next hvp hrz.1 hrz.2.2.1.1 hrz.2.2.1.2, fun j hj => if e : j = t then (by rw [e, pk_un (show t ≠ t + 1 by omega), pk_us, updN_s, zI_lt hr7]) else (by rw [pk_un (show j ≠ t + 1 by omega), pk_un e, updN_n _ _ e]; exact htr j (by omega)), fun _ => pk_us, Vs_down (by omega) hrz.2.1 hrz.2.2.2 hSR⟩) (Nat.lt_of_lt_of_le (mz_down (by omega) (fun j hj => by have := (hvp.1 j hj).1; omega) (by omega) hrz.2.1) (Nat.le_of_lt_succ hm15)) _ _ hP hD hS _ (lv_sub hl [2, 3, 4, 0] rfl)
            · have h7 := zI_none c_9
              have hno : ∀ z, y1 ≤ z → z < nz → ¬ okZ (fun t9 z9 => n t9 ≤ d z9) g1 t z := his.elim (fun q9 => q9.2) (fun q9 => absurd q9.1 (by omega))
              refine lv_iinc (v := tI t) (lv' := [(3, .int (tI t)), (4, .int (zI r9)), (0, .ref (mx 0)), (1, .int (bB wb)), (2, .int (lI k1))]) hx hb dX8_tries_125 hl (k := 4) rfl (z_dec _) (by decide) rfl (fun ls hl => ?_)
              refine lv_goto (tgt := 149) hx hb dX8_tries_128 (by decide) ?_
              refine lv_goto (tgt := 15) hx hb dX8_tries_149 (by decide) ?_
              exact ih_L15 t g1 (bkY g1 t) k1 (upd tr1 t (zI r9)) be1 (by omega) (TI_back (by omega) hvp (fun j hj => by rw [pk_un (show j ≠ t by omega)]; exact htr j hj) (Vs_none (by omega) hno hSR)) (Nat.lt_of_lt_of_le (mz_back (by omega) hnz hvp (by omega)) (Nat.le_of_lt_succ hm15)) _ _ hP hD hS _ (lv_sub hl [2, 3, 4, 0] rfl)
          · have c_8 := z_eq (by omega) (by omega) c_8
            have e9 : nt = t := (c_8).symm
            subst e9
            have e8 := hty rfl
            subst e8
            have hpk : pOK nt tr1 g1 := fun j hj => by rw [htr j hj, zI_lt (by have := (hvp.1 j hj).1; omega)]
            have hgk : gOK nz nt g1 := fun j hj => Or.inl (hvp.1 j hj).1
            refine lv_iload_n hx hb dX8_tries_27 rfl (lv_at hl 1 rfl) ?_
            have L52 : ∀ (c1 : Nat), (c1 = pcN wb wi ti dd g1 nt) → ∀ (H : Heap) (locs : List Loc), va_P D vwCl (wMo mx cI cZ w (nI nz) q d (nI nt) pr mw mt zo ke j_1 j_2 tr1 be1 ch th) H → va_D A (wMo mx cI cZ w (nI nz) q d (nI nt) pr mw mt zo ke j_1 j_2 tr1 be1 ch th) → va_S A s.heap H locs → ∀ (ls : Array Slot), lv_has ls 6 [(0, .ref (mx 0)), (1, .int (bB wb)), (2, .int (lI k1)), (3, .int (nI nt)), (4, .int (nI c1))] → W p l e ({ frames := 5, cells := 0, slots := 0, locals := 112 } : Room) s m ([.ref (mx 0), .int (bB wb)] : List Value).toArray below meth c H locs 0 0 (MQ below (va_Qi (fun (r9 : Int32) (u9 : (Nat → Int32) × (Nat → Int32) × (Nat → Int32) × (Nat → Int32) × Nat) => (r9 = (lI u9.2.2.2.2)) ∧ (SR nt (fun g9 => pcN wb wi ti dd g9 nt) (cmp nz nt (fun t9 z9 => n t9 ≤ d z9)) 1000000 be u9.2.2.2.2 u9.2.2.2.1)) (rw_B D A (fun u9 : (Nat → Int32) × (Nat → Int32) × (Nat → Int32) × (Nat → Int32) × Nat => wMo mx cI cZ w (nI nz) q d (nI nt) pr mw mt zo ke u9.1 u9.2.1 u9.2.2.1 u9.2.2.2.1 ch th)) A) ([.ref (mx 0), .int (bB wb)] : List Value).toArray s 0 0 A) (F0 m 52 ls []) := by
              intro c1 hc1 H locs hP hD hS ls hl
              have hc9 : c1 ≤ 50000 := by rw [hc1]; exact pcN_le hv hgk hnt hnz
              have L63 : (c1 < k1) → ∀ (H : Heap) (locs : List Loc), va_P D vwCl (wMo mx cI cZ w (nI nz) q d (nI nt) pr mw mt zo ke j_1 j_2 tr1 be1 ch th) H → va_D A (wMo mx cI cZ w (nI nz) q d (nI nt) pr mw mt zo ke j_1 j_2 tr1 be1 ch th) → va_S A s.heap H locs → ∀ (ls : Array Slot), lv_has ls 6 [(0, .ref (mx 0)), (1, .int (bB wb)), (3, .int (nI nt)), (4, .int (nI c1))] → W p l e ({ frames := 5, cells := 0, slots := 0, locals := 112 } : Room) s m ([.ref (mx 0), .int (bB wb)] : List Value).toArray below meth c H locs 0 0 (MQ below (va_Qi (fun (r9 : Int32) (u9 : (Nat → Int32) × (Nat → Int32) × (Nat → Int32) × (Nat → Int32) × Nat) => (r9 = (lI u9.2.2.2.2)) ∧ (SR nt (fun g9 => pcN wb wi ti dd g9 nt) (cmp nz nt (fun t9 z9 => n t9 ≤ d z9)) 1000000 be u9.2.2.2.2 u9.2.2.2.1)) (rw_B D A (fun u9 : (Nat → Int32) × (Nat → Int32) × (Nat → Int32) × (Nat → Int32) × Nat => wMo mx cI cZ w (nI nz) q d (nI nt) pr mw mt zo ke u9.1 u9.2.1 u9.2.2.1 u9.2.2.2.1 ch th)) A) ([.ref (mx 0), .int (bB wb)] : List Value).toArray s 0 0 A) (F0 m 63 ls []) := by
                intro hck H locs hP hD hS ls hl
                refine lv_iload hx hb dX8_tries_63 (lv_at hl 3 rfl) ?_
                refine lv_istore_n (lv' := [(2, .int (nI c1)), (0, .ref (mx 0)), (1, .int (bB wb)), (3, .int (nI nt)), (4, .int (nI c1))]) hx hb dX8_tries_65 rfl hl (by decide) rfl (fun ls hl => ?_)
                refine lv_iconst (v := nI 0) hx hb dX8_tries_66 (by decide) ?_
                refine lv_istore (lv' := [(5, .int (nI 0)), (2, .int (nI c1)), (0, .ref (mx 0)), (1, .int (bB wb)), (3, .int (nI nt)), (4, .int (nI c1))]) hx hb dX8_tries_67 hl (by decide) rfl (fun ls hl => ?_)
                have L69 : ∀ (n9 : Nat) (j : Nat) (be3 : Nat → Int32), (j ≤ nt) → (∀ i, i < j → be3 i = tr1 i) → (nt - j) < n9 → ∀ (H : Heap) (locs : List Loc), va_P D vwCl (wMo mx cI cZ w (nI nz) q d (nI nt) pr mw mt zo ke j_1 j_2 tr1 be3 ch th) H → va_D A (wMo mx cI cZ w (nI nz) q d (nI nt) pr mw mt zo ke j_1 j_2 tr1 be3 ch th) → va_S A s.heap H locs → ∀ (ls : Array Slot), lv_has ls 6 [(0, .ref (mx 0)), (1, .int (bB wb)), (2, .int (nI c1)), (3, .int (nI nt)), (5, .int (nI j))] → W p l e ({ frames := 5, cells := 0, slots := 0, locals := 112 } : Room) s m ([.ref (mx 0), .int (bB wb)] : List Value).toArray below meth c H locs 0 0 (MQ below (va_Qi (fun (r9 : Int32) (u9 : (Nat → Int32) × (Nat → Int32) × (Nat → Int32) × (Nat → Int32) × Nat) => (r9 = (lI u9.2.2.2.2)) ∧ (SR nt (fun g9 => pcN wb wi ti dd g9 nt) (cmp nz nt (fun t9 z9 => n t9 ≤ d z9)) 1000000 be u9.2.2.2.2 u9.2.2.2.1)) (rw_B D A (fun u9 : (Nat → Int32) × (Nat → Int32) × (Nat → Int32) × (Nat → Int32) × Nat => wMo mx cI cZ w (nI nz) q d (nI nt) pr mw mt zo ke u9.1 u9.2.1 u9.2.2.1 u9.2.2.2.1 ch th)) A) ([.ref (mx 0), .int (bB wb)] : List Value).toArray s 0 0 A) (F0 m 69 ls []) := by
                  intro n9
                  induction n9 with
                  | zero =>
                    intro j be3 hj hb3 hm
                    exact absurd hm (by omega)
                  | succ n9 ih =>
                    intro j be3 hj hb3 hm H locs hP hD hS ls hl
                    have ih_L69 := ih
                    refine lv_iload hx hb dX8_tries_69 (lv_at hl 4 rfl) ?_
                    refine lv_aload_n hx hb dX8_tries_71 rfl (lv_at hl 0 rfl) ?_
                    refine va_get (D := D) (ci := 8) (v := .int (nI nt)) (C := RX8) (T := TX8) (N := 16) hx hb hts tu_X8 hown hSt.1 hP 0 rfl rfl 4 (by decide) (hts _ t3_224) (fun _ h9 => h9) rfl dX8_tries_72 ?_
                    refine lv_icmp_ge (tgt := 98) hx hb dX8_tries_75 (by decide) (fun c_11 => ?_) (fun c_11 => ?_)
                    · have c_11 := z_le (by omega) (by omega) c_11
                      have hl : lv_has ls 6 [(0, .ref (mx 0)), (1, .int (bB wb)), (2, .int (lI c1)), (3, .int (nI nt)), (5, .int (nI j))] := by rw [lI_lt (show c1 < 1000000 by omega)]; exact hl
                      refine lv_iinc (v := tI nt) (lv' := [(3, .int (tI nt)), (0, .ref (mx 0)), (1, .int (bB wb)), (2, .int (lI c1)), (5, .int (nI j))]) hx hb dX8_tries_98 hl (k := 3) rfl (z_dec _) (by decide) rfl (fun ls hl => ?_)
                      refine lv_goto (tgt := 15) hx hb dX8_tries_101 (by decide) ?_
                      exact ih_L15 nt g1 (bkY g1 nt) c1 tr1 be3 (by omega) (TI_back (Nat.le_refl _) hvp htr (Vs_all (fun g h e => pcN_congr e) hSR (by have h9 := SR_one (b := be1) (b2 := be3) (fun g h e => pcN_congr e) hvp (by rw [← hc1]; exact hck) (fun i hi => by rw [hb3 i (by omega), htr i hi, zI_lt (by have := (hvp.1 i hi).1; omega)]); rw [← hc1] at h9; exact h9))) (Nat.lt_of_lt_of_le (mz_back hnt hnz hvp (by omega)) (Nat.le_of_lt_succ hm15)) _ _ hP hD hS _ (lv_sub hl [1, 2, 3, 0] rfl)
                    · have c_11 := z_nle (by omega) (by omega) c_11
                      refine lv_aload_n hx hb dX8_tries_78 rfl (lv_at hl 0 rfl) ?_
                      refine va_get (D := D) (ci := 8) (v := .ref (mx 12)) (C := RX8) (T := TX8) (N := 16) hx hb hts tu_X8 hown hSt.1 hP 0 rfl rfl 13 (by decide) (hts _ t3_233) (fun _ h9 => h9) rfl dX8_tries_79 ?_
                      refine lv_iload hx hb dX8_tries_82 (lv_at hl 4 rfl) ?_
                      refine lv_aload_n hx hb dX8_tries_84 rfl (lv_at hl 0 rfl) ?_
                      refine va_get (D := D) (ci := 8) (v := .ref (mx 11)) (C := RX8) (T := TX8) (N := 16) hx hb hts tu_X8 hown hSt.1 hP 0 rfl rfl 12 (by decide) (hts _ t3_232) (fun _ h9 => h9) rfl dX8_tries_85 ?_
                      refine lv_iload hx hb dX8_tries_88 (lv_at hl 4 rfl) ?_
                      refine r_iald hx hb hSt.1 hP 11 0 rfl rfl (k := j) (by omega) (by omega) dX8_tries_90 ?_
                      refine r_iast hx hb hSt.1 hP hD hS 12 0 rfl rfl (k := j) (by omega) (by omega) dX8_tries_91 (fun H locs hP hD hS => ?_)
                      have hP : va_P D vwCl (wMo mx cI cZ w (nI nz) q d (nI nt) pr mw mt zo ke j_1 j_2 tr1 (upd be3 j (tr1 j)) ch th) H := hP
                      have hD : va_D A (wMo mx cI cZ w (nI nz) q d (nI nt) pr mw mt zo ke j_1 j_2 tr1 (upd be3 j (tr1 j)) ch th) := hD
                      refine lv_iinc (v := nI (j + 1)) (lv' := [(5, .int (nI (j + 1))), (0, .ref (mx 0)), (1, .int (bB wb)), (2, .int (nI c1)), (3, .int (nI nt))]) hx hb dX8_tries_92 hl (k := 4) rfl (z_inc _) (by decide) rfl (fun ls hl => ?_)
                      refine lv_goto (tgt := 69) hx hb dX8_tries_95 (by decide) ?_
                      exact ih_L69 (j + 1) (upd be3 j (tr1 j)) (by omega) (fun i hi => if e : i = j then (by rw [e, pk_us]) else (by rw [pk_un e]; exact hb3 i (by omega))) (by omega) _ _ hP hD hS _ (lv_sub hl [1, 2, 3, 4, 0] rfl)
                exact L69 _ 0 be1 (by omega) (fun i hi => absurd hi (by omega)) (Nat.lt_succ_self _) _ _ hP hD hS _ (lv_sub hl [2, 3, 1, 4, 0] rfl)
              refine lv_iload_n hx hb dX8_tries_52 rfl (lv_at hl 2 rfl) ?_
              refine lv_iconst (v := (-1 : Int32)) hx hb dX8_tries_53 (by decide) ?_
              refine lv_icmp_eq (tgt := 63) hx hb dX8_tries_54 (by decide) (fun c_12 => ?_) (fun c_12 => ?_)
              · exact L63 (by have h7 := lI_none c_12; omega) _ _ hP hD hS _ (lv_sub hl [0, 1, 3, 4] rfl)
              · have hk19 := lI_some c_12
                refine lv_iload hx hb dX8_tries_57 (lv_at hl 4 rfl) ?_
                refine lv_iload_n hx hb dX8_tries_59 rfl (lv_at hl 2 rfl) ?_
                refine lv_as (y := nI k1) (lI_lt hk19) ?_
                refine lv_icmp_ge (tgt := 98) hx hb dX8_tries_60 (by decide) (fun c_13 => ?_) (fun c_13 => ?_)
                · have c_13 := z_le (by omega) (by omega) c_13
                  refine lv_iinc (v := tI nt) (lv' := [(3, .int (tI nt)), (0, .ref (mx 0)), (1, .int (bB wb)), (2, .int (lI k1)), (4, .int (nI c1))]) hx hb dX8_tries_98 hl (k := 3) rfl (z_dec _) (by decide) rfl (fun ls hl => ?_)
                  refine lv_goto (tgt := 15) hx hb dX8_tries_101 (by decide) ?_
                  exact ih_L15 nt g1 (bkY g1 nt) k1 tr1 be1 (by omega) (TI_back (Nat.le_refl _) hvp htr (Vs_all (fun g h e => pcN_congr e) hSR (SR_old (fun g h e => pcN_congr e) (by rw [← hc1]; exact c_13)))) (Nat.lt_of_lt_of_le (mz_back hnt hnz hvp (by omega)) (Nat.le_of_lt_succ hm15)) _ _ hP hD hS _ (lv_sub hl [1, 2, 3, 0] rfl)
                · have c_13 := z_nle (by omega) (by omega) c_13
                  exact L63 c_13 _ _ hP hD hS _ (lv_sub hl [0, 1, 3, 4] rfl)
            refine lv_if_eq (tgt := 42) hx hb dX8_tries_28 (by decide) (fun c_14 => ?_) (fun c_14 => ?_)
            · refine lv_aload_n hx hb dX8_tries_42 rfl (lv_at hl 0 rfl) ?_
              refine lv_aload_n hx hb dX8_tries_43 rfl (lv_at hl 0 rfl) ?_
              refine va_get (D := D) (ci := 8) (v := .ref (mx 11)) (C := RX8) (T := TX8) (N := 16) hx hb hts tu_X8 hown hSt.1 hP 0 rfl rfl 12 (by decide) (hts _ t3_232) (fun _ h9 => h9) rfl dX8_tries_44 ?_
              refine ro_V (As := [.ref (mx 11)]) (rest := []) (v := nI (wishN wi g1 nt)) ⟨hx, hb, hml, hown, hts⟩ (c_X8_wishOf_tr l D cI cZ cQ cJ mx w nz q d nt pr mw mt zo ke j_1 j_2 tr1 be1 ch th wi g1 (by first | assumption | omega) (by first | assumption | omega) (by first | assumption | omega) hpk hgk) (gV t4_135 t4_137 t0_34 t1_10 t4_138) rfl rfl hd_X8_wishOf ⟨Nat.le_of_ble_eq_true rfl, Nat.le_of_ble_eq_true rfl⟩ hP hSt (va_recv hSt.1 hP (ci := 8) (q0 := 0) rfl rfl) rfl hl.1 rfl (Nat.le_of_ble_eq_true rfl) dX8_tries_47 (Nat.zero_le _) (Nat.zero_le _) ?_
              refine lv_istore (lv' := [(4, .int (nI (wishN wi g1 nt))), (0, .ref (mx 0)), (1, .int (bB wb)), (2, .int (lI k1)), (3, .int (nI nt))]) hx hb dX8_tries_50 hl (by decide) rfl (fun ls hl => ?_)
              exact L52 (wishN wi g1 nt) (by rw [bB_0 c_14, pcN_f]) _ _ hP hD hS _ (lv_sub hl [1, 2, 3, 4, 0] rfl)
            · refine lv_aload_n hx hb dX8_tries_31 rfl (lv_at hl 0 rfl) ?_
              refine lv_aload_n hx hb dX8_tries_32 rfl (lv_at hl 0 rfl) ?_
              refine va_get (D := D) (ci := 8) (v := .ref (mx 11)) (C := RX8) (T := TX8) (N := 16) hx hb hts tu_X8 hown hSt.1 hP 0 rfl rfl 12 (by decide) (hts _ t3_232) (fun _ h9 => h9) rfl dX8_tries_33 ?_
              refine ro_V (As := [.ref (mx 11)]) (rest := []) (v := nI (costN wi ti dd g1 nt)) ⟨hx, hb, hml, hown, hts⟩ (c_X8_costOf_tr l D cI cZ cQ cJ mx w nz q d nt pr mw mt zo ke j_1 j_2 tr1 be1 ch th wi ti dd g1 (by first | assumption | omega) (by first | assumption | omega) (by first | assumption | omega) (by first | assumption | omega) hwy9 hpk hgk) (gV t4_131 t4_133 t0_33 t1_10 t4_134) rfl rfl hd_X8_costOf ⟨Nat.le_of_ble_eq_true rfl, Nat.le_of_ble_eq_true rfl⟩ hP hSt (va_recv hSt.1 hP (ci := 8) (q0 := 0) rfl rfl) rfl hl.1 rfl (Nat.le_of_ble_eq_true rfl) dX8_tries_36 (Nat.zero_le _) (Nat.zero_le _) ?_
              refine lv_goto (tgt := 50) hx hb dX8_tries_39 (by decide) ?_
              refine lv_istore (lv' := [(4, .int (nI (costN wi ti dd g1 nt))), (0, .ref (mx 0)), (1, .int (bB wb)), (2, .int (lI k1)), (3, .int (nI nt))]) hx hb dX8_tries_50 hl (by decide) rfl (fun ls hl => ?_)
              exact L52 (costN wi ti dd g1 nt) (by rw [bB_1 c_14, pcN_t]) _ _ hP hD hS _ (lv_sub hl [1, 2, 3, 4, 0] rfl)
  exact L15 _ (0 + 1) (fun _ => 0) 0 1000000 (upd tr 0 (-1 : Int32)) be (by omega) (Or.inr ⟨0, rfl, Nat.zero_le _, fun _ => rfl, Nat.zero_le _, ⟨fun j hj => absurd hj (by omega), fun i j h1 h2 => absurd h2 (by omega)⟩, fun j hj => absurd hj (by omega), fun _ => pk_us, Vs_start⟩) (Nat.lt_succ_self _) _ _ hP hD hS _ (lv_sub hl [2, 3, 1, 0] rfl)
theorem hd_X8_tries : yX8_tries.cls = RX8 ∧ yX8_tries.cls ≠ "java/lang/invoke/MethodHandle" ∧ yX8_tries.cls ≠ "java/lang/invoke/VarHandle" ∧ (parseMethodDescriptor yX8_tries.desc).map (fun d => d.parameters.length) = some 1 := by decide +kernel
