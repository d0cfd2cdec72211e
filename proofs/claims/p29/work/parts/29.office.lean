/-- a row of rows, one of them another -/
def ub (F : Nat → Nat → Int32) (i : Nat) (f : Nat → Int32) : Nat → Nat → Int32 := fun a => if a = i then f else F a
set_option maxHeartbeats 4000000 in
set_option maxRecDepth 100000 in
/-- a team is added -/
theorem c_X5_enter (l : Launch) (D : va_G) (cI cZ cQ cJ : ClassId) (y : Nat → Nat) (rp : Nat → Nat) (rw : Nat → Nat) (rt : Nat → Nat) (P : Nat → Nat → Int32) (n : Nat → Int32) (Wi : Nat → Nat → Int32) (Ti : Nat → Nat → Int32) (nt : Nat) (sz : Nat) (ht : nt < 7) : Met l yX5_enter (.code yX5_enter cX5_enter 2 (some .int) :: ALL) ({ frames := 1, cells := 0, slots := 0, locals := 23 } : Room) (va_Pc [.ref (y 0)] (rw_P D cI cZ cQ cJ (wSt y rp rw rt cI cQ P n Wi Ti (nI nt)) sz)) (va_Qi (fun (r9 : Int32) (u9 : Unit) => (r9 = (nI nt))) (rw_B D (va_A (wSt y rp rw rt cI cQ P n Wi Ti (nI nt)) sz) (fun u9 : Unit => wSt y rp rw rt cI cQ (ub P nt (fun _ => nI 1)) (upd n nt (nI 1)) Wi Ti (nI (nt + 1)))) (va_A (wSt y rp rw rt cI cQ P n Wi Ti (nI nt)) sz)) 0 0 (va_A (wSt y rp rw rt cI cQ P n Wi Ti (nI nt)) sz) := by
  refine Met.ofW (cc := cX5_enter) (maxL := 2) (ret := (some .int)) (by decide) rfl ?_
  intro p e s m args below meth c s₁ B hml hv
  obtain ⟨rfl, hsz, hP, hSt, hD0⟩ := hv
  have hx := B.exec
  have hb := B.bytes
  have hr := B.returns
  have hts : ∀ w ∈ ALL, w.before ([.ref (y 0)] : List Value).toArray s = true := fun w h => atoms_spec (ws := (.code yX5_enter cX5_enter 2 (some .int) :: ALL)) B.pre w (List.mem_cons_of_mem _ h)
  have hown : s.vm.findClass RX5 = some m.cls := findClass_of_methodNamed B.named
  have hlocks := B.notSynchronized
  subst hsz
  have hD := hD0.self (sz := s.heap.size)
  clear hD0
  generalize hAe : va_A (wSt y rp rw rt cI cQ P n Wi Ti (nI nt)) s.heap.size = A at hD ⊢
  have hA : ∀ q : Nat, s.heap.size ≤ q → A q := fun q h => by rw [← hAe]; exact Or.inr h
  have hS : va_S A s.heap s.heap [] := va_S.rf
  have hl := lv_entry ([.ref (y 0)]) (n := 2) (Nat.le_of_ble_eq_true rfl)
  rw [lg_entry_eq]
  generalize (lg_sl ([.ref (y 0)]) ++ List.replicate (2 - (lg_sl ([.ref (y 0)])).length) Slot.unset).toArray = ls at hl ⊢
  have hl : lv_has ls 2 [(0, .ref (y 0))] := hl
  obtain ⟨H, hHe⟩ : ∃ H : Heap, H = s.heap := ⟨_, rfl⟩
  obtain ⟨locs, hLe⟩ : ∃ L : List Loc, L = [] := ⟨_, rfl⟩
  have hP : va_P D vwCl (wSt y rp rw rt cI cQ P n Wi Ti (nI nt)) H := by rw [hHe]; exact hP
  have hS : va_S A s.heap H locs := by rw [hHe, hLe]; exact hS
  refine W.eqHL hHe hLe ?_
  rcases (show nt = 0 ∨ nt = 1 ∨ nt = 2 ∨ nt = 3 ∨ nt = 4 ∨ nt = 5 ∨ nt = 6 by omega) with rfl | rfl | rfl | rfl | rfl | rfl | rfl
  · refine lv_aload_n hx hb dX5_enter_0 rfl (lv_at hl 0 rfl) ?_
    refine va_get (D := D) (ci := 5) (v := .int (nI 0)) (C := RX5) (T := TX5) (N := 5) hx hb hts tu_X5 hown hSt.1 hP 0 rfl rfl 4 (by decide) (hts _ t1_92) (fun _ h9 => h9) rfl dX5_enter_1 ?_
    refine lv_istore_n (lv' := [(1, .int (nI 0)), (0, .ref (y 0))]) hx hb dX5_enter_4 rfl hl (by decide) rfl (fun ls hl => ?_)
    refine lv_aload_n hx hb dX5_enter_5 rfl (lv_at hl 1 rfl) ?_
    refine va_get (D := D) (ci := 5) (v := .ref (y 1)) (C := RX5) (T := TX5) (N := 5) hx hb hts tu_X5 hown hSt.1 hP 0 rfl rfl 0 (by decide) (hts _ t1_81) (fun _ h9 => h9) rfl dX5_enter_6 ?_
    refine lv_iload_n hx hb dX5_enter_9 rfl (lv_at hl 0 rfl) ?_
    refine r_aald (r := rp) hx hb hSt.1 hP 1 2 rfl rfl (k := 0) (by omega) dX5_enter_10 ?_
    refine lv_iconst (v := nI 1) hx hb dX5_enter_11 (by decide) ?_
    refine rw_v (wr := (([((y 0), .inr (5, [.ref (y 1), .ref (y 2), .ref (y 3), .ref (y 4), .int (nI 0)])), rq (y 1) cQ rp, ((y 2), .inl (cI, 7, .inl n)), rq (y 3) cQ rw, rq (y 4) cQ rt, (rp 1, .inl (cI, 5, .inl (P 1))), (rp 2, .inl (cI, 5, .inl (P 2))), (rp 3, .inl (cI, 5, .inl (P 3))), (rp 4, .inl (cI, 5, .inl (P 4))), (rp 5, .inl (cI, 5, .inl (P 5))), (rp 6, .inl (cI, 5, .inl (P 6)))] : va_W) ++ ((rb rw cI 7 Wi 7) ++ (rb rt cI 7 Ti 7)))) (w_SX (As := [.ref (rp 0), .int (nI 1)]) ⟨hx, hb, hml, hown, hts⟩ (c_J7_fill_53178 l D cI cZ cQ cJ (rp 0) 5 (P 0) (nI 1) H.size (by first | assumption | omega)) (gSX t3_49 t1_128 t1_6 t1_129) rfl rfl hd_J7_fill_53178 ⟨Nat.le_of_ble_eq_true rfl, Nat.le_of_ble_eq_true rfl⟩ (rw_pre hP hD hSt [5] rfl (by decide)) rfl hl.1 (rest := []) rfl (Nat.le_of_ble_eq_true rfl) dX5_enter_12 ⟨Nat.le_of_ble_eq_true rfl, Nat.le_of_ble_eq_true rfl⟩) hP hD hS hA [5] [0, 1, 2, 3, 4, 6, 7, 8, 9, 10, 11, 12, 13, 14, 15, 16, 17, 18, 19, 20, 21, 22, 23, 24, 25] rfl rfl (by decide) (by decide) (fun  u_1 H locs hw9 hP hD hS => ?_)
    have hP : va_P D vwCl (wSt y rp rw rt cI cQ (ub P 0 (fun _ => (nI 1))) n Wi Ti (nI 0)) H := hP.sub (ws' := wSt y rp rw rt cI cQ (ub P 0 (fun _ => (nI 1))) n Wi Ti (nI 0)) [0, 1, 2, 3, 4, 25, 5, 6, 7, 8, 9, 10, 11, 12, 13, 14, 15, 16, 17, 18, 19, 20, 21, 22, 23, 24] rfl
    have hD : va_D A (wSt y rp rw rt cI cQ (ub P 0 (fun _ => (nI 1))) n Wi Ti (nI 0)) := hD.sub (ws' := wSt y rp rw rt cI cQ (ub P 0 (fun _ => (nI 1))) n Wi Ti (nI 0)) [0, 1, 2, 3, 4, 25, 5, 6, 7, 8, 9, 10, 11, 12, 13, 14, 15, 16, 17, 18, 19, 20, 21, 22, 23, 24] (by decide) rfl
    refine lv_aload_n hx hb dX5_enter_15 rfl (lv_at hl 1 rfl) ?_
    refine va_get (D := D) (ci := 5) (v := .ref (y 2)) (C := RX5) (T := TX5) (N := 5) hx hb hts tu_X5 hown hSt.1 hP 0 rfl rfl 1 (by decide) (hts _ t1_83) (fun _ h9 => h9) rfl dX5_enter_16 ?_
    refine lv_iload_n hx hb dX5_enter_19 rfl (lv_at hl 0 rfl) ?_
    refine lv_iconst (v := nI 1) hx hb dX5_enter_20 (by decide) ?_
    refine r_iast hx hb hSt.1 hP hD hS 2 0 rfl rfl (k := 0) (by omega) (by omega) dX5_enter_21 (fun H locs hP hD hS => ?_)
    have hP : va_P D vwCl (wSt y rp rw rt cI cQ (ub P 0 (fun _ => (nI 1))) (upd n 0 (nI 1)) Wi Ti (nI 0)) H := hP
    have hD : va_D A (wSt y rp rw rt cI cQ (ub P 0 (fun _ => (nI 1))) (upd n 0 (nI 1)) Wi Ti (nI 0)) := hD
    refine lv_aload_n hx hb dX5_enter_22 rfl (lv_at hl 1 rfl) ?_
    refine lv_dup hx hb dX5_enter_23 rfl ?_
    refine va_get (D := D) (ci := 5) (v := .int (nI 0)) (C := RX5) (T := TX5) (N := 5) hx hb hts tu_X5 hown hSt.1 hP 0 rfl rfl 4 (by decide) (hts _ t1_92) (fun _ h9 => h9) rfl dX5_enter_24 ?_
    refine lv_iconst (v := nI 1) hx hb dX5_enter_27 (by decide) ?_
    refine r_addn hx hb dX5_enter_28 ?_
    refine va_put (D := D) (ci := 5) (v := .int (nI (0 + 1))) (ty := .int) (C := RX5) (T := TX5) (N := 5) hx hb hts tu_X5 tyX5 tyX5_ok nmX5 hown hSt.1 hP hD hS 0 rfl rfl 4 (by decide) (hts _ t1_92) (fun _ h9 => h9) rfl (by decide +kernel) rfl rfl (Nat.le_of_ble_eq_true rfl) dX5_enter_29 (fun H locs hP hD hS => ?_)
    have hP : va_P D vwCl (wSt y rp rw rt cI cQ (ub P 0 (fun _ => (nI 1))) (upd n 0 (nI 1)) Wi Ti (nI (0 + 1))) H := hP
    have hD : va_D A (wSt y rp rw rt cI cQ (ub P 0 (fun _ => (nI 1))) (upd n 0 (nI 1)) Wi Ti (nI (0 + 1))) := hD
    refine lv_iload_n hx hb dX5_enter_32 rfl (lv_at hl 0 rfl) ?_
    have hP9 : va_P D vwCl (wSt y rp rw rt cI cQ (ub P 0 (fun _ => nI 1)) (upd n 0 (nI 1)) Wi Ti (nI (0 + 1))) H := (show va_P D vwCl (wSt y rp rw rt cI cQ (ub P 0 (fun _ => nI 1)) (upd n 0 (nI 1)) Wi Ti (nI (0 + 1))) H from hP)
    have hD9 : va_D A (wSt y rp rw rt cI cQ (ub P 0 (fun _ => nI 1)) (upd n 0 (nI 1)) Wi Ti (nI (0 + 1))) := (show va_D A (wSt y rp rw rt cI cQ (ub P 0 (fun _ => nI 1)) (upd n 0 (nI 1)) Wi Ti (nI (0 + 1))) from hD)
    exact W.iret (v := nI 0) hx hb hr (fun t9 ht9 hW9 => ⟨⟨nI 0, (), rfl, rfl, by rw [ht9]; exact hP9, hD9⟩, hS.F ht9⟩) hS.2.2 dX5_enter_33
  · refine lv_aload_n hx hb dX5_enter_0 rfl (lv_at hl 0 rfl) ?_
    refine va_get (D := D) (ci := 5) (v := .int (nI 1)) (C := RX5) (T := TX5) (N := 5) hx hb hts tu_X5 hown hSt.1 hP 0 rfl rfl 4 (by decide) (hts _ t1_92) (fun _ h9 => h9) rfl dX5_enter_1 ?_
    refine lv_istore_n (lv' := [(1, .int (nI 1)), (0, .ref (y 0))]) hx hb dX5_enter_4 rfl hl (by decide) rfl (fun ls hl => ?_)
    refine lv_aload_n hx hb dX5_enter_5 rfl (lv_at hl 1 rfl) ?_
    refine va_get (D := D) (ci := 5) (v := .ref (y 1)) (C := RX5) (T := TX5) (N := 5) hx hb hts tu_X5 hown hSt.1 hP 0 rfl rfl 0 (by decide) (hts _ t1_81) (fun _ h9 => h9) rfl dX5_enter_6 ?_
    refine lv_iload_n hx hb dX5_enter_9 rfl (lv_at hl 0 rfl) ?_
    refine r_aald (r := rp) hx hb hSt.1 hP 1 2 rfl rfl (k := 1) (by omega) dX5_enter_10 ?_
    refine lv_iconst (v := nI 1) hx hb dX5_enter_11 (by decide) ?_
    refine rw_v (wr := (([((y 0), .inr (5, [.ref (y 1), .ref (y 2), .ref (y 3), .ref (y 4), .int (nI 1)])), rq (y 1) cQ rp, ((y 2), .inl (cI, 7, .inl n)), rq (y 3) cQ rw, rq (y 4) cQ rt, (rp 0, .inl (cI, 5, .inl (P 0))), (rp 2, .inl (cI, 5, .inl (P 2))), (rp 3, .inl (cI, 5, .inl (P 3))), (rp 4, .inl (cI, 5, .inl (P 4))), (rp 5, .inl (cI, 5, .inl (P 5))), (rp 6, .inl (cI, 5, .inl (P 6)))] : va_W) ++ ((rb rw cI 7 Wi 7) ++ (rb rt cI 7 Ti 7)))) (w_SX (As := [.ref (rp 1), .int (nI 1)]) ⟨hx, hb, hml, hown, hts⟩ (c_J7_fill_53178 l D cI cZ cQ cJ (rp 1) 5 (P 1) (nI 1) H.size (by first | assumption | omega)) (gSX t3_49 t1_128 t1_6 t1_129) rfl rfl hd_J7_fill_53178 ⟨Nat.le_of_ble_eq_true rfl, Nat.le_of_ble_eq_true rfl⟩ (rw_pre hP hD hSt [6] rfl (by decide)) rfl hl.1 (rest := []) rfl (Nat.le_of_ble_eq_true rfl) dX5_enter_12 ⟨Nat.le_of_ble_eq_true rfl, Nat.le_of_ble_eq_true rfl⟩) hP hD hS hA [6] [0, 1, 2, 3, 4, 5, 7, 8, 9, 10, 11, 12, 13, 14, 15, 16, 17, 18, 19, 20, 21, 22, 23, 24, 25] rfl rfl (by decide) (by decide) (fun  u_2 H locs hw9 hP hD hS => ?_)
    have hP : va_P D vwCl (wSt y rp rw rt cI cQ (ub P 1 (fun _ => (nI 1))) n Wi Ti (nI 1)) H := hP.sub (ws' := wSt y rp rw rt cI cQ (ub P 1 (fun _ => (nI 1))) n Wi Ti (nI 1)) [0, 1, 2, 3, 4, 5, 25, 6, 7, 8, 9, 10, 11, 12, 13, 14, 15, 16, 17, 18, 19, 20, 21, 22, 23, 24] rfl
    have hD : va_D A (wSt y rp rw rt cI cQ (ub P 1 (fun _ => (nI 1))) n Wi Ti (nI 1)) := hD.sub (ws' := wSt y rp rw rt cI cQ (ub P 1 (fun _ => (nI 1))) n Wi Ti (nI 1)) [0, 1, 2, 3, 4, 5, 25, 6, 7, 8, 9, 10, 11, 12, 13, 14, 15, 16, 17, 18, 19, 20, 21, 22, 23, 24] (by decide) rfl
    refine lv_aload_n hx hb dX5_enter_15 rfl (lv_at hl 1 rfl) ?_
    refine va_get (D := D) (ci := 5) (v := .ref (y 2)) (C := RX5) (T := TX5) (N := 5) hx hb hts tu_X5 hown hSt.1 hP 0 rfl rfl 1 (by decide) (hts _ t1_83) (fun _ h9 => h9) rfl dX5_enter_16 ?_
    refine lv_iload_n hx hb dX5_enter_19 rfl (lv_at hl 0 rfl) ?_
    refine lv_iconst (v := nI 1) hx hb dX5_enter_20 (by decide) ?_
    refine r_iast hx hb hSt.1 hP hD hS 2 0 rfl rfl (k := 1) (by omega) (by omega) dX5_enter_21 (fun H locs hP hD hS => ?_)
    have hP : va_P D vwCl (wSt y rp rw rt cI cQ (ub P 1 (fun _ => (nI 1))) (upd n 1 (nI 1)) Wi Ti (nI 1)) H := hP
    have hD : va_D A (wSt y rp rw rt cI cQ (ub P 1 (fun _ => (nI 1))) (upd n 1 (nI 1)) Wi Ti (nI 1)) := hD
    refine lv_aload_n hx hb dX5_enter_22 rfl (lv_at hl 1 rfl) ?_
    refine lv_dup hx hb dX5_enter_23 rfl ?_
    refine va_get (D := D) (ci := 5) (v := .int (nI 1)) (C := RX5) (T := TX5) (N := 5) hx hb hts tu_X5 hown hSt.1 hP 0 rfl rfl 4 (by decide) (hts _ t1_92) (fun _ h9 => h9) rfl dX5_enter_24 ?_
    refine lv_iconst (v := nI 1) hx hb dX5_enter_27 (by decide) ?_
    refine r_addn hx hb dX5_enter_28 ?_
    refine va_put (D := D) (ci := 5) (v := .int (nI (1 + 1))) (ty := .int) (C := RX5) (T := TX5) (N := 5) hx hb hts tu_X5 tyX5 tyX5_ok nmX5 hown hSt.1 hP hD hS 0 rfl rfl 4 (by decide) (hts _ t1_92) (fun _ h9 => h9) rfl (by decide +kernel) rfl rfl (Nat.le_of_ble_eq_true rfl) dX5_enter_29 (fun H locs hP hD hS => ?_)
    have hP : va_P D vwCl (wSt y rp rw rt cI cQ (ub P 1 (fun _ => (nI 1))) (upd n 1 (nI 1)) Wi Ti (nI (1 + 1))) H := hP
    have hD : va_D A (wSt y rp rw rt cI cQ (ub P 1 (fun _ => (nI 1))) (upd n 1 (nI 1)) Wi Ti (nI (1 + 1))) := hD
    refine lv_iload_n hx hb dX5_enter_32 rfl (lv_at hl 0 rfl) ?_
    have hP9 : va_P D vwCl (wSt y rp rw rt cI cQ (ub P 1 (fun _ => nI 1)) (upd n 1 (nI 1)) Wi Ti (nI (1 + 1))) H := (show va_P D vwCl (wSt y rp rw rt cI cQ (ub P 1 (fun _ => nI 1)) (upd n 1 (nI 1)) Wi Ti (nI (1 + 1))) H from hP)
    have hD9 : va_D A (wSt y rp rw rt cI cQ (ub P 1 (fun _ => nI 1)) (upd n 1 (nI 1)) Wi Ti (nI (1 + 1))) := (show va_D A (wSt y rp rw rt cI cQ (ub P 1 (fun _ => nI 1)) (upd n 1 (nI 1)) Wi Ti (nI (1 + 1))) from hD)
    exact W.iret (v := nI 1) hx hb hr (fun t9 ht9 hW9 => ⟨⟨nI 1, (), rfl, rfl, by rw [ht9]; exact hP9, hD9⟩, hS.F ht9⟩) hS.2.2 dX5_enter_33
  · refine lv_aload_n hx hb dX5_enter_0 rfl (lv_at hl 0 rfl) ?_
    refine va_get (D := D) (ci := 5) (v := .int (nI 2)) (C := RX5) (T := TX5) (N := 5) hx hb hts tu_X5 hown hSt.1 hP 0 rfl rfl 4 (by decide) (hts _ t1_92) (fun _ h9 => h9) rfl dX5_enter_1 ?_
    refine lv_istore_n (lv' := [(1, .int (nI 2)), (0, .ref (y 0))]) hx hb dX5_enter_4 rfl hl (by decide) rfl (fun ls hl => ?_)
    refine lv_aload_n hx hb dX5_enter_5 rfl (lv_at hl 1 rfl) ?_
    refine va_get (D := D) (ci := 5) (v := .ref (y 1)) (C := RX5) (T := TX5) (N := 5) hx hb hts tu_X5 hown hSt.1 hP 0 rfl rfl 0 (by decide) (hts _ t1_81) (fun _ h9 => h9) rfl dX5_enter_6 ?_
    refine lv_iload_n hx hb dX5_enter_9 rfl (lv_at hl 0 rfl) ?_
    refine r_aald (r := rp) hx hb hSt.1 hP 1 2 rfl rfl (k := 2) (by omega) dX5_enter_10 ?_
    refine lv_iconst (v := nI 1) hx hb dX5_enter_11 (by decide) ?_
    refine rw_v (wr := (([((y 0), .inr (5, [.ref (y 1), .ref (y 2), .ref (y 3), .ref (y 4), .int (nI 2)])), rq (y 1) cQ rp, ((y 2), .inl (cI, 7, .inl n)), rq (y 3) cQ rw, rq (y 4) cQ rt, (rp 0, .inl (cI, 5, .inl (P 0))), (rp 1, .inl (cI, 5, .inl (P 1))), (rp 3, .inl (cI, 5, .inl (P 3))), (rp 4, .inl (cI, 5, .inl (P 4))), (rp 5, .inl (cI, 5, .inl (P 5))), (rp 6, .inl (cI, 5, .inl (P 6)))] : va_W) ++ ((rb rw cI 7 Wi 7) ++ (rb rt cI 7 Ti 7)))) (w_SX (As := [.ref (rp 2), .int (nI 1)]) ⟨hx, hb, hml, hown, hts⟩ (c_J7_fill_53178 l D cI cZ cQ cJ (rp 2) 5 (P 2) (nI 1) H.size (by first | assumption | omega)) (gSX t3_49 t1_128 t1_6 t1_129) rfl rfl hd_J7_fill_53178 ⟨Nat.le_of_ble_eq_true rfl, Nat.le_of_ble_eq_true rfl⟩ (rw_pre hP hD hSt [7] rfl (by decide)) rfl hl.1 (rest := []) rfl (Nat.le_of_ble_eq_true rfl) dX5_enter_12 ⟨Nat.le_of_ble_eq_true rfl, Nat.le_of_ble_eq_true rfl⟩) hP hD hS hA [7] [0, 1, 2, 3, 4, 5, 6, 8, 9, 10, 11, 12, 13, 14, 15, 16, 17, 18, 19, 20, 21, 22, 23, 24, 25] rfl rfl (by decide) (by decide) (fun  u_3 H locs hw9 hP hD hS => ?_)
    have hP : va_P D vwCl (wSt y rp rw rt cI cQ (ub P 2 (fun _ => (nI 1))) n Wi Ti (nI 2)) H := hP.sub (ws' := wSt y rp rw rt cI cQ (ub P 2 (fun _ => (nI 1))) n Wi Ti (nI 2)) [0, 1, 2, 3, 4, 5, 6, 25, 7, 8, 9, 10, 11, 12, 13, 14, 15, 16, 17, 18, 19, 20, 21, 22, 23, 24] rfl
    have hD : va_D A (wSt y rp rw rt cI cQ (ub P 2 (fun _ => (nI 1))) n Wi Ti (nI 2)) := hD.sub (ws' := wSt y rp rw rt cI cQ (ub P 2 (fun _ => (nI 1))) n Wi Ti (nI 2)) [0, 1, 2, 3, 4, 5, 6, 25, 7, 8, 9, 10, 11, 12, 13, 14, 15, 16, 17, 18, 19, 20, 21, 22, 23, 24] (by decide) rfl
    refine lv_aload_n hx hb dX5_enter_15 rfl (lv_at hl 1 rfl) ?_
    refine va_get (D := D) (ci := 5) (v := .ref (y 2)) (C := RX5) (T := TX5) (N := 5) hx hb hts tu_X5 hown hSt.1 hP 0 rfl rfl 1 (by decide) (hts _ t1_83) (fun _ h9 => h9) rfl dX5_enter_16 ?_
    refine lv_iload_n hx hb dX5_enter_19 rfl (lv_at hl 0 rfl) ?_
    refine lv_iconst (v := nI 1) hx hb dX5_enter_20 (by decide) ?_
    refine r_iast hx hb hSt.1 hP hD hS 2 0 rfl rfl (k := 2) (by omega) (by omega) dX5_enter_21 (fun H locs hP hD hS => ?_)
    have hP : va_P D vwCl (wSt y rp rw rt cI cQ (ub P 2 (fun _ => (nI 1))) (upd n 2 (nI 1)) Wi Ti (nI 2)) H := hP
    have hD : va_D A (wSt y rp rw rt cI cQ (ub P 2 (fun _ => (nI 1))) (upd n 2 (nI 1)) Wi Ti (nI 2)) := hD
    refine lv_aload_n hx hb dX5_enter_22 rfl (lv_at hl 1 rfl) ?_
    refine lv_dup hx hb dX5_enter_23 rfl ?_
    refine va_get (D := D) (ci := 5) (v := .int (nI 2)) (C := RX5) (T := TX5) (N := 5) hx hb hts tu_X5 hown hSt.1 hP 0 rfl rfl 4 (by decide) (hts _ t1_92) (fun _ h9 => h9) rfl dX5_enter_24 ?_
    refine lv_iconst (v := nI 1) hx hb dX5_enter_27 (by decide) ?_
    refine r_addn hx hb dX5_enter_28 ?_
    refine va_put (D := D) (ci := 5) (v := .int (nI (2 + 1))) (ty := .int) (C := RX5) (T := TX5) (N := 5) hx hb hts tu_X5 tyX5 tyX5_ok nmX5 hown hSt.1 hP hD hS 0 rfl rfl 4 (by decide) (hts _ t1_92) (fun _ h9 => h9) rfl (by decide +kernel) rfl rfl (Nat.le_of_ble_eq_true rfl) dX5_enter_29 (fun H locs hP hD hS => ?_)
    have hP : va_P D vwCl (wSt y rp rw rt cI cQ (ub P 2 (fun _ => (nI 1))) (upd n 2 (nI 1)) Wi Ti (nI (2 + 1))) H := hP
    have hD : va_D A (wSt y rp rw rt cI cQ (ub P 2 (fun _ => (nI 1))) (upd n 2 (nI 1)) Wi Ti (nI (2 + 1))) := hD
    refine lv_iload_n hx hb dX5_enter_32 rfl (lv_at hl 0 rfl) ?_
    have hP9 : va_P D vwCl (wSt y rp rw rt cI cQ (ub P 2 (fun _ => nI 1)) (upd n 2 (nI 1)) Wi Ti (nI (2 + 1))) H := (show va_P D vwCl (wSt y rp rw rt cI cQ (ub P 2 (fun _ => nI 1)) (upd n 2 (nI 1)) Wi Ti (nI (2 + 1))) H from hP)
    have hD9 : va_D A (wSt y rp rw rt cI cQ (ub P 2 (fun _ => nI 1)) (upd n 2 (nI 1)) Wi Ti (nI (2 + 1))) := (show va_D A (wSt y rp rw rt cI cQ (ub P 2 (fun _ => nI 1)) (upd n 2 (nI 1)) Wi Ti (nI (2 + 1))) from hD)
    exact W.iret (v := nI 2) hx hb hr (fun t9 ht9 hW9 => ⟨⟨nI 2, (), rfl, rfl, by rw [ht9]; exact hP9, hD9⟩, hS.F ht9⟩) hS.2.2 dX5_enter_33
  · refine lv_aload_n hx hb dX5_enter_0 rfl (lv_at hl 0 rfl) ?_
    refine va_get (D := D) (ci := 5) (v := .int (nI 3)) (C := RX5) (T := TX5) (N := 5) hx hb hts tu_X5 hown hSt.1 hP 0 rfl rfl 4 (by decide) (hts _ t1_92) (fun _ h9 => h9) rfl dX5_enter_1 ?_
    refine lv_istore_n (lv' := [(1, .int (nI 3)), (0, .ref (y 0))]) hx hb dX5_enter_4 rfl hl (by decide) rfl (fun ls hl => ?_)
    refine lv_aload_n hx hb dX5_enter_5 rfl (lv_at hl 1 rfl) ?_
    refine va_get (D := D) (ci := 5) (v := .ref (y 1)) (C := RX5) (T := TX5) (N := 5) hx hb hts tu_X5 hown hSt.1 hP 0 rfl rfl 0 (by decide) (hts _ t1_81) (fun _ h9 => h9) rfl dX5_enter_6 ?_
    refine lv_iload_n hx hb dX5_enter_9 rfl (lv_at hl 0 rfl) ?_
    refine r_aald (r := rp) hx hb hSt.1 hP 1 2 rfl rfl (k := 3) (by omega) dX5_enter_10 ?_
    refine lv_iconst (v := nI 1) hx hb dX5_enter_11 (by decide) ?_
    refine rw_v (wr := (([((y 0), .inr (5, [.ref (y 1), .ref (y 2), .ref (y 3), .ref (y 4), .int (nI 3)])), rq (y 1) cQ rp, ((y 2), .inl (cI, 7, .inl n)), rq (y 3) cQ rw, rq (y 4) cQ rt, (rp 0, .inl (cI, 5, .inl (P 0))), (rp 1, .inl (cI, 5, .inl (P 1))), (rp 2, .inl (cI, 5, .inl (P 2))), (rp 4, .inl (cI, 5, .inl (P 4))), (rp 5, .inl (cI, 5, .inl (P 5))), (rp 6, .inl (cI, 5, .inl (P 6)))] : va_W) ++ ((rb rw cI 7 Wi 7) ++ (rb rt cI 7 Ti 7)))) (w_SX (As := [.ref (rp 3), .int (nI 1)]) ⟨hx, hb, hml, hown, hts⟩ (c_J7_fill_53178 l D cI cZ cQ cJ (rp 3) 5 (P 3) (nI 1) H.size (by first | assumption | omega)) (gSX t3_49 t1_128 t1_6 t1_129) rfl rfl hd_J7_fill_53178 ⟨Nat.le_of_ble_eq_true rfl, Nat.le_of_ble_eq_true rfl⟩ (rw_pre hP hD hSt [8] rfl (by decide)) rfl hl.1 (rest := []) rfl (Nat.le_of_ble_eq_true rfl) dX5_enter_12 ⟨Nat.le_of_ble_eq_true rfl, Nat.le_of_ble_eq_true rfl⟩) hP hD hS hA [8] [0, 1, 2, 3, 4, 5, 6, 7, 9, 10, 11, 12, 13, 14, 15, 16, 17, 18, 19, 20, 21, 22, 23, 24, 25] rfl rfl (by decide) (by decide) (fun  u_4 H locs hw9 hP hD hS => ?_)
    have hP : va_P D vwCl (wSt y rp rw rt cI cQ (ub P 3 (fun _ => (nI 1))) n Wi Ti (nI 3)) H := hP.sub (ws' := wSt y rp rw rt cI cQ (ub P 3 (fun _ => (nI 1))) n Wi Ti (nI 3)) [0, 1, 2, 3, 4, 5, 6, 7, 25, 8, 9, 10, 11, 12, 13, 14, 15, 16, 17, 18, 19, 20, 21, 22, 23, 24] rfl
    have hD : va_D A (wSt y rp rw rt cI cQ (ub P 3 (fun _ => (nI 1))) n Wi Ti (nI 3)) := hD.sub (ws' := wSt y rp rw rt cI cQ (ub P 3 (fun _ => (nI 1))) n Wi Ti (nI 3)) [0, 1, 2, 3, 4, 5, 6, 7, 25, 8, 9, 10, 11, 12, 13, 14, 15, 16, 17, 18, 19, 20, 21, 22, 23, 24] (by decide) rfl
    refine lv_aload_n hx hb dX5_enter_15 rfl (lv_at hl 1 rfl) ?_
    refine va_get (D := D) (ci := 5) (v := .ref (y 2)) (C := RX5) (T := TX5) (N := 5) hx hb hts tu_X5 hown hSt.1 hP 0 rfl rfl 1 (by decide) (hts _ t1_83) (fun _ h9 => h9) rfl dX5_enter_16 ?_
    refine lv_iload_n hx hb dX5_enter_19 rfl (lv_at hl 0 rfl) ?_
    refine lv_iconst (v := nI 1) hx hb dX5_enter_20 (by decide) ?_
    refine r_iast hx hb hSt.1 hP hD hS 2 0 rfl rfl (k := 3) (by omega) (by omega) dX5_enter_21 (fun H locs hP hD hS => ?_)
    have hP : va_P D vwCl (wSt y rp rw rt cI cQ (ub P 3 (fun _ => (nI 1))) (upd n 3 (nI 1)) Wi Ti (nI 3)) H := hP
    have hD : va_D A (wSt y rp rw rt cI cQ (ub P 3 (fun _ => (nI 1))) (upd n 3 (nI 1)) Wi Ti (nI 3)) := hD
    refine lv_aload_n hx hb dX5_enter_22 rfl (lv_at hl 1 rfl) ?_
    refine lv_dup hx hb dX5_enter_23 rfl ?_
    refine va_get (D := D) (ci := 5) (v := .int (nI 3)) (C := RX5) (T := TX5) (N := 5) hx hb hts tu_X5 hown hSt.1 hP 0 rfl rfl 4 (by decide) (hts _ t1_92) (fun _ h9 => h9) rfl dX5_enter_24 ?_
    refine lv_iconst (v := nI 1) hx hb dX5_enter_27 (by decide) ?_
    refine r_addn hx hb dX5_enter_28 ?_
    refine va_put (D := D) (ci := 5) (v := .int (nI (3 + 1))) (ty := .int) (C := RX5) (T := TX5) (N := 5) hx hb hts tu_X5 tyX5 tyX5_ok nmX5 hown hSt.1 hP hD hS 0 rfl rfl 4 (by decide) (hts _ t1_92) (fun _ h9 => h9) rfl (by decide +kernel) rfl rfl (Nat.le_of_ble_eq_true rfl) dX5_enter_29 (fun H locs hP hD hS => ?_)
    have hP : va_P D vwCl (wSt y rp rw rt cI cQ (ub P 3 (fun _ => (nI 1))) (upd n 3 (nI 1)) Wi Ti (nI (3 + 1))) H := hP
    have hD : va_D A (wSt y rp rw rt cI cQ (ub P 3 (fun _ => (nI 1))) (upd n 3 (nI 1)) Wi Ti (nI (3 + 1))) := hD
    refine lv_iload_n hx hb dX5_enter_32 rfl (lv_at hl 0 rfl) ?_
    have hP9 : va_P D vwCl (wSt y rp rw rt cI cQ (ub P 3 (fun _ => nI 1)) (upd n 3 (nI 1)) Wi Ti (nI (3 + 1))) H := (show va_P D vwCl (wSt y rp rw rt cI cQ (ub P 3 (fun _ => nI 1)) (upd n 3 (nI 1)) Wi Ti (nI (3 + 1))) H from hP)
    have hD9 : va_D A (wSt y rp rw rt cI cQ (ub P 3 (fun _ => nI 1)) (upd n 3 (nI 1)) Wi Ti (nI (3 + 1))) := (show va_D A (wSt y rp rw rt cI cQ (ub P 3 (fun _ => nI 1)) (upd n 3 (nI 1)) Wi Ti (nI (3 + 1))) from hD)
    exact W.iret (v := nI 3) hx hb hr (fun t9 ht9 hW9 => ⟨⟨nI 3, (), rfl, rfl, by rw [ht9]; exact hP9, hD9⟩, hS.F ht9⟩) hS.2.2 dX5_enter_33
  · refine lv_aload_n hx hb dX5_enter_0 rfl (lv_at hl 0 rfl) ?_
    refine va_get (D := D) (ci := 5) (v := .int (nI 4)) (C := RX5) (T := TX5) (N := 5) hx hb hts tu_X5 hown hSt.1 hP 0 rfl rfl 4 (by decide) (hts _ t1_92) (fun _ h9 => h9) rfl dX5_enter_1 ?_
    refine lv_istore_n (lv' := [(1, .int (nI 4)), (0, .ref (y 0))]) hx hb dX5_enter_4 rfl hl (by decide) rfl (fun ls hl => ?_)
    refine lv_aload_n hx hb dX5_enter_5 rfl (lv_at hl 1 rfl) ?_
    refine va_get (D := D) (ci := 5) (v := .ref (y 1)) (C := RX5) (T := TX5) (N := 5) hx hb hts tu_X5 hown hSt.1 hP 0 rfl rfl 0 (by decide) (hts _ t1_81) (fun _ h9 => h9) rfl dX5_enter_6 ?_
    refine lv_iload_n hx hb dX5_enter_9 rfl (lv_at hl 0 rfl) ?_
    refine r_aald (r := rp) hx hb hSt.1 hP 1 2 rfl rfl (k := 4) (by omega) dX5_enter_10 ?_
    refine lv_iconst (v := nI 1) hx hb dX5_enter_11 (by decide) ?_
    refine rw_v (wr := (([((y 0), .inr (5, [.ref (y 1), .ref (y 2), .ref (y 3), .ref (y 4), .int (nI 4)])), rq (y 1) cQ rp, ((y 2), .inl (cI, 7, .inl n)), rq (y 3) cQ rw, rq (y 4) cQ rt, (rp 0, .inl (cI, 5, .inl (P 0))), (rp 1, .inl (cI, 5, .inl (P 1))), (rp 2, .inl (cI, 5, .inl (P 2))), (rp 3, .inl (cI, 5, .inl (P 3))), (rp 5, .inl (cI, 5, .inl (P 5))), (rp 6, .inl (cI, 5, .inl (P 6)))] : va_W) ++ ((rb rw cI 7 Wi 7) ++ (rb rt cI 7 Ti 7)))) (w_SX (As := [.ref (rp 4), .int (nI 1)]) ⟨hx, hb, hml, hown, hts⟩ (c_J7_fill_53178 l D cI cZ cQ cJ (rp 4) 5 (P 4) (nI 1) H.size (by first | assumption | omega)) (gSX t3_49 t1_128 t1_6 t1_129) rfl rfl hd_J7_fill_53178 ⟨Nat.le_of_ble_eq_true rfl, Nat.le_of_ble_eq_true rfl⟩ (rw_pre hP hD hSt [9] rfl (by decide)) rfl hl.1 (rest := []) rfl (Nat.le_of_ble_eq_true rfl) dX5_enter_12 ⟨Nat.le_of_ble_eq_true rfl, Nat.le_of_ble_eq_true rfl⟩) hP hD hS hA [9] [0, 1, 2, 3, 4, 5, 6, 7, 8, 10, 11, 12, 13, 14, 15, 16, 17, 18, 19, 20, 21, 22, 23, 24, 25] rfl rfl (by decide) (by decide) (fun  u_5 H locs hw9 hP hD hS => ?_)
    have hP : va_P D vwCl (wSt y rp rw rt cI cQ (ub P 4 (fun _ => (nI 1))) n Wi Ti (nI 4)) H := hP.sub (ws' := wSt y rp rw rt cI cQ (ub P 4 (fun _ => (nI 1))) n Wi Ti (nI 4)) [0, 1, 2, 3, 4, 5, 6, 7, 8, 25, 9, 10, 11, 12, 13, 14, 15, 16, 17, 18, 19, 20, 21, 22, 23, 24] rfl
    have hD : va_D A (wSt y rp rw rt cI cQ (ub P 4 (fun _ => (nI 1))) n Wi Ti (nI 4)) := hD.sub (ws' := wSt y rp rw rt cI cQ (ub P 4 (fun _ => (nI 1))) n Wi Ti (nI 4)) [0, 1, 2, 3, 4, 5, 6, 7, 8, 25, 9, 10, 11, 12, 13, 14, 15, 16, 17, 18, 19, 20, 21, 22, 23, 24] (by decide) rfl
    refine lv_aload_n hx hb dX5_enter_15 rfl (lv_at hl 1 rfl) ?_
    refine va_get (D := D) (ci := 5) (v := .ref (y 2)) (C := RX5) (T := TX5) (N := 5) hx hb hts tu_X5 hown hSt.1 hP 0 rfl rfl 1 (by decide) (hts _ t1_83) (fun _ h9 => h9) rfl dX5_enter_16 ?_
    refine lv_iload_n hx hb dX5_enter_19 rfl (lv_at hl 0 rfl) ?_
    refine lv_iconst (v := nI 1) hx hb dX5_enter_20 (by decide) ?_
    refine r_iast hx hb hSt.1 hP hD hS 2 0 rfl rfl (k := 4) (by omega) (by omega) dX5_enter_21 (fun H locs hP hD hS => ?_)
    have hP : va_P D vwCl (wSt y rp rw rt cI cQ (ub P 4 (fun _ => (nI 1))) (upd n 4 (nI 1)) Wi Ti (nI 4)) H := hP
    have hD : va_D A (wSt y rp rw rt cI cQ (ub P 4 (fun _ => (nI 1))) (upd n 4 (nI 1)) Wi Ti (nI 4)) := hD
    refine lv_aload_n hx hb dX5_enter_22 rfl (lv_at hl 1 rfl) ?_
    refine lv_dup hx hb dX5_enter_23 rfl ?_
    refine va_get (D := D) (ci := 5) (v := .int (nI 4)) (C := RX5) (T := TX5) (N := 5) hx hb hts tu_X5 hown hSt.1 hP 0 rfl rfl 4 (by decide) (hts _ t1_92) (fun _ h9 => h9) rfl dX5_enter_24 ?_
    refine lv_iconst (v := nI 1) hx hb dX5_enter_27 (by decide) ?_
    refine r_addn hx hb dX5_enter_28 ?_
    refine va_put (D := D) (ci := 5) (v := .int (nI (4 + 1))) (ty := .int) (C := RX5) (T := TX5) (N := 5) hx hb hts tu_X5 tyX5 tyX5_ok nmX5 hown hSt.1 hP hD hS 0 rfl rfl 4 (by decide) (hts _ t1_92) (fun _ h9 => h9) rfl (by decide +kernel) rfl rfl (Nat.le_of_ble_eq_true rfl) dX5_enter_29 (fun H locs hP hD hS => ?_)
    have hP : va_P D vwCl (wSt y rp rw rt cI cQ (ub P 4 (fun _ => (nI 1))) (upd n 4 (nI 1)) Wi Ti (nI (4 + 1))) H := hP
    have hD : va_D A (wSt y rp rw rt cI cQ (ub P 4 (fun _ => (nI 1))) (upd n 4 (nI 1)) Wi Ti (nI (4 + 1))) := hD
    refine lv_iload_n hx hb dX5_enter_32 rfl (lv_at hl 0 rfl) ?_
    have hP9 : va_P D vwCl (wSt y rp rw rt cI cQ (ub P 4 (fun _ => nI 1)) (upd n 4 (nI 1)) Wi Ti (nI (4 + 1))) H := (show va_P D vwCl (wSt y rp rw rt cI cQ (ub P 4 (fun _ => nI 1)) (upd n 4 (nI 1)) Wi Ti (nI (4 + 1))) H from hP)
    have hD9 : va_D A (wSt y rp rw rt cI cQ (ub P 4 (fun _ => nI 1)) (upd n 4 (nI 1)) Wi Ti (nI (4 + 1))) := (show va_D A (wSt y rp rw rt cI cQ (ub P 4 (fun _ => nI 1)) (upd n 4 (nI 1)) Wi Ti (nI (4 + 1))) from hD)
    exact W.iret (v := nI 4) hx hb hr (fun t9 ht9 hW9 => ⟨⟨nI 4, (), rfl, rfl, by rw [ht9]; exact hP9, hD9⟩, hS.F ht9⟩) hS.2.2 dX5_enter_33
  · refine lv_aload_n hx hb dX5_enter_0 rfl (lv_at hl 0 rfl) ?_
    refine va_get (D := D) (ci := 5) (v := .int (nI 5)) (C := RX5) (T := TX5) (N := 5) hx hb hts tu_X5 hown hSt.1 hP 0 rfl rfl 4 (by decide) (hts _ t1_92) (fun _ h9 => h9) rfl dX5_enter_1 ?_
    refine lv_istore_n (lv' := [(1, .int (nI 5)), (0, .ref (y 0))]) hx hb dX5_enter_4 rfl hl (by decide) rfl (fun ls hl => ?_)
    refine lv_aload_n hx hb dX5_enter_5 rfl (lv_at hl 1 rfl) ?_
    refine va_get (D := D) (ci := 5) (v := .ref (y 1)) (C := RX5) (T := TX5) (N := 5) hx hb hts tu_X5 hown hSt.1 hP 0 rfl rfl 0 (by decide) (hts _ t1_81) (fun _ h9 => h9) rfl dX5_enter_6 ?_
    refine lv_iload_n hx hb dX5_enter_9 rfl (lv_at hl 0 rfl) ?_
    refine r_aald (r := rp) hx hb hSt.1 hP 1 2 rfl rfl (k := 5) (by omega) dX5_enter_10 ?_
    refine lv_iconst (v := nI 1) hx hb dX5_enter_11 (by decide) ?_
    refine rw_v (wr := (([((y 0), .inr (5, [.ref (y 1), .ref (y 2), .ref (y 3), .ref (y 4), .int (nI 5)])), rq (y 1) cQ rp, ((y 2), .inl (cI, 7, .inl n)), rq (y 3) cQ rw, rq (y 4) cQ rt, (rp 0, .inl (cI, 5, .inl (P 0))), (rp 1, .inl (cI, 5, .inl (P 1))), (rp 2, .inl (cI, 5, .inl (P 2))), (rp 3, .inl (cI, 5, .inl (P 3))), (rp 4, .inl (cI, 5, .inl (P 4))), (rp 6, .inl (cI, 5, .inl (P 6)))] : va_W) ++ ((rb rw cI 7 Wi 7) ++ (rb rt cI 7 Ti 7)))) (w_SX (As := [.ref (rp 5), .int (nI 1)]) ⟨hx, hb, hml, hown, hts⟩ (c_J7_fill_53178 l D cI cZ cQ cJ (rp 5) 5 (P 5) (nI 1) H.size (by first | assumption | omega)) (gSX t3_49 t1_128 t1_6 t1_129) rfl rfl hd_J7_fill_53178 ⟨Nat.le_of_ble_eq_true rfl, Nat.le_of_ble_eq_true rfl⟩ (rw_pre hP hD hSt [10] rfl (by decide)) rfl hl.1 (rest := []) rfl (Nat.le_of_ble_eq_true rfl) dX5_enter_12 ⟨Nat.le_of_ble_eq_true rfl, Nat.le_of_ble_eq_true rfl⟩) hP hD hS hA [10] [0, 1, 2, 3, 4, 5, 6, 7, 8, 9, 11, 12, 13, 14, 15, 16, 17, 18, 19, 20, 21, 22, 23, 24, 25] rfl rfl (by decide) (by decide) (fun  u_6 H locs hw9 hP hD hS => ?_)
    have hP : va_P D vwCl (wSt y rp rw rt cI cQ (ub P 5 (fun _ => (nI 1))) n Wi Ti (nI 5)) H := hP.sub (ws' := wSt y rp rw rt cI cQ (ub P 5 (fun _ => (nI 1))) n Wi Ti (nI 5)) [0, 1, 2, 3, 4, 5, 6, 7, 8, 9, 25, 10, 11, 12, 13, 14, 15, 16, 17, 18, 19, 20, 21, 22, 23, 24] rfl
    have hD : va_D A (wSt y rp rw rt cI cQ (ub P 5 (fun _ => (nI 1))) n Wi Ti (nI 5)) := hD.sub (ws' := wSt y rp rw rt cI cQ (ub P 5 (fun _ => (nI 1))) n Wi Ti (nI 5)) [0, 1, 2, 3, 4, 5, 6, 7, 8, 9, 25, 10, 11, 12, 13, 14, 15, 16, 17, 18, 19, 20, 21, 22, 23, 24] (by decide) rfl
    refine lv_aload_n hx hb dX5_enter_15 rfl (lv_at hl 1 rfl) ?_
    refine va_get (D := D) (ci := 5) (v := .ref (y 2)) (C := RX5) (T := TX5) (N := 5) hx hb hts tu_X5 hown hSt.1 hP 0 rfl rfl 1 (by decide) (hts _ t1_83) (fun _ h9 => h9) rfl dX5_enter_16 ?_
    refine lv_iload_n hx hb dX5_enter_19 rfl (lv_at hl 0 rfl) ?_
    refine lv_iconst (v := nI 1) hx hb dX5_enter_20 (by decide) ?_
    refine r_iast hx hb hSt.1 hP hD hS 2 0 rfl rfl (k := 5) (by omega) (by omega) dX5_enter_21 (fun H locs hP hD hS => ?_)
    have hP : va_P D vwCl (wSt y rp rw rt cI cQ (ub P 5 (fun _ => (nI 1))) (upd n 5 (nI 1)) Wi Ti (nI 5)) H := hP
    have hD : va_D A (wSt y rp rw rt cI cQ (ub P 5 (fun _ => (nI 1))) (upd n 5 (nI 1)) Wi Ti (nI 5)) := hD
    refine lv_aload_n hx hb dX5_enter_22 rfl (lv_at hl 1 rfl) ?_
    refine lv_dup hx hb dX5_enter_23 rfl ?_
    refine va_get (D := D) (ci := 5) (v := .int (nI 5)) (C := RX5) (T := TX5) (N := 5) hx hb hts tu_X5 hown hSt.1 hP 0 rfl rfl 4 (by decide) (hts _ t1_92) (fun _ h9 => h9) rfl dX5_enter_24 ?_
    refine lv_iconst (v := nI 1) hx hb dX5_enter_27 (by decide) ?_
    refine r_addn hx hb dX5_enter_28 ?_
    refine va_put (D := D) (ci := 5) (v := .int (nI (5 + 1))) (ty := .int) (C := RX5) (T := TX5) (N := 5) hx hb hts tu_X5 tyX5 tyX5_ok nmX5 hown hSt.1 hP hD hS 0 rfl rfl 4 (by decide) (hts _ t1_92) (fun _ h9 => h9) rfl (by decide +kernel) rfl rfl (Nat.le_of_ble_eq_true rfl) dX5_enter_29 (fun H locs hP hD hS => ?_)
    have hP : va_P D vwCl (wSt y rp rw rt cI cQ (ub P 5 (fun _ => (nI 1))) (upd n 5 (nI 1)) Wi Ti (nI (5 + 1))) H := hP
    have hD : va_D A (wSt y rp rw rt cI cQ (ub P 5 (fun _ => (nI 1))) (upd n 5 (nI 1)) Wi Ti (nI (5 + 1))) := hD
    refine lv_iload_n hx hb dX5_enter_32 rfl (lv_at hl 0 rfl) ?_
    have hP9 : va_P D vwCl (wSt y rp rw rt cI cQ (ub P 5 (fun _ => nI 1)) (upd n 5 (nI 1)) Wi Ti (nI (5 + 1))) H := (show va_P D vwCl (wSt y rp rw rt cI cQ (ub P 5 (fun _ => nI 1)) (upd n 5 (nI 1)) Wi Ti (nI (5 + 1))) H from hP)
    have hD9 : va_D A (wSt y rp rw rt cI cQ (ub P 5 (fun _ => nI 1)) (upd n 5 (nI 1)) Wi Ti (nI (5 + 1))) := (show va_D A (wSt y rp rw rt cI cQ (ub P 5 (fun _ => nI 1)) (upd n 5 (nI 1)) Wi Ti (nI (5 + 1))) from hD)
    exact W.iret (v := nI 5) hx hb hr (fun t9 ht9 hW9 => ⟨⟨nI 5, (), rfl, rfl, by rw [ht9]; exact hP9, hD9⟩, hS.F ht9⟩) hS.2.2 dX5_enter_33
  · refine lv_aload_n hx hb dX5_enter_0 rfl (lv_at hl 0 rfl) ?_
    refine va_get (D := D) (ci := 5) (v := .int (nI 6)) (C := RX5) (T := TX5) (N := 5) hx hb hts tu_X5 hown hSt.1 hP 0 rfl rfl 4 (by decide) (hts _ t1_92) (fun _ h9 => h9) rfl dX5_enter_1 ?_
    refine lv_istore_n (lv' := [(1, .int (nI 6)), (0, .ref (y 0))]) hx hb dX5_enter_4 rfl hl (by decide) rfl (fun ls hl => ?_)
    refine lv_aload_n hx hb dX5_enter_5 rfl (lv_at hl 1 rfl) ?_
    refine va_get (D := D) (ci := 5) (v := .ref (y 1)) (C := RX5) (T := TX5) (N := 5) hx hb hts tu_X5 hown hSt.1 hP 0 rfl rfl 0 (by decide) (hts _ t1_81) (fun _ h9 => h9) rfl dX5_enter_6 ?_
    refine lv_iload_n hx hb dX5_enter_9 rfl (lv_at hl 0 rfl) ?_
    refine r_aald (r := rp) hx hb hSt.1 hP 1 2 rfl rfl (k := 6) (by omega) dX5_enter_10 ?_
    refine lv_iconst (v := nI 1) hx hb dX5_enter_11 (by decide) ?_
    refine rw_v (wr := (([((y 0), .inr (5, [.ref (y 1), .ref (y 2), .ref (y 3), .ref (y 4), .int (nI 6)])), rq (y 1) cQ rp, ((y 2), .inl (cI, 7, .inl n)), rq (y 3) cQ rw, rq (y 4) cQ rt, (rp 0, .inl (cI, 5, .inl (P 0))), (rp 1, .inl (cI, 5, .inl (P 1))), (rp 2, .inl (cI, 5, .inl (P 2))), (rp 3, .inl (cI, 5, .inl (P 3))), (rp 4, .inl (cI, 5, .inl (P 4))), (rp 5, .inl (cI, 5, .inl (P 5)))] : va_W) ++ ((rb rw cI 7 Wi 7) ++ (rb rt cI 7 Ti 7)))) (w_SX (As := [.ref (rp 6), .int (nI 1)]) ⟨hx, hb, hml, hown, hts⟩ (c_J7_fill_53178 l D cI cZ cQ cJ (rp 6) 5 (P 6) (nI 1) H.size (by first | assumption | omega)) (gSX t3_49 t1_128 t1_6 t1_129) rfl rfl hd_J7_fill_53178 ⟨Nat.le_of_ble_eq_true rfl, Nat.le_of_ble_eq_true rfl⟩ (rw_pre hP hD hSt [11] rfl (by decide)) rfl hl.1 (rest := []) rfl (Nat.le_of_ble_eq_true rfl) dX5_enter_12 ⟨Nat.le_of_ble_eq_true rfl, Nat.le_of_ble_eq_true rfl⟩) hP hD hS hA [11] [0, 1, 2, 3, 4, 5, 6, 7, 8, 9, 10, 12, 13, 14, 15, 16, 17, 18, 19, 20, 21, 22, 23, 24, 25] rfl rfl (by decide) (by decide) (fun  u_7 H locs hw9 hP hD hS => ?_)
    have hP : va_P D vwCl (wSt y rp rw rt cI cQ (ub P 6 (fun _ => (nI 1))) n Wi Ti (nI 6)) H := hP.sub (ws' := wSt y rp rw rt cI cQ (ub P 6 (fun _ => (nI 1))) n Wi Ti (nI 6)) [0, 1, 2, 3, 4, 5, 6, 7, 8, 9, 10, 25, 11, 12, 13, 14, 15, 16, 17, 18, 19, 20, 21, 22, 23, 24] rfl
    have hD : va_D A (wSt y rp rw rt cI cQ (ub P 6 (fun _ => (nI 1))) n Wi Ti (nI 6)) := hD.sub (ws' := wSt y rp rw rt cI cQ (ub P 6 (fun _ => (nI 1))) n Wi Ti (nI 6)) [0, 1, 2, 3, 4, 5, 6, 7, 8, 9, 10, 25, 11, 12, 13, 14, 15, 16, 17, 18, 19, 20, 21, 22, 23, 24] (by decide) rfl
    refine lv_aload_n hx hb dX5_enter_15 rfl (lv_at hl 1 rfl) ?_
    refine va_get (D := D) (ci := 5) (v := .ref (y 2)) (C := RX5) (T := TX5) (N := 5) hx hb hts tu_X5 hown hSt.1 hP 0 rfl rfl 1 (by decide) (hts _ t1_83) (fun _ h9 => h9) rfl dX5_enter_16 ?_
    refine lv_iload_n hx hb dX5_enter_19 rfl (lv_at hl 0 rfl) ?_
    refine lv_iconst (v := nI 1) hx hb dX5_enter_20 (by decide) ?_
    refine r_iast hx hb hSt.1 hP hD hS 2 0 rfl rfl (k := 6) (by omega) (by omega) dX5_enter_21 (fun H locs hP hD hS => ?_)
    have hP : va_P D vwCl (wSt y rp rw rt cI cQ (ub P 6 (fun _ => (nI 1))) (upd n 6 (nI 1)) Wi Ti (nI 6)) H := hP
    have hD : va_D A (wSt y rp rw rt cI cQ (ub P 6 (fun _ => (nI 1))) (upd n 6 (nI 1)) Wi Ti (nI 6)) := hD
    refine lv_aload_n hx hb dX5_enter_22 rfl (lv_at hl 1 rfl) ?_
    refine lv_dup hx hb dX5_enter_23 rfl ?_
    refine va_get (D := D) (ci := 5) (v := .int (nI 6)) (C := RX5) (T := TX5) (N := 5) hx hb hts tu_X5 hown hSt.1 hP 0 rfl rfl 4 (by decide) (hts _ t1_92) (fun _ h9 => h9) rfl dX5_enter_24 ?_
    refine lv_iconst (v := nI 1) hx hb dX5_enter_27 (by decide) ?_
    refine r_addn hx hb dX5_enter_28 ?_
    refine va_put (D := D) (ci := 5) (v := .int (nI (6 + 1))) (ty := .int) (C := RX5) (T := TX5) (N := 5) hx hb hts tu_X5 tyX5 tyX5_ok nmX5 hown hSt.1 hP hD hS 0 rfl rfl 4 (by decide) (hts _ t1_92) (fun _ h9 => h9) rfl (by decide +kernel) rfl rfl (Nat.le_of_ble_eq_true rfl) dX5_enter_29 (fun H locs hP hD hS => ?_)
    have hP : va_P D vwCl (wSt y rp rw rt cI cQ (ub P 6 (fun _ => (nI 1))) (upd n 6 (nI 1)) Wi Ti (nI (6 + 1))) H := hP
    have hD : va_D A (wSt y rp rw rt cI cQ (ub P 6 (fun _ => (nI 1))) (upd n 6 (nI 1)) Wi Ti (nI (6 + 1))) := hD
    refine lv_iload_n hx hb dX5_enter_32 rfl (lv_at hl 0 rfl) ?_
    have hP9 : va_P D vwCl (wSt y rp rw rt cI cQ (ub P 6 (fun _ => nI 1)) (upd n 6 (nI 1)) Wi Ti (nI (6 + 1))) H := (show va_P D vwCl (wSt y rp rw rt cI cQ (ub P 6 (fun _ => nI 1)) (upd n 6 (nI 1)) Wi Ti (nI (6 + 1))) H from hP)
    have hD9 : va_D A (wSt y rp rw rt cI cQ (ub P 6 (fun _ => nI 1)) (upd n 6 (nI 1)) Wi Ti (nI (6 + 1))) := (show va_D A (wSt y rp rw rt cI cQ (ub P 6 (fun _ => nI 1)) (upd n 6 (nI 1)) Wi Ti (nI (6 + 1))) from hD)
    exact W.iret (v := nI 6) hx hb hr (fun t9 ht9 hW9 => ⟨⟨nI 6, (), rfl, rfl, by rw [ht9]; exact hP9, hD9⟩, hS.F ht9⟩) hS.2.2 dX5_enter_33
set_option maxHeartbeats 4000000 in
set_option maxRecDepth 100000 in
/-- the need with other people on a day -/
theorem c_X5_needWith (l : Launch) (D : va_G) (cI cZ cQ cJ : ClassId) (y : Nat → Nat) (rp : Nat → Nat) (rw : Nat → Nat) (rt : Nat → Nat) (P : Nat → Nat → Int32) (n : Nat → Int32) (Wi : Nat → Nat → Int32) (Ti : Nat → Nat → Int32) (nt : Int32) (t : Nat) (d : Nat) (v : Int32) (ht : t < 7) (hd : d < 5) : Met l yX5_needWith (.code yX5_needWith cX5_needWith 6 (some .int) :: ALL) ({ frames := 1, cells := 0, slots := 0, locals := 24 } : Room) (va_Pc [.ref (y 0), .int (nI t), .int (nI d), .int v] (ro_P D cI cZ cQ cJ (wSt y rp rw rt cI cQ P n Wi Ti nt))) (vp_Si (fun r9 => r9 = mxN (P t) d v 5)) 0 0 (fun _ => False) := by
  refine Met.ofW (cc := cX5_needWith) (maxL := 6) (ret := (some .int)) (by decide) rfl ?_
  intro p e s m args below meth c s₁ B hml hv
  obtain ⟨rfl, hP, hSt⟩ := hv
  have hx := B.exec
  have hb := B.bytes
  have hr := B.returns
  have hts : ∀ w ∈ ALL, w.before ([.ref (y 0), .int (nI t), .int (nI d), .int v] : List Value).toArray s = true := fun w h => atoms_spec (ws := (.code yX5_needWith cX5_needWith 6 (some .int) :: ALL)) B.pre w (List.mem_cons_of_mem _ h)
  have hown : s.vm.findClass RX5 = some m.cls := findClass_of_methodNamed B.named
  have hlocks := B.notSynchronized
  have hl := lv_entry ([.ref (y 0), .int (nI t), .int (nI d), .int v]) (n := 6) (Nat.le_of_ble_eq_true rfl)
  rw [lg_entry_eq]
  generalize (lg_sl ([.ref (y 0), .int (nI t), .int (nI d), .int v]) ++ List.replicate (6 - (lg_sl ([.ref (y 0), .int (nI t), .int (nI d), .int v])).length) Slot.unset).toArray = ls at hl ⊢
  have hl : lv_has ls 6 [(0, .ref (y 0)), (1, .int (nI t)), (2, .int (nI d)), (3, .int v)] := hl
  refine lv_iload_n hx hb dX5_needWith_0 rfl (lv_at hl 3 rfl) ?_
  refine lv_istore (lv' := [(4, .int v), (0, .ref (y 0)), (1, .int (nI t)), (2, .int (nI d)), (3, .int v)]) hx hb dX5_needWith_1 hl (by decide) rfl (fun ls hl => ?_)
  refine lv_iconst (v := nI 0) hx hb dX5_needWith_3 (by decide) ?_
  refine lv_istore (lv' := [(5, .int (nI 0)), (4, .int v), (0, .ref (y 0)), (1, .int (nI t)), (2, .int (nI d)), (3, .int v)]) hx hb dX5_needWith_4 hl (by decide) rfl (fun ls hl => ?_)
  have L6 : ∀ (n9 : Nat) (i : Nat) (m1 : Int32), (i ≤ 5) → (m1 = mxN (P t) d v i) → (5 - i) < n9 → ∀ (ls : Array Slot), lv_has ls 6 [(0, .ref (y 0)), (1, .int (nI t)), (2, .int (nI d)), (3, .int v), (4, .int m1), (5, .int (nI i))] → W p l e ({ frames := 1, cells := 0, slots := 0, locals := 24 } : Room) s m ([.ref (y 0), .int (nI t), .int (nI d), .int v] : List Value).toArray below meth c s.heap [] 0 0 (MQ below (vp_Si (fun r9 => r9 = mxN (P t) d v 5)) ([.ref (y 0), .int (nI t), .int (nI d), .int v] : List Value).toArray s 0 0 (fun _ => False)) (F0 m 6 ls []) := by
    intro n9
    induction n9 with
    | zero =>
      intro i m1 hi hm1 hm
      exact absurd hm (by omega)
    | succ n9 ih =>
      intro i m1 hi hm1 hm ls hl
      have ih_L6 := ih
      refine lv_iload hx hb dX5_needWith_6 (lv_at hl 5 rfl) ?_
      refine lv_iconst (v := nI 5) hx hb dX5_needWith_8 (by decide) ?_
      refine lv_icmp_ge (tgt := 40) hx hb dX5_needWith_9 (by decide) (fun c_1 => ?_) (fun c_1 => ?_)
      · have c_1 := z_le (by omega) (by omega) c_1
        refine lv_iload hx hb dX5_needWith_40 (lv_at hl 4 rfl) ?_
        exact W.iret (v := m1) hx hb hr (fun t9 ht9 hW9 => ⟨_, rfl, (by rw [hm1, show i = 5 by omega]), ht9⟩) (fun q h => nomatch h) dX5_needWith_42
      · have c_1 := z_nle (by omega) (by omega) c_1
        refine lv_iload hx hb dX5_needWith_12 (lv_at hl 5 rfl) ?_
        refine lv_iload_n hx hb dX5_needWith_14 rfl (lv_at hl 2 rfl) ?_
        refine lv_icmp_eq (tgt := 34) hx hb dX5_needWith_15 (by decide) (fun c_2 => ?_) (fun c_2 => ?_)
        · have c_2 := z_eq (by omega) (by omega) c_2
          refine lv_iinc (v := nI (i + 1)) (lv' := [(5, .int (nI (i + 1))), (0, .ref (y 0)), (1, .int (nI t)), (2, .int (nI d)), (3, .int v), (4, .int m1)]) hx hb dX5_needWith_34 hl (k := 5) rfl (z_inc _) (by decide) rfl (fun ls hl => ?_)
          refine lv_goto (tgt := 6) hx hb dX5_needWith_37 (by decide) ?_
          exact ih_L6 (i + 1) m1 (by omega) (by rw [mxN, if_pos c_2]; exact hm1) (by omega) _ (lv_sub hl [1, 2, 3, 4, 5, 0] rfl)
        · have c_2 := z_ne (by omega) (by omega) c_2
          refine lv_iload hx hb dX5_needWith_18 (lv_at hl 4 rfl) ?_
          refine lv_aload_n hx hb dX5_needWith_20 rfl (lv_at hl 0 rfl) ?_
          refine va_get (D := D) (ci := 5) (v := .ref (y 1)) (C := RX5) (T := TX5) (N := 5) hx hb hts tu_X5 hown hSt.1 hP 0 rfl rfl 0 (by decide) (hts _ t1_81) (fun _ h9 => h9) rfl dX5_needWith_21 ?_
          refine lv_iload_n hx hb dX5_needWith_24 rfl (lv_at hl 1 rfl) ?_
          refine r_aald (r := rp) hx hb hSt.1 hP 1 2 rfl rfl (k := t) (by omega) dX5_needWith_25 ?_
          refine lv_iload hx hb dX5_needWith_26 (lv_at hl 5 rfl) ?_
          refine r_iald hx hb hSt.1 hP _ 0 (f := P t) (wSt_P (k := t) (by omega)) rfl (k := i) (by omega) (by omega) dX5_needWith_28 ?_
          refine va_mmax hx hb (by rw [hml]; exact hl.1.symm) hown (hts _ t3_3) (hts _ t3_4) (hts _ t1_17) (hts _ t3_5) (Nat.le_of_ble_eq_true rfl) (Nat.le_of_ble_eq_true rfl) (Nat.zero_le _) (Nat.zero_le _) dX5_needWith_29 ?_
          refine lv_istore (lv' := [(4, .int (if m1 < P t i then P t i else m1)), (0, .ref (y 0)), (1, .int (nI t)), (2, .int (nI d)), (3, .int v), (5, .int (nI i))]) hx hb dX5_needWith_32 hl (by decide) rfl (fun ls hl => ?_)
          refine lv_iinc (v := nI (i + 1)) (lv' := [(5, .int (nI (i + 1))), (4, .int (if m1 < P t i then P t i else m1)), (0, .ref (y 0)), (1, .int (nI t)), (2, .int (nI d)), (3, .int v)]) hx hb dX5_needWith_34 hl (k := 5) rfl (z_inc _) (by decide) rfl (fun ls hl => ?_)
          refine lv_goto (tgt := 6) hx hb dX5_needWith_37 (by decide) ?_
          exact ih_L6 (i + 1) (if m1 < P t i then P t i else m1) (by omega) (by rw [mxN, if_neg c_2, ← hm1]) (by omega) _ (lv_sub hl [2, 3, 4, 5, 1, 0] rfl)
  exact L6 _ 0 v (by omega) rfl (Nat.lt_succ_self _) _ (lv_sub hl [2, 3, 4, 5, 1, 0] rfl)
theorem hd_X5_enter : yX5_enter.cls = RX5 ∧ yX5_enter.cls ≠ "java/lang/invoke/MethodHandle" ∧ yX5_enter.cls ≠ "java/lang/invoke/VarHandle" ∧ (parseMethodDescriptor yX5_enter.desc).map (fun d => d.parameters.length) = some 0 := by decide +kernel
theorem hd_X5_needWith : yX5_needWith.cls = RX5 ∧ yX5_needWith.cls ≠ "java/lang/invoke/MethodHandle" ∧ yX5_needWith.cls ≠ "java/lang/invoke/VarHandle" ∧ (parseMethodDescriptor yX5_needWith.desc).map (fun d => d.parameters.length) = some 3 := by decide +kernel
set_option maxHeartbeats 4000000 in
set_option maxRecDepth 100000 in
/-- people on a day -/
theorem c_X5_changePresent (l : Launch) (D : va_G) (cI cZ cQ cJ : ClassId) (y : Nat → Nat) (rp : Nat → Nat) (rw : Nat → Nat) (rt : Nat → Nat) (P : Nat → Nat → Int32) (n : Nat → Int32) (Wi : Nat → Nat → Int32) (Ti : Nat → Nat → Int32) (nt : Int32) (t : Nat) (d : Nat) (v : Int32) (sz : Nat) (ht : t < 7) (hd : d < 5) : Met l yX5_changePresent (.code yX5_changePresent cX5_changePresent 5 (some .int) :: ALL) ({ frames := 2, cells := 0, slots := 0, locals := 49 } : Room) (va_Pc [.ref (y 0), .int (nI t), .int (nI d), .int v] (rw_P D cI cZ cQ cJ (wSt y rp rw rt cI cQ P n Wi Ti nt) sz)) (va_Qi (fun (r9 : Int32) (u9 : Unit) => (r9 = (P t d))) (rw_B D (va_A (wSt y rp rw rt cI cQ P n Wi Ti nt) sz) (fun u9 : Unit => wSt y rp rw rt cI cQ (u2 P t d v) (upd n t (mxN (P t) d v 5)) Wi Ti nt)) (va_A (wSt y rp rw rt cI cQ P n Wi Ti nt) sz)) 0 0 (va_A (wSt y rp rw rt cI cQ P n Wi Ti nt) sz) := by
  refine Met.ofW (cc := cX5_changePresent) (maxL := 5) (ret := (some .int)) (by decide) rfl ?_
  intro p e s m args below meth c s₁ B hml hv
  obtain ⟨rfl, hsz, hP, hSt, hD0⟩ := hv
  have hx := B.exec
  have hb := B.bytes
  have hr := B.returns
  have hts : ∀ w ∈ ALL, w.before ([.ref (y 0), .int (nI t), .int (nI d), .int v] : List Value).toArray s = true := fun w h => atoms_spec (ws := (.code yX5_changePresent cX5_changePresent 5 (some .int) :: ALL)) B.pre w (List.mem_cons_of_mem _ h)
  have hown : s.vm.findClass RX5 = some m.cls := findClass_of_methodNamed B.named
  have hlocks := B.notSynchronized
  subst hsz
  have hD := hD0.self (sz := s.heap.size)
  clear hD0
  generalize hAe : va_A (wSt y rp rw rt cI cQ P n Wi Ti nt) s.heap.size = A at hD ⊢
  have hA : ∀ q : Nat, s.heap.size ≤ q → A q := fun q h => by rw [← hAe]; exact Or.inr h
  have hS : va_S A s.heap s.heap [] := va_S.rf
  have hl := lv_entry ([.ref (y 0), .int (nI t), .int (nI d), .int v]) (n := 5) (Nat.le_of_ble_eq_true rfl)
  rw [lg_entry_eq]
  generalize (lg_sl ([.ref (y 0), .int (nI t), .int (nI d), .int v]) ++ List.replicate (5 - (lg_sl ([.ref (y 0), .int (nI t), .int (nI d), .int v])).length) Slot.unset).toArray = ls at hl ⊢
  have hl : lv_has ls 5 [(0, .ref (y 0)), (1, .int (nI t)), (2, .int (nI d)), (3, .int v)] := hl
  obtain ⟨H, hHe⟩ : ∃ H : Heap, H = s.heap := ⟨_, rfl⟩
  obtain ⟨locs, hLe⟩ : ∃ L : List Loc, L = [] := ⟨_, rfl⟩
  have hP : va_P D vwCl (wSt y rp rw rt cI cQ P n Wi Ti nt) H := by rw [hHe]; exact hP
  have hS : va_S A s.heap H locs := by rw [hHe, hLe]; exact hS
  refine W.eqHL hHe hLe ?_
  refine lv_aload_n hx hb dX5_changePresent_0 rfl (lv_at hl 0 rfl) ?_
  refine va_get (D := D) (ci := 5) (v := .ref (y 1)) (C := RX5) (T := TX5) (N := 5) hx hb hts tu_X5 hown hSt.1 hP 0 rfl rfl 0 (by decide) (hts _ t1_81) (fun _ h9 => h9) rfl dX5_changePresent_1 ?_
  refine lv_iload_n hx hb dX5_changePresent_4 rfl (lv_at hl 1 rfl) ?_
  refine r_aald (r := rp) hx hb hSt.1 hP 1 2 rfl rfl (k := t) (by omega) dX5_changePresent_5 ?_
  refine lv_iload_n hx hb dX5_changePresent_6 rfl (lv_at hl 2 rfl) ?_
  refine r_iald hx hb hSt.1 hP _ 0 (f := P t) (wSt_P (k := t) (by omega)) rfl (k := d) (by omega) (by omega) dX5_changePresent_7 ?_
  refine lv_istore (lv' := [(4, .int (P t d)), (0, .ref (y 0)), (1, .int (nI t)), (2, .int (nI d)), (3, .int v)]) hx hb dX5_changePresent_8 hl (by decide) rfl (fun ls hl => ?_)
  refine lv_aload_n hx hb dX5_changePresent_10 rfl (lv_at hl 1 rfl) ?_
  refine va_get (D := D) (ci := 5) (v := .ref (y 2)) (C := RX5) (T := TX5) (N := 5) hx hb hts tu_X5 hown hSt.1 hP 0 rfl rfl 1 (by decide) (hts _ t1_83) (fun _ h9 => h9) rfl dX5_changePresent_11 ?_
  refine lv_iload_n hx hb dX5_changePresent_14 rfl (lv_at hl 2 rfl) ?_
  refine lv_aload_n hx hb dX5_changePresent_15 rfl (lv_at hl 1 rfl) ?_
  refine lv_iload_n hx hb dX5_changePresent_16 rfl (lv_at hl 2 rfl) ?_
  refine lv_iload_n hx hb dX5_changePresent_17 rfl (lv_at hl 3 rfl) ?_
  refine lv_iload_n hx hb dX5_changePresent_18 rfl (lv_at hl 4 rfl) ?_
  refine ro_V (As := [.int (nI t), .int (nI d), .int v]) (rest := [.int (nI t), .ref (y 2)]) (v := mxN (P t) d v 5) ⟨hx, hb, hml, hown, hts⟩ (c_X5_needWith l D cI cZ cQ cJ y rp rw rt P n Wi Ti nt t d v (by first | assumption | omega) (by first | assumption | omega)) (gV t3_11 t3_0 t3_1 t1_4 t3_2) rfl rfl hd_X5_needWith ⟨Nat.le_of_ble_eq_true rfl, Nat.le_of_ble_eq_true rfl⟩ hP hSt (va_recv hSt.1 hP (ci := 5) (q0 := 0) rfl rfl) rfl hl.1 rfl (Nat.le_of_ble_eq_true rfl) dX5_changePresent_19 (Nat.zero_le _) (Nat.zero_le _) ?_
  refine r_iast hx hb hSt.1 hP hD hS 2 0 rfl rfl (k := t) (by omega) (by omega) dX5_changePresent_22 (fun H locs hP hD hS => ?_)
  have hP : va_P D vwCl (wSt y rp rw rt cI cQ P (upd n t (mxN (P t) d v 5)) Wi Ti nt) H := hP
  have hD : va_D A (wSt y rp rw rt cI cQ P (upd n t (mxN (P t) d v 5)) Wi Ti nt) := hD
  refine lv_aload_n hx hb dX5_changePresent_23 rfl (lv_at hl 1 rfl) ?_
  refine va_get (D := D) (ci := 5) (v := .ref (y 1)) (C := RX5) (T := TX5) (N := 5) hx hb hts tu_X5 hown hSt.1 hP 0 rfl rfl 0 (by decide) (hts _ t1_81) (fun _ h9 => h9) rfl dX5_changePresent_24 ?_
  refine lv_iload_n hx hb dX5_changePresent_27 rfl (lv_at hl 2 rfl) ?_
  refine r_aald (r := rp) hx hb hSt.1 hP 1 2 rfl rfl (k := t) (by omega) dX5_changePresent_28 ?_
  refine lv_iload_n hx hb dX5_changePresent_29 rfl (lv_at hl 3 rfl) ?_
  refine lv_iload_n hx hb dX5_changePresent_30 rfl (lv_at hl 4 rfl) ?_
  refine r_iast hx hb hSt.1 hP hD hS _ 0 (f := P t) (wSt_P (k := t) (by omega)) rfl (k := d) (by omega) (by omega) dX5_changePresent_31 (fun H locs hP hD hS => ?_)
  have hP : va_P D vwCl (wSt y rp rw rt cI cQ (u2 P t d v) (upd n t (mxN (P t) d v 5)) Wi Ti nt) H := P_eq (wSt_Ps (k := t) (j := d) (v := v) (by omega)) hP
  have hD : va_D A (wSt y rp rw rt cI cQ (u2 P t d v) (upd n t (mxN (P t) d v 5)) Wi Ti nt) := D_eq (wSt_Ps (k := t) (j := d) (v := v) (by omega)) hD
  refine lv_iload hx hb dX5_changePresent_32 (lv_at hl 0 rfl) ?_
  have hP9 : va_P D vwCl (wSt y rp rw rt cI cQ (u2 P t d v) (upd n t (mxN (P t) d v 5)) Wi Ti nt) H := hP
  have hD9 : va_D A (wSt y rp rw rt cI cQ (u2 P t d v) (upd n t (mxN (P t) d v 5)) Wi Ti nt) := hD
  exact W.iret (v := P t d) hx hb hr (fun t9 ht9 hW9 => ⟨⟨P t d, (), rfl, rfl, by rw [ht9]; exact hP9, hD9⟩, hS.F ht9⟩) hS.2.2 dX5_changePresent_34
set_option maxHeartbeats 4000000 in
set_option maxRecDepth 100000 in
/-- a tie -/
theorem c_X5_changeTie (l : Launch) (D : va_G) (cI cZ cQ cJ : ClassId) (y : Nat → Nat) (rp : Nat → Nat) (rw : Nat → Nat) (rt : Nat → Nat) (P : Nat → Nat → Int32) (n : Nat → Int32) (Wi : Nat → Nat → Int32) (Ti : Nat → Nat → Int32) (nt : Int32) (t : Nat) (o : Nat) (v : Int32) (sz : Nat) (ht : t < 7) (ho : o < 7) : Met l yX5_changeTie (.code yX5_changeTie cX5_changeTie 5 (some .int) :: ALL) ({ frames := 0, cells := 0, slots := 0, locals := 0 } : Room) (va_Pc [.ref (y 0), .int (nI t), .int (nI o), .int v] (rw_P D cI cZ cQ cJ (wSt y rp rw rt cI cQ P n Wi Ti nt) sz)) (va_Qi (fun (r9 : Int32) (u9 : Unit) => (r9 = (Ti t o))) (rw_B D (va_A (wSt y rp rw rt cI cQ P n Wi Ti nt) sz) (fun u9 : Unit => wSt y rp rw rt cI cQ P n Wi (u2 (u2 Ti t o v) o t v) nt)) (va_A (wSt y rp rw rt cI cQ P n Wi Ti nt) sz)) 0 0 (va_A (wSt y rp rw rt cI cQ P n Wi Ti nt) sz) := by
  refine Met.ofW (cc := cX5_changeTie) (maxL := 5) (ret := (some .int)) (by decide) rfl ?_
  intro p e s m args below meth c s₁ B hml hv
  obtain ⟨rfl, hsz, hP, hSt, hD0⟩ := hv
  have hx := B.exec
  have hb := B.bytes
  have hr := B.returns
  have hts : ∀ w ∈ ALL, w.before ([.ref (y 0), .int (nI t), .int (nI o), .int v] : List Value).toArray s = true := fun w h => atoms_spec (ws := (.code yX5_changeTie cX5_changeTie 5 (some .int) :: ALL)) B.pre w (List.mem_cons_of_mem _ h)
  have hown : s.vm.findClass RX5 = some m.cls := findClass_of_methodNamed B.named
  have hlocks := B.notSynchronized
  subst hsz
  have hD := hD0.self (sz := s.heap.size)
  clear hD0
  generalize hAe : va_A (wSt y rp rw rt cI cQ P n Wi Ti nt) s.heap.size = A at hD ⊢
  have hA : ∀ q : Nat, s.heap.size ≤ q → A q := fun q h => by rw [← hAe]; exact Or.inr h
  have hS : va_S A s.heap s.heap [] := va_S.rf
  have hl := lv_entry ([.ref (y 0), .int (nI t), .int (nI o), .int v]) (n := 5) (Nat.le_of_ble_eq_true rfl)
  rw [lg_entry_eq]
  generalize (lg_sl ([.ref (y 0), .int (nI t), .int (nI o), .int v]) ++ List.replicate (5 - (lg_sl ([.ref (y 0), .int (nI t), .int (nI o), .int v])).length) Slot.unset).toArray = ls at hl ⊢
  have hl : lv_has ls 5 [(0, .ref (y 0)), (1, .int (nI t)), (2, .int (nI o)), (3, .int v)] := hl
  obtain ⟨H, hHe⟩ : ∃ H : Heap, H = s.heap := ⟨_, rfl⟩
  obtain ⟨locs, hLe⟩ : ∃ L : List Loc, L = [] := ⟨_, rfl⟩
  have hP : va_P D vwCl (wSt y rp rw rt cI cQ P n Wi Ti nt) H := by rw [hHe]; exact hP
  have hS : va_S A s.heap H locs := by rw [hHe, hLe]; exact hS
  refine W.eqHL hHe hLe ?_
  refine lv_aload_n hx hb dX5_changeTie_0 rfl (lv_at hl 0 rfl) ?_
  refine va_get (D := D) (ci := 5) (v := .ref (y 4)) (C := RX5) (T := TX5) (N := 5) hx hb hts tu_X5 hown hSt.1 hP 0 rfl rfl 3 (by decide) (hts _ t1_90) (fun _ h9 => h9) rfl dX5_changeTie_1 ?_
  refine lv_iload_n hx hb dX5_changeTie_4 rfl (lv_at hl 1 rfl) ?_
  refine r_aald (r := rt) hx hb hSt.1 hP 4 2 rfl rfl (k := t) (by omega) dX5_changeTie_5 ?_
  refine lv_iload_n hx hb dX5_changeTie_6 rfl (lv_at hl 2 rfl) ?_
  refine r_iald hx hb hSt.1 hP _ 0 (f := Ti t) (wSt_T (k := t) (by omega)) rfl (k := o) (by omega) (by omega) dX5_changeTie_7 ?_
  refine lv_istore (lv' := [(4, .int (Ti t o)), (0, .ref (y 0)), (1, .int (nI t)), (2, .int (nI o)), (3, .int v)]) hx hb dX5_changeTie_8 hl (by decide) rfl (fun ls hl => ?_)
  refine lv_aload_n hx hb dX5_changeTie_10 rfl (lv_at hl 1 rfl) ?_
  refine va_get (D := D) (ci := 5) (v := .ref (y 4)) (C := RX5) (T := TX5) (N := 5) hx hb hts tu_X5 hown hSt.1 hP 0 rfl rfl 3 (by decide) (hts _ t1_90) (fun _ h9 => h9) rfl dX5_changeTie_11 ?_
  refine lv_iload_n hx hb dX5_changeTie_14 rfl (lv_at hl 2 rfl) ?_
  refine r_aald (r := rt) hx hb hSt.1 hP 4 2 rfl rfl (k := t) (by omega) dX5_changeTie_15 ?_
  refine lv_iload_n hx hb dX5_changeTie_16 rfl (lv_at hl 3 rfl) ?_
  refine lv_iload_n hx hb dX5_changeTie_17 rfl (lv_at hl 4 rfl) ?_
  refine r_iast hx hb hSt.1 hP hD hS _ 0 (f := Ti t) (wSt_T (k := t) (by omega)) rfl (k := o) (by omega) (by omega) dX5_changeTie_18 (fun H locs hP hD hS => ?_)
  have hP : va_P D vwCl (wSt y rp rw rt cI cQ P n Wi (u2 Ti t o v) nt) H := P_eq (wSt_Ts (k := t) (j := o) (v := v) (by omega)) hP
  have hD : va_D A (wSt y rp rw rt cI cQ P n Wi (u2 Ti t o v) nt) := D_eq (wSt_Ts (k := t) (j := o) (v := v) (by omega)) hD
  refine lv_aload_n hx hb dX5_changeTie_19 rfl (lv_at hl 1 rfl) ?_
  refine va_get (D := D) (ci := 5) (v := .ref (y 4)) (C := RX5) (T := TX5) (N := 5) hx hb hts tu_X5 hown hSt.1 hP 0 rfl rfl 3 (by decide) (hts _ t1_90) (fun _ h9 => h9) rfl dX5_changeTie_20 ?_
  refine lv_iload_n hx hb dX5_changeTie_23 rfl (lv_at hl 3 rfl) ?_
  refine r_aald (r := rt) hx hb hSt.1 hP 4 2 rfl rfl (k := o) (by omega) dX5_changeTie_24 ?_
  refine lv_iload_n hx hb dX5_changeTie_25 rfl (lv_at hl 2 rfl) ?_
  refine lv_iload_n hx hb dX5_changeTie_26 rfl (lv_at hl 4 rfl) ?_
  refine r_iast hx hb hSt.1 hP hD hS _ 0 (f := (u2 Ti t o v) o) (wSt_T (k := o) (by omega)) rfl (k := t) (by omega) (by omega) dX5_changeTie_27 (fun H locs hP hD hS => ?_)
  have hP : va_P D vwCl (wSt y rp rw rt cI cQ P n Wi (u2 (u2 Ti t o v) o t v) nt) H := P_eq (wSt_Ts (k := o) (j := t) (v := v) (by omega)) hP
  have hD : va_D A (wSt y rp rw rt cI cQ P n Wi (u2 (u2 Ti t o v) o t v) nt) := D_eq (wSt_Ts (k := o) (j := t) (v := v) (by omega)) hD
  refine lv_iload hx hb dX5_changeTie_28 (lv_at hl 0 rfl) ?_
  have hP9 : va_P D vwCl (wSt y rp rw rt cI cQ P n Wi (u2 (u2 Ti t o v) o t v) nt) H := hP
  have hD9 : va_D A (wSt y rp rw rt cI cQ P n Wi (u2 (u2 Ti t o v) o t v) nt) := hD
  exact W.iret (v := Ti t o) hx hb hr (fun t9 ht9 hW9 => ⟨⟨Ti t o, (), rfl, rfl, by rw [ht9]; exact hP9, hD9⟩, hS.F ht9⟩) hS.2.2 dX5_changeTie_30
set_option maxHeartbeats 4000000 in
set_option maxRecDepth 100000 in
/-- the share of a team -/
theorem c_X5_shareOf (l : Launch) (D : va_G) (cI cZ cQ cJ : ClassId) (y : Nat → Nat) (rp : Nat → Nat) (rw : Nat → Nat) (rt : Nat → Nat) (P : Nat → Nat → Int32) (n : Nat → Int32) (Wi : Nat → Nat → Int32) (Ti : Nat → Nat → Int32) (nt : Int32) (t : Nat) (k : Nat) (pp : Nat → Nat → Nat) (ht : t < 7) (hk : n t = nI k) (hk6 : k ≤ 60) (hp : ∀ j, j < 5 → P t j = nI (pp t j) ∧ pp t j ≤ 60) : Met l yX5_shareOf (.code yX5_shareOf cX5_shareOf 5 (some .int) :: ALL) ({ frames := 0, cells := 0, slots := 0, locals := 0 } : Room) (va_Pc [.ref (y 0), .int (nI t)] (ro_P D cI cZ cQ cJ (wSt y rp rw rt cI cQ P n Wi Ti nt))) (vp_Si (fun r9 => r9 = nI (if k = 0 then 100 else sumT (pp t) 5 * 100 / (5 * k)))) 0 0 (fun _ => False) := by
  refine Met.ofW (cc := cX5_shareOf) (maxL := 5) (ret := (some .int)) (by decide) rfl ?_
  intro p e s m args below meth c s₁ B hml hv
  obtain ⟨rfl, hP, hSt⟩ := hv
  have hx := B.exec
  have hb := B.bytes
  have hr := B.returns
  have hts : ∀ w ∈ ALL, w.before ([.ref (y 0), .int (nI t)] : List Value).toArray s = true := fun w h => atoms_spec (ws := (.code yX5_shareOf cX5_shareOf 5 (some .int) :: ALL)) B.pre w (List.mem_cons_of_mem _ h)
  have hown : s.vm.findClass RX5 = some m.cls := findClass_of_methodNamed B.named
  have hlocks := B.notSynchronized
  have hl := lv_entry ([.ref (y 0), .int (nI t)]) (n := 5) (Nat.le_of_ble_eq_true rfl)
  rw [lg_entry_eq]
  generalize (lg_sl ([.ref (y 0), .int (nI t)]) ++ List.replicate (5 - (lg_sl ([.ref (y 0), .int (nI t)])).length) Slot.unset).toArray = ls at hl ⊢
  have hl : lv_has ls 5 [(0, .ref (y 0)), (1, .int (nI t))] := hl
  refine lv_aload_n hx hb dX5_shareOf_0 rfl (lv_at hl 0 rfl) ?_
  refine va_get (D := D) (ci := 5) (v := .ref (y 2)) (C := RX5) (T := TX5) (N := 5) hx hb hts tu_X5 hown hSt.1 hP 0 rfl rfl 1 (by decide) (hts _ t1_83) (fun _ h9 => h9) rfl dX5_shareOf_1 ?_
  refine lv_iload_n hx hb dX5_shareOf_4 rfl (lv_at hl 1 rfl) ?_
  refine r_iald hx hb hSt.1 hP 2 0 rfl rfl (k := t) (by omega) (by omega) dX5_shareOf_5 ?_
  refine lv_as (y := nI k) (hk) ?_
  refine lv_istore_n (lv' := [(2, .int (nI k)), (0, .ref (y 0)), (1, .int (nI t))]) hx hb dX5_shareOf_6 rfl hl (by decide) rfl (fun ls hl => ?_)
  refine lv_iload_n hx hb dX5_shareOf_7 rfl (lv_at hl 0 rfl) ?_
  refine lv_if_gt (tgt := 14) hx hb dX5_shareOf_8 (by decide) (fun c_1 => ?_) (fun c_1 => ?_)
  · have c_1 := z_lt (a := 0) (b := k) (by omega) (by omega) c_1
    refine lv_iconst (v := nI 0) hx hb dX5_shareOf_14 (by decide) ?_
    refine lv_istore_n (lv' := [(3, .int (nI 0)), (2, .int (nI k)), (0, .ref (y 0)), (1, .int (nI t))]) hx hb dX5_shareOf_15 rfl hl (by decide) rfl (fun ls hl => ?_)
    refine lv_iconst (v := nI 0) hx hb dX5_shareOf_16 (by decide) ?_
    refine lv_istore (lv' := [(4, .int (nI 0)), (3, .int (nI 0)), (2, .int (nI k)), (0, .ref (y 0)), (1, .int (nI t))]) hx hb dX5_shareOf_17 hl (by decide) rfl (fun ls hl => ?_)
    have L19 : ∀ (n9 : Nat) (i : Nat) (s1 : Nat), (i ≤ 5) → (s1 = sumT (pp t) i) → (s1 ≤ i * 60) → (5 - i) < n9 → ∀ (ls : Array Slot), lv_has ls 5 [(0, .ref (y 0)), (1, .int (nI t)), (2, .int (nI k)), (3, .int (nI s1)), (4, .int (nI i))] → W p l e ({ frames := 0, cells := 0, slots := 0, locals := 0 } : Room) s m ([.ref (y 0), .int (nI t)] : List Value).toArray below meth c s.heap [] 0 0 (MQ below (vp_Si (fun r9 => r9 = nI (if k = 0 then 100 else sumT (pp t) 5 * 100 / (5 * k)))) ([.ref (y 0), .int (nI t)] : List Value).toArray s 0 0 (fun _ => False)) (F0 m 19 ls []) := by
      intro n9
      induction n9 with
      | zero =>
        intro i s1 hi hs1 hs2 hm
        exact absurd hm (by omega)
      | succ n9 ih =>
        intro i s1 hi hs1 hs2 hm ls hl
        have ih_L19 := ih
        refine lv_iload hx hb dX5_shareOf_19 (lv_at hl 4 rfl) ?_
        refine lv_iconst (v := nI 5) hx hb dX5_shareOf_21 (by decide) ?_
        refine lv_icmp_ge (tgt := 43) hx hb dX5_shareOf_22 (by decide) (fun c_2 => ?_) (fun c_2 => ?_)
        · have c_2 := z_le (by omega) (by omega) c_2
          refine lv_iload_n hx hb dX5_shareOf_43 rfl (lv_at hl 3 rfl) ?_
          refine lv_bipush (v := nI 100) hx hb dX5_shareOf_44 (by decide) ?_
          refine r_muln hx hb dX5_shareOf_46 ?_
          refine lv_iconst (v := nI 5) hx hb dX5_shareOf_47 (by decide) ?_
          refine lv_iload_n hx hb dX5_shareOf_48 rfl (lv_at hl 2 rfl) ?_
          refine r_muln hx hb dX5_shareOf_49 ?_
          refine r_divn hx hb (by omega) (by omega) (by omega) dX5_shareOf_50 ?_
          exact W.iret (v := nI ((s1 * 100) / (5 * k))) hx hb hr (fun t9 ht9 hW9 => ⟨_, rfl, ((by rw [if_neg (show ¬ k = 0 by omega), ← show i = 5 by omega, ← hs1, show i = 5 by omega])), ht9⟩) (fun q h => nomatch h) dX5_shareOf_51
        · have c_2 := z_nle (by omega) (by omega) c_2
          refine lv_iload_n hx hb dX5_shareOf_25 rfl (lv_at hl 3 rfl) ?_
          refine lv_aload_n hx hb dX5_shareOf_26 rfl (lv_at hl 0 rfl) ?_
          refine va_get (D := D) (ci := 5) (v := .ref (y 1)) (C := RX5) (T := TX5) (N := 5) hx hb hts tu_X5 hown hSt.1 hP 0 rfl rfl 0 (by decide) (hts _ t1_81) (fun _ h9 => h9) rfl dX5_shareOf_27 ?_
          refine lv_iload_n hx hb dX5_shareOf_30 rfl (lv_at hl 1 rfl) ?_
          refine r_aald (r := rp) hx hb hSt.1 hP 1 2 rfl rfl (k := t) (by omega) dX5_shareOf_31 ?_
          refine lv_iload hx hb dX5_shareOf_32 (lv_at hl 4 rfl) ?_
          refine r_iald hx hb hSt.1 hP _ 0 (f := P t) (wSt_P (k := t) (by omega)) rfl (k := i) (by omega) (by omega) dX5_shareOf_34 ?_
          have hpi := hp i (by omega)
          refine lv_as (y := nI (pp t i)) (hpi.1) ?_
          refine r_addn hx hb dX5_shareOf_35 ?_
          refine lv_istore_n (lv' := [(3, .int (nI (s1 + (pp t i)))), (0, .ref (y 0)), (1, .int (nI t)), (2, .int (nI k)), (4, .int (nI i))]) hx hb dX5_shareOf_36 rfl hl (by decide) rfl (fun ls hl => ?_)
          refine lv_iinc (v := nI (i + 1)) (lv' := [(4, .int (nI (i + 1))), (3, .int (nI (s1 + (pp t i)))), (0, .ref (y 0)), (1, .int (nI t)), (2, .int (nI k))]) hx hb dX5_shareOf_37 hl (k := 4) rfl (z_inc _) (by decide) rfl (fun ls hl => ?_)
          refine lv_goto (tgt := 19) hx hb dX5_shareOf_40 (by decide) ?_
          exact ih_L19 (i + 1) (s1 + (pp t i)) (by omega) (by rw [sumT, hs1]) (by omega) (by omega) _ (lv_sub hl [2, 3, 4, 1, 0] rfl)
    exact L19 _ 0 0 (by omega) rfl (Nat.zero_le _) (Nat.lt_succ_self _) _ (lv_sub hl [3, 4, 2, 1, 0] rfl)
  · have c_1 := z_nlt (a := 0) (b := k) (by omega) (by omega) c_1
    refine lv_bipush (v := nI 100) hx hb dX5_shareOf_11 (by decide) ?_
    exact W.iret (v := nI 100) hx hb hr (fun t9 ht9 hW9 => ⟨_, rfl, ((by rw [if_pos (show k = 0 by omega)])), ht9⟩) (fun q h => nomatch h) dX5_shareOf_13
theorem hd_X5_changePresent : yX5_changePresent.cls = RX5 ∧ yX5_changePresent.cls ≠ "java/lang/invoke/MethodHandle" ∧ yX5_changePresent.cls ≠ "java/lang/invoke/VarHandle" ∧ (parseMethodDescriptor yX5_changePresent.desc).map (fun d => d.parameters.length) = some 3 := by decide +kernel
theorem hd_X5_changeTie : yX5_changeTie.cls = RX5 ∧ yX5_changeTie.cls ≠ "java/lang/invoke/MethodHandle" ∧ yX5_changeTie.cls ≠ "java/lang/invoke/VarHandle" ∧ (parseMethodDescriptor yX5_changeTie.desc).map (fun d => d.parameters.length) = some 3 := by decide +kernel
theorem hd_X5_shareOf : yX5_shareOf.cls = RX5 ∧ yX5_shareOf.cls ≠ "java/lang/invoke/MethodHandle" ∧ yX5_shareOf.cls ≠ "java/lang/invoke/VarHandle" ∧ (parseMethodDescriptor yX5_shareOf.desc).map (fun d => d.parameters.length) = some 1 := by decide +kernel
theorem i32_nlt {a b : Int32} (h : ¬ a < b) : b ≤ a := Int32.not_lt.mp h
theorem i32_nle {a b : Int32} (h : a < b) : ¬ b ≤ a := Int32.not_le.mpr h
set_option maxHeartbeats 4000000 in
set_option maxRecDepth 100000 in
/-- does a team fit into a zone -/
theorem c_X3_fits (l : Launch) (D : va_G) (cI cZ cQ cJ : ClassId) (o : Nat) (x : Nat → Nat) (r : Nat → Nat) (w : Nat → Int32) (q : Nat → Int32) (d : Nat → Int32) (T : Nat → Nat → Int32) (st : Nat → Int32) (re : Nat → Int32) (rc : Int32) (nz : Int32) (y : Nat → Nat) (rp : Nat → Nat) (rw : Nat → Nat) (rt : Nat → Nat) (P : Nat → Nat → Int32) (n : Nat → Int32) (Wi : Nat → Nat → Int32) (Ti : Nat → Nat → Int32) (nt : Int32) (t : Nat) (z : Nat) (ht : t < 7) (hz : z < 7) : Met l yX3_fits (.code yX3_fits cX3_fits 3 (some .boolean) :: ALL) ({ frames := 0, cells := 0, slots := 0, locals := 0 } : Room) (va_Pc [.ref o, .int (nI t), .int (nI z)] (ro_P D cI cZ cQ cJ ((wOf o (x 0) (y 0)) ++ ((wFl x r cI cZ cQ w q d T st re rc nz) ++ (wSt y rp rw rt cI cQ P n Wi Ti nt))))) (vp_Si (fun r9 => r9 = bI (n t ≤ d z))) 0 0 (fun _ => False) := by
  refine Met.ofW (cc := cX3_fits) (maxL := 3) (ret := (some .boolean)) (by decide) rfl ?_
  intro p e s m args below meth c s₁ B hml hv
  obtain ⟨rfl, hP, hSt⟩ := hv
  have hx := B.exec
  have hb := B.bytes
  have hr := B.returns
  have hts : ∀ w ∈ ALL, w.before ([.ref o, .int (nI t), .int (nI z)] : List Value).toArray s = true := fun w h => atoms_spec (ws := (.code yX3_fits cX3_fits 3 (some .boolean) :: ALL)) B.pre w (List.mem_cons_of_mem _ h)
  have hown : s.vm.findClass RX3 = some m.cls := findClass_of_methodNamed B.named
  have hlocks := B.notSynchronized
  have hl := lv_entry ([.ref o, .int (nI t), .int (nI z)]) (n := 3) (Nat.le_of_ble_eq_true rfl)
  rw [lg_entry_eq]
  generalize (lg_sl ([.ref o, .int (nI t), .int (nI z)]) ++ List.replicate (3 - (lg_sl ([.ref o, .int (nI t), .int (nI z)])).length) Slot.unset).toArray = ls at hl ⊢
  have hl : lv_has ls 3 [(0, .ref o), (1, .int (nI t)), (2, .int (nI z))] := hl
  refine lv_aload_n hx hb dX3_fits_0 rfl (lv_at hl 0 rfl) ?_
  refine va_get (D := D) (ci := 3) (v := .ref (x 0)) (C := RX3) (T := TX3) (N := 2) hx hb hts tu_X3 hown hSt.1 hP 0 rfl rfl 0 (by decide) (hts _ t1_108) (fun _ h9 => h9) rfl dX3_fits_1 ?_
  refine va_getN (D := D) (ci := 1) (v := .ref (x 3)) (C := RX1) (T := TX1) (N := 8) hx hb hts tu_X1 hown hSt.1 hP 1 rfl rfl 2 (by decide) (nf_16 hSt.2) (fun _ h9 => h9) rfl dX3_fits_4 ?_
  refine lv_iload_n hx hb dX3_fits_7 rfl (lv_at hl 2 rfl) ?_
  refine r_iald hx hb hSt.1 hP 4 0 rfl rfl (k := z) (by omega) (by omega) dX3_fits_8 ?_
  refine lv_aload_n hx hb dX3_fits_9 rfl (lv_at hl 0 rfl) ?_
  refine va_get (D := D) (ci := 3) (v := .ref (y 0)) (C := RX3) (T := TX3) (N := 2) hx hb hts tu_X3 hown hSt.1 hP 0 rfl rfl 1 (by decide) (hts _ t1_112) (fun _ h9 => h9) rfl dX3_fits_10 ?_
  refine va_getN (D := D) (ci := 5) (v := .ref (y 2)) (C := RX5) (T := TX5) (N := 5) hx hb hts tu_X5 hown hSt.1 hP 15 rfl rfl 1 (by decide) (nf_17 hSt.2) (fun _ h9 => h9) rfl dX3_fits_13 ?_
  refine lv_iload_n hx hb dX3_fits_16 rfl (lv_at hl 1 rfl) ?_
  refine r_iald hx hb hSt.1 hP 17 0 rfl rfl (k := t) (by omega) (by omega) dX3_fits_17 ?_
  refine lv_icmp_lt (tgt := 25) hx hb dX3_fits_18 (by decide) (fun c_1 => ?_) (fun c_1 => ?_)
  · refine lv_iconst (v := nI 0) hx hb dX3_fits_25 (by decide) ?_
    exact W.zret (v := nI 0) hx hb hr (rfl) (fun t9 ht9 hW9 => ⟨_, rfl, ((bI_f (i32_nle c_1)).symm), ht9⟩) (fun q h => nomatch h) dX3_fits_26
  · refine lv_iconst (v := nI 1) hx hb dX3_fits_21 (by decide) ?_
    refine lv_goto (tgt := 26) hx hb dX3_fits_22 (by decide) ?_
    exact W.zret (v := nI 1) hx hb hr (rfl) (fun t9 ht9 hW9 => ⟨_, rfl, ((bI_t (i32_nlt c_1)).symm), ht9⟩) (fun q h => nomatch h) dX3_fits_26
set_option maxHeartbeats 4000000 in
set_option maxRecDepth 100000 in
/-- the wish cost of a placement -/
theorem c_X3_wishCostOf (l : Launch) (D : va_G) (cI cZ cQ cJ : ClassId) (o : Nat) (x : Nat → Nat) (r : Nat → Nat) (w : Nat → Int32) (q : Nat → Int32) (d : Nat → Int32) (T : Nat → Nat → Int32) (st : Nat → Int32) (re : Nat → Int32) (rc : Int32) (nz : Nat) (y : Nat → Nat) (rp : Nat → Nat) (rw : Nat → Nat) (rt : Nat → Nat) (P : Nat → Nat → Int32) (n : Nat → Int32) (Wi : Nat → Nat → Int32) (Ti : Nat → Nat → Int32) (a : Nat) (b : Nat) (f : Nat → Int32) (nt : Nat) (wi : Nat → Nat → Nat) (g : Nat → Nat) (hwi : rOK 7 7 Wi wi) (hg : pOK 7 f g) (hz : gOK nz 7 g) (hnz : nz ≤ 7) (hnt : nt ≤ 7) : Met l yX3_wishCostOf (.code yX3_wishCostOf cX3_wishCostOf 5 (some .int) :: ALL) ({ frames := 1, cells := 0, slots := 0, locals := 21 } : Room) (va_Pc [.ref o, .ref a] (ro_P D cI cZ cQ cJ ((wOf o (x 0) (y 0)) ++ ((wFl x r cI cZ cQ w q d T st re rc (nI nz)) ++ ((wSt y rp rw rt cI cQ P n Wi Ti (nI nt)) ++ (wPl a b cI f)))))) (vp_Si (fun r9 => r9 = nI (wishN wi g nt))) 0 0 (fun _ => False) := by
  refine Met.ofW (cc := cX3_wishCostOf) (maxL := 5) (ret := (some .int)) (by decide) rfl ?_
  intro p e s m args below meth c s₁ B hml hv
  obtain ⟨rfl, hP, hSt⟩ := hv
  have hx := B.exec
  have hb := B.bytes
  have hr := B.returns
  have hts : ∀ w ∈ ALL, w.before ([.ref o, .ref a] : List Value).toArray s = true := fun w h => atoms_spec (ws := (.code yX3_wishCostOf cX3_wishCostOf 5 (some .int) :: ALL)) B.pre w (List.mem_cons_of_mem _ h)
  have hown : s.vm.findClass RX3 = some m.cls := findClass_of_methodNamed B.named
  have hlocks := B.notSynchronized
  have hl := lv_entry ([.ref o, .ref a]) (n := 5) (Nat.le_of_ble_eq_true rfl)
  rw [lg_entry_eq]
  generalize (lg_sl ([.ref o, .ref a]) ++ List.replicate (5 - (lg_sl ([.ref o, .ref a])).length) Slot.unset).toArray = ls at hl ⊢
  have hl : lv_has ls 5 [(0, .ref o), (1, .ref a)] := hl
  refine lv_iconst (v := nI 0) hx hb dX3_wishCostOf_0 (by decide) ?_
  refine lv_istore_n (lv' := [(2, .int (nI 0)), (0, .ref o), (1, .ref a)]) hx hb dX3_wishCostOf_1 rfl hl (by decide) rfl (fun ls hl => ?_)
  refine lv_iconst (v := nI 0) hx hb dX3_wishCostOf_2 (by decide) ?_
  refine lv_istore_n (lv' := [(3, .int (nI 0)), (2, .int (nI 0)), (0, .ref o), (1, .ref a)]) hx hb dX3_wishCostOf_3 rfl hl (by decide) rfl (fun ls hl => ?_)
  have L4 : ∀ (n9 : Nat) (t : Nat) (s1 : Nat), (t ≤ nt) → (s1 = wishN wi g t) → (nt - t) < n9 → ∀ (ls : Array Slot), lv_has ls 5 [(0, .ref o), (1, .ref a), (2, .int (nI s1)), (3, .int (nI t))] → W p l e ({ frames := 1, cells := 0, slots := 0, locals := 21 } : Room) s m ([.ref o, .ref a] : List Value).toArray below meth c s.heap [] 0 0 (MQ below (vp_Si (fun r9 => r9 = nI (wishN wi g nt))) ([.ref o, .ref a] : List Value).toArray s 0 0 (fun _ => False)) (F0 m 4 ls []) := by
    intro n9
    induction n9 with
    | zero =>
      intro t s1 ht hs1 hm
      exact absurd hm (by omega)
    | succ n9 ih =>
      intro t s1 ht hs1 hm ls hl
      have ih_L4 := ih
      refine lv_iload_n hx hb dX3_wishCostOf_4 rfl (lv_at hl 3 rfl) ?_
      refine lv_aload_n hx hb dX3_wishCostOf_5 rfl (lv_at hl 0 rfl) ?_
      refine va_get (D := D) (ci := 3) (v := .ref (y 0)) (C := RX3) (T := TX3) (N := 2) hx hb hts tu_X3 hown hSt.1 hP 0 rfl rfl 1 (by decide) (hts _ t1_112) (fun _ h9 => h9) rfl dX3_wishCostOf_6 ?_
      refine va_getN (D := D) (ci := 5) (v := .int (nI nt)) (C := RX5) (T := TX5) (N := 5) hx hb hts tu_X5 hown hSt.1 hP 15 rfl rfl 4 (by decide) (nf_18 hSt.2) (fun _ h9 => h9) rfl dX3_wishCostOf_9 ?_
      refine lv_icmp_ge (tgt := 49) hx hb dX3_wishCostOf_12 (by decide) (fun c_1 => ?_) (fun c_1 => ?_)
      · have c_1 := z_le (by omega) (by omega) c_1
        refine lv_iload_n hx hb dX3_wishCostOf_49 rfl (lv_at hl 2 rfl) ?_
        exact W.iret (v := nI s1) hx hb hr (fun t9 ht9 hW9 => ⟨_, rfl, (by rw [hs1, show t = nt by omega]), ht9⟩) (fun q h => nomatch h) dX3_wishCostOf_50
      · have c_1 := z_nle (by omega) (by omega) c_1
        refine lv_aload_n hx hb dX3_wishCostOf_15 rfl (lv_at hl 1 rfl) ?_
        refine lv_iload_n hx hb dX3_wishCostOf_16 rfl (lv_at hl 3 rfl) ?_
        refine ro_V (As := [.int (nI t)]) (rest := []) (v := f t) ⟨hx, hb, hml, hown, hts⟩ (c_X4_zoneWith l D cI cZ cQ cJ a b f t (by first | assumption | omega)) (gV t2_36 t2_37 t2_38 t1_5 t2_39) rfl rfl hd_X4_zoneWith ⟨Nat.le_of_ble_eq_true rfl, Nat.le_of_ble_eq_true rfl⟩ (hP.sub (ws' := wPl a b cI f) [41, 42] rfl) hSt (va_recv hSt.1 hP (ci := 4) (q0 := 41) rfl rfl) rfl hl.1 rfl (Nat.le_of_ble_eq_true rfl) dX3_wishCostOf_17 (Nat.zero_le _) (Nat.zero_le _) ?_
        refine lv_as (y := zI (g t)) (hg t (by omega)) ?_
        refine lv_istore (lv' := [(4, .int (zI (g t))), (0, .ref o), (1, .ref a), (2, .int (nI s1)), (3, .int (nI t))]) hx hb dX3_wishCostOf_20 hl (by decide) rfl (fun ls hl => ?_)
        refine lv_iload hx hb dX3_wishCostOf_22 (lv_at hl 0 rfl) ?_
        refine lv_iconst (v := (-1 : Int32)) hx hb dX3_wishCostOf_24 (by decide) ?_
        refine lv_icmp_eq (tgt := 43) hx hb dX3_wishCostOf_25 (by decide) (fun c_2 => ?_) (fun c_2 => ?_)
        · refine lv_iinc (v := nI (t + 1)) (lv' := [(3, .int (nI (t + 1))), (4, .int (zI (g t))), (0, .ref o), (1, .ref a), (2, .int (nI s1))]) hx hb dX3_wishCostOf_43 hl (k := 4) rfl (z_inc _) (by decide) rfl (fun ls hl => ?_)
          refine lv_goto (tgt := 4) hx hb dX3_wishCostOf_46 (by decide) ?_
          exact ih_L4 (t + 1) s1 (by omega) (wish_n hs1 (fun q => by have := zI_none c_2; omega)) (by omega) _ (lv_sub hl [2, 3, 4, 0] rfl)
        · have hgt := zI_some c_2
          refine lv_iload_n hx hb dX3_wishCostOf_28 rfl (lv_at hl 3 rfl) ?_
          refine lv_aload_n hx hb dX3_wishCostOf_29 rfl (lv_at hl 1 rfl) ?_
          refine va_get (D := D) (ci := 3) (v := .ref (y 0)) (C := RX3) (T := TX3) (N := 2) hx hb hts tu_X3 hown hSt.1 hP 0 rfl rfl 1 (by decide) (hts _ t1_112) (fun _ h9 => h9) rfl dX3_wishCostOf_30 ?_
          refine va_getN (D := D) (ci := 5) (v := .ref (y 3)) (C := RX5) (T := TX5) (N := 5) hx hb hts tu_X5 hown hSt.1 hP 15 rfl rfl 2 (by decide) (nf_19 hSt.2) (fun _ h9 => h9) rfl dX3_wishCostOf_33 ?_
          refine lv_iload_n hx hb dX3_wishCostOf_36 rfl (lv_at hl 4 rfl) ?_
          refine r_aald (r := rw) hx hb hSt.1 hP 18 2 rfl rfl (k := t) (by omega) dX3_wishCostOf_37 ?_
          refine lv_iload hx hb dX3_wishCostOf_38 (lv_at hl 0 rfl) ?_
          refine lv_as (y := nI (g t)) (zI_lt hgt) ?_
          refine r_iald hx hb hSt.1 hP _ 0 (f := Wi t) (at_r (at_r (at_l (wSt_W (k := t) (by omega))))) rfl (k := (g t)) (by omega) (by omega) dX3_wishCostOf_40 ?_
          refine lv_as (y := nI (wi t (g t))) (hwi t (g t) (by omega) (by omega)) ?_
          refine r_addn hx hb dX3_wishCostOf_41 ?_
          refine lv_istore_n (lv' := [(2, .int (nI (s1 + (wi t (g t))))), (4, .int (zI (g t))), (0, .ref o), (1, .ref a), (3, .int (nI t))]) hx hb dX3_wishCostOf_42 rfl hl (by decide) rfl (fun ls hl => ?_)
          refine lv_iinc (v := nI (t + 1)) (lv' := [(3, .int (nI (t + 1))), (2, .int (nI (s1 + (wi t (g t))))), (4, .int (zI (g t))), (0, .ref o), (1, .ref a)]) hx hb dX3_wishCostOf_43 hl (k := 4) rfl (z_inc _) (by decide) rfl (fun ls hl => ?_)
          refine lv_goto (tgt := 4) hx hb dX3_wishCostOf_46 (by decide) ?_
          exact ih_L4 (t + 1) (s1 + (wi t (g t))) (by omega) (wish_s hs1 hgt) (by omega) _ (lv_sub hl [3, 4, 1, 0] rfl)
  exact L4 _ 0 0 (by omega) rfl (Nat.lt_succ_self _) _ (lv_sub hl [2, 3, 1, 0] rfl)
set_option maxHeartbeats 4000000 in
set_option maxRecDepth 100000 in
/-- the cost of ties to teams ahead -/
theorem c_X3_tieCostToLower (l : Launch) (D : va_G) (cI cZ cQ cJ : ClassId) (o : Nat) (x : Nat → Nat) (r : Nat → Nat) (w : Nat → Int32) (q : Nat → Int32) (d : Nat → Int32) (T : Nat → Nat → Int32) (st : Nat → Int32) (re : Nat → Int32) (rc : Int32) (nz : Nat) (y : Nat → Nat) (rp : Nat → Nat) (rw : Nat → Nat) (rt : Nat → Nat) (P : Nat → Nat → Int32) (n : Nat → Int32) (Wi : Nat → Nat → Int32) (Ti : Nat → Nat → Int32) (a : Nat) (b : Nat) (f : Nat → Int32) (nt : Int32) (ti : Nat → Nat → Nat) (dd : Nat → Nat → Nat) (g : Nat → Nat) (t : Nat) (hti : rOK 7 7 Ti ti) (hdd : rOK nz nz T dd) (hg : pOK (t + 1) f g) (hz : gOK nz (t + 1) g) (hnz : nz ≤ 7) (ht : t < 7) : Met l yX3_tieCostToLower (.code yX3_tieCostToLower cX3_tieCostToLower 7 (some .int) :: ALL) ({ frames := 1, cells := 0, slots := 0, locals := 21 } : Room) (va_Pc [.ref o, .ref a, .int (nI t)] (ro_P D cI cZ cQ cJ ((wOf o (x 0) (y 0)) ++ ((wFl x r cI cZ cQ w q d T st re rc (nI nz)) ++ ((wSt y rp rw rt cI cQ P n Wi Ti nt) ++ (wPl a b cI f)))))) (vp_Si (fun r9 => r9 = nI (tieN ti dd g t))) 0 0 (fun _ => False) := by
  refine Met.ofW (cc := cX3_tieCostToLower) (maxL := 7) (ret := (some .int)) (by decide) rfl ?_
  intro p e s m args below meth c s₁ B hml hv
  obtain ⟨rfl, hP, hSt⟩ := hv
  have hx := B.exec
  have hb := B.bytes
  have hr := B.returns
  have hts : ∀ w ∈ ALL, w.before ([.ref o, .ref a, .int (nI t)] : List Value).toArray s = true := fun w h => atoms_spec (ws := (.code yX3_tieCostToLower cX3_tieCostToLower 7 (some .int) :: ALL)) B.pre w (List.mem_cons_of_mem _ h)
  have hown : s.vm.findClass RX3 = some m.cls := findClass_of_methodNamed B.named
  have hlocks := B.notSynchronized
  have hl := lv_entry ([.ref o, .ref a, .int (nI t)]) (n := 7) (Nat.le_of_ble_eq_true rfl)
  rw [lg_entry_eq]
  generalize (lg_sl ([.ref o, .ref a, .int (nI t)]) ++ List.replicate (7 - (lg_sl ([.ref o, .ref a, .int (nI t)])).length) Slot.unset).toArray = ls at hl ⊢
  have hl : lv_has ls 7 [(0, .ref o), (1, .ref a), (2, .int (nI t))] := hl
  refine lv_aload_n hx hb dX3_tieCostToLower_0 rfl (lv_at hl 1 rfl) ?_
  refine lv_iload_n hx hb dX3_tieCostToLower_1 rfl (lv_at hl 2 rfl) ?_
  refine ro_V (As := [.int (nI t)]) (rest := []) (v := f t) ⟨hx, hb, hml, hown, hts⟩ (c_X4_zoneWith l D cI cZ cQ cJ a b f t (by first | assumption | omega)) (gV t2_36 t2_37 t2_38 t1_5 t2_39) rfl rfl hd_X4_zoneWith ⟨Nat.le_of_ble_eq_true rfl, Nat.le_of_ble_eq_true rfl⟩ (hP.sub (ws' := wPl a b cI f) [41, 42] rfl) hSt (va_recv hSt.1 hP (ci := 4) (q0 := 41) rfl rfl) rfl hl.1 rfl (Nat.le_of_ble_eq_true rfl) dX3_tieCostToLower_2 (Nat.zero_le _) (Nat.zero_le _) ?_
  refine lv_as (y := zI (g t)) (hg t (by omega)) ?_
  refine lv_istore_n (lv' := [(3, .int (zI (g t))), (0, .ref o), (1, .ref a), (2, .int (nI t))]) hx hb dX3_tieCostToLower_5 rfl hl (by decide) rfl (fun ls hl => ?_)
  refine lv_iload_n hx hb dX3_tieCostToLower_6 rfl (lv_at hl 0 rfl) ?_
  refine lv_iconst (v := (-1 : Int32)) hx hb dX3_tieCostToLower_7 (by decide) ?_
  refine lv_icmp_ne (tgt := 13) hx hb dX3_tieCostToLower_8 (by decide) (fun c_1 => ?_) (fun c_1 => ?_)
  · have hgt := zI_some c_1
    refine lv_iconst (v := nI 0) hx hb dX3_tieCostToLower_13 (by decide) ?_
    refine lv_istore (lv' := [(4, .int (nI 0)), (3, .int (zI (g t))), (0, .ref o), (1, .ref a), (2, .int (nI t))]) hx hb dX3_tieCostToLower_14 hl (by decide) rfl (fun ls hl => ?_)
    refine lv_iconst (v := nI 0) hx hb dX3_tieCostToLower_16 (by decide) ?_
    refine lv_istore (lv' := [(5, .int (nI 0)), (4, .int (nI 0)), (3, .int (zI (g t))), (0, .ref o), (1, .ref a), (2, .int (nI t))]) hx hb dX3_tieCostToLower_17 hl (by decide) rfl (fun ls hl => ?_)
    have L19 : ∀ (n9 : Nat) (j : Nat) (s1 : Nat), (j ≤ t) → (s1 = sumT (tieT ti dd g t) j) → (t - j) < n9 → ∀ (ls : Array Slot), lv_has ls 7 [(0, .ref o), (1, .ref a), (2, .int (nI t)), (3, .int (zI (g t))), (4, .int (nI s1)), (5, .int (nI j))] → W p l e ({ frames := 1, cells := 0, slots := 0, locals := 21 } : Room) s m ([.ref o, .ref a, .int (nI t)] : List Value).toArray below meth c s.heap [] 0 0 (MQ below (vp_Si (fun r9 => r9 = nI (tieN ti dd g t))) ([.ref o, .ref a, .int (nI t)] : List Value).toArray s 0 0 (fun _ => False)) (F0 m 19 ls []) := by
      intro n9
      induction n9 with
      | zero =>
        intro j s1 hj hs1 hm
        exact absurd hm (by omega)
      | succ n9 ih =>
        intro j s1 hj hs1 hm ls hl
        have ih_L19 := ih
        refine lv_iload hx hb dX3_tieCostToLower_19 (lv_at hl 5 rfl) ?_
        refine lv_iload_n hx hb dX3_tieCostToLower_21 rfl (lv_at hl 2 rfl) ?_
        refine lv_icmp_ge (tgt := 75) hx hb dX3_tieCostToLower_22 (by decide) (fun c_2 => ?_) (fun c_2 => ?_)
        · have c_2 := z_le (by omega) (by omega) c_2
          refine lv_iload hx hb dX3_tieCostToLower_75 (lv_at hl 4 rfl) ?_
          exact W.iret (v := nI s1) hx hb hr (fun t9 ht9 hW9 => ⟨_, rfl, (by rw [hs1, show j = t by omega]; rfl), ht9⟩) (fun q h => nomatch h) dX3_tieCostToLower_77
        · have c_2 := z_nle (by omega) (by omega) c_2
          refine lv_aload_n hx hb dX3_tieCostToLower_25 rfl (lv_at hl 1 rfl) ?_
          refine lv_iload hx hb dX3_tieCostToLower_26 (lv_at hl 5 rfl) ?_
          refine ro_V (As := [.int (nI j)]) (rest := []) (v := f j) ⟨hx, hb, hml, hown, hts⟩ (c_X4_zoneWith l D cI cZ cQ cJ a b f j (by first | assumption | omega)) (gV t2_36 t2_37 t2_38 t1_5 t2_39) rfl rfl hd_X4_zoneWith ⟨Nat.le_of_ble_eq_true rfl, Nat.le_of_ble_eq_true rfl⟩ (hP.sub (ws' := wPl a b cI f) [41, 42] rfl) hSt (va_recv hSt.1 hP (ci := 4) (q0 := 41) rfl rfl) rfl hl.1 rfl (Nat.le_of_ble_eq_true rfl) dX3_tieCostToLower_28 (Nat.zero_le _) (Nat.zero_le _) ?_
          refine lv_as (y := zI (g j)) (hg j (by omega)) ?_
          refine lv_istore (lv' := [(6, .int (zI (g j))), (0, .ref o), (1, .ref a), (2, .int (nI t)), (3, .int (zI (g t))), (4, .int (nI s1)), (5, .int (nI j))]) hx hb dX3_tieCostToLower_31 hl (by decide) rfl (fun ls hl => ?_)
          refine lv_iload hx hb dX3_tieCostToLower_33 (lv_at hl 0 rfl) ?_
          refine lv_iconst (v := (-1 : Int32)) hx hb dX3_tieCostToLower_35 (by decide) ?_
          refine lv_icmp_eq (tgt := 69) hx hb dX3_tieCostToLower_36 (by decide) (fun c_3 => ?_) (fun c_3 => ?_)
          · refine lv_iinc (v := nI (j + 1)) (lv' := [(5, .int (nI (j + 1))), (6, .int (zI (g j))), (0, .ref o), (1, .ref a), (2, .int (nI t)), (3, .int (zI (g t))), (4, .int (nI s1))]) hx hb dX3_tieCostToLower_69 hl (k := 6) rfl (z_inc _) (by decide) rfl (fun ls hl => ?_)
            refine lv_goto (tgt := 19) hx hb dX3_tieCostToLower_72 (by decide) ?_
            exact ih_L19 (j + 1) s1 (by omega) (tie_n hs1 (fun q => by have := zI_none c_3; omega)) (by omega) _ (lv_sub hl [2, 3, 4, 5, 6, 0] rfl)
          · have hgj := zI_some c_3
            have hgt2 : g t < nz := (hz t (by omega)).resolve_right (by omega)
            have hgj2 : g j < nz := (hz j (by omega)).resolve_right (by omega)
            refine lv_iload hx hb dX3_tieCostToLower_39 (lv_at hl 5 rfl) ?_
            refine lv_aload_n hx hb dX3_tieCostToLower_41 rfl (lv_at hl 1 rfl) ?_
            refine va_get (D := D) (ci := 3) (v := .ref (y 0)) (C := RX3) (T := TX3) (N := 2) hx hb hts tu_X3 hown hSt.1 hP 0 rfl rfl 1 (by decide) (hts _ t1_112) (fun _ h9 => h9) rfl dX3_tieCostToLower_42 ?_
            refine va_getN (D := D) (ci := 5) (v := .ref (y 4)) (C := RX5) (T := TX5) (N := 5) hx hb hts tu_X5 hown hSt.1 hP 15 rfl rfl 3 (by decide) (nf_20 hSt.2) (fun _ h9 => h9) rfl dX3_tieCostToLower_45 ?_
            refine lv_iload_n hx hb dX3_tieCostToLower_48 rfl (lv_at hl 3 rfl) ?_
            refine r_aald (r := rt) hx hb hSt.1 hP 19 2 rfl rfl (k := t) (by omega) dX3_tieCostToLower_49 ?_
            refine lv_iload hx hb dX3_tieCostToLower_50 (lv_at hl 6 rfl) ?_
            refine r_iald hx hb hSt.1 hP _ 0 (f := Ti t) (at_r (at_r (at_l (wSt_T (k := t) (by omega))))) rfl (k := j) (by omega) (by omega) dX3_tieCostToLower_52 ?_
            refine lv_as (y := nI (ti t j)) (hti t j (by omega) (by omega)) ?_
            refine lv_aload_n hx hb dX3_tieCostToLower_53 rfl (lv_at hl 1 rfl) ?_
            refine va_get (D := D) (ci := 3) (v := .ref (x 0)) (C := RX3) (T := TX3) (N := 2) hx hb hts tu_X3 hown hSt.1 hP 0 rfl rfl 0 (by decide) (hts _ t1_108) (fun _ h9 => h9) rfl dX3_tieCostToLower_54 ?_
            refine va_getN (D := D) (ci := 1) (v := .ref (x 4)) (C := RX1) (T := TX1) (N := 8) hx hb hts tu_X1 hown hSt.1 hP 1 rfl rfl 3 (by decide) (nf_21 hSt.2) (fun _ h9 => h9) rfl dX3_tieCostToLower_57 ?_
            refine lv_iload_n hx hb dX3_tieCostToLower_60 rfl (lv_at hl 4 rfl) ?_
            refine lv_as (y := nI (g t)) (zI_lt hgt) ?_
            refine r_aald (r := r) hx hb hSt.1 hP 5 2 rfl rfl (k := (g t)) (by omega) dX3_tieCostToLower_61 ?_
            refine lv_iload hx hb dX3_tieCostToLower_62 (lv_at hl 0 rfl) ?_
            refine lv_as (y := nI (g j)) (zI_lt hgj) ?_
            refine r_iald hx hb hSt.1 hP _ 0 (f := T (g t)) (at_r (at_l (wFl_T (k := (g t)) (by omega)))) rfl (k := (g j)) (by omega) (by omega) dX3_tieCostToLower_64 ?_
            refine lv_as (y := nI (dd (g t) (g j))) (hdd _ _ hgt2 hgj2) ?_
            refine r_muln hx hb dX3_tieCostToLower_65 ?_
            refine r_addn hx hb dX3_tieCostToLower_66 ?_
            refine lv_istore (lv' := [(4, .int (nI (s1 + ((ti t j) * (dd (g t) (g j)))))), (6, .int (zI (g j))), (0, .ref o), (1, .ref a), (2, .int (nI t)), (3, .int (zI (g t))), (5, .int (nI j))]) hx hb dX3_tieCostToLower_67 hl (by decide) rfl (fun ls hl => ?_)
            refine lv_iinc (v := nI (j + 1)) (lv' := [(5, .int (nI (j + 1))), (4, .int (nI (s1 + ((ti t j) * (dd (g t) (g j)))))), (6, .int (zI (g j))), (0, .ref o), (1, .ref a), (2, .int (nI t)), (3, .int (zI (g t)))]) hx hb dX3_tieCostToLower_69 hl (k := 6) rfl (z_inc _) (by decide) rfl (fun ls hl => ?_)
            refine lv_goto (tgt := 19) hx hb dX3_tieCostToLower_72 (by decide) ?_
            exact ih_L19 (j + 1) (s1 + ((ti t j) * (dd (g t) (g j)))) (by omega) (tie_s hs1 hgt hgj) (by omega) _ (lv_sub hl [3, 4, 5, 6, 1, 0] rfl)
    exact L19 _ 0 0 (by omega) rfl (Nat.lt_succ_self _) _ (lv_sub hl [3, 4, 5, 2, 1, 0] rfl)
  · refine lv_iconst (v := nI 0) hx hb dX3_tieCostToLower_11 (by decide) ?_
    exact W.iret (v := nI 0) hx hb hr (fun t9 ht9 hW9 => ⟨_, rfl, ((by rw [tie_0 (by have := zI_none c_1; omega)])), ht9⟩) (fun q h => nomatch h) dX3_tieCostToLower_12
theorem hd_X3_fits : yX3_fits.cls = RX3 ∧ yX3_fits.cls ≠ "java/lang/invoke/MethodHandle" ∧ yX3_fits.cls ≠ "java/lang/invoke/VarHandle" ∧ (parseMethodDescriptor yX3_fits.desc).map (fun d => d.parameters.length) = some 2 := by decide +kernel
theorem hd_X3_wishCostOf : yX3_wishCostOf.cls = RX3 ∧ yX3_wishCostOf.cls ≠ "java/lang/invoke/MethodHandle" ∧ yX3_wishCostOf.cls ≠ "java/lang/invoke/VarHandle" ∧ (parseMethodDescriptor yX3_wishCostOf.desc).map (fun d => d.parameters.length) = some 1 := by decide +kernel
theorem hd_X3_tieCostToLower : yX3_tieCostToLower.cls = RX3 ∧ yX3_tieCostToLower.cls ≠ "java/lang/invoke/MethodHandle" ∧ yX3_tieCostToLower.cls ≠ "java/lang/invoke/VarHandle" ∧ (parseMethodDescriptor yX3_tieCostToLower.desc).map (fun d => d.parameters.length) = some 2 := by decide +kernel
set_option maxHeartbeats 4000000 in
set_option maxRecDepth 100000 in
/-- the cost of a placement -/
theorem c_X3_costOf (l : Launch) (D : va_G) (cI cZ cQ cJ : ClassId) (o : Nat) (x : Nat → Nat) (r : Nat → Nat) (w : Nat → Int32) (q : Nat → Int32) (d : Nat → Int32) (T : Nat → Nat → Int32) (st : Nat → Int32) (re : Nat → Int32) (rc : Int32) (nz : Nat) (y : Nat → Nat) (rp : Nat → Nat) (rw : Nat → Nat) (rt : Nat → Nat) (P : Nat → Nat → Int32) (n : Nat → Int32) (Wi : Nat → Nat → Int32) (Ti : Nat → Nat → Int32) (a : Nat) (b : Nat) (f : Nat → Int32) (nt : Nat) (wi : Nat → Nat → Nat) (ti : Nat → Nat → Nat) (dd : Nat → Nat → Nat) (g : Nat → Nat) (hwi : rOK 7 7 Wi wi) (hti : rOK 7 7 Ti ti) (hdd : rOK nz nz T dd) (hg : pOK 7 f g) (hz : gOK nz 7 g) (hnz : nz ≤ 7) (hnt : nt ≤ 7) : Met l yX3_costOf (.code yX3_costOf cX3_costOf 4 (some .int) :: ALL) ({ frames := 2, cells := 0, slots := 0, locals := 47 } : Room) (va_Pc [.ref o, .ref a] (ro_P D cI cZ cQ cJ ((wOf o (x 0) (y 0)) ++ ((wFl x r cI cZ cQ w q d T st re rc (nI nz)) ++ ((wSt y rp rw rt cI cQ P n Wi Ti (nI nt)) ++ (wPl a b cI f)))))) (vp_Si (fun r9 => r9 = nI (costN wi ti dd g nt))) 0 0 (fun _ => False) := by
  refine Met.ofW (cc := cX3_costOf) (maxL := 4) (ret := (some .int)) (by decide) rfl ?_
  intro p e s m args below meth c s₁ B hml hv
  obtain ⟨rfl, hP, hSt⟩ := hv
  have hx := B.exec
  have hb := B.bytes
  have hr := B.returns
  have hts : ∀ w ∈ ALL, w.before ([.ref o, .ref a] : List Value).toArray s = true := fun w h => atoms_spec (ws := (.code yX3_costOf cX3_costOf 4 (some .int) :: ALL)) B.pre w (List.mem_cons_of_mem _ h)
  have hown : s.vm.findClass RX3 = some m.cls := findClass_of_methodNamed B.named
  have hlocks := B.notSynchronized
  have hl := lv_entry ([.ref o, .ref a]) (n := 4) (Nat.le_of_ble_eq_true rfl)
  rw [lg_entry_eq]
  generalize (lg_sl ([.ref o, .ref a]) ++ List.replicate (4 - (lg_sl ([.ref o, .ref a])).length) Slot.unset).toArray = ls at hl ⊢
  have hl : lv_has ls 4 [(0, .ref o), (1, .ref a)] := hl
  refine lv_aload_n hx hb dX3_costOf_0 rfl (lv_at hl 0 rfl) ?_
  refine lv_aload_n hx hb dX3_costOf_1 rfl (lv_at hl 1 rfl) ?_
  refine ro_V (As := [.ref a]) (rest := []) (v := nI (wishN wi g nt)) ⟨hx, hb, hml, hown, hts⟩ (c_X3_wishCostOf l D cI cZ cQ cJ o x r w q d T st re rc nz y rp rw rt P n Wi Ti a b f nt wi g (by first | assumption | omega) (by first | assumption | omega) (by first | assumption | omega) (by first | assumption | omega) (by first | assumption | omega)) (gV t3_90 t3_91 t3_92 t1_2 t3_93) rfl rfl hd_X3_wishCostOf ⟨Nat.le_of_ble_eq_true rfl, Nat.le_of_ble_eq_true rfl⟩ hP hSt (va_recv hSt.1 hP (ci := 3) (q0 := 0) rfl rfl) rfl hl.1 rfl (Nat.le_of_ble_eq_true rfl) dX3_costOf_2 (Nat.zero_le _) (Nat.zero_le _) ?_
  refine lv_istore_n (lv' := [(2, .int (nI (wishN wi g nt))), (0, .ref o), (1, .ref a)]) hx hb dX3_costOf_5 rfl hl (by decide) rfl (fun ls hl => ?_)
  refine lv_iconst (v := nI 0) hx hb dX3_costOf_6 (by decide) ?_
  refine lv_istore_n (lv' := [(3, .int (nI 0)), (2, .int (nI (wishN wi g nt))), (0, .ref o), (1, .ref a)]) hx hb dX3_costOf_7 rfl hl (by decide) rfl (fun ls hl => ?_)
  have L8 : ∀ (n9 : Nat) (t : Nat) (s1 : Nat), (t ≤ nt) → (s1 = wishN wi g nt + sumT (tieN ti dd g) t) → (nt - t) < n9 → ∀ (ls : Array Slot), lv_has ls 4 [(0, .ref o), (1, .ref a), (2, .int (nI s1)), (3, .int (nI t))] → W p l e ({ frames := 2, cells := 0, slots := 0, locals := 47 } : Room) s m ([.ref o, .ref a] : List Value).toArray below meth c s.heap [] 0 0 (MQ below (vp_Si (fun r9 => r9 = nI (costN wi ti dd g nt))) ([.ref o, .ref a] : List Value).toArray s 0 0 (fun _ => False)) (F0 m 8 ls []) := by
    intro n9
    induction n9 with
    | zero =>
      intro t s1 ht hs1 hm
      exact absurd hm (by omega)
    | succ n9 ih =>
      intro t s1 ht hs1 hm ls hl
      have ih_L8 := ih
      refine lv_iload_n hx hb dX3_costOf_8 rfl (lv_at hl 3 rfl) ?_
      refine lv_aload_n hx hb dX3_costOf_9 rfl (lv_at hl 0 rfl) ?_
      refine va_get (D := D) (ci := 3) (v := .ref (y 0)) (C := RX3) (T := TX3) (N := 2) hx hb hts tu_X3 hown hSt.1 hP 0 rfl rfl 1 (by decide) (hts _ t1_112) (fun _ h9 => h9) rfl dX3_costOf_10 ?_
      refine va_getN (D := D) (ci := 5) (v := .int (nI nt)) (C := RX5) (T := TX5) (N := 5) hx hb hts tu_X5 hown hSt.1 hP 15 rfl rfl 4 (by decide) (nf_18 hSt.2) (fun _ h9 => h9) rfl dX3_costOf_13 ?_
      refine lv_icmp_ge (tgt := 34) hx hb dX3_costOf_16 (by decide) (fun c_1 => ?_) (fun c_1 => ?_)
      · have c_1 := z_le (by omega) (by omega) c_1
        refine lv_iload_n hx hb dX3_costOf_34 rfl (lv_at hl 2 rfl) ?_
        exact W.iret (v := nI s1) hx hb hr (fun t9 ht9 hW9 => ⟨_, rfl, (by rw [hs1, show t = nt by omega]; rfl), ht9⟩) (fun q h => nomatch h) dX3_costOf_35
      · have c_1 := z_nle (by omega) (by omega) c_1
        refine lv_iload_n hx hb dX3_costOf_19 rfl (lv_at hl 2 rfl) ?_
        refine lv_aload_n hx hb dX3_costOf_20 rfl (lv_at hl 0 rfl) ?_
        refine lv_aload_n hx hb dX3_costOf_21 rfl (lv_at hl 1 rfl) ?_
        refine lv_iload_n hx hb dX3_costOf_22 rfl (lv_at hl 3 rfl) ?_
        refine ro_V (As := [.ref a, .int (nI t)]) (rest := [.int (nI s1)]) (v := nI (tieN ti dd g t)) ⟨hx, hb, hml, hown, hts⟩ (c_X3_tieCostToLower l D cI cZ cQ cJ o x r w q d T st re rc nz y rp rw rt P n Wi Ti a b f (nI nt) ti dd g t (by first | assumption | omega) (by first | assumption | omega) (fun u hu => hg u (by omega)) (fun u hu => hz u (by omega)) (by first | assumption | omega) (by first | assumption | omega)) (gV t3_94 t2_33 t2_34 t1_2 t2_35) rfl rfl hd_X3_tieCostToLower ⟨Nat.le_of_ble_eq_true rfl, Nat.le_of_ble_eq_true rfl⟩ hP hSt (va_recv hSt.1 hP (ci := 3) (q0 := 0) rfl rfl) rfl hl.1 rfl (Nat.le_of_ble_eq_true rfl) dX3_costOf_23 (Nat.zero_le _) (Nat.zero_le _) ?_
        refine r_addn hx hb dX3_costOf_26 ?_
        refine lv_istore_n (lv' := [(2, .int (nI (s1 + (tieN ti dd g t)))), (0, .ref o), (1, .ref a), (3, .int (nI t))]) hx hb dX3_costOf_27 rfl hl (by decide) rfl (fun ls hl => ?_)
        refine lv_iinc (v := nI (t + 1)) (lv' := [(3, .int (nI (t + 1))), (2, .int (nI (s1 + (tieN ti dd g t)))), (0, .ref o), (1, .ref a)]) hx hb dX3_costOf_28 hl (k := 3) rfl (z_inc _) (by decide) rfl (fun ls hl => ?_)
        refine lv_goto (tgt := 8) hx hb dX3_costOf_31 (by decide) ?_
        exact ih_L8 (t + 1) (s1 + (tieN ti dd g t)) (by omega) (by rw [sumT, hs1]; omega) (by omega) _ (lv_sub hl [2, 3, 1, 0] rfl)
  exact L8 _ 0 (wishN wi g nt) (by omega) rfl (Nat.lt_succ_self _) _ (lv_sub hl [2, 3, 1, 0] rfl)
theorem hd_X3_costOf : yX3_costOf.cls = RX3 ∧ yX3_costOf.cls ≠ "java/lang/invoke/MethodHandle" ∧ yX3_costOf.cls ≠ "java/lang/invoke/VarHandle" ∧ (parseMethodDescriptor yX3_costOf.desc).map (fun d => d.parameters.length) = some 1 := by decide +kernel
