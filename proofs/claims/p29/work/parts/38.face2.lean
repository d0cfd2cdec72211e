set_option maxHeartbeats 4000000 in
set_option maxRecDepth 100000 in
/-- the least placement is laid -/
theorem c_X7_layLeast (l : Launch) (D : va_G) (cI cZ cQ cJ : ClassId) (ad : Nat) (o : Nat) (pa : Nat) (ka : Nat) (fx : Nat → Nat) (sx : Nat → Nat) (x : Nat → Nat) (r : Nat → Nat) (w : Nat → Int32) (q : Nat → Int32) (d : Nat → Int32) (T : Nat → Nat → Int32) (st : Nat → Int32) (re : Nat → Int32) (rc : Int32) (nz : Nat) (y : Nat → Nat) (rp : Nat → Nat) (rw : Nat → Nat) (rt : Nat → Nat) (P : Nat → Nat → Int32) (n : Nat → Int32) (Wi : Nat → Nat → Int32) (Ti : Nat → Nat → Int32) (nt : Nat) (pb : Nat) (zo : Nat → Int32) (ff : Nat → Int32) (fg : Nat → Int32) (tk : Nat → Int32) (wt : Int32) (le : Int32) (wb : Bool) (wi : Nat → Nat → Nat) (ti : Nat → Nat → Nat) (dd : Nat → Nat → Nat) (sz : Nat) (hnt : nt ≤ 7) (hnz : nz ≤ 7) (hwi : rOK 7 7 Wi wi) (hti : rOK 7 7 Ti ti) (hdd : rOK nz nz T dd) (hv : vOK nz wi ti dd) (hff2 : ∀ u, nt ≤ u → u < 7 → ff u = -1) (hfg2 : ∀ u, nt ≤ u → u < 7 → fg u = -1) (htk : ∀ u, u < 7 → tk u = 0) (hfl : l.stackTraces = false) : vx_Met l yX7_layLeast (.code yX7_layLeast cX7_layLeast 3 (some .int) :: ALL) ({ frames := 19, cells := 1, slots := 6, locals := 539 } : Room) (va_Pc [.ref ad, .int (bB wb)] (rx_P D cI cZ cQ cJ ((wDp ad o pa ka (fx 0) (sx 0)) ++ ((wOf o (x 0) (y 0)) ++ ((wFl x r cI cZ cQ w q d T st re rc (nI nz)) ++ ((wSt y rp rw rt cI cQ P n Wi Ti (nI nt)) ++ ((wPl pa pb cI zo) ++ (wFs fx cI cZ ff fg tk wt le)))))) sz)) (va_Qi (fun (r9 : Int32) (u9 : Int32 × (Nat → Int32) × (Nat → Int32) × (Nat → Int32) × Int32 × Int32) => (r9 = u9.1) ∧ (sBest wb nt nz n d wi ti dd 0 u9.1 u9.2.1) ∧ (∀ u, nt ≤ u → u < 7 → u9.2.1 u = -1) ∧ (∀ u, nt ≤ u → u < 7 → u9.2.2.1 u = -1) ∧ (∀ u, nt ≤ u → u < 7 → u9.2.2.2.1 u = -1)) (rw_B D (va_A ((wDp ad o pa ka (fx 0) (sx 0)) ++ ((wOf o (x 0) (y 0)) ++ ((wFl x r cI cZ cQ w q d T st re rc (nI nz)) ++ ((wSt y rp rw rt cI cQ P n Wi Ti (nI nt)) ++ ((wPl pa pb cI zo) ++ (wFs fx cI cZ ff fg tk wt le)))))) sz) (fun u9 : Int32 × (Nat → Int32) × (Nat → Int32) × (Nat → Int32) × Int32 × Int32 => (wDp ad o pa ka (fx 0) (sx 0)) ++ ((wOf o (x 0) (y 0)) ++ ((wFl x r cI cZ cQ w q d T st re rc (nI nz)) ++ ((wSt y rp rw rt cI cQ P n Wi Ti (nI nt)) ++ ((wPl pa pb cI u9.2.1) ++ (wFs fx cI cZ u9.2.2.1 u9.2.2.2.1 tk u9.2.2.2.2.2 u9.2.2.2.2.1))))))) (va_A ((wDp ad o pa ka (fx 0) (sx 0)) ++ ((wOf o (x 0) (y 0)) ++ ((wFl x r cI cZ cQ w q d T st re rc (nI nz)) ++ ((wSt y rp rw rt cI cQ P n Wi Ti (nI nt)) ++ ((wPl pa pb cI zo) ++ (wFs fx cI cZ ff fg tk wt le)))))) sz)) (rx_X (fun (E9 : String) (x9 : (Nat → Int32) × (Nat → Int32) × Int32 × Int32) => E9 = "java/lang/IllegalStateException" ∧ sBest wb nt nz n d wi ti dd 1 0 x9.2.1 ∧ (∀ u, nt ≤ u → u < 7 → x9.1 u = -1) ∧ (∀ u, nt ≤ u → u < 7 → x9.2.1 u = -1)) D (va_A ((wDp ad o pa ka (fx 0) (sx 0)) ++ ((wOf o (x 0) (y 0)) ++ ((wFl x r cI cZ cQ w q d T st re rc (nI nz)) ++ ((wSt y rp rw rt cI cQ P n Wi Ti (nI nt)) ++ ((wPl pa pb cI zo) ++ (wFs fx cI cZ ff fg tk wt le)))))) sz) (fun x9 : (Nat → Int32) × (Nat → Int32) × Int32 × Int32 => (wDp ad o pa ka (fx 0) (sx 0)) ++ ((wOf o (x 0) (y 0)) ++ ((wFl x r cI cZ cQ w q d T st re rc (nI nz)) ++ ((wSt y rp rw rt cI cQ P n Wi Ti (nI nt)) ++ ((wPl pa pb cI zo) ++ (wFs fx cI cZ x9.1 x9.2.1 tk x9.2.2.2 x9.2.2.1))))))) 1 6 (va_A ((wDp ad o pa ka (fx 0) (sx 0)) ++ ((wOf o (x 0) (y 0)) ++ ((wFl x r cI cZ cQ w q d T st re rc (nI nz)) ++ ((wSt y rp rw rt cI cQ P n Wi Ti (nI nt)) ++ ((wPl pa pb cI zo) ++ (wFs fx cI cZ ff fg tk wt le)))))) sz) := by
  refine vx_ofW (cc := cX7_layLeast) (maxL := 3) (ret := (some .int)) (by decide) rfl ?_
  intro p e s m args below meth c s₁ B hml ht hv
  obtain ⟨rfl, ⟨hsz, hP, hSt, hD0⟩, hDc, hZ⟩ := hv
  change W p l e ({ frames := 19, cells := 1, slots := 6, locals := 539 } : Room) s m _ below meth c s.heap [] 0 0 _ _
  have hx := B.exec
  have hb := B.bytes
  have hr := B.returns
  have hts : ∀ w ∈ ALL, w.before ([.ref ad, .int (bB wb)] : List Value).toArray s = true := fun w h => atoms_spec (ws := (.code yX7_layLeast cX7_layLeast 3 (some .int) :: ALL)) B.pre w (List.mem_cons_of_mem _ h)
  have hown : s.vm.findClass RX7 = some m.cls := findClass_of_methodNamed B.named
  have hlocks := B.notSynchronized
  subst hsz
  have hD := hD0.self (sz := s.heap.size)
  clear hD0
  generalize hAe : va_A ((wDp ad o pa ka (fx 0) (sx 0)) ++ ((wOf o (x 0) (y 0)) ++ ((wFl x r cI cZ cQ w q d T st re rc (nI nz)) ++ ((wSt y rp rw rt cI cQ P n Wi Ti (nI nt)) ++ ((wPl pa pb cI zo) ++ (wFs fx cI cZ ff fg tk wt le)))))) s.heap.size = A at hD hZ ⊢
  have hA : ∀ q : Nat, s.heap.size ≤ q → A q := fun q h => by rw [← hAe]; exact Or.inr h
  have hS : va_S A s.heap s.heap [] := va_S.rf
  have hl := lv_entry ([.ref ad, .int (bB wb)]) (n := 3) (Nat.le_of_ble_eq_true rfl)
  rw [lg_entry_eq]
  generalize (lg_sl ([.ref ad, .int (bB wb)]) ++ List.replicate (3 - (lg_sl ([.ref ad, .int (bB wb)])).length) Slot.unset).toArray = ls at hl ⊢
  have hl : lv_has ls 3 [(0, .ref ad), (1, .int (bB wb))] := hl
  obtain ⟨H, hHe⟩ : ∃ H : Heap, H = s.heap := ⟨_, rfl⟩
  obtain ⟨locs, hLe⟩ : ∃ L : List Loc, L = [] := ⟨_, rfl⟩
  have hP : va_P D vwCl ((wDp ad o pa ka (fx 0) (sx 0)) ++ ((wOf o (x 0) (y 0)) ++ ((wFl x r cI cZ cQ w q d T st re rc (nI nz)) ++ ((wSt y rp rw rt cI cQ P n Wi Ti (nI nt)) ++ ((wPl pa pb cI zo) ++ (wFs fx cI cZ ff fg tk wt le)))))) H := by rw [hHe]; exact hP
  have hS : va_S A s.heap H locs := by rw [hHe, hLe]; exact hS
  refine W.eqHL hHe hLe ?_
  refine lv_aload_n hx hb dX7_layLeast_0 rfl (lv_at hl 0 rfl) ?_
  refine va_get (D := D) (ci := 7) (v := .ref (fx 0)) (C := RX7) (T := TX7) (N := 5) hx hb hts tu_X7 hown hSt.1 hP 0 rfl rfl 3 (by decide) (hts _ t1_211) (fun _ h9 => h9) rfl dX7_layLeast_1 ?_
  refine lv_aload_n hx hb dX7_layLeast_4 rfl (lv_at hl 0 rfl) ?_
  refine va_get (D := D) (ci := 7) (v := .ref o) (C := RX7) (T := TX7) (N := 5) hx hb hts tu_X7 hown hSt.1 hP 0 rfl rfl 0 (by decide) (hts _ t1_208) (fun _ h9 => h9) rfl dX7_layLeast_5 ?_
  refine lv_iload_n hx hb dX7_layLeast_8 rfl (lv_at hl 1 rfl) ?_
  refine rw_i (wr := (wDp ad o pa ka (fx 0) (sx 0)) ++ (wPl pa pb cI zo)) (w_V (As := [.ref o, .int (bB wb)]) ⟨hx, hb, hml, hown, hts⟩ (c_X2_findLeast l D cI cZ cQ cJ o x r w q d T st re rc nz y rp rw rt P n Wi Ti nt fx ff fg tk wi ti dd wt le wb H.size (by first | assumption | omega) (by first | assumption | omega) (by first | assumption | omega) (by first | assumption | omega) (by first | assumption | omega) (by first | assumption | omega) (by first | assumption | omega) (by first | assumption | omega) (by first | assumption | omega)) (gV t2_11 t2_12 t2_13 t1_7 t2_14) rfl rfl hd_X2_findLeast ⟨Nat.le_of_ble_eq_true rfl, Nat.le_of_ble_eq_true rfl⟩ (rw_pre hP hD hSt [1, 2, 3, 4, 5, 6, 7, 8, 9, 10, 11, 12, 13, 14, 15, 16, 17, 18, 19, 20, 21, 22, 23, 24, 25, 26, 27, 28, 29, 30, 31, 32, 33, 34, 35, 36, 37, 38, 39, 40, 41, 44, 45, 46, 47, 48, 49] rfl (by decide)) (va_recv hSt.1 hP (ci := 2) (q0 := 44) rfl rfl) rfl hl.1 (rest := []) rfl (Nat.le_of_ble_eq_true rfl) dX7_layLeast_9 ⟨Nat.le_of_ble_eq_true rfl, Nat.le_of_ble_eq_true rfl⟩) hP hD hS hA [1, 2, 3, 4, 5, 6, 7, 8, 9, 10, 11, 12, 13, 14, 15, 16, 17, 18, 19, 20, 21, 22, 23, 24, 25, 26, 27, 28, 29, 30, 31, 32, 33, 34, 35, 36, 37, 38, 39, 40, 41, 44, 45, 46, 47, 48, 49] [0, 42, 43] rfl rfl (by decide) (by decide) (fun r_9 u_4 H locs hw9 hP hD hS => ?_)
  obtain ⟨j_1, j_2, j_3⟩ := u_4
  obtain ⟨rfl, f_5, f_6, f_7⟩ := hw9
  have hffn : ∀ u, nt ≤ u → u < 7 → j_1 u = -1 := f_5
  have hfgn : ∀ u, nt ≤ u → u < 7 → j_2 u = -1 := f_6
  have hSR : SR nt (fun g9 => pcN wb wi ti dd g9 nt) (cmp nz nt (fun t9 z9 => n t9 ≤ d z9)) 1000000 fg j_3 j_2 := f_7
  have hP : va_P D vwCl (((wDp ad o pa ka (fx 0) (sx 0)) ++ (wPl pa pb cI zo)) ++ ((wOf o (x 0) (y 0)) ++ ((wFl x r cI cZ cQ w q d T st re rc (nI nz)) ++ ((wSt y rp rw rt cI cQ P n Wi Ti (nI nt)) ++ (wFs fx cI cZ j_1 j_2 tk (bB wb) (lI j_3)))))) H := hP
  have hD : va_D A (((wDp ad o pa ka (fx 0) (sx 0)) ++ (wPl pa pb cI zo)) ++ ((wOf o (x 0) (y 0)) ++ ((wFl x r cI cZ cQ w q d T st re rc (nI nz)) ++ ((wSt y rp rw rt cI cQ P n Wi Ti (nI nt)) ++ (wFs fx cI cZ j_1 j_2 tk (bB wb) (lI j_3)))))) := hD
  refine lv_istore_n (lv' := [(2, .int (lI j_3)), (0, .ref ad), (1, .int (bB wb))]) hx hb dX7_layLeast_12 rfl hl (by decide) rfl (fun ls hl => ?_)
  refine lv_iload_n hx hb dX7_layLeast_13 rfl (lv_at hl 0 rfl) ?_
  refine lv_iconst (v := (-1 : Int32)) hx hb dX7_layLeast_14 (by decide) ?_
  refine lv_icmp_ne (tgt := 28) hx hb dX7_layLeast_15 (by decide) (fun c_8 => ?_) (fun c_8 => ?_)
  · refine lv_aload_n hx hb dX7_layLeast_28 rfl (lv_at hl 1 rfl) ?_
    refine va_get (D := D) (ci := 7) (v := .ref pa) (C := RX7) (T := TX7) (N := 5) hx hb hts tu_X7 hown hSt.1 hP 0 rfl rfl 1 (by decide) (hts _ t1_209) (fun _ h9 => h9) rfl dX7_layLeast_29 ?_
    refine lv_aload_n hx hb dX7_layLeast_32 rfl (lv_at hl 1 rfl) ?_
    refine va_get (D := D) (ci := 7) (v := .ref (fx 0)) (C := RX7) (T := TX7) (N := 5) hx hb hts tu_X7 hown hSt.1 hP 0 rfl rfl 3 (by decide) (hts _ t1_211) (fun _ h9 => h9) rfl dX7_layLeast_33 ?_
    refine va_getN (D := D) (ci := 2) (v := .ref (fx 3)) (C := RX2) (T := TX2) (N := 5) hx hb hts tu_X2 hown hSt.1 hP 44 rfl rfl 1 (by decide) (nf_6 hSt.2) (fun _ h9 => h9) rfl dX7_layLeast_36 ?_
    refine rw_v (wr := (([(ad, .inr (7, [.ref o, .ref pa, .ref ka, .ref (fx 0), .ref (sx 0)])), (o, .inr (3, [.ref (x 0), .ref (y 0)])), ((x 0), .inr (1, [.ref (x 1), .ref (x 2), .ref (x 3), .ref (x 4), .ref (x 5), .ref (x 6), .int rc, .int (nI nz)])), ((x 1), .inl (cZ, 64, .inl w)), ((x 2), .inl (cI, 7, .inl q)), ((x 3), .inl (cI, 7, .inl d)), rq (x 4) cQ r, ((x 5), .inl (cI, 64, .inl st)), ((x 6), .inl (cI, 64, .inl re))] : va_W) ++ ((rb r cI 7 T 7) ++ (([((y 0), .inr (5, [.ref (y 1), .ref (y 2), .ref (y 3), .ref (y 4), .int (nI nt)])), rq (y 1) cQ rp, ((y 2), .inl (cI, 7, .inl n)), rq (y 3) cQ rw, rq (y 4) cQ rt] : va_W) ++ ((rb rp cI 5 P 7) ++ ((rb rw cI 7 Wi 7) ++ ((rb rt cI 7 Ti 7) ++ ([((fx 0), .inr (2, [.ref (fx 1), .ref (fx 3), .ref (fx 5), .int (bB wb), .int (lI j_3)])), ((fx 1), .inr (4, [.ref (fx 2)])), ((fx 2), .inl (cI, 7, .inl j_1)), ((fx 5), .inl (cZ, 7, .inl tk))] : va_W)))))))) (w_V (As := [.ref (fx 3)]) ⟨hx, hb, hml, hown, hts⟩ (c_X4_layLike l D cI cZ cQ cJ pa pb zo (fx 3) (fx 4) j_2 H.size) (gV t1_228 t1_229 t1_230 t1_5 t1_231) rfl rfl hd_X4_layLike ⟨Nat.le_of_ble_eq_true rfl, Nat.le_of_ble_eq_true rfl⟩ (rw_pre hP hD hSt [1, 2, 47, 48] rfl (by decide)) (va_recv hSt.1 hP (ci := 4) (q0 := 1) rfl rfl) rfl hl.1 (rest := []) rfl (Nat.le_of_ble_eq_true rfl) dX7_layLeast_39 ⟨Nat.le_of_ble_eq_true rfl, Nat.le_of_ble_eq_true rfl⟩) hP hD hS hA [1, 2, 47, 48] [0, 3, 4, 5, 6, 7, 8, 9, 10, 11, 12, 13, 14, 15, 16, 17, 18, 19, 20, 21, 22, 23, 24, 25, 26, 27, 28, 29, 30, 31, 32, 33, 34, 35, 36, 37, 38, 39, 40, 41, 42, 43, 44, 45, 46, 49] rfl rfl (by decide) (by decide) (fun  u_9 H locs hw9 hP hD hS => ?_)
    have hP : va_P D vwCl (((wDp ad o pa ka (fx 0) (sx 0)) ++ (wPl pa pb cI j_2)) ++ ((wOf o (x 0) (y 0)) ++ ((wFl x r cI cZ cQ w q d T st re rc (nI nz)) ++ ((wSt y rp rw rt cI cQ P n Wi Ti (nI nt)) ++ (wFs fx cI cZ j_1 j_2 tk (bB wb) (lI j_3)))))) H := hP.sub (ws' := ((wDp ad o pa ka (fx 0) (sx 0)) ++ (wPl pa pb cI j_2)) ++ ((wOf o (x 0) (y 0)) ++ ((wFl x r cI cZ cQ w q d T st re rc (nI nz)) ++ ((wSt y rp rw rt cI cQ P n Wi Ti (nI nt)) ++ (wFs fx cI cZ j_1 j_2 tk (bB wb) (lI j_3)))))) [0, 46, 47, 1, 2, 3, 4, 5, 6, 7, 8, 9, 10, 11, 12, 13, 14, 15, 16, 17, 18, 19, 20, 21, 22, 23, 24, 25, 26, 27, 28, 29, 30, 31, 32, 33, 34, 35, 36, 37, 38, 39, 40, 41, 42, 43, 44, 48, 49, 45] rfl
    have hD : va_D A (((wDp ad o pa ka (fx 0) (sx 0)) ++ (wPl pa pb cI j_2)) ++ ((wOf o (x 0) (y 0)) ++ ((wFl x r cI cZ cQ w q d T st re rc (nI nz)) ++ ((wSt y rp rw rt cI cQ P n Wi Ti (nI nt)) ++ (wFs fx cI cZ j_1 j_2 tk (bB wb) (lI j_3)))))) := hD.sub (ws' := ((wDp ad o pa ka (fx 0) (sx 0)) ++ (wPl pa pb cI j_2)) ++ ((wOf o (x 0) (y 0)) ++ ((wFl x r cI cZ cQ w q d T st re rc (nI nz)) ++ ((wSt y rp rw rt cI cQ P n Wi Ti (nI nt)) ++ (wFs fx cI cZ j_1 j_2 tk (bB wb) (lI j_3)))))) [0, 46, 47, 1, 2, 3, 4, 5, 6, 7, 8, 9, 10, 11, 12, 13, 14, 15, 16, 17, 18, 19, 20, 21, 22, 23, 24, 25, 26, 27, 28, 29, 30, 31, 32, 33, 34, 35, 36, 37, 38, 39, 40, 41, 42, 43, 44, 48, 49, 45] (by decide) rfl
    refine lv_iload_n hx hb dX7_layLeast_42 rfl (lv_at hl 0 rfl) ?_
    have hP9 : va_P D vwCl ((wDp ad o pa ka (fx 0) (sx 0)) ++ ((wOf o (x 0) (y 0)) ++ ((wFl x r cI cZ cQ w q d T st re rc (nI nz)) ++ ((wSt y rp rw rt cI cQ P n Wi Ti (nI nt)) ++ ((wPl pa pb cI j_2) ++ (wFs fx cI cZ j_1 j_2 tk (bB wb) (lI j_3))))))) H := (hP.sub (ws' := (wDp ad o pa ka (fx 0) (sx 0)) ++ ((wOf o (x 0) (y 0)) ++ ((wFl x r cI cZ cQ w q d T st re rc (nI nz)) ++ ((wSt y rp rw rt cI cQ P n Wi Ti (nI nt)) ++ ((wPl pa pb cI j_2) ++ (wFs fx cI cZ j_1 j_2 tk (bB wb) (lI j_3))))))) [0, 3, 4, 5, 6, 7, 8, 9, 10, 11, 12, 13, 14, 15, 16, 17, 18, 19, 20, 21, 22, 23, 24, 25, 26, 27, 28, 29, 30, 31, 32, 33, 34, 35, 36, 37, 38, 39, 40, 41, 42, 43, 1, 2, 44, 45, 46, 47, 48, 49] rfl)
    have hD9 : va_D A ((wDp ad o pa ka (fx 0) (sx 0)) ++ ((wOf o (x 0) (y 0)) ++ ((wFl x r cI cZ cQ w q d T st re rc (nI nz)) ++ ((wSt y rp rw rt cI cQ P n Wi Ti (nI nt)) ++ ((wPl pa pb cI j_2) ++ (wFs fx cI cZ j_1 j_2 tk (bB wb) (lI j_3))))))) := (hD.sub (ws' := (wDp ad o pa ka (fx 0) (sx 0)) ++ ((wOf o (x 0) (y 0)) ++ ((wFl x r cI cZ cQ w q d T st re rc (nI nz)) ++ ((wSt y rp rw rt cI cQ P n Wi Ti (nI nt)) ++ ((wPl pa pb cI j_2) ++ (wFs fx cI cZ j_1 j_2 tk (bB wb) (lI j_3))))))) [0, 3, 4, 5, 6, 7, 8, 9, 10, 11, 12, 13, 14, 15, 16, 17, 18, 19, 20, 21, 22, 23, 24, 25, 26, 27, 28, 29, 30, 31, 32, 33, 34, 35, 36, 37, 38, 39, 40, 41, 42, 43, 1, 2, 44, 45, 46, 47, 48, 49] (by decide) rfl)
    have g_10 : sBest wb nt nz n d wi ti dd 0 (lI j_3) j_2 := ⟨_, _, hSR, Or.inr ⟨lI_some c_8, rfl, lI_lt (lI_some c_8)⟩⟩
    have g_11 : ∀ u, nt ≤ u → u < 7 → j_2 u = -1 := hfgn
    have g_12 : ∀ u, nt ≤ u → u < 7 → j_1 u = -1 := hffn
    have g_13 : ∀ u, nt ≤ u → u < 7 → j_2 u = -1 := hfgn
    refine W.widen (k := 1) (n := 6) (by omega) (by omega) ?_
    exact vx_ret (W.iret (v := lI j_3) hx hb hr (fun t9 ht9 hW9 => ⟨⟨lI j_3, (lI j_3, j_2, j_1, j_2, lI j_3, bB wb), rfl, ⟨rfl, g_10, g_11, g_12, g_13⟩, by rw [ht9]; exact hP9, hD9⟩, hS.F ht9⟩) hS.2.2 dX7_layLeast_43)
  · have hP9 : va_P D vwCl ((wDp ad o pa ka (fx 0) (sx 0)) ++ ((wOf o (x 0) (y 0)) ++ ((wFl x r cI cZ cQ w q d T st re rc (nI nz)) ++ ((wSt y rp rw rt cI cQ P n Wi Ti (nI nt)) ++ ((wPl pa pb cI zo) ++ (wFs fx cI cZ j_1 j_2 tk (bB wb) (lI j_3))))))) H := (hP.sub (ws' := (wDp ad o pa ka (fx 0) (sx 0)) ++ ((wOf o (x 0) (y 0)) ++ ((wFl x r cI cZ cQ w q d T st re rc (nI nz)) ++ ((wSt y rp rw rt cI cQ P n Wi Ti (nI nt)) ++ ((wPl pa pb cI zo) ++ (wFs fx cI cZ j_1 j_2 tk (bB wb) (lI j_3))))))) [0, 3, 4, 5, 6, 7, 8, 9, 10, 11, 12, 13, 14, 15, 16, 17, 18, 19, 20, 21, 22, 23, 24, 25, 26, 27, 28, 29, 30, 31, 32, 33, 34, 35, 36, 37, 38, 39, 40, 41, 42, 43, 1, 2, 44, 45, 46, 47, 48, 49] rfl)
    have hD9 : va_D A ((wDp ad o pa ka (fx 0) (sx 0)) ++ ((wOf o (x 0) (y 0)) ++ ((wFl x r cI cZ cQ w q d T st re rc (nI nz)) ++ ((wSt y rp rw rt cI cQ P n Wi Ti (nI nt)) ++ ((wPl pa pb cI zo) ++ (wFs fx cI cZ j_1 j_2 tk (bB wb) (lI j_3))))))) := (hD.sub (ws' := (wDp ad o pa ka (fx 0) (sx 0)) ++ ((wOf o (x 0) (y 0)) ++ ((wFl x r cI cZ cQ w q d T st re rc (nI nz)) ++ ((wSt y rp rw rt cI cQ P n Wi Ti (nI nt)) ++ ((wPl pa pb cI zo) ++ (wFs fx cI cZ j_1 j_2 tk (bB wb) (lI j_3))))))) [0, 3, 4, 5, 6, 7, 8, 9, 10, 11, 12, 13, 14, 15, 16, 17, 18, 19, 20, 21, 22, 23, 24, 25, 26, 27, 28, 29, 30, 31, 32, 33, 34, 35, 36, 37, 38, 39, 40, 41, 42, 43, 1, 2, 44, 45, 46, 47, 48, 49] (by decide) rfl)
    exact tw_2 hx hb hfl hown hts hSt hDc hZ hS (hl.1.trans hml.symm) 14 rfl dX7_layLeast_18 dX7_layLeast_21 dX7_layLeast_22 dX7_layLeast_24 dX7_layLeast_27 ht (Nat.le_of_ble_eq_true rfl) (Nat.le_of_ble_eq_true rfl) (Nat.le_of_ble_eq_true rfl) (Nat.le_of_ble_eq_true rfl) hlocks (rx_new (u := (j_1, j_2, lI j_3, bB wb)) (⟨rfl, ⟨_, _, hSR, Or.inl ⟨by have h7 := lI_none c_8; have h8 := SR_le hSR; omega, rfl⟩⟩, hffn, hfgn⟩) hP9 hD9 hS) hS.2.2 (Nat.le_of_ble_eq_true rfl) (Nat.le_of_ble_eq_true rfl)
theorem hd_X7_layLeast : yX7_layLeast.cls = RX7 ∧ yX7_layLeast.cls ≠ "java/lang/invoke/MethodHandle" ∧ yX7_layLeast.cls ≠ "java/lang/invoke/VarHandle" ∧ (parseMethodDescriptor yX7_layLeast.desc).map (fun d => d.parameters.length) = some 1 := by decide +kernel
set_option maxHeartbeats 4000000 in
set_option maxRecDepth 100000 in
/-- X7_placeByWishes -/
theorem c_X7_placeByWishes (l : Launch) (D : va_G) (cI cZ cQ cJ : ClassId) (ad : Nat) (o : Nat) (pa : Nat) (ka : Nat) (fx : Nat → Nat) (sx : Nat → Nat) (x : Nat → Nat) (r : Nat → Nat) (w : Nat → Int32) (q : Nat → Int32) (d : Nat → Int32) (T : Nat → Nat → Int32) (st : Nat → Int32) (re : Nat → Int32) (rc : Int32) (nz : Nat) (y : Nat → Nat) (rp : Nat → Nat) (rw : Nat → Nat) (rt : Nat → Nat) (P : Nat → Nat → Int32) (n : Nat → Int32) (Wi : Nat → Nat → Int32) (Ti : Nat → Nat → Int32) (nt : Nat) (pb : Nat) (zo : Nat → Int32) (ff : Nat → Int32) (fg : Nat → Int32) (tk : Nat → Int32) (wt : Int32) (le : Int32) (wi : Nat → Nat → Nat) (ti : Nat → Nat → Nat) (dd : Nat → Nat → Nat) (sz : Nat) (hnt : nt ≤ 7) (hnz : nz ≤ 7) (hwi : rOK 7 7 Wi wi) (hti : rOK 7 7 Ti ti) (hdd : rOK nz nz T dd) (hv : vOK nz wi ti dd) (hff2 : ∀ u, nt ≤ u → u < 7 → ff u = -1) (hfg2 : ∀ u, nt ≤ u → u < 7 → fg u = -1) (htk : ∀ u, u < 7 → tk u = 0) (hfl : l.stackTraces = false) : vx_Met l yX7_placeByWishes (.code yX7_placeByWishes cX7_placeByWishes 1 (some .int) :: ALL) ({ frames := 20, cells := 1, slots := 6, locals := 561 } : Room) (va_Pc [.ref ad] (rx_P D cI cZ cQ cJ ((wDp ad o pa ka (fx 0) (sx 0)) ++ ((wOf o (x 0) (y 0)) ++ ((wFl x r cI cZ cQ w q d T st re rc (nI nz)) ++ ((wSt y rp rw rt cI cQ P n Wi Ti (nI nt)) ++ ((wPl pa pb cI zo) ++ (wFs fx cI cZ ff fg tk wt le)))))) sz)) (va_Qi (fun (r9 : Int32) (u9 : Int32 × (Nat → Int32) × (Nat → Int32) × (Nat → Int32) × Int32 × Int32) => (r9 = u9.1) ∧ (sBest false nt nz n d wi ti dd 0 u9.1 u9.2.1) ∧ (∀ u, nt ≤ u → u < 7 → u9.2.1 u = -1) ∧ (∀ u, nt ≤ u → u < 7 → u9.2.2.1 u = -1) ∧ (∀ u, nt ≤ u → u < 7 → u9.2.2.2.1 u = -1)) (rw_B D (va_A ((wDp ad o pa ka (fx 0) (sx 0)) ++ ((wOf o (x 0) (y 0)) ++ ((wFl x r cI cZ cQ w q d T st re rc (nI nz)) ++ ((wSt y rp rw rt cI cQ P n Wi Ti (nI nt)) ++ ((wPl pa pb cI zo) ++ (wFs fx cI cZ ff fg tk wt le)))))) sz) (fun u9 : Int32 × (Nat → Int32) × (Nat → Int32) × (Nat → Int32) × Int32 × Int32 => (wDp ad o pa ka (fx 0) (sx 0)) ++ ((wOf o (x 0) (y 0)) ++ ((wFl x r cI cZ cQ w q d T st re rc (nI nz)) ++ ((wSt y rp rw rt cI cQ P n Wi Ti (nI nt)) ++ ((wPl pa pb cI u9.2.1) ++ (wFs fx cI cZ u9.2.2.1 u9.2.2.2.1 tk u9.2.2.2.2.2 u9.2.2.2.2.1))))))) (va_A ((wDp ad o pa ka (fx 0) (sx 0)) ++ ((wOf o (x 0) (y 0)) ++ ((wFl x r cI cZ cQ w q d T st re rc (nI nz)) ++ ((wSt y rp rw rt cI cQ P n Wi Ti (nI nt)) ++ ((wPl pa pb cI zo) ++ (wFs fx cI cZ ff fg tk wt le)))))) sz)) (rx_X (fun (E9 : String) (x9 : (Nat → Int32) × (Nat → Int32) × Int32 × Int32) => E9 = "java/lang/IllegalStateException" ∧ sBest false nt nz n d wi ti dd 1 0 x9.2.1 ∧ (∀ u, nt ≤ u → u < 7 → x9.1 u = -1) ∧ (∀ u, nt ≤ u → u < 7 → x9.2.1 u = -1)) D (va_A ((wDp ad o pa ka (fx 0) (sx 0)) ++ ((wOf o (x 0) (y 0)) ++ ((wFl x r cI cZ cQ w q d T st re rc (nI nz)) ++ ((wSt y rp rw rt cI cQ P n Wi Ti (nI nt)) ++ ((wPl pa pb cI zo) ++ (wFs fx cI cZ ff fg tk wt le)))))) sz) (fun x9 : (Nat → Int32) × (Nat → Int32) × Int32 × Int32 => (wDp ad o pa ka (fx 0) (sx 0)) ++ ((wOf o (x 0) (y 0)) ++ ((wFl x r cI cZ cQ w q d T st re rc (nI nz)) ++ ((wSt y rp rw rt cI cQ P n Wi Ti (nI nt)) ++ ((wPl pa pb cI zo) ++ (wFs fx cI cZ x9.1 x9.2.1 tk x9.2.2.2 x9.2.2.1))))))) 1 6 (va_A ((wDp ad o pa ka (fx 0) (sx 0)) ++ ((wOf o (x 0) (y 0)) ++ ((wFl x r cI cZ cQ w q d T st re rc (nI nz)) ++ ((wSt y rp rw rt cI cQ P n Wi Ti (nI nt)) ++ ((wPl pa pb cI zo) ++ (wFs fx cI cZ ff fg tk wt le)))))) sz) := by
  refine vx_ofW (cc := cX7_placeByWishes) (maxL := 1) (ret := (some .int)) (by decide) rfl ?_
  intro p e s m args below meth c s₁ B hml ht hv
  obtain ⟨rfl, ⟨hsz, hP, hSt, hD0⟩, hDc, hZ⟩ := hv
  change W p l e ({ frames := 20, cells := 1, slots := 6, locals := 561 } : Room) s m _ below meth c s.heap [] 0 0 _ _
  have hx := B.exec
  have hb := B.bytes
  have hr := B.returns
  have hts : ∀ w ∈ ALL, w.before ([.ref ad] : List Value).toArray s = true := fun w h => atoms_spec (ws := (.code yX7_placeByWishes cX7_placeByWishes 1 (some .int) :: ALL)) B.pre w (List.mem_cons_of_mem _ h)
  have hown : s.vm.findClass RX7 = some m.cls := findClass_of_methodNamed B.named
  have hlocks := B.notSynchronized
  subst hsz
  have hD := hD0.self (sz := s.heap.size)
  clear hD0
  generalize hAe : va_A ((wDp ad o pa ka (fx 0) (sx 0)) ++ ((wOf o (x 0) (y 0)) ++ ((wFl x r cI cZ cQ w q d T st re rc (nI nz)) ++ ((wSt y rp rw rt cI cQ P n Wi Ti (nI nt)) ++ ((wPl pa pb cI zo) ++ (wFs fx cI cZ ff fg tk wt le)))))) s.heap.size = A at hD hZ ⊢
  have hA : ∀ q : Nat, s.heap.size ≤ q → A q := fun q h => by rw [← hAe]; exact Or.inr h
  have hS : va_S A s.heap s.heap [] := va_S.rf
  have hl := lv_entry ([.ref ad]) (n := 1) (Nat.le_of_ble_eq_true rfl)
  rw [lg_entry_eq]
  generalize (lg_sl ([.ref ad]) ++ List.replicate (1 - (lg_sl ([.ref ad])).length) Slot.unset).toArray = ls at hl ⊢
  have hl : lv_has ls 1 [(0, .ref ad)] := hl
  obtain ⟨H, hHe⟩ : ∃ H : Heap, H = s.heap := ⟨_, rfl⟩
  obtain ⟨locs, hLe⟩ : ∃ L : List Loc, L = [] := ⟨_, rfl⟩
  have hP : va_P D vwCl ((wDp ad o pa ka (fx 0) (sx 0)) ++ ((wOf o (x 0) (y 0)) ++ ((wFl x r cI cZ cQ w q d T st re rc (nI nz)) ++ ((wSt y rp rw rt cI cQ P n Wi Ti (nI nt)) ++ ((wPl pa pb cI zo) ++ (wFs fx cI cZ ff fg tk wt le)))))) H := by rw [hHe]; exact hP
  have hS : va_S A s.heap H locs := by rw [hHe, hLe]; exact hS
  refine W.eqHL hHe hLe ?_
  refine lv_aload_n hx hb dX7_placeByWishes_0 rfl (lv_at hl 0 rfl) ?_
  refine lv_iconst (v := nI 0) hx hb dX7_placeByWishes_1 (by decide) ?_
  refine lv_as (y := bB false) (rfl) ?_
  refine rx_i (wr := ([] : va_W)) (w_VX (As := [.int (bB false)]) ⟨hx, hb, hml, hown, hts⟩ (c_X7_layLeast l D cI cZ cQ cJ ad o pa ka fx sx x r w q d T st re rc nz y rp rw rt P n Wi Ti nt pb zo ff fg tk wt le false wi ti dd H.size (by first | assumption | omega) (by first | assumption | omega) (by first | assumption | omega) (by first | assumption | omega) (by first | assumption | omega) (by first | assumption | omega) (by first | assumption | omega) (by first | assumption | omega) (by first | assumption | omega) (by first | assumption | omega)) (gV t3_54 t3_56 t0_12 t1_1 t3_57) rfl rfl hd_X7_layLeast ⟨Nat.le_of_ble_eq_true rfl, Nat.le_of_ble_eq_true rfl⟩ (rx_pre hP hD hSt hDc hZ hS hA [0, 1, 2, 3, 4, 5, 6, 7, 8, 9, 10, 11, 12, 13, 14, 15, 16, 17, 18, 19, 20, 21, 22, 23, 24, 25, 26, 27, 28, 29, 30, 31, 32, 33, 34, 35, 36, 37, 38, 39, 40, 41, 42, 43, 44, 45, 46, 47, 48, 49] rfl (by decide)) (va_recv hSt.1 hP (ci := 7) (q0 := 0) rfl rfl) rfl hl.1 (rest := []) rfl (Nat.le_of_ble_eq_true rfl) dX7_placeByWishes_2 ⟨Nat.le_of_ble_eq_true rfl, Nat.le_of_ble_eq_true rfl⟩) hP hD hS hA [0, 1, 2, 3, 4, 5, 6, 7, 8, 9, 10, 11, 12, 13, 14, 15, 16, 17, 18, 19, 20, 21, 22, 23, 24, 25, 26, 27, 28, 29, 30, 31, 32, 33, 34, 35, 36, 37, 38, 39, 40, 41, 42, 43, 44, 45, 46, 47, 48, 49] [] rfl rfl (by decide) (by decide) (fun E9 ce9 q9 x9 H locs hx9 hP hD hS hc91 hc92 hc93 => ?_) (fun r_9 u_7 H locs hw9 hP hD hS => ?_)
  · obtain ⟨x_8, x_9, x_10, x_11⟩ := x9
    have hx9 : E9 = "java/lang/IllegalStateException" ∧ sBest false nt nz n d wi ti dd 1 0 x_9 ∧ (∀ u, nt ≤ u → u < 7 → x_8 u = -1) ∧ (∀ u, nt ≤ u → u < 7 → x_9 u = -1) := hx9
    have hP : va_P D vwCl ((wDp ad o pa ka (fx 0) (sx 0)) ++ ((wOf o (x 0) (y 0)) ++ ((wFl x r cI cZ cQ w q d T st re rc (nI nz)) ++ ((wSt y rp rw rt cI cQ P n Wi Ti (nI nt)) ++ ((wPl pa pb cI zo) ++ (wFs fx cI cZ x_8 x_9 tk x_11 x_10)))))) H := hP
    have hD : va_D A ((wDp ad o pa ka (fx 0) (sx 0)) ++ ((wOf o (x 0) (y 0)) ++ ((wFl x r cI cZ cQ w q d T st re rc (nI nz)) ++ ((wSt y rp rw rt cI cQ P n Wi Ti (nI nt)) ++ ((wPl pa pb cI zo) ++ (wFs fx cI cZ x_8 x_9 tk x_11 x_10)))))) := hD
    have hP9 : va_P D vwCl ((wDp ad o pa ka (fx 0) (sx 0)) ++ ((wOf o (x 0) (y 0)) ++ ((wFl x r cI cZ cQ w q d T st re rc (nI nz)) ++ ((wSt y rp rw rt cI cQ P n Wi Ti (nI nt)) ++ ((wPl pa pb cI zo) ++ (wFs fx cI cZ x_8 x_9 tk x_11 x_10)))))) H := hP
    have hD9 : va_D A ((wDp ad o pa ka (fx 0) (sx 0)) ++ ((wOf o (x 0) (y 0)) ++ ((wFl x r cI cZ cQ w q d T st re rc (nI nz)) ++ ((wSt y rp rw rt cI cQ P n Wi Ti (nI nt)) ++ ((wPl pa pb cI zo) ++ (wFs fx cI cZ x_8 x_9 tk x_11 x_10)))))) := hD
    exact vx_widen (k := 1) (n := 6) (by omega) (by omega) (rx_on (u := (x_8, x_9, x_10, x_11)) ht hlocks (hx9) hP9 hD9 hS hc91 hc92 hc93 (Nat.le_refl _) (Nat.le_refl _))
  · obtain ⟨j_1, j_2, j_3, j_4, j_5, j_6⟩ := u_7
    obtain ⟨er_9, f_12, f_13, f_14, f_15⟩ := hw9
    replace er_9 := er_9.symm
    subst er_9
    have hs : sBest false nt nz n d wi ti dd 0 j_1 j_2 := f_12
    have hz2 : ∀ u, nt ≤ u → u < 7 → j_2 u = -1 := f_13
    have hf2 : ∀ u, nt ≤ u → u < 7 → j_3 u = -1 := f_14
    have hg2 : ∀ u, nt ≤ u → u < 7 → j_4 u = -1 := f_15
    have hP : va_P D vwCl ((wDp ad o pa ka (fx 0) (sx 0)) ++ ((wOf o (x 0) (y 0)) ++ ((wFl x r cI cZ cQ w q d T st re rc (nI nz)) ++ ((wSt y rp rw rt cI cQ P n Wi Ti (nI nt)) ++ ((wPl pa pb cI j_2) ++ (wFs fx cI cZ j_3 j_4 tk j_6 j_5)))))) H := hP
    have hD : va_D A ((wDp ad o pa ka (fx 0) (sx 0)) ++ ((wOf o (x 0) (y 0)) ++ ((wFl x r cI cZ cQ w q d T st re rc (nI nz)) ++ ((wSt y rp rw rt cI cQ P n Wi Ti (nI nt)) ++ ((wPl pa pb cI j_2) ++ (wFs fx cI cZ j_3 j_4 tk j_6 j_5)))))) := hD
    have hP9 : va_P D vwCl ((wDp ad o pa ka (fx 0) (sx 0)) ++ ((wOf o (x 0) (y 0)) ++ ((wFl x r cI cZ cQ w q d T st re rc (nI nz)) ++ ((wSt y rp rw rt cI cQ P n Wi Ti (nI nt)) ++ ((wPl pa pb cI j_2) ++ (wFs fx cI cZ j_3 j_4 tk j_6 j_5)))))) H := hP
    have hD9 : va_D A ((wDp ad o pa ka (fx 0) (sx 0)) ++ ((wOf o (x 0) (y 0)) ++ ((wFl x r cI cZ cQ w q d T st re rc (nI nz)) ++ ((wSt y rp rw rt cI cQ P n Wi Ti (nI nt)) ++ ((wPl pa pb cI j_2) ++ (wFs fx cI cZ j_3 j_4 tk j_6 j_5)))))) := hD
    have g_16 : sBest false nt nz n d wi ti dd 0 j_1 j_2 := hs
    have g_17 : ∀ u, nt ≤ u → u < 7 → j_2 u = -1 := hz2
    have g_18 : ∀ u, nt ≤ u → u < 7 → j_3 u = -1 := hf2
    have g_19 : ∀ u, nt ≤ u → u < 7 → j_4 u = -1 := hg2
    refine W.widen (k := 1) (n := 6) (by omega) (by omega) ?_
    exact vx_ret (W.iret (v := j_1) hx hb hr (fun t9 ht9 hW9 => ⟨⟨j_1, (j_1, j_2, j_3, j_4, j_5, j_6), rfl, ⟨rfl, g_16, g_17, g_18, g_19⟩, by rw [ht9]; exact hP9, hD9⟩, hS.F ht9⟩) hS.2.2 dX7_placeByWishes_5)
set_option maxHeartbeats 4000000 in
set_option maxRecDepth 100000 in
/-- X7_placeBest -/
theorem c_X7_placeBest (l : Launch) (D : va_G) (cI cZ cQ cJ : ClassId) (ad : Nat) (o : Nat) (pa : Nat) (ka : Nat) (fx : Nat → Nat) (sx : Nat → Nat) (x : Nat → Nat) (r : Nat → Nat) (w : Nat → Int32) (q : Nat → Int32) (d : Nat → Int32) (T : Nat → Nat → Int32) (st : Nat → Int32) (re : Nat → Int32) (rc : Int32) (nz : Nat) (y : Nat → Nat) (rp : Nat → Nat) (rw : Nat → Nat) (rt : Nat → Nat) (P : Nat → Nat → Int32) (n : Nat → Int32) (Wi : Nat → Nat → Int32) (Ti : Nat → Nat → Int32) (nt : Nat) (pb : Nat) (zo : Nat → Int32) (ff : Nat → Int32) (fg : Nat → Int32) (tk : Nat → Int32) (wt : Int32) (le : Int32) (wi : Nat → Nat → Nat) (ti : Nat → Nat → Nat) (dd : Nat → Nat → Nat) (sz : Nat) (hnt : nt ≤ 7) (hnz : nz ≤ 7) (hwi : rOK 7 7 Wi wi) (hti : rOK 7 7 Ti ti) (hdd : rOK nz nz T dd) (hv : vOK nz wi ti dd) (hff2 : ∀ u, nt ≤ u → u < 7 → ff u = -1) (hfg2 : ∀ u, nt ≤ u → u < 7 → fg u = -1) (htk : ∀ u, u < 7 → tk u = 0) (hfl : l.stackTraces = false) : vx_Met l yX7_placeBest (.code yX7_placeBest cX7_placeBest 1 (some .int) :: ALL) ({ frames := 20, cells := 1, slots := 6, locals := 561 } : Room) (va_Pc [.ref ad] (rx_P D cI cZ cQ cJ ((wDp ad o pa ka (fx 0) (sx 0)) ++ ((wOf o (x 0) (y 0)) ++ ((wFl x r cI cZ cQ w q d T st re rc (nI nz)) ++ ((wSt y rp rw rt cI cQ P n Wi Ti (nI nt)) ++ ((wPl pa pb cI zo) ++ (wFs fx cI cZ ff fg tk wt le)))))) sz)) (va_Qi (fun (r9 : Int32) (u9 : Int32 × (Nat → Int32) × (Nat → Int32) × (Nat → Int32) × Int32 × Int32) => (r9 = u9.1) ∧ (sBest true nt nz n d wi ti dd 0 u9.1 u9.2.1) ∧ (∀ u, nt ≤ u → u < 7 → u9.2.1 u = -1) ∧ (∀ u, nt ≤ u → u < 7 → u9.2.2.1 u = -1) ∧ (∀ u, nt ≤ u → u < 7 → u9.2.2.2.1 u = -1)) (rw_B D (va_A ((wDp ad o pa ka (fx 0) (sx 0)) ++ ((wOf o (x 0) (y 0)) ++ ((wFl x r cI cZ cQ w q d T st re rc (nI nz)) ++ ((wSt y rp rw rt cI cQ P n Wi Ti (nI nt)) ++ ((wPl pa pb cI zo) ++ (wFs fx cI cZ ff fg tk wt le)))))) sz) (fun u9 : Int32 × (Nat → Int32) × (Nat → Int32) × (Nat → Int32) × Int32 × Int32 => (wDp ad o pa ka (fx 0) (sx 0)) ++ ((wOf o (x 0) (y 0)) ++ ((wFl x r cI cZ cQ w q d T st re rc (nI nz)) ++ ((wSt y rp rw rt cI cQ P n Wi Ti (nI nt)) ++ ((wPl pa pb cI u9.2.1) ++ (wFs fx cI cZ u9.2.2.1 u9.2.2.2.1 tk u9.2.2.2.2.2 u9.2.2.2.2.1))))))) (va_A ((wDp ad o pa ka (fx 0) (sx 0)) ++ ((wOf o (x 0) (y 0)) ++ ((wFl x r cI cZ cQ w q d T st re rc (nI nz)) ++ ((wSt y rp rw rt cI cQ P n Wi Ti (nI nt)) ++ ((wPl pa pb cI zo) ++ (wFs fx cI cZ ff fg tk wt le)))))) sz)) (rx_X (fun (E9 : String) (x9 : (Nat → Int32) × (Nat → Int32) × Int32 × Int32) => E9 = "java/lang/IllegalStateException" ∧ sBest true nt nz n d wi ti dd 1 0 x9.2.1 ∧ (∀ u, nt ≤ u → u < 7 → x9.1 u = -1) ∧ (∀ u, nt ≤ u → u < 7 → x9.2.1 u = -1)) D (va_A ((wDp ad o pa ka (fx 0) (sx 0)) ++ ((wOf o (x 0) (y 0)) ++ ((wFl x r cI cZ cQ w q d T st re rc (nI nz)) ++ ((wSt y rp rw rt cI cQ P n Wi Ti (nI nt)) ++ ((wPl pa pb cI zo) ++ (wFs fx cI cZ ff fg tk wt le)))))) sz) (fun x9 : (Nat → Int32) × (Nat → Int32) × Int32 × Int32 => (wDp ad o pa ka (fx 0) (sx 0)) ++ ((wOf o (x 0) (y 0)) ++ ((wFl x r cI cZ cQ w q d T st re rc (nI nz)) ++ ((wSt y rp rw rt cI cQ P n Wi Ti (nI nt)) ++ ((wPl pa pb cI zo) ++ (wFs fx cI cZ x9.1 x9.2.1 tk x9.2.2.2 x9.2.2.1))))))) 1 6 (va_A ((wDp ad o pa ka (fx 0) (sx 0)) ++ ((wOf o (x 0) (y 0)) ++ ((wFl x r cI cZ cQ w q d T st re rc (nI nz)) ++ ((wSt y rp rw rt cI cQ P n Wi Ti (nI nt)) ++ ((wPl pa pb cI zo) ++ (wFs fx cI cZ ff fg tk wt le)))))) sz) := by
  refine vx_ofW (cc := cX7_placeBest) (maxL := 1) (ret := (some .int)) (by decide) rfl ?_
  intro p e s m args below meth c s₁ B hml ht hv
  obtain ⟨rfl, ⟨hsz, hP, hSt, hD0⟩, hDc, hZ⟩ := hv
  change W p l e ({ frames := 20, cells := 1, slots := 6, locals := 561 } : Room) s m _ below meth c s.heap [] 0 0 _ _
  have hx := B.exec
  have hb := B.bytes
  have hr := B.returns
  have hts : ∀ w ∈ ALL, w.before ([.ref ad] : List Value).toArray s = true := fun w h => atoms_spec (ws := (.code yX7_placeBest cX7_placeBest 1 (some .int) :: ALL)) B.pre w (List.mem_cons_of_mem _ h)
  have hown : s.vm.findClass RX7 = some m.cls := findClass_of_methodNamed B.named
  have hlocks := B.notSynchronized
  subst hsz
  have hD := hD0.self (sz := s.heap.size)
  clear hD0
  generalize hAe : va_A ((wDp ad o pa ka (fx 0) (sx 0)) ++ ((wOf o (x 0) (y 0)) ++ ((wFl x r cI cZ cQ w q d T st re rc (nI nz)) ++ ((wSt y rp rw rt cI cQ P n Wi Ti (nI nt)) ++ ((wPl pa pb cI zo) ++ (wFs fx cI cZ ff fg tk wt le)))))) s.heap.size = A at hD hZ ⊢
  have hA : ∀ q : Nat, s.heap.size ≤ q → A q := fun q h => by rw [← hAe]; exact Or.inr h
  have hS : va_S A s.heap s.heap [] := va_S.rf
  have hl := lv_entry ([.ref ad]) (n := 1) (Nat.le_of_ble_eq_true rfl)
  rw [lg_entry_eq]
  generalize (lg_sl ([.ref ad]) ++ List.replicate (1 - (lg_sl ([.ref ad])).length) Slot.unset).toArray = ls at hl ⊢
  have hl : lv_has ls 1 [(0, .ref ad)] := hl
  obtain ⟨H, hHe⟩ : ∃ H : Heap, H = s.heap := ⟨_, rfl⟩
  obtain ⟨locs, hLe⟩ : ∃ L : List Loc, L = [] := ⟨_, rfl⟩
  have hP : va_P D vwCl ((wDp ad o pa ka (fx 0) (sx 0)) ++ ((wOf o (x 0) (y 0)) ++ ((wFl x r cI cZ cQ w q d T st re rc (nI nz)) ++ ((wSt y rp rw rt cI cQ P n Wi Ti (nI nt)) ++ ((wPl pa pb cI zo) ++ (wFs fx cI cZ ff fg tk wt le)))))) H := by rw [hHe]; exact hP
  have hS : va_S A s.heap H locs := by rw [hHe, hLe]; exact hS
  refine W.eqHL hHe hLe ?_
  refine lv_aload_n hx hb dX7_placeBest_0 rfl (lv_at hl 0 rfl) ?_
  refine lv_iconst (v := nI 1) hx hb dX7_placeBest_1 (by decide) ?_
  refine lv_as (y := bB true) (rfl) ?_
  refine rx_i (wr := ([] : va_W)) (w_VX (As := [.int (bB true)]) ⟨hx, hb, hml, hown, hts⟩ (c_X7_layLeast l D cI cZ cQ cJ ad o pa ka fx sx x r w q d T st re rc nz y rp rw rt P n Wi Ti nt pb zo ff fg tk wt le true wi ti dd H.size (by first | assumption | omega) (by first | assumption | omega) (by first | assumption | omega) (by first | assumption | omega) (by first | assumption | omega) (by first | assumption | omega) (by first | assumption | omega) (by first | assumption | omega) (by first | assumption | omega) (by first | assumption | omega)) (gV t3_54 t3_56 t0_12 t1_1 t3_57) rfl rfl hd_X7_layLeast ⟨Nat.le_of_ble_eq_true rfl, Nat.le_of_ble_eq_true rfl⟩ (rx_pre hP hD hSt hDc hZ hS hA [0, 1, 2, 3, 4, 5, 6, 7, 8, 9, 10, 11, 12, 13, 14, 15, 16, 17, 18, 19, 20, 21, 22, 23, 24, 25, 26, 27, 28, 29, 30, 31, 32, 33, 34, 35, 36, 37, 38, 39, 40, 41, 42, 43, 44, 45, 46, 47, 48, 49] rfl (by decide)) (va_recv hSt.1 hP (ci := 7) (q0 := 0) rfl rfl) rfl hl.1 (rest := []) rfl (Nat.le_of_ble_eq_true rfl) dX7_placeBest_2 ⟨Nat.le_of_ble_eq_true rfl, Nat.le_of_ble_eq_true rfl⟩) hP hD hS hA [0, 1, 2, 3, 4, 5, 6, 7, 8, 9, 10, 11, 12, 13, 14, 15, 16, 17, 18, 19, 20, 21, 22, 23, 24, 25, 26, 27, 28, 29, 30, 31, 32, 33, 34, 35, 36, 37, 38, 39, 40, 41, 42, 43, 44, 45, 46, 47, 48, 49] [] rfl rfl (by decide) (by decide) (fun E9 ce9 q9 x9 H locs hx9 hP hD hS hc91 hc92 hc93 => ?_) (fun r_9 u_7 H locs hw9 hP hD hS => ?_)
  · obtain ⟨x_8, x_9, x_10, x_11⟩ := x9
    have hx9 : E9 = "java/lang/IllegalStateException" ∧ sBest true nt nz n d wi ti dd 1 0 x_9 ∧ (∀ u, nt ≤ u → u < 7 → x_8 u = -1) ∧ (∀ u, nt ≤ u → u < 7 → x_9 u = -1) := hx9
    have hP : va_P D vwCl ((wDp ad o pa ka (fx 0) (sx 0)) ++ ((wOf o (x 0) (y 0)) ++ ((wFl x r cI cZ cQ w q d T st re rc (nI nz)) ++ ((wSt y rp rw rt cI cQ P n Wi Ti (nI nt)) ++ ((wPl pa pb cI zo) ++ (wFs fx cI cZ x_8 x_9 tk x_11 x_10)))))) H := hP
    have hD : va_D A ((wDp ad o pa ka (fx 0) (sx 0)) ++ ((wOf o (x 0) (y 0)) ++ ((wFl x r cI cZ cQ w q d T st re rc (nI nz)) ++ ((wSt y rp rw rt cI cQ P n Wi Ti (nI nt)) ++ ((wPl pa pb cI zo) ++ (wFs fx cI cZ x_8 x_9 tk x_11 x_10)))))) := hD
    have hP9 : va_P D vwCl ((wDp ad o pa ka (fx 0) (sx 0)) ++ ((wOf o (x 0) (y 0)) ++ ((wFl x r cI cZ cQ w q d T st re rc (nI nz)) ++ ((wSt y rp rw rt cI cQ P n Wi Ti (nI nt)) ++ ((wPl pa pb cI zo) ++ (wFs fx cI cZ x_8 x_9 tk x_11 x_10)))))) H := hP
    have hD9 : va_D A ((wDp ad o pa ka (fx 0) (sx 0)) ++ ((wOf o (x 0) (y 0)) ++ ((wFl x r cI cZ cQ w q d T st re rc (nI nz)) ++ ((wSt y rp rw rt cI cQ P n Wi Ti (nI nt)) ++ ((wPl pa pb cI zo) ++ (wFs fx cI cZ x_8 x_9 tk x_11 x_10)))))) := hD
    exact vx_widen (k := 1) (n := 6) (by omega) (by omega) (rx_on (u := (x_8, x_9, x_10, x_11)) ht hlocks (hx9) hP9 hD9 hS hc91 hc92 hc93 (Nat.le_refl _) (Nat.le_refl _))
  · obtain ⟨j_1, j_2, j_3, j_4, j_5, j_6⟩ := u_7
    obtain ⟨er_9, f_12, f_13, f_14, f_15⟩ := hw9
    replace er_9 := er_9.symm
    subst er_9
    have hs : sBest true nt nz n d wi ti dd 0 j_1 j_2 := f_12
    have hz2 : ∀ u, nt ≤ u → u < 7 → j_2 u = -1 := f_13
    have hf2 : ∀ u, nt ≤ u → u < 7 → j_3 u = -1 := f_14
    have hg2 : ∀ u, nt ≤ u → u < 7 → j_4 u = -1 := f_15
    have hP : va_P D vwCl ((wDp ad o pa ka (fx 0) (sx 0)) ++ ((wOf o (x 0) (y 0)) ++ ((wFl x r cI cZ cQ w q d T st re rc (nI nz)) ++ ((wSt y rp rw rt cI cQ P n Wi Ti (nI nt)) ++ ((wPl pa pb cI j_2) ++ (wFs fx cI cZ j_3 j_4 tk j_6 j_5)))))) H := hP
    have hD : va_D A ((wDp ad o pa ka (fx 0) (sx 0)) ++ ((wOf o (x 0) (y 0)) ++ ((wFl x r cI cZ cQ w q d T st re rc (nI nz)) ++ ((wSt y rp rw rt cI cQ P n Wi Ti (nI nt)) ++ ((wPl pa pb cI j_2) ++ (wFs fx cI cZ j_3 j_4 tk j_6 j_5)))))) := hD
    have hP9 : va_P D vwCl ((wDp ad o pa ka (fx 0) (sx 0)) ++ ((wOf o (x 0) (y 0)) ++ ((wFl x r cI cZ cQ w q d T st re rc (nI nz)) ++ ((wSt y rp rw rt cI cQ P n Wi Ti (nI nt)) ++ ((wPl pa pb cI j_2) ++ (wFs fx cI cZ j_3 j_4 tk j_6 j_5)))))) H := hP
    have hD9 : va_D A ((wDp ad o pa ka (fx 0) (sx 0)) ++ ((wOf o (x 0) (y 0)) ++ ((wFl x r cI cZ cQ w q d T st re rc (nI nz)) ++ ((wSt y rp rw rt cI cQ P n Wi Ti (nI nt)) ++ ((wPl pa pb cI j_2) ++ (wFs fx cI cZ j_3 j_4 tk j_6 j_5)))))) := hD
    have g_16 : sBest true nt nz n d wi ti dd 0 j_1 j_2 := hs
    have g_17 : ∀ u, nt ≤ u → u < 7 → j_2 u = -1 := hz2
    have g_18 : ∀ u, nt ≤ u → u < 7 → j_3 u = -1 := hf2
    have g_19 : ∀ u, nt ≤ u → u < 7 → j_4 u = -1 := hg2
    refine W.widen (k := 1) (n := 6) (by omega) (by omega) ?_
    exact vx_ret (W.iret (v := j_1) hx hb hr (fun t9 ht9 hW9 => ⟨⟨j_1, (j_1, j_2, j_3, j_4, j_5, j_6), rfl, ⟨rfl, g_16, g_17, g_18, g_19⟩, by rw [ht9]; exact hP9, hD9⟩, hS.F ht9⟩) hS.2.2 dX7_placeBest_5)
set_option maxHeartbeats 4000000 in
set_option maxRecDepth 100000 in
/-- the least wish cost -/
theorem c_X7_leastWishCost (l : Launch) (D : va_G) (cI cZ cQ cJ : ClassId) (ad : Nat) (o : Nat) (pa : Nat) (ka : Nat) (fx : Nat → Nat) (sx : Nat → Nat) (x : Nat → Nat) (r : Nat → Nat) (w : Nat → Int32) (q : Nat → Int32) (d : Nat → Int32) (T : Nat → Nat → Int32) (st : Nat → Int32) (re : Nat → Int32) (rc : Int32) (nz : Nat) (y : Nat → Nat) (rp : Nat → Nat) (rw : Nat → Nat) (rt : Nat → Nat) (P : Nat → Nat → Int32) (n : Nat → Int32) (Wi : Nat → Nat → Int32) (Ti : Nat → Nat → Int32) (nt : Nat) (ff : Nat → Int32) (fg : Nat → Int32) (tk : Nat → Int32) (wt : Int32) (le : Int32) (wi : Nat → Nat → Nat) (ti : Nat → Nat → Nat) (dd : Nat → Nat → Nat) (sz : Nat) (hnt : nt ≤ 7) (hnz : nz ≤ 7) (hwi : rOK 7 7 Wi wi) (hti : rOK 7 7 Ti ti) (hdd : rOK nz nz T dd) (hv : vOK nz wi ti dd) (hff2 : ∀ u, nt ≤ u → u < 7 → ff u = -1) (hfg2 : ∀ u, nt ≤ u → u < 7 → fg u = -1) (htk : ∀ u, u < 7 → tk u = 0) : Met l yX7_leastWishCost (.code yX7_leastWishCost cX7_leastWishCost 1 (some .int) :: ALL) ({ frames := 19, cells := 0, slots := 0, locals := 539 } : Room) (va_Pc [.ref ad] (rw_P D cI cZ cQ cJ ((wDp ad o pa ka (fx 0) (sx 0)) ++ ((wOf o (x 0) (y 0)) ++ ((wFl x r cI cZ cQ w q d T st re rc (nI nz)) ++ ((wSt y rp rw rt cI cQ P n Wi Ti (nI nt)) ++ (wFs fx cI cZ ff fg tk wt le))))) sz)) (va_Qi (fun (r9 : Int32) (u9 : Int32 × (Nat → Int32) × (Nat → Int32) × Int32 × Int32) => (r9 = u9.1) ∧ (sLeast nt nz n d wi ti dd u9.1) ∧ (∀ u, nt ≤ u → u < 7 → u9.2.1 u = -1) ∧ (∀ u, nt ≤ u → u < 7 → u9.2.2.1 u = -1)) (rw_B D (va_A ((wDp ad o pa ka (fx 0) (sx 0)) ++ ((wOf o (x 0) (y 0)) ++ ((wFl x r cI cZ cQ w q d T st re rc (nI nz)) ++ ((wSt y rp rw rt cI cQ P n Wi Ti (nI nt)) ++ (wFs fx cI cZ ff fg tk wt le))))) sz) (fun u9 : Int32 × (Nat → Int32) × (Nat → Int32) × Int32 × Int32 => (wDp ad o pa ka (fx 0) (sx 0)) ++ ((wOf o (x 0) (y 0)) ++ ((wFl x r cI cZ cQ w q d T st re rc (nI nz)) ++ ((wSt y rp rw rt cI cQ P n Wi Ti (nI nt)) ++ (wFs fx cI cZ u9.2.1 u9.2.2.1 tk u9.2.2.2.2 u9.2.2.2.1)))))) (va_A ((wDp ad o pa ka (fx 0) (sx 0)) ++ ((wOf o (x 0) (y 0)) ++ ((wFl x r cI cZ cQ w q d T st re rc (nI nz)) ++ ((wSt y rp rw rt cI cQ P n Wi Ti (nI nt)) ++ (wFs fx cI cZ ff fg tk wt le))))) sz)) 0 0 (va_A ((wDp ad o pa ka (fx 0) (sx 0)) ++ ((wOf o (x 0) (y 0)) ++ ((wFl x r cI cZ cQ w q d T st re rc (nI nz)) ++ ((wSt y rp rw rt cI cQ P n Wi Ti (nI nt)) ++ (wFs fx cI cZ ff fg tk wt le))))) sz) := by
  refine Met.ofW (cc := cX7_leastWishCost) (maxL := 1) (ret := (some .int)) (by decide) rfl ?_
  intro p e s m args below meth c s₁ B hml hv
  obtain ⟨rfl, hsz, hP, hSt, hD0⟩ := hv
  have hx := B.exec
  have hb := B.bytes
  have hr := B.returns
  have hts : ∀ w ∈ ALL, w.before ([.ref ad] : List Value).toArray s = true := fun w h => atoms_spec (ws := (.code yX7_leastWishCost cX7_leastWishCost 1 (some .int) :: ALL)) B.pre w (List.mem_cons_of_mem _ h)
  have hown : s.vm.findClass RX7 = some m.cls := findClass_of_methodNamed B.named
  have hlocks := B.notSynchronized
  subst hsz
  have hD := hD0.self (sz := s.heap.size)
  clear hD0
  generalize hAe : va_A ((wDp ad o pa ka (fx 0) (sx 0)) ++ ((wOf o (x 0) (y 0)) ++ ((wFl x r cI cZ cQ w q d T st re rc (nI nz)) ++ ((wSt y rp rw rt cI cQ P n Wi Ti (nI nt)) ++ (wFs fx cI cZ ff fg tk wt le))))) s.heap.size = A at hD ⊢
  have hA : ∀ q : Nat, s.heap.size ≤ q → A q := fun q h => by rw [← hAe]; exact Or.inr h
  have hS : va_S A s.heap s.heap [] := va_S.rf
  have hl := lv_entry ([.ref ad]) (n := 1) (Nat.le_of_ble_eq_true rfl)
  rw [lg_entry_eq]
  generalize (lg_sl ([.ref ad]) ++ List.replicate (1 - (lg_sl ([.ref ad])).length) Slot.unset).toArray = ls at hl ⊢
  have hl : lv_has ls 1 [(0, .ref ad)] := hl
  obtain ⟨H, hHe⟩ : ∃ H : Heap, H = s.heap := ⟨_, rfl⟩
  obtain ⟨locs, hLe⟩ : ∃ L : List Loc, L = [] := ⟨_, rfl⟩
  have hP : va_P D vwCl ((wDp ad o pa ka (fx 0) (sx 0)) ++ ((wOf o (x 0) (y 0)) ++ ((wFl x r cI cZ cQ w q d T st re rc (nI nz)) ++ ((wSt y rp rw rt cI cQ P n Wi Ti (nI nt)) ++ (wFs fx cI cZ ff fg tk wt le))))) H := by rw [hHe]; exact hP
  have hS : va_S A s.heap H locs := by rw [hHe, hLe]; exact hS
  refine W.eqHL hHe hLe ?_
  refine lv_aload_n hx hb dX7_leastWishCost_0 rfl (lv_at hl 0 rfl) ?_
  refine va_get (D := D) (ci := 7) (v := .ref (fx 0)) (C := RX7) (T := TX7) (N := 5) hx hb hts tu_X7 hown hSt.1 hP 0 rfl rfl 3 (by decide) (hts _ t1_211) (fun _ h9 => h9) rfl dX7_leastWishCost_1 ?_
  refine lv_aload_n hx hb dX7_leastWishCost_4 rfl (lv_at hl 0 rfl) ?_
  refine va_get (D := D) (ci := 7) (v := .ref o) (C := RX7) (T := TX7) (N := 5) hx hb hts tu_X7 hown hSt.1 hP 0 rfl rfl 0 (by decide) (hts _ t1_208) (fun _ h9 => h9) rfl dX7_leastWishCost_5 ?_
  refine lv_iconst (v := nI 0) hx hb dX7_leastWishCost_8 (by decide) ?_
  refine lv_as (y := bB false) (rfl) ?_
  refine rw_i (wr := wDp ad o pa ka (fx 0) (sx 0)) (w_V (As := [.ref o, .int (bB false)]) ⟨hx, hb, hml, hown, hts⟩ (c_X2_findLeast l D cI cZ cQ cJ o x r w q d T st re rc nz y rp rw rt P n Wi Ti nt fx ff fg tk wi ti dd wt le false H.size (by first | assumption | omega) (by first | assumption | omega) (by first | assumption | omega) (by first | assumption | omega) (by first | assumption | omega) (by first | assumption | omega) (by first | assumption | omega) (by first | assumption | omega) (by first | assumption | omega)) (gV t2_11 t2_12 t2_13 t1_7 t2_14) rfl rfl hd_X2_findLeast ⟨Nat.le_of_ble_eq_true rfl, Nat.le_of_ble_eq_true rfl⟩ (rw_pre hP hD hSt [1, 2, 3, 4, 5, 6, 7, 8, 9, 10, 11, 12, 13, 14, 15, 16, 17, 18, 19, 20, 21, 22, 23, 24, 25, 26, 27, 28, 29, 30, 31, 32, 33, 34, 35, 36, 37, 38, 39, 40, 41, 42, 43, 44, 45, 46, 47] rfl (by decide)) (va_recv hSt.1 hP (ci := 2) (q0 := 42) rfl rfl) rfl hl.1 (rest := []) rfl (Nat.le_of_ble_eq_true rfl) dX7_leastWishCost_9 ⟨Nat.le_of_ble_eq_true rfl, Nat.le_of_ble_eq_true rfl⟩) hP hD hS hA [1, 2, 3, 4, 5, 6, 7, 8, 9, 10, 11, 12, 13, 14, 15, 16, 17, 18, 19, 20, 21, 22, 23, 24, 25, 26, 27, 28, 29, 30, 31, 32, 33, 34, 35, 36, 37, 38, 39, 40, 41, 42, 43, 44, 45, 46, 47] [0] rfl rfl (by decide) (by decide) (fun r_9 u_4 H locs hw9 hP hD hS => ?_)
  obtain ⟨j_1, j_2, j_3⟩ := u_4
  obtain ⟨rfl, f_5, f_6, f_7⟩ := hw9
  have hffn : ∀ u, nt ≤ u → u < 7 → j_1 u = -1 := f_5
  have hfgn : ∀ u, nt ≤ u → u < 7 → j_2 u = -1 := f_6
  have hSR : SR nt (fun g9 => pcN false wi ti dd g9 nt) (cmp nz nt (fun t9 z9 => n t9 ≤ d z9)) 1000000 fg j_3 j_2 := f_7
  have hP : va_P D vwCl ((wDp ad o pa ka (fx 0) (sx 0)) ++ ((wOf o (x 0) (y 0)) ++ ((wFl x r cI cZ cQ w q d T st re rc (nI nz)) ++ ((wSt y rp rw rt cI cQ P n Wi Ti (nI nt)) ++ (wFs fx cI cZ j_1 j_2 tk (bB false) (lI j_3)))))) H := hP
  have hD : va_D A ((wDp ad o pa ka (fx 0) (sx 0)) ++ ((wOf o (x 0) (y 0)) ++ ((wFl x r cI cZ cQ w q d T st re rc (nI nz)) ++ ((wSt y rp rw rt cI cQ P n Wi Ti (nI nt)) ++ (wFs fx cI cZ j_1 j_2 tk (bB false) (lI j_3)))))) := hD
  have hP9 : va_P D vwCl ((wDp ad o pa ka (fx 0) (sx 0)) ++ ((wOf o (x 0) (y 0)) ++ ((wFl x r cI cZ cQ w q d T st re rc (nI nz)) ++ ((wSt y rp rw rt cI cQ P n Wi Ti (nI nt)) ++ (wFs fx cI cZ j_1 j_2 tk (bB false) (lI j_3)))))) H := hP
  have hD9 : va_D A ((wDp ad o pa ka (fx 0) (sx 0)) ++ ((wOf o (x 0) (y 0)) ++ ((wFl x r cI cZ cQ w q d T st re rc (nI nz)) ++ ((wSt y rp rw rt cI cQ P n Wi Ti (nI nt)) ++ (wFs fx cI cZ j_1 j_2 tk (bB false) (lI j_3)))))) := hD
  have g_8 : sLeast nt nz n d wi ti dd (lI j_3) := ⟨_, _, _, hSR, rfl⟩
  have g_9 : ∀ u, nt ≤ u → u < 7 → j_1 u = -1 := hffn
  have g_10 : ∀ u, nt ≤ u → u < 7 → j_2 u = -1 := hfgn
  exact W.iret (v := lI j_3) hx hb hr (fun t9 ht9 hW9 => ⟨⟨lI j_3, (lI j_3, j_1, j_2, lI j_3, bB false), rfl, ⟨rfl, g_8, g_9, g_10⟩, by rw [ht9]; exact hP9, hD9⟩, hS.F ht9⟩) hS.2.2 dX7_leastWishCost_12
set_option maxHeartbeats 4000000 in
set_option maxRecDepth 100000 in
/-- search -/
theorem c_X7_search (l : Launch) (D : va_G) (cI cZ cQ cJ : ClassId) (ad : Nat) (o : Nat) (pa : Nat) (ka : Nat) (fx : Nat → Nat) (sx : Nat → Nat) (x : Nat → Nat) (r : Nat → Nat) (w : Nat → Int32) (q : Nat → Int32) (d : Nat → Int32) (T : Nat → Nat → Int32) (st : Nat → Int32) (re : Nat → Int32) (rc : Int32) (nz : Nat) (y : Nat → Nat) (rp : Nat → Nat) (rw : Nat → Nat) (rt : Nat → Nat) (P : Nat → Nat → Int32) (n : Nat → Int32) (Wi : Nat → Nat → Int32) (Ti : Nat → Nat → Int32) (nt : Nat) (pb : Nat) (zo : Nat → Int32) (sf : Nat → Int32) (sg : Nat → Int32) (ra : Nat → Int32) (fo : Int32) (te : Int32) (ot : Int32) (zn : Int32) (co : Int32) (wi : Nat → Nat → Nat) (ti : Nat → Nat → Nat) (dd : Nat → Nat → Nat) (g : Nat → Nat) (a8 : Int32) (r8 : Int32) (sz : Nat) (hnt : nt ≤ 7) (hnz : nz ≤ 7) (hwi : rOK 7 7 Wi wi) (hti : rOK 7 7 Ti ti) (hdd : rOK nz nz T dd) (hv : vOK nz wi ti dd) (hzo : pOK 7 zo g) (hvg : vG nz nt g) (hfG : fG nt n d g) (hfl : l.stackTraces = false) : vx_Met l yX7_search (.code yX7_search cX7_search 4 (some .int) :: ALL) ({ frames := 7, cells := 3, slots := 18, locals := 146 } : Room) (va_Pc [.ref ad, .int a8, .int r8] (rx_P D cI cZ cQ cJ ((wDp ad o pa ka (fx 0) (sx 0)) ++ ((wOf o (x 0) (y 0)) ++ ((wFl x r cI cZ cQ w q d T st re rc (nI nz)) ++ ((wSt y rp rw rt cI cQ P n Wi Ti (nI nt)) ++ ((wPl pa pb cI zo) ++ (wSs sx cI sf sg ra fo te ot zn co)))))) sz)) (va_Qi (fun (r9 : Int32) (u9 : Int32 × (Nat → Int32) × (Nat → Nat) × (Nat → Int32) × (Nat → Int32) × (Nat → Int32) × Int32 × Int32 × Int32 × Int32 × Int32) => (r9 = u9.1) ∧ (sSearch nt nz n d wi ti dd g a8 r8 0 u9.1 u9.2.2.1) ∧ (pOK 7 u9.2.1 u9.2.2.1)) (rw_B D (va_A ((wDp ad o pa ka (fx 0) (sx 0)) ++ ((wOf o (x 0) (y 0)) ++ ((wFl x r cI cZ cQ w q d T st re rc (nI nz)) ++ ((wSt y rp rw rt cI cQ P n Wi Ti (nI nt)) ++ ((wPl pa pb cI zo) ++ (wSs sx cI sf sg ra fo te ot zn co)))))) sz) (fun u9 : Int32 × (Nat → Int32) × (Nat → Nat) × (Nat → Int32) × (Nat → Int32) × (Nat → Int32) × Int32 × Int32 × Int32 × Int32 × Int32 => (wDp ad o pa ka (fx 0) (sx 0)) ++ ((wOf o (x 0) (y 0)) ++ ((wFl x r cI cZ cQ w q d T st re rc (nI nz)) ++ ((wSt y rp rw rt cI cQ P n Wi Ti (nI nt)) ++ ((wPl pa pb cI u9.2.1) ++ (wSs sx cI u9.2.2.2.1 u9.2.2.2.2.1 u9.2.2.2.2.2.1 u9.2.2.2.2.2.2.1 u9.2.2.2.2.2.2.2.1 u9.2.2.2.2.2.2.2.2.1 u9.2.2.2.2.2.2.2.2.2.1 u9.2.2.2.2.2.2.2.2.2.2))))))) (va_A ((wDp ad o pa ka (fx 0) (sx 0)) ++ ((wOf o (x 0) (y 0)) ++ ((wFl x r cI cZ cQ w q d T st re rc (nI nz)) ++ ((wSt y rp rw rt cI cQ P n Wi Ti (nI nt)) ++ ((wPl pa pb cI zo) ++ (wSs sx cI sf sg ra fo te ot zn co)))))) sz)) (rx_X (fun (E9 : String) (x9 : Unit) => (E9 = "java/lang/IllegalArgumentException" ∧ sSearch nt nz n d wi ti dd g a8 r8 1 0 g) ∨ (E9 = "java/lang/IllegalStateException" ∧ sSearch nt nz n d wi ti dd g a8 r8 2 0 g)) D (va_A ((wDp ad o pa ka (fx 0) (sx 0)) ++ ((wOf o (x 0) (y 0)) ++ ((wFl x r cI cZ cQ w q d T st re rc (nI nz)) ++ ((wSt y rp rw rt cI cQ P n Wi Ti (nI nt)) ++ ((wPl pa pb cI zo) ++ (wSs sx cI sf sg ra fo te ot zn co)))))) sz) (fun x9 : Unit => (wDp ad o pa ka (fx 0) (sx 0)) ++ ((wOf o (x 0) (y 0)) ++ ((wFl x r cI cZ cQ w q d T st re rc (nI nz)) ++ ((wSt y rp rw rt cI cQ P n Wi Ti (nI nt)) ++ ((wPl pa pb cI zo) ++ (wSs sx cI sf sg ra fo te ot zn co))))))) 3 18 (va_A ((wDp ad o pa ka (fx 0) (sx 0)) ++ ((wOf o (x 0) (y 0)) ++ ((wFl x r cI cZ cQ w q d T st re rc (nI nz)) ++ ((wSt y rp rw rt cI cQ P n Wi Ti (nI nt)) ++ ((wPl pa pb cI zo) ++ (wSs sx cI sf sg ra fo te ot zn co)))))) sz) := by
  refine vx_ofW (cc := cX7_search) (maxL := 4) (ret := (some .int)) (by decide) rfl ?_
  intro p e s m args below meth c s₁ B hml ht hv
  obtain ⟨rfl, ⟨hsz, hP, hSt, hD0⟩, hDc, hZ⟩ := hv
  change W p l e ({ frames := 7, cells := 3, slots := 18, locals := 146 } : Room) s m _ below meth c s.heap [] 0 0 _ _
  have hx := B.exec
  have hb := B.bytes
  have hr := B.returns
  have hts : ∀ w ∈ ALL, w.before ([.ref ad, .int a8, .int r8] : List Value).toArray s = true := fun w h => atoms_spec (ws := (.code yX7_search cX7_search 4 (some .int) :: ALL)) B.pre w (List.mem_cons_of_mem _ h)
  have hown : s.vm.findClass RX7 = some m.cls := findClass_of_methodNamed B.named
  have hlocks := B.notSynchronized
  subst hsz
  have hD := hD0.self (sz := s.heap.size)
  clear hD0
  generalize hAe : va_A ((wDp ad o pa ka (fx 0) (sx 0)) ++ ((wOf o (x 0) (y 0)) ++ ((wFl x r cI cZ cQ w q d T st re rc (nI nz)) ++ ((wSt y rp rw rt cI cQ P n Wi Ti (nI nt)) ++ ((wPl pa pb cI zo) ++ (wSs sx cI sf sg ra fo te ot zn co)))))) s.heap.size = A at hD hZ ⊢
  have hA : ∀ q : Nat, s.heap.size ≤ q → A q := fun q h => by rw [← hAe]; exact Or.inr h
  have hS : va_S A s.heap s.heap [] := va_S.rf
  have hl := lv_entry ([.ref ad, .int a8, .int r8]) (n := 4) (Nat.le_of_ble_eq_true rfl)
  rw [lg_entry_eq]
  generalize (lg_sl ([.ref ad, .int a8, .int r8]) ++ List.replicate (4 - (lg_sl ([.ref ad, .int a8, .int r8])).length) Slot.unset).toArray = ls at hl ⊢
  have hl : lv_has ls 4 [(0, .ref ad), (1, .int a8), (2, .int r8)] := hl
  obtain ⟨H, hHe⟩ : ∃ H : Heap, H = s.heap := ⟨_, rfl⟩
  obtain ⟨locs, hLe⟩ : ∃ L : List Loc, L = [] := ⟨_, rfl⟩
  have hP : va_P D vwCl ((wDp ad o pa ka (fx 0) (sx 0)) ++ ((wOf o (x 0) (y 0)) ++ ((wFl x r cI cZ cQ w q d T st re rc (nI nz)) ++ ((wSt y rp rw rt cI cQ P n Wi Ti (nI nt)) ++ ((wPl pa pb cI zo) ++ (wSs sx cI sf sg ra fo te ot zn co)))))) H := by rw [hHe]; exact hP
  have hS : va_S A s.heap H locs := by rw [hHe, hLe]; exact hS
  refine W.eqHL hHe hLe ?_
  have hcle := cnt_le (fun k => !decide (zo k = -1)) 7
  refine lv_aload_n hx hb dX7_search_0 rfl (lv_at hl 0 rfl) ?_
  refine lv_iload_n hx hb dX7_search_1 rfl (lv_at hl 1 rfl) ?_
  refine lv_iconst (v := nI 1) hx hb dX7_search_2 (by decide) ?_
  refine lv_bipush (v := nI 40) hx hb dX7_search_3 (by decide) ?_
  refine rx_v (wr := (wOf o (x 0) (y 0)) ++ ((wFl x r cI cZ cQ w q d T st re rc (nI nz)) ++ ((wSt y rp rw rt cI cQ P n Wi Ti (nI nt)) ++ ((wPl pa pb cI zo) ++ (wSs sx cI sf sg ra fo te ot zn co))))) (w_VX (As := [.int a8, .int (nI 1), .int (nI 40)]) ⟨hx, hb, hml, hown, hts⟩ (c_X7_requireRange l D cI cZ cQ cJ ad o pa ka fx sx a8 1 40 H.size (by first | assumption | omega) (by first | assumption | omega) (by first | assumption | omega)) (gV t2_177 t2_179 t0_7 t1_1 t2_180) rfl rfl hd_X7_requireRange ⟨Nat.le_of_ble_eq_true rfl, Nat.le_of_ble_eq_true rfl⟩ (rx_pre hP hD hSt hDc hZ hS hA [0] rfl (by decide)) (va_recv hSt.1 hP (ci := 7) (q0 := 0) rfl rfl) rfl hl.1 (rest := []) rfl (Nat.le_of_ble_eq_true rfl) dX7_search_5 ⟨Nat.le_of_ble_eq_true rfl, Nat.le_of_ble_eq_true rfl⟩) hP hD hS hA [0] [1, 2, 3, 4, 5, 6, 7, 8, 9, 10, 11, 12, 13, 14, 15, 16, 17, 18, 19, 20, 21, 22, 23, 24, 25, 26, 27, 28, 29, 30, 31, 32, 33, 34, 35, 36, 37, 38, 39, 40, 41, 42, 43, 44, 45, 46, 47, 48, 49, 50] rfl rfl (by decide) (by decide) (fun E9 ce9 q9 x9 H locs hx9 hP hD hS hc91 hc92 hc93 => ?_) (fun  u_1 H locs hw9 hP hD hS => ?_)
  · have hx9 : E9 = "java/lang/IllegalArgumentException" ∧ ¬ inR a8 1 40 := hx9
    have hP : va_P D vwCl (((wOf o (x 0) (y 0)) ++ ((wFl x r cI cZ cQ w q d T st re rc (nI nz)) ++ ((wSt y rp rw rt cI cQ P n Wi Ti (nI nt)) ++ ((wPl pa pb cI zo) ++ (wSs sx cI sf sg ra fo te ot zn co))))) ++ (wDp ad o pa ka (fx 0) (sx 0))) H := hP
    have hD : va_D A (((wOf o (x 0) (y 0)) ++ ((wFl x r cI cZ cQ w q d T st re rc (nI nz)) ++ ((wSt y rp rw rt cI cQ P n Wi Ti (nI nt)) ++ ((wPl pa pb cI zo) ++ (wSs sx cI sf sg ra fo te ot zn co))))) ++ (wDp ad o pa ka (fx 0) (sx 0))) := hD
    have hP9 : va_P D vwCl ((wDp ad o pa ka (fx 0) (sx 0)) ++ ((wOf o (x 0) (y 0)) ++ ((wFl x r cI cZ cQ w q d T st re rc (nI nz)) ++ ((wSt y rp rw rt cI cQ P n Wi Ti (nI nt)) ++ ((wPl pa pb cI zo) ++ (wSs sx cI sf sg ra fo te ot zn co)))))) H := (hP.sub (ws' := (wDp ad o pa ka (fx 0) (sx 0)) ++ ((wOf o (x 0) (y 0)) ++ ((wFl x r cI cZ cQ w q d T st re rc (nI nz)) ++ ((wSt y rp rw rt cI cQ P n Wi Ti (nI nt)) ++ ((wPl pa pb cI zo) ++ (wSs sx cI sf sg ra fo te ot zn co)))))) [50, 0, 1, 2, 3, 4, 5, 6, 7, 8, 9, 10, 11, 12, 13, 14, 15, 16, 17, 18, 19, 20, 21, 22, 23, 24, 25, 26, 27, 28, 29, 30, 31, 32, 33, 34, 35, 36, 37, 38, 39, 40, 41, 42, 43, 44, 45, 46, 47, 48, 49] rfl)
    have hD9 : va_D A ((wDp ad o pa ka (fx 0) (sx 0)) ++ ((wOf o (x 0) (y 0)) ++ ((wFl x r cI cZ cQ w q d T st re rc (nI nz)) ++ ((wSt y rp rw rt cI cQ P n Wi Ti (nI nt)) ++ ((wPl pa pb cI zo) ++ (wSs sx cI sf sg ra fo te ot zn co)))))) := (hD.sub (ws' := (wDp ad o pa ka (fx 0) (sx 0)) ++ ((wOf o (x 0) (y 0)) ++ ((wFl x r cI cZ cQ w q d T st re rc (nI nz)) ++ ((wSt y rp rw rt cI cQ P n Wi Ti (nI nt)) ++ ((wPl pa pb cI zo) ++ (wSs sx cI sf sg ra fo te ot zn co)))))) [50, 0, 1, 2, 3, 4, 5, 6, 7, 8, 9, 10, 11, 12, 13, 14, 15, 16, 17, 18, 19, 20, 21, 22, 23, 24, 25, 26, 27, 28, 29, 30, 31, 32, 33, 34, 35, 36, 37, 38, 39, 40, 41, 42, 43, 44, 45, 46, 47, 48, 49] (by decide) rfl)
    exact vx_widen (k := 3) (n := 18) (by omega) (by omega) (rx_on (u := ()) ht hlocks (Or.inl ⟨hx9.1, Or.inl ⟨fun q9 => hx9.2 q9.1, rfl, rfl⟩⟩) hP9 hD9 hS hc91 hc92 hc93 (Nat.le_refl _) (Nat.le_refl _))
  · have f_2 := hw9
    have hra : inR a8 1 40 := f_2
    have hP : va_P D vwCl (((wOf o (x 0) (y 0)) ++ ((wFl x r cI cZ cQ w q d T st re rc (nI nz)) ++ ((wSt y rp rw rt cI cQ P n Wi Ti (nI nt)) ++ ((wPl pa pb cI zo) ++ (wSs sx cI sf sg ra fo te ot zn co))))) ++ (wDp ad o pa ka (fx 0) (sx 0))) H := hP
    have hD : va_D A (((wOf o (x 0) (y 0)) ++ ((wFl x r cI cZ cQ w q d T st re rc (nI nz)) ++ ((wSt y rp rw rt cI cQ P n Wi Ti (nI nt)) ++ ((wPl pa pb cI zo) ++ (wSs sx cI sf sg ra fo te ot zn co))))) ++ (wDp ad o pa ka (fx 0) (sx 0))) := hD
    obtain ⟨aa, h1_aa, h2_aa, rfl⟩ := hra
    refine lv_aload_n hx hb dX7_search_8 rfl (lv_at hl 0 rfl) ?_
    refine lv_iload_n hx hb dX7_search_9 rfl (lv_at hl 2 rfl) ?_
    refine lv_iconst (v := nI 0) hx hb dX7_search_10 (by decide) ?_
    refine lv_iconst (v := nI 5) hx hb dX7_search_11 (by decide) ?_
    refine rx_v (wr := (wOf o (x 0) (y 0)) ++ ((wFl x r cI cZ cQ w q d T st re rc (nI nz)) ++ ((wSt y rp rw rt cI cQ P n Wi Ti (nI nt)) ++ ((wPl pa pb cI zo) ++ (wSs sx cI sf sg ra fo te ot zn co))))) (w_VX (As := [.int r8, .int (nI 0), .int (nI 5)]) ⟨hx, hb, hml, hown, hts⟩ (c_X7_requireRange l D cI cZ cQ cJ ad o pa ka fx sx r8 0 5 H.size (by first | assumption | omega) (by first | assumption | omega) (by first | assumption | omega)) (gV t2_177 t2_179 t0_7 t1_1 t2_180) rfl rfl hd_X7_requireRange ⟨Nat.le_of_ble_eq_true rfl, Nat.le_of_ble_eq_true rfl⟩ (rx_pre hP hD hSt hDc hZ hS hA [50] rfl (by decide)) (va_recv hSt.1 hP (ci := 7) (q0 := 50) rfl rfl) rfl hl.1 (rest := []) rfl (Nat.le_of_ble_eq_true rfl) dX7_search_12 ⟨Nat.le_of_ble_eq_true rfl, Nat.le_of_ble_eq_true rfl⟩) hP hD hS hA [50] [0, 1, 2, 3, 4, 5, 6, 7, 8, 9, 10, 11, 12, 13, 14, 15, 16, 17, 18, 19, 20, 21, 22, 23, 24, 25, 26, 27, 28, 29, 30, 31, 32, 33, 34, 35, 36, 37, 38, 39, 40, 41, 42, 43, 44, 45, 46, 47, 48, 49] rfl rfl (by decide) (by decide) (fun E9 ce9 q9 x9 H locs hx9 hP hD hS hc91 hc92 hc93 => ?_) (fun  u_3 H locs hw9 hP hD hS => ?_)
    · have hx9 : E9 = "java/lang/IllegalArgumentException" ∧ ¬ inR r8 0 5 := hx9
      have hP : va_P D vwCl (((wOf o (x 0) (y 0)) ++ ((wFl x r cI cZ cQ w q d T st re rc (nI nz)) ++ ((wSt y rp rw rt cI cQ P n Wi Ti (nI nt)) ++ ((wPl pa pb cI zo) ++ (wSs sx cI sf sg ra fo te ot zn co))))) ++ (wDp ad o pa ka (fx 0) (sx 0))) H := hP
      have hD : va_D A (((wOf o (x 0) (y 0)) ++ ((wFl x r cI cZ cQ w q d T st re rc (nI nz)) ++ ((wSt y rp rw rt cI cQ P n Wi Ti (nI nt)) ++ ((wPl pa pb cI zo) ++ (wSs sx cI sf sg ra fo te ot zn co))))) ++ (wDp ad o pa ka (fx 0) (sx 0))) := hD
      have hP9 : va_P D vwCl ((wDp ad o pa ka (fx 0) (sx 0)) ++ ((wOf o (x 0) (y 0)) ++ ((wFl x r cI cZ cQ w q d T st re rc (nI nz)) ++ ((wSt y rp rw rt cI cQ P n Wi Ti (nI nt)) ++ ((wPl pa pb cI zo) ++ (wSs sx cI sf sg ra fo te ot zn co)))))) H := (hP.sub (ws' := (wDp ad o pa ka (fx 0) (sx 0)) ++ ((wOf o (x 0) (y 0)) ++ ((wFl x r cI cZ cQ w q d T st re rc (nI nz)) ++ ((wSt y rp rw rt cI cQ P n Wi Ti (nI nt)) ++ ((wPl pa pb cI zo) ++ (wSs sx cI sf sg ra fo te ot zn co)))))) [50, 0, 1, 2, 3, 4, 5, 6, 7, 8, 9, 10, 11, 12, 13, 14, 15, 16, 17, 18, 19, 20, 21, 22, 23, 24, 25, 26, 27, 28, 29, 30, 31, 32, 33, 34, 35, 36, 37, 38, 39, 40, 41, 42, 43, 44, 45, 46, 47, 48, 49] rfl)
      have hD9 : va_D A ((wDp ad o pa ka (fx 0) (sx 0)) ++ ((wOf o (x 0) (y 0)) ++ ((wFl x r cI cZ cQ w q d T st re rc (nI nz)) ++ ((wSt y rp rw rt cI cQ P n Wi Ti (nI nt)) ++ ((wPl pa pb cI zo) ++ (wSs sx cI sf sg ra fo te ot zn co)))))) := (hD.sub (ws' := (wDp ad o pa ka (fx 0) (sx 0)) ++ ((wOf o (x 0) (y 0)) ++ ((wFl x r cI cZ cQ w q d T st re rc (nI nz)) ++ ((wSt y rp rw rt cI cQ P n Wi Ti (nI nt)) ++ ((wPl pa pb cI zo) ++ (wSs sx cI sf sg ra fo te ot zn co)))))) [50, 0, 1, 2, 3, 4, 5, 6, 7, 8, 9, 10, 11, 12, 13, 14, 15, 16, 17, 18, 19, 20, 21, 22, 23, 24, 25, 26, 27, 28, 29, 30, 31, 32, 33, 34, 35, 36, 37, 38, 39, 40, 41, 42, 43, 44, 45, 46, 47, 48, 49] (by decide) rfl)
      exact vx_widen (k := 3) (n := 18) (by omega) (by omega) (rx_on (u := ()) ht hlocks (Or.inl ⟨hx9.1, Or.inl ⟨fun q9 => hx9.2 q9.2, rfl, rfl⟩⟩) hP9 hD9 hS hc91 hc92 hc93 (Nat.le_refl _) (Nat.le_refl _))
    · have f_4 := hw9
      have hrr : inR r8 0 5 := f_4
      have hP : va_P D vwCl (((wOf o (x 0) (y 0)) ++ ((wFl x r cI cZ cQ w q d T st re rc (nI nz)) ++ ((wSt y rp rw rt cI cQ P n Wi Ti (nI nt)) ++ ((wPl pa pb cI zo) ++ (wSs sx cI sf sg ra fo te ot zn co))))) ++ (wDp ad o pa ka (fx 0) (sx 0))) H := hP
      have hD : va_D A (((wOf o (x 0) (y 0)) ++ ((wFl x r cI cZ cQ w q d T st re rc (nI nz)) ++ ((wSt y rp rw rt cI cQ P n Wi Ti (nI nt)) ++ ((wPl pa pb cI zo) ++ (wSs sx cI sf sg ra fo te ot zn co))))) ++ (wDp ad o pa ka (fx 0) (sx 0))) := hD
      obtain ⟨rr, h1_rr, h2_rr, rfl⟩ := hrr
      refine lv_aload_n hx hb dX7_search_15 rfl (lv_at hl 0 rfl) ?_
      refine va_get (D := D) (ci := 7) (v := .ref pa) (C := RX7) (T := TX7) (N := 5) hx hb hts tu_X7 hown hSt.1 hP 50 rfl rfl 1 (by decide) (hts _ t1_209) (fun _ h9 => h9) rfl dX7_search_16 ?_
      refine ro_V (As := []) (rest := []) (v := nI (cnt (fun k => !decide (zo k = -1)) 7)) ⟨hx, hb, hml, hown, hts⟩ (c_X4_countPlaced l D cI cZ cQ cJ pa pb zo) (gV t1_235 t1_236 t1_237 t1_5 t1_238) rfl rfl hd_X4_countPlaced ⟨Nat.le_of_ble_eq_true rfl, Nat.le_of_ble_eq_true rfl⟩ (hP.sub (ws' := wPl pa pb cI zo) [41, 42] rfl) hSt (va_recv hSt.1 hP (ci := 4) (q0 := 41) rfl rfl) rfl hl.1 rfl (Nat.le_of_ble_eq_true rfl) dX7_search_19 (Nat.le_of_ble_eq_true rfl) (Nat.le_of_ble_eq_true rfl) ?_
      refine lv_aload_n hx hb dX7_search_22 rfl (lv_at hl 0 rfl) ?_
      refine va_get (D := D) (ci := 7) (v := .ref o) (C := RX7) (T := TX7) (N := 5) hx hb hts tu_X7 hown hSt.1 hP 50 rfl rfl 0 (by decide) (hts _ t1_208) (fun _ h9 => h9) rfl dX7_search_23 ?_
      refine va_getN (D := D) (ci := 3) (v := .ref (y 0)) (C := RX3) (T := TX3) (N := 2) hx hb hts tu_X3 hown hSt.1 hP 0 rfl rfl 1 (by decide) (nf_9 hSt.2) (fun _ h9 => h9) rfl dX7_search_26 ?_
      refine va_getN (D := D) (ci := 5) (v := .int (nI nt)) (C := RX5) (T := TX5) (N := 5) hx hb hts tu_X5 hown hSt.1 hP 15 rfl rfl 4 (by decide) (nf_1 hSt.2) (fun _ h9 => h9) rfl dX7_search_29 ?_
      refine lv_icmp_ge (tgt := 45) hx hb dX7_search_32 (by decide) (fun c_5 => ?_) (fun c_5 => ?_)
      · have c_5 := z_le (by omega) (by omega) c_5
        have hall := (cnt_placed hzo (vG_out hvg) hnt).mp c_5
        refine lv_aload_n hx hb dX7_search_45 rfl (lv_at hl 0 rfl) ?_
        refine va_get (D := D) (ci := 7) (v := .ref (sx 0)) (C := RX7) (T := TX7) (N := 5) hx hb hts tu_X7 hown hSt.1 hP 50 rfl rfl 4 (by decide) (hts _ t1_212) (fun _ h9 => h9) rfl dX7_search_46 ?_
        refine lv_aload_n hx hb dX7_search_49 rfl (lv_at hl 0 rfl) ?_
        refine va_get (D := D) (ci := 7) (v := .ref o) (C := RX7) (T := TX7) (N := 5) hx hb hts tu_X7 hown hSt.1 hP 50 rfl rfl 0 (by decide) (hts _ t1_208) (fun _ h9 => h9) rfl dX7_search_50 ?_
        refine lv_aload_n hx hb dX7_search_53 rfl (lv_at hl 0 rfl) ?_
        refine va_get (D := D) (ci := 7) (v := .ref pa) (C := RX7) (T := TX7) (N := 5) hx hb hts tu_X7 hown hSt.1 hP 50 rfl rfl 1 (by decide) (hts _ t1_209) (fun _ h9 => h9) rfl dX7_search_54 ?_
        refine lv_iload_n hx hb dX7_search_57 rfl (lv_at hl 1 rfl) ?_
        refine lv_iload_n hx hb dX7_search_58 rfl (lv_at hl 2 rfl) ?_
        refine rw_i (wr := wDp ad o pa ka (fx 0) (sx 0)) (w_V (As := [.ref o, .ref pa, .int (nI aa), .int (nI rr)]) ⟨hx, hb, hml, hown, hts⟩ (c_X6_run l D cI cZ cQ cJ o x r w q d T st re rc nz y rp rw rt P n Wi Ti nt sx sf sg ra fo te ot zn co wi ti dd g pa pb zo aa rr H.size (by first | assumption | omega) (by first | assumption | omega) (by first | assumption | omega) (by first | assumption | omega) (by first | assumption | omega) (by first | assumption | omega) (aP_of hvg hfG hall) hzo (by first | assumption | omega) (by first | assumption | omega)) (gV t3_80 t3_81 t3_82 t1_8 t3_83) rfl rfl hd_X6_run ⟨Nat.le_of_ble_eq_true rfl, Nat.le_of_ble_eq_true rfl⟩ (rw_pre hP hD hSt [0, 1, 2, 3, 4, 5, 6, 7, 8, 9, 10, 11, 12, 13, 14, 15, 16, 17, 18, 19, 20, 21, 22, 23, 24, 25, 26, 27, 28, 29, 30, 31, 32, 33, 34, 35, 36, 37, 38, 39, 40, 43, 44, 45, 46, 47, 48, 49, 41, 42] rfl (by decide)) (va_recv hSt.1 hP (ci := 6) (q0 := 43) rfl rfl) rfl hl.1 (rest := []) rfl (Nat.le_of_ble_eq_true rfl) dX7_search_59 ⟨Nat.le_of_ble_eq_true rfl, Nat.le_of_ble_eq_true rfl⟩) hP hD hS hA [0, 1, 2, 3, 4, 5, 6, 7, 8, 9, 10, 11, 12, 13, 14, 15, 16, 17, 18, 19, 20, 21, 22, 23, 24, 25, 26, 27, 28, 29, 30, 31, 32, 33, 34, 35, 36, 37, 38, 39, 40, 43, 44, 45, 46, 47, 48, 49, 41, 42] [50] rfl rfl (by decide) (by decide) (fun r_9 u_14 H locs hw9 hP hD hS => ?_)
        obtain ⟨j_6, j_7, j_8, j_9, j_10, j_11, j_12, j_13⟩ := u_14
        obtain ⟨rfl, f_15⟩ := hw9
        have hgn : pOK 7 j_7 (rn (fun g9 => costN wi ti dd g9 nt) (fun t9 z9 => n t9 ≤ d z9) nt nz rr g aa).2.2.2.2 := f_15
        have hP : va_P D vwCl ((wDp ad o pa ka (fx 0) (sx 0)) ++ (((wOf o (x 0) (y 0)) ++ ((wFl x r cI cZ cQ w q d T st re rc (nI nz)) ++ ((wSt y rp rw rt cI cQ P n Wi Ti (nI nt)) ++ (wSs sx cI j_6 j_7 j_8 j_9 j_10 j_11 j_12 j_13)))) ++ (wPl pa pb cI zo))) H := hP
        have hD : va_D A ((wDp ad o pa ka (fx 0) (sx 0)) ++ (((wOf o (x 0) (y 0)) ++ ((wFl x r cI cZ cQ w q d T st re rc (nI nz)) ++ ((wSt y rp rw rt cI cQ P n Wi Ti (nI nt)) ++ (wSs sx cI j_6 j_7 j_8 j_9 j_10 j_11 j_12 j_13)))) ++ (wPl pa pb cI zo))) := hD
        refine lv_istore_n (lv' := [(3, .int (nI (rn (fun g9 => costN wi ti dd g9 nt) (fun t9 z9 => n t9 ≤ d z9) nt nz rr g aa).2.2.2.1)), (0, .ref ad), (1, .int (nI aa)), (2, .int (nI rr))]) hx hb dX7_search_62 rfl hl (by decide) rfl (fun ls hl => ?_)
        refine lv_aload_n hx hb dX7_search_63 rfl (lv_at hl 1 rfl) ?_
        refine va_get (D := D) (ci := 7) (v := .ref pa) (C := RX7) (T := TX7) (N := 5) hx hb hts tu_X7 hown hSt.1 hP 0 rfl rfl 1 (by decide) (hts _ t1_209) (fun _ h9 => h9) rfl dX7_search_64 ?_
        refine lv_aload_n hx hb dX7_search_67 rfl (lv_at hl 1 rfl) ?_
        refine va_get (D := D) (ci := 7) (v := .ref (sx 0)) (C := RX7) (T := TX7) (N := 5) hx hb hts tu_X7 hown hSt.1 hP 0 rfl rfl 4 (by decide) (hts _ t1_212) (fun _ h9 => h9) rfl dX7_search_68 ?_
        refine va_getN (D := D) (ci := 6) (v := .ref (sx 3)) (C := RX6) (T := TX6) (N := 4) hx hb hts tu_X6 hown hSt.1 hP 42 rfl rfl 1 (by decide) (nf_3 hSt.2) (fun _ h9 => h9) rfl dX7_search_71 ?_
        refine rw_v (wr := (([(ad, .inr (7, [.ref o, .ref pa, .ref ka, .ref (fx 0), .ref (sx 0)])), (o, .inr (3, [.ref (x 0), .ref (y 0)])), ((x 0), .inr (1, [.ref (x 1), .ref (x 2), .ref (x 3), .ref (x 4), .ref (x 5), .ref (x 6), .int rc, .int (nI nz)])), ((x 1), .inl (cZ, 64, .inl w)), ((x 2), .inl (cI, 7, .inl q)), ((x 3), .inl (cI, 7, .inl d)), rq (x 4) cQ r, ((x 5), .inl (cI, 64, .inl st)), ((x 6), .inl (cI, 64, .inl re))] : va_W) ++ ((rb r cI 7 T 7) ++ (([((y 0), .inr (5, [.ref (y 1), .ref (y 2), .ref (y 3), .ref (y 4), .int (nI nt)])), rq (y 1) cQ rp, ((y 2), .inl (cI, 7, .inl n)), rq (y 3) cQ rw, rq (y 4) cQ rt] : va_W) ++ ((rb rp cI 5 P 7) ++ ((rb rw cI 7 Wi 7) ++ ((rb rt cI 7 Ti 7) ++ ([((sx 0), .inr (6, [.ref (sx 1), .ref (sx 3), .ref (sx 5), .ref (sx 6)])), ((sx 1), .inr (4, [.ref (sx 2)])), ((sx 2), .inl (cI, 7, .inl j_6)), ((sx 5), .inl (cI, 7, .inl j_8)), ((sx 6), .inr (0, [.int j_9, .int j_10, .int j_11, .int j_12, .int j_13]))] : va_W)))))))) (w_V (As := [.ref (sx 3)]) ⟨hx, hb, hml, hown, hts⟩ (c_X4_layLike l D cI cZ cQ cJ pa pb zo (sx 3) (sx 4) j_7 H.size) (gV t1_228 t1_229 t1_230 t1_5 t1_231) rfl rfl hd_X4_layLike ⟨Nat.le_of_ble_eq_true rfl, Nat.le_of_ble_eq_true rfl⟩ (rw_pre hP hD hSt [49, 50, 45, 46] rfl (by decide)) (va_recv hSt.1 hP (ci := 4) (q0 := 49) rfl rfl) rfl hl.1 (rest := []) rfl (Nat.le_of_ble_eq_true rfl) dX7_search_74 ⟨Nat.le_of_ble_eq_true rfl, Nat.le_of_ble_eq_true rfl⟩) hP hD hS hA [49, 50, 45, 46] [0, 1, 2, 3, 4, 5, 6, 7, 8, 9, 10, 11, 12, 13, 14, 15, 16, 17, 18, 19, 20, 21, 22, 23, 24, 25, 26, 27, 28, 29, 30, 31, 32, 33, 34, 35, 36, 37, 38, 39, 40, 41, 42, 43, 44, 47, 48] rfl rfl (by decide) (by decide) (fun  u_16 H locs hw9 hP hD hS => ?_)
        have hP : va_P D vwCl ((wDp ad o pa ka (fx 0) (sx 0)) ++ (((wOf o (x 0) (y 0)) ++ ((wFl x r cI cZ cQ w q d T st re rc (nI nz)) ++ ((wSt y rp rw rt cI cQ P n Wi Ti (nI nt)) ++ (wSs sx cI j_6 j_7 j_8 j_9 j_10 j_11 j_12 j_13)))) ++ (wPl pa pb cI j_7))) H := hP.sub (ws' := (wDp ad o pa ka (fx 0) (sx 0)) ++ (((wOf o (x 0) (y 0)) ++ ((wFl x r cI cZ cQ w q d T st re rc (nI nz)) ++ ((wSt y rp rw rt cI cQ P n Wi Ti (nI nt)) ++ (wSs sx cI j_6 j_7 j_8 j_9 j_10 j_11 j_12 j_13)))) ++ (wPl pa pb cI j_7))) [0, 1, 2, 3, 4, 5, 6, 7, 8, 9, 10, 11, 12, 13, 14, 15, 16, 17, 18, 19, 20, 21, 22, 23, 24, 25, 26, 27, 28, 29, 30, 31, 32, 33, 34, 35, 36, 37, 38, 39, 40, 41, 42, 43, 44, 49, 50, 45, 46, 47, 48] rfl
        have hD : va_D A ((wDp ad o pa ka (fx 0) (sx 0)) ++ (((wOf o (x 0) (y 0)) ++ ((wFl x r cI cZ cQ w q d T st re rc (nI nz)) ++ ((wSt y rp rw rt cI cQ P n Wi Ti (nI nt)) ++ (wSs sx cI j_6 j_7 j_8 j_9 j_10 j_11 j_12 j_13)))) ++ (wPl pa pb cI j_7))) := hD.sub (ws' := (wDp ad o pa ka (fx 0) (sx 0)) ++ (((wOf o (x 0) (y 0)) ++ ((wFl x r cI cZ cQ w q d T st re rc (nI nz)) ++ ((wSt y rp rw rt cI cQ P n Wi Ti (nI nt)) ++ (wSs sx cI j_6 j_7 j_8 j_9 j_10 j_11 j_12 j_13)))) ++ (wPl pa pb cI j_7))) [0, 1, 2, 3, 4, 5, 6, 7, 8, 9, 10, 11, 12, 13, 14, 15, 16, 17, 18, 19, 20, 21, 22, 23, 24, 25, 26, 27, 28, 29, 30, 31, 32, 33, 34, 35, 36, 37, 38, 39, 40, 41, 42, 43, 44, 49, 50, 45, 46, 47, 48] (by decide) rfl
        refine lv_iload_n hx hb dX7_search_77 rfl (lv_at hl 0 rfl) ?_
        have hP9 : va_P D vwCl ((wDp ad o pa ka (fx 0) (sx 0)) ++ ((wOf o (x 0) (y 0)) ++ ((wFl x r cI cZ cQ w q d T st re rc (nI nz)) ++ ((wSt y rp rw rt cI cQ P n Wi Ti (nI nt)) ++ ((wPl pa pb cI j_7) ++ (wSs sx cI j_6 j_7 j_8 j_9 j_10 j_11 j_12 j_13)))))) H := (hP.sub (ws' := (wDp ad o pa ka (fx 0) (sx 0)) ++ ((wOf o (x 0) (y 0)) ++ ((wFl x r cI cZ cQ w q d T st re rc (nI nz)) ++ ((wSt y rp rw rt cI cQ P n Wi Ti (nI nt)) ++ ((wPl pa pb cI j_7) ++ (wSs sx cI j_6 j_7 j_8 j_9 j_10 j_11 j_12 j_13)))))) [0, 1, 2, 3, 4, 5, 6, 7, 8, 9, 10, 11, 12, 13, 14, 15, 16, 17, 18, 19, 20, 21, 22, 23, 24, 25, 26, 27, 28, 29, 30, 31, 32, 33, 34, 35, 36, 37, 38, 39, 40, 41, 49, 50, 42, 43, 44, 45, 46, 47, 48] rfl)
        have hD9 : va_D A ((wDp ad o pa ka (fx 0) (sx 0)) ++ ((wOf o (x 0) (y 0)) ++ ((wFl x r cI cZ cQ w q d T st re rc (nI nz)) ++ ((wSt y rp rw rt cI cQ P n Wi Ti (nI nt)) ++ ((wPl pa pb cI j_7) ++ (wSs sx cI j_6 j_7 j_8 j_9 j_10 j_11 j_12 j_13)))))) := (hD.sub (ws' := (wDp ad o pa ka (fx 0) (sx 0)) ++ ((wOf o (x 0) (y 0)) ++ ((wFl x r cI cZ cQ w q d T st re rc (nI nz)) ++ ((wSt y rp rw rt cI cQ P n Wi Ti (nI nt)) ++ ((wPl pa pb cI j_7) ++ (wSs sx cI j_6 j_7 j_8 j_9 j_10 j_11 j_12 j_13)))))) [0, 1, 2, 3, 4, 5, 6, 7, 8, 9, 10, 11, 12, 13, 14, 15, 16, 17, 18, 19, 20, 21, 22, 23, 24, 25, 26, 27, 28, 29, 30, 31, 32, 33, 34, 35, 36, 37, 38, 39, 40, 41, 49, 50, 42, 43, 44, 45, 46, 47, 48] (by decide) rfl)
        have g_17 : sSearch nt nz n d wi ti dd g (nI aa) (nI rr) 0 (nI (rn (fun g9 => costN wi ti dd g9 nt) (fun t9 z9 => n t9 ≤ d z9) nt nz rr g aa).2.2.2.1) ((rn (fun g9 => costN wi ti dd g9 nt) (fun t9 z9 => n t9 ≤ d z9) nt nz rr g aa).2.2.2.2) := Or.inr (Or.inr ⟨⟨⟨aa, h1_aa, h2_aa, rfl⟩, ⟨rr, h1_rr, h2_rr, rfl⟩⟩, hall, rfl, by rw [nIc (by omega), nIc (by omega)], by rw [nIc (by omega), nIc (by omega)]⟩)
        have g_18 : pOK 7 j_7 ((rn (fun g9 => costN wi ti dd g9 nt) (fun t9 z9 => n t9 ≤ d z9) nt nz rr g aa).2.2.2.2) := hgn
        refine W.widen (k := 3) (n := 18) (by omega) (by omega) ?_
        exact vx_ret (W.iret (v := nI (rn (fun g9 => costN wi ti dd g9 nt) (fun t9 z9 => n t9 ≤ d z9) nt nz rr g aa).2.2.2.1) hx hb hr (fun t9 ht9 hW9 => ⟨⟨nI (rn (fun g9 => costN wi ti dd g9 nt) (fun t9 z9 => n t9 ≤ d z9) nt nz rr g aa).2.2.2.1, (nI (rn (fun g9 => costN wi ti dd g9 nt) (fun t9 z9 => n t9 ≤ d z9) nt nz rr g aa).2.2.2.1, j_7, (rn (fun g9 => costN wi ti dd g9 nt) (fun t9 z9 => n t9 ≤ d z9) nt nz rr g aa).2.2.2.2, j_6, j_7, j_8, j_9, j_10, j_11, j_12, j_13), rfl, ⟨rfl, g_17, g_18⟩, by rw [ht9]; exact hP9, hD9⟩, hS.F ht9⟩) hS.2.2 dX7_search_78)
      · have c_5 := z_nle (by omega) (by omega) c_5
        have hP9 : va_P D vwCl ((wDp ad o pa ka (fx 0) (sx 0)) ++ ((wOf o (x 0) (y 0)) ++ ((wFl x r cI cZ cQ w q d T st re rc (nI nz)) ++ ((wSt y rp rw rt cI cQ P n Wi Ti (nI nt)) ++ ((wPl pa pb cI zo) ++ (wSs sx cI sf sg ra fo te ot zn co)))))) H := (hP.sub (ws' := (wDp ad o pa ka (fx 0) (sx 0)) ++ ((wOf o (x 0) (y 0)) ++ ((wFl x r cI cZ cQ w q d T st re rc (nI nz)) ++ ((wSt y rp rw rt cI cQ P n Wi Ti (nI nt)) ++ ((wPl pa pb cI zo) ++ (wSs sx cI sf sg ra fo te ot zn co)))))) [50, 0, 1, 2, 3, 4, 5, 6, 7, 8, 9, 10, 11, 12, 13, 14, 15, 16, 17, 18, 19, 20, 21, 22, 23, 24, 25, 26, 27, 28, 29, 30, 31, 32, 33, 34, 35, 36, 37, 38, 39, 40, 41, 42, 43, 44, 45, 46, 47, 48, 49] rfl)
        have hD9 : va_D A ((wDp ad o pa ka (fx 0) (sx 0)) ++ ((wOf o (x 0) (y 0)) ++ ((wFl x r cI cZ cQ w q d T st re rc (nI nz)) ++ ((wSt y rp rw rt cI cQ P n Wi Ti (nI nt)) ++ ((wPl pa pb cI zo) ++ (wSs sx cI sf sg ra fo te ot zn co)))))) := (hD.sub (ws' := (wDp ad o pa ka (fx 0) (sx 0)) ++ ((wOf o (x 0) (y 0)) ++ ((wFl x r cI cZ cQ w q d T st re rc (nI nz)) ++ ((wSt y rp rw rt cI cQ P n Wi Ti (nI nt)) ++ ((wPl pa pb cI zo) ++ (wSs sx cI sf sg ra fo te ot zn co)))))) [50, 0, 1, 2, 3, 4, 5, 6, 7, 8, 9, 10, 11, 12, 13, 14, 15, 16, 17, 18, 19, 20, 21, 22, 23, 24, 25, 26, 27, 28, 29, 30, 31, 32, 33, 34, 35, 36, 37, 38, 39, 40, 41, 42, 43, 44, 45, 46, 47, 48, 49] (by decide) rfl)
        exact tw_2 hx hb hfl hown hts hSt hDc hZ hS (hl.1.trans hml.symm) 15 rfl dX7_search_35 dX7_search_38 dX7_search_39 dX7_search_41 dX7_search_44 ht (Nat.le_of_ble_eq_true rfl) (Nat.le_of_ble_eq_true rfl) (Nat.le_of_ble_eq_true rfl) (Nat.le_of_ble_eq_true rfl) hlocks (rx_new (u := ()) (Or.inr ⟨rfl, Or.inr (Or.inl ⟨⟨⟨aa, h1_aa, h2_aa, rfl⟩, ⟨rr, h1_rr, h2_rr, rfl⟩⟩, fun q9 => by have h7 := (cnt_placed hzo (vG_out hvg) hnt).mpr q9; omega, rfl, rfl⟩)⟩) hP9 hD9 hS) hS.2.2 (Nat.le_of_ble_eq_true rfl) (Nat.le_of_ble_eq_true rfl)
set_option maxHeartbeats 4000000 in
set_option maxRecDepth 100000 in
/-- remember -/
theorem c_X7_remember (l : Launch) (D : va_G) (cI cZ cQ cJ : ClassId) (ad : Nat) (o : Nat) (pa : Nat) (ka : Nat) (fx : Nat → Nat) (sx : Nat → Nat) (pb : Nat) (zo : Nat → Int32) (kb : Nat) (ke : Nat → Int32) (sz : Nat)  : Met l yX7_remember (.code yX7_remember cX7_remember 1 (some .int) :: ALL) ({ frames := 2, cells := 0, slots := 0, locals := 81 } : Room) (va_Pc [.ref ad] (rw_P D cI cZ cQ cJ ((wDp ad o pa ka (fx 0) (sx 0)) ++ ((wPl pa pb cI zo) ++ (wPl ka kb cI ke))) sz)) (va_Qi (fun (r9 : Int32) (u9 : Unit) => (r9 = (nI (cnt (fun k => !decide (zo k = -1)) 7)))) (rw_B D (va_A ((wDp ad o pa ka (fx 0) (sx 0)) ++ ((wPl pa pb cI zo) ++ (wPl ka kb cI ke))) sz) (fun u9 : Unit => (wDp ad o pa ka (fx 0) (sx 0)) ++ ((wPl pa pb cI zo) ++ (wPl ka kb cI zo)))) (va_A ((wDp ad o pa ka (fx 0) (sx 0)) ++ ((wPl pa pb cI zo) ++ (wPl ka kb cI ke))) sz)) 0 0 (va_A ((wDp ad o pa ka (fx 0) (sx 0)) ++ ((wPl pa pb cI zo) ++ (wPl ka kb cI ke))) sz) := by
  refine Met.ofW (cc := cX7_remember) (maxL := 1) (ret := (some .int)) (by decide) rfl ?_
  intro p e s m args below meth c s₁ B hml hv
  obtain ⟨rfl, hsz, hP, hSt, hD0⟩ := hv
  have hx := B.exec
  have hb := B.bytes
  have hr := B.returns
  have hts : ∀ w ∈ ALL, w.before ([.ref ad] : List Value).toArray s = true := fun w h => atoms_spec (ws := (.code yX7_remember cX7_remember 1 (some .int) :: ALL)) B.pre w (List.mem_cons_of_mem _ h)
  have hown : s.vm.findClass RX7 = some m.cls := findClass_of_methodNamed B.named
  have hlocks := B.notSynchronized
  subst hsz
  have hD := hD0.self (sz := s.heap.size)
  clear hD0
  generalize hAe : va_A ((wDp ad o pa ka (fx 0) (sx 0)) ++ ((wPl pa pb cI zo) ++ (wPl ka kb cI ke))) s.heap.size = A at hD ⊢
  have hA : ∀ q : Nat, s.heap.size ≤ q → A q := fun q h => by rw [← hAe]; exact Or.inr h
  have hS : va_S A s.heap s.heap [] := va_S.rf
  have hl := lv_entry ([.ref ad]) (n := 1) (Nat.le_of_ble_eq_true rfl)
  rw [lg_entry_eq]
  generalize (lg_sl ([.ref ad]) ++ List.replicate (1 - (lg_sl ([.ref ad])).length) Slot.unset).toArray = ls at hl ⊢
  have hl : lv_has ls 1 [(0, .ref ad)] := hl
  obtain ⟨H, hHe⟩ : ∃ H : Heap, H = s.heap := ⟨_, rfl⟩
  obtain ⟨locs, hLe⟩ : ∃ L : List Loc, L = [] := ⟨_, rfl⟩
  have hP : va_P D vwCl ((wDp ad o pa ka (fx 0) (sx 0)) ++ ((wPl pa pb cI zo) ++ (wPl ka kb cI ke))) H := by rw [hHe]; exact hP
  have hS : va_S A s.heap H locs := by rw [hHe, hLe]; exact hS
  refine W.eqHL hHe hLe ?_
  refine lv_aload_n hx hb dX7_remember_0 rfl (lv_at hl 0 rfl) ?_
  refine va_get (D := D) (ci := 7) (v := .ref ka) (C := RX7) (T := TX7) (N := 5) hx hb hts tu_X7 hown hSt.1 hP 0 rfl rfl 2 (by decide) (hts _ t1_210) (fun _ h9 => h9) rfl dX7_remember_1 ?_
  refine lv_aload_n hx hb dX7_remember_4 rfl (lv_at hl 0 rfl) ?_
  refine va_get (D := D) (ci := 7) (v := .ref pa) (C := RX7) (T := TX7) (N := 5) hx hb hts tu_X7 hown hSt.1 hP 0 rfl rfl 1 (by decide) (hts _ t1_209) (fun _ h9 => h9) rfl dX7_remember_5 ?_
  refine rw_v (wr := wDp ad o pa ka (fx 0) (sx 0)) (w_V (As := [.ref pa]) ⟨hx, hb, hml, hown, hts⟩ (c_X4_layLike l D cI cZ cQ cJ ka kb ke pa pb zo H.size) (gV t1_228 t1_229 t1_230 t1_5 t1_231) rfl rfl hd_X4_layLike ⟨Nat.le_of_ble_eq_true rfl, Nat.le_of_ble_eq_true rfl⟩ (rw_pre hP hD hSt [3, 4, 1, 2] rfl (by decide)) (va_recv hSt.1 hP (ci := 4) (q0 := 3) rfl rfl) rfl hl.1 (rest := []) rfl (Nat.le_of_ble_eq_true rfl) dX7_remember_8 ⟨Nat.le_of_ble_eq_true rfl, Nat.le_of_ble_eq_true rfl⟩) hP hD hS hA [3, 4, 1, 2] [0] rfl rfl (by decide) (by decide) (fun  u_1 H locs hw9 hP hD hS => ?_)
  have hP : va_P D vwCl ((wDp ad o pa ka (fx 0) (sx 0)) ++ ((wPl ka kb cI zo) ++ (wPl pa pb cI zo))) H := hP
  have hD : va_D A ((wDp ad o pa ka (fx 0) (sx 0)) ++ ((wPl ka kb cI zo) ++ (wPl pa pb cI zo))) := hD
  refine lv_aload_n hx hb dX7_remember_11 rfl (lv_at hl 0 rfl) ?_
  refine va_get (D := D) (ci := 7) (v := .ref pa) (C := RX7) (T := TX7) (N := 5) hx hb hts tu_X7 hown hSt.1 hP 0 rfl rfl 1 (by decide) (hts _ t1_209) (fun _ h9 => h9) rfl dX7_remember_12 ?_
  refine ro_V (As := []) (rest := []) (v := nI (cnt (fun k => !decide (zo k = -1)) 7)) ⟨hx, hb, hml, hown, hts⟩ (c_X4_countPlaced l D cI cZ cQ cJ pa pb zo) (gV t1_235 t1_236 t1_237 t1_5 t1_238) rfl rfl hd_X4_countPlaced ⟨Nat.le_of_ble_eq_true rfl, Nat.le_of_ble_eq_true rfl⟩ (hP.sub (ws' := wPl pa pb cI zo) [3, 4] rfl) hSt (va_recv hSt.1 hP (ci := 4) (q0 := 3) rfl rfl) rfl hl.1 rfl (Nat.le_of_ble_eq_true rfl) dX7_remember_15 (Nat.zero_le _) (Nat.zero_le _) ?_
  have hP9 : va_P D vwCl ((wDp ad o pa ka (fx 0) (sx 0)) ++ ((wPl pa pb cI zo) ++ (wPl ka kb cI zo))) H := (hP.sub (ws' := (wDp ad o pa ka (fx 0) (sx 0)) ++ ((wPl pa pb cI zo) ++ (wPl ka kb cI zo))) [0, 3, 4, 1, 2] rfl)
  have hD9 : va_D A ((wDp ad o pa ka (fx 0) (sx 0)) ++ ((wPl pa pb cI zo) ++ (wPl ka kb cI zo))) := (hD.sub (ws' := (wDp ad o pa ka (fx 0) (sx 0)) ++ ((wPl pa pb cI zo) ++ (wPl ka kb cI zo))) [0, 3, 4, 1, 2] (by decide) rfl)
  exact W.iret (v := nI (cnt (fun k => !decide (zo k = -1)) 7)) hx hb hr (fun t9 ht9 hW9 => ⟨⟨nI (cnt (fun k => !decide (zo k = -1)) 7), (), rfl, rfl, by rw [ht9]; exact hP9, hD9⟩, hS.F ht9⟩) hS.2.2 dX7_remember_18
set_option maxHeartbeats 4000000 in
set_option maxRecDepth 100000 in
/-- recall -/
theorem c_X7_recall (l : Launch) (D : va_G) (cI cZ cQ cJ : ClassId) (ad : Nat) (o : Nat) (pa : Nat) (ka : Nat) (fx : Nat → Nat) (sx : Nat → Nat) (x : Nat → Nat) (r : Nat → Nat) (w : Nat → Int32) (q : Nat → Int32) (d : Nat → Int32) (T : Nat → Nat → Int32) (st : Nat → Int32) (re : Nat → Int32) (rc : Int32) (nz : Nat) (y : Nat → Nat) (rp : Nat → Nat) (rw : Nat → Nat) (rt : Nat → Nat) (P : Nat → Nat → Int32) (n : Nat → Int32) (Wi : Nat → Nat → Int32) (Ti : Nat → Nat → Int32) (nt : Nat) (pb : Nat) (zo : Nat → Int32) (kb : Nat) (ke : Nat → Int32) (g : Nat → Nat) (gk : Nat → Nat) (sz : Nat) (hnt : nt ≤ 7) (hnz : nz ≤ 7) (hzo : pOK 7 zo g) (hke : pOK 7 ke gk) (hvg : vG nz nt g) (hvk : vG nz nt gk) (hfl : l.stackTraces = false) : vx_Met l yX7_recall (.code yX7_recall cX7_recall 3 (some .int) :: ALL) ({ frames := 6, cells := 1, slots := 6, locals := 82 } : Room) (va_Pc [.ref ad] (rx_P D cI cZ cQ cJ ((wDp ad o pa ka (fx 0) (sx 0)) ++ ((wOf o (x 0) (y 0)) ++ ((wFl x r cI cZ cQ w q d T st re rc (nI nz)) ++ ((wSt y rp rw rt cI cQ P n Wi Ti (nI nt)) ++ ((wPl pa pb cI zo) ++ (wPl ka kb cI ke)))))) sz)) (va_Qi (fun (r9 : Int32) (u9 : Int32 × (Nat → Int32) × (Nat → Nat)) => (r9 = u9.1) ∧ (sRecall nt n d g gk 0 u9.1 u9.2.2) ∧ (pOK 7 u9.2.1 u9.2.2)) (rw_B D (va_A ((wDp ad o pa ka (fx 0) (sx 0)) ++ ((wOf o (x 0) (y 0)) ++ ((wFl x r cI cZ cQ w q d T st re rc (nI nz)) ++ ((wSt y rp rw rt cI cQ P n Wi Ti (nI nt)) ++ ((wPl pa pb cI zo) ++ (wPl ka kb cI ke)))))) sz) (fun u9 : Int32 × (Nat → Int32) × (Nat → Nat) => (wDp ad o pa ka (fx 0) (sx 0)) ++ ((wOf o (x 0) (y 0)) ++ ((wFl x r cI cZ cQ w q d T st re rc (nI nz)) ++ ((wSt y rp rw rt cI cQ P n Wi Ti (nI nt)) ++ ((wPl pa pb cI u9.2.1) ++ (wPl ka kb cI ke))))))) (va_A ((wDp ad o pa ka (fx 0) (sx 0)) ++ ((wOf o (x 0) (y 0)) ++ ((wFl x r cI cZ cQ w q d T st re rc (nI nz)) ++ ((wSt y rp rw rt cI cQ P n Wi Ti (nI nt)) ++ ((wPl pa pb cI zo) ++ (wPl ka kb cI ke)))))) sz)) (rx_X (fun (E9 : String) (x9 : Unit) => E9 = "java/lang/IllegalStateException" ∧ sRecall nt n d g gk 1 0 g) D (va_A ((wDp ad o pa ka (fx 0) (sx 0)) ++ ((wOf o (x 0) (y 0)) ++ ((wFl x r cI cZ cQ w q d T st re rc (nI nz)) ++ ((wSt y rp rw rt cI cQ P n Wi Ti (nI nt)) ++ ((wPl pa pb cI zo) ++ (wPl ka kb cI ke)))))) sz) (fun x9 : Unit => (wDp ad o pa ka (fx 0) (sx 0)) ++ ((wOf o (x 0) (y 0)) ++ ((wFl x r cI cZ cQ w q d T st re rc (nI nz)) ++ ((wSt y rp rw rt cI cQ P n Wi Ti (nI nt)) ++ ((wPl pa pb cI zo) ++ (wPl ka kb cI ke))))))) 1 6 (va_A ((wDp ad o pa ka (fx 0) (sx 0)) ++ ((wOf o (x 0) (y 0)) ++ ((wFl x r cI cZ cQ w q d T st re rc (nI nz)) ++ ((wSt y rp rw rt cI cQ P n Wi Ti (nI nt)) ++ ((wPl pa pb cI zo) ++ (wPl ka kb cI ke)))))) sz) := by
  refine vx_ofW (cc := cX7_recall) (maxL := 3) (ret := (some .int)) (by decide) rfl ?_
  intro p e s m args below meth c s₁ B hml ht hv
  obtain ⟨rfl, ⟨hsz, hP, hSt, hD0⟩, hDc, hZ⟩ := hv
  change W p l e ({ frames := 6, cells := 1, slots := 6, locals := 82 } : Room) s m _ below meth c s.heap [] 0 0 _ _
  have hx := B.exec
  have hb := B.bytes
  have hr := B.returns
  have hts : ∀ w ∈ ALL, w.before ([.ref ad] : List Value).toArray s = true := fun w h => atoms_spec (ws := (.code yX7_recall cX7_recall 3 (some .int) :: ALL)) B.pre w (List.mem_cons_of_mem _ h)
  have hown : s.vm.findClass RX7 = some m.cls := findClass_of_methodNamed B.named
  have hlocks := B.notSynchronized
  subst hsz
  have hD := hD0.self (sz := s.heap.size)
  clear hD0
  generalize hAe : va_A ((wDp ad o pa ka (fx 0) (sx 0)) ++ ((wOf o (x 0) (y 0)) ++ ((wFl x r cI cZ cQ w q d T st re rc (nI nz)) ++ ((wSt y rp rw rt cI cQ P n Wi Ti (nI nt)) ++ ((wPl pa pb cI zo) ++ (wPl ka kb cI ke)))))) s.heap.size = A at hD hZ ⊢
  have hA : ∀ q : Nat, s.heap.size ≤ q → A q := fun q h => by rw [← hAe]; exact Or.inr h
  have hS : va_S A s.heap s.heap [] := va_S.rf
  have hl := lv_entry ([.ref ad]) (n := 3) (Nat.le_of_ble_eq_true rfl)
  rw [lg_entry_eq]
  generalize (lg_sl ([.ref ad]) ++ List.replicate (3 - (lg_sl ([.ref ad])).length) Slot.unset).toArray = ls at hl ⊢
  have hl : lv_has ls 3 [(0, .ref ad)] := hl
  obtain ⟨H, hHe⟩ : ∃ H : Heap, H = s.heap := ⟨_, rfl⟩
  obtain ⟨locs, hLe⟩ : ∃ L : List Loc, L = [] := ⟨_, rfl⟩
  have hP : va_P D vwCl ((wDp ad o pa ka (fx 0) (sx 0)) ++ ((wOf o (x 0) (y 0)) ++ ((wFl x r cI cZ cQ w q d T st re rc (nI nz)) ++ ((wSt y rp rw rt cI cQ P n Wi Ti (nI nt)) ++ ((wPl pa pb cI zo) ++ (wPl ka kb cI ke)))))) H := by rw [hHe]; exact hP
  have hS : va_S A s.heap H locs := by rw [hHe, hLe]; exact hS
  refine W.eqHL hHe hLe ?_
  refine lv_iconst (v := nI 0) hx hb dX7_recall_0 (by decide) ?_
  refine lv_istore_n (lv' := [(1, .int (nI 0)), (0, .ref ad)]) hx hb dX7_recall_1 rfl hl (by decide) rfl (fun ls hl => ?_)
  have L2 : ∀ (n9 : Nat) (i : Nat), (i ≤ nt) → (∀ t, t < i → gk t = 7 ∨ n t ≤ d (gk t)) → (nt - i) < n9 → ∀ (H : Heap) (locs : List Loc), va_P D vwCl ((wDp ad o pa ka (fx 0) (sx 0)) ++ ((wOf o (x 0) (y 0)) ++ ((wFl x r cI cZ cQ w q d T st re rc (nI nz)) ++ ((wSt y rp rw rt cI cQ P n Wi Ti (nI nt)) ++ ((wPl pa pb cI zo) ++ (wPl ka kb cI ke)))))) H → va_D A ((wDp ad o pa ka (fx 0) (sx 0)) ++ ((wOf o (x 0) (y 0)) ++ ((wFl x r cI cZ cQ w q d T st re rc (nI nz)) ++ ((wSt y rp rw rt cI cQ P n Wi Ti (nI nt)) ++ ((wPl pa pb cI zo) ++ (wPl ka kb cI ke)))))) → va_S A s.heap H locs → ∀ (ls : Array Slot), lv_has ls 3 [(0, .ref ad), (1, .int (nI i))] → W p l e ({ frames := 6, cells := 1, slots := 6, locals := 82 } : Room) s m ([.ref ad] : List Value).toArray below meth c H locs 0 0 (vx_MQ below (va_Qi (fun (r9 : Int32) (u9 : Int32 × (Nat → Int32) × (Nat → Nat)) => (r9 = u9.1) ∧ (sRecall nt n d g gk 0 u9.1 u9.2.2) ∧ (pOK 7 u9.2.1 u9.2.2)) (rw_B D A (fun u9 : Int32 × (Nat → Int32) × (Nat → Nat) => (wDp ad o pa ka (fx 0) (sx 0)) ++ ((wOf o (x 0) (y 0)) ++ ((wFl x r cI cZ cQ w q d T st re rc (nI nz)) ++ ((wSt y rp rw rt cI cQ P n Wi Ti (nI nt)) ++ ((wPl pa pb cI u9.2.1) ++ (wPl ka kb cI ke))))))) A) (rx_X (fun (E9 : String) (x9 : Unit) => E9 = "java/lang/IllegalStateException" ∧ sRecall nt n d g gk 1 0 g) D A (fun x9 : Unit => (wDp ad o pa ka (fx 0) (sx 0)) ++ ((wOf o (x 0) (y 0)) ++ ((wFl x r cI cZ cQ w q d T st re rc (nI nz)) ++ ((wSt y rp rw rt cI cQ P n Wi Ti (nI nt)) ++ ((wPl pa pb cI zo) ++ (wPl ka kb cI ke))))))) ([.ref ad] : List Value).toArray s 1 6 A) (F0 m 2 ls []) := by
    intro n9
    induction n9 with
    | zero =>
      intro i hi hall hm
      exact absurd hm (by omega)
    | succ n9 ih =>
      intro i hi hall hm H locs hP hD hS ls hl
      have ih_L2 := ih
      refine lv_iload_n hx hb dX7_recall_2 rfl (lv_at hl 1 rfl) ?_
      refine lv_aload_n hx hb dX7_recall_3 rfl (lv_at hl 0 rfl) ?_
      refine va_get (D := D) (ci := 7) (v := .ref o) (C := RX7) (T := TX7) (N := 5) hx hb hts tu_X7 hown hSt.1 hP 0 rfl rfl 0 (by decide) (hts _ t1_208) (fun _ h9 => h9) rfl dX7_recall_4 ?_
      refine va_getN (D := D) (ci := 3) (v := .ref (y 0)) (C := RX3) (T := TX3) (N := 2) hx hb hts tu_X3 hown hSt.1 hP 1 rfl rfl 1 (by decide) (nf_9 hSt.2) (fun _ h9 => h9) rfl dX7_recall_7 ?_
      refine va_getN (D := D) (ci := 5) (v := .int (nI nt)) (C := RX5) (T := TX5) (N := 5) hx hb hts tu_X5 hown hSt.1 hP 16 rfl rfl 4 (by decide) (nf_1 hSt.2) (fun _ h9 => h9) rfl dX7_recall_10 ?_
      refine lv_icmp_ge (tgt := 58) hx hb dX7_recall_13 (by decide) (fun c_1 => ?_) (fun c_1 => ?_)
      · have c_1 := z_le (by omega) (by omega) c_1
        refine lv_aload_n hx hb dX7_recall_58 rfl (lv_at hl 0 rfl) ?_
        refine va_get (D := D) (ci := 7) (v := .ref pa) (C := RX7) (T := TX7) (N := 5) hx hb hts tu_X7 hown hSt.1 hP 0 rfl rfl 1 (by decide) (hts _ t1_209) (fun _ h9 => h9) rfl dX7_recall_59 ?_
        refine lv_aload_n hx hb dX7_recall_62 rfl (lv_at hl 0 rfl) ?_
        refine va_get (D := D) (ci := 7) (v := .ref ka) (C := RX7) (T := TX7) (N := 5) hx hb hts tu_X7 hown hSt.1 hP 0 rfl rfl 2 (by decide) (hts _ t1_210) (fun _ h9 => h9) rfl dX7_recall_63 ?_
        refine ro_V (As := [.ref ka]) (rest := []) (v := nI (cnt (fun k => !decide (zo k = ke k)) 7)) ⟨hx, hb, hml, hown, hts⟩ (c_X4_countOtherwise l D cI cZ cQ cJ pa pb zo ka kb ke) (gV t3_68 t3_69 t3_70 t1_5 t3_71) rfl rfl hd_X4_countOtherwise ⟨Nat.le_of_ble_eq_true rfl, Nat.le_of_ble_eq_true rfl⟩ (hP.sub (ws' := (wPl pa pb cI zo) ++ (wPl ka kb cI ke)) [42, 43, 44, 45] rfl) hSt (va_recv hSt.1 hP (ci := 4) (q0 := 42) rfl rfl) rfl hl.1 rfl (Nat.le_of_ble_eq_true rfl) dX7_recall_66 (Nat.zero_le _) (Nat.zero_le _) ?_
        refine lv_istore_n (lv' := [(1, .int (nI (cnt (fun k => !decide (zo k = ke k)) 7))), (0, .ref ad)]) hx hb dX7_recall_69 rfl hl (by decide) rfl (fun ls hl => ?_)
        refine lv_aload_n hx hb dX7_recall_70 rfl (lv_at hl 1 rfl) ?_
        refine va_get (D := D) (ci := 7) (v := .ref pa) (C := RX7) (T := TX7) (N := 5) hx hb hts tu_X7 hown hSt.1 hP 0 rfl rfl 1 (by decide) (hts _ t1_209) (fun _ h9 => h9) rfl dX7_recall_71 ?_
        refine lv_aload_n hx hb dX7_recall_74 rfl (lv_at hl 1 rfl) ?_
        refine va_get (D := D) (ci := 7) (v := .ref ka) (C := RX7) (T := TX7) (N := 5) hx hb hts tu_X7 hown hSt.1 hP 0 rfl rfl 2 (by decide) (hts _ t1_210) (fun _ h9 => h9) rfl dX7_recall_75 ?_
        refine rw_v (wr := (wDp ad o pa ka (fx 0) (sx 0)) ++ ((wOf o (x 0) (y 0)) ++ ((wFl x r cI cZ cQ w q d T st re rc (nI nz)) ++ (wSt y rp rw rt cI cQ P n Wi Ti (nI nt))))) (w_V (As := [.ref ka]) ⟨hx, hb, hml, hown, hts⟩ (c_X4_layLike l D cI cZ cQ cJ pa pb zo ka kb ke H.size) (gV t1_228 t1_229 t1_230 t1_5 t1_231) rfl rfl hd_X4_layLike ⟨Nat.le_of_ble_eq_true rfl, Nat.le_of_ble_eq_true rfl⟩ (rw_pre hP hD hSt [42, 43, 44, 45] rfl (by decide)) (va_recv hSt.1 hP (ci := 4) (q0 := 42) rfl rfl) rfl hl.1 (rest := []) rfl (Nat.le_of_ble_eq_true rfl) dX7_recall_78 ⟨Nat.le_of_ble_eq_true rfl, Nat.le_of_ble_eq_true rfl⟩) hP hD hS hA [42, 43, 44, 45] [0, 1, 2, 3, 4, 5, 6, 7, 8, 9, 10, 11, 12, 13, 14, 15, 16, 17, 18, 19, 20, 21, 22, 23, 24, 25, 26, 27, 28, 29, 30, 31, 32, 33, 34, 35, 36, 37, 38, 39, 40, 41] rfl rfl (by decide) (by decide) (fun  u_2 H locs hw9 hP hD hS => ?_)
        have hP : va_P D vwCl (((wDp ad o pa ka (fx 0) (sx 0)) ++ ((wOf o (x 0) (y 0)) ++ ((wFl x r cI cZ cQ w q d T st re rc (nI nz)) ++ (wSt y rp rw rt cI cQ P n Wi Ti (nI nt))))) ++ ((wPl pa pb cI ke) ++ (wPl ka kb cI ke))) H := hP
        have hD : va_D A (((wDp ad o pa ka (fx 0) (sx 0)) ++ ((wOf o (x 0) (y 0)) ++ ((wFl x r cI cZ cQ w q d T st re rc (nI nz)) ++ (wSt y rp rw rt cI cQ P n Wi Ti (nI nt))))) ++ ((wPl pa pb cI ke) ++ (wPl ka kb cI ke))) := hD
        refine lv_iload_n hx hb dX7_recall_81 rfl (lv_at hl 0 rfl) ?_
        have hP9 : va_P D vwCl ((wDp ad o pa ka (fx 0) (sx 0)) ++ ((wOf o (x 0) (y 0)) ++ ((wFl x r cI cZ cQ w q d T st re rc (nI nz)) ++ ((wSt y rp rw rt cI cQ P n Wi Ti (nI nt)) ++ ((wPl pa pb cI ke) ++ (wPl ka kb cI ke)))))) H := (show va_P D vwCl ((wDp ad o pa ka (fx 0) (sx 0)) ++ ((wOf o (x 0) (y 0)) ++ ((wFl x r cI cZ cQ w q d T st re rc (nI nz)) ++ ((wSt y rp rw rt cI cQ P n Wi Ti (nI nt)) ++ ((wPl pa pb cI ke) ++ (wPl ka kb cI ke)))))) H from hP)
        have hD9 : va_D A ((wDp ad o pa ka (fx 0) (sx 0)) ++ ((wOf o (x 0) (y 0)) ++ ((wFl x r cI cZ cQ w q d T st re rc (nI nz)) ++ ((wSt y rp rw rt cI cQ P n Wi Ti (nI nt)) ++ ((wPl pa pb cI ke) ++ (wPl ka kb cI ke)))))) := (show va_D A ((wDp ad o pa ka (fx 0) (sx 0)) ++ ((wOf o (x 0) (y 0)) ++ ((wFl x r cI cZ cQ w q d T st re rc (nI nz)) ++ ((wSt y rp rw rt cI cQ P n Wi Ti (nI nt)) ++ ((wPl pa pb cI ke) ++ (wPl ka kb cI ke)))))) from hD)
        have g_3 : sRecall nt n d g gk 0 (nI (cnt (fun k => !decide (zo k = ke k)) 7)) gk := Or.inr ⟨fun t ht => hall t (by omega), rfl, by rw [cnt_other hzo hke (vG_7 hvg hnz) (vG_7 hvk hnz) (vG_out hvg) (vG_out hvk) hnt], rfl⟩
        have g_4 : pOK 7 ke gk := hke
        refine W.widen (k := 1) (n := 6) (by omega) (by omega) ?_
        exact vx_ret (W.iret (v := nI (cnt (fun k => !decide (zo k = ke k)) 7)) hx hb hr (fun t9 ht9 hW9 => ⟨⟨nI (cnt (fun k => !decide (zo k = ke k)) 7), (nI (cnt (fun k => !decide (zo k = ke k)) 7), ke, gk), rfl, ⟨rfl, g_3, g_4⟩, by rw [ht9]; exact hP9, hD9⟩, hS.F ht9⟩) hS.2.2 dX7_recall_82)
      · have c_1 := z_nle (by omega) (by omega) c_1
        refine lv_aload_n hx hb dX7_recall_16 rfl (lv_at hl 0 rfl) ?_
        refine va_get (D := D) (ci := 7) (v := .ref ka) (C := RX7) (T := TX7) (N := 5) hx hb hts tu_X7 hown hSt.1 hP 0 rfl rfl 2 (by decide) (hts _ t1_210) (fun _ h9 => h9) rfl dX7_recall_17 ?_
        refine lv_iload_n hx hb dX7_recall_20 rfl (lv_at hl 1 rfl) ?_
        refine ro_V (As := [.int (nI i)]) (rest := []) (v := ke i) ⟨hx, hb, hml, hown, hts⟩ (c_X4_zoneWith l D cI cZ cQ cJ ka kb ke i (by first | assumption | omega)) (gV t2_238 t2_37 t2_38 t1_5 t2_39) rfl rfl hd_X4_zoneWith ⟨Nat.le_of_ble_eq_true rfl, Nat.le_of_ble_eq_true rfl⟩ (hP.sub (ws' := wPl ka kb cI ke) [44, 45] rfl) hSt (va_recv hSt.1 hP (ci := 4) (q0 := 44) rfl rfl) rfl hl.1 rfl (Nat.le_of_ble_eq_true rfl) dX7_recall_21 (Nat.zero_le _) (Nat.zero_le _) ?_
        refine lv_as (y := zI (gk i)) (hke i (by omega)) ?_
        refine lv_istore_n (lv' := [(2, .int (zI (gk i))), (0, .ref ad), (1, .int (nI i))]) hx hb dX7_recall_24 rfl hl (by decide) rfl (fun ls hl => ?_)
        refine lv_iload_n hx hb dX7_recall_25 rfl (lv_at hl 0 rfl) ?_
        refine lv_iconst (v := (-1 : Int32)) hx hb dX7_recall_26 (by decide) ?_
        refine lv_icmp_eq (tgt := 52) hx hb dX7_recall_27 (by decide) (fun c_5 => ?_) (fun c_5 => ?_)
        · refine lv_iinc (v := nI (i + 1)) (lv' := [(1, .int (nI (i + 1))), (2, .int (zI (gk i))), (0, .ref ad)]) hx hb dX7_recall_52 hl (k := 2) rfl (z_inc _) (by decide) rfl (fun ls hl => ?_)
          refine lv_goto (tgt := 2) hx hb dX7_recall_55 (by decide) ?_
          exact ih_L2 (i + 1) (by omega) (fun t ht => if e : t = i then (by rw [e]; exact Or.inl (by have h7 := zI_none c_5; have h8 := vG_7 hvk hnz i (by omega); omega)) else hall t (by omega)) (by omega) _ _ hP hD hS _ (lv_sub hl [2, 0] rfl)
        · have hg9 := zI_some c_5
          refine lv_aload_n hx hb dX7_recall_30 rfl (lv_at hl 1 rfl) ?_
          refine va_get (D := D) (ci := 7) (v := .ref o) (C := RX7) (T := TX7) (N := 5) hx hb hts tu_X7 hown hSt.1 hP 0 rfl rfl 0 (by decide) (hts _ t1_208) (fun _ h9 => h9) rfl dX7_recall_31 ?_
          refine lv_iload_n hx hb dX7_recall_34 rfl (lv_at hl 2 rfl) ?_
          refine lv_iload_n hx hb dX7_recall_35 rfl (lv_at hl 0 rfl) ?_
          refine lv_as (y := nI (gk i)) (zI_lt hg9) ?_
          refine ro_V (As := [.int (nI i), .int (nI (gk i))]) (rest := []) (v := bI (n i ≤ d (gk i))) ⟨hx, hb, hml, hown, hts⟩ (c_X3_fits l D cI cZ cQ cJ o x r w q d T st re rc (nI nz) y rp rw rt P n Wi Ti (nI nt) i (gk i) (by first | assumption | omega) (by first | assumption | omega)) (gV t3_34 t2_21 t2_22 t1_2 t2_23) rfl rfl hd_X3_fits ⟨Nat.le_of_ble_eq_true rfl, Nat.le_of_ble_eq_true rfl⟩ (hP.sub (ws' := (wOf o (x 0) (y 0)) ++ ((wFl x r cI cZ cQ w q d T st re rc (nI nz)) ++ (wSt y rp rw rt cI cQ P n Wi Ti (nI nt)))) [1, 2, 3, 4, 5, 6, 7, 8, 9, 10, 11, 12, 13, 14, 15, 16, 17, 18, 19, 20, 21, 22, 23, 24, 25, 26, 27, 28, 29, 30, 31, 32, 33, 34, 35, 36, 37, 38, 39, 40, 41] rfl) hSt (va_recv hSt.1 hP (ci := 3) (q0 := 1) rfl rfl) rfl hl.1 rfl (Nat.le_of_ble_eq_true rfl) dX7_recall_36 (Nat.zero_le _) (Nat.zero_le _) ?_
          refine lv_if_ne (tgt := 52) hx hb dX7_recall_39 (by decide) (fun c_6 => ?_) (fun c_6 => ?_)
          · have c_6 := bI_n0.mp c_6
            refine lv_iinc (v := nI (i + 1)) (lv' := [(1, .int (nI (i + 1))), (2, .int (zI (gk i))), (0, .ref ad)]) hx hb dX7_recall_52 hl (k := 2) rfl (z_inc _) (by decide) rfl (fun ls hl => ?_)
            refine lv_goto (tgt := 2) hx hb dX7_recall_55 (by decide) ?_
            exact ih_L2 (i + 1) (by omega) (fun t ht => if e : t = i then (by rw [e]; exact Or.inr c_6) else hall t (by omega)) (by omega) _ _ hP hD hS _ (lv_sub hl [2, 0] rfl)
          · have c_6 := bI_0.mp c_6
            have hP9 : va_P D vwCl ((wDp ad o pa ka (fx 0) (sx 0)) ++ ((wOf o (x 0) (y 0)) ++ ((wFl x r cI cZ cQ w q d T st re rc (nI nz)) ++ ((wSt y rp rw rt cI cQ P n Wi Ti (nI nt)) ++ ((wPl pa pb cI zo) ++ (wPl ka kb cI ke)))))) H := hP
            have hD9 : va_D A ((wDp ad o pa ka (fx 0) (sx 0)) ++ ((wOf o (x 0) (y 0)) ++ ((wFl x r cI cZ cQ w q d T st re rc (nI nz)) ++ ((wSt y rp rw rt cI cQ P n Wi Ti (nI nt)) ++ ((wPl pa pb cI zo) ++ (wPl ka kb cI ke)))))) := hD
            exact tw_2 hx hb hfl hown hts hSt hDc hZ hS (hl.1.trans hml.symm) 16 rfl dX7_recall_42 dX7_recall_45 dX7_recall_46 dX7_recall_48 dX7_recall_51 ht (Nat.le_of_ble_eq_true rfl) (Nat.le_of_ble_eq_true rfl) (Nat.le_of_ble_eq_true rfl) (Nat.le_of_ble_eq_true rfl) hlocks (rx_new (u := ()) (⟨rfl, Or.inl ⟨fun q9 => (q9 i (by omega)).elim (fun q8 => by omega) c_6, rfl, rfl⟩⟩) hP9 hD9 hS) hS.2.2 (Nat.le_of_ble_eq_true rfl) (Nat.le_of_ble_eq_true rfl)
  exact L2 _ 0 (by omega) (fun t ht => absurd ht (by omega)) (Nat.lt_succ_self _) _ _ hP hD hS _ (lv_sub hl [1, 0] rfl)
set_option maxHeartbeats 4000000 in
set_option maxRecDepth 100000 in
theorem c_X7_zones (l : Launch) (D : va_G) (cI cZ cQ cJ : ClassId) (ad : Nat) (o : Nat) (pa : Nat) (ka : Nat) (fx : Nat → Nat) (sx : Nat → Nat) (x : Nat → Nat) (r : Nat → Nat) (w : Nat → Int32) (q : Nat → Int32) (d : Nat → Int32) (T : Nat → Nat → Int32) (st : Nat → Int32) (re : Nat → Int32) (rc : Int32) (nz : Nat) (y : Nat → Nat)  : Met l yX7_zones (.code yX7_zones cX7_zones 1 (some .int) :: ALL) ({ frames := 0, cells := 0, slots := 0, locals := 0 } : Room) (va_Pc [.ref ad] (ro_P D cI cZ cQ cJ ((wDp ad o pa ka (fx 0) (sx 0)) ++ ((wOf o (x 0) (y 0)) ++ (wFl x r cI cZ cQ w q d T st re rc (nI nz)))))) (vp_Si (fun r9 => r9 = nI nz)) 0 0 (fun _ => False) := by
  refine Met.ofW (cc := cX7_zones) (maxL := 1) (ret := (some .int)) (by decide) rfl ?_
  intro p e s m args below meth c s₁ B hml hv
  obtain ⟨rfl, hP, hSt⟩ := hv
  have hx := B.exec
  have hb := B.bytes
  have hr := B.returns
  have hts : ∀ w ∈ ALL, w.before ([.ref ad] : List Value).toArray s = true := fun w h => atoms_spec (ws := (.code yX7_zones cX7_zones 1 (some .int) :: ALL)) B.pre w (List.mem_cons_of_mem _ h)
  have hown : s.vm.findClass RX7 = some m.cls := findClass_of_methodNamed B.named
  have hlocks := B.notSynchronized
  have hl := lv_entry ([.ref ad]) (n := 1) (Nat.le_of_ble_eq_true rfl)
  rw [lg_entry_eq]
  generalize (lg_sl ([.ref ad]) ++ List.replicate (1 - (lg_sl ([.ref ad])).length) Slot.unset).toArray = ls at hl ⊢
  have hl : lv_has ls 1 [(0, .ref ad)] := hl
  refine lv_aload_n hx hb dX7_zones_0 rfl (lv_at hl 0 rfl) ?_
  refine va_get (D := D) (ci := 7) (v := .ref o) (C := RX7) (T := TX7) (N := 5) hx hb hts tu_X7 hown hSt.1 hP 0 rfl rfl 0 (by decide) (hts _ t1_208) (fun _ h9 => h9) rfl dX7_zones_1 ?_
  refine va_getN (D := D) (ci := 3) (v := .ref (x 0)) (C := RX3) (T := TX3) (N := 2) hx hb hts tu_X3 hown hSt.1 hP 1 rfl rfl 0 (by decide) (nf_7 hSt.2) (fun _ h9 => h9) rfl dX7_zones_4 ?_
  refine va_getN (D := D) (ci := 1) (v := .int (nI nz)) (C := RX1) (T := TX1) (N := 8) hx hb hts tu_X1 hown hSt.1 hP 2 rfl rfl 7 (by decide) (nf_8 hSt.2) (fun _ h9 => h9) rfl dX7_zones_7 ?_
  exact W.iret (v := nI nz) hx hb hr (fun t9 ht9 hW9 => ⟨_, rfl, (rfl), ht9⟩) (fun q h => nomatch h) dX7_zones_10
set_option maxHeartbeats 4000000 in
set_option maxRecDepth 100000 in
theorem c_X7_teams (l : Launch) (D : va_G) (cI cZ cQ cJ : ClassId) (ad : Nat) (o : Nat) (pa : Nat) (ka : Nat) (fx : Nat → Nat) (sx : Nat → Nat) (x : Nat → Nat) (y : Nat → Nat) (rp : Nat → Nat) (rw : Nat → Nat) (rt : Nat → Nat) (P : Nat → Nat → Int32) (n : Nat → Int32) (Wi : Nat → Nat → Int32) (Ti : Nat → Nat → Int32) (nt : Nat)  : Met l yX7_teams (.code yX7_teams cX7_teams 1 (some .int) :: ALL) ({ frames := 0, cells := 0, slots := 0, locals := 0 } : Room) (va_Pc [.ref ad] (ro_P D cI cZ cQ cJ ((wDp ad o pa ka (fx 0) (sx 0)) ++ ((wOf o (x 0) (y 0)) ++ (wSt y rp rw rt cI cQ P n Wi Ti (nI nt)))))) (vp_Si (fun r9 => r9 = nI nt)) 0 0 (fun _ => False) := by
  refine Met.ofW (cc := cX7_teams) (maxL := 1) (ret := (some .int)) (by decide) rfl ?_
  intro p e s m args below meth c s₁ B hml hv
  obtain ⟨rfl, hP, hSt⟩ := hv
  have hx := B.exec
  have hb := B.bytes
  have hr := B.returns
  have hts : ∀ w ∈ ALL, w.before ([.ref ad] : List Value).toArray s = true := fun w h => atoms_spec (ws := (.code yX7_teams cX7_teams 1 (some .int) :: ALL)) B.pre w (List.mem_cons_of_mem _ h)
  have hown : s.vm.findClass RX7 = some m.cls := findClass_of_methodNamed B.named
  have hlocks := B.notSynchronized
  have hl := lv_entry ([.ref ad]) (n := 1) (Nat.le_of_ble_eq_true rfl)
  rw [lg_entry_eq]
  generalize (lg_sl ([.ref ad]) ++ List.replicate (1 - (lg_sl ([.ref ad])).length) Slot.unset).toArray = ls at hl ⊢
  have hl : lv_has ls 1 [(0, .ref ad)] := hl
  refine lv_aload_n hx hb dX7_teams_0 rfl (lv_at hl 0 rfl) ?_
  refine va_get (D := D) (ci := 7) (v := .ref o) (C := RX7) (T := TX7) (N := 5) hx hb hts tu_X7 hown hSt.1 hP 0 rfl rfl 0 (by decide) (hts _ t1_208) (fun _ h9 => h9) rfl dX7_teams_1 ?_
  refine va_getN (D := D) (ci := 3) (v := .ref (y 0)) (C := RX3) (T := TX3) (N := 2) hx hb hts tu_X3 hown hSt.1 hP 1 rfl rfl 1 (by decide) (nf_9 hSt.2) (fun _ h9 => h9) rfl dX7_teams_4 ?_
  refine va_getN (D := D) (ci := 5) (v := .int (nI nt)) (C := RX5) (T := TX5) (N := 5) hx hb hts tu_X5 hown hSt.1 hP 2 rfl rfl 4 (by decide) (nf_1 hSt.2) (fun _ h9 => h9) rfl dX7_teams_7 ?_
  exact W.iret (v := nI nt) hx hb hr (fun t9 ht9 hW9 => ⟨_, rfl, (rfl), ht9⟩) (fun q h => nomatch h) dX7_teams_10
set_option maxHeartbeats 4000000 in
set_option maxRecDepth 100000 in
theorem c_X7_need (l : Launch) (D : va_G) (cI cZ cQ cJ : ClassId) (ad : Nat) (o : Nat) (pa : Nat) (ka : Nat) (fx : Nat → Nat) (sx : Nat → Nat) (x : Nat → Nat) (y : Nat → Nat) (rp : Nat → Nat) (rw : Nat → Nat) (rt : Nat → Nat) (P : Nat → Nat → Int32) (n : Nat → Int32) (Wi : Nat → Nat → Int32) (Ti : Nat → Nat → Int32) (nt : Nat) (t : Int32) (sz : Nat) (hnt : nt ≤ 7) (hfl : l.stackTraces = false) : vx_Met l yX7_need (.code yX7_need cX7_need 2 (some .int) :: ALL) ({ frames := 7, cells := 1, slots := 6, locals := 103 } : Room) (va_Pc [.ref ad, .int t] (rx_P D cI cZ cQ cJ ((wDp ad o pa ka (fx 0) (sx 0)) ++ ((wOf o (x 0) (y 0)) ++ (wSt y rp rw rt cI cQ P n Wi Ti (nI nt)))) sz)) (va_Qi (fun (r9 : Int32) (u9 : Int32) => (r9 = u9) ∧ (sOne nt n t 0 u9)) (rw_B D (va_A ((wDp ad o pa ka (fx 0) (sx 0)) ++ ((wOf o (x 0) (y 0)) ++ (wSt y rp rw rt cI cQ P n Wi Ti (nI nt)))) sz) (fun u9 : Int32 => (wDp ad o pa ka (fx 0) (sx 0)) ++ ((wOf o (x 0) (y 0)) ++ (wSt y rp rw rt cI cQ P n Wi Ti (nI nt))))) (va_A ((wDp ad o pa ka (fx 0) (sx 0)) ++ ((wOf o (x 0) (y 0)) ++ (wSt y rp rw rt cI cQ P n Wi Ti (nI nt)))) sz)) (rx_X (fun (E9 : String) (x9 : Unit) => E9 = "java/lang/IndexOutOfBoundsException" ∧ sOne nt n t 1 0) D (va_A ((wDp ad o pa ka (fx 0) (sx 0)) ++ ((wOf o (x 0) (y 0)) ++ (wSt y rp rw rt cI cQ P n Wi Ti (nI nt)))) sz) (fun x9 : Unit => (wDp ad o pa ka (fx 0) (sx 0)) ++ ((wOf o (x 0) (y 0)) ++ (wSt y rp rw rt cI cQ P n Wi Ti (nI nt))))) 1 6 (va_A ((wDp ad o pa ka (fx 0) (sx 0)) ++ ((wOf o (x 0) (y 0)) ++ (wSt y rp rw rt cI cQ P n Wi Ti (nI nt)))) sz) := by
  refine vx_ofW (cc := cX7_need) (maxL := 2) (ret := (some .int)) (by decide) rfl ?_
  intro p e s m args below meth c s₁ B hml ht hv
  obtain ⟨rfl, ⟨hsz, hP, hSt, hD0⟩, hDc, hZ⟩ := hv
  change W p l e ({ frames := 7, cells := 1, slots := 6, locals := 103 } : Room) s m _ below meth c s.heap [] 0 0 _ _
  have hx := B.exec
  have hb := B.bytes
  have hr := B.returns
  have hts : ∀ w ∈ ALL, w.before ([.ref ad, .int t] : List Value).toArray s = true := fun w h => atoms_spec (ws := (.code yX7_need cX7_need 2 (some .int) :: ALL)) B.pre w (List.mem_cons_of_mem _ h)
  have hown : s.vm.findClass RX7 = some m.cls := findClass_of_methodNamed B.named
  have hlocks := B.notSynchronized
  subst hsz
  have hD := hD0.self (sz := s.heap.size)
  clear hD0
  generalize hAe : va_A ((wDp ad o pa ka (fx 0) (sx 0)) ++ ((wOf o (x 0) (y 0)) ++ (wSt y rp rw rt cI cQ P n Wi Ti (nI nt)))) s.heap.size = A at hD hZ ⊢
  have hA : ∀ q : Nat, s.heap.size ≤ q → A q := fun q h => by rw [← hAe]; exact Or.inr h
  have hS : va_S A s.heap s.heap [] := va_S.rf
  have hl := lv_entry ([.ref ad, .int t]) (n := 2) (Nat.le_of_ble_eq_true rfl)
  rw [lg_entry_eq]
  generalize (lg_sl ([.ref ad, .int t]) ++ List.replicate (2 - (lg_sl ([.ref ad, .int t])).length) Slot.unset).toArray = ls at hl ⊢
  have hl : lv_has ls 2 [(0, .ref ad), (1, .int t)] := hl
  obtain ⟨H, hHe⟩ : ∃ H : Heap, H = s.heap := ⟨_, rfl⟩
  obtain ⟨locs, hLe⟩ : ∃ L : List Loc, L = [] := ⟨_, rfl⟩
  have hP : va_P D vwCl ((wDp ad o pa ka (fx 0) (sx 0)) ++ ((wOf o (x 0) (y 0)) ++ (wSt y rp rw rt cI cQ P n Wi Ti (nI nt)))) H := by rw [hHe]; exact hP
  have hS : va_S A s.heap H locs := by rw [hHe, hLe]; exact hS
  refine W.eqHL hHe hLe ?_
  refine lv_aload_n hx hb dX7_need_0 rfl (lv_at hl 0 rfl) ?_
  refine lv_iload_n hx hb dX7_need_1 rfl (lv_at hl 1 rfl) ?_
  refine rx_v (wr := ([] : va_W)) (w_VX (As := [.int t]) ⟨hx, hb, hml, hown, hts⟩ (c_X7_requireTeam l D cI cZ cQ cJ ad o pa ka fx sx x y rp rw rt P n Wi Ti nt t H.size (by first | assumption | omega) (by first | assumption | omega)) (gV t2_228 t2_230 t0_9 t1_1 t2_231) rfl rfl hd_X7_requireTeam ⟨Nat.le_of_ble_eq_true rfl, Nat.le_of_ble_eq_true rfl⟩ (rx_pre hP hD hSt hDc hZ hS hA [0, 1, 2, 3, 4, 5, 6, 7, 8, 9, 10, 11, 12, 13, 14, 15, 16, 17, 18, 19, 20, 21, 22, 23, 24, 25, 26, 27] rfl (by decide)) (va_recv hSt.1 hP (ci := 7) (q0 := 0) rfl rfl) rfl hl.1 (rest := []) rfl (Nat.le_of_ble_eq_true rfl) dX7_need_2 ⟨Nat.le_of_ble_eq_true rfl, Nat.le_of_ble_eq_true rfl⟩) hP hD hS hA [0, 1, 2, 3, 4, 5, 6, 7, 8, 9, 10, 11, 12, 13, 14, 15, 16, 17, 18, 19, 20, 21, 22, 23, 24, 25, 26, 27] [] rfl rfl (by decide) (by decide) (fun E9 ce9 q9 x9 H locs hx9 hP hD hS hc91 hc92 hc93 => ?_) (fun  u_1 H locs hw9 hP hD hS => ?_)
  · have hx9 : E9 = "java/lang/IndexOutOfBoundsException" ∧ ¬ inN t nt := hx9
    have hP : va_P D vwCl ((wDp ad o pa ka (fx 0) (sx 0)) ++ ((wOf o (x 0) (y 0)) ++ (wSt y rp rw rt cI cQ P n Wi Ti (nI nt)))) H := hP
    have hD : va_D A ((wDp ad o pa ka (fx 0) (sx 0)) ++ ((wOf o (x 0) (y 0)) ++ (wSt y rp rw rt cI cQ P n Wi Ti (nI nt)))) := hD
    have hP9 : va_P D vwCl ((wDp ad o pa ka (fx 0) (sx 0)) ++ ((wOf o (x 0) (y 0)) ++ (wSt y rp rw rt cI cQ P n Wi Ti (nI nt)))) H := hP
    have hD9 : va_D A ((wDp ad o pa ka (fx 0) (sx 0)) ++ ((wOf o (x 0) (y 0)) ++ (wSt y rp rw rt cI cQ P n Wi Ti (nI nt)))) := hD
    exact vx_widen (k := 1) (n := 6) (by omega) (by omega) (rx_on (u := ()) ht hlocks (⟨hx9.1, Or.inl ⟨hx9.2, rfl⟩⟩) hP9 hD9 hS hc91 hc92 hc93 (Nat.le_refl _) (Nat.le_refl _))
  · have f_2 := hw9
    have hin : inN t nt := f_2
    have hP : va_P D vwCl ((wDp ad o pa ka (fx 0) (sx 0)) ++ ((wOf o (x 0) (y 0)) ++ (wSt y rp rw rt cI cQ P n Wi Ti (nI nt)))) H := hP
    have hD : va_D A ((wDp ad o pa ka (fx 0) (sx 0)) ++ ((wOf o (x 0) (y 0)) ++ (wSt y rp rw rt cI cQ P n Wi Ti (nI nt)))) := hD
    obtain ⟨tt, h_tt, rfl⟩ := hin
    refine lv_aload_n hx hb dX7_need_5 rfl (lv_at hl 0 rfl) ?_
    refine va_get (D := D) (ci := 7) (v := .ref o) (C := RX7) (T := TX7) (N := 5) hx hb hts tu_X7 hown hSt.1 hP 0 rfl rfl 0 (by decide) (hts _ t1_208) (fun _ h9 => h9) rfl dX7_need_6 ?_
    refine va_getN (D := D) (ci := 3) (v := .ref (y 0)) (C := RX3) (T := TX3) (N := 2) hx hb hts tu_X3 hown hSt.1 hP 1 rfl rfl 1 (by decide) (nf_9 hSt.2) (fun _ h9 => h9) rfl dX7_need_9 ?_
    refine va_getN (D := D) (ci := 5) (v := .ref (y 2)) (C := RX5) (T := TX5) (N := 5) hx hb hts tu_X5 hown hSt.1 hP 2 rfl rfl 1 (by decide) (nf_10 hSt.2) (fun _ h9 => h9) rfl dX7_need_12 ?_
    refine lv_iload_n hx hb dX7_need_15 rfl (lv_at hl 1 rfl) ?_
    refine r_iald hx hb hSt.1 hP 4 0 rfl rfl (k := tt) (by omega) (by omega) dX7_need_16 ?_
    have hP9 : va_P D vwCl ((wDp ad o pa ka (fx 0) (sx 0)) ++ ((wOf o (x 0) (y 0)) ++ (wSt y rp rw rt cI cQ P n Wi Ti (nI nt)))) H := hP
    have hD9 : va_D A ((wDp ad o pa ka (fx 0) (sx 0)) ++ ((wOf o (x 0) (y 0)) ++ (wSt y rp rw rt cI cQ P n Wi Ti (nI nt)))) := hD
    have g_3 : sOne nt n (nI tt) 0 (n tt) := Or.inr ⟨⟨tt, h_tt, rfl⟩, rfl, by rw [nIc (by omega)]⟩
    refine W.widen (k := 1) (n := 6) (by omega) (by omega) ?_
    exact vx_ret (W.iret (v := n tt) hx hb hr (fun t9 ht9 hW9 => ⟨⟨n tt, (n tt), rfl, ⟨rfl, g_3⟩, by rw [ht9]; exact hP9, hD9⟩, hS.F ht9⟩) hS.2.2 dX7_need_17)
theorem ndN_le {p : Nat → Nat} {c : Nat} (h : ∀ j, j < 5 → p j ≤ c) : ndN p ≤ c := by
  have h0 := h 0 (by omega); have h1 := h 1 (by omega); have h2 := h 2 (by omega); have h3 := h 3 (by omega); have h4 := h 4 (by omega)
  exact Nat.max_le.mpr ⟨h0, Nat.max_le.mpr ⟨h1, Nat.max_le.mpr ⟨h2, Nat.max_le.mpr ⟨h3, h4⟩⟩⟩⟩
set_option maxHeartbeats 4000000 in
set_option maxRecDepth 100000 in
theorem c_X7_share (l : Launch) (D : va_G) (cI cZ cQ cJ : ClassId) (ad : Nat) (o : Nat) (pa : Nat) (ka : Nat) (fx : Nat → Nat) (sx : Nat → Nat) (x : Nat → Nat) (y : Nat → Nat) (rp : Nat → Nat) (rw : Nat → Nat) (rt : Nat → Nat) (P : Nat → Nat → Int32) (n : Nat → Int32) (Wi : Nat → Nat → Int32) (Ti : Nat → Nat → Int32) (nt : Nat) (pp : Nat → Nat → Nat) (t : Int32) (sz : Nat) (hnt : nt ≤ 7) (hpp : ∀ t, t < nt → ∀ j, j < 5 → P t j = nI (pp t j) ∧ pp t j ≤ 60) (hnn : ∀ t, t < nt → n t = nI (ndN (pp t))) (hfl : l.stackTraces = false) : vx_Met l yX7_share (.code yX7_share cX7_share 2 (some .int) :: ALL) ({ frames := 7, cells := 1, slots := 6, locals := 103 } : Room) (va_Pc [.ref ad, .int t] (rx_P D cI cZ cQ cJ ((wDp ad o pa ka (fx 0) (sx 0)) ++ ((wOf o (x 0) (y 0)) ++ (wSt y rp rw rt cI cQ P n Wi Ti (nI nt)))) sz)) (va_Qi (fun (r9 : Int32) (u9 : Int32) => (r9 = u9) ∧ (sOne nt (fun u9 => nI (shN (pp u9))) t 0 u9)) (rw_B D (va_A ((wDp ad o pa ka (fx 0) (sx 0)) ++ ((wOf o (x 0) (y 0)) ++ (wSt y rp rw rt cI cQ P n Wi Ti (nI nt)))) sz) (fun u9 : Int32 => (wDp ad o pa ka (fx 0) (sx 0)) ++ ((wOf o (x 0) (y 0)) ++ (wSt y rp rw rt cI cQ P n Wi Ti (nI nt))))) (va_A ((wDp ad o pa ka (fx 0) (sx 0)) ++ ((wOf o (x 0) (y 0)) ++ (wSt y rp rw rt cI cQ P n Wi Ti (nI nt)))) sz)) (rx_X (fun (E9 : String) (x9 : Unit) => E9 = "java/lang/IndexOutOfBoundsException" ∧ sOne nt (fun u9 => nI (shN (pp u9))) t 1 0) D (va_A ((wDp ad o pa ka (fx 0) (sx 0)) ++ ((wOf o (x 0) (y 0)) ++ (wSt y rp rw rt cI cQ P n Wi Ti (nI nt)))) sz) (fun x9 : Unit => (wDp ad o pa ka (fx 0) (sx 0)) ++ ((wOf o (x 0) (y 0)) ++ (wSt y rp rw rt cI cQ P n Wi Ti (nI nt))))) 1 6 (va_A ((wDp ad o pa ka (fx 0) (sx 0)) ++ ((wOf o (x 0) (y 0)) ++ (wSt y rp rw rt cI cQ P n Wi Ti (nI nt)))) sz) := by
  refine vx_ofW (cc := cX7_share) (maxL := 2) (ret := (some .int)) (by decide) rfl ?_
  intro p e s m args below meth c s₁ B hml ht hv
  obtain ⟨rfl, ⟨hsz, hP, hSt, hD0⟩, hDc, hZ⟩ := hv
  change W p l e ({ frames := 7, cells := 1, slots := 6, locals := 103 } : Room) s m _ below meth c s.heap [] 0 0 _ _
  have hx := B.exec
  have hb := B.bytes
  have hr := B.returns
  have hts : ∀ w ∈ ALL, w.before ([.ref ad, .int t] : List Value).toArray s = true := fun w h => atoms_spec (ws := (.code yX7_share cX7_share 2 (some .int) :: ALL)) B.pre w (List.mem_cons_of_mem _ h)
  have hown : s.vm.findClass RX7 = some m.cls := findClass_of_methodNamed B.named
  have hlocks := B.notSynchronized
  subst hsz
  have hD := hD0.self (sz := s.heap.size)
  clear hD0
  generalize hAe : va_A ((wDp ad o pa ka (fx 0) (sx 0)) ++ ((wOf o (x 0) (y 0)) ++ (wSt y rp rw rt cI cQ P n Wi Ti (nI nt)))) s.heap.size = A at hD hZ ⊢
  have hA : ∀ q : Nat, s.heap.size ≤ q → A q := fun q h => by rw [← hAe]; exact Or.inr h
  have hS : va_S A s.heap s.heap [] := va_S.rf
  have hl := lv_entry ([.ref ad, .int t]) (n := 2) (Nat.le_of_ble_eq_true rfl)
  rw [lg_entry_eq]
  generalize (lg_sl ([.ref ad, .int t]) ++ List.replicate (2 - (lg_sl ([.ref ad, .int t])).length) Slot.unset).toArray = ls at hl ⊢
  have hl : lv_has ls 2 [(0, .ref ad), (1, .int t)] := hl
  obtain ⟨H, hHe⟩ : ∃ H : Heap, H = s.heap := ⟨_, rfl⟩
  obtain ⟨locs, hLe⟩ : ∃ L : List Loc, L = [] := ⟨_, rfl⟩
  have hP : va_P D vwCl ((wDp ad o pa ka (fx 0) (sx 0)) ++ ((wOf o (x 0) (y 0)) ++ (wSt y rp rw rt cI cQ P n Wi Ti (nI nt)))) H := by rw [hHe]; exact hP
  have hS : va_S A s.heap H locs := by rw [hHe, hLe]; exact hS
  refine W.eqHL hHe hLe ?_
  refine lv_aload_n hx hb dX7_share_0 rfl (lv_at hl 0 rfl) ?_
  refine lv_iload_n hx hb dX7_share_1 rfl (lv_at hl 1 rfl) ?_
  refine rx_v (wr := ([] : va_W)) (w_VX (As := [.int t]) ⟨hx, hb, hml, hown, hts⟩ (c_X7_requireTeam l D cI cZ cQ cJ ad o pa ka fx sx x y rp rw rt P n Wi Ti nt t H.size (by first | assumption | omega) (by first | assumption | omega)) (gV t2_228 t2_230 t0_9 t1_1 t2_231) rfl rfl hd_X7_requireTeam ⟨Nat.le_of_ble_eq_true rfl, Nat.le_of_ble_eq_true rfl⟩ (rx_pre hP hD hSt hDc hZ hS hA [0, 1, 2, 3, 4, 5, 6, 7, 8, 9, 10, 11, 12, 13, 14, 15, 16, 17, 18, 19, 20, 21, 22, 23, 24, 25, 26, 27] rfl (by decide)) (va_recv hSt.1 hP (ci := 7) (q0 := 0) rfl rfl) rfl hl.1 (rest := []) rfl (Nat.le_of_ble_eq_true rfl) dX7_share_2 ⟨Nat.le_of_ble_eq_true rfl, Nat.le_of_ble_eq_true rfl⟩) hP hD hS hA [0, 1, 2, 3, 4, 5, 6, 7, 8, 9, 10, 11, 12, 13, 14, 15, 16, 17, 18, 19, 20, 21, 22, 23, 24, 25, 26, 27] [] rfl rfl (by decide) (by decide) (fun E9 ce9 q9 x9 H locs hx9 hP hD hS hc91 hc92 hc93 => ?_) (fun  u_1 H locs hw9 hP hD hS => ?_)
  · have hx9 : E9 = "java/lang/IndexOutOfBoundsException" ∧ ¬ inN t nt := hx9
    have hP : va_P D vwCl ((wDp ad o pa ka (fx 0) (sx 0)) ++ ((wOf o (x 0) (y 0)) ++ (wSt y rp rw rt cI cQ P n Wi Ti (nI nt)))) H := hP
    have hD : va_D A ((wDp ad o pa ka (fx 0) (sx 0)) ++ ((wOf o (x 0) (y 0)) ++ (wSt y rp rw rt cI cQ P n Wi Ti (nI nt)))) := hD
    have hP9 : va_P D vwCl ((wDp ad o pa ka (fx 0) (sx 0)) ++ ((wOf o (x 0) (y 0)) ++ (wSt y rp rw rt cI cQ P n Wi Ti (nI nt)))) H := hP
    have hD9 : va_D A ((wDp ad o pa ka (fx 0) (sx 0)) ++ ((wOf o (x 0) (y 0)) ++ (wSt y rp rw rt cI cQ P n Wi Ti (nI nt)))) := hD
    exact vx_widen (k := 1) (n := 6) (by omega) (by omega) (rx_on (u := ()) ht hlocks (⟨hx9.1, Or.inl ⟨hx9.2, rfl⟩⟩) hP9 hD9 hS hc91 hc92 hc93 (Nat.le_refl _) (Nat.le_refl _))
  · have f_2 := hw9
    have hin : inN t nt := f_2
    have hP : va_P D vwCl ((wDp ad o pa ka (fx 0) (sx 0)) ++ ((wOf o (x 0) (y 0)) ++ (wSt y rp rw rt cI cQ P n Wi Ti (nI nt)))) H := hP
    have hD : va_D A ((wDp ad o pa ka (fx 0) (sx 0)) ++ ((wOf o (x 0) (y 0)) ++ (wSt y rp rw rt cI cQ P n Wi Ti (nI nt)))) := hD
    obtain ⟨tt, h_tt, rfl⟩ := hin
    refine lv_aload_n hx hb dX7_share_5 rfl (lv_at hl 0 rfl) ?_
    refine va_get (D := D) (ci := 7) (v := .ref o) (C := RX7) (T := TX7) (N := 5) hx hb hts tu_X7 hown hSt.1 hP 0 rfl rfl 0 (by decide) (hts _ t1_208) (fun _ h9 => h9) rfl dX7_share_6 ?_
    refine va_getN (D := D) (ci := 3) (v := .ref (y 0)) (C := RX3) (T := TX3) (N := 2) hx hb hts tu_X3 hown hSt.1 hP 1 rfl rfl 1 (by decide) (nf_9 hSt.2) (fun _ h9 => h9) rfl dX7_share_9 ?_
    refine lv_iload_n hx hb dX7_share_12 rfl (lv_at hl 1 rfl) ?_
    refine ro_V (As := [.int (nI tt)]) (rest := []) (v := nI (if (ndN (pp tt)) = 0 then 100 else sumT (pp tt) 5 * 100 / (5 * (ndN (pp tt))))) ⟨hx, hb, hml, hown, hts⟩ (c_X5_shareOf l D cI cZ cQ cJ y rp rw rt P n Wi Ti (nI nt) tt (ndN (pp tt)) pp (by first | assumption | omega) (hnn tt h_tt) (ndN_le (fun j hj => (hpp tt h_tt j hj).2)) (hpp tt h_tt)) (gV t3_164 t3_165 t3_166 t1_4 t3_167) rfl rfl hd_X5_shareOf ⟨Nat.le_of_ble_eq_true rfl, Nat.le_of_ble_eq_true rfl⟩ (hP.sub (ws' := wSt y rp rw rt cI cQ P n Wi Ti (nI nt)) [2, 3, 4, 5, 6, 7, 8, 9, 10, 11, 12, 13, 14, 15, 16, 17, 18, 19, 20, 21, 22, 23, 24, 25, 26, 27] rfl) hSt (va_recv hSt.1 hP (ci := 5) (q0 := 2) rfl rfl) rfl hl.1 rfl (Nat.le_of_ble_eq_true rfl) dX7_share_13 (Nat.le_of_ble_eq_true rfl) (Nat.le_of_ble_eq_true rfl) ?_
    have hP9 : va_P D vwCl ((wDp ad o pa ka (fx 0) (sx 0)) ++ ((wOf o (x 0) (y 0)) ++ (wSt y rp rw rt cI cQ P n Wi Ti (nI nt)))) H := hP
    have hD9 : va_D A ((wDp ad o pa ka (fx 0) (sx 0)) ++ ((wOf o (x 0) (y 0)) ++ (wSt y rp rw rt cI cQ P n Wi Ti (nI nt)))) := hD
    have g_3 : sOne nt (fun u9 => nI (shN (pp u9))) (nI tt) 0 (nI (if (ndN (pp tt)) = 0 then 100 else sumT (pp tt) 5 * 100 / (5 * (ndN (pp tt))))) := Or.inr ⟨⟨tt, h_tt, rfl⟩, rfl, by rw [nIc (by omega)]; rfl⟩
    refine W.widen (k := 1) (n := 6) (by omega) (by omega) ?_
    exact vx_ret (W.iret (v := nI (if (ndN (pp tt)) = 0 then 100 else sumT (pp tt) 5 * 100 / (5 * (ndN (pp tt))))) hx hb hr (fun t9 ht9 hW9 => ⟨⟨nI (if (ndN (pp tt)) = 0 then 100 else sumT (pp tt) 5 * 100 / (5 * (ndN (pp tt)))), (nI (if (ndN (pp tt)) = 0 then 100 else sumT (pp tt) 5 * 100 / (5 * (ndN (pp tt))))), rfl, ⟨rfl, g_3⟩, by rw [ht9]; exact hP9, hD9⟩, hS.F ht9⟩) hS.2.2 dX7_share_16)
set_option maxHeartbeats 4000000 in
set_option maxRecDepth 100000 in
theorem c_X7_zoneOf (l : Launch) (D : va_G) (cI cZ cQ cJ : ClassId) (ad : Nat) (o : Nat) (pa : Nat) (ka : Nat) (fx : Nat → Nat) (sx : Nat → Nat) (x : Nat → Nat) (y : Nat → Nat) (rp : Nat → Nat) (rw : Nat → Nat) (rt : Nat → Nat) (P : Nat → Nat → Int32) (n : Nat → Int32) (Wi : Nat → Nat → Int32) (Ti : Nat → Nat → Int32) (nt : Nat) (pb : Nat) (zo : Nat → Int32) (t : Int32) (sz : Nat) (hnt : nt ≤ 7) (hfl : l.stackTraces = false) : vx_Met l yX7_zoneOf (.code yX7_zoneOf cX7_zoneOf 2 (some .int) :: ALL) ({ frames := 7, cells := 1, slots := 6, locals := 103 } : Room) (va_Pc [.ref ad, .int t] (rx_P D cI cZ cQ cJ ((wDp ad o pa ka (fx 0) (sx 0)) ++ ((wOf o (x 0) (y 0)) ++ ((wSt y rp rw rt cI cQ P n Wi Ti (nI nt)) ++ (wPl pa pb cI zo)))) sz)) (va_Qi (fun (r9 : Int32) (u9 : Int32) => (r9 = u9) ∧ (sOne nt zo t 0 u9)) (rw_B D (va_A ((wDp ad o pa ka (fx 0) (sx 0)) ++ ((wOf o (x 0) (y 0)) ++ ((wSt y rp rw rt cI cQ P n Wi Ti (nI nt)) ++ (wPl pa pb cI zo)))) sz) (fun u9 : Int32 => (wDp ad o pa ka (fx 0) (sx 0)) ++ ((wOf o (x 0) (y 0)) ++ ((wSt y rp rw rt cI cQ P n Wi Ti (nI nt)) ++ (wPl pa pb cI zo))))) (va_A ((wDp ad o pa ka (fx 0) (sx 0)) ++ ((wOf o (x 0) (y 0)) ++ ((wSt y rp rw rt cI cQ P n Wi Ti (nI nt)) ++ (wPl pa pb cI zo)))) sz)) (rx_X (fun (E9 : String) (x9 : Unit) => E9 = "java/lang/IndexOutOfBoundsException" ∧ sOne nt zo t 1 0) D (va_A ((wDp ad o pa ka (fx 0) (sx 0)) ++ ((wOf o (x 0) (y 0)) ++ ((wSt y rp rw rt cI cQ P n Wi Ti (nI nt)) ++ (wPl pa pb cI zo)))) sz) (fun x9 : Unit => (wDp ad o pa ka (fx 0) (sx 0)) ++ ((wOf o (x 0) (y 0)) ++ ((wSt y rp rw rt cI cQ P n Wi Ti (nI nt)) ++ (wPl pa pb cI zo))))) 1 6 (va_A ((wDp ad o pa ka (fx 0) (sx 0)) ++ ((wOf o (x 0) (y 0)) ++ ((wSt y rp rw rt cI cQ P n Wi Ti (nI nt)) ++ (wPl pa pb cI zo)))) sz) := by
  refine vx_ofW (cc := cX7_zoneOf) (maxL := 2) (ret := (some .int)) (by decide) rfl ?_
  intro p e s m args below meth c s₁ B hml ht hv
  obtain ⟨rfl, ⟨hsz, hP, hSt, hD0⟩, hDc, hZ⟩ := hv
  change W p l e ({ frames := 7, cells := 1, slots := 6, locals := 103 } : Room) s m _ below meth c s.heap [] 0 0 _ _
  have hx := B.exec
  have hb := B.bytes
  have hr := B.returns
  have hts : ∀ w ∈ ALL, w.before ([.ref ad, .int t] : List Value).toArray s = true := fun w h => atoms_spec (ws := (.code yX7_zoneOf cX7_zoneOf 2 (some .int) :: ALL)) B.pre w (List.mem_cons_of_mem _ h)
  have hown : s.vm.findClass RX7 = some m.cls := findClass_of_methodNamed B.named
  have hlocks := B.notSynchronized
  subst hsz
  have hD := hD0.self (sz := s.heap.size)
  clear hD0
  generalize hAe : va_A ((wDp ad o pa ka (fx 0) (sx 0)) ++ ((wOf o (x 0) (y 0)) ++ ((wSt y rp rw rt cI cQ P n Wi Ti (nI nt)) ++ (wPl pa pb cI zo)))) s.heap.size = A at hD hZ ⊢
  have hA : ∀ q : Nat, s.heap.size ≤ q → A q := fun q h => by rw [← hAe]; exact Or.inr h
  have hS : va_S A s.heap s.heap [] := va_S.rf
  have hl := lv_entry ([.ref ad, .int t]) (n := 2) (Nat.le_of_ble_eq_true rfl)
  rw [lg_entry_eq]
  generalize (lg_sl ([.ref ad, .int t]) ++ List.replicate (2 - (lg_sl ([.ref ad, .int t])).length) Slot.unset).toArray = ls at hl ⊢
  have hl : lv_has ls 2 [(0, .ref ad), (1, .int t)] := hl
  obtain ⟨H, hHe⟩ : ∃ H : Heap, H = s.heap := ⟨_, rfl⟩
  obtain ⟨locs, hLe⟩ : ∃ L : List Loc, L = [] := ⟨_, rfl⟩
  have hP : va_P D vwCl ((wDp ad o pa ka (fx 0) (sx 0)) ++ ((wOf o (x 0) (y 0)) ++ ((wSt y rp rw rt cI cQ P n Wi Ti (nI nt)) ++ (wPl pa pb cI zo)))) H := by rw [hHe]; exact hP
  have hS : va_S A s.heap H locs := by rw [hHe, hLe]; exact hS
  refine W.eqHL hHe hLe ?_
  refine lv_aload_n hx hb dX7_zoneOf_0 rfl (lv_at hl 0 rfl) ?_
  refine lv_iload_n hx hb dX7_zoneOf_1 rfl (lv_at hl 1 rfl) ?_
  refine rx_v (wr := wPl pa pb cI zo) (w_VX (As := [.int t]) ⟨hx, hb, hml, hown, hts⟩ (c_X7_requireTeam l D cI cZ cQ cJ ad o pa ka fx sx x y rp rw rt P n Wi Ti nt t H.size (by first | assumption | omega) (by first | assumption | omega)) (gV t2_228 t2_230 t0_9 t1_1 t2_231) rfl rfl hd_X7_requireTeam ⟨Nat.le_of_ble_eq_true rfl, Nat.le_of_ble_eq_true rfl⟩ (rx_pre hP hD hSt hDc hZ hS hA [0, 1, 2, 3, 4, 5, 6, 7, 8, 9, 10, 11, 12, 13, 14, 15, 16, 17, 18, 19, 20, 21, 22, 23, 24, 25, 26, 27] rfl (by decide)) (va_recv hSt.1 hP (ci := 7) (q0 := 0) rfl rfl) rfl hl.1 (rest := []) rfl (Nat.le_of_ble_eq_true rfl) dX7_zoneOf_2 ⟨Nat.le_of_ble_eq_true rfl, Nat.le_of_ble_eq_true rfl⟩) hP hD hS hA [0, 1, 2, 3, 4, 5, 6, 7, 8, 9, 10, 11, 12, 13, 14, 15, 16, 17, 18, 19, 20, 21, 22, 23, 24, 25, 26, 27] [28, 29] rfl rfl (by decide) (by decide) (fun E9 ce9 q9 x9 H locs hx9 hP hD hS hc91 hc92 hc93 => ?_) (fun  u_1 H locs hw9 hP hD hS => ?_)
  · have hx9 : E9 = "java/lang/IndexOutOfBoundsException" ∧ ¬ inN t nt := hx9
    have hP : va_P D vwCl ((wPl pa pb cI zo) ++ ((wDp ad o pa ka (fx 0) (sx 0)) ++ ((wOf o (x 0) (y 0)) ++ (wSt y rp rw rt cI cQ P n Wi Ti (nI nt))))) H := hP
    have hD : va_D A ((wPl pa pb cI zo) ++ ((wDp ad o pa ka (fx 0) (sx 0)) ++ ((wOf o (x 0) (y 0)) ++ (wSt y rp rw rt cI cQ P n Wi Ti (nI nt))))) := hD
    have hP9 : va_P D vwCl ((wDp ad o pa ka (fx 0) (sx 0)) ++ ((wOf o (x 0) (y 0)) ++ ((wSt y rp rw rt cI cQ P n Wi Ti (nI nt)) ++ (wPl pa pb cI zo)))) H := (hP.sub (ws' := (wDp ad o pa ka (fx 0) (sx 0)) ++ ((wOf o (x 0) (y 0)) ++ ((wSt y rp rw rt cI cQ P n Wi Ti (nI nt)) ++ (wPl pa pb cI zo)))) [2, 3, 4, 5, 6, 7, 8, 9, 10, 11, 12, 13, 14, 15, 16, 17, 18, 19, 20, 21, 22, 23, 24, 25, 26, 27, 28, 29, 0, 1] rfl)
    have hD9 : va_D A ((wDp ad o pa ka (fx 0) (sx 0)) ++ ((wOf o (x 0) (y 0)) ++ ((wSt y rp rw rt cI cQ P n Wi Ti (nI nt)) ++ (wPl pa pb cI zo)))) := (hD.sub (ws' := (wDp ad o pa ka (fx 0) (sx 0)) ++ ((wOf o (x 0) (y 0)) ++ ((wSt y rp rw rt cI cQ P n Wi Ti (nI nt)) ++ (wPl pa pb cI zo)))) [2, 3, 4, 5, 6, 7, 8, 9, 10, 11, 12, 13, 14, 15, 16, 17, 18, 19, 20, 21, 22, 23, 24, 25, 26, 27, 28, 29, 0, 1] (by decide) rfl)
    exact vx_widen (k := 1) (n := 6) (by omega) (by omega) (rx_on (u := ()) ht hlocks (⟨hx9.1, Or.inl ⟨hx9.2, rfl⟩⟩) hP9 hD9 hS hc91 hc92 hc93 (Nat.le_refl _) (Nat.le_refl _))
  · have f_2 := hw9
    have hin : inN t nt := f_2
    have hP : va_P D vwCl ((wPl pa pb cI zo) ++ ((wDp ad o pa ka (fx 0) (sx 0)) ++ ((wOf o (x 0) (y 0)) ++ (wSt y rp rw rt cI cQ P n Wi Ti (nI nt))))) H := hP
    have hD : va_D A ((wPl pa pb cI zo) ++ ((wDp ad o pa ka (fx 0) (sx 0)) ++ ((wOf o (x 0) (y 0)) ++ (wSt y rp rw rt cI cQ P n Wi Ti (nI nt))))) := hD
    obtain ⟨tt, h_tt, rfl⟩ := hin
    refine lv_aload_n hx hb dX7_zoneOf_5 rfl (lv_at hl 0 rfl) ?_
    refine va_get (D := D) (ci := 7) (v := .ref pa) (C := RX7) (T := TX7) (N := 5) hx hb hts tu_X7 hown hSt.1 hP 2 rfl rfl 1 (by decide) (hts _ t1_209) (fun _ h9 => h9) rfl dX7_zoneOf_6 ?_
    refine lv_iload_n hx hb dX7_zoneOf_9 rfl (lv_at hl 1 rfl) ?_
    refine ro_V (As := [.int (nI tt)]) (rest := []) (v := zo tt) ⟨hx, hb, hml, hown, hts⟩ (c_X4_zoneWith l D cI cZ cQ cJ pa pb zo tt (by first | assumption | omega)) (gV t2_238 t2_37 t2_38 t1_5 t2_39) rfl rfl hd_X4_zoneWith ⟨Nat.le_of_ble_eq_true rfl, Nat.le_of_ble_eq_true rfl⟩ (hP.sub (ws' := wPl pa pb cI zo) [0, 1] rfl) hSt (va_recv hSt.1 hP (ci := 4) (q0 := 0) rfl rfl) rfl hl.1 rfl (Nat.le_of_ble_eq_true rfl) dX7_zoneOf_10 (Nat.le_of_ble_eq_true rfl) (Nat.le_of_ble_eq_true rfl) ?_
    have hP9 : va_P D vwCl ((wDp ad o pa ka (fx 0) (sx 0)) ++ ((wOf o (x 0) (y 0)) ++ ((wSt y rp rw rt cI cQ P n Wi Ti (nI nt)) ++ (wPl pa pb cI zo)))) H := (hP.sub (ws' := (wDp ad o pa ka (fx 0) (sx 0)) ++ ((wOf o (x 0) (y 0)) ++ ((wSt y rp rw rt cI cQ P n Wi Ti (nI nt)) ++ (wPl pa pb cI zo)))) [2, 3, 4, 5, 6, 7, 8, 9, 10, 11, 12, 13, 14, 15, 16, 17, 18, 19, 20, 21, 22, 23, 24, 25, 26, 27, 28, 29, 0, 1] rfl)
    have hD9 : va_D A ((wDp ad o pa ka (fx 0) (sx 0)) ++ ((wOf o (x 0) (y 0)) ++ ((wSt y rp rw rt cI cQ P n Wi Ti (nI nt)) ++ (wPl pa pb cI zo)))) := (hD.sub (ws' := (wDp ad o pa ka (fx 0) (sx 0)) ++ ((wOf o (x 0) (y 0)) ++ ((wSt y rp rw rt cI cQ P n Wi Ti (nI nt)) ++ (wPl pa pb cI zo)))) [2, 3, 4, 5, 6, 7, 8, 9, 10, 11, 12, 13, 14, 15, 16, 17, 18, 19, 20, 21, 22, 23, 24, 25, 26, 27, 28, 29, 0, 1] (by decide) rfl)
    have g_3 : sOne nt zo (nI tt) 0 (zo tt) := Or.inr ⟨⟨tt, h_tt, rfl⟩, rfl, by rw [nIc (by omega)]⟩
    refine W.widen (k := 1) (n := 6) (by omega) (by omega) ?_
    exact vx_ret (W.iret (v := zo tt) hx hb hr (fun t9 ht9 hW9 => ⟨⟨zo tt, (zo tt), rfl, ⟨rfl, g_3⟩, by rw [ht9]; exact hP9, hD9⟩, hS.F ht9⟩) hS.2.2 dX7_zoneOf_13)
set_option maxHeartbeats 4000000 in
set_option maxRecDepth 100000 in
theorem c_X7_teamIn (l : Launch) (D : va_G) (cI cZ cQ cJ : ClassId) (ad : Nat) (o : Nat) (pa : Nat) (ka : Nat) (fx : Nat → Nat) (sx : Nat → Nat) (x : Nat → Nat) (r : Nat → Nat) (w : Nat → Int32) (q : Nat → Int32) (d : Nat → Int32) (T : Nat → Nat → Int32) (st : Nat → Int32) (re : Nat → Int32) (rc : Int32) (nz : Nat) (y : Nat → Nat) (pb : Nat) (zo : Nat → Int32) (z : Int32) (sz : Nat) (hnz : nz ≤ 7) (hfl : l.stackTraces = false) : vx_Met l yX7_teamIn (.code yX7_teamIn cX7_teamIn 2 (some .int) :: ALL) ({ frames := 7, cells := 1, slots := 6, locals := 103 } : Room) (va_Pc [.ref ad, .int z] (rx_P D cI cZ cQ cJ ((wDp ad o pa ka (fx 0) (sx 0)) ++ ((wOf o (x 0) (y 0)) ++ ((wFl x r cI cZ cQ w q d T st re rc (nI nz)) ++ (wPl pa pb cI zo)))) sz)) (va_Qi (fun (r9 : Int32) (u9 : Int32) => (r9 = u9) ∧ (sOne nz (fun u9 => tAt zo (nI u9)) z 0 u9)) (rw_B D (va_A ((wDp ad o pa ka (fx 0) (sx 0)) ++ ((wOf o (x 0) (y 0)) ++ ((wFl x r cI cZ cQ w q d T st re rc (nI nz)) ++ (wPl pa pb cI zo)))) sz) (fun u9 : Int32 => (wDp ad o pa ka (fx 0) (sx 0)) ++ ((wOf o (x 0) (y 0)) ++ ((wFl x r cI cZ cQ w q d T st re rc (nI nz)) ++ (wPl pa pb cI zo))))) (va_A ((wDp ad o pa ka (fx 0) (sx 0)) ++ ((wOf o (x 0) (y 0)) ++ ((wFl x r cI cZ cQ w q d T st re rc (nI nz)) ++ (wPl pa pb cI zo)))) sz)) (rx_X (fun (E9 : String) (x9 : Unit) => E9 = "java/lang/IndexOutOfBoundsException" ∧ sOne nz (fun u9 => tAt zo (nI u9)) z 1 0) D (va_A ((wDp ad o pa ka (fx 0) (sx 0)) ++ ((wOf o (x 0) (y 0)) ++ ((wFl x r cI cZ cQ w q d T st re rc (nI nz)) ++ (wPl pa pb cI zo)))) sz) (fun x9 : Unit => (wDp ad o pa ka (fx 0) (sx 0)) ++ ((wOf o (x 0) (y 0)) ++ ((wFl x r cI cZ cQ w q d T st re rc (nI nz)) ++ (wPl pa pb cI zo))))) 1 6 (va_A ((wDp ad o pa ka (fx 0) (sx 0)) ++ ((wOf o (x 0) (y 0)) ++ ((wFl x r cI cZ cQ w q d T st re rc (nI nz)) ++ (wPl pa pb cI zo)))) sz) := by
  refine vx_ofW (cc := cX7_teamIn) (maxL := 2) (ret := (some .int)) (by decide) rfl ?_
  intro p e s m args below meth c s₁ B hml ht hv
  obtain ⟨rfl, ⟨hsz, hP, hSt, hD0⟩, hDc, hZ⟩ := hv
  change W p l e ({ frames := 7, cells := 1, slots := 6, locals := 103 } : Room) s m _ below meth c s.heap [] 0 0 _ _
  have hx := B.exec
  have hb := B.bytes
  have hr := B.returns
  have hts : ∀ w ∈ ALL, w.before ([.ref ad, .int z] : List Value).toArray s = true := fun w h => atoms_spec (ws := (.code yX7_teamIn cX7_teamIn 2 (some .int) :: ALL)) B.pre w (List.mem_cons_of_mem _ h)
  have hown : s.vm.findClass RX7 = some m.cls := findClass_of_methodNamed B.named
  have hlocks := B.notSynchronized
  subst hsz
  have hD := hD0.self (sz := s.heap.size)
  clear hD0
  generalize hAe : va_A ((wDp ad o pa ka (fx 0) (sx 0)) ++ ((wOf o (x 0) (y 0)) ++ ((wFl x r cI cZ cQ w q d T st re rc (nI nz)) ++ (wPl pa pb cI zo)))) s.heap.size = A at hD hZ ⊢
  have hA : ∀ q : Nat, s.heap.size ≤ q → A q := fun q h => by rw [← hAe]; exact Or.inr h
  have hS : va_S A s.heap s.heap [] := va_S.rf
  have hl := lv_entry ([.ref ad, .int z]) (n := 2) (Nat.le_of_ble_eq_true rfl)
  rw [lg_entry_eq]
  generalize (lg_sl ([.ref ad, .int z]) ++ List.replicate (2 - (lg_sl ([.ref ad, .int z])).length) Slot.unset).toArray = ls at hl ⊢
  have hl : lv_has ls 2 [(0, .ref ad), (1, .int z)] := hl
  obtain ⟨H, hHe⟩ : ∃ H : Heap, H = s.heap := ⟨_, rfl⟩
  obtain ⟨locs, hLe⟩ : ∃ L : List Loc, L = [] := ⟨_, rfl⟩
  have hP : va_P D vwCl ((wDp ad o pa ka (fx 0) (sx 0)) ++ ((wOf o (x 0) (y 0)) ++ ((wFl x r cI cZ cQ w q d T st re rc (nI nz)) ++ (wPl pa pb cI zo)))) H := by rw [hHe]; exact hP
  have hS : va_S A s.heap H locs := by rw [hHe, hLe]; exact hS
  refine W.eqHL hHe hLe ?_
  refine lv_aload_n hx hb dX7_teamIn_0 rfl (lv_at hl 0 rfl) ?_
  refine lv_iload_n hx hb dX7_teamIn_1 rfl (lv_at hl 1 rfl) ?_
  refine rx_v (wr := wPl pa pb cI zo) (w_VX (As := [.int z]) ⟨hx, hb, hml, hown, hts⟩ (c_X7_requireZone l D cI cZ cQ cJ ad o pa ka fx sx x r w q d T st re rc nz y z H.size (by first | assumption | omega) (by first | assumption | omega)) (gV t2_214 t2_216 t0_8 t1_1 t2_217) rfl rfl hd_X7_requireZone ⟨Nat.le_of_ble_eq_true rfl, Nat.le_of_ble_eq_true rfl⟩ (rx_pre hP hD hSt hDc hZ hS hA [0, 1, 2, 3, 4, 5, 6, 7, 8, 9, 10, 11, 12, 13, 14, 15] rfl (by decide)) (va_recv hSt.1 hP (ci := 7) (q0 := 0) rfl rfl) rfl hl.1 (rest := []) rfl (Nat.le_of_ble_eq_true rfl) dX7_teamIn_2 ⟨Nat.le_of_ble_eq_true rfl, Nat.le_of_ble_eq_true rfl⟩) hP hD hS hA [0, 1, 2, 3, 4, 5, 6, 7, 8, 9, 10, 11, 12, 13, 14, 15] [16, 17] rfl rfl (by decide) (by decide) (fun E9 ce9 q9 x9 H locs hx9 hP hD hS hc91 hc92 hc93 => ?_) (fun  u_1 H locs hw9 hP hD hS => ?_)
  · have hx9 : E9 = "java/lang/IndexOutOfBoundsException" ∧ ¬ inN z nz := hx9
    have hP : va_P D vwCl ((wPl pa pb cI zo) ++ ((wDp ad o pa ka (fx 0) (sx 0)) ++ ((wOf o (x 0) (y 0)) ++ (wFl x r cI cZ cQ w q d T st re rc (nI nz))))) H := hP
    have hD : va_D A ((wPl pa pb cI zo) ++ ((wDp ad o pa ka (fx 0) (sx 0)) ++ ((wOf o (x 0) (y 0)) ++ (wFl x r cI cZ cQ w q d T st re rc (nI nz))))) := hD
    have hP9 : va_P D vwCl ((wDp ad o pa ka (fx 0) (sx 0)) ++ ((wOf o (x 0) (y 0)) ++ ((wFl x r cI cZ cQ w q d T st re rc (nI nz)) ++ (wPl pa pb cI zo)))) H := (hP.sub (ws' := (wDp ad o pa ka (fx 0) (sx 0)) ++ ((wOf o (x 0) (y 0)) ++ ((wFl x r cI cZ cQ w q d T st re rc (nI nz)) ++ (wPl pa pb cI zo)))) [2, 3, 4, 5, 6, 7, 8, 9, 10, 11, 12, 13, 14, 15, 16, 17, 0, 1] rfl)
    have hD9 : va_D A ((wDp ad o pa ka (fx 0) (sx 0)) ++ ((wOf o (x 0) (y 0)) ++ ((wFl x r cI cZ cQ w q d T st re rc (nI nz)) ++ (wPl pa pb cI zo)))) := (hD.sub (ws' := (wDp ad o pa ka (fx 0) (sx 0)) ++ ((wOf o (x 0) (y 0)) ++ ((wFl x r cI cZ cQ w q d T st re rc (nI nz)) ++ (wPl pa pb cI zo)))) [2, 3, 4, 5, 6, 7, 8, 9, 10, 11, 12, 13, 14, 15, 16, 17, 0, 1] (by decide) rfl)
    exact vx_widen (k := 1) (n := 6) (by omega) (by omega) (rx_on (u := ()) ht hlocks (⟨hx9.1, Or.inl ⟨hx9.2, rfl⟩⟩) hP9 hD9 hS hc91 hc92 hc93 (Nat.le_refl _) (Nat.le_refl _))
  · have f_2 := hw9
    have hin : inN z nz := f_2
    have hP : va_P D vwCl ((wPl pa pb cI zo) ++ ((wDp ad o pa ka (fx 0) (sx 0)) ++ ((wOf o (x 0) (y 0)) ++ (wFl x r cI cZ cQ w q d T st re rc (nI nz))))) H := hP
    have hD : va_D A ((wPl pa pb cI zo) ++ ((wDp ad o pa ka (fx 0) (sx 0)) ++ ((wOf o (x 0) (y 0)) ++ (wFl x r cI cZ cQ w q d T st re rc (nI nz))))) := hD
    obtain ⟨zz, h_zz, rfl⟩ := hin
    refine lv_aload_n hx hb dX7_teamIn_5 rfl (lv_at hl 0 rfl) ?_
    refine va_get (D := D) (ci := 7) (v := .ref pa) (C := RX7) (T := TX7) (N := 5) hx hb hts tu_X7 hown hSt.1 hP 2 rfl rfl 1 (by decide) (hts _ t1_209) (fun _ h9 => h9) rfl dX7_teamIn_6 ?_
    refine lv_iload_n hx hb dX7_teamIn_9 rfl (lv_at hl 1 rfl) ?_
    refine ro_V (As := [.int (nI zz)]) (rest := []) (v := tAt zo (nI zz)) ⟨hx, hb, hml, hown, hts⟩ (c_X4_teamAt l D cI cZ cQ cJ pa pb zo (nI zz)) (gV t2_219 t2_220 t2_221 t1_5 t2_222) rfl rfl hd_X4_teamAt ⟨Nat.le_of_ble_eq_true rfl, Nat.le_of_ble_eq_true rfl⟩ (hP.sub (ws' := wPl pa pb cI zo) [0, 1] rfl) hSt (va_recv hSt.1 hP (ci := 4) (q0 := 0) rfl rfl) rfl hl.1 rfl (Nat.le_of_ble_eq_true rfl) dX7_teamIn_10 (Nat.le_of_ble_eq_true rfl) (Nat.le_of_ble_eq_true rfl) ?_
    have hP9 : va_P D vwCl ((wDp ad o pa ka (fx 0) (sx 0)) ++ ((wOf o (x 0) (y 0)) ++ ((wFl x r cI cZ cQ w q d T st re rc (nI nz)) ++ (wPl pa pb cI zo)))) H := (hP.sub (ws' := (wDp ad o pa ka (fx 0) (sx 0)) ++ ((wOf o (x 0) (y 0)) ++ ((wFl x r cI cZ cQ w q d T st re rc (nI nz)) ++ (wPl pa pb cI zo)))) [2, 3, 4, 5, 6, 7, 8, 9, 10, 11, 12, 13, 14, 15, 16, 17, 0, 1] rfl)
    have hD9 : va_D A ((wDp ad o pa ka (fx 0) (sx 0)) ++ ((wOf o (x 0) (y 0)) ++ ((wFl x r cI cZ cQ w q d T st re rc (nI nz)) ++ (wPl pa pb cI zo)))) := (hD.sub (ws' := (wDp ad o pa ka (fx 0) (sx 0)) ++ ((wOf o (x 0) (y 0)) ++ ((wFl x r cI cZ cQ w q d T st re rc (nI nz)) ++ (wPl pa pb cI zo)))) [2, 3, 4, 5, 6, 7, 8, 9, 10, 11, 12, 13, 14, 15, 16, 17, 0, 1] (by decide) rfl)
    have g_3 : sOne nz (fun u9 => tAt zo (nI u9)) (nI zz) 0 (tAt zo (nI zz)) := Or.inr ⟨⟨zz, h_zz, rfl⟩, rfl, by rw [nIc (by omega)]⟩
    refine W.widen (k := 1) (n := 6) (by omega) (by omega) ?_
    exact vx_ret (W.iret (v := tAt zo (nI zz)) hx hb hr (fun t9 ht9 hW9 => ⟨⟨tAt zo (nI zz), (tAt zo (nI zz)), rfl, ⟨rfl, g_3⟩, by rw [ht9]; exact hP9, hD9⟩, hS.F ht9⟩) hS.2.2 dX7_teamIn_13)
set_option maxHeartbeats 4000000 in
set_option maxRecDepth 100000 in
theorem c_X7_free (l : Launch) (D : va_G) (cI cZ cQ cJ : ClassId) (ad : Nat) (o : Nat) (pa : Nat) (ka : Nat) (fx : Nat → Nat) (sx : Nat → Nat) (x : Nat → Nat) (r : Nat → Nat) (w : Nat → Int32) (q : Nat → Int32) (d : Nat → Int32) (T : Nat → Nat → Int32) (st : Nat → Int32) (re : Nat → Int32) (rc : Int32) (nz : Nat) (y : Nat → Nat) (rp : Nat → Nat) (rw : Nat → Nat) (rt : Nat → Nat) (P : Nat → Nat → Int32) (n : Nat → Int32) (Wi : Nat → Nat → Int32) (Ti : Nat → Nat → Int32) (nt : Nat) (pb : Nat) (zo : Nat → Int32) (z : Int32) (j9 : Int32) (sz : Nat) (hnz : nz ≤ 7) (hfl : l.stackTraces = false) : vx_Met l yX7_free (.code yX7_free cX7_free 5 (some .int) :: ALL) ({ frames := 7, cells := 2, slots := 12, locals := 103 } : Room) (va_Pc [.ref ad, .int z, .int j9] (rx_P D cI cZ cQ cJ ((wDp ad o pa ka (fx 0) (sx 0)) ++ ((wOf o (x 0) (y 0)) ++ ((wFl x r cI cZ cQ w q d T st re rc (nI nz)) ++ ((wSt y rp rw rt cI cQ P n Wi Ti (nI nt)) ++ (wPl pa pb cI zo))))) sz)) (va_Qi (fun (r9 : Int32) (u9 : Int32) => (r9 = u9) ∧ (sFree nz d zo P z j9 0 u9)) (rw_B D (va_A ((wDp ad o pa ka (fx 0) (sx 0)) ++ ((wOf o (x 0) (y 0)) ++ ((wFl x r cI cZ cQ w q d T st re rc (nI nz)) ++ ((wSt y rp rw rt cI cQ P n Wi Ti (nI nt)) ++ (wPl pa pb cI zo))))) sz) (fun u9 : Int32 => (wDp ad o pa ka (fx 0) (sx 0)) ++ ((wOf o (x 0) (y 0)) ++ ((wFl x r cI cZ cQ w q d T st re rc (nI nz)) ++ ((wSt y rp rw rt cI cQ P n Wi Ti (nI nt)) ++ (wPl pa pb cI zo)))))) (va_A ((wDp ad o pa ka (fx 0) (sx 0)) ++ ((wOf o (x 0) (y 0)) ++ ((wFl x r cI cZ cQ w q d T st re rc (nI nz)) ++ ((wSt y rp rw rt cI cQ P n Wi Ti (nI nt)) ++ (wPl pa pb cI zo))))) sz)) (rx_X (fun (E9 : String) (x9 : Unit) => E9 = "java/lang/IndexOutOfBoundsException" ∧ sFree nz d zo P z j9 1 0) D (va_A ((wDp ad o pa ka (fx 0) (sx 0)) ++ ((wOf o (x 0) (y 0)) ++ ((wFl x r cI cZ cQ w q d T st re rc (nI nz)) ++ ((wSt y rp rw rt cI cQ P n Wi Ti (nI nt)) ++ (wPl pa pb cI zo))))) sz) (fun x9 : Unit => (wDp ad o pa ka (fx 0) (sx 0)) ++ ((wOf o (x 0) (y 0)) ++ ((wFl x r cI cZ cQ w q d T st re rc (nI nz)) ++ ((wSt y rp rw rt cI cQ P n Wi Ti (nI nt)) ++ (wPl pa pb cI zo)))))) 2 12 (va_A ((wDp ad o pa ka (fx 0) (sx 0)) ++ ((wOf o (x 0) (y 0)) ++ ((wFl x r cI cZ cQ w q d T st re rc (nI nz)) ++ ((wSt y rp rw rt cI cQ P n Wi Ti (nI nt)) ++ (wPl pa pb cI zo))))) sz) := by
  refine vx_ofW (cc := cX7_free) (maxL := 5) (ret := (some .int)) (by decide) rfl ?_
  intro p e s m args below meth c s₁ B hml ht hv
  obtain ⟨rfl, ⟨hsz, hP, hSt, hD0⟩, hDc, hZ⟩ := hv
  change W p l e ({ frames := 7, cells := 2, slots := 12, locals := 103 } : Room) s m _ below meth c s.heap [] 0 0 _ _
  have hx := B.exec
  have hb := B.bytes
  have hr := B.returns
  have hts : ∀ w ∈ ALL, w.before ([.ref ad, .int z, .int j9] : List Value).toArray s = true := fun w h => atoms_spec (ws := (.code yX7_free cX7_free 5 (some .int) :: ALL)) B.pre w (List.mem_cons_of_mem _ h)
  have hown : s.vm.findClass RX7 = some m.cls := findClass_of_methodNamed B.named
  have hlocks := B.notSynchronized
  subst hsz
  have hD := hD0.self (sz := s.heap.size)
  clear hD0
  generalize hAe : va_A ((wDp ad o pa ka (fx 0) (sx 0)) ++ ((wOf o (x 0) (y 0)) ++ ((wFl x r cI cZ cQ w q d T st re rc (nI nz)) ++ ((wSt y rp rw rt cI cQ P n Wi Ti (nI nt)) ++ (wPl pa pb cI zo))))) s.heap.size = A at hD hZ ⊢
  have hA : ∀ q : Nat, s.heap.size ≤ q → A q := fun q h => by rw [← hAe]; exact Or.inr h
  have hS : va_S A s.heap s.heap [] := va_S.rf
  have hl := lv_entry ([.ref ad, .int z, .int j9]) (n := 5) (Nat.le_of_ble_eq_true rfl)
  rw [lg_entry_eq]
  generalize (lg_sl ([.ref ad, .int z, .int j9]) ++ List.replicate (5 - (lg_sl ([.ref ad, .int z, .int j9])).length) Slot.unset).toArray = ls at hl ⊢
  have hl : lv_has ls 5 [(0, .ref ad), (1, .int z), (2, .int j9)] := hl
  obtain ⟨H, hHe⟩ : ∃ H : Heap, H = s.heap := ⟨_, rfl⟩
  obtain ⟨locs, hLe⟩ : ∃ L : List Loc, L = [] := ⟨_, rfl⟩
  have hP : va_P D vwCl ((wDp ad o pa ka (fx 0) (sx 0)) ++ ((wOf o (x 0) (y 0)) ++ ((wFl x r cI cZ cQ w q d T st re rc (nI nz)) ++ ((wSt y rp rw rt cI cQ P n Wi Ti (nI nt)) ++ (wPl pa pb cI zo))))) H := by rw [hHe]; exact hP
  have hS : va_S A s.heap H locs := by rw [hHe, hLe]; exact hS
  refine W.eqHL hHe hLe ?_
  refine lv_aload_n hx hb dX7_free_0 rfl (lv_at hl 0 rfl) ?_
  refine lv_iload_n hx hb dX7_free_1 rfl (lv_at hl 1 rfl) ?_
  refine rx_v (wr := (wSt y rp rw rt cI cQ P n Wi Ti (nI nt)) ++ (wPl pa pb cI zo)) (w_VX (As := [.int z]) ⟨hx, hb, hml, hown, hts⟩ (c_X7_requireZone l D cI cZ cQ cJ ad o pa ka fx sx x r w q d T st re rc nz y z H.size (by first | assumption | omega) (by first | assumption | omega)) (gV t2_214 t2_216 t0_8 t1_1 t2_217) rfl rfl hd_X7_requireZone ⟨Nat.le_of_ble_eq_true rfl, Nat.le_of_ble_eq_true rfl⟩ (rx_pre hP hD hSt hDc hZ hS hA [0, 1, 2, 3, 4, 5, 6, 7, 8, 9, 10, 11, 12, 13, 14, 15] rfl (by decide)) (va_recv hSt.1 hP (ci := 7) (q0 := 0) rfl rfl) rfl hl.1 (rest := []) rfl (Nat.le_of_ble_eq_true rfl) dX7_free_2 ⟨Nat.le_of_ble_eq_true rfl, Nat.le_of_ble_eq_true rfl⟩) hP hD hS hA [0, 1, 2, 3, 4, 5, 6, 7, 8, 9, 10, 11, 12, 13, 14, 15] [16, 17, 18, 19, 20, 21, 22, 23, 24, 25, 26, 27, 28, 29, 30, 31, 32, 33, 34, 35, 36, 37, 38, 39, 40, 41, 42, 43] rfl rfl (by decide) (by decide) (fun E9 ce9 q9 x9 H locs hx9 hP hD hS hc91 hc92 hc93 => ?_) (fun  u_1 H locs hw9 hP hD hS => ?_)
  · have hx9 : E9 = "java/lang/IndexOutOfBoundsException" ∧ ¬ inN z nz := hx9
    have hP : va_P D vwCl (((wSt y rp rw rt cI cQ P n Wi Ti (nI nt)) ++ (wPl pa pb cI zo)) ++ ((wDp ad o pa ka (fx 0) (sx 0)) ++ ((wOf o (x 0) (y 0)) ++ (wFl x r cI cZ cQ w q d T st re rc (nI nz))))) H := hP
    have hD : va_D A (((wSt y rp rw rt cI cQ P n Wi Ti (nI nt)) ++ (wPl pa pb cI zo)) ++ ((wDp ad o pa ka (fx 0) (sx 0)) ++ ((wOf o (x 0) (y 0)) ++ (wFl x r cI cZ cQ w q d T st re rc (nI nz))))) := hD
    have hP9 : va_P D vwCl ((wDp ad o pa ka (fx 0) (sx 0)) ++ ((wOf o (x 0) (y 0)) ++ ((wFl x r cI cZ cQ w q d T st re rc (nI nz)) ++ ((wSt y rp rw rt cI cQ P n Wi Ti (nI nt)) ++ (wPl pa pb cI zo))))) H := (hP.sub (ws' := (wDp ad o pa ka (fx 0) (sx 0)) ++ ((wOf o (x 0) (y 0)) ++ ((wFl x r cI cZ cQ w q d T st re rc (nI nz)) ++ ((wSt y rp rw rt cI cQ P n Wi Ti (nI nt)) ++ (wPl pa pb cI zo))))) [28, 29, 30, 31, 32, 33, 34, 35, 36, 37, 38, 39, 40, 41, 42, 43, 0, 1, 2, 3, 4, 5, 6, 7, 8, 9, 10, 11, 12, 13, 14, 15, 16, 17, 18, 19, 20, 21, 22, 23, 24, 25, 26, 27] rfl)
    have hD9 : va_D A ((wDp ad o pa ka (fx 0) (sx 0)) ++ ((wOf o (x 0) (y 0)) ++ ((wFl x r cI cZ cQ w q d T st re rc (nI nz)) ++ ((wSt y rp rw rt cI cQ P n Wi Ti (nI nt)) ++ (wPl pa pb cI zo))))) := (hD.sub (ws' := (wDp ad o pa ka (fx 0) (sx 0)) ++ ((wOf o (x 0) (y 0)) ++ ((wFl x r cI cZ cQ w q d T st re rc (nI nz)) ++ ((wSt y rp rw rt cI cQ P n Wi Ti (nI nt)) ++ (wPl pa pb cI zo))))) [28, 29, 30, 31, 32, 33, 34, 35, 36, 37, 38, 39, 40, 41, 42, 43, 0, 1, 2, 3, 4, 5, 6, 7, 8, 9, 10, 11, 12, 13, 14, 15, 16, 17, 18, 19, 20, 21, 22, 23, 24, 25, 26, 27] (by decide) rfl)
    exact vx_widen (k := 2) (n := 12) (by omega) (by omega) (rx_on (u := ()) ht hlocks (⟨hx9.1, Or.inl ⟨fun q9 => hx9.2 q9.1, rfl⟩⟩) hP9 hD9 hS hc91 hc92 hc93 (Nat.le_refl _) (Nat.le_refl _))
  · have f_2 := hw9
    have hin : inN z nz := f_2
    have hP : va_P D vwCl (((wSt y rp rw rt cI cQ P n Wi Ti (nI nt)) ++ (wPl pa pb cI zo)) ++ ((wDp ad o pa ka (fx 0) (sx 0)) ++ ((wOf o (x 0) (y 0)) ++ (wFl x r cI cZ cQ w q d T st re rc (nI nz))))) H := hP
    have hD : va_D A (((wSt y rp rw rt cI cQ P n Wi Ti (nI nt)) ++ (wPl pa pb cI zo)) ++ ((wDp ad o pa ka (fx 0) (sx 0)) ++ ((wOf o (x 0) (y 0)) ++ (wFl x r cI cZ cQ w q d T st re rc (nI nz))))) := hD
    obtain ⟨zz, h_zz, rfl⟩ := hin
    refine lv_aload_n hx hb dX7_free_5 rfl (lv_at hl 0 rfl) ?_
    refine lv_iload_n hx hb dX7_free_6 rfl (lv_at hl 2 rfl) ?_
    refine rx_v (wr := (wSt y rp rw rt cI cQ P n Wi Ti (nI nt)) ++ ((wPl pa pb cI zo) ++ ((wOf o (x 0) (y 0)) ++ (wFl x r cI cZ cQ w q d T st re rc (nI nz))))) (w_VX (As := [.int j9]) ⟨hx, hb, hml, hown, hts⟩ (c_X7_requireDay l D cI cZ cQ cJ ad o pa ka fx sx j9 H.size (by first | assumption | omega)) (gV t2_233 t2_235 t0_10 t1_1 t2_236) rfl rfl hd_X7_requireDay ⟨Nat.le_of_ble_eq_true rfl, Nat.le_of_ble_eq_true rfl⟩ (rx_pre hP hD hSt hDc hZ hS hA [28] rfl (by decide)) (va_recv hSt.1 hP (ci := 7) (q0 := 28) rfl rfl) rfl hl.1 (rest := []) rfl (Nat.le_of_ble_eq_true rfl) dX7_free_7 ⟨Nat.le_of_ble_eq_true rfl, Nat.le_of_ble_eq_true rfl⟩) hP hD hS hA [28] [0, 1, 2, 3, 4, 5, 6, 7, 8, 9, 10, 11, 12, 13, 14, 15, 16, 17, 18, 19, 20, 21, 22, 23, 24, 25, 26, 27, 29, 30, 31, 32, 33, 34, 35, 36, 37, 38, 39, 40, 41, 42, 43] rfl rfl (by decide) (by decide) (fun E9 ce9 q9 x9 H locs hx9 hP hD hS hc91 hc92 hc93 => ?_) (fun  u_3 H locs hw9 hP hD hS => ?_)
    · have hx9 : E9 = "java/lang/IndexOutOfBoundsException" ∧ ¬ inN j9 5 := hx9
      have hP : va_P D vwCl (((wSt y rp rw rt cI cQ P n Wi Ti (nI nt)) ++ ((wPl pa pb cI zo) ++ ((wOf o (x 0) (y 0)) ++ (wFl x r cI cZ cQ w q d T st re rc (nI nz))))) ++ (wDp ad o pa ka (fx 0) (sx 0))) H := hP
      have hD : va_D A (((wSt y rp rw rt cI cQ P n Wi Ti (nI nt)) ++ ((wPl pa pb cI zo) ++ ((wOf o (x 0) (y 0)) ++ (wFl x r cI cZ cQ w q d T st re rc (nI nz))))) ++ (wDp ad o pa ka (fx 0) (sx 0))) := hD
      have hP9 : va_P D vwCl ((wDp ad o pa ka (fx 0) (sx 0)) ++ ((wOf o (x 0) (y 0)) ++ ((wFl x r cI cZ cQ w q d T st re rc (nI nz)) ++ ((wSt y rp rw rt cI cQ P n Wi Ti (nI nt)) ++ (wPl pa pb cI zo))))) H := (hP.sub (ws' := (wDp ad o pa ka (fx 0) (sx 0)) ++ ((wOf o (x 0) (y 0)) ++ ((wFl x r cI cZ cQ w q d T st re rc (nI nz)) ++ ((wSt y rp rw rt cI cQ P n Wi Ti (nI nt)) ++ (wPl pa pb cI zo))))) [43, 28, 29, 30, 31, 32, 33, 34, 35, 36, 37, 38, 39, 40, 41, 42, 0, 1, 2, 3, 4, 5, 6, 7, 8, 9, 10, 11, 12, 13, 14, 15, 16, 17, 18, 19, 20, 21, 22, 23, 24, 25, 26, 27] rfl)
      have hD9 : va_D A ((wDp ad o pa ka (fx 0) (sx 0)) ++ ((wOf o (x 0) (y 0)) ++ ((wFl x r cI cZ cQ w q d T st re rc (nI nz)) ++ ((wSt y rp rw rt cI cQ P n Wi Ti (nI nt)) ++ (wPl pa pb cI zo))))) := (hD.sub (ws' := (wDp ad o pa ka (fx 0) (sx 0)) ++ ((wOf o (x 0) (y 0)) ++ ((wFl x r cI cZ cQ w q d T st re rc (nI nz)) ++ ((wSt y rp rw rt cI cQ P n Wi Ti (nI nt)) ++ (wPl pa pb cI zo))))) [43, 28, 29, 30, 31, 32, 33, 34, 35, 36, 37, 38, 39, 40, 41, 42, 0, 1, 2, 3, 4, 5, 6, 7, 8, 9, 10, 11, 12, 13, 14, 15, 16, 17, 18, 19, 20, 21, 22, 23, 24, 25, 26, 27] (by decide) rfl)
      exact vx_widen (k := 2) (n := 12) (by omega) (by omega) (rx_on (u := ()) ht hlocks (⟨hx9.1, Or.inl ⟨fun q9 => hx9.2 q9.2, rfl⟩⟩) hP9 hD9 hS hc91 hc92 hc93 (Nat.le_refl _) (Nat.le_refl _))
    · have f_4 := hw9
      have hin2 : inN j9 5 := f_4
      have hP : va_P D vwCl (((wSt y rp rw rt cI cQ P n Wi Ti (nI nt)) ++ ((wPl pa pb cI zo) ++ ((wOf o (x 0) (y 0)) ++ (wFl x r cI cZ cQ w q d T st re rc (nI nz))))) ++ (wDp ad o pa ka (fx 0) (sx 0))) H := hP
      have hD : va_D A (((wSt y rp rw rt cI cQ P n Wi Ti (nI nt)) ++ ((wPl pa pb cI zo) ++ ((wOf o (x 0) (y 0)) ++ (wFl x r cI cZ cQ w q d T st re rc (nI nz))))) ++ (wDp ad o pa ka (fx 0) (sx 0))) := hD
      obtain ⟨jj, h_jj, rfl⟩ := hin2
      refine lv_aload_n hx hb dX7_free_10 rfl (lv_at hl 0 rfl) ?_
      refine va_get (D := D) (ci := 7) (v := .ref pa) (C := RX7) (T := TX7) (N := 5) hx hb hts tu_X7 hown hSt.1 hP 43 rfl rfl 1 (by decide) (hts _ t1_209) (fun _ h9 => h9) rfl dX7_free_11 ?_
      refine lv_iload_n hx hb dX7_free_14 rfl (lv_at hl 1 rfl) ?_
      refine ro_V (As := [.int (nI zz)]) (rest := []) (v := tAt zo (nI zz)) ⟨hx, hb, hml, hown, hts⟩ (c_X4_teamAt l D cI cZ cQ cJ pa pb zo (nI zz)) (gV t2_219 t2_220 t2_221 t1_5 t2_222) rfl rfl hd_X4_teamAt ⟨Nat.le_of_ble_eq_true rfl, Nat.le_of_ble_eq_true rfl⟩ (hP.sub (ws' := wPl pa pb cI zo) [26, 27] rfl) hSt (va_recv hSt.1 hP (ci := 4) (q0 := 26) rfl rfl) rfl hl.1 rfl (Nat.le_of_ble_eq_true rfl) dX7_free_15 (Nat.le_of_ble_eq_true rfl) (Nat.le_of_ble_eq_true rfl) ?_
      refine lv_istore_n (lv' := [(3, .int (tAt zo (nI zz))), (0, .ref ad), (1, .int (nI zz)), (2, .int (nI jj))]) hx hb dX7_free_18 rfl hl (by decide) rfl (fun ls hl => ?_)
      refine lv_iload_n hx hb dX7_free_19 rfl (lv_at hl 0 rfl) ?_
      refine lv_iconst (v := (-1 : Int32)) hx hb dX7_free_20 (by decide) ?_
      refine lv_icmp_ne (tgt := 28) hx hb dX7_free_21 (by decide) (fun c_5 => ?_) (fun c_5 => ?_)
      · obtain ⟨tm9, htm9, et9, -⟩ := tAt_some c_5
        refine lv_aload_n hx hb dX7_free_28 rfl (lv_at hl 1 rfl) ?_
        refine va_get (D := D) (ci := 7) (v := .ref o) (C := RX7) (T := TX7) (N := 5) hx hb hts tu_X7 hown hSt.1 hP 43 rfl rfl 0 (by decide) (hts _ t1_208) (fun _ h9 => h9) rfl dX7_free_29 ?_
        refine va_getN (D := D) (ci := 3) (v := .ref (y 0)) (C := RX3) (T := TX3) (N := 2) hx hb hts tu_X3 hown hSt.1 hP 28 rfl rfl 1 (by decide) (nf_9 hSt.2) (fun _ h9 => h9) rfl dX7_free_32 ?_
        refine va_getN (D := D) (ci := 5) (v := .ref (y 1)) (C := RX5) (T := TX5) (N := 5) hx hb hts tu_X5 hown hSt.1 hP 0 rfl rfl 0 (by decide) (nf_4 hSt.2) (fun _ h9 => h9) rfl dX7_free_35 ?_
        refine lv_iload_n hx hb dX7_free_38 rfl (lv_at hl 0 rfl) ?_
        refine lv_as (y := nI tm9) (et9) ?_
        refine r_aald (r := rp) hx hb hSt.1 hP 1 2 rfl rfl (k := tm9) (by omega) dX7_free_39 ?_
        refine lv_iload_n hx hb dX7_free_40 rfl (lv_at hl 3 rfl) ?_
        refine r_iald hx hb hSt.1 hP _ 0 (f := P tm9) (at_l (at_l (wSt_P (k := tm9) (by omega)))) rfl (k := jj) (by omega) (by omega) dX7_free_41 ?_
        refine lv_istore (lv' := [(4, .int (P tm9 jj)), (3, .int (tAt zo (nI zz))), (0, .ref ad), (1, .int (nI zz)), (2, .int (nI jj))]) hx hb dX7_free_42 hl (by decide) rfl (fun ls hl => ?_)
        refine lv_aload_n hx hb dX7_free_44 rfl (lv_at hl 2 rfl) ?_
        refine va_get (D := D) (ci := 7) (v := .ref o) (C := RX7) (T := TX7) (N := 5) hx hb hts tu_X7 hown hSt.1 hP 43 rfl rfl 0 (by decide) (hts _ t1_208) (fun _ h9 => h9) rfl dX7_free_45 ?_
        refine va_getN (D := D) (ci := 3) (v := .ref (x 0)) (C := RX3) (T := TX3) (N := 2) hx hb hts tu_X3 hown hSt.1 hP 28 rfl rfl 0 (by decide) (nf_7 hSt.2) (fun _ h9 => h9) rfl dX7_free_48 ?_
        refine va_getN (D := D) (ci := 1) (v := .ref (x 3)) (C := RX1) (T := TX1) (N := 8) hx hb hts tu_X1 hown hSt.1 hP 29 rfl rfl 2 (by decide) (nf_0 hSt.2) (fun _ h9 => h9) rfl dX7_free_51 ?_
        refine lv_iload_n hx hb dX7_free_54 rfl (lv_at hl 3 rfl) ?_
        refine r_iald hx hb hSt.1 hP 32 0 rfl rfl (k := zz) (by omega) (by omega) dX7_free_55 ?_
        refine lv_iload hx hb dX7_free_56 (lv_at hl 0 rfl) ?_
        refine lv_isub hx hb dX7_free_58 ?_
        have hP9 : va_P D vwCl ((wDp ad o pa ka (fx 0) (sx 0)) ++ ((wOf o (x 0) (y 0)) ++ ((wFl x r cI cZ cQ w q d T st re rc (nI nz)) ++ ((wSt y rp rw rt cI cQ P n Wi Ti (nI nt)) ++ (wPl pa pb cI zo))))) H := (hP.sub (ws' := (wDp ad o pa ka (fx 0) (sx 0)) ++ ((wOf o (x 0) (y 0)) ++ ((wFl x r cI cZ cQ w q d T st re rc (nI nz)) ++ ((wSt y rp rw rt cI cQ P n Wi Ti (nI nt)) ++ (wPl pa pb cI zo))))) [43, 28, 29, 30, 31, 32, 33, 34, 35, 36, 37, 38, 39, 40, 41, 42, 0, 1, 2, 3, 4, 5, 6, 7, 8, 9, 10, 11, 12, 13, 14, 15, 16, 17, 18, 19, 20, 21, 22, 23, 24, 25, 26, 27] rfl)
        have hD9 : va_D A ((wDp ad o pa ka (fx 0) (sx 0)) ++ ((wOf o (x 0) (y 0)) ++ ((wFl x r cI cZ cQ w q d T st re rc (nI nz)) ++ ((wSt y rp rw rt cI cQ P n Wi Ti (nI nt)) ++ (wPl pa pb cI zo))))) := (hD.sub (ws' := (wDp ad o pa ka (fx 0) (sx 0)) ++ ((wOf o (x 0) (y 0)) ++ ((wFl x r cI cZ cQ w q d T st re rc (nI nz)) ++ ((wSt y rp rw rt cI cQ P n Wi Ti (nI nt)) ++ (wPl pa pb cI zo))))) [43, 28, 29, 30, 31, 32, 33, 34, 35, 36, 37, 38, 39, 40, 41, 42, 0, 1, 2, 3, 4, 5, 6, 7, 8, 9, 10, 11, 12, 13, 14, 15, 16, 17, 18, 19, 20, 21, 22, 23, 24, 25, 26, 27] (by decide) rfl)
        have g_6 : sFree nz d zo P (nI zz) (nI jj) 0 ((d zz) - (P tm9 jj)) := Or.inr ⟨⟨⟨zz, h_zz, rfl⟩, ⟨jj, h_jj, rfl⟩⟩, rfl, by rw [nIc (by omega), if_neg c_5, et9, nIc (by omega), nIc (by omega)]⟩
        refine W.widen (k := 2) (n := 12) (by omega) (by omega) ?_
        exact vx_ret (W.iret (v := (d zz) - (P tm9 jj)) hx hb hr (fun t9 ht9 hW9 => ⟨⟨(d zz) - (P tm9 jj), ((d zz) - (P tm9 jj)), rfl, ⟨rfl, g_6⟩, by rw [ht9]; exact hP9, hD9⟩, hS.F ht9⟩) hS.2.2 dX7_free_59)
      · refine lv_iconst (v := nI 0) hx hb dX7_free_24 (by decide) ?_
        refine lv_goto (tgt := 42) hx hb dX7_free_25 (by decide) ?_
        refine lv_istore (lv' := [(4, .int (nI 0)), (3, .int (tAt zo (nI zz))), (0, .ref ad), (1, .int (nI zz)), (2, .int (nI jj))]) hx hb dX7_free_42 hl (by decide) rfl (fun ls hl => ?_)
        refine lv_aload_n hx hb dX7_free_44 rfl (lv_at hl 2 rfl) ?_
        refine va_get (D := D) (ci := 7) (v := .ref o) (C := RX7) (T := TX7) (N := 5) hx hb hts tu_X7 hown hSt.1 hP 43 rfl rfl 0 (by decide) (hts _ t1_208) (fun _ h9 => h9) rfl dX7_free_45 ?_
        refine va_getN (D := D) (ci := 3) (v := .ref (x 0)) (C := RX3) (T := TX3) (N := 2) hx hb hts tu_X3 hown hSt.1 hP 28 rfl rfl 0 (by decide) (nf_7 hSt.2) (fun _ h9 => h9) rfl dX7_free_48 ?_
        refine va_getN (D := D) (ci := 1) (v := .ref (x 3)) (C := RX1) (T := TX1) (N := 8) hx hb hts tu_X1 hown hSt.1 hP 29 rfl rfl 2 (by decide) (nf_0 hSt.2) (fun _ h9 => h9) rfl dX7_free_51 ?_
        refine lv_iload_n hx hb dX7_free_54 rfl (lv_at hl 3 rfl) ?_
        refine r_iald hx hb hSt.1 hP 32 0 rfl rfl (k := zz) (by omega) (by omega) dX7_free_55 ?_
        refine lv_iload hx hb dX7_free_56 (lv_at hl 0 rfl) ?_
        refine lv_isub hx hb dX7_free_58 ?_
        have hP9 : va_P D vwCl ((wDp ad o pa ka (fx 0) (sx 0)) ++ ((wOf o (x 0) (y 0)) ++ ((wFl x r cI cZ cQ w q d T st re rc (nI nz)) ++ ((wSt y rp rw rt cI cQ P n Wi Ti (nI nt)) ++ (wPl pa pb cI zo))))) H := (hP.sub (ws' := (wDp ad o pa ka (fx 0) (sx 0)) ++ ((wOf o (x 0) (y 0)) ++ ((wFl x r cI cZ cQ w q d T st re rc (nI nz)) ++ ((wSt y rp rw rt cI cQ P n Wi Ti (nI nt)) ++ (wPl pa pb cI zo))))) [43, 28, 29, 30, 31, 32, 33, 34, 35, 36, 37, 38, 39, 40, 41, 42, 0, 1, 2, 3, 4, 5, 6, 7, 8, 9, 10, 11, 12, 13, 14, 15, 16, 17, 18, 19, 20, 21, 22, 23, 24, 25, 26, 27] rfl)
        have hD9 : va_D A ((wDp ad o pa ka (fx 0) (sx 0)) ++ ((wOf o (x 0) (y 0)) ++ ((wFl x r cI cZ cQ w q d T st re rc (nI nz)) ++ ((wSt y rp rw rt cI cQ P n Wi Ti (nI nt)) ++ (wPl pa pb cI zo))))) := (hD.sub (ws' := (wDp ad o pa ka (fx 0) (sx 0)) ++ ((wOf o (x 0) (y 0)) ++ ((wFl x r cI cZ cQ w q d T st re rc (nI nz)) ++ ((wSt y rp rw rt cI cQ P n Wi Ti (nI nt)) ++ (wPl pa pb cI zo))))) [43, 28, 29, 30, 31, 32, 33, 34, 35, 36, 37, 38, 39, 40, 41, 42, 0, 1, 2, 3, 4, 5, 6, 7, 8, 9, 10, 11, 12, 13, 14, 15, 16, 17, 18, 19, 20, 21, 22, 23, 24, 25, 26, 27] (by decide) rfl)
        have g_7 : sFree nz d zo P (nI zz) (nI jj) 0 ((d zz) - (nI 0)) := Or.inr ⟨⟨⟨zz, h_zz, rfl⟩, ⟨jj, h_jj, rfl⟩⟩, rfl, by rw [nIc (by omega), if_pos c_5]⟩
        refine W.widen (k := 2) (n := 12) (by omega) (by omega) ?_
        exact vx_ret (W.iret (v := (d zz) - (nI 0)) hx hb hr (fun t9 ht9 hW9 => ⟨⟨(d zz) - (nI 0), ((d zz) - (nI 0)), rfl, ⟨rfl, g_7⟩, by rw [ht9]; exact hP9, hD9⟩, hS.F ht9⟩) hS.2.2 dX7_free_59)
set_option maxHeartbeats 4000000 in
set_option maxRecDepth 100000 in
theorem c_X7_distance (l : Launch) (D : va_G) (cI cZ cQ cJ : ClassId) (ad : Nat) (o : Nat) (pa : Nat) (ka : Nat) (fx : Nat → Nat) (sx : Nat → Nat) (x : Nat → Nat) (r : Nat → Nat) (w : Nat → Int32) (q : Nat → Int32) (d : Nat → Int32) (T : Nat → Nat → Int32) (st : Nat → Int32) (re : Nat → Int32) (rc : Int32) (nz : Nat) (y : Nat → Nat) (a8 : Int32) (b8 : Int32) (sz : Nat) (hnz : nz ≤ 7) (hfl : l.stackTraces = false) : vx_Met l yX7_distance (.code yX7_distance cX7_distance 3 (some .int) :: ALL) ({ frames := 7, cells := 2, slots := 12, locals := 103 } : Room) (va_Pc [.ref ad, .int a8, .int b8] (rx_P D cI cZ cQ cJ ((wDp ad o pa ka (fx 0) (sx 0)) ++ ((wOf o (x 0) (y 0)) ++ (wFl x r cI cZ cQ w q d T st re rc (nI nz)))) sz)) (va_Qi (fun (r9 : Int32) (u9 : Int32) => (r9 = u9) ∧ (sDist nz T a8 b8 0 u9)) (rw_B D (va_A ((wDp ad o pa ka (fx 0) (sx 0)) ++ ((wOf o (x 0) (y 0)) ++ (wFl x r cI cZ cQ w q d T st re rc (nI nz)))) sz) (fun u9 : Int32 => (wDp ad o pa ka (fx 0) (sx 0)) ++ ((wOf o (x 0) (y 0)) ++ (wFl x r cI cZ cQ w q d T st re rc (nI nz))))) (va_A ((wDp ad o pa ka (fx 0) (sx 0)) ++ ((wOf o (x 0) (y 0)) ++ (wFl x r cI cZ cQ w q d T st re rc (nI nz)))) sz)) (rx_X (fun (E9 : String) (x9 : Unit) => E9 = "java/lang/IndexOutOfBoundsException" ∧ sDist nz T a8 b8 1 0) D (va_A ((wDp ad o pa ka (fx 0) (sx 0)) ++ ((wOf o (x 0) (y 0)) ++ (wFl x r cI cZ cQ w q d T st re rc (nI nz)))) sz) (fun x9 : Unit => (wDp ad o pa ka (fx 0) (sx 0)) ++ ((wOf o (x 0) (y 0)) ++ (wFl x r cI cZ cQ w q d T st re rc (nI nz))))) 2 12 (va_A ((wDp ad o pa ka (fx 0) (sx 0)) ++ ((wOf o (x 0) (y 0)) ++ (wFl x r cI cZ cQ w q d T st re rc (nI nz)))) sz) := by
  refine vx_ofW (cc := cX7_distance) (maxL := 3) (ret := (some .int)) (by decide) rfl ?_
  intro p e s m args below meth c s₁ B hml ht hv
  obtain ⟨rfl, ⟨hsz, hP, hSt, hD0⟩, hDc, hZ⟩ := hv
  change W p l e ({ frames := 7, cells := 2, slots := 12, locals := 103 } : Room) s m _ below meth c s.heap [] 0 0 _ _
  have hx := B.exec
  have hb := B.bytes
  have hr := B.returns
  have hts : ∀ w ∈ ALL, w.before ([.ref ad, .int a8, .int b8] : List Value).toArray s = true := fun w h => atoms_spec (ws := (.code yX7_distance cX7_distance 3 (some .int) :: ALL)) B.pre w (List.mem_cons_of_mem _ h)
  have hown : s.vm.findClass RX7 = some m.cls := findClass_of_methodNamed B.named
  have hlocks := B.notSynchronized
  subst hsz
  have hD := hD0.self (sz := s.heap.size)
  clear hD0
  generalize hAe : va_A ((wDp ad o pa ka (fx 0) (sx 0)) ++ ((wOf o (x 0) (y 0)) ++ (wFl x r cI cZ cQ w q d T st re rc (nI nz)))) s.heap.size = A at hD hZ ⊢
  have hA : ∀ q : Nat, s.heap.size ≤ q → A q := fun q h => by rw [← hAe]; exact Or.inr h
  have hS : va_S A s.heap s.heap [] := va_S.rf
  have hl := lv_entry ([.ref ad, .int a8, .int b8]) (n := 3) (Nat.le_of_ble_eq_true rfl)
  rw [lg_entry_eq]
  generalize (lg_sl ([.ref ad, .int a8, .int b8]) ++ List.replicate (3 - (lg_sl ([.ref ad, .int a8, .int b8])).length) Slot.unset).toArray = ls at hl ⊢
  have hl : lv_has ls 3 [(0, .ref ad), (1, .int a8), (2, .int b8)] := hl
  obtain ⟨H, hHe⟩ : ∃ H : Heap, H = s.heap := ⟨_, rfl⟩
  obtain ⟨locs, hLe⟩ : ∃ L : List Loc, L = [] := ⟨_, rfl⟩
  have hP : va_P D vwCl ((wDp ad o pa ka (fx 0) (sx 0)) ++ ((wOf o (x 0) (y 0)) ++ (wFl x r cI cZ cQ w q d T st re rc (nI nz)))) H := by rw [hHe]; exact hP
  have hS : va_S A s.heap H locs := by rw [hHe, hLe]; exact hS
  refine W.eqHL hHe hLe ?_
  refine lv_aload_n hx hb dX7_distance_0 rfl (lv_at hl 0 rfl) ?_
  refine lv_iload_n hx hb dX7_distance_1 rfl (lv_at hl 1 rfl) ?_
  refine rx_v (wr := ([] : va_W)) (w_VX (As := [.int a8]) ⟨hx, hb, hml, hown, hts⟩ (c_X7_requireZone l D cI cZ cQ cJ ad o pa ka fx sx x r w q d T st re rc nz y a8 H.size (by first | assumption | omega) (by first | assumption | omega)) (gV t2_214 t2_216 t0_8 t1_1 t2_217) rfl rfl hd_X7_requireZone ⟨Nat.le_of_ble_eq_true rfl, Nat.le_of_ble_eq_true rfl⟩ (rx_pre hP hD hSt hDc hZ hS hA [0, 1, 2, 3, 4, 5, 6, 7, 8, 9, 10, 11, 12, 13, 14, 15] rfl (by decide)) (va_recv hSt.1 hP (ci := 7) (q0 := 0) rfl rfl) rfl hl.1 (rest := []) rfl (Nat.le_of_ble_eq_true rfl) dX7_distance_2 ⟨Nat.le_of_ble_eq_true rfl, Nat.le_of_ble_eq_true rfl⟩) hP hD hS hA [0, 1, 2, 3, 4, 5, 6, 7, 8, 9, 10, 11, 12, 13, 14, 15] [] rfl rfl (by decide) (by decide) (fun E9 ce9 q9 x9 H locs hx9 hP hD hS hc91 hc92 hc93 => ?_) (fun  u_1 H locs hw9 hP hD hS => ?_)
  · have hx9 : E9 = "java/lang/IndexOutOfBoundsException" ∧ ¬ inN a8 nz := hx9
    have hP : va_P D vwCl ((wDp ad o pa ka (fx 0) (sx 0)) ++ ((wOf o (x 0) (y 0)) ++ (wFl x r cI cZ cQ w q d T st re rc (nI nz)))) H := hP
    have hD : va_D A ((wDp ad o pa ka (fx 0) (sx 0)) ++ ((wOf o (x 0) (y 0)) ++ (wFl x r cI cZ cQ w q d T st re rc (nI nz)))) := hD
    have hP9 : va_P D vwCl ((wDp ad o pa ka (fx 0) (sx 0)) ++ ((wOf o (x 0) (y 0)) ++ (wFl x r cI cZ cQ w q d T st re rc (nI nz)))) H := hP
    have hD9 : va_D A ((wDp ad o pa ka (fx 0) (sx 0)) ++ ((wOf o (x 0) (y 0)) ++ (wFl x r cI cZ cQ w q d T st re rc (nI nz)))) := hD
    exact vx_widen (k := 2) (n := 12) (by omega) (by omega) (rx_on (u := ()) ht hlocks (⟨hx9.1, Or.inl ⟨fun q9 => hx9.2 q9.1, rfl⟩⟩) hP9 hD9 hS hc91 hc92 hc93 (Nat.le_refl _) (Nat.le_refl _))
  · have f_2 := hw9
    have hin : inN a8 nz := f_2
    have hP : va_P D vwCl ((wDp ad o pa ka (fx 0) (sx 0)) ++ ((wOf o (x 0) (y 0)) ++ (wFl x r cI cZ cQ w q d T st re rc (nI nz)))) H := hP
    have hD : va_D A ((wDp ad o pa ka (fx 0) (sx 0)) ++ ((wOf o (x 0) (y 0)) ++ (wFl x r cI cZ cQ w q d T st re rc (nI nz)))) := hD
    obtain ⟨aa, h_aa, rfl⟩ := hin
    refine lv_aload_n hx hb dX7_distance_5 rfl (lv_at hl 0 rfl) ?_
    refine lv_iload_n hx hb dX7_distance_6 rfl (lv_at hl 2 rfl) ?_
    refine rx_v (wr := ([] : va_W)) (w_VX (As := [.int b8]) ⟨hx, hb, hml, hown, hts⟩ (c_X7_requireZone l D cI cZ cQ cJ ad o pa ka fx sx x r w q d T st re rc nz y b8 H.size (by first | assumption | omega) (by first | assumption | omega)) (gV t2_214 t2_216 t0_8 t1_1 t2_217) rfl rfl hd_X7_requireZone ⟨Nat.le_of_ble_eq_true rfl, Nat.le_of_ble_eq_true rfl⟩ (rx_pre hP hD hSt hDc hZ hS hA [0, 1, 2, 3, 4, 5, 6, 7, 8, 9, 10, 11, 12, 13, 14, 15] rfl (by decide)) (va_recv hSt.1 hP (ci := 7) (q0 := 0) rfl rfl) rfl hl.1 (rest := []) rfl (Nat.le_of_ble_eq_true rfl) dX7_distance_7 ⟨Nat.le_of_ble_eq_true rfl, Nat.le_of_ble_eq_true rfl⟩) hP hD hS hA [0, 1, 2, 3, 4, 5, 6, 7, 8, 9, 10, 11, 12, 13, 14, 15] [] rfl rfl (by decide) (by decide) (fun E9 ce9 q9 x9 H locs hx9 hP hD hS hc91 hc92 hc93 => ?_) (fun  u_3 H locs hw9 hP hD hS => ?_)
    · have hx9 : E9 = "java/lang/IndexOutOfBoundsException" ∧ ¬ inN b8 nz := hx9
      have hP : va_P D vwCl ((wDp ad o pa ka (fx 0) (sx 0)) ++ ((wOf o (x 0) (y 0)) ++ (wFl x r cI cZ cQ w q d T st re rc (nI nz)))) H := hP
      have hD : va_D A ((wDp ad o pa ka (fx 0) (sx 0)) ++ ((wOf o (x 0) (y 0)) ++ (wFl x r cI cZ cQ w q d T st re rc (nI nz)))) := hD
      have hP9 : va_P D vwCl ((wDp ad o pa ka (fx 0) (sx 0)) ++ ((wOf o (x 0) (y 0)) ++ (wFl x r cI cZ cQ w q d T st re rc (nI nz)))) H := hP
      have hD9 : va_D A ((wDp ad o pa ka (fx 0) (sx 0)) ++ ((wOf o (x 0) (y 0)) ++ (wFl x r cI cZ cQ w q d T st re rc (nI nz)))) := hD
      exact vx_widen (k := 2) (n := 12) (by omega) (by omega) (rx_on (u := ()) ht hlocks (⟨hx9.1, Or.inl ⟨fun q9 => hx9.2 q9.2, rfl⟩⟩) hP9 hD9 hS hc91 hc92 hc93 (Nat.le_refl _) (Nat.le_refl _))
    · have f_4 := hw9
      have hin2 : inN b8 nz := f_4
      have hP : va_P D vwCl ((wDp ad o pa ka (fx 0) (sx 0)) ++ ((wOf o (x 0) (y 0)) ++ (wFl x r cI cZ cQ w q d T st re rc (nI nz)))) H := hP
      have hD : va_D A ((wDp ad o pa ka (fx 0) (sx 0)) ++ ((wOf o (x 0) (y 0)) ++ (wFl x r cI cZ cQ w q d T st re rc (nI nz)))) := hD
      obtain ⟨bb, h_bb, rfl⟩ := hin2
      refine lv_aload_n hx hb dX7_distance_10 rfl (lv_at hl 0 rfl) ?_
      refine va_get (D := D) (ci := 7) (v := .ref o) (C := RX7) (T := TX7) (N := 5) hx hb hts tu_X7 hown hSt.1 hP 0 rfl rfl 0 (by decide) (hts _ t1_208) (fun _ h9 => h9) rfl dX7_distance_11 ?_
      refine va_getN (D := D) (ci := 3) (v := .ref (x 0)) (C := RX3) (T := TX3) (N := 2) hx hb hts tu_X3 hown hSt.1 hP 1 rfl rfl 0 (by decide) (nf_7 hSt.2) (fun _ h9 => h9) rfl dX7_distance_14 ?_
      refine va_getN (D := D) (ci := 1) (v := .ref (x 4)) (C := RX1) (T := TX1) (N := 8) hx hb hts tu_X1 hown hSt.1 hP 2 rfl rfl 3 (by decide) (nf_5 hSt.2) (fun _ h9 => h9) rfl dX7_distance_17 ?_
      refine lv_iload_n hx hb dX7_distance_20 rfl (lv_at hl 1 rfl) ?_
      refine r_aald (r := r) hx hb hSt.1 hP 6 2 rfl rfl (k := aa) (by omega) dX7_distance_21 ?_
      refine lv_iload_n hx hb dX7_distance_22 rfl (lv_at hl 2 rfl) ?_
      refine r_iald hx hb hSt.1 hP _ 0 (f := T aa) (at_r (at_r (wFl_T (k := aa) (by omega)))) rfl (k := bb) (by omega) (by omega) dX7_distance_23 ?_
      have hP9 : va_P D vwCl ((wDp ad o pa ka (fx 0) (sx 0)) ++ ((wOf o (x 0) (y 0)) ++ (wFl x r cI cZ cQ w q d T st re rc (nI nz)))) H := hP
      have hD9 : va_D A ((wDp ad o pa ka (fx 0) (sx 0)) ++ ((wOf o (x 0) (y 0)) ++ (wFl x r cI cZ cQ w q d T st re rc (nI nz)))) := hD
      have g_5 : sDist nz T (nI aa) (nI bb) 0 (T aa bb) := Or.inr ⟨⟨⟨aa, h_aa, rfl⟩, ⟨bb, h_bb, rfl⟩⟩, rfl, by rw [nIc (by omega), nIc (by omega)]⟩
      refine W.widen (k := 2) (n := 12) (by omega) (by omega) ?_
      exact vx_ret (W.iret (v := T aa bb) hx hb hr (fun t9 ht9 hW9 => ⟨⟨T aa bb, (T aa bb), rfl, ⟨rfl, g_5⟩, by rw [ht9]; exact hP9, hD9⟩, hS.F ht9⟩) hS.2.2 dX7_distance_24)
set_option maxHeartbeats 4000000 in
set_option maxRecDepth 100000 in
theorem c_X7_wishCost (l : Launch) (D : va_G) (cI cZ cQ cJ : ClassId) (ad : Nat) (o : Nat) (pa : Nat) (ka : Nat) (fx : Nat → Nat) (sx : Nat → Nat) (x : Nat → Nat) (r : Nat → Nat) (w : Nat → Int32) (q : Nat → Int32) (d : Nat → Int32) (T : Nat → Nat → Int32) (st : Nat → Int32) (re : Nat → Int32) (rc : Int32) (nz : Nat) (y : Nat → Nat) (rp : Nat → Nat) (rw : Nat → Nat) (rt : Nat → Nat) (P : Nat → Nat → Int32) (n : Nat → Int32) (Wi : Nat → Nat → Int32) (Ti : Nat → Nat → Int32) (nt : Nat) (pb : Nat) (zo : Nat → Int32) (wi : Nat → Nat → Nat) (g : Nat → Nat) (hwi : rOK 7 7 Wi wi) (hzo : pOK 7 zo g) (hgz : gOK nz 7 g) (hnz : nz ≤ 7) (hnt : nt ≤ 7) : Met l yX7_wishCost (.code yX7_wishCost cX7_wishCost 1 (some .int) :: ALL) ({ frames := 2, cells := 0, slots := 0, locals := 45 } : Room) (va_Pc [.ref ad] (ro_P D cI cZ cQ cJ ((wDp ad o pa ka (fx 0) (sx 0)) ++ ((wOf o (x 0) (y 0)) ++ ((wFl x r cI cZ cQ w q d T st re rc (nI nz)) ++ ((wSt y rp rw rt cI cQ P n Wi Ti (nI nt)) ++ (wPl pa pb cI zo))))))) (vp_Si (fun r9 => r9 = nI (wishN wi g nt))) 0 0 (fun _ => False) := by
  refine Met.ofW (cc := cX7_wishCost) (maxL := 1) (ret := (some .int)) (by decide) rfl ?_
  intro p e s m args below meth c s₁ B hml hv
  obtain ⟨rfl, hP, hSt⟩ := hv
  have hx := B.exec
  have hb := B.bytes
  have hr := B.returns
  have hts : ∀ w ∈ ALL, w.before ([.ref ad] : List Value).toArray s = true := fun w h => atoms_spec (ws := (.code yX7_wishCost cX7_wishCost 1 (some .int) :: ALL)) B.pre w (List.mem_cons_of_mem _ h)
  have hown : s.vm.findClass RX7 = some m.cls := findClass_of_methodNamed B.named
  have hlocks := B.notSynchronized
  have hl := lv_entry ([.ref ad]) (n := 1) (Nat.le_of_ble_eq_true rfl)
  rw [lg_entry_eq]
  generalize (lg_sl ([.ref ad]) ++ List.replicate (1 - (lg_sl ([.ref ad])).length) Slot.unset).toArray = ls at hl ⊢
  have hl : lv_has ls 1 [(0, .ref ad)] := hl
  refine lv_aload_n hx hb dX7_wishCost_0 rfl (lv_at hl 0 rfl) ?_
  refine va_get (D := D) (ci := 7) (v := .ref o) (C := RX7) (T := TX7) (N := 5) hx hb hts tu_X7 hown hSt.1 hP 0 rfl rfl 0 (by decide) (hts _ t1_208) (fun _ h9 => h9) rfl dX7_wishCost_1 ?_
  refine lv_aload_n hx hb dX7_wishCost_4 rfl (lv_at hl 0 rfl) ?_
  refine va_get (D := D) (ci := 7) (v := .ref pa) (C := RX7) (T := TX7) (N := 5) hx hb hts tu_X7 hown hSt.1 hP 0 rfl rfl 1 (by decide) (hts _ t1_209) (fun _ h9 => h9) rfl dX7_wishCost_5 ?_
  refine ro_V (As := [.ref pa]) (rest := []) (v := nI (wishN wi g nt)) ⟨hx, hb, hml, hown, hts⟩ (c_X3_wishCostOf l D cI cZ cQ cJ o x r w q d T st re rc nz y rp rw rt P n Wi Ti pa pb zo nt wi g (by first | assumption | omega) (by first | assumption | omega) (by first | assumption | omega) (by first | assumption | omega) (by first | assumption | omega)) (gV t3_130 t3_91 t3_92 t1_2 t3_93) rfl rfl hd_X3_wishCostOf ⟨Nat.le_of_ble_eq_true rfl, Nat.le_of_ble_eq_true rfl⟩ (hP.sub (ws' := (wOf o (x 0) (y 0)) ++ ((wFl x r cI cZ cQ w q d T st re rc (nI nz)) ++ ((wSt y rp rw rt cI cQ P n Wi Ti (nI nt)) ++ (wPl pa pb cI zo)))) [1, 2, 3, 4, 5, 6, 7, 8, 9, 10, 11, 12, 13, 14, 15, 16, 17, 18, 19, 20, 21, 22, 23, 24, 25, 26, 27, 28, 29, 30, 31, 32, 33, 34, 35, 36, 37, 38, 39, 40, 41, 42, 43] rfl) hSt (va_recv hSt.1 hP (ci := 3) (q0 := 1) rfl rfl) rfl hl.1 rfl (Nat.le_of_ble_eq_true rfl) dX7_wishCost_8 (Nat.zero_le _) (Nat.zero_le _) ?_
  exact W.iret (v := nI (wishN wi g nt)) hx hb hr (fun t9 ht9 hW9 => ⟨_, rfl, (rfl), ht9⟩) (fun q h => nomatch h) dX7_wishCost_11
set_option maxHeartbeats 4000000 in
set_option maxRecDepth 100000 in
theorem c_X7_cost (l : Launch) (D : va_G) (cI cZ cQ cJ : ClassId) (ad : Nat) (o : Nat) (pa : Nat) (ka : Nat) (fx : Nat → Nat) (sx : Nat → Nat) (x : Nat → Nat) (r : Nat → Nat) (w : Nat → Int32) (q : Nat → Int32) (d : Nat → Int32) (T : Nat → Nat → Int32) (st : Nat → Int32) (re : Nat → Int32) (rc : Int32) (nz : Nat) (y : Nat → Nat) (rp : Nat → Nat) (rw : Nat → Nat) (rt : Nat → Nat) (P : Nat → Nat → Int32) (n : Nat → Int32) (Wi : Nat → Nat → Int32) (Ti : Nat → Nat → Int32) (nt : Nat) (pb : Nat) (zo : Nat → Int32) (wi : Nat → Nat → Nat) (ti : Nat → Nat → Nat) (dd : Nat → Nat → Nat) (g : Nat → Nat) (hwi : rOK 7 7 Wi wi) (hti : rOK 7 7 Ti ti) (hdd : rOK nz nz T dd) (hzo : pOK 7 zo g) (hgz : gOK nz 7 g) (hnz : nz ≤ 7) (hnt : nt ≤ 7) : Met l yX7_cost (.code yX7_cost cX7_cost 1 (some .int) :: ALL) ({ frames := 3, cells := 0, slots := 0, locals := 70 } : Room) (va_Pc [.ref ad] (ro_P D cI cZ cQ cJ ((wDp ad o pa ka (fx 0) (sx 0)) ++ ((wOf o (x 0) (y 0)) ++ ((wFl x r cI cZ cQ w q d T st re rc (nI nz)) ++ ((wSt y rp rw rt cI cQ P n Wi Ti (nI nt)) ++ (wPl pa pb cI zo))))))) (vp_Si (fun r9 => r9 = nI (costN wi ti dd g nt))) 0 0 (fun _ => False) := by
  refine Met.ofW (cc := cX7_cost) (maxL := 1) (ret := (some .int)) (by decide) rfl ?_
  intro p e s m args below meth c s₁ B hml hv
  obtain ⟨rfl, hP, hSt⟩ := hv
  have hx := B.exec
  have hb := B.bytes
  have hr := B.returns
  have hts : ∀ w ∈ ALL, w.before ([.ref ad] : List Value).toArray s = true := fun w h => atoms_spec (ws := (.code yX7_cost cX7_cost 1 (some .int) :: ALL)) B.pre w (List.mem_cons_of_mem _ h)
  have hown : s.vm.findClass RX7 = some m.cls := findClass_of_methodNamed B.named
  have hlocks := B.notSynchronized
  have hl := lv_entry ([.ref ad]) (n := 1) (Nat.le_of_ble_eq_true rfl)
  rw [lg_entry_eq]
  generalize (lg_sl ([.ref ad]) ++ List.replicate (1 - (lg_sl ([.ref ad])).length) Slot.unset).toArray = ls at hl ⊢
  have hl : lv_has ls 1 [(0, .ref ad)] := hl
  refine lv_aload_n hx hb dX7_cost_0 rfl (lv_at hl 0 rfl) ?_
  refine va_get (D := D) (ci := 7) (v := .ref o) (C := RX7) (T := TX7) (N := 5) hx hb hts tu_X7 hown hSt.1 hP 0 rfl rfl 0 (by decide) (hts _ t1_208) (fun _ h9 => h9) rfl dX7_cost_1 ?_
  refine lv_aload_n hx hb dX7_cost_4 rfl (lv_at hl 0 rfl) ?_
  refine va_get (D := D) (ci := 7) (v := .ref pa) (C := RX7) (T := TX7) (N := 5) hx hb hts tu_X7 hown hSt.1 hP 0 rfl rfl 1 (by decide) (hts _ t1_209) (fun _ h9 => h9) rfl dX7_cost_5 ?_
  refine ro_V (As := [.ref pa]) (rest := []) (v := nI (costN wi ti dd g nt)) ⟨hx, hb, hml, hown, hts⟩ (c_X3_costOf l D cI cZ cQ cJ o x r w q d T st re rc nz y rp rw rt P n Wi Ti pa pb zo nt wi ti dd g (by first | assumption | omega) (by first | assumption | omega) (by first | assumption | omega) (by first | assumption | omega) (by first | assumption | omega) (by first | assumption | omega) (by first | assumption | omega)) (gV t3_135 t3_87 t3_88 t1_2 t3_89) rfl rfl hd_X3_costOf ⟨Nat.le_of_ble_eq_true rfl, Nat.le_of_ble_eq_true rfl⟩ (hP.sub (ws' := (wOf o (x 0) (y 0)) ++ ((wFl x r cI cZ cQ w q d T st re rc (nI nz)) ++ ((wSt y rp rw rt cI cQ P n Wi Ti (nI nt)) ++ (wPl pa pb cI zo)))) [1, 2, 3, 4, 5, 6, 7, 8, 9, 10, 11, 12, 13, 14, 15, 16, 17, 18, 19, 20, 21, 22, 23, 24, 25, 26, 27, 28, 29, 30, 31, 32, 33, 34, 35, 36, 37, 38, 39, 40, 41, 42, 43] rfl) hSt (va_recv hSt.1 hP (ci := 3) (q0 := 1) rfl rfl) rfl hl.1 rfl (Nat.le_of_ble_eq_true rfl) dX7_cost_8 (Nat.zero_le _) (Nat.zero_le _) ?_
  exact W.iret (v := nI (costN wi ti dd g nt)) hx hb hr (fun t9 ht9 hW9 => ⟨_, rfl, (rfl), ht9⟩) (fun q h => nomatch h) dX7_cost_11
set_option maxHeartbeats 4000000 in
set_option maxRecDepth 100000 in
theorem c_X7_teamInTheWayOf (l : Launch) (D : va_G) (cI cZ cQ cJ : ClassId) (ad : Nat) (o : Nat) (pa : Nat) (ka : Nat) (fx : Nat → Nat) (sx : Nat → Nat) (pb : Nat) (zo : Nat → Int32) (kb : Nat) (ke : Nat → Int32) (t : Nat) (ht : t < 7) : Met l yX7_teamInTheWayOf (.code yX7_teamInTheWayOf cX7_teamInTheWayOf 2 (some .int) :: ALL) ({ frames := 1, cells := 0, slots := 0, locals := 22 } : Room) (va_Pc [.ref ad, .int (nI t)] (ro_P D cI cZ cQ cJ ((wDp ad o pa ka (fx 0) (sx 0)) ++ ((wPl pa pb cI zo) ++ (wPl ka kb cI ke))))) (vp_Si (fun r9 => r9 = tAt zo (ke t))) 0 0 (fun _ => False) := by
  refine Met.ofW (cc := cX7_teamInTheWayOf) (maxL := 2) (ret := (some .int)) (by decide) rfl ?_
  intro p e s m args below meth c s₁ B hml hv
  obtain ⟨rfl, hP, hSt⟩ := hv
  have hx := B.exec
  have hb := B.bytes
  have hr := B.returns
  have hts : ∀ w ∈ ALL, w.before ([.ref ad, .int (nI t)] : List Value).toArray s = true := fun w h => atoms_spec (ws := (.code yX7_teamInTheWayOf cX7_teamInTheWayOf 2 (some .int) :: ALL)) B.pre w (List.mem_cons_of_mem _ h)
  have hown : s.vm.findClass RX7 = some m.cls := findClass_of_methodNamed B.named
  have hlocks := B.notSynchronized
  have hl := lv_entry ([.ref ad, .int (nI t)]) (n := 2) (Nat.le_of_ble_eq_true rfl)
  rw [lg_entry_eq]
  generalize (lg_sl ([.ref ad, .int (nI t)]) ++ List.replicate (2 - (lg_sl ([.ref ad, .int (nI t)])).length) Slot.unset).toArray = ls at hl ⊢
  have hl : lv_has ls 2 [(0, .ref ad), (1, .int (nI t))] := hl
  refine lv_aload_n hx hb dX7_teamInTheWayOf_0 rfl (lv_at hl 0 rfl) ?_
  refine va_get (D := D) (ci := 7) (v := .ref pa) (C := RX7) (T := TX7) (N := 5) hx hb hts tu_X7 hown hSt.1 hP 0 rfl rfl 1 (by decide) (hts _ t1_209) (fun _ h9 => h9) rfl dX7_teamInTheWayOf_1 ?_
  refine lv_aload_n hx hb dX7_teamInTheWayOf_4 rfl (lv_at hl 0 rfl) ?_
  refine va_get (D := D) (ci := 7) (v := .ref ka) (C := RX7) (T := TX7) (N := 5) hx hb hts tu_X7 hown hSt.1 hP 0 rfl rfl 2 (by decide) (hts _ t1_210) (fun _ h9 => h9) rfl dX7_teamInTheWayOf_5 ?_
  refine lv_iload_n hx hb dX7_teamInTheWayOf_8 rfl (lv_at hl 1 rfl) ?_
  refine ro_V (As := [.int (nI t)]) (rest := [.ref pa]) (v := ke t) ⟨hx, hb, hml, hown, hts⟩ (c_X4_zoneWith l D cI cZ cQ cJ ka kb ke t (by first | assumption | omega)) (gV t2_238 t2_37 t2_38 t1_5 t2_39) rfl rfl hd_X4_zoneWith ⟨Nat.le_of_ble_eq_true rfl, Nat.le_of_ble_eq_true rfl⟩ (hP.sub (ws' := wPl ka kb cI ke) [3, 4] rfl) hSt (va_recv hSt.1 hP (ci := 4) (q0 := 3) rfl rfl) rfl hl.1 rfl (Nat.le_of_ble_eq_true rfl) dX7_teamInTheWayOf_9 (Nat.zero_le _) (Nat.zero_le _) ?_
  refine ro_V (As := [.int (ke t)]) (rest := []) (v := tAt zo (ke t)) ⟨hx, hb, hml, hown, hts⟩ (c_X4_teamAt l D cI cZ cQ cJ pa pb zo (ke t)) (gV t2_219 t2_220 t2_221 t1_5 t2_222) rfl rfl hd_X4_teamAt ⟨Nat.le_of_ble_eq_true rfl, Nat.le_of_ble_eq_true rfl⟩ (hP.sub (ws' := wPl pa pb cI zo) [1, 2] rfl) hSt (va_recv hSt.1 hP (ci := 4) (q0 := 1) rfl rfl) rfl hl.1 rfl (Nat.le_of_ble_eq_true rfl) dX7_teamInTheWayOf_12 (Nat.zero_le _) (Nat.zero_le _) ?_
  exact W.iret (v := tAt zo (ke t)) hx hb hr (fun t9 ht9 hW9 => ⟨_, rfl, (rfl), ht9⟩) (fun q h => nomatch h) dX7_teamInTheWayOf_15
theorem hd_X7_teamInTheWayOf : yX7_teamInTheWayOf.cls = RX7 ∧ yX7_teamInTheWayOf.cls ≠ "java/lang/invoke/MethodHandle" ∧ yX7_teamInTheWayOf.cls ≠ "java/lang/invoke/VarHandle" ∧ (parseMethodDescriptor yX7_teamInTheWayOf.desc).map (fun d => d.parameters.length) = some 1 := by decide +kernel
set_option maxHeartbeats 4000000 in
set_option maxRecDepth 100000 in
theorem c_X7_isLowestOfCircle (l : Launch) (D : va_G) (cI cZ cQ cJ : ClassId) (ad : Nat) (o : Nat) (pa : Nat) (ka : Nat) (fx : Nat → Nat) (sx : Nat → Nat) (pb : Nat) (zo : Nat → Int32) (kb : Nat) (ke : Nat → Int32) (nx : Nat → Nat) (t : Nat) (hnx : ∀ t, t < 7 → tAt zo (ke t) = zI (nx t) ∧ nx t ≤ 7) (ht : t < 7) : Met l yX7_isLowestOfCircle (.code yX7_isLowestOfCircle cX7_isLowestOfCircle 4 (some .boolean) :: ALL) ({ frames := 2, cells := 0, slots := 0, locals := 43 } : Room) (va_Pc [.ref ad, .int (nI t)] (ro_P D cI cZ cQ cJ ((wDp ad o pa ka (fx 0) (sx 0)) ++ ((wPl pa pb cI zo) ++ (wPl ka kb cI ke))))) (vp_Si (fun r9 => r9 = bI (lwC nx t 7 1 (nx t) = true))) 0 0 (fun _ => False) := by
  refine Met.ofW (cc := cX7_isLowestOfCircle) (maxL := 4) (ret := (some .boolean)) (by decide) rfl ?_
  intro p e s m args below meth c s₁ B hml hv
  obtain ⟨rfl, hP, hSt⟩ := hv
  have hx := B.exec
  have hb := B.bytes
  have hr := B.returns
  have hts : ∀ w ∈ ALL, w.before ([.ref ad, .int (nI t)] : List Value).toArray s = true := fun w h => atoms_spec (ws := (.code yX7_isLowestOfCircle cX7_isLowestOfCircle 4 (some .boolean) :: ALL)) B.pre w (List.mem_cons_of_mem _ h)
  have hown : s.vm.findClass RX7 = some m.cls := findClass_of_methodNamed B.named
  have hlocks := B.notSynchronized
  have hl := lv_entry ([.ref ad, .int (nI t)]) (n := 4) (Nat.le_of_ble_eq_true rfl)
  rw [lg_entry_eq]
  generalize (lg_sl ([.ref ad, .int (nI t)]) ++ List.replicate (4 - (lg_sl ([.ref ad, .int (nI t)])).length) Slot.unset).toArray = ls at hl ⊢
  have hl : lv_has ls 4 [(0, .ref ad), (1, .int (nI t))] := hl
  refine lv_aload_n hx hb dX7_isLowestOfCircle_0 rfl (lv_at hl 0 rfl) ?_
  refine lv_iload_n hx hb dX7_isLowestOfCircle_1 rfl (lv_at hl 1 rfl) ?_
  refine ro_V (As := [.int (nI t)]) (rest := []) (v := tAt zo (ke t)) ⟨hx, hb, hml, hown, hts⟩ (c_X7_teamInTheWayOf l D cI cZ cQ cJ ad o pa ka fx sx pb zo kb ke t (by first | assumption | omega)) (gV t3_144 t3_146 t0_18 t1_1 t3_147) rfl rfl hd_X7_teamInTheWayOf ⟨Nat.le_of_ble_eq_true rfl, Nat.le_of_ble_eq_true rfl⟩ hP hSt (va_recv hSt.1 hP (ci := 7) (q0 := 0) rfl rfl) rfl hl.1 rfl (Nat.le_of_ble_eq_true rfl) dX7_isLowestOfCircle_2 (Nat.zero_le _) (Nat.zero_le _) ?_
  refine lv_as (y := zI (nx t)) ((hnx t (by omega)).1) ?_
  refine lv_istore_n (lv' := [(2, .int (zI (nx t))), (0, .ref ad), (1, .int (nI t))]) hx hb dX7_isLowestOfCircle_5 rfl hl (by decide) rfl (fun ls hl => ?_)
  refine lv_iconst (v := nI 1) hx hb dX7_isLowestOfCircle_6 (by decide) ?_
  refine lv_istore_n (lv' := [(3, .int (nI 1)), (2, .int (zI (nx t))), (0, .ref ad), (1, .int (nI t))]) hx hb dX7_isLowestOfCircle_7 rfl hl (by decide) rfl (fun ls hl => ?_)
  have L8 : ∀ (n9 : Nat) (len : Nat) (x9 : Nat), (1 ≤ len) → (len ≤ 8) → (x9 ≤ 7) → (lwC nx t 7 1 (nx t) = lwC nx t (8 - len) len x9) → (8 - len) < n9 → ∀ (ls : Array Slot), lv_has ls 4 [(0, .ref ad), (1, .int (nI t)), (2, .int (zI x9)), (3, .int (nI len))] → W p l e ({ frames := 2, cells := 0, slots := 0, locals := 43 } : Room) s m ([.ref ad, .int (nI t)] : List Value).toArray below meth c s.heap [] 0 0 (MQ below (vp_Si (fun r9 => r9 = bI (lwC nx t 7 1 (nx t) = true))) ([.ref ad, .int (nI t)] : List Value).toArray s 0 0 (fun _ => False)) (F0 m 8 ls []) := by
    intro n9
    induction n9 with
    | zero =>
      intro len x9 hl1 hl2 hx7 hlw hm
      exact absurd hm (by omega)
    | succ n9 ih =>
      intro len x9 hl1 hl2 hx7 hlw hm ls hl
      have ih_L8 := ih
      refine lv_iload_n hx hb dX7_isLowestOfCircle_8 rfl (lv_at hl 3 rfl) ?_
      refine lv_bipush (v := nI 7) hx hb dX7_isLowestOfCircle_9 (by decide) ?_
      refine lv_icmp_gt (tgt := 54) hx hb dX7_isLowestOfCircle_11 (by decide) (fun c_1 => ?_) (fun c_1 => ?_)
      · have c_1 := z_lt (by omega) (by omega) c_1
        refine lv_iconst (v := nI 0) hx hb dX7_isLowestOfCircle_54 (by decide) ?_
        exact W.zret (v := nI 0) hx hb hr (rfl) (fun t9 ht9 hW9 => ⟨_, rfl, ((bI_f (by rw [hlw, show 8 - len = 0 by omega]; exact Bool.noConfusion)).symm), ht9⟩) (fun q h => nomatch h) dX7_isLowestOfCircle_55
      · have c_1 := z_nlt (by omega) (by omega) c_1
        refine lv_iload_n hx hb dX7_isLowestOfCircle_14 rfl (lv_at hl 2 rfl) ?_
        refine lv_iconst (v := (-1 : Int32)) hx hb dX7_isLowestOfCircle_15 (by decide) ?_
        refine lv_icmp_eq (tgt := 24) hx hb dX7_isLowestOfCircle_16 (by decide) (fun c_2 => ?_) (fun c_2 => ?_)
        · refine lv_iconst (v := nI 0) hx hb dX7_isLowestOfCircle_24 (by decide) ?_
          exact W.zret (v := nI 0) hx hb hr (rfl) (fun t9 ht9 hW9 => ⟨_, rfl, ((bI_f (by rw [hlw, show 8 - len = (8 - (len + 1)) + 1 by omega, lwC, if_pos (Or.inl (zI_none c_2))]; exact Bool.noConfusion)).symm), ht9⟩) (fun q h => nomatch h) dX7_isLowestOfCircle_25
        · have hx9 := zI_some c_2
          refine lv_iload_n hx hb dX7_isLowestOfCircle_19 rfl (lv_at hl 2 rfl) ?_
          refine lv_as (y := nI x9) (zI_lt hx9) ?_
          refine lv_iload_n hx hb dX7_isLowestOfCircle_20 rfl (lv_at hl 1 rfl) ?_
          refine lv_icmp_ge (tgt := 26) hx hb dX7_isLowestOfCircle_21 (by decide) (fun c_3 => ?_) (fun c_3 => ?_)
          · have c_3 := z_le (by omega) (by omega) c_3
            refine lv_iload_n hx hb dX7_isLowestOfCircle_26 rfl (lv_at hl 2 rfl) ?_
            refine lv_as (y := nI x9) (zI_lt hx9) ?_
            refine lv_iload_n hx hb dX7_isLowestOfCircle_27 rfl (lv_at hl 1 rfl) ?_
            refine lv_icmp_ne (tgt := 42) hx hb dX7_isLowestOfCircle_28 (by decide) (fun c_4 => ?_) (fun c_4 => ?_)
            · have c_4 := z_ne (by omega) (by omega) c_4
              refine lv_aload_n hx hb dX7_isLowestOfCircle_42 rfl (lv_at hl 0 rfl) ?_
              refine lv_iload_n hx hb dX7_isLowestOfCircle_43 rfl (lv_at hl 2 rfl) ?_
              refine lv_as (y := nI x9) (zI_lt hx9) ?_
              refine ro_V (As := [.int (nI x9)]) (rest := []) (v := tAt zo (ke x9)) ⟨hx, hb, hml, hown, hts⟩ (c_X7_teamInTheWayOf l D cI cZ cQ cJ ad o pa ka fx sx pb zo kb ke x9 (by first | assumption | omega)) (gV t3_144 t3_146 t0_18 t1_1 t3_147) rfl rfl hd_X7_teamInTheWayOf ⟨Nat.le_of_ble_eq_true rfl, Nat.le_of_ble_eq_true rfl⟩ hP hSt (va_recv hSt.1 hP (ci := 7) (q0 := 0) rfl rfl) rfl hl.1 rfl (Nat.le_of_ble_eq_true rfl) dX7_isLowestOfCircle_44 (Nat.zero_le _) (Nat.zero_le _) ?_
              refine lv_as (y := zI (nx x9)) ((hnx x9 (by omega)).1) ?_
              refine lv_istore_n (lv' := [(2, .int (zI (nx x9))), (0, .ref ad), (1, .int (nI t)), (3, .int (nI len))]) hx hb dX7_isLowestOfCircle_47 rfl hl (by decide) rfl (fun ls hl => ?_)
              refine lv_iinc (v := nI (len + 1)) (lv' := [(3, .int (nI (len + 1))), (2, .int (zI (nx x9))), (0, .ref ad), (1, .int (nI t))]) hx hb dX7_isLowestOfCircle_48 hl (k := 3) rfl (z_inc _) (by decide) rfl (fun ls hl => ?_)
              refine lv_goto (tgt := 8) hx hb dX7_isLowestOfCircle_51 (by decide) ?_
              exact ih_L8 (len + 1) (nx x9) (by omega) (by omega) ((hnx x9 (by omega)).2) (by rw [hlw, show 8 - len = (8 - (len + 1)) + 1 by omega, lwC, if_neg (by omega), if_neg (by omega)]) (by omega) _ (lv_sub hl [2, 3, 1, 0] rfl)
            · have c_4 := z_eq (by omega) (by omega) c_4
              refine lv_iload_n hx hb dX7_isLowestOfCircle_31 rfl (lv_at hl 3 rfl) ?_
              refine lv_iconst (v := nI 1) hx hb dX7_isLowestOfCircle_32 (by decide) ?_
              refine lv_icmp_le (tgt := 40) hx hb dX7_isLowestOfCircle_33 (by decide) (fun c_5 => ?_) (fun c_5 => ?_)
              · have c_5 := z_le (by omega) (by omega) c_5
                refine lv_iconst (v := nI 0) hx hb dX7_isLowestOfCircle_40 (by decide) ?_
                exact W.zret (v := nI 0) hx hb hr (rfl) (fun t9 ht9 hW9 => ⟨_, rfl, ((bI_f (by rw [hlw, show 8 - len = (8 - (len + 1)) + 1 by omega, lwC, if_neg (by omega), if_pos (by omega), decide_eq_true_eq]; omega)).symm), ht9⟩) (fun q h => nomatch h) dX7_isLowestOfCircle_41
              · have c_5 := z_nle (by omega) (by omega) c_5
                refine lv_iconst (v := nI 1) hx hb dX7_isLowestOfCircle_36 (by decide) ?_
                refine lv_goto (tgt := 41) hx hb dX7_isLowestOfCircle_37 (by decide) ?_
                exact W.zret (v := nI 1) hx hb hr (rfl) (fun t9 ht9 hW9 => ⟨_, rfl, ((bI_t (by rw [hlw, show 8 - len = (8 - (len + 1)) + 1 by omega, lwC, if_neg (by omega), if_pos (by omega), decide_eq_true_eq]; omega)).symm), ht9⟩) (fun q h => nomatch h) dX7_isLowestOfCircle_41
          · have c_3 := z_nle (by omega) (by omega) c_3
            refine lv_iconst (v := nI 0) hx hb dX7_isLowestOfCircle_24 (by decide) ?_
            exact W.zret (v := nI 0) hx hb hr (rfl) (fun t9 ht9 hW9 => ⟨_, rfl, ((bI_f (by rw [hlw, show 8 - len = (8 - (len + 1)) + 1 by omega, lwC, if_pos (Or.inr (by omega))]; exact Bool.noConfusion)).symm), ht9⟩) (fun q h => nomatch h) dX7_isLowestOfCircle_25
  exact L8 _ 1 (nx t) (by omega) (by omega) ((hnx t (by omega)).2) rfl (Nat.lt_succ_self _) _ (lv_sub hl [2, 3, 1, 0] rfl)
theorem hd_X7_isLowestOfCircle : yX7_isLowestOfCircle.cls = RX7 ∧ yX7_isLowestOfCircle.cls ≠ "java/lang/invoke/MethodHandle" ∧ yX7_isLowestOfCircle.cls ≠ "java/lang/invoke/VarHandle" ∧ (parseMethodDescriptor yX7_isLowestOfCircle.desc).map (fun d => d.parameters.length) = some 1 := by decide +kernel
set_option maxHeartbeats 4000000 in
set_option maxRecDepth 100000 in
theorem c_X7_circles (l : Launch) (D : va_G) (cI cZ cQ cJ : ClassId) (ad : Nat) (o : Nat) (pa : Nat) (ka : Nat) (fx : Nat → Nat) (sx : Nat → Nat) (x : Nat → Nat) (y : Nat → Nat) (rp : Nat → Nat) (rw : Nat → Nat) (rt : Nat → Nat) (P : Nat → Nat → Int32) (n : Nat → Int32) (Wi : Nat → Nat → Int32) (Ti : Nat → Nat → Int32) (nt : Nat) (pb : Nat) (zo : Nat → Int32) (kb : Nat) (ke : Nat → Int32) (nx : Nat → Nat) (hnx : ∀ t, t < 7 → tAt zo (ke t) = zI (nx t) ∧ nx t ≤ 7) (hnt : nt ≤ 7) : Met l yX7_circles (.code yX7_circles cX7_circles 3 (some .int) :: ALL) ({ frames := 3, cells := 0, slots := 0, locals := 66 } : Room) (va_Pc [.ref ad] (ro_P D cI cZ cQ cJ ((wDp ad o pa ka (fx 0) (sx 0)) ++ ((wOf o (x 0) (y 0)) ++ ((wSt y rp rw rt cI cQ P n Wi Ti (nI nt)) ++ ((wPl pa pb cI zo) ++ (wPl ka kb cI ke))))))) (vp_Si (fun r9 => r9 = nI (cnt (fun u9 => lwC nx u9 7 1 (nx u9)) nt))) 0 0 (fun _ => False) := by
  refine Met.ofW (cc := cX7_circles) (maxL := 3) (ret := (some .int)) (by decide) rfl ?_
  intro p e s m args below meth c s₁ B hml hv
  obtain ⟨rfl, hP, hSt⟩ := hv
  have hx := B.exec
  have hb := B.bytes
  have hr := B.returns
  have hts : ∀ w ∈ ALL, w.before ([.ref ad] : List Value).toArray s = true := fun w h => atoms_spec (ws := (.code yX7_circles cX7_circles 3 (some .int) :: ALL)) B.pre w (List.mem_cons_of_mem _ h)
  have hown : s.vm.findClass RX7 = some m.cls := findClass_of_methodNamed B.named
  have hlocks := B.notSynchronized
  have hl := lv_entry ([.ref ad]) (n := 3) (Nat.le_of_ble_eq_true rfl)
  rw [lg_entry_eq]
  generalize (lg_sl ([.ref ad]) ++ List.replicate (3 - (lg_sl ([.ref ad])).length) Slot.unset).toArray = ls at hl ⊢
  have hl : lv_has ls 3 [(0, .ref ad)] := hl
  refine lv_iconst (v := nI 0) hx hb dX7_circles_0 (by decide) ?_
  refine lv_istore_n (lv' := [(1, .int (nI 0)), (0, .ref ad)]) hx hb dX7_circles_1 rfl hl (by decide) rfl (fun ls hl => ?_)
  refine lv_iconst (v := nI 0) hx hb dX7_circles_2 (by decide) ?_
  refine lv_istore_n (lv' := [(2, .int (nI 0)), (1, .int (nI 0)), (0, .ref ad)]) hx hb dX7_circles_3 rfl hl (by decide) rfl (fun ls hl => ?_)
  have L4 : ∀ (n9 : Nat) (i : Nat) (n1 : Nat), (i ≤ nt) → (n1 = cnt (fun u9 => lwC nx u9 7 1 (nx u9)) i) → (nt - i) < n9 → ∀ (ls : Array Slot), lv_has ls 3 [(0, .ref ad), (1, .int (nI n1)), (2, .int (nI i))] → W p l e ({ frames := 3, cells := 0, slots := 0, locals := 66 } : Room) s m ([.ref ad] : List Value).toArray below meth c s.heap [] 0 0 (MQ below (vp_Si (fun r9 => r9 = nI (cnt (fun u9 => lwC nx u9 7 1 (nx u9)) nt))) ([.ref ad] : List Value).toArray s 0 0 (fun _ => False)) (F0 m 4 ls []) := by
    intro n9
    induction n9 with
    | zero =>
      intro i n1 hi hn1 hm
      exact absurd hm (by omega)
    | succ n9 ih =>
      intro i n1 hi hn1 hm ls hl
      have ih_L4 := ih
      refine lv_iload_n hx hb dX7_circles_4 rfl (lv_at hl 2 rfl) ?_
      refine lv_aload_n hx hb dX7_circles_5 rfl (lv_at hl 0 rfl) ?_
      refine va_get (D := D) (ci := 7) (v := .ref o) (C := RX7) (T := TX7) (N := 5) hx hb hts tu_X7 hown hSt.1 hP 0 rfl rfl 0 (by decide) (hts _ t1_208) (fun _ h9 => h9) rfl dX7_circles_6 ?_
      refine va_getN (D := D) (ci := 3) (v := .ref (y 0)) (C := RX3) (T := TX3) (N := 2) hx hb hts tu_X3 hown hSt.1 hP 1 rfl rfl 1 (by decide) (nf_9 hSt.2) (fun _ h9 => h9) rfl dX7_circles_9 ?_
      refine va_getN (D := D) (ci := 5) (v := .int (nI nt)) (C := RX5) (T := TX5) (N := 5) hx hb hts tu_X5 hown hSt.1 hP 2 rfl rfl 4 (by decide) (nf_1 hSt.2) (fun _ h9 => h9) rfl dX7_circles_12 ?_
      refine lv_icmp_ge (tgt := 35) hx hb dX7_circles_15 (by decide) (fun c_1 => ?_) (fun c_1 => ?_)
      · have c_1 := z_le (by omega) (by omega) c_1
        refine lv_iload_n hx hb dX7_circles_35 rfl (lv_at hl 1 rfl) ?_
        exact W.iret (v := nI n1) hx hb hr (fun t9 ht9 hW9 => ⟨_, rfl, (by rw [hn1, show i = nt by omega]), ht9⟩) (fun q h => nomatch h) dX7_circles_36
      · have c_1 := z_nle (by omega) (by omega) c_1
        refine lv_aload_n hx hb dX7_circles_18 rfl (lv_at hl 0 rfl) ?_
        refine lv_iload_n hx hb dX7_circles_19 rfl (lv_at hl 2 rfl) ?_
        refine ro_V (As := [.int (nI i)]) (rest := []) (v := bI (lwC nx i 7 1 (nx i) = true)) ⟨hx, hb, hml, hown, hts⟩ (c_X7_isLowestOfCircle l D cI cZ cQ cJ ad o pa ka fx sx pb zo kb ke nx i (by first | assumption | omega) (by first | assumption | omega)) (gV t3_140 t3_142 t0_17 t1_1 t3_143) rfl rfl hd_X7_isLowestOfCircle ⟨Nat.le_of_ble_eq_true rfl, Nat.le_of_ble_eq_true rfl⟩ (hP.sub (ws' := (wDp ad o pa ka (fx 0) (sx 0)) ++ ((wPl pa pb cI zo) ++ (wPl ka kb cI ke))) [0, 28, 29, 30, 31] rfl) hSt (va_recv hSt.1 hP (ci := 7) (q0 := 0) rfl rfl) rfl hl.1 rfl (Nat.le_of_ble_eq_true rfl) dX7_circles_20 (Nat.zero_le _) (Nat.zero_le _) ?_
        refine lv_if_eq (tgt := 29) hx hb dX7_circles_23 (by decide) (fun c_2 => ?_) (fun c_2 => ?_)
        · have c_2 := bI_0.mp c_2
          refine lv_iinc (v := nI (i + 1)) (lv' := [(2, .int (nI (i + 1))), (0, .ref ad), (1, .int (nI n1))]) hx hb dX7_circles_29 hl (k := 2) rfl (z_inc _) (by decide) rfl (fun ls hl => ?_)
          refine lv_goto (tgt := 4) hx hb dX7_circles_32 (by decide) ?_
          exact ih_L4 (i + 1) n1 (by omega) (by rw [cnt, ← hn1]; simp [c_2]) (by omega) _ (lv_sub hl [1, 2, 0] rfl)
        · have c_2 := bI_n0.mp c_2
          refine lv_iinc (v := nI (n1 + 1)) (lv' := [(1, .int (nI (n1 + 1))), (0, .ref ad), (2, .int (nI i))]) hx hb dX7_circles_26 hl (k := 1) rfl (z_inc _) (by decide) rfl (fun ls hl => ?_)
          refine lv_iinc (v := nI (i + 1)) (lv' := [(2, .int (nI (i + 1))), (1, .int (nI (n1 + 1))), (0, .ref ad)]) hx hb dX7_circles_29 hl (k := 2) rfl (z_inc _) (by decide) rfl (fun ls hl => ?_)
          refine lv_goto (tgt := 4) hx hb dX7_circles_32 (by decide) ?_
          exact ih_L4 (i + 1) (n1 + 1) (by omega) (by rw [cnt, ← hn1]; simp [c_2]) (by omega) _ (lv_sub hl [2, 1, 0] rfl)
  exact L4 _ 0 0 (by omega) rfl (Nat.lt_succ_self _) _ (lv_sub hl [2, 1, 0] rfl)
theorem hd_X7_circles : yX7_circles.cls = RX7 ∧ yX7_circles.cls ≠ "java/lang/invoke/MethodHandle" ∧ yX7_circles.cls ≠ "java/lang/invoke/VarHandle" ∧ (parseMethodDescriptor yX7_circles.desc).map (fun d => d.parameters.length) = some 0 := by decide +kernel
set_option maxHeartbeats 4000000 in
set_option maxRecDepth 100000 in
theorem c_X7_moves (l : Launch) (D : va_G) (cI cZ cQ cJ : ClassId) (ad : Nat) (o : Nat) (pa : Nat) (ka : Nat) (fx : Nat → Nat) (sx : Nat → Nat) (x : Nat → Nat) (y : Nat → Nat) (rp : Nat → Nat) (rw : Nat → Nat) (rt : Nat → Nat) (P : Nat → Nat → Int32) (n : Nat → Int32) (Wi : Nat → Nat → Int32) (Ti : Nat → Nat → Int32) (nt : Nat) (pb : Nat) (zo : Nat → Int32) (kb : Nat) (ke : Nat → Int32) (nx : Nat → Nat) (hnx : ∀ t, t < 7 → tAt zo (ke t) = zI (nx t) ∧ nx t ≤ 7) (hnt : nt ≤ 7) : Met l yX7_moves (.code yX7_moves cX7_moves 1 (some .int) :: ALL) ({ frames := 4, cells := 0, slots := 0, locals := 88 } : Room) (va_Pc [.ref ad] (ro_P D cI cZ cQ cJ ((wDp ad o pa ka (fx 0) (sx 0)) ++ ((wOf o (x 0) (y 0)) ++ ((wSt y rp rw rt cI cQ P n Wi Ti (nI nt)) ++ ((wPl pa pb cI zo) ++ (wPl ka kb cI ke))))))) (vp_Si (fun r9 => r9 = nI (cnt (fun k => !decide (zo k = ke k)) 7 + cnt (fun u9 => lwC nx u9 7 1 (nx u9)) nt))) 0 0 (fun _ => False) := by
  refine Met.ofW (cc := cX7_moves) (maxL := 1) (ret := (some .int)) (by decide) rfl ?_
  intro p e s m args below meth c s₁ B hml hv
  obtain ⟨rfl, hP, hSt⟩ := hv
  have hx := B.exec
  have hb := B.bytes
  have hr := B.returns
  have hts : ∀ w ∈ ALL, w.before ([.ref ad] : List Value).toArray s = true := fun w h => atoms_spec (ws := (.code yX7_moves cX7_moves 1 (some .int) :: ALL)) B.pre w (List.mem_cons_of_mem _ h)
  have hown : s.vm.findClass RX7 = some m.cls := findClass_of_methodNamed B.named
  have hlocks := B.notSynchronized
  have hl := lv_entry ([.ref ad]) (n := 1) (Nat.le_of_ble_eq_true rfl)
  rw [lg_entry_eq]
  generalize (lg_sl ([.ref ad]) ++ List.replicate (1 - (lg_sl ([.ref ad])).length) Slot.unset).toArray = ls at hl ⊢
  have hl : lv_has ls 1 [(0, .ref ad)] := hl
  refine lv_aload_n hx hb dX7_moves_0 rfl (lv_at hl 0 rfl) ?_
  refine va_get (D := D) (ci := 7) (v := .ref pa) (C := RX7) (T := TX7) (N := 5) hx hb hts tu_X7 hown hSt.1 hP 0 rfl rfl 1 (by decide) (hts _ t1_209) (fun _ h9 => h9) rfl dX7_moves_1 ?_
  refine lv_aload_n hx hb dX7_moves_4 rfl (lv_at hl 0 rfl) ?_
  refine va_get (D := D) (ci := 7) (v := .ref ka) (C := RX7) (T := TX7) (N := 5) hx hb hts tu_X7 hown hSt.1 hP 0 rfl rfl 2 (by decide) (hts _ t1_210) (fun _ h9 => h9) rfl dX7_moves_5 ?_
  refine ro_V (As := [.ref ka]) (rest := []) (v := nI (cnt (fun k => !decide (zo k = ke k)) 7)) ⟨hx, hb, hml, hown, hts⟩ (c_X4_countOtherwise l D cI cZ cQ cJ pa pb zo ka kb ke) (gV t3_68 t3_69 t3_70 t1_5 t3_71) rfl rfl hd_X4_countOtherwise ⟨Nat.le_of_ble_eq_true rfl, Nat.le_of_ble_eq_true rfl⟩ (hP.sub (ws' := (wPl pa pb cI zo) ++ (wPl ka kb cI ke)) [28, 29, 30, 31] rfl) hSt (va_recv hSt.1 hP (ci := 4) (q0 := 28) rfl rfl) rfl hl.1 rfl (Nat.le_of_ble_eq_true rfl) dX7_moves_8 (Nat.zero_le _) (Nat.zero_le _) ?_
  refine lv_aload_n hx hb dX7_moves_11 rfl (lv_at hl 0 rfl) ?_
  refine ro_V (As := []) (rest := [.int (nI (cnt (fun k => !decide (zo k = ke k)) 7))]) (v := nI (cnt (fun u9 => lwC nx u9 7 1 (nx u9)) nt)) ⟨hx, hb, hml, hown, hts⟩ (c_X7_circles l D cI cZ cQ cJ ad o pa ka fx sx x y rp rw rt P n Wi Ti nt pb zo kb ke nx (by first | assumption | omega) (by first | assumption | omega)) (gV t3_152 t3_137 t3_138 t1_1 t3_139) rfl rfl hd_X7_circles ⟨Nat.le_of_ble_eq_true rfl, Nat.le_of_ble_eq_true rfl⟩ hP hSt (va_recv hSt.1 hP (ci := 7) (q0 := 0) rfl rfl) rfl hl.1 rfl (Nat.le_of_ble_eq_true rfl) dX7_moves_12 (Nat.zero_le _) (Nat.zero_le _) ?_
  refine r_addn hx hb dX7_moves_15 ?_
  exact W.iret (v := nI ((cnt (fun k => !decide (zo k = ke k)) 7) + (cnt (fun u9 => lwC nx u9 7 1 (nx u9)) nt))) hx hb hr (fun t9 ht9 hW9 => ⟨_, rfl, (rfl), ht9⟩) (fun q h => nomatch h) dX7_moves_16
theorem hd_X7_placeByWishes : yX7_placeByWishes.cls = RX7 ∧ yX7_placeByWishes.cls ≠ "java/lang/invoke/MethodHandle" ∧ yX7_placeByWishes.cls ≠ "java/lang/invoke/VarHandle" ∧ (parseMethodDescriptor yX7_placeByWishes.desc).map (fun d => d.parameters.length) = some 0 := by decide +kernel
theorem hd_X7_placeBest : yX7_placeBest.cls = RX7 ∧ yX7_placeBest.cls ≠ "java/lang/invoke/MethodHandle" ∧ yX7_placeBest.cls ≠ "java/lang/invoke/VarHandle" ∧ (parseMethodDescriptor yX7_placeBest.desc).map (fun d => d.parameters.length) = some 0 := by decide +kernel
theorem hd_X7_leastWishCost : yX7_leastWishCost.cls = RX7 ∧ yX7_leastWishCost.cls ≠ "java/lang/invoke/MethodHandle" ∧ yX7_leastWishCost.cls ≠ "java/lang/invoke/VarHandle" ∧ (parseMethodDescriptor yX7_leastWishCost.desc).map (fun d => d.parameters.length) = some 0 := by decide +kernel
theorem hd_X7_search : yX7_search.cls = RX7 ∧ yX7_search.cls ≠ "java/lang/invoke/MethodHandle" ∧ yX7_search.cls ≠ "java/lang/invoke/VarHandle" ∧ (parseMethodDescriptor yX7_search.desc).map (fun d => d.parameters.length) = some 2 := by decide +kernel
theorem hd_X7_remember : yX7_remember.cls = RX7 ∧ yX7_remember.cls ≠ "java/lang/invoke/MethodHandle" ∧ yX7_remember.cls ≠ "java/lang/invoke/VarHandle" ∧ (parseMethodDescriptor yX7_remember.desc).map (fun d => d.parameters.length) = some 0 := by decide +kernel
theorem hd_X7_recall : yX7_recall.cls = RX7 ∧ yX7_recall.cls ≠ "java/lang/invoke/MethodHandle" ∧ yX7_recall.cls ≠ "java/lang/invoke/VarHandle" ∧ (parseMethodDescriptor yX7_recall.desc).map (fun d => d.parameters.length) = some 0 := by decide +kernel
theorem hd_X7_zones : yX7_zones.cls = RX7 ∧ yX7_zones.cls ≠ "java/lang/invoke/MethodHandle" ∧ yX7_zones.cls ≠ "java/lang/invoke/VarHandle" ∧ (parseMethodDescriptor yX7_zones.desc).map (fun d => d.parameters.length) = some 0 := by decide +kernel
theorem hd_X7_teams : yX7_teams.cls = RX7 ∧ yX7_teams.cls ≠ "java/lang/invoke/MethodHandle" ∧ yX7_teams.cls ≠ "java/lang/invoke/VarHandle" ∧ (parseMethodDescriptor yX7_teams.desc).map (fun d => d.parameters.length) = some 0 := by decide +kernel
theorem hd_X7_need : yX7_need.cls = RX7 ∧ yX7_need.cls ≠ "java/lang/invoke/MethodHandle" ∧ yX7_need.cls ≠ "java/lang/invoke/VarHandle" ∧ (parseMethodDescriptor yX7_need.desc).map (fun d => d.parameters.length) = some 1 := by decide +kernel
theorem hd_X7_share : yX7_share.cls = RX7 ∧ yX7_share.cls ≠ "java/lang/invoke/MethodHandle" ∧ yX7_share.cls ≠ "java/lang/invoke/VarHandle" ∧ (parseMethodDescriptor yX7_share.desc).map (fun d => d.parameters.length) = some 1 := by decide +kernel
theorem hd_X7_zoneOf : yX7_zoneOf.cls = RX7 ∧ yX7_zoneOf.cls ≠ "java/lang/invoke/MethodHandle" ∧ yX7_zoneOf.cls ≠ "java/lang/invoke/VarHandle" ∧ (parseMethodDescriptor yX7_zoneOf.desc).map (fun d => d.parameters.length) = some 1 := by decide +kernel
theorem hd_X7_teamIn : yX7_teamIn.cls = RX7 ∧ yX7_teamIn.cls ≠ "java/lang/invoke/MethodHandle" ∧ yX7_teamIn.cls ≠ "java/lang/invoke/VarHandle" ∧ (parseMethodDescriptor yX7_teamIn.desc).map (fun d => d.parameters.length) = some 1 := by decide +kernel
theorem hd_X7_free : yX7_free.cls = RX7 ∧ yX7_free.cls ≠ "java/lang/invoke/MethodHandle" ∧ yX7_free.cls ≠ "java/lang/invoke/VarHandle" ∧ (parseMethodDescriptor yX7_free.desc).map (fun d => d.parameters.length) = some 2 := by decide +kernel
theorem hd_X7_distance : yX7_distance.cls = RX7 ∧ yX7_distance.cls ≠ "java/lang/invoke/MethodHandle" ∧ yX7_distance.cls ≠ "java/lang/invoke/VarHandle" ∧ (parseMethodDescriptor yX7_distance.desc).map (fun d => d.parameters.length) = some 2 := by decide +kernel
theorem hd_X7_wishCost : yX7_wishCost.cls = RX7 ∧ yX7_wishCost.cls ≠ "java/lang/invoke/MethodHandle" ∧ yX7_wishCost.cls ≠ "java/lang/invoke/VarHandle" ∧ (parseMethodDescriptor yX7_wishCost.desc).map (fun d => d.parameters.length) = some 0 := by decide +kernel
theorem hd_X7_cost : yX7_cost.cls = RX7 ∧ yX7_cost.cls ≠ "java/lang/invoke/MethodHandle" ∧ yX7_cost.cls ≠ "java/lang/invoke/VarHandle" ∧ (parseMethodDescriptor yX7_cost.desc).map (fun d => d.parameters.length) = some 0 := by decide +kernel
theorem hd_X7_moves : yX7_moves.cls = RX7 ∧ yX7_moves.cls ≠ "java/lang/invoke/MethodHandle" ∧ yX7_moves.cls ≠ "java/lang/invoke/VarHandle" ∧ (parseMethodDescriptor yX7_moves.desc).map (fun d => d.parameters.length) = some 0 := by decide +kernel
