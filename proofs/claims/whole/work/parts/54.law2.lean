set_option maxRecDepth 100000
/-- what the law's walk stands on -/
def LC (p : Program) (l : Launch) (s : State) (m : MethodId) (c : Code) (b L : Nat) (xs : Nat → Int32) (A : Nat → Prop) (D : va_G) (cI cZ cQ cJ : ClassId) : Prop :=
  p.tables.exec = Jvm.exec ∧ c.code = code ∧ c.maxLocals = 7 ∧ s.vm.findClass RL = some m.cls ∧ (∀ w ∈ ALL, w.before #[Value.ref b] s = true) ∧ va_X b L xs s s.heap ∧ b < s.heap.size ∧ ¬ A b ∧ L ≤ 2048 ∧ St D cI cZ cQ cJ s ∧ Dc s ∧ ZQ A s s.heap ∧ l.stackTraces = false ∧ ∀ q : Nat, s.heap.size ≤ q → A q
/-- from the place pc, the world as it holds between the calls, the law comes to its end -/
def LK (p : Program) (l : Launch) (e : Env) (s : State) (m : MethodId) (below : List Frame) (meth : Method) (c : Code) (b : Nat) (A : Nat → Prop) (Q : State → Prop) (D : va_G) (cI cZ cQ cJ : ClassId) (ad : Nat) (o : Nat) (pa : Nat) (ka : Nat) (fx : Nat → Nat) (sx : Nat → Nat) (x : Nat → Nat) (r : Nat → Nat) (y : Nat → Nat) (rp : Nat → Nat) (rw : Nat → Nat) (rt : Nat → Nat) (pb : Nat) (kb : Nat) (mx : Nat → Nat) (ou : Nat) (tk : Nat → Int32) (i pc cells slots : Nat) : Prop :=
  ∀ (w : Nat → Int32) (q : Nat → Int32) (d : Nat → Int32) (T : Nat → Nat → Int32) (st : Nat → Int32) (re : Nat → Int32) (rc : Int32) (nz : Nat) (P : Nat → Nat → Int32) (n : Nat → Int32) (Wi : Nat → Nat → Int32) (Ti : Nat → Nat → Int32) (nt : Nat) (zo : Nat → Int32) (ke : Nat → Int32) (ff : Nat → Int32) (fg : Nat → Int32) (wt : Int32) (le : Int32) (sf : Nat → Int32) (sg : Nat → Int32) (ra : Nat → Int32) (fo : Int32) (te : Int32) (ot : Int32) (zn : Int32) (co : Int32) (mpr : Nat → Int32) (mwi : Nat → Int32) (mti : Nat → Int32) (mzo : Nat → Int32) (mke : Nat → Int32) (mwy : Nat → Int32) (mst : Nat → Int32) (mtr : Nat → Int32) (mbe : Nat → Int32) (mch : Nat → Int32) (mth : Int32) (fo9 : Nat → Int64), IV w q d T nz nt P n Wi Ti zo ke ff fg tk mpr mwi mti mzo mke → ∀ (H : Heap) (locs : List Loc), va_P D vwCl ((wDp ad o pa ka (fx 0) (sx 0)) ++ ((wOf o (x 0) (y 0)) ++ ((wFl x r cI cZ cQ w q d T st re rc (nI nz)) ++ ((wSt y rp rw rt cI cQ P n Wi Ti (nI nt)) ++ ((wPl pa pb cI zo) ++ ((wPl ka kb cI ke) ++ ((wFs fx cI cZ ff fg tk wt le) ++ ((wSs sx cI sf sg ra fo te ot zn co) ++ ((wMo mx cI cZ w (nI nz) q d (nI nt) mpr mwi mti mzo mke mwy mst mtr mbe mch mth) ++ (wOu ou cJ fo9)))))))))) H → va_D A ((wDp ad o pa ka (fx 0) (sx 0)) ++ ((wOf o (x 0) (y 0)) ++ ((wFl x r cI cZ cQ w q d T st re rc (nI nz)) ++ ((wSt y rp rw rt cI cQ P n Wi Ti (nI nt)) ++ ((wPl pa pb cI zo) ++ ((wPl ka kb cI ke) ++ ((wFs fx cI cZ ff fg tk wt le) ++ ((wSs sx cI sf sg ra fo te ot zn co) ++ ((wMo mx cI cZ w (nI nz) q d (nI nt) mpr mwi mti mzo mke mwy mst mtr mbe mch mth) ++ (wOu ou cJ fo9)))))))))) → va_S A s.heap H locs → ∀ (ls : Array Slot), lv_has ls 7 [(4, .int (nI i)), (0, .ref b), (1, .ref ad), (2, .ref (mx 0)), (3, .ref ou)] → W p l e room_1 s m #[Value.ref b] below meth c H locs cells slots Q (F0 m pc ls [])
set_option maxHeartbeats 4000000 in
set_option maxRecDepth 100000 in
theorem law_c0 (l : Launch) {p : Program} {e : Env} {s : State} {m : MethodId} {below : List Frame} {meth : Method} {c : Code} {b L : Nat} {xs : Nat → Int32} {A : Nat → Prop} {Q : State → Prop} {D : va_G} {cI cZ cQ cJ : ClassId} (ad : Nat) (o : Nat) (pa : Nat) (ka : Nat) (fx : Nat → Nat) (sx : Nat → Nat) (x : Nat → Nat) (r : Nat → Nat) (y : Nat → Nat) (rp : Nat → Nat) (rw : Nat → Nat) (rt : Nat → Nat) (pb : Nat) (kb : Nat) (mx : Nat → Nat) (ou : Nat) (tk : Nat → Int32) (C : LC p l s m c b L xs A D cI cZ cQ cJ) {i : Nat} (hi : i + 4 ≤ L) (K : LK p l e s m below meth c b A Q D cI cZ cQ cJ ad o pa ka fx sx x r y rp rw rt pb kb mx ou tk i 1423 (74 + i + 4) (900 + 6 * i + 24)) : LK p l e s m below meth c b A Q D cI cZ cQ cJ ad o pa ka fx sx x r y rp rw rt pb kb mx ou tk i 156 (74 + i) (900 + 6 * i) := by
  obtain ⟨hx, hb, hml, hown, hts, hX, hbl, hbA, hL, hSt, hDc, hZ, hfl, hA⟩ := C
  intro w q d T st re rc nz P n Wi Ti nt zo ke ff fg wt le sf sg ra fo te ot zn co mpr mwi mti mzo mke mwy mst mtr mbe mch mth fo9 hIV H locs hP hD hS ls hl
  obtain ⟨sq, dn, pp, wi, ti, dd, g, gk, I⟩ := id hIV
  obtain ⟨⟨hnz, hnt⟩, hw, hq, hT, hdd, hdn, hPp, hnn, hwi, hti, hv, hzo, hke, hvg, hvk, hfG, hff2, hfg2, htk, hpP, hmW, hmT, hmz, hmk⟩ := id I
  have hpr : ∀ t, t < nt → ∀ j, j < 5 → mpr (5 * t + j) = nI (pp t j) ∧ pp t j ≤ 60 := fun t ht j hj => by rw [hpP t j (by omega) hj]; exact hPp t ht j hj
  have hmw : ∀ t z, t < 7 → z < 7 → mwi (7 * t + z) = nI (wi t z) := fun t z ht hz => (hmW t z ht hz).trans (hwi t z ht hz)
  have hmt : ∀ t z, t < 7 → z < 7 → mti (7 * t + z) = nI (ti t z) := fun t z ht hz => (hmT t z ht hz).trans (hti t z ht hz)
  have hTd : ∀ u v, u < nz → v < nz → T u v = nI (dd u v) := fun u v hu hv => hdd u v hu hv
  have hdD : ∀ u v, u < nz → v < nz → isD w (sq u) (sq v) (nI (dd u v)) := fun u v hu hv => by rw [← hdd u v hu hv]; exact hT u v hu hv
  have hzz : ∀ u, nt ≤ u → u < 7 → zo u = -1 := fun u h1 h2 => by rw [hzo u h2, vG_out hvg u h1 h2]; rfl
  have hgz7 : gOK nz 7 g := fun t _ => (hvg.1 t).imp And.right id
  have hgzn : gOK nz nt g := fun t _ => (hvg.1 t).imp And.right id
  obtain ⟨nx, hnx⟩ := nx_ex (zo := zo) (ke := ke)
  obtain ⟨nm, hnm⟩ := nm_ex (gk := gk) hzo hvg hnz
  refine lv_aload_n hx hb dL_law_156 rfl (lv_at hl 2 rfl) ?_
  refine lv_aload_n hx hb dL_law_157 rfl (lv_at hl 1 rfl) ?_
  refine lv_iload hx hb dL_law_158 (lv_at hl 0 rfl) ?_
  refine lv_iconst (v := nI 1) hx hb dL_law_160 (by decide) ?_
  refine r_addn hx hb dL_law_161 ?_
  refine va_sld hx hb hX hbl hbA hS (i := nI (i + 1)) (vp_in_nI (by omega) (by omega)) dL_law_162 ?_
  refine lv_as (y := xs (i + 1)) (by rw [nIc (by omega)]) ?_
  refine lv_aload_n hx hb dL_law_163 rfl (lv_at hl 1 rfl) ?_
  refine lv_iload hx hb dL_law_164 (lv_at hl 0 rfl) ?_
  refine lv_iconst (v := nI 2) hx hb dL_law_166 (by decide) ?_
  refine r_addn hx hb dL_law_167 ?_
  refine va_sld hx hb hX hbl hbA hS (i := nI (i + 2)) (vp_in_nI (by omega) (by omega)) dL_law_168 ?_
  refine lv_as (y := xs (i + 2)) (by rw [nIc (by omega)]) ?_
  refine lv_aload_n hx hb dL_law_169 rfl (lv_at hl 1 rfl) ?_
  refine lv_iload hx hb dL_law_170 (lv_at hl 0 rfl) ?_
  refine lv_iconst (v := nI 3) hx hb dL_law_172 (by decide) ?_
  refine r_addn hx hb dL_law_173 ?_
  refine va_sld hx hb hX hbl hbA hS (i := nI (i + 3)) (vp_in_nI (by omega) (by omega)) dL_law_174 ?_
  refine lv_as (y := xs (i + 3)) (by rw [nIc (by omega)]) ?_
  refine lv_if_eq (tgt := 182) hx hb dL_law_175 (by decide) (fun c_1 => ?_) (fun c_1 => ?_)
  · refine lv_iconst (v := nI 0) hx hb dL_law_182 (by decide) ?_
    refine lv_aload_n hx hb dL_law_183 rfl (lv_at hl 4 rfl) ?_
    refine rx_i (wr := (wSt y rp rw rt cI cQ P n Wi Ti (nI nt)) ++ ((wPl pa pb cI zo) ++ ((wPl ka kb cI ke) ++ ((wFs fx cI cZ ff fg tk wt le) ++ ((wSs sx cI sf sg ra fo te ot zn co) ++ (wMo mx cI cZ w (nI nz) q d (nI nt) mpr mwi mti mzo mke mwy mst mtr mbe mch mth)))))) (w_SHX (As := [.ref ad, .int (xs (i + 1)), .int (xs (i + 2)), .int (nI 0), .ref ou]) ⟨hx, hb, hml, hown, hts⟩ (c_L_setWall l D cI cZ cQ cJ ad o pa ka fx sx x r w q d T st re rc nz y sq (xs (i + 1)) (xs (i + 2)) (nI 0) ou fo9 H.size (by first | assumption | omega) (by first | assumption | omega) (by first | assumption | omega) (by first | exact Or.inl rfl | exact Or.inr rfl) (by first | assumption | omega) (by first | assumption | omega)) (gSH t2_85 t2_86 t1_0 t2_87) rfl rfl hd_L_setWall ⟨Nat.le_of_ble_eq_true rfl, Nat.le_of_ble_eq_true rfl⟩ (rx_pre hP hD hSt hDc hZ hS hA [0, 1, 2, 3, 4, 5, 6, 7, 8, 9, 10, 11, 12, 13, 14, 15, 73] rfl (by decide)) rfl hl.1 (rest := []) rfl (Nat.le_of_ble_eq_true rfl) dL_law_184 ⟨(by show _ ≤ 643243; omega), (by show _ ≤ 7166375; omega)⟩) hP hD hS hA [0, 1, 2, 3, 4, 5, 6, 7, 8, 9, 10, 11, 12, 13, 14, 15, 73] [16, 17, 18, 19, 20, 21, 22, 23, 24, 25, 26, 27, 28, 29, 30, 31, 32, 33, 34, 35, 36, 37, 38, 39, 40, 41, 42, 43, 44, 45, 46, 47, 48, 49, 50, 51, 52, 53, 54, 55, 56, 57, 58, 59, 60, 61, 62, 63, 64, 65, 66, 67, 68, 69, 70, 71, 72] rfl rfl (by decide) (by decide) (fun E9 ce9 q9 x9 H locs hx9 hP hD hS hc91 hc92 hc93 => ?_) (fun r_9 u_10 H locs hw9 hP hD hS => ?_)
    · have hx9 : False := hx9
      have hP : va_P D vwCl (((wSt y rp rw rt cI cQ P n Wi Ti (nI nt)) ++ ((wPl pa pb cI zo) ++ ((wPl ka kb cI ke) ++ ((wFs fx cI cZ ff fg tk wt le) ++ ((wSs sx cI sf sg ra fo te ot zn co) ++ (wMo mx cI cZ w (nI nz) q d (nI nt) mpr mwi mti mzo mke mwy mst mtr mbe mch mth)))))) ++ (((wDp ad o pa ka (fx 0) (sx 0)) ++ ((wOf o (x 0) (y 0)) ++ (wFl x r cI cZ cQ w q d T st re rc (nI nz)))) ++ (wOu ou cJ fo9))) H := hP
      have hD : va_D A (((wSt y rp rw rt cI cQ P n Wi Ti (nI nt)) ++ ((wPl pa pb cI zo) ++ ((wPl ka kb cI ke) ++ ((wFs fx cI cZ ff fg tk wt le) ++ ((wSs sx cI sf sg ra fo te ot zn co) ++ (wMo mx cI cZ w (nI nz) q d (nI nt) mpr mwi mti mzo mke mwy mst mtr mbe mch mth)))))) ++ (((wDp ad o pa ka (fx 0) (sx 0)) ++ ((wOf o (x 0) (y 0)) ++ (wFl x r cI cZ cQ w q d T st re rc (nI nz)))) ++ (wOu ou cJ fo9))) := hD
      exact hx9.elim
    · obtain ⟨j_2, j_3, j_4, j_5, j_6, j_7, j_8, j_9⟩ := u_10
      obtain ⟨er_9, f_11, f_12, f_13⟩ := hw9
      replace er_9 := er_9.symm
      subst er_9
      have hsC : sSetWall nz q w (xs (i + 1)) (xs (i + 2)) (nI 0) j_2 j_3 j_4 := f_11
      have hT2C : ∀ u v, u < nz → v < nz → isD j_4 (sq u) (sq v) (j_5 u v) := f_12
      have houC : j_2 = 0 → j_9 0 = (if j_3 = 0 then 0 else 1) := f_13
      have hP : va_P D vwCl (((wSt y rp rw rt cI cQ P n Wi Ti (nI nt)) ++ ((wPl pa pb cI zo) ++ ((wPl ka kb cI ke) ++ ((wFs fx cI cZ ff fg tk wt le) ++ ((wSs sx cI sf sg ra fo te ot zn co) ++ (wMo mx cI cZ w (nI nz) q d (nI nt) mpr mwi mti mzo mke mwy mst mtr mbe mch mth)))))) ++ (((wDp ad o pa ka (fx 0) (sx 0)) ++ ((wOf o (x 0) (y 0)) ++ (wFl x r cI cZ cQ j_4 q d j_5 j_6 j_7 j_8 (nI nz)))) ++ (wOu ou cJ j_9))) H := hP
      have hD : va_D A (((wSt y rp rw rt cI cQ P n Wi Ti (nI nt)) ++ ((wPl pa pb cI zo) ++ ((wPl ka kb cI ke) ++ ((wFs fx cI cZ ff fg tk wt le) ++ ((wSs sx cI sf sg ra fo te ot zn co) ++ (wMo mx cI cZ w (nI nz) q d (nI nt) mpr mwi mti mzo mke mwy mst mtr mbe mch mth)))))) ++ (((wDp ad o pa ka (fx 0) (sx 0)) ++ ((wOf o (x 0) (y 0)) ++ (wFl x r cI cZ cQ j_4 q d j_5 j_6 j_7 j_8 (nI nz)))) ++ (wOu ou cJ j_9))) := hD
      refine lv_istore (lv' := [(5, .int (nI j_2)), (4, .int (nI i)), (0, .ref b), (1, .ref ad), (2, .ref (mx 0)), (3, .ref ou)]) hx hb dL_law_187 hl (by decide) rfl (fun ls hl => ?_)
      refine lv_aload_n hx hb dL_law_189 rfl (lv_at hl 4 rfl) ?_
      refine lv_aload_n hx hb dL_law_190 rfl (lv_at hl 2 rfl) ?_
      refine lv_iload hx hb dL_law_191 (lv_at hl 1 rfl) ?_
      refine lv_iconst (v := nI 1) hx hb dL_law_193 (by decide) ?_
      refine r_addn hx hb dL_law_194 ?_
      refine va_sld hx hb hX hbl hbA hS (i := nI (i + 1)) (vp_in_nI (by omega) (by omega)) dL_law_195 ?_
      refine lv_as (y := xs (i + 1)) (by rw [nIc (by omega)]) ?_
      refine lv_aload_n hx hb dL_law_196 rfl (lv_at hl 2 rfl) ?_
      refine lv_iload hx hb dL_law_197 (lv_at hl 1 rfl) ?_
      refine lv_iconst (v := nI 2) hx hb dL_law_199 (by decide) ?_
      refine r_addn hx hb dL_law_200 ?_
      refine va_sld hx hb hX hbl hbA hS (i := nI (i + 2)) (vp_in_nI (by omega) (by omega)) dL_law_201 ?_
      refine lv_as (y := xs (i + 2)) (by rw [nIc (by omega)]) ?_
      refine lv_aload_n hx hb dL_law_202 rfl (lv_at hl 2 rfl) ?_
      refine lv_iload hx hb dL_law_203 (lv_at hl 1 rfl) ?_
      refine lv_iconst (v := nI 3) hx hb dL_law_205 (by decide) ?_
      refine r_addn hx hb dL_law_206 ?_
      refine va_sld hx hb hX hbl hbA hS (i := nI (i + 3)) (vp_in_nI (by omega) (by omega)) dL_law_207 ?_
      refine lv_as (y := xs (i + 3)) (by rw [nIc (by omega)]) ?_
      refine lv_if_eq (tgt := 215) hx hb dL_law_208 (by decide) (fun c_14 => ?_) (fun c_14 => ?_)
      · refine lv_iconst (v := nI 0) hx hb dL_law_215 (by decide) ?_
        refine rw_i (wr := (wSt y rp rw rt cI cQ P n Wi Ti (nI nt)) ++ ((wPl pa pb cI zo) ++ ((wPl ka kb cI ke) ++ ((wFs fx cI cZ ff fg tk wt le) ++ ((wSs sx cI sf sg ra fo te ot zn co) ++ ((wDp ad o pa ka (fx 0) (sx 0)) ++ ((wOf o (x 0) (y 0)) ++ ((wFl x r cI cZ cQ j_4 q d j_5 j_6 j_7 j_8 (nI nz)) ++ (wOu ou cJ j_9))))))))) (w_V (As := [.int (xs (i + 1)), .int (xs (i + 2)), .int (nI 0)]) ⟨hx, hb, hml, hown, hts⟩ (c_X8_setWall l D cI cZ cQ cJ mx w nz q d nt mpr mwi mti mzo mke mwy mst mtr mbe mch mth sq (xs (i + 1)) (xs (i + 2)) (nI 0) H.size (by first | assumption | omega) (by first | assumption | omega) (by first | assumption | omega) (by first | exact Or.inl rfl | exact Or.inr rfl)) (gV t4_33 t4_34 t4_35 t1_10 t4_36) rfl rfl hd_X8_setWall ⟨Nat.le_of_ble_eq_true rfl, Nat.le_of_ble_eq_true rfl⟩ (rw_pre hP hD hSt [43, 44, 45, 46, 47, 48, 49, 50, 51, 52, 53, 54, 55, 56] rfl (by decide)) (va_recv hSt.1 hP (ci := 8) (q0 := 43) rfl rfl) rfl hl.1 (rest := []) rfl (Nat.le_of_ble_eq_true rfl) dL_law_216 ⟨(by show _ ≤ 643243; omega), (by show _ ≤ 7166375; omega)⟩) hP hD hS hA [43, 44, 45, 46, 47, 48, 49, 50, 51, 52, 53, 54, 55, 56] [0, 1, 2, 3, 4, 5, 6, 7, 8, 9, 10, 11, 12, 13, 14, 15, 16, 17, 18, 19, 20, 21, 22, 23, 24, 25, 26, 27, 28, 29, 30, 31, 32, 33, 34, 35, 36, 37, 38, 39, 40, 41, 42, 57, 58, 59, 60, 61, 62, 63, 64, 65, 66, 67, 68, 69, 70, 71, 72, 73] rfl rfl (by decide) (by decide) (fun r_9 u_18 H locs hw9 hP hD hS => ?_)
        obtain ⟨j_15, j_16, j_17⟩ := u_18
        obtain ⟨er_9, f_19⟩ := hw9
        replace er_9 := er_9.symm
        subst er_9
        have hsM : sSetWall nz q w (xs (i + 1)) (xs (i + 2)) (nI 0) j_16 j_15 j_17 := f_19
        have hP : va_P D vwCl (((wSt y rp rw rt cI cQ P n Wi Ti (nI nt)) ++ ((wPl pa pb cI zo) ++ ((wPl ka kb cI ke) ++ ((wFs fx cI cZ ff fg tk wt le) ++ ((wSs sx cI sf sg ra fo te ot zn co) ++ ((wDp ad o pa ka (fx 0) (sx 0)) ++ ((wOf o (x 0) (y 0)) ++ ((wFl x r cI cZ cQ j_4 q d j_5 j_6 j_7 j_8 (nI nz)) ++ (wOu ou cJ j_9))))))))) ++ (wMo mx cI cZ j_17 (nI nz) q d (nI nt) mpr mwi mti mzo mke mwy mst mtr mbe mch (nI j_16))) H := hP
        have hD : va_D A (((wSt y rp rw rt cI cQ P n Wi Ti (nI nt)) ++ ((wPl pa pb cI zo) ++ ((wPl ka kb cI ke) ++ ((wFs fx cI cZ ff fg tk wt le) ++ ((wSs sx cI sf sg ra fo te ot zn co) ++ ((wDp ad o pa ka (fx 0) (sx 0)) ++ ((wOf o (x 0) (y 0)) ++ ((wFl x r cI cZ cQ j_4 q d j_5 j_6 j_7 j_8 (nI nz)) ++ (wOu ou cJ j_9))))))))) ++ (wMo mx cI cZ j_17 (nI nz) q d (nI nt) mpr mwi mti mzo mke mwy mst mtr mbe mch (nI j_16))) := hD
        refine lv_istore (lv' := [(6, .int j_15), (5, .int (nI j_2)), (4, .int (nI i)), (0, .ref b), (1, .ref ad), (2, .ref (mx 0)), (3, .ref ou)]) hx hb dL_law_219 hl (by decide) rfl (fun ls hl => ?_)
        refine lv_aload_n hx hb dL_law_221 rfl (lv_at hl 5 rfl) ?_
        refine ro_V (As := []) (rest := []) (v := (nI j_16)) ⟨hx, hb, hml, hown, hts⟩ (c_X8_thrown l D cI cZ cQ cJ mx j_17 nz q d nt mpr mwi mti mzo mke mwy mst mtr mbe mch (nI j_16)) (gV t4_29 t4_30 t4_31 t1_10 t4_32) rfl rfl hd_X8_thrown ⟨Nat.le_of_ble_eq_true rfl, Nat.le_of_ble_eq_true rfl⟩ (hP.sub (ws' := wMo mx cI cZ j_17 (nI nz) q d (nI nt) mpr mwi mti mzo mke mwy mst mtr mbe mch (nI j_16)) [60, 61, 62, 63, 64, 65, 66, 67, 68, 69, 70, 71, 72, 73] rfl) hSt (va_recv hSt.1 hP (ci := 8) (q0 := 60) rfl rfl) rfl hl.1 rfl (Nat.le_of_ble_eq_true rfl) dL_law_222 (by show _ ≤ 643243; omega) (by show _ ≤ 7166375; omega) ?_
        have hkb : j_2 ≤ 3 := sSetWall_k hsC
        obtain ⟨hk9, hv9, hu90⟩ := sSetWall_fn hsC hsM
        have hP77 := hP
        have hD77 := hD
        have hl77 := hl
        subst hu90
        have hP := hP77
        have hD := hD77
        have hl := hl77
        refine lv_iload hx hb dL_law_225 (lv_at hl 1 rfl) ?_
        refine lv_icmp_eq (tgt := 232) hx hb dL_law_227 (by decide) (fun c_20 => ?_) (fun c_20 => ?_)
        · refine lv_iload hx hb dL_law_232 (lv_at hl 1 rfl) ?_
          refine lv_if_ne (tgt := 256) hx hb dL_law_234 (by decide) (fun c_21 => ?_) (fun c_21 => ?_)
          · have c_21 := z_ne (a := j_2) (b := 0) (by omega) (by omega) c_21
            refine lv_goto (tgt := 1423) hx hb dL_law_256 (by decide) ?_
            have hIV9 : IV j_17 q d j_5 nz nt P n Wi Ti zo ke ff fg tk mpr mwi mti mzo mke := iv_setWall I (by first | exact Or.inl rfl | exact Or.inr rfl) hsM hT2C
            have hP9 : va_P D vwCl ((wDp ad o pa ka (fx 0) (sx 0)) ++ ((wOf o (x 0) (y 0)) ++ ((wFl x r cI cZ cQ j_17 q d j_5 j_6 j_7 j_8 (nI nz)) ++ ((wSt y rp rw rt cI cQ P n Wi Ti (nI nt)) ++ ((wPl pa pb cI zo) ++ ((wPl ka kb cI ke) ++ ((wFs fx cI cZ ff fg tk wt le) ++ ((wSs sx cI sf sg ra fo te ot zn co) ++ ((wMo mx cI cZ j_17 (nI nz) q d (nI nt) mpr mwi mti mzo mke mwy mst mtr mbe mch (nI j_16)) ++ (wOu ou cJ j_9)))))))))) H := (hP.sub (ws' := (wDp ad o pa ka (fx 0) (sx 0)) ++ ((wOf o (x 0) (y 0)) ++ ((wFl x r cI cZ cQ j_17 q d j_5 j_6 j_7 j_8 (nI nz)) ++ ((wSt y rp rw rt cI cQ P n Wi Ti (nI nt)) ++ ((wPl pa pb cI zo) ++ ((wPl ka kb cI ke) ++ ((wFs fx cI cZ ff fg tk wt le) ++ ((wSs sx cI sf sg ra fo te ot zn co) ++ ((wMo mx cI cZ j_17 (nI nz) q d (nI nt) mpr mwi mti mzo mke mwy mst mtr mbe mch (nI j_16)) ++ (wOu ou cJ j_9)))))))))) [43, 44, 45, 46, 47, 48, 49, 50, 51, 52, 53, 54, 55, 56, 57, 58, 0, 1, 2, 3, 4, 5, 6, 7, 8, 9, 10, 11, 12, 13, 14, 15, 16, 17, 18, 19, 20, 21, 22, 23, 24, 25, 26, 27, 28, 29, 30, 31, 32, 33, 34, 35, 36, 37, 38, 39, 40, 41, 42, 60, 61, 62, 63, 64, 65, 66, 67, 68, 69, 70, 71, 72, 73, 59] rfl)
            have hD9 : va_D A ((wDp ad o pa ka (fx 0) (sx 0)) ++ ((wOf o (x 0) (y 0)) ++ ((wFl x r cI cZ cQ j_17 q d j_5 j_6 j_7 j_8 (nI nz)) ++ ((wSt y rp rw rt cI cQ P n Wi Ti (nI nt)) ++ ((wPl pa pb cI zo) ++ ((wPl ka kb cI ke) ++ ((wFs fx cI cZ ff fg tk wt le) ++ ((wSs sx cI sf sg ra fo te ot zn co) ++ ((wMo mx cI cZ j_17 (nI nz) q d (nI nt) mpr mwi mti mzo mke mwy mst mtr mbe mch (nI j_16)) ++ (wOu ou cJ j_9)))))))))) := (hD.sub (ws' := (wDp ad o pa ka (fx 0) (sx 0)) ++ ((wOf o (x 0) (y 0)) ++ ((wFl x r cI cZ cQ j_17 q d j_5 j_6 j_7 j_8 (nI nz)) ++ ((wSt y rp rw rt cI cQ P n Wi Ti (nI nt)) ++ ((wPl pa pb cI zo) ++ ((wPl ka kb cI ke) ++ ((wFs fx cI cZ ff fg tk wt le) ++ ((wSs sx cI sf sg ra fo te ot zn co) ++ ((wMo mx cI cZ j_17 (nI nz) q d (nI nt) mpr mwi mti mzo mke mwy mst mtr mbe mch (nI j_16)) ++ (wOu ou cJ j_9)))))))))) [43, 44, 45, 46, 47, 48, 49, 50, 51, 52, 53, 54, 55, 56, 57, 58, 0, 1, 2, 3, 4, 5, 6, 7, 8, 9, 10, 11, 12, 13, 14, 15, 16, 17, 18, 19, 20, 21, 22, 23, 24, 25, 26, 27, 28, 29, 30, 31, 32, 33, 34, 35, 36, 37, 38, 39, 40, 41, 42, 60, 61, 62, 63, 64, 65, 66, 67, 68, 69, 70, 71, 72, 73, 59] (by decide) rfl)
            refine W.widen (k := 74 + i + 4) (n := 900 + 6 * i + 24) (by omega) (by omega) ?_
            exact K j_17 q d j_5 j_6 j_7 j_8 nz P n Wi Ti nt zo ke ff fg wt le sf sg ra fo te ot zn co mpr mwi mti mzo mke mwy mst mtr mbe mch (nI j_16) j_9 hIV9 H locs hP9 hD9 hS ls (lv_sub hl [2, 3, 4, 5, 6] rfl)
          · have c_21 := z_eq (a := j_2) (b := 0) (by omega) (by omega) c_21
            refine lv_aload_n hx hb dL_law_237 rfl (lv_at hl 6 rfl) ?_
            refine lv_iconst (v := nI 0) hx hb dL_law_238 (by decide) ?_
            refine r_lald hx hb hSt.1 hP 59 3 rfl rfl (k := 0) (by omega) (by omega) dL_law_239 ?_
            refine lv_iload hx hb dL_law_240 (lv_at hl 0 rfl) ?_
            refine lv_if_eq (tgt := 249) hx hb dL_law_242 (by decide) (fun c_22 => ?_) (fun c_22 => ?_)
            · refine lv_lconst (v := (0 : Int64)) hx hb dL_law_249 rfl ?_
              refine W.lcmp hx hb dL_law_250 ?_
              refine lv_if_eq (tgt := 256) hx hb dL_law_251 (by decide) (fun c_23 => ?_) (fun c_23 => ?_)
              · refine lv_goto (tgt := 1423) hx hb dL_law_256 (by decide) ?_
                have hIV9 : IV j_17 q d j_5 nz nt P n Wi Ti zo ke ff fg tk mpr mwi mti mzo mke := iv_setWall I (by first | exact Or.inl rfl | exact Or.inr rfl) hsM hT2C
                have hP9 : va_P D vwCl ((wDp ad o pa ka (fx 0) (sx 0)) ++ ((wOf o (x 0) (y 0)) ++ ((wFl x r cI cZ cQ j_17 q d j_5 j_6 j_7 j_8 (nI nz)) ++ ((wSt y rp rw rt cI cQ P n Wi Ti (nI nt)) ++ ((wPl pa pb cI zo) ++ ((wPl ka kb cI ke) ++ ((wFs fx cI cZ ff fg tk wt le) ++ ((wSs sx cI sf sg ra fo te ot zn co) ++ ((wMo mx cI cZ j_17 (nI nz) q d (nI nt) mpr mwi mti mzo mke mwy mst mtr mbe mch (nI j_16)) ++ (wOu ou cJ j_9)))))))))) H := (hP.sub (ws' := (wDp ad o pa ka (fx 0) (sx 0)) ++ ((wOf o (x 0) (y 0)) ++ ((wFl x r cI cZ cQ j_17 q d j_5 j_6 j_7 j_8 (nI nz)) ++ ((wSt y rp rw rt cI cQ P n Wi Ti (nI nt)) ++ ((wPl pa pb cI zo) ++ ((wPl ka kb cI ke) ++ ((wFs fx cI cZ ff fg tk wt le) ++ ((wSs sx cI sf sg ra fo te ot zn co) ++ ((wMo mx cI cZ j_17 (nI nz) q d (nI nt) mpr mwi mti mzo mke mwy mst mtr mbe mch (nI j_16)) ++ (wOu ou cJ j_9)))))))))) [43, 44, 45, 46, 47, 48, 49, 50, 51, 52, 53, 54, 55, 56, 57, 58, 0, 1, 2, 3, 4, 5, 6, 7, 8, 9, 10, 11, 12, 13, 14, 15, 16, 17, 18, 19, 20, 21, 22, 23, 24, 25, 26, 27, 28, 29, 30, 31, 32, 33, 34, 35, 36, 37, 38, 39, 40, 41, 42, 60, 61, 62, 63, 64, 65, 66, 67, 68, 69, 70, 71, 72, 73, 59] rfl)
                have hD9 : va_D A ((wDp ad o pa ka (fx 0) (sx 0)) ++ ((wOf o (x 0) (y 0)) ++ ((wFl x r cI cZ cQ j_17 q d j_5 j_6 j_7 j_8 (nI nz)) ++ ((wSt y rp rw rt cI cQ P n Wi Ti (nI nt)) ++ ((wPl pa pb cI zo) ++ ((wPl ka kb cI ke) ++ ((wFs fx cI cZ ff fg tk wt le) ++ ((wSs sx cI sf sg ra fo te ot zn co) ++ ((wMo mx cI cZ j_17 (nI nz) q d (nI nt) mpr mwi mti mzo mke mwy mst mtr mbe mch (nI j_16)) ++ (wOu ou cJ j_9)))))))))) := (hD.sub (ws' := (wDp ad o pa ka (fx 0) (sx 0)) ++ ((wOf o (x 0) (y 0)) ++ ((wFl x r cI cZ cQ j_17 q d j_5 j_6 j_7 j_8 (nI nz)) ++ ((wSt y rp rw rt cI cQ P n Wi Ti (nI nt)) ++ ((wPl pa pb cI zo) ++ ((wPl ka kb cI ke) ++ ((wFs fx cI cZ ff fg tk wt le) ++ ((wSs sx cI sf sg ra fo te ot zn co) ++ ((wMo mx cI cZ j_17 (nI nz) q d (nI nt) mpr mwi mti mzo mke mwy mst mtr mbe mch (nI j_16)) ++ (wOu ou cJ j_9)))))))))) [43, 44, 45, 46, 47, 48, 49, 50, 51, 52, 53, 54, 55, 56, 57, 58, 0, 1, 2, 3, 4, 5, 6, 7, 8, 9, 10, 11, 12, 13, 14, 15, 16, 17, 18, 19, 20, 21, 22, 23, 24, 25, 26, 27, 28, 29, 30, 31, 32, 33, 34, 35, 36, 37, 38, 39, 40, 41, 42, 60, 61, 62, 63, 64, 65, 66, 67, 68, 69, 70, 71, 72, 73, 59] (by decide) rfl)
                refine W.widen (k := 74 + i + 4) (n := 900 + 6 * i + 24) (by omega) (by omega) ?_
                exact K j_17 q d j_5 j_6 j_7 j_8 nz P n Wi Ti nt zo ke ff fg wt le sf sg ra fo te ot zn co mpr mwi mti mzo mke mwy mst mtr mbe mch (nI j_16) j_9 hIV9 H locs hP9 hD9 hS ls (lv_sub hl [2, 3, 4, 5, 6] rfl)
              · exact absurd ((lg_cmp_eq _ _).mpr ((houC c_21).trans (if_pos ((hv9 c_21).trans c_22)))) c_23
            · refine lv_lconst (v := (1 : Int64)) hx hb dL_law_245 rfl ?_
              refine lv_goto (tgt := 250) hx hb dL_law_246 (by decide) ?_
              refine W.lcmp hx hb dL_law_250 ?_
              refine lv_if_eq (tgt := 256) hx hb dL_law_251 (by decide) (fun c_24 => ?_) (fun c_24 => ?_)
              · refine lv_goto (tgt := 1423) hx hb dL_law_256 (by decide) ?_
                have hIV9 : IV j_17 q d j_5 nz nt P n Wi Ti zo ke ff fg tk mpr mwi mti mzo mke := iv_setWall I (by first | exact Or.inl rfl | exact Or.inr rfl) hsM hT2C
                have hP9 : va_P D vwCl ((wDp ad o pa ka (fx 0) (sx 0)) ++ ((wOf o (x 0) (y 0)) ++ ((wFl x r cI cZ cQ j_17 q d j_5 j_6 j_7 j_8 (nI nz)) ++ ((wSt y rp rw rt cI cQ P n Wi Ti (nI nt)) ++ ((wPl pa pb cI zo) ++ ((wPl ka kb cI ke) ++ ((wFs fx cI cZ ff fg tk wt le) ++ ((wSs sx cI sf sg ra fo te ot zn co) ++ ((wMo mx cI cZ j_17 (nI nz) q d (nI nt) mpr mwi mti mzo mke mwy mst mtr mbe mch (nI j_16)) ++ (wOu ou cJ j_9)))))))))) H := (hP.sub (ws' := (wDp ad o pa ka (fx 0) (sx 0)) ++ ((wOf o (x 0) (y 0)) ++ ((wFl x r cI cZ cQ j_17 q d j_5 j_6 j_7 j_8 (nI nz)) ++ ((wSt y rp rw rt cI cQ P n Wi Ti (nI nt)) ++ ((wPl pa pb cI zo) ++ ((wPl ka kb cI ke) ++ ((wFs fx cI cZ ff fg tk wt le) ++ ((wSs sx cI sf sg ra fo te ot zn co) ++ ((wMo mx cI cZ j_17 (nI nz) q d (nI nt) mpr mwi mti mzo mke mwy mst mtr mbe mch (nI j_16)) ++ (wOu ou cJ j_9)))))))))) [43, 44, 45, 46, 47, 48, 49, 50, 51, 52, 53, 54, 55, 56, 57, 58, 0, 1, 2, 3, 4, 5, 6, 7, 8, 9, 10, 11, 12, 13, 14, 15, 16, 17, 18, 19, 20, 21, 22, 23, 24, 25, 26, 27, 28, 29, 30, 31, 32, 33, 34, 35, 36, 37, 38, 39, 40, 41, 42, 60, 61, 62, 63, 64, 65, 66, 67, 68, 69, 70, 71, 72, 73, 59] rfl)
                have hD9 : va_D A ((wDp ad o pa ka (fx 0) (sx 0)) ++ ((wOf o (x 0) (y 0)) ++ ((wFl x r cI cZ cQ j_17 q d j_5 j_6 j_7 j_8 (nI nz)) ++ ((wSt y rp rw rt cI cQ P n Wi Ti (nI nt)) ++ ((wPl pa pb cI zo) ++ ((wPl ka kb cI ke) ++ ((wFs fx cI cZ ff fg tk wt le) ++ ((wSs sx cI sf sg ra fo te ot zn co) ++ ((wMo mx cI cZ j_17 (nI nz) q d (nI nt) mpr mwi mti mzo mke mwy mst mtr mbe mch (nI j_16)) ++ (wOu ou cJ j_9)))))))))) := (hD.sub (ws' := (wDp ad o pa ka (fx 0) (sx 0)) ++ ((wOf o (x 0) (y 0)) ++ ((wFl x r cI cZ cQ j_17 q d j_5 j_6 j_7 j_8 (nI nz)) ++ ((wSt y rp rw rt cI cQ P n Wi Ti (nI nt)) ++ ((wPl pa pb cI zo) ++ ((wPl ka kb cI ke) ++ ((wFs fx cI cZ ff fg tk wt le) ++ ((wSs sx cI sf sg ra fo te ot zn co) ++ ((wMo mx cI cZ j_17 (nI nz) q d (nI nt) mpr mwi mti mzo mke mwy mst mtr mbe mch (nI j_16)) ++ (wOu ou cJ j_9)))))))))) [43, 44, 45, 46, 47, 48, 49, 50, 51, 52, 53, 54, 55, 56, 57, 58, 0, 1, 2, 3, 4, 5, 6, 7, 8, 9, 10, 11, 12, 13, 14, 15, 16, 17, 18, 19, 20, 21, 22, 23, 24, 25, 26, 27, 28, 29, 30, 31, 32, 33, 34, 35, 36, 37, 38, 39, 40, 41, 42, 60, 61, 62, 63, 64, 65, 66, 67, 68, 69, 70, 71, 72, 73, 59] (by decide) rfl)
                refine W.widen (k := 74 + i + 4) (n := 900 + 6 * i + 24) (by omega) (by omega) ?_
                exact K j_17 q d j_5 j_6 j_7 j_8 nz P n Wi Ti nt zo ke ff fg wt le sf sg ra fo te ot zn co mpr mwi mti mzo mke mwy mst mtr mbe mch (nI j_16) j_9 hIV9 H locs hP9 hD9 hS ls (lv_sub hl [2, 3, 4, 5, 6] rfl)
              · exact absurd ((lg_cmp_eq _ _).mpr ((houC c_21).trans (if_neg (fun q9 => c_22 ((hv9 c_21).symm.trans q9))))) c_24
        · exact absurd (congrArg nI hk9) c_20
      · exact absurd c_1 c_14
  · refine lv_iconst (v := nI 1) hx hb dL_law_178 (by decide) ?_
    refine lv_goto (tgt := 183) hx hb dL_law_179 (by decide) ?_
    refine lv_aload_n hx hb dL_law_183 rfl (lv_at hl 4 rfl) ?_
    refine rx_i (wr := (wSt y rp rw rt cI cQ P n Wi Ti (nI nt)) ++ ((wPl pa pb cI zo) ++ ((wPl ka kb cI ke) ++ ((wFs fx cI cZ ff fg tk wt le) ++ ((wSs sx cI sf sg ra fo te ot zn co) ++ (wMo mx cI cZ w (nI nz) q d (nI nt) mpr mwi mti mzo mke mwy mst mtr mbe mch mth)))))) (w_SHX (As := [.ref ad, .int (xs (i + 1)), .int (xs (i + 2)), .int (nI 1), .ref ou]) ⟨hx, hb, hml, hown, hts⟩ (c_L_setWall l D cI cZ cQ cJ ad o pa ka fx sx x r w q d T st re rc nz y sq (xs (i + 1)) (xs (i + 2)) (nI 1) ou fo9 H.size (by first | assumption | omega) (by first | assumption | omega) (by first | assumption | omega) (by first | exact Or.inl rfl | exact Or.inr rfl) (by first | assumption | omega) (by first | assumption | omega)) (gSH t2_85 t2_86 t1_0 t2_87) rfl rfl hd_L_setWall ⟨Nat.le_of_ble_eq_true rfl, Nat.le_of_ble_eq_true rfl⟩ (rx_pre hP hD hSt hDc hZ hS hA [0, 1, 2, 3, 4, 5, 6, 7, 8, 9, 10, 11, 12, 13, 14, 15, 73] rfl (by decide)) rfl hl.1 (rest := []) rfl (Nat.le_of_ble_eq_true rfl) dL_law_184 ⟨(by show _ ≤ 643243; omega), (by show _ ≤ 7166375; omega)⟩) hP hD hS hA [0, 1, 2, 3, 4, 5, 6, 7, 8, 9, 10, 11, 12, 13, 14, 15, 73] [16, 17, 18, 19, 20, 21, 22, 23, 24, 25, 26, 27, 28, 29, 30, 31, 32, 33, 34, 35, 36, 37, 38, 39, 40, 41, 42, 43, 44, 45, 46, 47, 48, 49, 50, 51, 52, 53, 54, 55, 56, 57, 58, 59, 60, 61, 62, 63, 64, 65, 66, 67, 68, 69, 70, 71, 72] rfl rfl (by decide) (by decide) (fun E9 ce9 q9 x9 H locs hx9 hP hD hS hc91 hc92 hc93 => ?_) (fun r_9 u_33 H locs hw9 hP hD hS => ?_)
    · have hx9 : False := hx9
      have hP : va_P D vwCl (((wSt y rp rw rt cI cQ P n Wi Ti (nI nt)) ++ ((wPl pa pb cI zo) ++ ((wPl ka kb cI ke) ++ ((wFs fx cI cZ ff fg tk wt le) ++ ((wSs sx cI sf sg ra fo te ot zn co) ++ (wMo mx cI cZ w (nI nz) q d (nI nt) mpr mwi mti mzo mke mwy mst mtr mbe mch mth)))))) ++ (((wDp ad o pa ka (fx 0) (sx 0)) ++ ((wOf o (x 0) (y 0)) ++ (wFl x r cI cZ cQ w q d T st re rc (nI nz)))) ++ (wOu ou cJ fo9))) H := hP
      have hD : va_D A (((wSt y rp rw rt cI cQ P n Wi Ti (nI nt)) ++ ((wPl pa pb cI zo) ++ ((wPl ka kb cI ke) ++ ((wFs fx cI cZ ff fg tk wt le) ++ ((wSs sx cI sf sg ra fo te ot zn co) ++ (wMo mx cI cZ w (nI nz) q d (nI nt) mpr mwi mti mzo mke mwy mst mtr mbe mch mth)))))) ++ (((wDp ad o pa ka (fx 0) (sx 0)) ++ ((wOf o (x 0) (y 0)) ++ (wFl x r cI cZ cQ w q d T st re rc (nI nz)))) ++ (wOu ou cJ fo9))) := hD
      exact hx9.elim
    · obtain ⟨j_25, j_26, j_27, j_28, j_29, j_30, j_31, j_32⟩ := u_33
      obtain ⟨er_9, f_34, f_35, f_36⟩ := hw9
      replace er_9 := er_9.symm
      subst er_9
      have hsC : sSetWall nz q w (xs (i + 1)) (xs (i + 2)) (nI 1) j_25 j_26 j_27 := f_34
      have hT2C : ∀ u v, u < nz → v < nz → isD j_27 (sq u) (sq v) (j_28 u v) := f_35
      have houC : j_25 = 0 → j_32 0 = (if j_26 = 0 then 0 else 1) := f_36
      have hP : va_P D vwCl (((wSt y rp rw rt cI cQ P n Wi Ti (nI nt)) ++ ((wPl pa pb cI zo) ++ ((wPl ka kb cI ke) ++ ((wFs fx cI cZ ff fg tk wt le) ++ ((wSs sx cI sf sg ra fo te ot zn co) ++ (wMo mx cI cZ w (nI nz) q d (nI nt) mpr mwi mti mzo mke mwy mst mtr mbe mch mth)))))) ++ (((wDp ad o pa ka (fx 0) (sx 0)) ++ ((wOf o (x 0) (y 0)) ++ (wFl x r cI cZ cQ j_27 q d j_28 j_29 j_30 j_31 (nI nz)))) ++ (wOu ou cJ j_32))) H := hP
      have hD : va_D A (((wSt y rp rw rt cI cQ P n Wi Ti (nI nt)) ++ ((wPl pa pb cI zo) ++ ((wPl ka kb cI ke) ++ ((wFs fx cI cZ ff fg tk wt le) ++ ((wSs sx cI sf sg ra fo te ot zn co) ++ (wMo mx cI cZ w (nI nz) q d (nI nt) mpr mwi mti mzo mke mwy mst mtr mbe mch mth)))))) ++ (((wDp ad o pa ka (fx 0) (sx 0)) ++ ((wOf o (x 0) (y 0)) ++ (wFl x r cI cZ cQ j_27 q d j_28 j_29 j_30 j_31 (nI nz)))) ++ (wOu ou cJ j_32))) := hD
      refine lv_istore (lv' := [(5, .int (nI j_25)), (4, .int (nI i)), (0, .ref b), (1, .ref ad), (2, .ref (mx 0)), (3, .ref ou)]) hx hb dL_law_187 hl (by decide) rfl (fun ls hl => ?_)
      refine lv_aload_n hx hb dL_law_189 rfl (lv_at hl 4 rfl) ?_
      refine lv_aload_n hx hb dL_law_190 rfl (lv_at hl 2 rfl) ?_
      refine lv_iload hx hb dL_law_191 (lv_at hl 1 rfl) ?_
      refine lv_iconst (v := nI 1) hx hb dL_law_193 (by decide) ?_
      refine r_addn hx hb dL_law_194 ?_
      refine va_sld hx hb hX hbl hbA hS (i := nI (i + 1)) (vp_in_nI (by omega) (by omega)) dL_law_195 ?_
      refine lv_as (y := xs (i + 1)) (by rw [nIc (by omega)]) ?_
      refine lv_aload_n hx hb dL_law_196 rfl (lv_at hl 2 rfl) ?_
      refine lv_iload hx hb dL_law_197 (lv_at hl 1 rfl) ?_
      refine lv_iconst (v := nI 2) hx hb dL_law_199 (by decide) ?_
      refine r_addn hx hb dL_law_200 ?_
      refine va_sld hx hb hX hbl hbA hS (i := nI (i + 2)) (vp_in_nI (by omega) (by omega)) dL_law_201 ?_
      refine lv_as (y := xs (i + 2)) (by rw [nIc (by omega)]) ?_
      refine lv_aload_n hx hb dL_law_202 rfl (lv_at hl 2 rfl) ?_
      refine lv_iload hx hb dL_law_203 (lv_at hl 1 rfl) ?_
      refine lv_iconst (v := nI 3) hx hb dL_law_205 (by decide) ?_
      refine r_addn hx hb dL_law_206 ?_
      refine va_sld hx hb hX hbl hbA hS (i := nI (i + 3)) (vp_in_nI (by omega) (by omega)) dL_law_207 ?_
      refine lv_as (y := xs (i + 3)) (by rw [nIc (by omega)]) ?_
      refine lv_if_eq (tgt := 215) hx hb dL_law_208 (by decide) (fun c_37 => ?_) (fun c_37 => ?_)
      · exact absurd c_37 c_1
      · refine lv_iconst (v := nI 1) hx hb dL_law_211 (by decide) ?_
        refine lv_goto (tgt := 216) hx hb dL_law_212 (by decide) ?_
        refine rw_i (wr := (wSt y rp rw rt cI cQ P n Wi Ti (nI nt)) ++ ((wPl pa pb cI zo) ++ ((wPl ka kb cI ke) ++ ((wFs fx cI cZ ff fg tk wt le) ++ ((wSs sx cI sf sg ra fo te ot zn co) ++ ((wDp ad o pa ka (fx 0) (sx 0)) ++ ((wOf o (x 0) (y 0)) ++ ((wFl x r cI cZ cQ j_27 q d j_28 j_29 j_30 j_31 (nI nz)) ++ (wOu ou cJ j_32))))))))) (w_V (As := [.int (xs (i + 1)), .int (xs (i + 2)), .int (nI 1)]) ⟨hx, hb, hml, hown, hts⟩ (c_X8_setWall l D cI cZ cQ cJ mx w nz q d nt mpr mwi mti mzo mke mwy mst mtr mbe mch mth sq (xs (i + 1)) (xs (i + 2)) (nI 1) H.size (by first | assumption | omega) (by first | assumption | omega) (by first | assumption | omega) (by first | exact Or.inl rfl | exact Or.inr rfl)) (gV t4_33 t4_34 t4_35 t1_10 t4_36) rfl rfl hd_X8_setWall ⟨Nat.le_of_ble_eq_true rfl, Nat.le_of_ble_eq_true rfl⟩ (rw_pre hP hD hSt [43, 44, 45, 46, 47, 48, 49, 50, 51, 52, 53, 54, 55, 56] rfl (by decide)) (va_recv hSt.1 hP (ci := 8) (q0 := 43) rfl rfl) rfl hl.1 (rest := []) rfl (Nat.le_of_ble_eq_true rfl) dL_law_216 ⟨(by show _ ≤ 643243; omega), (by show _ ≤ 7166375; omega)⟩) hP hD hS hA [43, 44, 45, 46, 47, 48, 49, 50, 51, 52, 53, 54, 55, 56] [0, 1, 2, 3, 4, 5, 6, 7, 8, 9, 10, 11, 12, 13, 14, 15, 16, 17, 18, 19, 20, 21, 22, 23, 24, 25, 26, 27, 28, 29, 30, 31, 32, 33, 34, 35, 36, 37, 38, 39, 40, 41, 42, 57, 58, 59, 60, 61, 62, 63, 64, 65, 66, 67, 68, 69, 70, 71, 72, 73] rfl rfl (by decide) (by decide) (fun r_9 u_41 H locs hw9 hP hD hS => ?_)
        obtain ⟨j_38, j_39, j_40⟩ := u_41
        obtain ⟨er_9, f_42⟩ := hw9
        replace er_9 := er_9.symm
        subst er_9
        have hsM : sSetWall nz q w (xs (i + 1)) (xs (i + 2)) (nI 1) j_39 j_38 j_40 := f_42
        have hP : va_P D vwCl (((wSt y rp rw rt cI cQ P n Wi Ti (nI nt)) ++ ((wPl pa pb cI zo) ++ ((wPl ka kb cI ke) ++ ((wFs fx cI cZ ff fg tk wt le) ++ ((wSs sx cI sf sg ra fo te ot zn co) ++ ((wDp ad o pa ka (fx 0) (sx 0)) ++ ((wOf o (x 0) (y 0)) ++ ((wFl x r cI cZ cQ j_27 q d j_28 j_29 j_30 j_31 (nI nz)) ++ (wOu ou cJ j_32))))))))) ++ (wMo mx cI cZ j_40 (nI nz) q d (nI nt) mpr mwi mti mzo mke mwy mst mtr mbe mch (nI j_39))) H := hP
        have hD : va_D A (((wSt y rp rw rt cI cQ P n Wi Ti (nI nt)) ++ ((wPl pa pb cI zo) ++ ((wPl ka kb cI ke) ++ ((wFs fx cI cZ ff fg tk wt le) ++ ((wSs sx cI sf sg ra fo te ot zn co) ++ ((wDp ad o pa ka (fx 0) (sx 0)) ++ ((wOf o (x 0) (y 0)) ++ ((wFl x r cI cZ cQ j_27 q d j_28 j_29 j_30 j_31 (nI nz)) ++ (wOu ou cJ j_32))))))))) ++ (wMo mx cI cZ j_40 (nI nz) q d (nI nt) mpr mwi mti mzo mke mwy mst mtr mbe mch (nI j_39))) := hD
        refine lv_istore (lv' := [(6, .int j_38), (5, .int (nI j_25)), (4, .int (nI i)), (0, .ref b), (1, .ref ad), (2, .ref (mx 0)), (3, .ref ou)]) hx hb dL_law_219 hl (by decide) rfl (fun ls hl => ?_)
        refine lv_aload_n hx hb dL_law_221 rfl (lv_at hl 5 rfl) ?_
        refine ro_V (As := []) (rest := []) (v := (nI j_39)) ⟨hx, hb, hml, hown, hts⟩ (c_X8_thrown l D cI cZ cQ cJ mx j_40 nz q d nt mpr mwi mti mzo mke mwy mst mtr mbe mch (nI j_39)) (gV t4_29 t4_30 t4_31 t1_10 t4_32) rfl rfl hd_X8_thrown ⟨Nat.le_of_ble_eq_true rfl, Nat.le_of_ble_eq_true rfl⟩ (hP.sub (ws' := wMo mx cI cZ j_40 (nI nz) q d (nI nt) mpr mwi mti mzo mke mwy mst mtr mbe mch (nI j_39)) [60, 61, 62, 63, 64, 65, 66, 67, 68, 69, 70, 71, 72, 73] rfl) hSt (va_recv hSt.1 hP (ci := 8) (q0 := 60) rfl rfl) rfl hl.1 rfl (Nat.le_of_ble_eq_true rfl) dL_law_222 (by show _ ≤ 643243; omega) (by show _ ≤ 7166375; omega) ?_
        have hkb : j_25 ≤ 3 := sSetWall_k hsC
        obtain ⟨hk9, hv9, hu90⟩ := sSetWall_fn hsC hsM
        have hP77 := hP
        have hD77 := hD
        have hl77 := hl
        subst hu90
        have hP := hP77
        have hD := hD77
        have hl := hl77
        refine lv_iload hx hb dL_law_225 (lv_at hl 1 rfl) ?_
        refine lv_icmp_eq (tgt := 232) hx hb dL_law_227 (by decide) (fun c_43 => ?_) (fun c_43 => ?_)
        · refine lv_iload hx hb dL_law_232 (lv_at hl 1 rfl) ?_
          refine lv_if_ne (tgt := 256) hx hb dL_law_234 (by decide) (fun c_44 => ?_) (fun c_44 => ?_)
          · have c_44 := z_ne (a := j_25) (b := 0) (by omega) (by omega) c_44
            refine lv_goto (tgt := 1423) hx hb dL_law_256 (by decide) ?_
            have hIV9 : IV j_40 q d j_28 nz nt P n Wi Ti zo ke ff fg tk mpr mwi mti mzo mke := iv_setWall I (by first | exact Or.inl rfl | exact Or.inr rfl) hsM hT2C
            have hP9 : va_P D vwCl ((wDp ad o pa ka (fx 0) (sx 0)) ++ ((wOf o (x 0) (y 0)) ++ ((wFl x r cI cZ cQ j_40 q d j_28 j_29 j_30 j_31 (nI nz)) ++ ((wSt y rp rw rt cI cQ P n Wi Ti (nI nt)) ++ ((wPl pa pb cI zo) ++ ((wPl ka kb cI ke) ++ ((wFs fx cI cZ ff fg tk wt le) ++ ((wSs sx cI sf sg ra fo te ot zn co) ++ ((wMo mx cI cZ j_40 (nI nz) q d (nI nt) mpr mwi mti mzo mke mwy mst mtr mbe mch (nI j_39)) ++ (wOu ou cJ j_32)))))))))) H := (hP.sub (ws' := (wDp ad o pa ka (fx 0) (sx 0)) ++ ((wOf o (x 0) (y 0)) ++ ((wFl x r cI cZ cQ j_40 q d j_28 j_29 j_30 j_31 (nI nz)) ++ ((wSt y rp rw rt cI cQ P n Wi Ti (nI nt)) ++ ((wPl pa pb cI zo) ++ ((wPl ka kb cI ke) ++ ((wFs fx cI cZ ff fg tk wt le) ++ ((wSs sx cI sf sg ra fo te ot zn co) ++ ((wMo mx cI cZ j_40 (nI nz) q d (nI nt) mpr mwi mti mzo mke mwy mst mtr mbe mch (nI j_39)) ++ (wOu ou cJ j_32)))))))))) [43, 44, 45, 46, 47, 48, 49, 50, 51, 52, 53, 54, 55, 56, 57, 58, 0, 1, 2, 3, 4, 5, 6, 7, 8, 9, 10, 11, 12, 13, 14, 15, 16, 17, 18, 19, 20, 21, 22, 23, 24, 25, 26, 27, 28, 29, 30, 31, 32, 33, 34, 35, 36, 37, 38, 39, 40, 41, 42, 60, 61, 62, 63, 64, 65, 66, 67, 68, 69, 70, 71, 72, 73, 59] rfl)
            have hD9 : va_D A ((wDp ad o pa ka (fx 0) (sx 0)) ++ ((wOf o (x 0) (y 0)) ++ ((wFl x r cI cZ cQ j_40 q d j_28 j_29 j_30 j_31 (nI nz)) ++ ((wSt y rp rw rt cI cQ P n Wi Ti (nI nt)) ++ ((wPl pa pb cI zo) ++ ((wPl ka kb cI ke) ++ ((wFs fx cI cZ ff fg tk wt le) ++ ((wSs sx cI sf sg ra fo te ot zn co) ++ ((wMo mx cI cZ j_40 (nI nz) q d (nI nt) mpr mwi mti mzo mke mwy mst mtr mbe mch (nI j_39)) ++ (wOu ou cJ j_32)))))))))) := (hD.sub (ws' := (wDp ad o pa ka (fx 0) (sx 0)) ++ ((wOf o (x 0) (y 0)) ++ ((wFl x r cI cZ cQ j_40 q d j_28 j_29 j_30 j_31 (nI nz)) ++ ((wSt y rp rw rt cI cQ P n Wi Ti (nI nt)) ++ ((wPl pa pb cI zo) ++ ((wPl ka kb cI ke) ++ ((wFs fx cI cZ ff fg tk wt le) ++ ((wSs sx cI sf sg ra fo te ot zn co) ++ ((wMo mx cI cZ j_40 (nI nz) q d (nI nt) mpr mwi mti mzo mke mwy mst mtr mbe mch (nI j_39)) ++ (wOu ou cJ j_32)))))))))) [43, 44, 45, 46, 47, 48, 49, 50, 51, 52, 53, 54, 55, 56, 57, 58, 0, 1, 2, 3, 4, 5, 6, 7, 8, 9, 10, 11, 12, 13, 14, 15, 16, 17, 18, 19, 20, 21, 22, 23, 24, 25, 26, 27, 28, 29, 30, 31, 32, 33, 34, 35, 36, 37, 38, 39, 40, 41, 42, 60, 61, 62, 63, 64, 65, 66, 67, 68, 69, 70, 71, 72, 73, 59] (by decide) rfl)
            refine W.widen (k := 74 + i + 4) (n := 900 + 6 * i + 24) (by omega) (by omega) ?_
            exact K j_40 q d j_28 j_29 j_30 j_31 nz P n Wi Ti nt zo ke ff fg wt le sf sg ra fo te ot zn co mpr mwi mti mzo mke mwy mst mtr mbe mch (nI j_39) j_32 hIV9 H locs hP9 hD9 hS ls (lv_sub hl [2, 3, 4, 5, 6] rfl)
          · have c_44 := z_eq (a := j_25) (b := 0) (by omega) (by omega) c_44
            refine lv_aload_n hx hb dL_law_237 rfl (lv_at hl 6 rfl) ?_
            refine lv_iconst (v := nI 0) hx hb dL_law_238 (by decide) ?_
            refine r_lald hx hb hSt.1 hP 59 3 rfl rfl (k := 0) (by omega) (by omega) dL_law_239 ?_
            refine lv_iload hx hb dL_law_240 (lv_at hl 0 rfl) ?_
            refine lv_if_eq (tgt := 249) hx hb dL_law_242 (by decide) (fun c_45 => ?_) (fun c_45 => ?_)
            · refine lv_lconst (v := (0 : Int64)) hx hb dL_law_249 rfl ?_
              refine W.lcmp hx hb dL_law_250 ?_
              refine lv_if_eq (tgt := 256) hx hb dL_law_251 (by decide) (fun c_46 => ?_) (fun c_46 => ?_)
              · refine lv_goto (tgt := 1423) hx hb dL_law_256 (by decide) ?_
                have hIV9 : IV j_40 q d j_28 nz nt P n Wi Ti zo ke ff fg tk mpr mwi mti mzo mke := iv_setWall I (by first | exact Or.inl rfl | exact Or.inr rfl) hsM hT2C
                have hP9 : va_P D vwCl ((wDp ad o pa ka (fx 0) (sx 0)) ++ ((wOf o (x 0) (y 0)) ++ ((wFl x r cI cZ cQ j_40 q d j_28 j_29 j_30 j_31 (nI nz)) ++ ((wSt y rp rw rt cI cQ P n Wi Ti (nI nt)) ++ ((wPl pa pb cI zo) ++ ((wPl ka kb cI ke) ++ ((wFs fx cI cZ ff fg tk wt le) ++ ((wSs sx cI sf sg ra fo te ot zn co) ++ ((wMo mx cI cZ j_40 (nI nz) q d (nI nt) mpr mwi mti mzo mke mwy mst mtr mbe mch (nI j_39)) ++ (wOu ou cJ j_32)))))))))) H := (hP.sub (ws' := (wDp ad o pa ka (fx 0) (sx 0)) ++ ((wOf o (x 0) (y 0)) ++ ((wFl x r cI cZ cQ j_40 q d j_28 j_29 j_30 j_31 (nI nz)) ++ ((wSt y rp rw rt cI cQ P n Wi Ti (nI nt)) ++ ((wPl pa pb cI zo) ++ ((wPl ka kb cI ke) ++ ((wFs fx cI cZ ff fg tk wt le) ++ ((wSs sx cI sf sg ra fo te ot zn co) ++ ((wMo mx cI cZ j_40 (nI nz) q d (nI nt) mpr mwi mti mzo mke mwy mst mtr mbe mch (nI j_39)) ++ (wOu ou cJ j_32)))))))))) [43, 44, 45, 46, 47, 48, 49, 50, 51, 52, 53, 54, 55, 56, 57, 58, 0, 1, 2, 3, 4, 5, 6, 7, 8, 9, 10, 11, 12, 13, 14, 15, 16, 17, 18, 19, 20, 21, 22, 23, 24, 25, 26, 27, 28, 29, 30, 31, 32, 33, 34, 35, 36, 37, 38, 39, 40, 41, 42, 60, 61, 62, 63, 64, 65, 66, 67, 68, 69, 70, 71, 72, 73, 59] rfl)
                have hD9 : va_D A ((wDp ad o pa ka (fx 0) (sx 0)) ++ ((wOf o (x 0) (y 0)) ++ ((wFl x r cI cZ cQ j_40 q d j_28 j_29 j_30 j_31 (nI nz)) ++ ((wSt y rp rw rt cI cQ P n Wi Ti (nI nt)) ++ ((wPl pa pb cI zo) ++ ((wPl ka kb cI ke) ++ ((wFs fx cI cZ ff fg tk wt le) ++ ((wSs sx cI sf sg ra fo te ot zn co) ++ ((wMo mx cI cZ j_40 (nI nz) q d (nI nt) mpr mwi mti mzo mke mwy mst mtr mbe mch (nI j_39)) ++ (wOu ou cJ j_32)))))))))) := (hD.sub (ws' := (wDp ad o pa ka (fx 0) (sx 0)) ++ ((wOf o (x 0) (y 0)) ++ ((wFl x r cI cZ cQ j_40 q d j_28 j_29 j_30 j_31 (nI nz)) ++ ((wSt y rp rw rt cI cQ P n Wi Ti (nI nt)) ++ ((wPl pa pb cI zo) ++ ((wPl ka kb cI ke) ++ ((wFs fx cI cZ ff fg tk wt le) ++ ((wSs sx cI sf sg ra fo te ot zn co) ++ ((wMo mx cI cZ j_40 (nI nz) q d (nI nt) mpr mwi mti mzo mke mwy mst mtr mbe mch (nI j_39)) ++ (wOu ou cJ j_32)))))))))) [43, 44, 45, 46, 47, 48, 49, 50, 51, 52, 53, 54, 55, 56, 57, 58, 0, 1, 2, 3, 4, 5, 6, 7, 8, 9, 10, 11, 12, 13, 14, 15, 16, 17, 18, 19, 20, 21, 22, 23, 24, 25, 26, 27, 28, 29, 30, 31, 32, 33, 34, 35, 36, 37, 38, 39, 40, 41, 42, 60, 61, 62, 63, 64, 65, 66, 67, 68, 69, 70, 71, 72, 73, 59] (by decide) rfl)
                refine W.widen (k := 74 + i + 4) (n := 900 + 6 * i + 24) (by omega) (by omega) ?_
                exact K j_40 q d j_28 j_29 j_30 j_31 nz P n Wi Ti nt zo ke ff fg wt le sf sg ra fo te ot zn co mpr mwi mti mzo mke mwy mst mtr mbe mch (nI j_39) j_32 hIV9 H locs hP9 hD9 hS ls (lv_sub hl [2, 3, 4, 5, 6] rfl)
              · exact absurd ((lg_cmp_eq _ _).mpr ((houC c_44).trans (if_pos ((hv9 c_44).trans c_45)))) c_46
            · refine lv_lconst (v := (1 : Int64)) hx hb dL_law_245 rfl ?_
              refine lv_goto (tgt := 250) hx hb dL_law_246 (by decide) ?_
              refine W.lcmp hx hb dL_law_250 ?_
              refine lv_if_eq (tgt := 256) hx hb dL_law_251 (by decide) (fun c_47 => ?_) (fun c_47 => ?_)
              · refine lv_goto (tgt := 1423) hx hb dL_law_256 (by decide) ?_
                have hIV9 : IV j_40 q d j_28 nz nt P n Wi Ti zo ke ff fg tk mpr mwi mti mzo mke := iv_setWall I (by first | exact Or.inl rfl | exact Or.inr rfl) hsM hT2C
                have hP9 : va_P D vwCl ((wDp ad o pa ka (fx 0) (sx 0)) ++ ((wOf o (x 0) (y 0)) ++ ((wFl x r cI cZ cQ j_40 q d j_28 j_29 j_30 j_31 (nI nz)) ++ ((wSt y rp rw rt cI cQ P n Wi Ti (nI nt)) ++ ((wPl pa pb cI zo) ++ ((wPl ka kb cI ke) ++ ((wFs fx cI cZ ff fg tk wt le) ++ ((wSs sx cI sf sg ra fo te ot zn co) ++ ((wMo mx cI cZ j_40 (nI nz) q d (nI nt) mpr mwi mti mzo mke mwy mst mtr mbe mch (nI j_39)) ++ (wOu ou cJ j_32)))))))))) H := (hP.sub (ws' := (wDp ad o pa ka (fx 0) (sx 0)) ++ ((wOf o (x 0) (y 0)) ++ ((wFl x r cI cZ cQ j_40 q d j_28 j_29 j_30 j_31 (nI nz)) ++ ((wSt y rp rw rt cI cQ P n Wi Ti (nI nt)) ++ ((wPl pa pb cI zo) ++ ((wPl ka kb cI ke) ++ ((wFs fx cI cZ ff fg tk wt le) ++ ((wSs sx cI sf sg ra fo te ot zn co) ++ ((wMo mx cI cZ j_40 (nI nz) q d (nI nt) mpr mwi mti mzo mke mwy mst mtr mbe mch (nI j_39)) ++ (wOu ou cJ j_32)))))))))) [43, 44, 45, 46, 47, 48, 49, 50, 51, 52, 53, 54, 55, 56, 57, 58, 0, 1, 2, 3, 4, 5, 6, 7, 8, 9, 10, 11, 12, 13, 14, 15, 16, 17, 18, 19, 20, 21, 22, 23, 24, 25, 26, 27, 28, 29, 30, 31, 32, 33, 34, 35, 36, 37, 38, 39, 40, 41, 42, 60, 61, 62, 63, 64, 65, 66, 67, 68, 69, 70, 71, 72, 73, 59] rfl)
                have hD9 : va_D A ((wDp ad o pa ka (fx 0) (sx 0)) ++ ((wOf o (x 0) (y 0)) ++ ((wFl x r cI cZ cQ j_40 q d j_28 j_29 j_30 j_31 (nI nz)) ++ ((wSt y rp rw rt cI cQ P n Wi Ti (nI nt)) ++ ((wPl pa pb cI zo) ++ ((wPl ka kb cI ke) ++ ((wFs fx cI cZ ff fg tk wt le) ++ ((wSs sx cI sf sg ra fo te ot zn co) ++ ((wMo mx cI cZ j_40 (nI nz) q d (nI nt) mpr mwi mti mzo mke mwy mst mtr mbe mch (nI j_39)) ++ (wOu ou cJ j_32)))))))))) := (hD.sub (ws' := (wDp ad o pa ka (fx 0) (sx 0)) ++ ((wOf o (x 0) (y 0)) ++ ((wFl x r cI cZ cQ j_40 q d j_28 j_29 j_30 j_31 (nI nz)) ++ ((wSt y rp rw rt cI cQ P n Wi Ti (nI nt)) ++ ((wPl pa pb cI zo) ++ ((wPl ka kb cI ke) ++ ((wFs fx cI cZ ff fg tk wt le) ++ ((wSs sx cI sf sg ra fo te ot zn co) ++ ((wMo mx cI cZ j_40 (nI nz) q d (nI nt) mpr mwi mti mzo mke mwy mst mtr mbe mch (nI j_39)) ++ (wOu ou cJ j_32)))))))))) [43, 44, 45, 46, 47, 48, 49, 50, 51, 52, 53, 54, 55, 56, 57, 58, 0, 1, 2, 3, 4, 5, 6, 7, 8, 9, 10, 11, 12, 13, 14, 15, 16, 17, 18, 19, 20, 21, 22, 23, 24, 25, 26, 27, 28, 29, 30, 31, 32, 33, 34, 35, 36, 37, 38, 39, 40, 41, 42, 60, 61, 62, 63, 64, 65, 66, 67, 68, 69, 70, 71, 72, 73, 59] (by decide) rfl)
                refine W.widen (k := 74 + i + 4) (n := 900 + 6 * i + 24) (by omega) (by omega) ?_
                exact K j_40 q d j_28 j_29 j_30 j_31 nz P n Wi Ti nt zo ke ff fg wt le sf sg ra fo te ot zn co mpr mwi mti mzo mke mwy mst mtr mbe mch (nI j_39) j_32 hIV9 H locs hP9 hD9 hS ls (lv_sub hl [2, 3, 4, 5, 6] rfl)
              · exact absurd ((lg_cmp_eq _ _).mpr ((houC c_44).trans (if_neg (fun q9 => c_45 ((hv9 c_44).symm.trans q9))))) c_47
        · exact absurd (congrArg nI hk9) c_43
set_option maxHeartbeats 4000000 in
set_option maxRecDepth 100000 in
theorem law_c1 (l : Launch) {p : Program} {e : Env} {s : State} {m : MethodId} {below : List Frame} {meth : Method} {c : Code} {b L : Nat} {xs : Nat → Int32} {A : Nat → Prop} {Q : State → Prop} {D : va_G} {cI cZ cQ cJ : ClassId} (ad : Nat) (o : Nat) (pa : Nat) (ka : Nat) (fx : Nat → Nat) (sx : Nat → Nat) (x : Nat → Nat) (r : Nat → Nat) (y : Nat → Nat) (rp : Nat → Nat) (rw : Nat → Nat) (rt : Nat → Nat) (pb : Nat) (kb : Nat) (mx : Nat → Nat) (ou : Nat) (tk : Nat → Int32) (C : LC p l s m c b L xs A D cI cZ cQ cJ) {i : Nat} (hi : i + 4 ≤ L) (K : LK p l e s m below meth c b A Q D cI cZ cQ cJ ad o pa ka fx sx x r y rp rw rt pb kb mx ou tk i 1423 (74 + i + 4) (900 + 6 * i + 24)) : LK p l e s m below meth c b A Q D cI cZ cQ cJ ad o pa ka fx sx x r y rp rw rt pb kb mx ou tk i 259 (74 + i) (900 + 6 * i) := by
  obtain ⟨hx, hb, hml, hown, hts, hX, hbl, hbA, hL, hSt, hDc, hZ, hfl, hA⟩ := C
  intro w q d T st re rc nz P n Wi Ti nt zo ke ff fg wt le sf sg ra fo te ot zn co mpr mwi mti mzo mke mwy mst mtr mbe mch mth fo9 hIV H locs hP hD hS ls hl
  obtain ⟨sq, dn, pp, wi, ti, dd, g, gk, I⟩ := id hIV
  obtain ⟨⟨hnz, hnt⟩, hw, hq, hT, hdd, hdn, hPp, hnn, hwi, hti, hv, hzo, hke, hvg, hvk, hfG, hff2, hfg2, htk, hpP, hmW, hmT, hmz, hmk⟩ := id I
  have hpr : ∀ t, t < nt → ∀ j, j < 5 → mpr (5 * t + j) = nI (pp t j) ∧ pp t j ≤ 60 := fun t ht j hj => by rw [hpP t j (by omega) hj]; exact hPp t ht j hj
  have hmw : ∀ t z, t < 7 → z < 7 → mwi (7 * t + z) = nI (wi t z) := fun t z ht hz => (hmW t z ht hz).trans (hwi t z ht hz)
  have hmt : ∀ t z, t < 7 → z < 7 → mti (7 * t + z) = nI (ti t z) := fun t z ht hz => (hmT t z ht hz).trans (hti t z ht hz)
  have hTd : ∀ u v, u < nz → v < nz → T u v = nI (dd u v) := fun u v hu hv => hdd u v hu hv
  have hdD : ∀ u v, u < nz → v < nz → isD w (sq u) (sq v) (nI (dd u v)) := fun u v hu hv => by rw [← hdd u v hu hv]; exact hT u v hu hv
  have hzz : ∀ u, nt ≤ u → u < 7 → zo u = -1 := fun u h1 h2 => by rw [hzo u h2, vG_out hvg u h1 h2]; rfl
  have hgz7 : gOK nz 7 g := fun t _ => (hvg.1 t).imp And.right id
  have hgzn : gOK nz nt g := fun t _ => (hvg.1 t).imp And.right id
  obtain ⟨nx, hnx⟩ := nx_ex (zo := zo) (ke := ke)
  obtain ⟨nm, hnm⟩ := nm_ex (gk := gk) hzo hvg hnz
  refine lv_aload_n hx hb dL_law_259 rfl (lv_at hl 2 rfl) ?_
  refine lv_aload_n hx hb dL_law_260 rfl (lv_at hl 1 rfl) ?_
  refine lv_iload hx hb dL_law_261 (lv_at hl 0 rfl) ?_
  refine lv_iconst (v := nI 1) hx hb dL_law_263 (by decide) ?_
  refine r_addn hx hb dL_law_264 ?_
  refine va_sld hx hb hX hbl hbA hS (i := nI (i + 1)) (vp_in_nI (by omega) (by omega)) dL_law_265 ?_
  refine lv_as (y := xs (i + 1)) (by rw [nIc (by omega)]) ?_
  refine lv_aload_n hx hb dL_law_266 rfl (lv_at hl 1 rfl) ?_
  refine lv_iload hx hb dL_law_267 (lv_at hl 0 rfl) ?_
  refine lv_iconst (v := nI 2) hx hb dL_law_269 (by decide) ?_
  refine r_addn hx hb dL_law_270 ?_
  refine va_sld hx hb hX hbl hbA hS (i := nI (i + 2)) (vp_in_nI (by omega) (by omega)) dL_law_271 ?_
  refine lv_as (y := xs (i + 2)) (by rw [nIc (by omega)]) ?_
  refine lv_aload_n hx hb dL_law_272 rfl (lv_at hl 1 rfl) ?_
  refine lv_iload hx hb dL_law_273 (lv_at hl 0 rfl) ?_
  refine lv_iconst (v := nI 3) hx hb dL_law_275 (by decide) ?_
  refine r_addn hx hb dL_law_276 ?_
  refine va_sld hx hb hX hbl hbA hS (i := nI (i + 3)) (vp_in_nI (by omega) (by omega)) dL_law_277 ?_
  refine lv_as (y := xs (i + 3)) (by rw [nIc (by omega)]) ?_
  refine lv_aload_n hx hb dL_law_278 rfl (lv_at hl 4 rfl) ?_
  refine rx_i (wr := (wSt y rp rw rt cI cQ P n Wi Ti (nI nt)) ++ ((wPl pa pb cI zo) ++ ((wPl ka kb cI ke) ++ ((wFs fx cI cZ ff fg tk wt le) ++ ((wSs sx cI sf sg ra fo te ot zn co) ++ (wMo mx cI cZ w (nI nz) q d (nI nt) mpr mwi mti mzo mke mwy mst mtr mbe mch mth)))))) (w_SHX (As := [.ref ad, .int (xs (i + 1)), .int (xs (i + 2)), .int (xs (i + 3)), .ref ou]) ⟨hx, hb, hml, hown, hts⟩ (c_L_addZone l D cI cZ cQ cJ ad o pa ka fx sx x r w q d T st re rc nz y sq (xs (i + 1)) (xs (i + 2)) (xs (i + 3)) ou fo9 H.size (by first | assumption | omega) (by first | assumption | omega) (by first | assumption | omega) (by first | assumption | omega) (by first | assumption | omega)) (gSH t2_210 t2_211 t1_0 t2_212) rfl rfl hd_L_addZone ⟨Nat.le_of_ble_eq_true rfl, Nat.le_of_ble_eq_true rfl⟩ (rx_pre hP hD hSt hDc hZ hS hA [0, 1, 2, 3, 4, 5, 6, 7, 8, 9, 10, 11, 12, 13, 14, 15, 73] rfl (by decide)) rfl hl.1 (rest := []) rfl (Nat.le_of_ble_eq_true rfl) dL_law_279 ⟨(by show _ ≤ 643243; omega), (by show _ ≤ 7166375; omega)⟩) hP hD hS hA [0, 1, 2, 3, 4, 5, 6, 7, 8, 9, 10, 11, 12, 13, 14, 15, 73] [16, 17, 18, 19, 20, 21, 22, 23, 24, 25, 26, 27, 28, 29, 30, 31, 32, 33, 34, 35, 36, 37, 38, 39, 40, 41, 42, 43, 44, 45, 46, 47, 48, 49, 50, 51, 52, 53, 54, 55, 56, 57, 58, 59, 60, 61, 62, 63, 64, 65, 66, 67, 68, 69, 70, 71, 72] rfl rfl (by decide) (by decide) (fun E9 ce9 q9 x9 H locs hx9 hP hD hS hc91 hc92 hc93 => ?_) (fun r_9 u_11 H locs hw9 hP hD hS => ?_)
  · have hx9 : False := hx9
    have hP : va_P D vwCl (((wSt y rp rw rt cI cQ P n Wi Ti (nI nt)) ++ ((wPl pa pb cI zo) ++ ((wPl ka kb cI ke) ++ ((wFs fx cI cZ ff fg tk wt le) ++ ((wSs sx cI sf sg ra fo te ot zn co) ++ (wMo mx cI cZ w (nI nz) q d (nI nt) mpr mwi mti mzo mke mwy mst mtr mbe mch mth)))))) ++ (((wDp ad o pa ka (fx 0) (sx 0)) ++ ((wOf o (x 0) (y 0)) ++ (wFl x r cI cZ cQ w q d T st re rc (nI nz)))) ++ (wOu ou cJ fo9))) H := hP
    have hD : va_D A (((wSt y rp rw rt cI cQ P n Wi Ti (nI nt)) ++ ((wPl pa pb cI zo) ++ ((wPl ka kb cI ke) ++ ((wFs fx cI cZ ff fg tk wt le) ++ ((wSs sx cI sf sg ra fo te ot zn co) ++ (wMo mx cI cZ w (nI nz) q d (nI nt) mpr mwi mti mzo mke mwy mst mtr mbe mch mth)))))) ++ (((wDp ad o pa ka (fx 0) (sx 0)) ++ ((wOf o (x 0) (y 0)) ++ (wFl x r cI cZ cQ w q d T st re rc (nI nz)))) ++ (wOu ou cJ fo9))) := hD
    exact hx9.elim
  · obtain ⟨j_1, j_2, j_3, j_4, j_5, j_6, j_7, j_8, j_9, j_10⟩ := u_11
    obtain ⟨er_9, f_12, f_13, f_14⟩ := hw9
    replace er_9 := er_9.symm
    subst er_9
    have hsC : sAddZone nz q d w (xs (i + 1)) (xs (i + 2)) (xs (i + 3)) j_1 j_2 j_5 j_3 j_4 := f_12
    have hT2C : ∀ u v, u < j_5 → v < j_5 → isD w ((updN sq nz (sqI (xs (i + 1)) (xs (i + 2)))) u) ((updN sq nz (sqI (xs (i + 1)) (xs (i + 2)))) v) (j_6 u v) := f_13
    have houC : j_1 = 0 → j_10 0 = j_2.toInt64 := f_14
    have hP : va_P D vwCl (((wSt y rp rw rt cI cQ P n Wi Ti (nI nt)) ++ ((wPl pa pb cI zo) ++ ((wPl ka kb cI ke) ++ ((wFs fx cI cZ ff fg tk wt le) ++ ((wSs sx cI sf sg ra fo te ot zn co) ++ (wMo mx cI cZ w (nI nz) q d (nI nt) mpr mwi mti mzo mke mwy mst mtr mbe mch mth)))))) ++ (((wDp ad o pa ka (fx 0) (sx 0)) ++ ((wOf o (x 0) (y 0)) ++ (wFl x r cI cZ cQ w j_3 j_4 j_6 j_7 j_8 j_9 (nI j_5)))) ++ (wOu ou cJ j_10))) H := hP
    have hD : va_D A (((wSt y rp rw rt cI cQ P n Wi Ti (nI nt)) ++ ((wPl pa pb cI zo) ++ ((wPl ka kb cI ke) ++ ((wFs fx cI cZ ff fg tk wt le) ++ ((wSs sx cI sf sg ra fo te ot zn co) ++ (wMo mx cI cZ w (nI nz) q d (nI nt) mpr mwi mti mzo mke mwy mst mtr mbe mch mth)))))) ++ (((wDp ad o pa ka (fx 0) (sx 0)) ++ ((wOf o (x 0) (y 0)) ++ (wFl x r cI cZ cQ w j_3 j_4 j_6 j_7 j_8 j_9 (nI j_5)))) ++ (wOu ou cJ j_10))) := hD
    refine lv_istore (lv' := [(5, .int (nI j_1)), (4, .int (nI i)), (0, .ref b), (1, .ref ad), (2, .ref (mx 0)), (3, .ref ou)]) hx hb dL_law_282 hl (by decide) rfl (fun ls hl => ?_)
    refine lv_aload_n hx hb dL_law_284 rfl (lv_at hl 4 rfl) ?_
    refine lv_aload_n hx hb dL_law_285 rfl (lv_at hl 2 rfl) ?_
    refine lv_iload hx hb dL_law_286 (lv_at hl 1 rfl) ?_
    refine lv_iconst (v := nI 1) hx hb dL_law_288 (by decide) ?_
    refine r_addn hx hb dL_law_289 ?_
    refine va_sld hx hb hX hbl hbA hS (i := nI (i + 1)) (vp_in_nI (by omega) (by omega)) dL_law_290 ?_
    refine lv_as (y := xs (i + 1)) (by rw [nIc (by omega)]) ?_
    refine lv_aload_n hx hb dL_law_291 rfl (lv_at hl 2 rfl) ?_
    refine lv_iload hx hb dL_law_292 (lv_at hl 1 rfl) ?_
    refine lv_iconst (v := nI 2) hx hb dL_law_294 (by decide) ?_
    refine r_addn hx hb dL_law_295 ?_
    refine va_sld hx hb hX hbl hbA hS (i := nI (i + 2)) (vp_in_nI (by omega) (by omega)) dL_law_296 ?_
    refine lv_as (y := xs (i + 2)) (by rw [nIc (by omega)]) ?_
    refine lv_aload_n hx hb dL_law_297 rfl (lv_at hl 2 rfl) ?_
    refine lv_iload hx hb dL_law_298 (lv_at hl 1 rfl) ?_
    refine lv_iconst (v := nI 3) hx hb dL_law_300 (by decide) ?_
    refine r_addn hx hb dL_law_301 ?_
    refine va_sld hx hb hX hbl hbA hS (i := nI (i + 3)) (vp_in_nI (by omega) (by omega)) dL_law_302 ?_
    refine lv_as (y := xs (i + 3)) (by rw [nIc (by omega)]) ?_
    refine rw_i (wr := (wSt y rp rw rt cI cQ P n Wi Ti (nI nt)) ++ ((wPl pa pb cI zo) ++ ((wPl ka kb cI ke) ++ ((wFs fx cI cZ ff fg tk wt le) ++ ((wSs sx cI sf sg ra fo te ot zn co) ++ ((wDp ad o pa ka (fx 0) (sx 0)) ++ ((wOf o (x 0) (y 0)) ++ ((wFl x r cI cZ cQ w j_3 j_4 j_6 j_7 j_8 j_9 (nI j_5)) ++ (wOu ou cJ j_10))))))))) (w_V (As := [.int (xs (i + 1)), .int (xs (i + 2)), .int (xs (i + 3))]) ⟨hx, hb, hml, hown, hts⟩ (c_X8_addZone l D cI cZ cQ cJ mx w nz q d nt mpr mwi mti mzo mke mwy mst mtr mbe mch mth sq (xs (i + 1)) (xs (i + 2)) (xs (i + 3)) H.size (by first | assumption | omega) (by first | assumption | omega) (by first | assumption | omega)) (gV t4_51 t4_52 t4_53 t1_10 t4_54) rfl rfl hd_X8_addZone ⟨Nat.le_of_ble_eq_true rfl, Nat.le_of_ble_eq_true rfl⟩ (rw_pre hP hD hSt [43, 44, 45, 46, 47, 48, 49, 50, 51, 52, 53, 54, 55, 56] rfl (by decide)) (va_recv hSt.1 hP (ci := 8) (q0 := 43) rfl rfl) rfl hl.1 (rest := []) rfl (Nat.le_of_ble_eq_true rfl) dL_law_303 ⟨(by show _ ≤ 643243; omega), (by show _ ≤ 7166375; omega)⟩) hP hD hS hA [43, 44, 45, 46, 47, 48, 49, 50, 51, 52, 53, 54, 55, 56] [0, 1, 2, 3, 4, 5, 6, 7, 8, 9, 10, 11, 12, 13, 14, 15, 16, 17, 18, 19, 20, 21, 22, 23, 24, 25, 26, 27, 28, 29, 30, 31, 32, 33, 34, 35, 36, 37, 38, 39, 40, 41, 42, 57, 58, 59, 60, 61, 62, 63, 64, 65, 66, 67, 68, 69, 70, 71, 72, 73] rfl rfl (by decide) (by decide) (fun r_9 u_20 H locs hw9 hP hD hS => ?_)
    obtain ⟨j_15, j_16, j_17, j_18, j_19⟩ := u_20
    obtain ⟨er_9, f_21⟩ := hw9
    replace er_9 := er_9.symm
    subst er_9
    have hsM : sAddZone nz q d w (xs (i + 1)) (xs (i + 2)) (xs (i + 3)) j_16 j_15 j_19 j_17 j_18 := f_21
    have hP : va_P D vwCl (((wSt y rp rw rt cI cQ P n Wi Ti (nI nt)) ++ ((wPl pa pb cI zo) ++ ((wPl ka kb cI ke) ++ ((wFs fx cI cZ ff fg tk wt le) ++ ((wSs sx cI sf sg ra fo te ot zn co) ++ ((wDp ad o pa ka (fx 0) (sx 0)) ++ ((wOf o (x 0) (y 0)) ++ ((wFl x r cI cZ cQ w j_3 j_4 j_6 j_7 j_8 j_9 (nI j_5)) ++ (wOu ou cJ j_10))))))))) ++ (wMo mx cI cZ w (nI j_19) j_17 j_18 (nI nt) mpr mwi mti mzo mke mwy mst mtr mbe mch (nI j_16))) H := hP
    have hD : va_D A (((wSt y rp rw rt cI cQ P n Wi Ti (nI nt)) ++ ((wPl pa pb cI zo) ++ ((wPl ka kb cI ke) ++ ((wFs fx cI cZ ff fg tk wt le) ++ ((wSs sx cI sf sg ra fo te ot zn co) ++ ((wDp ad o pa ka (fx 0) (sx 0)) ++ ((wOf o (x 0) (y 0)) ++ ((wFl x r cI cZ cQ w j_3 j_4 j_6 j_7 j_8 j_9 (nI j_5)) ++ (wOu ou cJ j_10))))))))) ++ (wMo mx cI cZ w (nI j_19) j_17 j_18 (nI nt) mpr mwi mti mzo mke mwy mst mtr mbe mch (nI j_16))) := hD
    refine lv_istore (lv' := [(6, .int j_15), (5, .int (nI j_1)), (4, .int (nI i)), (0, .ref b), (1, .ref ad), (2, .ref (mx 0)), (3, .ref ou)]) hx hb dL_law_306 hl (by decide) rfl (fun ls hl => ?_)
    refine lv_aload_n hx hb dL_law_308 rfl (lv_at hl 5 rfl) ?_
    refine ro_V (As := []) (rest := []) (v := (nI j_16)) ⟨hx, hb, hml, hown, hts⟩ (c_X8_thrown l D cI cZ cQ cJ mx w j_19 j_17 j_18 nt mpr mwi mti mzo mke mwy mst mtr mbe mch (nI j_16)) (gV t4_29 t4_30 t4_31 t1_10 t4_32) rfl rfl hd_X8_thrown ⟨Nat.le_of_ble_eq_true rfl, Nat.le_of_ble_eq_true rfl⟩ (hP.sub (ws' := wMo mx cI cZ w (nI j_19) j_17 j_18 (nI nt) mpr mwi mti mzo mke mwy mst mtr mbe mch (nI j_16)) [60, 61, 62, 63, 64, 65, 66, 67, 68, 69, 70, 71, 72, 73] rfl) hSt (va_recv hSt.1 hP (ci := 8) (q0 := 60) rfl rfl) rfl hl.1 rfl (Nat.le_of_ble_eq_true rfl) dL_law_309 (by show _ ≤ 643243; omega) (by show _ ≤ 7166375; omega) ?_
    have hkb : j_1 ≤ 3 := sAddZone_k hsC
    obtain ⟨hk9, hv9, hu90, hu91, hu92⟩ := sAddZone_fn hsC hsM
    have hP77 := hP
    have hD77 := hD
    have hl77 := hl
    subst hu90
    subst hu91
    subst hu92
    have hP := hP77
    have hD := hD77
    have hl := hl77
    refine lv_iload hx hb dL_law_312 (lv_at hl 1 rfl) ?_
    refine lv_icmp_eq (tgt := 319) hx hb dL_law_314 (by decide) (fun c_22 => ?_) (fun c_22 => ?_)
    · refine lv_iload hx hb dL_law_319 (lv_at hl 1 rfl) ?_
      refine lv_if_ne (tgt := 336) hx hb dL_law_321 (by decide) (fun c_23 => ?_) (fun c_23 => ?_)
      · have c_23 := z_ne (a := j_1) (b := 0) (by omega) (by omega) c_23
        refine lv_goto (tgt := 1423) hx hb dL_law_336 (by decide) ?_
        have hIV9 : IV w j_17 j_18 j_6 j_19 nt P n Wi Ti zo ke ff fg tk mpr mwi mti mzo mke := iv_addZone I hsM hT2C
        have hP9 : va_P D vwCl ((wDp ad o pa ka (fx 0) (sx 0)) ++ ((wOf o (x 0) (y 0)) ++ ((wFl x r cI cZ cQ w j_17 j_18 j_6 j_7 j_8 j_9 (nI j_19)) ++ ((wSt y rp rw rt cI cQ P n Wi Ti (nI nt)) ++ ((wPl pa pb cI zo) ++ ((wPl ka kb cI ke) ++ ((wFs fx cI cZ ff fg tk wt le) ++ ((wSs sx cI sf sg ra fo te ot zn co) ++ ((wMo mx cI cZ w (nI j_19) j_17 j_18 (nI nt) mpr mwi mti mzo mke mwy mst mtr mbe mch (nI j_16)) ++ (wOu ou cJ j_10)))))))))) H := (hP.sub (ws' := (wDp ad o pa ka (fx 0) (sx 0)) ++ ((wOf o (x 0) (y 0)) ++ ((wFl x r cI cZ cQ w j_17 j_18 j_6 j_7 j_8 j_9 (nI j_19)) ++ ((wSt y rp rw rt cI cQ P n Wi Ti (nI nt)) ++ ((wPl pa pb cI zo) ++ ((wPl ka kb cI ke) ++ ((wFs fx cI cZ ff fg tk wt le) ++ ((wSs sx cI sf sg ra fo te ot zn co) ++ ((wMo mx cI cZ w (nI j_19) j_17 j_18 (nI nt) mpr mwi mti mzo mke mwy mst mtr mbe mch (nI j_16)) ++ (wOu ou cJ j_10)))))))))) [43, 44, 45, 46, 47, 48, 49, 50, 51, 52, 53, 54, 55, 56, 57, 58, 0, 1, 2, 3, 4, 5, 6, 7, 8, 9, 10, 11, 12, 13, 14, 15, 16, 17, 18, 19, 20, 21, 22, 23, 24, 25, 26, 27, 28, 29, 30, 31, 32, 33, 34, 35, 36, 37, 38, 39, 40, 41, 42, 60, 61, 62, 63, 64, 65, 66, 67, 68, 69, 70, 71, 72, 73, 59] rfl)
        have hD9 : va_D A ((wDp ad o pa ka (fx 0) (sx 0)) ++ ((wOf o (x 0) (y 0)) ++ ((wFl x r cI cZ cQ w j_17 j_18 j_6 j_7 j_8 j_9 (nI j_19)) ++ ((wSt y rp rw rt cI cQ P n Wi Ti (nI nt)) ++ ((wPl pa pb cI zo) ++ ((wPl ka kb cI ke) ++ ((wFs fx cI cZ ff fg tk wt le) ++ ((wSs sx cI sf sg ra fo te ot zn co) ++ ((wMo mx cI cZ w (nI j_19) j_17 j_18 (nI nt) mpr mwi mti mzo mke mwy mst mtr mbe mch (nI j_16)) ++ (wOu ou cJ j_10)))))))))) := (hD.sub (ws' := (wDp ad o pa ka (fx 0) (sx 0)) ++ ((wOf o (x 0) (y 0)) ++ ((wFl x r cI cZ cQ w j_17 j_18 j_6 j_7 j_8 j_9 (nI j_19)) ++ ((wSt y rp rw rt cI cQ P n Wi Ti (nI nt)) ++ ((wPl pa pb cI zo) ++ ((wPl ka kb cI ke) ++ ((wFs fx cI cZ ff fg tk wt le) ++ ((wSs sx cI sf sg ra fo te ot zn co) ++ ((wMo mx cI cZ w (nI j_19) j_17 j_18 (nI nt) mpr mwi mti mzo mke mwy mst mtr mbe mch (nI j_16)) ++ (wOu ou cJ j_10)))))))))) [43, 44, 45, 46, 47, 48, 49, 50, 51, 52, 53, 54, 55, 56, 57, 58, 0, 1, 2, 3, 4, 5, 6, 7, 8, 9, 10, 11, 12, 13, 14, 15, 16, 17, 18, 19, 20, 21, 22, 23, 24, 25, 26, 27, 28, 29, 30, 31, 32, 33, 34, 35, 36, 37, 38, 39, 40, 41, 42, 60, 61, 62, 63, 64, 65, 66, 67, 68, 69, 70, 71, 72, 73, 59] (by decide) rfl)
        refine W.widen (k := 74 + i + 4) (n := 900 + 6 * i + 24) (by omega) (by omega) ?_
        exact K w j_17 j_18 j_6 j_7 j_8 j_9 j_19 P n Wi Ti nt zo ke ff fg wt le sf sg ra fo te ot zn co mpr mwi mti mzo mke mwy mst mtr mbe mch (nI j_16) j_10 hIV9 H locs hP9 hD9 hS ls (lv_sub hl [2, 3, 4, 5, 6] rfl)
      · have c_23 := z_eq (a := j_1) (b := 0) (by omega) (by omega) c_23
        refine lv_aload_n hx hb dL_law_324 rfl (lv_at hl 6 rfl) ?_
        refine lv_iconst (v := nI 0) hx hb dL_law_325 (by decide) ?_
        refine r_lald hx hb hSt.1 hP 59 3 rfl rfl (k := 0) (by omega) (by omega) dL_law_326 ?_
        refine lv_iload hx hb dL_law_327 (lv_at hl 0 rfl) ?_
        refine lv_i2l (v := (j_15).toInt64) hx hb dL_law_329 rfl ?_
        refine W.lcmp hx hb dL_law_330 ?_
        refine lv_if_eq (tgt := 336) hx hb dL_law_331 (by decide) (fun c_24 => ?_) (fun c_24 => ?_)
        · refine lv_goto (tgt := 1423) hx hb dL_law_336 (by decide) ?_
          have hIV9 : IV w j_17 j_18 j_6 j_19 nt P n Wi Ti zo ke ff fg tk mpr mwi mti mzo mke := iv_addZone I hsM hT2C
          have hP9 : va_P D vwCl ((wDp ad o pa ka (fx 0) (sx 0)) ++ ((wOf o (x 0) (y 0)) ++ ((wFl x r cI cZ cQ w j_17 j_18 j_6 j_7 j_8 j_9 (nI j_19)) ++ ((wSt y rp rw rt cI cQ P n Wi Ti (nI nt)) ++ ((wPl pa pb cI zo) ++ ((wPl ka kb cI ke) ++ ((wFs fx cI cZ ff fg tk wt le) ++ ((wSs sx cI sf sg ra fo te ot zn co) ++ ((wMo mx cI cZ w (nI j_19) j_17 j_18 (nI nt) mpr mwi mti mzo mke mwy mst mtr mbe mch (nI j_16)) ++ (wOu ou cJ j_10)))))))))) H := (hP.sub (ws' := (wDp ad o pa ka (fx 0) (sx 0)) ++ ((wOf o (x 0) (y 0)) ++ ((wFl x r cI cZ cQ w j_17 j_18 j_6 j_7 j_8 j_9 (nI j_19)) ++ ((wSt y rp rw rt cI cQ P n Wi Ti (nI nt)) ++ ((wPl pa pb cI zo) ++ ((wPl ka kb cI ke) ++ ((wFs fx cI cZ ff fg tk wt le) ++ ((wSs sx cI sf sg ra fo te ot zn co) ++ ((wMo mx cI cZ w (nI j_19) j_17 j_18 (nI nt) mpr mwi mti mzo mke mwy mst mtr mbe mch (nI j_16)) ++ (wOu ou cJ j_10)))))))))) [43, 44, 45, 46, 47, 48, 49, 50, 51, 52, 53, 54, 55, 56, 57, 58, 0, 1, 2, 3, 4, 5, 6, 7, 8, 9, 10, 11, 12, 13, 14, 15, 16, 17, 18, 19, 20, 21, 22, 23, 24, 25, 26, 27, 28, 29, 30, 31, 32, 33, 34, 35, 36, 37, 38, 39, 40, 41, 42, 60, 61, 62, 63, 64, 65, 66, 67, 68, 69, 70, 71, 72, 73, 59] rfl)
          have hD9 : va_D A ((wDp ad o pa ka (fx 0) (sx 0)) ++ ((wOf o (x 0) (y 0)) ++ ((wFl x r cI cZ cQ w j_17 j_18 j_6 j_7 j_8 j_9 (nI j_19)) ++ ((wSt y rp rw rt cI cQ P n Wi Ti (nI nt)) ++ ((wPl pa pb cI zo) ++ ((wPl ka kb cI ke) ++ ((wFs fx cI cZ ff fg tk wt le) ++ ((wSs sx cI sf sg ra fo te ot zn co) ++ ((wMo mx cI cZ w (nI j_19) j_17 j_18 (nI nt) mpr mwi mti mzo mke mwy mst mtr mbe mch (nI j_16)) ++ (wOu ou cJ j_10)))))))))) := (hD.sub (ws' := (wDp ad o pa ka (fx 0) (sx 0)) ++ ((wOf o (x 0) (y 0)) ++ ((wFl x r cI cZ cQ w j_17 j_18 j_6 j_7 j_8 j_9 (nI j_19)) ++ ((wSt y rp rw rt cI cQ P n Wi Ti (nI nt)) ++ ((wPl pa pb cI zo) ++ ((wPl ka kb cI ke) ++ ((wFs fx cI cZ ff fg tk wt le) ++ ((wSs sx cI sf sg ra fo te ot zn co) ++ ((wMo mx cI cZ w (nI j_19) j_17 j_18 (nI nt) mpr mwi mti mzo mke mwy mst mtr mbe mch (nI j_16)) ++ (wOu ou cJ j_10)))))))))) [43, 44, 45, 46, 47, 48, 49, 50, 51, 52, 53, 54, 55, 56, 57, 58, 0, 1, 2, 3, 4, 5, 6, 7, 8, 9, 10, 11, 12, 13, 14, 15, 16, 17, 18, 19, 20, 21, 22, 23, 24, 25, 26, 27, 28, 29, 30, 31, 32, 33, 34, 35, 36, 37, 38, 39, 40, 41, 42, 60, 61, 62, 63, 64, 65, 66, 67, 68, 69, 70, 71, 72, 73, 59] (by decide) rfl)
          refine W.widen (k := 74 + i + 4) (n := 900 + 6 * i + 24) (by omega) (by omega) ?_
          exact K w j_17 j_18 j_6 j_7 j_8 j_9 j_19 P n Wi Ti nt zo ke ff fg wt le sf sg ra fo te ot zn co mpr mwi mti mzo mke mwy mst mtr mbe mch (nI j_16) j_10 hIV9 H locs hP9 hD9 hS ls (lv_sub hl [2, 3, 4, 5, 6] rfl)
        · exact absurd ((lg_cmp_eq _ _).mpr ((houC c_23).trans (congrArg Int32.toInt64 (hv9 c_23)))) c_24
    · exact absurd (congrArg nI hk9) c_22
set_option maxHeartbeats 4000000 in
set_option maxRecDepth 100000 in
theorem law_c2 (l : Launch) {p : Program} {e : Env} {s : State} {m : MethodId} {below : List Frame} {meth : Method} {c : Code} {b L : Nat} {xs : Nat → Int32} {A : Nat → Prop} {Q : State → Prop} {D : va_G} {cI cZ cQ cJ : ClassId} (ad : Nat) (o : Nat) (pa : Nat) (ka : Nat) (fx : Nat → Nat) (sx : Nat → Nat) (x : Nat → Nat) (r : Nat → Nat) (y : Nat → Nat) (rp : Nat → Nat) (rw : Nat → Nat) (rt : Nat → Nat) (pb : Nat) (kb : Nat) (mx : Nat → Nat) (ou : Nat) (tk : Nat → Int32) (C : LC p l s m c b L xs A D cI cZ cQ cJ) {i : Nat} (hi : i + 4 ≤ L) (K : LK p l e s m below meth c b A Q D cI cZ cQ cJ ad o pa ka fx sx x r y rp rw rt pb kb mx ou tk i 1423 (74 + i + 4) (900 + 6 * i + 24)) : LK p l e s m below meth c b A Q D cI cZ cQ cJ ad o pa ka fx sx x r y rp rw rt pb kb mx ou tk i 339 (74 + i) (900 + 6 * i) := by
  obtain ⟨hx, hb, hml, hown, hts, hX, hbl, hbA, hL, hSt, hDc, hZ, hfl, hA⟩ := C
  intro w q d T st re rc nz P n Wi Ti nt zo ke ff fg wt le sf sg ra fo te ot zn co mpr mwi mti mzo mke mwy mst mtr mbe mch mth fo9 hIV H locs hP hD hS ls hl
  obtain ⟨sq, dn, pp, wi, ti, dd, g, gk, I⟩ := id hIV
  obtain ⟨⟨hnz, hnt⟩, hw, hq, hT, hdd, hdn, hPp, hnn, hwi, hti, hv, hzo, hke, hvg, hvk, hfG, hff2, hfg2, htk, hpP, hmW, hmT, hmz, hmk⟩ := id I
  have hpr : ∀ t, t < nt → ∀ j, j < 5 → mpr (5 * t + j) = nI (pp t j) ∧ pp t j ≤ 60 := fun t ht j hj => by rw [hpP t j (by omega) hj]; exact hPp t ht j hj
  have hmw : ∀ t z, t < 7 → z < 7 → mwi (7 * t + z) = nI (wi t z) := fun t z ht hz => (hmW t z ht hz).trans (hwi t z ht hz)
  have hmt : ∀ t z, t < 7 → z < 7 → mti (7 * t + z) = nI (ti t z) := fun t z ht hz => (hmT t z ht hz).trans (hti t z ht hz)
  have hTd : ∀ u v, u < nz → v < nz → T u v = nI (dd u v) := fun u v hu hv => hdd u v hu hv
  have hdD : ∀ u v, u < nz → v < nz → isD w (sq u) (sq v) (nI (dd u v)) := fun u v hu hv => by rw [← hdd u v hu hv]; exact hT u v hu hv
  have hzz : ∀ u, nt ≤ u → u < 7 → zo u = -1 := fun u h1 h2 => by rw [hzo u h2, vG_out hvg u h1 h2]; rfl
  have hgz7 : gOK nz 7 g := fun t _ => (hvg.1 t).imp And.right id
  have hgzn : gOK nz nt g := fun t _ => (hvg.1 t).imp And.right id
  obtain ⟨nx, hnx⟩ := nx_ex (zo := zo) (ke := ke)
  obtain ⟨nm, hnm⟩ := nm_ex (gk := gk) hzo hvg hnz
  refine lv_aload_n hx hb dL_law_339 rfl (lv_at hl 2 rfl) ?_
  refine lv_aload_n hx hb dL_law_340 rfl (lv_at hl 1 rfl) ?_
  refine lv_iload hx hb dL_law_341 (lv_at hl 0 rfl) ?_
  refine lv_iconst (v := nI 1) hx hb dL_law_343 (by decide) ?_
  refine r_addn hx hb dL_law_344 ?_
  refine va_sld hx hb hX hbl hbA hS (i := nI (i + 1)) (vp_in_nI (by omega) (by omega)) dL_law_345 ?_
  refine lv_as (y := xs (i + 1)) (by rw [nIc (by omega)]) ?_
  refine lv_aload_n hx hb dL_law_346 rfl (lv_at hl 1 rfl) ?_
  refine lv_iload hx hb dL_law_347 (lv_at hl 0 rfl) ?_
  refine lv_iconst (v := nI 2) hx hb dL_law_349 (by decide) ?_
  refine r_addn hx hb dL_law_350 ?_
  refine va_sld hx hb hX hbl hbA hS (i := nI (i + 2)) (vp_in_nI (by omega) (by omega)) dL_law_351 ?_
  refine lv_as (y := xs (i + 2)) (by rw [nIc (by omega)]) ?_
  refine lv_aload_n hx hb dL_law_352 rfl (lv_at hl 4 rfl) ?_
  refine rx_i (wr := (wPl ka kb cI ke) ++ ((wFs fx cI cZ ff fg tk wt le) ++ ((wSs sx cI sf sg ra fo te ot zn co) ++ (wMo mx cI cZ w (nI nz) q d (nI nt) mpr mwi mti mzo mke mwy mst mtr mbe mch mth)))) (w_SHX (As := [.ref ad, .int (xs (i + 1)), .int (xs (i + 2)), .ref ou]) ⟨hx, hb, hml, hown, hts⟩ (c_L_setDesks l D cI cZ cQ cJ ad o pa ka fx sx x r w q d T st re rc nz y rp rw rt P n Wi Ti nt pb zo (xs (i + 1)) (xs (i + 2)) ou fo9 H.size (by first | assumption | omega) (by first | assumption | omega)) (gSH t3_8 t3_9 t1_0 t3_10) rfl rfl hd_L_setDesks ⟨Nat.le_of_ble_eq_true rfl, Nat.le_of_ble_eq_true rfl⟩ (rx_pre hP hD hSt hDc hZ hS hA [0, 1, 2, 3, 4, 5, 6, 7, 8, 9, 10, 11, 12, 13, 14, 15, 16, 17, 18, 19, 20, 21, 22, 23, 24, 25, 26, 27, 28, 29, 30, 31, 32, 33, 34, 35, 36, 37, 38, 39, 40, 41, 42, 43, 73] rfl (by decide)) rfl hl.1 (rest := []) rfl (Nat.le_of_ble_eq_true rfl) dL_law_353 ⟨(by show _ ≤ 643243; omega), (by show _ ≤ 7166375; omega)⟩) hP hD hS hA [0, 1, 2, 3, 4, 5, 6, 7, 8, 9, 10, 11, 12, 13, 14, 15, 16, 17, 18, 19, 20, 21, 22, 23, 24, 25, 26, 27, 28, 29, 30, 31, 32, 33, 34, 35, 36, 37, 38, 39, 40, 41, 42, 43, 73] [44, 45, 46, 47, 48, 49, 50, 51, 52, 53, 54, 55, 56, 57, 58, 59, 60, 61, 62, 63, 64, 65, 66, 67, 68, 69, 70, 71, 72] rfl rfl (by decide) (by decide) (fun E9 ce9 q9 x9 H locs hx9 hP hD hS hc91 hc92 hc93 => ?_) (fun r_9 u_5 H locs hw9 hP hD hS => ?_)
  · have hx9 : False := hx9
    have hP : va_P D vwCl (((wPl ka kb cI ke) ++ ((wFs fx cI cZ ff fg tk wt le) ++ ((wSs sx cI sf sg ra fo te ot zn co) ++ (wMo mx cI cZ w (nI nz) q d (nI nt) mpr mwi mti mzo mke mwy mst mtr mbe mch mth)))) ++ (((wDp ad o pa ka (fx 0) (sx 0)) ++ ((wOf o (x 0) (y 0)) ++ ((wFl x r cI cZ cQ w q d T st re rc (nI nz)) ++ ((wSt y rp rw rt cI cQ P n Wi Ti (nI nt)) ++ (wPl pa pb cI zo))))) ++ (wOu ou cJ fo9))) H := hP
    have hD : va_D A (((wPl ka kb cI ke) ++ ((wFs fx cI cZ ff fg tk wt le) ++ ((wSs sx cI sf sg ra fo te ot zn co) ++ (wMo mx cI cZ w (nI nz) q d (nI nt) mpr mwi mti mzo mke mwy mst mtr mbe mch mth)))) ++ (((wDp ad o pa ka (fx 0) (sx 0)) ++ ((wOf o (x 0) (y 0)) ++ ((wFl x r cI cZ cQ w q d T st re rc (nI nz)) ++ ((wSt y rp rw rt cI cQ P n Wi Ti (nI nt)) ++ (wPl pa pb cI zo))))) ++ (wOu ou cJ fo9))) := hD
    exact hx9.elim
  · obtain ⟨j_1, j_2, j_3, j_4⟩ := u_5
    obtain ⟨er_9, f_6, f_7⟩ := hw9
    replace er_9 := er_9.symm
    subst er_9
    have hsC : sSetDesks nz d zo n (xs (i + 1)) (xs (i + 2)) j_1 j_2 j_3 := f_6
    have houC : j_1 = 0 → j_4 0 = j_2.toInt64 := f_7
    have hP : va_P D vwCl (((wPl ka kb cI ke) ++ ((wFs fx cI cZ ff fg tk wt le) ++ ((wSs sx cI sf sg ra fo te ot zn co) ++ (wMo mx cI cZ w (nI nz) q d (nI nt) mpr mwi mti mzo mke mwy mst mtr mbe mch mth)))) ++ (((wDp ad o pa ka (fx 0) (sx 0)) ++ ((wOf o (x 0) (y 0)) ++ ((wFl x r cI cZ cQ w q j_3 T st re rc (nI nz)) ++ ((wSt y rp rw rt cI cQ P n Wi Ti (nI nt)) ++ (wPl pa pb cI zo))))) ++ (wOu ou cJ j_4))) H := hP
    have hD : va_D A (((wPl ka kb cI ke) ++ ((wFs fx cI cZ ff fg tk wt le) ++ ((wSs sx cI sf sg ra fo te ot zn co) ++ (wMo mx cI cZ w (nI nz) q d (nI nt) mpr mwi mti mzo mke mwy mst mtr mbe mch mth)))) ++ (((wDp ad o pa ka (fx 0) (sx 0)) ++ ((wOf o (x 0) (y 0)) ++ ((wFl x r cI cZ cQ w q j_3 T st re rc (nI nz)) ++ ((wSt y rp rw rt cI cQ P n Wi Ti (nI nt)) ++ (wPl pa pb cI zo))))) ++ (wOu ou cJ j_4))) := hD
    refine lv_istore (lv' := [(5, .int (nI j_1)), (4, .int (nI i)), (0, .ref b), (1, .ref ad), (2, .ref (mx 0)), (3, .ref ou)]) hx hb dL_law_356 hl (by decide) rfl (fun ls hl => ?_)
    refine lv_aload_n hx hb dL_law_358 rfl (lv_at hl 4 rfl) ?_
    refine lv_aload_n hx hb dL_law_359 rfl (lv_at hl 2 rfl) ?_
    refine lv_iload hx hb dL_law_360 (lv_at hl 1 rfl) ?_
    refine lv_iconst (v := nI 1) hx hb dL_law_362 (by decide) ?_
    refine r_addn hx hb dL_law_363 ?_
    refine va_sld hx hb hX hbl hbA hS (i := nI (i + 1)) (vp_in_nI (by omega) (by omega)) dL_law_364 ?_
    refine lv_as (y := xs (i + 1)) (by rw [nIc (by omega)]) ?_
    refine lv_aload_n hx hb dL_law_365 rfl (lv_at hl 2 rfl) ?_
    refine lv_iload hx hb dL_law_366 (lv_at hl 1 rfl) ?_
    refine lv_iconst (v := nI 2) hx hb dL_law_368 (by decide) ?_
    refine r_addn hx hb dL_law_369 ?_
    refine va_sld hx hb hX hbl hbA hS (i := nI (i + 2)) (vp_in_nI (by omega) (by omega)) dL_law_370 ?_
    refine lv_as (y := xs (i + 2)) (by rw [nIc (by omega)]) ?_
    refine rw_i (wr := (wPl ka kb cI ke) ++ ((wFs fx cI cZ ff fg tk wt le) ++ ((wSs sx cI sf sg ra fo te ot zn co) ++ ((wDp ad o pa ka (fx 0) (sx 0)) ++ ((wOf o (x 0) (y 0)) ++ ((wFl x r cI cZ cQ w q j_3 T st re rc (nI nz)) ++ ((wSt y rp rw rt cI cQ P n Wi Ti (nI nt)) ++ ((wPl pa pb cI zo) ++ (wOu ou cJ j_4))))))))) (w_V (As := [.int (xs (i + 1)), .int (xs (i + 2))]) ⟨hx, hb, hml, hown, hts⟩ (c_X8_setDesks l D cI cZ cQ cJ mx w nz q d nt mpr mwi mti mzo mke mwy mst mtr mbe mch mth pp n g zo (xs (i + 1)) (xs (i + 2)) H.size (by first | assumption | omega) (by first | assumption | omega) (by first | assumption | omega) (by first | assumption | omega) (by first | assumption | omega) (by first | assumption | omega) (by first | assumption | omega)) (gV t4_59 t4_60 t4_61 t1_10 t4_62) rfl rfl hd_X8_setDesks ⟨Nat.le_of_ble_eq_true rfl, Nat.le_of_ble_eq_true rfl⟩ (rw_pre hP hD hSt [15, 16, 17, 18, 19, 20, 21, 22, 23, 24, 25, 26, 27, 28] rfl (by decide)) (va_recv hSt.1 hP (ci := 8) (q0 := 15) rfl rfl) rfl hl.1 (rest := []) rfl (Nat.le_of_ble_eq_true rfl) dL_law_371 ⟨(by show _ ≤ 643243; omega), (by show _ ≤ 7166375; omega)⟩) hP hD hS hA [15, 16, 17, 18, 19, 20, 21, 22, 23, 24, 25, 26, 27, 28] [0, 1, 2, 3, 4, 5, 6, 7, 8, 9, 10, 11, 12, 13, 14, 29, 30, 31, 32, 33, 34, 35, 36, 37, 38, 39, 40, 41, 42, 43, 44, 45, 46, 47, 48, 49, 50, 51, 52, 53, 54, 55, 56, 57, 58, 59, 60, 61, 62, 63, 64, 65, 66, 67, 68, 69, 70, 71, 72, 73] rfl rfl (by decide) (by decide) (fun r_9 u_11 H locs hw9 hP hD hS => ?_)
    obtain ⟨j_8, j_9, j_10⟩ := u_11
    obtain ⟨er_9, f_12⟩ := hw9
    replace er_9 := er_9.symm
    subst er_9
    have hsM : sSetDesks nz d zo n (xs (i + 1)) (xs (i + 2)) j_9 j_8 j_10 := f_12
    have hP : va_P D vwCl (((wPl ka kb cI ke) ++ ((wFs fx cI cZ ff fg tk wt le) ++ ((wSs sx cI sf sg ra fo te ot zn co) ++ ((wDp ad o pa ka (fx 0) (sx 0)) ++ ((wOf o (x 0) (y 0)) ++ ((wFl x r cI cZ cQ w q j_3 T st re rc (nI nz)) ++ ((wSt y rp rw rt cI cQ P n Wi Ti (nI nt)) ++ ((wPl pa pb cI zo) ++ (wOu ou cJ j_4))))))))) ++ (wMo mx cI cZ w (nI nz) q j_10 (nI nt) mpr mwi mti mzo mke mwy mst mtr mbe mch (nI j_9))) H := hP
    have hD : va_D A (((wPl ka kb cI ke) ++ ((wFs fx cI cZ ff fg tk wt le) ++ ((wSs sx cI sf sg ra fo te ot zn co) ++ ((wDp ad o pa ka (fx 0) (sx 0)) ++ ((wOf o (x 0) (y 0)) ++ ((wFl x r cI cZ cQ w q j_3 T st re rc (nI nz)) ++ ((wSt y rp rw rt cI cQ P n Wi Ti (nI nt)) ++ ((wPl pa pb cI zo) ++ (wOu ou cJ j_4))))))))) ++ (wMo mx cI cZ w (nI nz) q j_10 (nI nt) mpr mwi mti mzo mke mwy mst mtr mbe mch (nI j_9))) := hD
    refine lv_istore (lv' := [(6, .int j_8), (5, .int (nI j_1)), (4, .int (nI i)), (0, .ref b), (1, .ref ad), (2, .ref (mx 0)), (3, .ref ou)]) hx hb dL_law_374 hl (by decide) rfl (fun ls hl => ?_)
    refine lv_aload_n hx hb dL_law_376 rfl (lv_at hl 5 rfl) ?_
    refine ro_V (As := []) (rest := []) (v := (nI j_9)) ⟨hx, hb, hml, hown, hts⟩ (c_X8_thrown l D cI cZ cQ cJ mx w nz q j_10 nt mpr mwi mti mzo mke mwy mst mtr mbe mch (nI j_9)) (gV t4_29 t4_30 t4_31 t1_10 t4_32) rfl rfl hd_X8_thrown ⟨Nat.le_of_ble_eq_true rfl, Nat.le_of_ble_eq_true rfl⟩ (hP.sub (ws' := wMo mx cI cZ w (nI nz) q j_10 (nI nt) mpr mwi mti mzo mke mwy mst mtr mbe mch (nI j_9)) [60, 61, 62, 63, 64, 65, 66, 67, 68, 69, 70, 71, 72, 73] rfl) hSt (va_recv hSt.1 hP (ci := 8) (q0 := 60) rfl rfl) rfl hl.1 rfl (Nat.le_of_ble_eq_true rfl) dL_law_377 (by show _ ≤ 643243; omega) (by show _ ≤ 7166375; omega) ?_
    have hkb : j_1 ≤ 3 := sSetDesks_k hsC
    obtain ⟨hk9, hv9, hu90⟩ := sSetDesks_fn hsC hsM
    have hP77 := hP
    have hD77 := hD
    have hl77 := hl
    subst hu90
    have hP := hP77
    have hD := hD77
    have hl := hl77
    refine lv_iload hx hb dL_law_380 (lv_at hl 1 rfl) ?_
    refine lv_icmp_eq (tgt := 387) hx hb dL_law_382 (by decide) (fun c_13 => ?_) (fun c_13 => ?_)
    · refine lv_iload hx hb dL_law_387 (lv_at hl 1 rfl) ?_
      refine lv_if_ne (tgt := 404) hx hb dL_law_389 (by decide) (fun c_14 => ?_) (fun c_14 => ?_)
      · have c_14 := z_ne (a := j_1) (b := 0) (by omega) (by omega) c_14
        refine lv_goto (tgt := 1423) hx hb dL_law_404 (by decide) ?_
        have hIV9 : IV w q j_10 T nz nt P n Wi Ti zo ke ff fg tk mpr mwi mti mzo mke := iv_setDesks I hsM
        have hP9 : va_P D vwCl ((wDp ad o pa ka (fx 0) (sx 0)) ++ ((wOf o (x 0) (y 0)) ++ ((wFl x r cI cZ cQ w q j_10 T st re rc (nI nz)) ++ ((wSt y rp rw rt cI cQ P n Wi Ti (nI nt)) ++ ((wPl pa pb cI zo) ++ ((wPl ka kb cI ke) ++ ((wFs fx cI cZ ff fg tk wt le) ++ ((wSs sx cI sf sg ra fo te ot zn co) ++ ((wMo mx cI cZ w (nI nz) q j_10 (nI nt) mpr mwi mti mzo mke mwy mst mtr mbe mch (nI j_9)) ++ (wOu ou cJ j_4)))))))))) H := (hP.sub (ws' := (wDp ad o pa ka (fx 0) (sx 0)) ++ ((wOf o (x 0) (y 0)) ++ ((wFl x r cI cZ cQ w q j_10 T st re rc (nI nz)) ++ ((wSt y rp rw rt cI cQ P n Wi Ti (nI nt)) ++ ((wPl pa pb cI zo) ++ ((wPl ka kb cI ke) ++ ((wFs fx cI cZ ff fg tk wt le) ++ ((wSs sx cI sf sg ra fo te ot zn co) ++ ((wMo mx cI cZ w (nI nz) q j_10 (nI nt) mpr mwi mti mzo mke mwy mst mtr mbe mch (nI j_9)) ++ (wOu ou cJ j_4)))))))))) [15, 16, 17, 18, 19, 20, 21, 22, 23, 24, 25, 26, 27, 28, 29, 30, 31, 32, 33, 34, 35, 36, 37, 38, 39, 40, 41, 42, 43, 44, 45, 46, 47, 48, 49, 50, 51, 52, 53, 54, 55, 56, 57, 58, 0, 1, 2, 3, 4, 5, 6, 7, 8, 9, 10, 11, 12, 13, 14, 60, 61, 62, 63, 64, 65, 66, 67, 68, 69, 70, 71, 72, 73, 59] rfl)
        have hD9 : va_D A ((wDp ad o pa ka (fx 0) (sx 0)) ++ ((wOf o (x 0) (y 0)) ++ ((wFl x r cI cZ cQ w q j_10 T st re rc (nI nz)) ++ ((wSt y rp rw rt cI cQ P n Wi Ti (nI nt)) ++ ((wPl pa pb cI zo) ++ ((wPl ka kb cI ke) ++ ((wFs fx cI cZ ff fg tk wt le) ++ ((wSs sx cI sf sg ra fo te ot zn co) ++ ((wMo mx cI cZ w (nI nz) q j_10 (nI nt) mpr mwi mti mzo mke mwy mst mtr mbe mch (nI j_9)) ++ (wOu ou cJ j_4)))))))))) := (hD.sub (ws' := (wDp ad o pa ka (fx 0) (sx 0)) ++ ((wOf o (x 0) (y 0)) ++ ((wFl x r cI cZ cQ w q j_10 T st re rc (nI nz)) ++ ((wSt y rp rw rt cI cQ P n Wi Ti (nI nt)) ++ ((wPl pa pb cI zo) ++ ((wPl ka kb cI ke) ++ ((wFs fx cI cZ ff fg tk wt le) ++ ((wSs sx cI sf sg ra fo te ot zn co) ++ ((wMo mx cI cZ w (nI nz) q j_10 (nI nt) mpr mwi mti mzo mke mwy mst mtr mbe mch (nI j_9)) ++ (wOu ou cJ j_4)))))))))) [15, 16, 17, 18, 19, 20, 21, 22, 23, 24, 25, 26, 27, 28, 29, 30, 31, 32, 33, 34, 35, 36, 37, 38, 39, 40, 41, 42, 43, 44, 45, 46, 47, 48, 49, 50, 51, 52, 53, 54, 55, 56, 57, 58, 0, 1, 2, 3, 4, 5, 6, 7, 8, 9, 10, 11, 12, 13, 14, 60, 61, 62, 63, 64, 65, 66, 67, 68, 69, 70, 71, 72, 73, 59] (by decide) rfl)
        refine W.widen (k := 74 + i + 4) (n := 900 + 6 * i + 24) (by omega) (by omega) ?_
        exact K w q j_10 T st re rc nz P n Wi Ti nt zo ke ff fg wt le sf sg ra fo te ot zn co mpr mwi mti mzo mke mwy mst mtr mbe mch (nI j_9) j_4 hIV9 H locs hP9 hD9 hS ls (lv_sub hl [2, 3, 4, 5, 6] rfl)
      · have c_14 := z_eq (a := j_1) (b := 0) (by omega) (by omega) c_14
        refine lv_aload_n hx hb dL_law_392 rfl (lv_at hl 6 rfl) ?_
        refine lv_iconst (v := nI 0) hx hb dL_law_393 (by decide) ?_
        refine r_lald hx hb hSt.1 hP 59 3 rfl rfl (k := 0) (by omega) (by omega) dL_law_394 ?_
        refine lv_iload hx hb dL_law_395 (lv_at hl 0 rfl) ?_
        refine lv_i2l (v := (j_8).toInt64) hx hb dL_law_397 rfl ?_
        refine W.lcmp hx hb dL_law_398 ?_
        refine lv_if_eq (tgt := 404) hx hb dL_law_399 (by decide) (fun c_15 => ?_) (fun c_15 => ?_)
        · refine lv_goto (tgt := 1423) hx hb dL_law_404 (by decide) ?_
          have hIV9 : IV w q j_10 T nz nt P n Wi Ti zo ke ff fg tk mpr mwi mti mzo mke := iv_setDesks I hsM
          have hP9 : va_P D vwCl ((wDp ad o pa ka (fx 0) (sx 0)) ++ ((wOf o (x 0) (y 0)) ++ ((wFl x r cI cZ cQ w q j_10 T st re rc (nI nz)) ++ ((wSt y rp rw rt cI cQ P n Wi Ti (nI nt)) ++ ((wPl pa pb cI zo) ++ ((wPl ka kb cI ke) ++ ((wFs fx cI cZ ff fg tk wt le) ++ ((wSs sx cI sf sg ra fo te ot zn co) ++ ((wMo mx cI cZ w (nI nz) q j_10 (nI nt) mpr mwi mti mzo mke mwy mst mtr mbe mch (nI j_9)) ++ (wOu ou cJ j_4)))))))))) H := (hP.sub (ws' := (wDp ad o pa ka (fx 0) (sx 0)) ++ ((wOf o (x 0) (y 0)) ++ ((wFl x r cI cZ cQ w q j_10 T st re rc (nI nz)) ++ ((wSt y rp rw rt cI cQ P n Wi Ti (nI nt)) ++ ((wPl pa pb cI zo) ++ ((wPl ka kb cI ke) ++ ((wFs fx cI cZ ff fg tk wt le) ++ ((wSs sx cI sf sg ra fo te ot zn co) ++ ((wMo mx cI cZ w (nI nz) q j_10 (nI nt) mpr mwi mti mzo mke mwy mst mtr mbe mch (nI j_9)) ++ (wOu ou cJ j_4)))))))))) [15, 16, 17, 18, 19, 20, 21, 22, 23, 24, 25, 26, 27, 28, 29, 30, 31, 32, 33, 34, 35, 36, 37, 38, 39, 40, 41, 42, 43, 44, 45, 46, 47, 48, 49, 50, 51, 52, 53, 54, 55, 56, 57, 58, 0, 1, 2, 3, 4, 5, 6, 7, 8, 9, 10, 11, 12, 13, 14, 60, 61, 62, 63, 64, 65, 66, 67, 68, 69, 70, 71, 72, 73, 59] rfl)
          have hD9 : va_D A ((wDp ad o pa ka (fx 0) (sx 0)) ++ ((wOf o (x 0) (y 0)) ++ ((wFl x r cI cZ cQ w q j_10 T st re rc (nI nz)) ++ ((wSt y rp rw rt cI cQ P n Wi Ti (nI nt)) ++ ((wPl pa pb cI zo) ++ ((wPl ka kb cI ke) ++ ((wFs fx cI cZ ff fg tk wt le) ++ ((wSs sx cI sf sg ra fo te ot zn co) ++ ((wMo mx cI cZ w (nI nz) q j_10 (nI nt) mpr mwi mti mzo mke mwy mst mtr mbe mch (nI j_9)) ++ (wOu ou cJ j_4)))))))))) := (hD.sub (ws' := (wDp ad o pa ka (fx 0) (sx 0)) ++ ((wOf o (x 0) (y 0)) ++ ((wFl x r cI cZ cQ w q j_10 T st re rc (nI nz)) ++ ((wSt y rp rw rt cI cQ P n Wi Ti (nI nt)) ++ ((wPl pa pb cI zo) ++ ((wPl ka kb cI ke) ++ ((wFs fx cI cZ ff fg tk wt le) ++ ((wSs sx cI sf sg ra fo te ot zn co) ++ ((wMo mx cI cZ w (nI nz) q j_10 (nI nt) mpr mwi mti mzo mke mwy mst mtr mbe mch (nI j_9)) ++ (wOu ou cJ j_4)))))))))) [15, 16, 17, 18, 19, 20, 21, 22, 23, 24, 25, 26, 27, 28, 29, 30, 31, 32, 33, 34, 35, 36, 37, 38, 39, 40, 41, 42, 43, 44, 45, 46, 47, 48, 49, 50, 51, 52, 53, 54, 55, 56, 57, 58, 0, 1, 2, 3, 4, 5, 6, 7, 8, 9, 10, 11, 12, 13, 14, 60, 61, 62, 63, 64, 65, 66, 67, 68, 69, 70, 71, 72, 73, 59] (by decide) rfl)
          refine W.widen (k := 74 + i + 4) (n := 900 + 6 * i + 24) (by omega) (by omega) ?_
          exact K w q j_10 T st re rc nz P n Wi Ti nt zo ke ff fg wt le sf sg ra fo te ot zn co mpr mwi mti mzo mke mwy mst mtr mbe mch (nI j_9) j_4 hIV9 H locs hP9 hD9 hS ls (lv_sub hl [2, 3, 4, 5, 6] rfl)
        · exact absurd ((lg_cmp_eq _ _).mpr ((houC c_14).trans (congrArg Int32.toInt64 (hv9 c_14)))) c_15
    · exact absurd (congrArg nI hk9) c_13
set_option maxHeartbeats 4000000 in
set_option maxRecDepth 100000 in
theorem law_c3 (l : Launch) {p : Program} {e : Env} {s : State} {m : MethodId} {below : List Frame} {meth : Method} {c : Code} {b L : Nat} {xs : Nat → Int32} {A : Nat → Prop} {Q : State → Prop} {D : va_G} {cI cZ cQ cJ : ClassId} (ad : Nat) (o : Nat) (pa : Nat) (ka : Nat) (fx : Nat → Nat) (sx : Nat → Nat) (x : Nat → Nat) (r : Nat → Nat) (y : Nat → Nat) (rp : Nat → Nat) (rw : Nat → Nat) (rt : Nat → Nat) (pb : Nat) (kb : Nat) (mx : Nat → Nat) (ou : Nat) (tk : Nat → Int32) (C : LC p l s m c b L xs A D cI cZ cQ cJ) {i : Nat} (hi : i + 4 ≤ L) (K : LK p l e s m below meth c b A Q D cI cZ cQ cJ ad o pa ka fx sx x r y rp rw rt pb kb mx ou tk i 1423 (74 + i + 4) (900 + 6 * i + 24)) : LK p l e s m below meth c b A Q D cI cZ cQ cJ ad o pa ka fx sx x r y rp rw rt pb kb mx ou tk i 407 (74 + i) (900 + 6 * i) := by
  obtain ⟨hx, hb, hml, hown, hts, hX, hbl, hbA, hL, hSt, hDc, hZ, hfl, hA⟩ := C
  intro w q d T st re rc nz P n Wi Ti nt zo ke ff fg wt le sf sg ra fo te ot zn co mpr mwi mti mzo mke mwy mst mtr mbe mch mth fo9 hIV H locs hP hD hS ls hl
  obtain ⟨sq, dn, pp, wi, ti, dd, g, gk, I⟩ := id hIV
  obtain ⟨⟨hnz, hnt⟩, hw, hq, hT, hdd, hdn, hPp, hnn, hwi, hti, hv, hzo, hke, hvg, hvk, hfG, hff2, hfg2, htk, hpP, hmW, hmT, hmz, hmk⟩ := id I
  have hpr : ∀ t, t < nt → ∀ j, j < 5 → mpr (5 * t + j) = nI (pp t j) ∧ pp t j ≤ 60 := fun t ht j hj => by rw [hpP t j (by omega) hj]; exact hPp t ht j hj
  have hmw : ∀ t z, t < 7 → z < 7 → mwi (7 * t + z) = nI (wi t z) := fun t z ht hz => (hmW t z ht hz).trans (hwi t z ht hz)
  have hmt : ∀ t z, t < 7 → z < 7 → mti (7 * t + z) = nI (ti t z) := fun t z ht hz => (hmT t z ht hz).trans (hti t z ht hz)
  have hTd : ∀ u v, u < nz → v < nz → T u v = nI (dd u v) := fun u v hu hv => hdd u v hu hv
  have hdD : ∀ u v, u < nz → v < nz → isD w (sq u) (sq v) (nI (dd u v)) := fun u v hu hv => by rw [← hdd u v hu hv]; exact hT u v hu hv
  have hzz : ∀ u, nt ≤ u → u < 7 → zo u = -1 := fun u h1 h2 => by rw [hzo u h2, vG_out hvg u h1 h2]; rfl
  have hgz7 : gOK nz 7 g := fun t _ => (hvg.1 t).imp And.right id
  have hgzn : gOK nz nt g := fun t _ => (hvg.1 t).imp And.right id
  obtain ⟨nx, hnx⟩ := nx_ex (zo := zo) (ke := ke)
  obtain ⟨nm, hnm⟩ := nm_ex (gk := gk) hzo hvg hnz
  refine lv_aload_n hx hb dL_law_407 rfl (lv_at hl 2 rfl) ?_
  refine lv_aload_n hx hb dL_law_408 rfl (lv_at hl 4 rfl) ?_
  refine rx_i (wr := (wFl x r cI cZ cQ w q d T st re rc (nI nz)) ++ ((wPl pa pb cI zo) ++ ((wPl ka kb cI ke) ++ ((wFs fx cI cZ ff fg tk wt le) ++ ((wSs sx cI sf sg ra fo te ot zn co) ++ (wMo mx cI cZ w (nI nz) q d (nI nt) mpr mwi mti mzo mke mwy mst mtr mbe mch mth)))))) (w_SHX (As := [.ref ad, .ref ou]) ⟨hx, hb, hml, hown, hts⟩ (c_L_addTeam l D cI cZ cQ cJ ad o pa ka fx sx x y rp rw rt P n Wi Ti nt ou fo9 H.size (by first | assumption | omega) (by first | assumption | omega)) (gSH t3_21 t3_22 t1_0 t3_23) rfl rfl hd_L_addTeam ⟨Nat.le_of_ble_eq_true rfl, Nat.le_of_ble_eq_true rfl⟩ (rx_pre hP hD hSt hDc hZ hS hA [0, 1, 16, 17, 18, 19, 20, 21, 22, 23, 24, 25, 26, 27, 28, 29, 30, 31, 32, 33, 34, 35, 36, 37, 38, 39, 40, 41, 73] rfl (by decide)) rfl hl.1 (rest := []) rfl (Nat.le_of_ble_eq_true rfl) dL_law_409 ⟨(by show _ ≤ 643243; omega), (by show _ ≤ 7166375; omega)⟩) hP hD hS hA [0, 1, 16, 17, 18, 19, 20, 21, 22, 23, 24, 25, 26, 27, 28, 29, 30, 31, 32, 33, 34, 35, 36, 37, 38, 39, 40, 41, 73] [2, 3, 4, 5, 6, 7, 8, 9, 10, 11, 12, 13, 14, 15, 42, 43, 44, 45, 46, 47, 48, 49, 50, 51, 52, 53, 54, 55, 56, 57, 58, 59, 60, 61, 62, 63, 64, 65, 66, 67, 68, 69, 70, 71, 72] rfl rfl (by decide) (by decide) (fun E9 ce9 q9 x9 H locs hx9 hP hD hS hc91 hc92 hc93 => ?_) (fun r_9 u_7 H locs hw9 hP hD hS => ?_)
  · have hx9 : False := hx9
    have hP : va_P D vwCl (((wFl x r cI cZ cQ w q d T st re rc (nI nz)) ++ ((wPl pa pb cI zo) ++ ((wPl ka kb cI ke) ++ ((wFs fx cI cZ ff fg tk wt le) ++ ((wSs sx cI sf sg ra fo te ot zn co) ++ (wMo mx cI cZ w (nI nz) q d (nI nt) mpr mwi mti mzo mke mwy mst mtr mbe mch mth)))))) ++ (((wDp ad o pa ka (fx 0) (sx 0)) ++ ((wOf o (x 0) (y 0)) ++ (wSt y rp rw rt cI cQ P n Wi Ti (nI nt)))) ++ (wOu ou cJ fo9))) H := hP
    have hD : va_D A (((wFl x r cI cZ cQ w q d T st re rc (nI nz)) ++ ((wPl pa pb cI zo) ++ ((wPl ka kb cI ke) ++ ((wFs fx cI cZ ff fg tk wt le) ++ ((wSs sx cI sf sg ra fo te ot zn co) ++ (wMo mx cI cZ w (nI nz) q d (nI nt) mpr mwi mti mzo mke mwy mst mtr mbe mch mth)))))) ++ (((wDp ad o pa ka (fx 0) (sx 0)) ++ ((wOf o (x 0) (y 0)) ++ (wSt y rp rw rt cI cQ P n Wi Ti (nI nt)))) ++ (wOu ou cJ fo9))) := hD
    exact hx9.elim
  · obtain ⟨j_1, j_2, j_3, j_4, j_5, j_6⟩ := u_7
    obtain ⟨er_9, f_8, f_9⟩ := hw9
    replace er_9 := er_9.symm
    subst er_9
    have hsC : sAddTeam nt P n j_1 j_2 j_5 j_3 j_4 := f_8
    have houC : j_1 = 0 → j_6 0 = j_2.toInt64 := f_9
    have hP : va_P D vwCl (((wFl x r cI cZ cQ w q d T st re rc (nI nz)) ++ ((wPl pa pb cI zo) ++ ((wPl ka kb cI ke) ++ ((wFs fx cI cZ ff fg tk wt le) ++ ((wSs sx cI sf sg ra fo te ot zn co) ++ (wMo mx cI cZ w (nI nz) q d (nI nt) mpr mwi mti mzo mke mwy mst mtr mbe mch mth)))))) ++ (((wDp ad o pa ka (fx 0) (sx 0)) ++ ((wOf o (x 0) (y 0)) ++ (wSt y rp rw rt cI cQ j_3 j_4 Wi Ti (nI j_5)))) ++ (wOu ou cJ j_6))) H := hP
    have hD : va_D A (((wFl x r cI cZ cQ w q d T st re rc (nI nz)) ++ ((wPl pa pb cI zo) ++ ((wPl ka kb cI ke) ++ ((wFs fx cI cZ ff fg tk wt le) ++ ((wSs sx cI sf sg ra fo te ot zn co) ++ (wMo mx cI cZ w (nI nz) q d (nI nt) mpr mwi mti mzo mke mwy mst mtr mbe mch mth)))))) ++ (((wDp ad o pa ka (fx 0) (sx 0)) ++ ((wOf o (x 0) (y 0)) ++ (wSt y rp rw rt cI cQ j_3 j_4 Wi Ti (nI j_5)))) ++ (wOu ou cJ j_6))) := hD
    refine lv_istore (lv' := [(5, .int (nI j_1)), (4, .int (nI i)), (0, .ref b), (1, .ref ad), (2, .ref (mx 0)), (3, .ref ou)]) hx hb dL_law_412 hl (by decide) rfl (fun ls hl => ?_)
    refine lv_aload_n hx hb dL_law_414 rfl (lv_at hl 4 rfl) ?_
    refine rw_i (wr := (wFl x r cI cZ cQ w q d T st re rc (nI nz)) ++ ((wPl pa pb cI zo) ++ ((wPl ka kb cI ke) ++ ((wFs fx cI cZ ff fg tk wt le) ++ ((wSs sx cI sf sg ra fo te ot zn co) ++ ((wDp ad o pa ka (fx 0) (sx 0)) ++ ((wOf o (x 0) (y 0)) ++ ((wSt y rp rw rt cI cQ j_3 j_4 Wi Ti (nI j_5)) ++ (wOu ou cJ j_6))))))))) (w_V (As := []) ⟨hx, hb, hml, hown, hts⟩ (c_X8_addTeam l D cI cZ cQ cJ mx w nz q d nt mpr mwi mti mzo mke mwy mst mtr mbe mch mth pp n g zo P H.size (by first | assumption | omega) (by first | assumption | omega) (by first | assumption | omega)) (gV t4_75 t4_76 t4_77 t1_10 t4_78) rfl rfl hd_X8_addTeam ⟨Nat.le_of_ble_eq_true rfl, Nat.le_of_ble_eq_true rfl⟩ (rw_pre hP hD hSt [31, 32, 33, 34, 35, 36, 37, 38, 39, 40, 41, 42, 43, 44] rfl (by decide)) (va_recv hSt.1 hP (ci := 8) (q0 := 31) rfl rfl) rfl hl.1 (rest := []) rfl (Nat.le_of_ble_eq_true rfl) dL_law_415 ⟨(by show _ ≤ 643243; omega), (by show _ ≤ 7166375; omega)⟩) hP hD hS hA [31, 32, 33, 34, 35, 36, 37, 38, 39, 40, 41, 42, 43, 44] [0, 1, 2, 3, 4, 5, 6, 7, 8, 9, 10, 11, 12, 13, 14, 15, 16, 17, 18, 19, 20, 21, 22, 23, 24, 25, 26, 27, 28, 29, 30, 45, 46, 47, 48, 49, 50, 51, 52, 53, 54, 55, 56, 57, 58, 59, 60, 61, 62, 63, 64, 65, 66, 67, 68, 69, 70, 71, 72, 73] rfl rfl (by decide) (by decide) (fun r_9 u_17 H locs hw9 hP hD hS => ?_)
    obtain ⟨j_10, j_11, j_12, j_13, j_14, j_15, j_16⟩ := u_17
    obtain ⟨er_9, f_18, f_19, f_20⟩ := hw9
    replace er_9 := er_9.symm
    subst er_9
    have hsM : sAddTeam nt P n j_11 j_10 j_14 j_15 j_16 := f_18
    have hp2M : ∀ t j, t < 7 → j < 5 → j_12 (5 * t + j) = j_15 t j := f_19
    have hz2M : j_13 = if j_11 = 0 then upd mzo nt (-1 : Int32) else mzo := f_20
    have hP : va_P D vwCl (((wFl x r cI cZ cQ w q d T st re rc (nI nz)) ++ ((wPl pa pb cI zo) ++ ((wPl ka kb cI ke) ++ ((wFs fx cI cZ ff fg tk wt le) ++ ((wSs sx cI sf sg ra fo te ot zn co) ++ ((wDp ad o pa ka (fx 0) (sx 0)) ++ ((wOf o (x 0) (y 0)) ++ ((wSt y rp rw rt cI cQ j_3 j_4 Wi Ti (nI j_5)) ++ (wOu ou cJ j_6))))))))) ++ (wMo mx cI cZ w (nI nz) q d (nI j_14) j_12 mwi mti j_13 mke mwy mst mtr mbe mch (nI j_11))) H := hP
    have hD : va_D A (((wFl x r cI cZ cQ w q d T st re rc (nI nz)) ++ ((wPl pa pb cI zo) ++ ((wPl ka kb cI ke) ++ ((wFs fx cI cZ ff fg tk wt le) ++ ((wSs sx cI sf sg ra fo te ot zn co) ++ ((wDp ad o pa ka (fx 0) (sx 0)) ++ ((wOf o (x 0) (y 0)) ++ ((wSt y rp rw rt cI cQ j_3 j_4 Wi Ti (nI j_5)) ++ (wOu ou cJ j_6))))))))) ++ (wMo mx cI cZ w (nI nz) q d (nI j_14) j_12 mwi mti j_13 mke mwy mst mtr mbe mch (nI j_11))) := hD
    refine lv_istore (lv' := [(6, .int j_10), (5, .int (nI j_1)), (4, .int (nI i)), (0, .ref b), (1, .ref ad), (2, .ref (mx 0)), (3, .ref ou)]) hx hb dL_law_418 hl (by decide) rfl (fun ls hl => ?_)
    refine lv_aload_n hx hb dL_law_420 rfl (lv_at hl 5 rfl) ?_
    refine ro_V (As := []) (rest := []) (v := (nI j_11)) ⟨hx, hb, hml, hown, hts⟩ (c_X8_thrown l D cI cZ cQ cJ mx w nz q d j_14 j_12 mwi mti j_13 mke mwy mst mtr mbe mch (nI j_11)) (gV t4_29 t4_30 t4_31 t1_10 t4_32) rfl rfl hd_X8_thrown ⟨Nat.le_of_ble_eq_true rfl, Nat.le_of_ble_eq_true rfl⟩ (hP.sub (ws' := wMo mx cI cZ w (nI nz) q d (nI j_14) j_12 mwi mti j_13 mke mwy mst mtr mbe mch (nI j_11)) [60, 61, 62, 63, 64, 65, 66, 67, 68, 69, 70, 71, 72, 73] rfl) hSt (va_recv hSt.1 hP (ci := 8) (q0 := 60) rfl rfl) rfl hl.1 rfl (Nat.le_of_ble_eq_true rfl) dL_law_421 (by show _ ≤ 643243; omega) (by show _ ≤ 7166375; omega) ?_
    have hkb : j_1 ≤ 3 := sAddTeam_k hsC
    obtain ⟨hk9, hv9, hu90, hu91, hu92⟩ := sAddTeam_fn hsC hsM
    have hP77 := hP
    have hD77 := hD
    have hl77 := hl
    subst hu90
    subst hu91
    subst hu92
    have hP := hP77
    have hD := hD77
    have hl := hl77
    refine lv_iload hx hb dL_law_424 (lv_at hl 1 rfl) ?_
    refine lv_icmp_eq (tgt := 431) hx hb dL_law_426 (by decide) (fun c_21 => ?_) (fun c_21 => ?_)
    · refine lv_iload hx hb dL_law_431 (lv_at hl 1 rfl) ?_
      refine lv_if_ne (tgt := 448) hx hb dL_law_433 (by decide) (fun c_22 => ?_) (fun c_22 => ?_)
      · have c_22 := z_ne (a := j_1) (b := 0) (by omega) (by omega) c_22
        refine lv_goto (tgt := 1423) hx hb dL_law_448 (by decide) ?_
        have hIV9 : IV w q d T nz j_14 j_15 j_16 Wi Ti zo ke ff fg tk j_12 mwi mti j_13 mke := iv_addTeam I hsM hp2M hz2M
        have hP9 : va_P D vwCl ((wDp ad o pa ka (fx 0) (sx 0)) ++ ((wOf o (x 0) (y 0)) ++ ((wFl x r cI cZ cQ w q d T st re rc (nI nz)) ++ ((wSt y rp rw rt cI cQ j_15 j_16 Wi Ti (nI j_14)) ++ ((wPl pa pb cI zo) ++ ((wPl ka kb cI ke) ++ ((wFs fx cI cZ ff fg tk wt le) ++ ((wSs sx cI sf sg ra fo te ot zn co) ++ ((wMo mx cI cZ w (nI nz) q d (nI j_14) j_12 mwi mti j_13 mke mwy mst mtr mbe mch (nI j_11)) ++ (wOu ou cJ j_6)))))))))) H := (hP.sub (ws' := (wDp ad o pa ka (fx 0) (sx 0)) ++ ((wOf o (x 0) (y 0)) ++ ((wFl x r cI cZ cQ w q d T st re rc (nI nz)) ++ ((wSt y rp rw rt cI cQ j_15 j_16 Wi Ti (nI j_14)) ++ ((wPl pa pb cI zo) ++ ((wPl ka kb cI ke) ++ ((wFs fx cI cZ ff fg tk wt le) ++ ((wSs sx cI sf sg ra fo te ot zn co) ++ ((wMo mx cI cZ w (nI nz) q d (nI j_14) j_12 mwi mti j_13 mke mwy mst mtr mbe mch (nI j_11)) ++ (wOu ou cJ j_6)))))))))) [31, 32, 0, 1, 2, 3, 4, 5, 6, 7, 8, 9, 10, 11, 12, 13, 33, 34, 35, 36, 37, 38, 39, 40, 41, 42, 43, 44, 45, 46, 47, 48, 49, 50, 51, 52, 53, 54, 55, 56, 57, 58, 14, 15, 16, 17, 18, 19, 20, 21, 22, 23, 24, 25, 26, 27, 28, 29, 30, 60, 61, 62, 63, 64, 65, 66, 67, 68, 69, 70, 71, 72, 73, 59] rfl)
        have hD9 : va_D A ((wDp ad o pa ka (fx 0) (sx 0)) ++ ((wOf o (x 0) (y 0)) ++ ((wFl x r cI cZ cQ w q d T st re rc (nI nz)) ++ ((wSt y rp rw rt cI cQ j_15 j_16 Wi Ti (nI j_14)) ++ ((wPl pa pb cI zo) ++ ((wPl ka kb cI ke) ++ ((wFs fx cI cZ ff fg tk wt le) ++ ((wSs sx cI sf sg ra fo te ot zn co) ++ ((wMo mx cI cZ w (nI nz) q d (nI j_14) j_12 mwi mti j_13 mke mwy mst mtr mbe mch (nI j_11)) ++ (wOu ou cJ j_6)))))))))) := (hD.sub (ws' := (wDp ad o pa ka (fx 0) (sx 0)) ++ ((wOf o (x 0) (y 0)) ++ ((wFl x r cI cZ cQ w q d T st re rc (nI nz)) ++ ((wSt y rp rw rt cI cQ j_15 j_16 Wi Ti (nI j_14)) ++ ((wPl pa pb cI zo) ++ ((wPl ka kb cI ke) ++ ((wFs fx cI cZ ff fg tk wt le) ++ ((wSs sx cI sf sg ra fo te ot zn co) ++ ((wMo mx cI cZ w (nI nz) q d (nI j_14) j_12 mwi mti j_13 mke mwy mst mtr mbe mch (nI j_11)) ++ (wOu ou cJ j_6)))))))))) [31, 32, 0, 1, 2, 3, 4, 5, 6, 7, 8, 9, 10, 11, 12, 13, 33, 34, 35, 36, 37, 38, 39, 40, 41, 42, 43, 44, 45, 46, 47, 48, 49, 50, 51, 52, 53, 54, 55, 56, 57, 58, 14, 15, 16, 17, 18, 19, 20, 21, 22, 23, 24, 25, 26, 27, 28, 29, 30, 60, 61, 62, 63, 64, 65, 66, 67, 68, 69, 70, 71, 72, 73, 59] (by decide) rfl)
        refine W.widen (k := 74 + i + 4) (n := 900 + 6 * i + 24) (by omega) (by omega) ?_
        exact K w q d T st re rc nz j_15 j_16 Wi Ti j_14 zo ke ff fg wt le sf sg ra fo te ot zn co j_12 mwi mti j_13 mke mwy mst mtr mbe mch (nI j_11) j_6 hIV9 H locs hP9 hD9 hS ls (lv_sub hl [2, 3, 4, 5, 6] rfl)
      · have c_22 := z_eq (a := j_1) (b := 0) (by omega) (by omega) c_22
        refine lv_aload_n hx hb dL_law_436 rfl (lv_at hl 6 rfl) ?_
        refine lv_iconst (v := nI 0) hx hb dL_law_437 (by decide) ?_
        refine r_lald hx hb hSt.1 hP 59 3 rfl rfl (k := 0) (by omega) (by omega) dL_law_438 ?_
        refine lv_iload hx hb dL_law_439 (lv_at hl 0 rfl) ?_
        refine lv_i2l (v := (j_10).toInt64) hx hb dL_law_441 rfl ?_
        refine W.lcmp hx hb dL_law_442 ?_
        refine lv_if_eq (tgt := 448) hx hb dL_law_443 (by decide) (fun c_23 => ?_) (fun c_23 => ?_)
        · refine lv_goto (tgt := 1423) hx hb dL_law_448 (by decide) ?_
          have hIV9 : IV w q d T nz j_14 j_15 j_16 Wi Ti zo ke ff fg tk j_12 mwi mti j_13 mke := iv_addTeam I hsM hp2M hz2M
          have hP9 : va_P D vwCl ((wDp ad o pa ka (fx 0) (sx 0)) ++ ((wOf o (x 0) (y 0)) ++ ((wFl x r cI cZ cQ w q d T st re rc (nI nz)) ++ ((wSt y rp rw rt cI cQ j_15 j_16 Wi Ti (nI j_14)) ++ ((wPl pa pb cI zo) ++ ((wPl ka kb cI ke) ++ ((wFs fx cI cZ ff fg tk wt le) ++ ((wSs sx cI sf sg ra fo te ot zn co) ++ ((wMo mx cI cZ w (nI nz) q d (nI j_14) j_12 mwi mti j_13 mke mwy mst mtr mbe mch (nI j_11)) ++ (wOu ou cJ j_6)))))))))) H := (hP.sub (ws' := (wDp ad o pa ka (fx 0) (sx 0)) ++ ((wOf o (x 0) (y 0)) ++ ((wFl x r cI cZ cQ w q d T st re rc (nI nz)) ++ ((wSt y rp rw rt cI cQ j_15 j_16 Wi Ti (nI j_14)) ++ ((wPl pa pb cI zo) ++ ((wPl ka kb cI ke) ++ ((wFs fx cI cZ ff fg tk wt le) ++ ((wSs sx cI sf sg ra fo te ot zn co) ++ ((wMo mx cI cZ w (nI nz) q d (nI j_14) j_12 mwi mti j_13 mke mwy mst mtr mbe mch (nI j_11)) ++ (wOu ou cJ j_6)))))))))) [31, 32, 0, 1, 2, 3, 4, 5, 6, 7, 8, 9, 10, 11, 12, 13, 33, 34, 35, 36, 37, 38, 39, 40, 41, 42, 43, 44, 45, 46, 47, 48, 49, 50, 51, 52, 53, 54, 55, 56, 57, 58, 14, 15, 16, 17, 18, 19, 20, 21, 22, 23, 24, 25, 26, 27, 28, 29, 30, 60, 61, 62, 63, 64, 65, 66, 67, 68, 69, 70, 71, 72, 73, 59] rfl)
          have hD9 : va_D A ((wDp ad o pa ka (fx 0) (sx 0)) ++ ((wOf o (x 0) (y 0)) ++ ((wFl x r cI cZ cQ w q d T st re rc (nI nz)) ++ ((wSt y rp rw rt cI cQ j_15 j_16 Wi Ti (nI j_14)) ++ ((wPl pa pb cI zo) ++ ((wPl ka kb cI ke) ++ ((wFs fx cI cZ ff fg tk wt le) ++ ((wSs sx cI sf sg ra fo te ot zn co) ++ ((wMo mx cI cZ w (nI nz) q d (nI j_14) j_12 mwi mti j_13 mke mwy mst mtr mbe mch (nI j_11)) ++ (wOu ou cJ j_6)))))))))) := (hD.sub (ws' := (wDp ad o pa ka (fx 0) (sx 0)) ++ ((wOf o (x 0) (y 0)) ++ ((wFl x r cI cZ cQ w q d T st re rc (nI nz)) ++ ((wSt y rp rw rt cI cQ j_15 j_16 Wi Ti (nI j_14)) ++ ((wPl pa pb cI zo) ++ ((wPl ka kb cI ke) ++ ((wFs fx cI cZ ff fg tk wt le) ++ ((wSs sx cI sf sg ra fo te ot zn co) ++ ((wMo mx cI cZ w (nI nz) q d (nI j_14) j_12 mwi mti j_13 mke mwy mst mtr mbe mch (nI j_11)) ++ (wOu ou cJ j_6)))))))))) [31, 32, 0, 1, 2, 3, 4, 5, 6, 7, 8, 9, 10, 11, 12, 13, 33, 34, 35, 36, 37, 38, 39, 40, 41, 42, 43, 44, 45, 46, 47, 48, 49, 50, 51, 52, 53, 54, 55, 56, 57, 58, 14, 15, 16, 17, 18, 19, 20, 21, 22, 23, 24, 25, 26, 27, 28, 29, 30, 60, 61, 62, 63, 64, 65, 66, 67, 68, 69, 70, 71, 72, 73, 59] (by decide) rfl)
          refine W.widen (k := 74 + i + 4) (n := 900 + 6 * i + 24) (by omega) (by omega) ?_
          exact K w q d T st re rc nz j_15 j_16 Wi Ti j_14 zo ke ff fg wt le sf sg ra fo te ot zn co j_12 mwi mti j_13 mke mwy mst mtr mbe mch (nI j_11) j_6 hIV9 H locs hP9 hD9 hS ls (lv_sub hl [2, 3, 4, 5, 6] rfl)
        · exact absurd ((lg_cmp_eq _ _).mpr ((houC c_22).trans (congrArg Int32.toInt64 (hv9 c_22)))) c_23
    · exact absurd (congrArg nI hk9) c_21
set_option maxHeartbeats 4000000 in
set_option maxRecDepth 100000 in
theorem law_c4 (l : Launch) {p : Program} {e : Env} {s : State} {m : MethodId} {below : List Frame} {meth : Method} {c : Code} {b L : Nat} {xs : Nat → Int32} {A : Nat → Prop} {Q : State → Prop} {D : va_G} {cI cZ cQ cJ : ClassId} (ad : Nat) (o : Nat) (pa : Nat) (ka : Nat) (fx : Nat → Nat) (sx : Nat → Nat) (x : Nat → Nat) (r : Nat → Nat) (y : Nat → Nat) (rp : Nat → Nat) (rw : Nat → Nat) (rt : Nat → Nat) (pb : Nat) (kb : Nat) (mx : Nat → Nat) (ou : Nat) (tk : Nat → Int32) (C : LC p l s m c b L xs A D cI cZ cQ cJ) {i : Nat} (hi : i + 4 ≤ L) (K : LK p l e s m below meth c b A Q D cI cZ cQ cJ ad o pa ka fx sx x r y rp rw rt pb kb mx ou tk i 1423 (74 + i + 4) (900 + 6 * i + 24)) : LK p l e s m below meth c b A Q D cI cZ cQ cJ ad o pa ka fx sx x r y rp rw rt pb kb mx ou tk i 451 (74 + i) (900 + 6 * i) := by
  obtain ⟨hx, hb, hml, hown, hts, hX, hbl, hbA, hL, hSt, hDc, hZ, hfl, hA⟩ := C
  intro w q d T st re rc nz P n Wi Ti nt zo ke ff fg wt le sf sg ra fo te ot zn co mpr mwi mti mzo mke mwy mst mtr mbe mch mth fo9 hIV H locs hP hD hS ls hl
  obtain ⟨sq, dn, pp, wi, ti, dd, g, gk, I⟩ := id hIV
  obtain ⟨⟨hnz, hnt⟩, hw, hq, hT, hdd, hdn, hPp, hnn, hwi, hti, hv, hzo, hke, hvg, hvk, hfG, hff2, hfg2, htk, hpP, hmW, hmT, hmz, hmk⟩ := id I
  have hpr : ∀ t, t < nt → ∀ j, j < 5 → mpr (5 * t + j) = nI (pp t j) ∧ pp t j ≤ 60 := fun t ht j hj => by rw [hpP t j (by omega) hj]; exact hPp t ht j hj
  have hmw : ∀ t z, t < 7 → z < 7 → mwi (7 * t + z) = nI (wi t z) := fun t z ht hz => (hmW t z ht hz).trans (hwi t z ht hz)
  have hmt : ∀ t z, t < 7 → z < 7 → mti (7 * t + z) = nI (ti t z) := fun t z ht hz => (hmT t z ht hz).trans (hti t z ht hz)
  have hTd : ∀ u v, u < nz → v < nz → T u v = nI (dd u v) := fun u v hu hv => hdd u v hu hv
  have hdD : ∀ u v, u < nz → v < nz → isD w (sq u) (sq v) (nI (dd u v)) := fun u v hu hv => by rw [← hdd u v hu hv]; exact hT u v hu hv
  have hzz : ∀ u, nt ≤ u → u < 7 → zo u = -1 := fun u h1 h2 => by rw [hzo u h2, vG_out hvg u h1 h2]; rfl
  have hgz7 : gOK nz 7 g := fun t _ => (hvg.1 t).imp And.right id
  have hgzn : gOK nz nt g := fun t _ => (hvg.1 t).imp And.right id
  obtain ⟨nx, hnx⟩ := nx_ex (zo := zo) (ke := ke)
  obtain ⟨nm, hnm⟩ := nm_ex (gk := gk) hzo hvg hnz
  refine lv_aload_n hx hb dL_law_451 rfl (lv_at hl 2 rfl) ?_
  refine lv_aload_n hx hb dL_law_452 rfl (lv_at hl 1 rfl) ?_
  refine lv_iload hx hb dL_law_453 (lv_at hl 0 rfl) ?_
  refine lv_iconst (v := nI 1) hx hb dL_law_455 (by decide) ?_
  refine r_addn hx hb dL_law_456 ?_
  refine va_sld hx hb hX hbl hbA hS (i := nI (i + 1)) (vp_in_nI (by omega) (by omega)) dL_law_457 ?_
  refine lv_as (y := xs (i + 1)) (by rw [nIc (by omega)]) ?_
  refine lv_aload_n hx hb dL_law_458 rfl (lv_at hl 1 rfl) ?_
  refine lv_iload hx hb dL_law_459 (lv_at hl 0 rfl) ?_
  refine lv_iconst (v := nI 2) hx hb dL_law_461 (by decide) ?_
  refine r_addn hx hb dL_law_462 ?_
  refine va_sld hx hb hX hbl hbA hS (i := nI (i + 2)) (vp_in_nI (by omega) (by omega)) dL_law_463 ?_
  refine lv_as (y := xs (i + 2)) (by rw [nIc (by omega)]) ?_
  refine lv_aload_n hx hb dL_law_464 rfl (lv_at hl 1 rfl) ?_
  refine lv_iload hx hb dL_law_465 (lv_at hl 0 rfl) ?_
  refine lv_iconst (v := nI 3) hx hb dL_law_467 (by decide) ?_
  refine r_addn hx hb dL_law_468 ?_
  refine va_sld hx hb hX hbl hbA hS (i := nI (i + 3)) (vp_in_nI (by omega) (by omega)) dL_law_469 ?_
  refine lv_as (y := xs (i + 3)) (by rw [nIc (by omega)]) ?_
  refine lv_aload_n hx hb dL_law_470 rfl (lv_at hl 4 rfl) ?_
  refine rx_i (wr := (wPl ka kb cI ke) ++ ((wFs fx cI cZ ff fg tk wt le) ++ ((wSs sx cI sf sg ra fo te ot zn co) ++ (wMo mx cI cZ w (nI nz) q d (nI nt) mpr mwi mti mzo mke mwy mst mtr mbe mch mth)))) (w_SHX (As := [.ref ad, .int (xs (i + 1)), .int (xs (i + 2)), .int (xs (i + 3)), .ref ou]) ⟨hx, hb, hml, hown, hts⟩ (c_L_setPresent l D cI cZ cQ cJ ad o pa ka fx sx x r w q d T st re rc nz y rp rw rt P n Wi Ti nt pb zo g (xs (i + 1)) (xs (i + 2)) (xs (i + 3)) ou fo9 H.size (by first | assumption | omega) (by first | assumption | omega) (by first | assumption | omega) (by first | assumption | omega) (by first | assumption | omega)) (gSH t3_34 t3_35 t1_0 t3_36) rfl rfl hd_L_setPresent ⟨Nat.le_of_ble_eq_true rfl, Nat.le_of_ble_eq_true rfl⟩ (rx_pre hP hD hSt hDc hZ hS hA [0, 1, 2, 3, 4, 5, 6, 7, 8, 9, 10, 11, 12, 13, 14, 15, 16, 17, 18, 19, 20, 21, 22, 23, 24, 25, 26, 27, 28, 29, 30, 31, 32, 33, 34, 35, 36, 37, 38, 39, 40, 41, 42, 43, 73] rfl (by decide)) rfl hl.1 (rest := []) rfl (Nat.le_of_ble_eq_true rfl) dL_law_471 ⟨(by show _ ≤ 643243; omega), (by show _ ≤ 7166375; omega)⟩) hP hD hS hA [0, 1, 2, 3, 4, 5, 6, 7, 8, 9, 10, 11, 12, 13, 14, 15, 16, 17, 18, 19, 20, 21, 22, 23, 24, 25, 26, 27, 28, 29, 30, 31, 32, 33, 34, 35, 36, 37, 38, 39, 40, 41, 42, 43, 73] [44, 45, 46, 47, 48, 49, 50, 51, 52, 53, 54, 55, 56, 57, 58, 59, 60, 61, 62, 63, 64, 65, 66, 67, 68, 69, 70, 71, 72] rfl rfl (by decide) (by decide) (fun E9 ce9 q9 x9 H locs hx9 hP hD hS hc91 hc92 hc93 => ?_) (fun r_9 u_6 H locs hw9 hP hD hS => ?_)
  · have hx9 : False := hx9
    have hP : va_P D vwCl (((wPl ka kb cI ke) ++ ((wFs fx cI cZ ff fg tk wt le) ++ ((wSs sx cI sf sg ra fo te ot zn co) ++ (wMo mx cI cZ w (nI nz) q d (nI nt) mpr mwi mti mzo mke mwy mst mtr mbe mch mth)))) ++ (((wDp ad o pa ka (fx 0) (sx 0)) ++ ((wOf o (x 0) (y 0)) ++ ((wFl x r cI cZ cQ w q d T st re rc (nI nz)) ++ ((wSt y rp rw rt cI cQ P n Wi Ti (nI nt)) ++ (wPl pa pb cI zo))))) ++ (wOu ou cJ fo9))) H := hP
    have hD : va_D A (((wPl ka kb cI ke) ++ ((wFs fx cI cZ ff fg tk wt le) ++ ((wSs sx cI sf sg ra fo te ot zn co) ++ (wMo mx cI cZ w (nI nz) q d (nI nt) mpr mwi mti mzo mke mwy mst mtr mbe mch mth)))) ++ (((wDp ad o pa ka (fx 0) (sx 0)) ++ ((wOf o (x 0) (y 0)) ++ ((wFl x r cI cZ cQ w q d T st re rc (nI nz)) ++ ((wSt y rp rw rt cI cQ P n Wi Ti (nI nt)) ++ (wPl pa pb cI zo))))) ++ (wOu ou cJ fo9))) := hD
    exact hx9.elim
  · obtain ⟨j_1, j_2, j_3, j_4, j_5⟩ := u_6
    obtain ⟨er_9, f_7, f_8⟩ := hw9
    replace er_9 := er_9.symm
    subst er_9
    have hsC : sSetPresent nt P n d zo (xs (i + 1)) (xs (i + 2)) (xs (i + 3)) j_1 j_2 j_3 j_4 := f_7
    have houC : j_1 = 0 → j_5 0 = j_2.toInt64 := f_8
    have hP : va_P D vwCl (((wPl ka kb cI ke) ++ ((wFs fx cI cZ ff fg tk wt le) ++ ((wSs sx cI sf sg ra fo te ot zn co) ++ (wMo mx cI cZ w (nI nz) q d (nI nt) mpr mwi mti mzo mke mwy mst mtr mbe mch mth)))) ++ (((wDp ad o pa ka (fx 0) (sx 0)) ++ ((wOf o (x 0) (y 0)) ++ ((wFl x r cI cZ cQ w q d T st re rc (nI nz)) ++ ((wSt y rp rw rt cI cQ j_3 j_4 Wi Ti (nI nt)) ++ (wPl pa pb cI zo))))) ++ (wOu ou cJ j_5))) H := hP
    have hD : va_D A (((wPl ka kb cI ke) ++ ((wFs fx cI cZ ff fg tk wt le) ++ ((wSs sx cI sf sg ra fo te ot zn co) ++ (wMo mx cI cZ w (nI nz) q d (nI nt) mpr mwi mti mzo mke mwy mst mtr mbe mch mth)))) ++ (((wDp ad o pa ka (fx 0) (sx 0)) ++ ((wOf o (x 0) (y 0)) ++ ((wFl x r cI cZ cQ w q d T st re rc (nI nz)) ++ ((wSt y rp rw rt cI cQ j_3 j_4 Wi Ti (nI nt)) ++ (wPl pa pb cI zo))))) ++ (wOu ou cJ j_5))) := hD
    refine lv_istore (lv' := [(5, .int (nI j_1)), (4, .int (nI i)), (0, .ref b), (1, .ref ad), (2, .ref (mx 0)), (3, .ref ou)]) hx hb dL_law_474 hl (by decide) rfl (fun ls hl => ?_)
    refine lv_aload_n hx hb dL_law_476 rfl (lv_at hl 4 rfl) ?_
    refine lv_aload_n hx hb dL_law_477 rfl (lv_at hl 2 rfl) ?_
    refine lv_iload hx hb dL_law_478 (lv_at hl 1 rfl) ?_
    refine lv_iconst (v := nI 1) hx hb dL_law_480 (by decide) ?_
    refine r_addn hx hb dL_law_481 ?_
    refine va_sld hx hb hX hbl hbA hS (i := nI (i + 1)) (vp_in_nI (by omega) (by omega)) dL_law_482 ?_
    refine lv_as (y := xs (i + 1)) (by rw [nIc (by omega)]) ?_
    refine lv_aload_n hx hb dL_law_483 rfl (lv_at hl 2 rfl) ?_
    refine lv_iload hx hb dL_law_484 (lv_at hl 1 rfl) ?_
    refine lv_iconst (v := nI 2) hx hb dL_law_486 (by decide) ?_
    refine r_addn hx hb dL_law_487 ?_
    refine va_sld hx hb hX hbl hbA hS (i := nI (i + 2)) (vp_in_nI (by omega) (by omega)) dL_law_488 ?_
    refine lv_as (y := xs (i + 2)) (by rw [nIc (by omega)]) ?_
    refine lv_aload_n hx hb dL_law_489 rfl (lv_at hl 2 rfl) ?_
    refine lv_iload hx hb dL_law_490 (lv_at hl 1 rfl) ?_
    refine lv_iconst (v := nI 3) hx hb dL_law_492 (by decide) ?_
    refine r_addn hx hb dL_law_493 ?_
    refine va_sld hx hb hX hbl hbA hS (i := nI (i + 3)) (vp_in_nI (by omega) (by omega)) dL_law_494 ?_
    refine lv_as (y := xs (i + 3)) (by rw [nIc (by omega)]) ?_
    refine rw_i (wr := (wPl ka kb cI ke) ++ ((wFs fx cI cZ ff fg tk wt le) ++ ((wSs sx cI sf sg ra fo te ot zn co) ++ ((wDp ad o pa ka (fx 0) (sx 0)) ++ ((wOf o (x 0) (y 0)) ++ ((wFl x r cI cZ cQ w q d T st re rc (nI nz)) ++ ((wSt y rp rw rt cI cQ j_3 j_4 Wi Ti (nI nt)) ++ ((wPl pa pb cI zo) ++ (wOu ou cJ j_5))))))))) (w_V (As := [.int (xs (i + 1)), .int (xs (i + 2)), .int (xs (i + 3))]) ⟨hx, hb, hml, hown, hts⟩ (c_X8_setPresent l D cI cZ cQ cJ mx w nz q d nt mpr mwi mti mzo mke mwy mst mtr mbe mch mth pp n g zo P dn (xs (i + 1)) (xs (i + 2)) (xs (i + 3)) H.size (by first | assumption | omega) (by first | assumption | omega) (by first | assumption | omega) (by first | assumption | omega) (by first | assumption | omega) (by first | assumption | omega) (by first | assumption | omega) (by first | assumption | omega) (by first | assumption | omega) (by first | assumption | omega)) (gV t4_83 t4_84 t4_85 t1_10 t4_86) rfl rfl hd_X8_setPresent ⟨Nat.le_of_ble_eq_true rfl, Nat.le_of_ble_eq_true rfl⟩ (rw_pre hP hD hSt [15, 16, 17, 18, 19, 20, 21, 22, 23, 24, 25, 26, 27, 28] rfl (by decide)) (va_recv hSt.1 hP (ci := 8) (q0 := 15) rfl rfl) rfl hl.1 (rest := []) rfl (Nat.le_of_ble_eq_true rfl) dL_law_495 ⟨(by show _ ≤ 643243; omega), (by show _ ≤ 7166375; omega)⟩) hP hD hS hA [15, 16, 17, 18, 19, 20, 21, 22, 23, 24, 25, 26, 27, 28] [0, 1, 2, 3, 4, 5, 6, 7, 8, 9, 10, 11, 12, 13, 14, 29, 30, 31, 32, 33, 34, 35, 36, 37, 38, 39, 40, 41, 42, 43, 44, 45, 46, 47, 48, 49, 50, 51, 52, 53, 54, 55, 56, 57, 58, 59, 60, 61, 62, 63, 64, 65, 66, 67, 68, 69, 70, 71, 72, 73] rfl rfl (by decide) (by decide) (fun r_9 u_14 H locs hw9 hP hD hS => ?_)
    obtain ⟨j_9, j_10, j_11, j_12, j_13⟩ := u_14
    obtain ⟨er_9, f_15, f_16⟩ := hw9
    replace er_9 := er_9.symm
    subst er_9
    have hsM : sSetPresent nt P n d zo (xs (i + 1)) (xs (i + 2)) (xs (i + 3)) j_10 j_9 j_12 j_13 := f_15
    have hp2M : ∀ t j, t < 7 → j < 5 → j_11 (5 * t + j) = j_12 t j := f_16
    have hP : va_P D vwCl (((wPl ka kb cI ke) ++ ((wFs fx cI cZ ff fg tk wt le) ++ ((wSs sx cI sf sg ra fo te ot zn co) ++ ((wDp ad o pa ka (fx 0) (sx 0)) ++ ((wOf o (x 0) (y 0)) ++ ((wFl x r cI cZ cQ w q d T st re rc (nI nz)) ++ ((wSt y rp rw rt cI cQ j_3 j_4 Wi Ti (nI nt)) ++ ((wPl pa pb cI zo) ++ (wOu ou cJ j_5))))))))) ++ (wMo mx cI cZ w (nI nz) q d (nI nt) j_11 mwi mti mzo mke mwy mst mtr mbe mch (nI j_10))) H := hP
    have hD : va_D A (((wPl ka kb cI ke) ++ ((wFs fx cI cZ ff fg tk wt le) ++ ((wSs sx cI sf sg ra fo te ot zn co) ++ ((wDp ad o pa ka (fx 0) (sx 0)) ++ ((wOf o (x 0) (y 0)) ++ ((wFl x r cI cZ cQ w q d T st re rc (nI nz)) ++ ((wSt y rp rw rt cI cQ j_3 j_4 Wi Ti (nI nt)) ++ ((wPl pa pb cI zo) ++ (wOu ou cJ j_5))))))))) ++ (wMo mx cI cZ w (nI nz) q d (nI nt) j_11 mwi mti mzo mke mwy mst mtr mbe mch (nI j_10))) := hD
    refine lv_istore (lv' := [(6, .int j_9), (5, .int (nI j_1)), (4, .int (nI i)), (0, .ref b), (1, .ref ad), (2, .ref (mx 0)), (3, .ref ou)]) hx hb dL_law_498 hl (by decide) rfl (fun ls hl => ?_)
    refine lv_aload_n hx hb dL_law_500 rfl (lv_at hl 5 rfl) ?_
    refine ro_V (As := []) (rest := []) (v := (nI j_10)) ⟨hx, hb, hml, hown, hts⟩ (c_X8_thrown l D cI cZ cQ cJ mx w nz q d nt j_11 mwi mti mzo mke mwy mst mtr mbe mch (nI j_10)) (gV t4_29 t4_30 t4_31 t1_10 t4_32) rfl rfl hd_X8_thrown ⟨Nat.le_of_ble_eq_true rfl, Nat.le_of_ble_eq_true rfl⟩ (hP.sub (ws' := wMo mx cI cZ w (nI nz) q d (nI nt) j_11 mwi mti mzo mke mwy mst mtr mbe mch (nI j_10)) [60, 61, 62, 63, 64, 65, 66, 67, 68, 69, 70, 71, 72, 73] rfl) hSt (va_recv hSt.1 hP (ci := 8) (q0 := 60) rfl rfl) rfl hl.1 rfl (Nat.le_of_ble_eq_true rfl) dL_law_501 (by show _ ≤ 643243; omega) (by show _ ≤ 7166375; omega) ?_
    have hkb : j_1 ≤ 3 := sSetPresent_k hsC
    obtain ⟨hk9, hv9, hu90, hu91⟩ := sSetPresent_fn hsC hsM
    have hP77 := hP
    have hD77 := hD
    have hl77 := hl
    subst hu90
    subst hu91
    have hP := hP77
    have hD := hD77
    have hl := hl77
    refine lv_iload hx hb dL_law_504 (lv_at hl 1 rfl) ?_
    refine lv_icmp_eq (tgt := 511) hx hb dL_law_506 (by decide) (fun c_17 => ?_) (fun c_17 => ?_)
    · refine lv_iload hx hb dL_law_511 (lv_at hl 1 rfl) ?_
      refine lv_if_ne (tgt := 528) hx hb dL_law_513 (by decide) (fun c_18 => ?_) (fun c_18 => ?_)
      · have c_18 := z_ne (a := j_1) (b := 0) (by omega) (by omega) c_18
        refine lv_goto (tgt := 1423) hx hb dL_law_528 (by decide) ?_
        have hIV9 : IV w q d T nz nt j_12 j_13 Wi Ti zo ke ff fg tk j_11 mwi mti mzo mke := iv_setPresent I hsM hp2M
        have hP9 : va_P D vwCl ((wDp ad o pa ka (fx 0) (sx 0)) ++ ((wOf o (x 0) (y 0)) ++ ((wFl x r cI cZ cQ w q d T st re rc (nI nz)) ++ ((wSt y rp rw rt cI cQ j_12 j_13 Wi Ti (nI nt)) ++ ((wPl pa pb cI zo) ++ ((wPl ka kb cI ke) ++ ((wFs fx cI cZ ff fg tk wt le) ++ ((wSs sx cI sf sg ra fo te ot zn co) ++ ((wMo mx cI cZ w (nI nz) q d (nI nt) j_11 mwi mti mzo mke mwy mst mtr mbe mch (nI j_10)) ++ (wOu ou cJ j_5)))))))))) H := (hP.sub (ws' := (wDp ad o pa ka (fx 0) (sx 0)) ++ ((wOf o (x 0) (y 0)) ++ ((wFl x r cI cZ cQ w q d T st re rc (nI nz)) ++ ((wSt y rp rw rt cI cQ j_12 j_13 Wi Ti (nI nt)) ++ ((wPl pa pb cI zo) ++ ((wPl ka kb cI ke) ++ ((wFs fx cI cZ ff fg tk wt le) ++ ((wSs sx cI sf sg ra fo te ot zn co) ++ ((wMo mx cI cZ w (nI nz) q d (nI nt) j_11 mwi mti mzo mke mwy mst mtr mbe mch (nI j_10)) ++ (wOu ou cJ j_5)))))))))) [15, 16, 17, 18, 19, 20, 21, 22, 23, 24, 25, 26, 27, 28, 29, 30, 31, 32, 33, 34, 35, 36, 37, 38, 39, 40, 41, 42, 43, 44, 45, 46, 47, 48, 49, 50, 51, 52, 53, 54, 55, 56, 57, 58, 0, 1, 2, 3, 4, 5, 6, 7, 8, 9, 10, 11, 12, 13, 14, 60, 61, 62, 63, 64, 65, 66, 67, 68, 69, 70, 71, 72, 73, 59] rfl)
        have hD9 : va_D A ((wDp ad o pa ka (fx 0) (sx 0)) ++ ((wOf o (x 0) (y 0)) ++ ((wFl x r cI cZ cQ w q d T st re rc (nI nz)) ++ ((wSt y rp rw rt cI cQ j_12 j_13 Wi Ti (nI nt)) ++ ((wPl pa pb cI zo) ++ ((wPl ka kb cI ke) ++ ((wFs fx cI cZ ff fg tk wt le) ++ ((wSs sx cI sf sg ra fo te ot zn co) ++ ((wMo mx cI cZ w (nI nz) q d (nI nt) j_11 mwi mti mzo mke mwy mst mtr mbe mch (nI j_10)) ++ (wOu ou cJ j_5)))))))))) := (hD.sub (ws' := (wDp ad o pa ka (fx 0) (sx 0)) ++ ((wOf o (x 0) (y 0)) ++ ((wFl x r cI cZ cQ w q d T st re rc (nI nz)) ++ ((wSt y rp rw rt cI cQ j_12 j_13 Wi Ti (nI nt)) ++ ((wPl pa pb cI zo) ++ ((wPl ka kb cI ke) ++ ((wFs fx cI cZ ff fg tk wt le) ++ ((wSs sx cI sf sg ra fo te ot zn co) ++ ((wMo mx cI cZ w (nI nz) q d (nI nt) j_11 mwi mti mzo mke mwy mst mtr mbe mch (nI j_10)) ++ (wOu ou cJ j_5)))))))))) [15, 16, 17, 18, 19, 20, 21, 22, 23, 24, 25, 26, 27, 28, 29, 30, 31, 32, 33, 34, 35, 36, 37, 38, 39, 40, 41, 42, 43, 44, 45, 46, 47, 48, 49, 50, 51, 52, 53, 54, 55, 56, 57, 58, 0, 1, 2, 3, 4, 5, 6, 7, 8, 9, 10, 11, 12, 13, 14, 60, 61, 62, 63, 64, 65, 66, 67, 68, 69, 70, 71, 72, 73, 59] (by decide) rfl)
        refine W.widen (k := 74 + i + 4) (n := 900 + 6 * i + 24) (by omega) (by omega) ?_
        exact K w q d T st re rc nz j_12 j_13 Wi Ti nt zo ke ff fg wt le sf sg ra fo te ot zn co j_11 mwi mti mzo mke mwy mst mtr mbe mch (nI j_10) j_5 hIV9 H locs hP9 hD9 hS ls (lv_sub hl [2, 3, 4, 5, 6] rfl)
      · have c_18 := z_eq (a := j_1) (b := 0) (by omega) (by omega) c_18
        refine lv_aload_n hx hb dL_law_516 rfl (lv_at hl 6 rfl) ?_
        refine lv_iconst (v := nI 0) hx hb dL_law_517 (by decide) ?_
        refine r_lald hx hb hSt.1 hP 59 3 rfl rfl (k := 0) (by omega) (by omega) dL_law_518 ?_
        refine lv_iload hx hb dL_law_519 (lv_at hl 0 rfl) ?_
        refine lv_i2l (v := (j_9).toInt64) hx hb dL_law_521 rfl ?_
        refine W.lcmp hx hb dL_law_522 ?_
        refine lv_if_eq (tgt := 528) hx hb dL_law_523 (by decide) (fun c_19 => ?_) (fun c_19 => ?_)
        · refine lv_goto (tgt := 1423) hx hb dL_law_528 (by decide) ?_
          have hIV9 : IV w q d T nz nt j_12 j_13 Wi Ti zo ke ff fg tk j_11 mwi mti mzo mke := iv_setPresent I hsM hp2M
          have hP9 : va_P D vwCl ((wDp ad o pa ka (fx 0) (sx 0)) ++ ((wOf o (x 0) (y 0)) ++ ((wFl x r cI cZ cQ w q d T st re rc (nI nz)) ++ ((wSt y rp rw rt cI cQ j_12 j_13 Wi Ti (nI nt)) ++ ((wPl pa pb cI zo) ++ ((wPl ka kb cI ke) ++ ((wFs fx cI cZ ff fg tk wt le) ++ ((wSs sx cI sf sg ra fo te ot zn co) ++ ((wMo mx cI cZ w (nI nz) q d (nI nt) j_11 mwi mti mzo mke mwy mst mtr mbe mch (nI j_10)) ++ (wOu ou cJ j_5)))))))))) H := (hP.sub (ws' := (wDp ad o pa ka (fx 0) (sx 0)) ++ ((wOf o (x 0) (y 0)) ++ ((wFl x r cI cZ cQ w q d T st re rc (nI nz)) ++ ((wSt y rp rw rt cI cQ j_12 j_13 Wi Ti (nI nt)) ++ ((wPl pa pb cI zo) ++ ((wPl ka kb cI ke) ++ ((wFs fx cI cZ ff fg tk wt le) ++ ((wSs sx cI sf sg ra fo te ot zn co) ++ ((wMo mx cI cZ w (nI nz) q d (nI nt) j_11 mwi mti mzo mke mwy mst mtr mbe mch (nI j_10)) ++ (wOu ou cJ j_5)))))))))) [15, 16, 17, 18, 19, 20, 21, 22, 23, 24, 25, 26, 27, 28, 29, 30, 31, 32, 33, 34, 35, 36, 37, 38, 39, 40, 41, 42, 43, 44, 45, 46, 47, 48, 49, 50, 51, 52, 53, 54, 55, 56, 57, 58, 0, 1, 2, 3, 4, 5, 6, 7, 8, 9, 10, 11, 12, 13, 14, 60, 61, 62, 63, 64, 65, 66, 67, 68, 69, 70, 71, 72, 73, 59] rfl)
          have hD9 : va_D A ((wDp ad o pa ka (fx 0) (sx 0)) ++ ((wOf o (x 0) (y 0)) ++ ((wFl x r cI cZ cQ w q d T st re rc (nI nz)) ++ ((wSt y rp rw rt cI cQ j_12 j_13 Wi Ti (nI nt)) ++ ((wPl pa pb cI zo) ++ ((wPl ka kb cI ke) ++ ((wFs fx cI cZ ff fg tk wt le) ++ ((wSs sx cI sf sg ra fo te ot zn co) ++ ((wMo mx cI cZ w (nI nz) q d (nI nt) j_11 mwi mti mzo mke mwy mst mtr mbe mch (nI j_10)) ++ (wOu ou cJ j_5)))))))))) := (hD.sub (ws' := (wDp ad o pa ka (fx 0) (sx 0)) ++ ((wOf o (x 0) (y 0)) ++ ((wFl x r cI cZ cQ w q d T st re rc (nI nz)) ++ ((wSt y rp rw rt cI cQ j_12 j_13 Wi Ti (nI nt)) ++ ((wPl pa pb cI zo) ++ ((wPl ka kb cI ke) ++ ((wFs fx cI cZ ff fg tk wt le) ++ ((wSs sx cI sf sg ra fo te ot zn co) ++ ((wMo mx cI cZ w (nI nz) q d (nI nt) j_11 mwi mti mzo mke mwy mst mtr mbe mch (nI j_10)) ++ (wOu ou cJ j_5)))))))))) [15, 16, 17, 18, 19, 20, 21, 22, 23, 24, 25, 26, 27, 28, 29, 30, 31, 32, 33, 34, 35, 36, 37, 38, 39, 40, 41, 42, 43, 44, 45, 46, 47, 48, 49, 50, 51, 52, 53, 54, 55, 56, 57, 58, 0, 1, 2, 3, 4, 5, 6, 7, 8, 9, 10, 11, 12, 13, 14, 60, 61, 62, 63, 64, 65, 66, 67, 68, 69, 70, 71, 72, 73, 59] (by decide) rfl)
          refine W.widen (k := 74 + i + 4) (n := 900 + 6 * i + 24) (by omega) (by omega) ?_
          exact K w q d T st re rc nz j_12 j_13 Wi Ti nt zo ke ff fg wt le sf sg ra fo te ot zn co j_11 mwi mti mzo mke mwy mst mtr mbe mch (nI j_10) j_5 hIV9 H locs hP9 hD9 hS ls (lv_sub hl [2, 3, 4, 5, 6] rfl)
        · exact absurd ((lg_cmp_eq _ _).mpr ((houC c_18).trans (congrArg Int32.toInt64 (hv9 c_18)))) c_19
    · exact absurd (congrArg nI hk9) c_17
set_option maxHeartbeats 4000000 in
set_option maxRecDepth 100000 in
theorem law_c5 (l : Launch) {p : Program} {e : Env} {s : State} {m : MethodId} {below : List Frame} {meth : Method} {c : Code} {b L : Nat} {xs : Nat → Int32} {A : Nat → Prop} {Q : State → Prop} {D : va_G} {cI cZ cQ cJ : ClassId} (ad : Nat) (o : Nat) (pa : Nat) (ka : Nat) (fx : Nat → Nat) (sx : Nat → Nat) (x : Nat → Nat) (r : Nat → Nat) (y : Nat → Nat) (rp : Nat → Nat) (rw : Nat → Nat) (rt : Nat → Nat) (pb : Nat) (kb : Nat) (mx : Nat → Nat) (ou : Nat) (tk : Nat → Int32) (C : LC p l s m c b L xs A D cI cZ cQ cJ) {i : Nat} (hi : i + 4 ≤ L) (K : LK p l e s m below meth c b A Q D cI cZ cQ cJ ad o pa ka fx sx x r y rp rw rt pb kb mx ou tk i 1423 (74 + i + 4) (900 + 6 * i + 24)) : LK p l e s m below meth c b A Q D cI cZ cQ cJ ad o pa ka fx sx x r y rp rw rt pb kb mx ou tk i 531 (74 + i) (900 + 6 * i) := by
  obtain ⟨hx, hb, hml, hown, hts, hX, hbl, hbA, hL, hSt, hDc, hZ, hfl, hA⟩ := C
  intro w q d T st re rc nz P n Wi Ti nt zo ke ff fg wt le sf sg ra fo te ot zn co mpr mwi mti mzo mke mwy mst mtr mbe mch mth fo9 hIV H locs hP hD hS ls hl
  obtain ⟨sq, dn, pp, wi, ti, dd, g, gk, I⟩ := id hIV
  obtain ⟨⟨hnz, hnt⟩, hw, hq, hT, hdd, hdn, hPp, hnn, hwi, hti, hv, hzo, hke, hvg, hvk, hfG, hff2, hfg2, htk, hpP, hmW, hmT, hmz, hmk⟩ := id I
  have hpr : ∀ t, t < nt → ∀ j, j < 5 → mpr (5 * t + j) = nI (pp t j) ∧ pp t j ≤ 60 := fun t ht j hj => by rw [hpP t j (by omega) hj]; exact hPp t ht j hj
  have hmw : ∀ t z, t < 7 → z < 7 → mwi (7 * t + z) = nI (wi t z) := fun t z ht hz => (hmW t z ht hz).trans (hwi t z ht hz)
  have hmt : ∀ t z, t < 7 → z < 7 → mti (7 * t + z) = nI (ti t z) := fun t z ht hz => (hmT t z ht hz).trans (hti t z ht hz)
  have hTd : ∀ u v, u < nz → v < nz → T u v = nI (dd u v) := fun u v hu hv => hdd u v hu hv
  have hdD : ∀ u v, u < nz → v < nz → isD w (sq u) (sq v) (nI (dd u v)) := fun u v hu hv => by rw [← hdd u v hu hv]; exact hT u v hu hv
  have hzz : ∀ u, nt ≤ u → u < 7 → zo u = -1 := fun u h1 h2 => by rw [hzo u h2, vG_out hvg u h1 h2]; rfl
  have hgz7 : gOK nz 7 g := fun t _ => (hvg.1 t).imp And.right id
  have hgzn : gOK nz nt g := fun t _ => (hvg.1 t).imp And.right id
  obtain ⟨nx, hnx⟩ := nx_ex (zo := zo) (ke := ke)
  obtain ⟨nm, hnm⟩ := nm_ex (gk := gk) hzo hvg hnz
  refine lv_aload_n hx hb dL_law_531 rfl (lv_at hl 2 rfl) ?_
  refine lv_aload_n hx hb dL_law_532 rfl (lv_at hl 1 rfl) ?_
  refine lv_iload hx hb dL_law_533 (lv_at hl 0 rfl) ?_
  refine lv_iconst (v := nI 1) hx hb dL_law_535 (by decide) ?_
  refine r_addn hx hb dL_law_536 ?_
  refine va_sld hx hb hX hbl hbA hS (i := nI (i + 1)) (vp_in_nI (by omega) (by omega)) dL_law_537 ?_
  refine lv_as (y := xs (i + 1)) (by rw [nIc (by omega)]) ?_
  refine lv_aload_n hx hb dL_law_538 rfl (lv_at hl 1 rfl) ?_
  refine lv_iload hx hb dL_law_539 (lv_at hl 0 rfl) ?_
  refine lv_iconst (v := nI 2) hx hb dL_law_541 (by decide) ?_
  refine r_addn hx hb dL_law_542 ?_
  refine va_sld hx hb hX hbl hbA hS (i := nI (i + 2)) (vp_in_nI (by omega) (by omega)) dL_law_543 ?_
  refine lv_as (y := xs (i + 2)) (by rw [nIc (by omega)]) ?_
  refine lv_aload_n hx hb dL_law_544 rfl (lv_at hl 1 rfl) ?_
  refine lv_iload hx hb dL_law_545 (lv_at hl 0 rfl) ?_
  refine lv_iconst (v := nI 3) hx hb dL_law_547 (by decide) ?_
  refine r_addn hx hb dL_law_548 ?_
  refine va_sld hx hb hX hbl hbA hS (i := nI (i + 3)) (vp_in_nI (by omega) (by omega)) dL_law_549 ?_
  refine lv_as (y := xs (i + 3)) (by rw [nIc (by omega)]) ?_
  refine lv_aload_n hx hb dL_law_550 rfl (lv_at hl 4 rfl) ?_
  refine rx_i (wr := (wPl pa pb cI zo) ++ ((wPl ka kb cI ke) ++ ((wFs fx cI cZ ff fg tk wt le) ++ ((wSs sx cI sf sg ra fo te ot zn co) ++ (wMo mx cI cZ w (nI nz) q d (nI nt) mpr mwi mti mzo mke mwy mst mtr mbe mch mth))))) (w_SHX (As := [.ref ad, .int (xs (i + 1)), .int (xs (i + 2)), .int (xs (i + 3)), .ref ou]) ⟨hx, hb, hml, hown, hts⟩ (c_L_setWish l D cI cZ cQ cJ ad o pa ka fx sx x r w q d T st re rc nz y rp rw rt P n Wi Ti nt (xs (i + 1)) (xs (i + 2)) (xs (i + 3)) ou fo9 H.size (by first | assumption | omega) (by first | assumption | omega) (by first | assumption | omega)) (gSH t3_64 t3_65 t1_0 t3_66) rfl rfl hd_L_setWish ⟨Nat.le_of_ble_eq_true rfl, Nat.le_of_ble_eq_true rfl⟩ (rx_pre hP hD hSt hDc hZ hS hA [0, 1, 2, 3, 4, 5, 6, 7, 8, 9, 10, 11, 12, 13, 14, 15, 16, 17, 18, 19, 20, 21, 22, 23, 24, 25, 26, 27, 28, 29, 30, 31, 32, 33, 34, 35, 36, 37, 38, 39, 40, 41, 73] rfl (by decide)) rfl hl.1 (rest := []) rfl (Nat.le_of_ble_eq_true rfl) dL_law_551 ⟨(by show _ ≤ 643243; omega), (by show _ ≤ 7166375; omega)⟩) hP hD hS hA [0, 1, 2, 3, 4, 5, 6, 7, 8, 9, 10, 11, 12, 13, 14, 15, 16, 17, 18, 19, 20, 21, 22, 23, 24, 25, 26, 27, 28, 29, 30, 31, 32, 33, 34, 35, 36, 37, 38, 39, 40, 41, 73] [42, 43, 44, 45, 46, 47, 48, 49, 50, 51, 52, 53, 54, 55, 56, 57, 58, 59, 60, 61, 62, 63, 64, 65, 66, 67, 68, 69, 70, 71, 72] rfl rfl (by decide) (by decide) (fun E9 ce9 q9 x9 H locs hx9 hP hD hS hc91 hc92 hc93 => ?_) (fun r_9 u_5 H locs hw9 hP hD hS => ?_)
  · have hx9 : False := hx9
    have hP : va_P D vwCl (((wPl pa pb cI zo) ++ ((wPl ka kb cI ke) ++ ((wFs fx cI cZ ff fg tk wt le) ++ ((wSs sx cI sf sg ra fo te ot zn co) ++ (wMo mx cI cZ w (nI nz) q d (nI nt) mpr mwi mti mzo mke mwy mst mtr mbe mch mth))))) ++ (((wDp ad o pa ka (fx 0) (sx 0)) ++ ((wOf o (x 0) (y 0)) ++ ((wFl x r cI cZ cQ w q d T st re rc (nI nz)) ++ (wSt y rp rw rt cI cQ P n Wi Ti (nI nt))))) ++ (wOu ou cJ fo9))) H := hP
    have hD : va_D A (((wPl pa pb cI zo) ++ ((wPl ka kb cI ke) ++ ((wFs fx cI cZ ff fg tk wt le) ++ ((wSs sx cI sf sg ra fo te ot zn co) ++ (wMo mx cI cZ w (nI nz) q d (nI nt) mpr mwi mti mzo mke mwy mst mtr mbe mch mth))))) ++ (((wDp ad o pa ka (fx 0) (sx 0)) ++ ((wOf o (x 0) (y 0)) ++ ((wFl x r cI cZ cQ w q d T st re rc (nI nz)) ++ (wSt y rp rw rt cI cQ P n Wi Ti (nI nt))))) ++ (wOu ou cJ fo9))) := hD
    exact hx9.elim
  · obtain ⟨j_1, j_2, j_3, j_4⟩ := u_5
    obtain ⟨er_9, f_6, f_7⟩ := hw9
    replace er_9 := er_9.symm
    subst er_9
    have hsC : sSetWish nt nz Wi (xs (i + 1)) (xs (i + 2)) (xs (i + 3)) j_1 j_2 j_3 := f_6
    have houC : j_1 = 0 → j_4 0 = j_2.toInt64 := f_7
    have hP : va_P D vwCl (((wPl pa pb cI zo) ++ ((wPl ka kb cI ke) ++ ((wFs fx cI cZ ff fg tk wt le) ++ ((wSs sx cI sf sg ra fo te ot zn co) ++ (wMo mx cI cZ w (nI nz) q d (nI nt) mpr mwi mti mzo mke mwy mst mtr mbe mch mth))))) ++ (((wDp ad o pa ka (fx 0) (sx 0)) ++ ((wOf o (x 0) (y 0)) ++ ((wFl x r cI cZ cQ w q d T st re rc (nI nz)) ++ (wSt y rp rw rt cI cQ P n j_3 Ti (nI nt))))) ++ (wOu ou cJ j_4))) H := hP
    have hD : va_D A (((wPl pa pb cI zo) ++ ((wPl ka kb cI ke) ++ ((wFs fx cI cZ ff fg tk wt le) ++ ((wSs sx cI sf sg ra fo te ot zn co) ++ (wMo mx cI cZ w (nI nz) q d (nI nt) mpr mwi mti mzo mke mwy mst mtr mbe mch mth))))) ++ (((wDp ad o pa ka (fx 0) (sx 0)) ++ ((wOf o (x 0) (y 0)) ++ ((wFl x r cI cZ cQ w q d T st re rc (nI nz)) ++ (wSt y rp rw rt cI cQ P n j_3 Ti (nI nt))))) ++ (wOu ou cJ j_4))) := hD
    refine lv_istore (lv' := [(5, .int (nI j_1)), (4, .int (nI i)), (0, .ref b), (1, .ref ad), (2, .ref (mx 0)), (3, .ref ou)]) hx hb dL_law_554 hl (by decide) rfl (fun ls hl => ?_)
    refine lv_aload_n hx hb dL_law_556 rfl (lv_at hl 4 rfl) ?_
    refine lv_aload_n hx hb dL_law_557 rfl (lv_at hl 2 rfl) ?_
    refine lv_iload hx hb dL_law_558 (lv_at hl 1 rfl) ?_
    refine lv_iconst (v := nI 1) hx hb dL_law_560 (by decide) ?_
    refine r_addn hx hb dL_law_561 ?_
    refine va_sld hx hb hX hbl hbA hS (i := nI (i + 1)) (vp_in_nI (by omega) (by omega)) dL_law_562 ?_
    refine lv_as (y := xs (i + 1)) (by rw [nIc (by omega)]) ?_
    refine lv_aload_n hx hb dL_law_563 rfl (lv_at hl 2 rfl) ?_
    refine lv_iload hx hb dL_law_564 (lv_at hl 1 rfl) ?_
    refine lv_iconst (v := nI 2) hx hb dL_law_566 (by decide) ?_
    refine r_addn hx hb dL_law_567 ?_
    refine va_sld hx hb hX hbl hbA hS (i := nI (i + 2)) (vp_in_nI (by omega) (by omega)) dL_law_568 ?_
    refine lv_as (y := xs (i + 2)) (by rw [nIc (by omega)]) ?_
    refine lv_aload_n hx hb dL_law_569 rfl (lv_at hl 2 rfl) ?_
    refine lv_iload hx hb dL_law_570 (lv_at hl 1 rfl) ?_
    refine lv_iconst (v := nI 3) hx hb dL_law_572 (by decide) ?_
    refine r_addn hx hb dL_law_573 ?_
    refine va_sld hx hb hX hbl hbA hS (i := nI (i + 3)) (vp_in_nI (by omega) (by omega)) dL_law_574 ?_
    refine lv_as (y := xs (i + 3)) (by rw [nIc (by omega)]) ?_
    refine rw_i (wr := (wPl pa pb cI zo) ++ ((wPl ka kb cI ke) ++ ((wFs fx cI cZ ff fg tk wt le) ++ ((wSs sx cI sf sg ra fo te ot zn co) ++ ((wDp ad o pa ka (fx 0) (sx 0)) ++ ((wOf o (x 0) (y 0)) ++ ((wFl x r cI cZ cQ w q d T st re rc (nI nz)) ++ ((wSt y rp rw rt cI cQ P n j_3 Ti (nI nt)) ++ (wOu ou cJ j_4))))))))) (w_V (As := [.int (xs (i + 1)), .int (xs (i + 2)), .int (xs (i + 3))]) ⟨hx, hb, hml, hown, hts⟩ (c_X8_setWish l D cI cZ cQ cJ mx w nz q d nt mpr mwi mti mzo mke mwy mst mtr mbe mch mth Wi (xs (i + 1)) (xs (i + 2)) (xs (i + 3)) H.size (by first | assumption | omega) (by first | assumption | omega) (by first | assumption | omega)) (gV t4_91 t4_92 t4_93 t1_10 t4_94) rfl rfl hd_X8_setWish ⟨Nat.le_of_ble_eq_true rfl, Nat.le_of_ble_eq_true rfl⟩ (rw_pre hP hD hSt [17, 18, 19, 20, 21, 22, 23, 24, 25, 26, 27, 28, 29, 30] rfl (by decide)) (va_recv hSt.1 hP (ci := 8) (q0 := 17) rfl rfl) rfl hl.1 (rest := []) rfl (Nat.le_of_ble_eq_true rfl) dL_law_575 ⟨(by show _ ≤ 643243; omega), (by show _ ≤ 7166375; omega)⟩) hP hD hS hA [17, 18, 19, 20, 21, 22, 23, 24, 25, 26, 27, 28, 29, 30] [0, 1, 2, 3, 4, 5, 6, 7, 8, 9, 10, 11, 12, 13, 14, 15, 16, 31, 32, 33, 34, 35, 36, 37, 38, 39, 40, 41, 42, 43, 44, 45, 46, 47, 48, 49, 50, 51, 52, 53, 54, 55, 56, 57, 58, 59, 60, 61, 62, 63, 64, 65, 66, 67, 68, 69, 70, 71, 72, 73] rfl rfl (by decide) (by decide) (fun r_9 u_12 H locs hw9 hP hD hS => ?_)
    obtain ⟨j_8, j_9, j_10, j_11⟩ := u_12
    obtain ⟨er_9, f_13, f_14⟩ := hw9
    replace er_9 := er_9.symm
    subst er_9
    have hsM : sSetWish nt nz Wi (xs (i + 1)) (xs (i + 2)) (xs (i + 3)) j_9 j_8 j_11 := f_13
    have hm2M : ∀ t j, t < 7 → j < 7 → j_10 (7 * t + j) = j_11 t j := f_14
    have hP : va_P D vwCl (((wPl pa pb cI zo) ++ ((wPl ka kb cI ke) ++ ((wFs fx cI cZ ff fg tk wt le) ++ ((wSs sx cI sf sg ra fo te ot zn co) ++ ((wDp ad o pa ka (fx 0) (sx 0)) ++ ((wOf o (x 0) (y 0)) ++ ((wFl x r cI cZ cQ w q d T st re rc (nI nz)) ++ ((wSt y rp rw rt cI cQ P n j_3 Ti (nI nt)) ++ (wOu ou cJ j_4))))))))) ++ (wMo mx cI cZ w (nI nz) q d (nI nt) mpr j_10 mti mzo mke mwy mst mtr mbe mch (nI j_9))) H := hP
    have hD : va_D A (((wPl pa pb cI zo) ++ ((wPl ka kb cI ke) ++ ((wFs fx cI cZ ff fg tk wt le) ++ ((wSs sx cI sf sg ra fo te ot zn co) ++ ((wDp ad o pa ka (fx 0) (sx 0)) ++ ((wOf o (x 0) (y 0)) ++ ((wFl x r cI cZ cQ w q d T st re rc (nI nz)) ++ ((wSt y rp rw rt cI cQ P n j_3 Ti (nI nt)) ++ (wOu ou cJ j_4))))))))) ++ (wMo mx cI cZ w (nI nz) q d (nI nt) mpr j_10 mti mzo mke mwy mst mtr mbe mch (nI j_9))) := hD
    refine lv_istore (lv' := [(6, .int j_8), (5, .int (nI j_1)), (4, .int (nI i)), (0, .ref b), (1, .ref ad), (2, .ref (mx 0)), (3, .ref ou)]) hx hb dL_law_578 hl (by decide) rfl (fun ls hl => ?_)
    refine lv_aload_n hx hb dL_law_580 rfl (lv_at hl 5 rfl) ?_
    refine ro_V (As := []) (rest := []) (v := (nI j_9)) ⟨hx, hb, hml, hown, hts⟩ (c_X8_thrown l D cI cZ cQ cJ mx w nz q d nt mpr j_10 mti mzo mke mwy mst mtr mbe mch (nI j_9)) (gV t4_29 t4_30 t4_31 t1_10 t4_32) rfl rfl hd_X8_thrown ⟨Nat.le_of_ble_eq_true rfl, Nat.le_of_ble_eq_true rfl⟩ (hP.sub (ws' := wMo mx cI cZ w (nI nz) q d (nI nt) mpr j_10 mti mzo mke mwy mst mtr mbe mch (nI j_9)) [60, 61, 62, 63, 64, 65, 66, 67, 68, 69, 70, 71, 72, 73] rfl) hSt (va_recv hSt.1 hP (ci := 8) (q0 := 60) rfl rfl) rfl hl.1 rfl (Nat.le_of_ble_eq_true rfl) dL_law_581 (by show _ ≤ 643243; omega) (by show _ ≤ 7166375; omega) ?_
    have hkb : j_1 ≤ 3 := sSetWish_k hsC
    obtain ⟨hk9, hv9, hu90⟩ := sSetWish_fn hsC hsM
    have hP77 := hP
    have hD77 := hD
    have hl77 := hl
    subst hu90
    have hP := hP77
    have hD := hD77
    have hl := hl77
    refine lv_iload hx hb dL_law_584 (lv_at hl 1 rfl) ?_
    refine lv_icmp_eq (tgt := 591) hx hb dL_law_586 (by decide) (fun c_15 => ?_) (fun c_15 => ?_)
    · refine lv_iload hx hb dL_law_591 (lv_at hl 1 rfl) ?_
      refine lv_if_ne (tgt := 608) hx hb dL_law_593 (by decide) (fun c_16 => ?_) (fun c_16 => ?_)
      · have c_16 := z_ne (a := j_1) (b := 0) (by omega) (by omega) c_16
        refine lv_goto (tgt := 1423) hx hb dL_law_608 (by decide) ?_
        have hIV9 : IV w q d T nz nt P n j_11 Ti zo ke ff fg tk mpr j_10 mti mzo mke := iv_setWish I hsM hm2M
        have hP9 : va_P D vwCl ((wDp ad o pa ka (fx 0) (sx 0)) ++ ((wOf o (x 0) (y 0)) ++ ((wFl x r cI cZ cQ w q d T st re rc (nI nz)) ++ ((wSt y rp rw rt cI cQ P n j_11 Ti (nI nt)) ++ ((wPl pa pb cI zo) ++ ((wPl ka kb cI ke) ++ ((wFs fx cI cZ ff fg tk wt le) ++ ((wSs sx cI sf sg ra fo te ot zn co) ++ ((wMo mx cI cZ w (nI nz) q d (nI nt) mpr j_10 mti mzo mke mwy mst mtr mbe mch (nI j_9)) ++ (wOu ou cJ j_4)))))))))) H := (hP.sub (ws' := (wDp ad o pa ka (fx 0) (sx 0)) ++ ((wOf o (x 0) (y 0)) ++ ((wFl x r cI cZ cQ w q d T st re rc (nI nz)) ++ ((wSt y rp rw rt cI cQ P n j_11 Ti (nI nt)) ++ ((wPl pa pb cI zo) ++ ((wPl ka kb cI ke) ++ ((wFs fx cI cZ ff fg tk wt le) ++ ((wSs sx cI sf sg ra fo te ot zn co) ++ ((wMo mx cI cZ w (nI nz) q d (nI nt) mpr j_10 mti mzo mke mwy mst mtr mbe mch (nI j_9)) ++ (wOu ou cJ j_4)))))))))) [17, 18, 19, 20, 21, 22, 23, 24, 25, 26, 27, 28, 29, 30, 31, 32, 33, 34, 35, 36, 37, 38, 39, 40, 41, 42, 43, 44, 45, 46, 47, 48, 49, 50, 51, 52, 53, 54, 55, 56, 57, 58, 0, 1, 2, 3, 4, 5, 6, 7, 8, 9, 10, 11, 12, 13, 14, 15, 16, 60, 61, 62, 63, 64, 65, 66, 67, 68, 69, 70, 71, 72, 73, 59] rfl)
        have hD9 : va_D A ((wDp ad o pa ka (fx 0) (sx 0)) ++ ((wOf o (x 0) (y 0)) ++ ((wFl x r cI cZ cQ w q d T st re rc (nI nz)) ++ ((wSt y rp rw rt cI cQ P n j_11 Ti (nI nt)) ++ ((wPl pa pb cI zo) ++ ((wPl ka kb cI ke) ++ ((wFs fx cI cZ ff fg tk wt le) ++ ((wSs sx cI sf sg ra fo te ot zn co) ++ ((wMo mx cI cZ w (nI nz) q d (nI nt) mpr j_10 mti mzo mke mwy mst mtr mbe mch (nI j_9)) ++ (wOu ou cJ j_4)))))))))) := (hD.sub (ws' := (wDp ad o pa ka (fx 0) (sx 0)) ++ ((wOf o (x 0) (y 0)) ++ ((wFl x r cI cZ cQ w q d T st re rc (nI nz)) ++ ((wSt y rp rw rt cI cQ P n j_11 Ti (nI nt)) ++ ((wPl pa pb cI zo) ++ ((wPl ka kb cI ke) ++ ((wFs fx cI cZ ff fg tk wt le) ++ ((wSs sx cI sf sg ra fo te ot zn co) ++ ((wMo mx cI cZ w (nI nz) q d (nI nt) mpr j_10 mti mzo mke mwy mst mtr mbe mch (nI j_9)) ++ (wOu ou cJ j_4)))))))))) [17, 18, 19, 20, 21, 22, 23, 24, 25, 26, 27, 28, 29, 30, 31, 32, 33, 34, 35, 36, 37, 38, 39, 40, 41, 42, 43, 44, 45, 46, 47, 48, 49, 50, 51, 52, 53, 54, 55, 56, 57, 58, 0, 1, 2, 3, 4, 5, 6, 7, 8, 9, 10, 11, 12, 13, 14, 15, 16, 60, 61, 62, 63, 64, 65, 66, 67, 68, 69, 70, 71, 72, 73, 59] (by decide) rfl)
        refine W.widen (k := 74 + i + 4) (n := 900 + 6 * i + 24) (by omega) (by omega) ?_
        exact K w q d T st re rc nz P n j_11 Ti nt zo ke ff fg wt le sf sg ra fo te ot zn co mpr j_10 mti mzo mke mwy mst mtr mbe mch (nI j_9) j_4 hIV9 H locs hP9 hD9 hS ls (lv_sub hl [2, 3, 4, 5, 6] rfl)
      · have c_16 := z_eq (a := j_1) (b := 0) (by omega) (by omega) c_16
        refine lv_aload_n hx hb dL_law_596 rfl (lv_at hl 6 rfl) ?_
        refine lv_iconst (v := nI 0) hx hb dL_law_597 (by decide) ?_
        refine r_lald hx hb hSt.1 hP 59 3 rfl rfl (k := 0) (by omega) (by omega) dL_law_598 ?_
        refine lv_iload hx hb dL_law_599 (lv_at hl 0 rfl) ?_
        refine lv_i2l (v := (j_8).toInt64) hx hb dL_law_601 rfl ?_
        refine W.lcmp hx hb dL_law_602 ?_
        refine lv_if_eq (tgt := 608) hx hb dL_law_603 (by decide) (fun c_17 => ?_) (fun c_17 => ?_)
        · refine lv_goto (tgt := 1423) hx hb dL_law_608 (by decide) ?_
          have hIV9 : IV w q d T nz nt P n j_11 Ti zo ke ff fg tk mpr j_10 mti mzo mke := iv_setWish I hsM hm2M
          have hP9 : va_P D vwCl ((wDp ad o pa ka (fx 0) (sx 0)) ++ ((wOf o (x 0) (y 0)) ++ ((wFl x r cI cZ cQ w q d T st re rc (nI nz)) ++ ((wSt y rp rw rt cI cQ P n j_11 Ti (nI nt)) ++ ((wPl pa pb cI zo) ++ ((wPl ka kb cI ke) ++ ((wFs fx cI cZ ff fg tk wt le) ++ ((wSs sx cI sf sg ra fo te ot zn co) ++ ((wMo mx cI cZ w (nI nz) q d (nI nt) mpr j_10 mti mzo mke mwy mst mtr mbe mch (nI j_9)) ++ (wOu ou cJ j_4)))))))))) H := (hP.sub (ws' := (wDp ad o pa ka (fx 0) (sx 0)) ++ ((wOf o (x 0) (y 0)) ++ ((wFl x r cI cZ cQ w q d T st re rc (nI nz)) ++ ((wSt y rp rw rt cI cQ P n j_11 Ti (nI nt)) ++ ((wPl pa pb cI zo) ++ ((wPl ka kb cI ke) ++ ((wFs fx cI cZ ff fg tk wt le) ++ ((wSs sx cI sf sg ra fo te ot zn co) ++ ((wMo mx cI cZ w (nI nz) q d (nI nt) mpr j_10 mti mzo mke mwy mst mtr mbe mch (nI j_9)) ++ (wOu ou cJ j_4)))))))))) [17, 18, 19, 20, 21, 22, 23, 24, 25, 26, 27, 28, 29, 30, 31, 32, 33, 34, 35, 36, 37, 38, 39, 40, 41, 42, 43, 44, 45, 46, 47, 48, 49, 50, 51, 52, 53, 54, 55, 56, 57, 58, 0, 1, 2, 3, 4, 5, 6, 7, 8, 9, 10, 11, 12, 13, 14, 15, 16, 60, 61, 62, 63, 64, 65, 66, 67, 68, 69, 70, 71, 72, 73, 59] rfl)
          have hD9 : va_D A ((wDp ad o pa ka (fx 0) (sx 0)) ++ ((wOf o (x 0) (y 0)) ++ ((wFl x r cI cZ cQ w q d T st re rc (nI nz)) ++ ((wSt y rp rw rt cI cQ P n j_11 Ti (nI nt)) ++ ((wPl pa pb cI zo) ++ ((wPl ka kb cI ke) ++ ((wFs fx cI cZ ff fg tk wt le) ++ ((wSs sx cI sf sg ra fo te ot zn co) ++ ((wMo mx cI cZ w (nI nz) q d (nI nt) mpr j_10 mti mzo mke mwy mst mtr mbe mch (nI j_9)) ++ (wOu ou cJ j_4)))))))))) := (hD.sub (ws' := (wDp ad o pa ka (fx 0) (sx 0)) ++ ((wOf o (x 0) (y 0)) ++ ((wFl x r cI cZ cQ w q d T st re rc (nI nz)) ++ ((wSt y rp rw rt cI cQ P n j_11 Ti (nI nt)) ++ ((wPl pa pb cI zo) ++ ((wPl ka kb cI ke) ++ ((wFs fx cI cZ ff fg tk wt le) ++ ((wSs sx cI sf sg ra fo te ot zn co) ++ ((wMo mx cI cZ w (nI nz) q d (nI nt) mpr j_10 mti mzo mke mwy mst mtr mbe mch (nI j_9)) ++ (wOu ou cJ j_4)))))))))) [17, 18, 19, 20, 21, 22, 23, 24, 25, 26, 27, 28, 29, 30, 31, 32, 33, 34, 35, 36, 37, 38, 39, 40, 41, 42, 43, 44, 45, 46, 47, 48, 49, 50, 51, 52, 53, 54, 55, 56, 57, 58, 0, 1, 2, 3, 4, 5, 6, 7, 8, 9, 10, 11, 12, 13, 14, 15, 16, 60, 61, 62, 63, 64, 65, 66, 67, 68, 69, 70, 71, 72, 73, 59] (by decide) rfl)
          refine W.widen (k := 74 + i + 4) (n := 900 + 6 * i + 24) (by omega) (by omega) ?_
          exact K w q d T st re rc nz P n j_11 Ti nt zo ke ff fg wt le sf sg ra fo te ot zn co mpr j_10 mti mzo mke mwy mst mtr mbe mch (nI j_9) j_4 hIV9 H locs hP9 hD9 hS ls (lv_sub hl [2, 3, 4, 5, 6] rfl)
        · exact absurd ((lg_cmp_eq _ _).mpr ((houC c_16).trans (congrArg Int32.toInt64 (hv9 c_16)))) c_17
    · exact absurd (congrArg nI hk9) c_15
set_option maxHeartbeats 4000000 in
set_option maxRecDepth 100000 in
theorem law_c6 (l : Launch) {p : Program} {e : Env} {s : State} {m : MethodId} {below : List Frame} {meth : Method} {c : Code} {b L : Nat} {xs : Nat → Int32} {A : Nat → Prop} {Q : State → Prop} {D : va_G} {cI cZ cQ cJ : ClassId} (ad : Nat) (o : Nat) (pa : Nat) (ka : Nat) (fx : Nat → Nat) (sx : Nat → Nat) (x : Nat → Nat) (r : Nat → Nat) (y : Nat → Nat) (rp : Nat → Nat) (rw : Nat → Nat) (rt : Nat → Nat) (pb : Nat) (kb : Nat) (mx : Nat → Nat) (ou : Nat) (tk : Nat → Int32) (C : LC p l s m c b L xs A D cI cZ cQ cJ) {i : Nat} (hi : i + 4 ≤ L) (K : LK p l e s m below meth c b A Q D cI cZ cQ cJ ad o pa ka fx sx x r y rp rw rt pb kb mx ou tk i 1423 (74 + i + 4) (900 + 6 * i + 24)) : LK p l e s m below meth c b A Q D cI cZ cQ cJ ad o pa ka fx sx x r y rp rw rt pb kb mx ou tk i 611 (74 + i) (900 + 6 * i) := by
  obtain ⟨hx, hb, hml, hown, hts, hX, hbl, hbA, hL, hSt, hDc, hZ, hfl, hA⟩ := C
  intro w q d T st re rc nz P n Wi Ti nt zo ke ff fg wt le sf sg ra fo te ot zn co mpr mwi mti mzo mke mwy mst mtr mbe mch mth fo9 hIV H locs hP hD hS ls hl
  obtain ⟨sq, dn, pp, wi, ti, dd, g, gk, I⟩ := id hIV
  obtain ⟨⟨hnz, hnt⟩, hw, hq, hT, hdd, hdn, hPp, hnn, hwi, hti, hv, hzo, hke, hvg, hvk, hfG, hff2, hfg2, htk, hpP, hmW, hmT, hmz, hmk⟩ := id I
  have hpr : ∀ t, t < nt → ∀ j, j < 5 → mpr (5 * t + j) = nI (pp t j) ∧ pp t j ≤ 60 := fun t ht j hj => by rw [hpP t j (by omega) hj]; exact hPp t ht j hj
  have hmw : ∀ t z, t < 7 → z < 7 → mwi (7 * t + z) = nI (wi t z) := fun t z ht hz => (hmW t z ht hz).trans (hwi t z ht hz)
  have hmt : ∀ t z, t < 7 → z < 7 → mti (7 * t + z) = nI (ti t z) := fun t z ht hz => (hmT t z ht hz).trans (hti t z ht hz)
  have hTd : ∀ u v, u < nz → v < nz → T u v = nI (dd u v) := fun u v hu hv => hdd u v hu hv
  have hdD : ∀ u v, u < nz → v < nz → isD w (sq u) (sq v) (nI (dd u v)) := fun u v hu hv => by rw [← hdd u v hu hv]; exact hT u v hu hv
  have hzz : ∀ u, nt ≤ u → u < 7 → zo u = -1 := fun u h1 h2 => by rw [hzo u h2, vG_out hvg u h1 h2]; rfl
  have hgz7 : gOK nz 7 g := fun t _ => (hvg.1 t).imp And.right id
  have hgzn : gOK nz nt g := fun t _ => (hvg.1 t).imp And.right id
  obtain ⟨nx, hnx⟩ := nx_ex (zo := zo) (ke := ke)
  obtain ⟨nm, hnm⟩ := nm_ex (gk := gk) hzo hvg hnz
  refine lv_aload_n hx hb dL_law_611 rfl (lv_at hl 2 rfl) ?_
  refine lv_aload_n hx hb dL_law_612 rfl (lv_at hl 1 rfl) ?_
  refine lv_iload hx hb dL_law_613 (lv_at hl 0 rfl) ?_
  refine lv_iconst (v := nI 1) hx hb dL_law_615 (by decide) ?_
  refine r_addn hx hb dL_law_616 ?_
  refine va_sld hx hb hX hbl hbA hS (i := nI (i + 1)) (vp_in_nI (by omega) (by omega)) dL_law_617 ?_
  refine lv_as (y := xs (i + 1)) (by rw [nIc (by omega)]) ?_
  refine lv_aload_n hx hb dL_law_618 rfl (lv_at hl 1 rfl) ?_
  refine lv_iload hx hb dL_law_619 (lv_at hl 0 rfl) ?_
  refine lv_iconst (v := nI 2) hx hb dL_law_621 (by decide) ?_
  refine r_addn hx hb dL_law_622 ?_
  refine va_sld hx hb hX hbl hbA hS (i := nI (i + 2)) (vp_in_nI (by omega) (by omega)) dL_law_623 ?_
  refine lv_as (y := xs (i + 2)) (by rw [nIc (by omega)]) ?_
  refine lv_aload_n hx hb dL_law_624 rfl (lv_at hl 1 rfl) ?_
  refine lv_iload hx hb dL_law_625 (lv_at hl 0 rfl) ?_
  refine lv_iconst (v := nI 3) hx hb dL_law_627 (by decide) ?_
  refine r_addn hx hb dL_law_628 ?_
  refine va_sld hx hb hX hbl hbA hS (i := nI (i + 3)) (vp_in_nI (by omega) (by omega)) dL_law_629 ?_
  refine lv_as (y := xs (i + 3)) (by rw [nIc (by omega)]) ?_
  refine lv_aload_n hx hb dL_law_630 rfl (lv_at hl 4 rfl) ?_
  refine rx_i (wr := (wFl x r cI cZ cQ w q d T st re rc (nI nz)) ++ ((wPl pa pb cI zo) ++ ((wPl ka kb cI ke) ++ ((wFs fx cI cZ ff fg tk wt le) ++ ((wSs sx cI sf sg ra fo te ot zn co) ++ (wMo mx cI cZ w (nI nz) q d (nI nt) mpr mwi mti mzo mke mwy mst mtr mbe mch mth)))))) (w_SHX (As := [.ref ad, .int (xs (i + 1)), .int (xs (i + 2)), .int (xs (i + 3)), .ref ou]) ⟨hx, hb, hml, hown, hts⟩ (c_L_setTie l D cI cZ cQ cJ ad o pa ka fx sx x y rp rw rt P n Wi Ti nt (xs (i + 1)) (xs (i + 2)) (xs (i + 3)) ou fo9 H.size (by first | assumption | omega) (by first | assumption | omega)) (gSH t3_71 t3_72 t1_0 t3_73) rfl rfl hd_L_setTie ⟨Nat.le_of_ble_eq_true rfl, Nat.le_of_ble_eq_true rfl⟩ (rx_pre hP hD hSt hDc hZ hS hA [0, 1, 16, 17, 18, 19, 20, 21, 22, 23, 24, 25, 26, 27, 28, 29, 30, 31, 32, 33, 34, 35, 36, 37, 38, 39, 40, 41, 73] rfl (by decide)) rfl hl.1 (rest := []) rfl (Nat.le_of_ble_eq_true rfl) dL_law_631 ⟨(by show _ ≤ 643243; omega), (by show _ ≤ 7166375; omega)⟩) hP hD hS hA [0, 1, 16, 17, 18, 19, 20, 21, 22, 23, 24, 25, 26, 27, 28, 29, 30, 31, 32, 33, 34, 35, 36, 37, 38, 39, 40, 41, 73] [2, 3, 4, 5, 6, 7, 8, 9, 10, 11, 12, 13, 14, 15, 42, 43, 44, 45, 46, 47, 48, 49, 50, 51, 52, 53, 54, 55, 56, 57, 58, 59, 60, 61, 62, 63, 64, 65, 66, 67, 68, 69, 70, 71, 72] rfl rfl (by decide) (by decide) (fun E9 ce9 q9 x9 H locs hx9 hP hD hS hc91 hc92 hc93 => ?_) (fun r_9 u_5 H locs hw9 hP hD hS => ?_)
  · have hx9 : False := hx9
    have hP : va_P D vwCl (((wFl x r cI cZ cQ w q d T st re rc (nI nz)) ++ ((wPl pa pb cI zo) ++ ((wPl ka kb cI ke) ++ ((wFs fx cI cZ ff fg tk wt le) ++ ((wSs sx cI sf sg ra fo te ot zn co) ++ (wMo mx cI cZ w (nI nz) q d (nI nt) mpr mwi mti mzo mke mwy mst mtr mbe mch mth)))))) ++ (((wDp ad o pa ka (fx 0) (sx 0)) ++ ((wOf o (x 0) (y 0)) ++ (wSt y rp rw rt cI cQ P n Wi Ti (nI nt)))) ++ (wOu ou cJ fo9))) H := hP
    have hD : va_D A (((wFl x r cI cZ cQ w q d T st re rc (nI nz)) ++ ((wPl pa pb cI zo) ++ ((wPl ka kb cI ke) ++ ((wFs fx cI cZ ff fg tk wt le) ++ ((wSs sx cI sf sg ra fo te ot zn co) ++ (wMo mx cI cZ w (nI nz) q d (nI nt) mpr mwi mti mzo mke mwy mst mtr mbe mch mth)))))) ++ (((wDp ad o pa ka (fx 0) (sx 0)) ++ ((wOf o (x 0) (y 0)) ++ (wSt y rp rw rt cI cQ P n Wi Ti (nI nt)))) ++ (wOu ou cJ fo9))) := hD
    exact hx9.elim
  · obtain ⟨j_1, j_2, j_3, j_4⟩ := u_5
    obtain ⟨er_9, f_6, f_7⟩ := hw9
    replace er_9 := er_9.symm
    subst er_9
    have hsC : sSetTie nt Ti (xs (i + 1)) (xs (i + 2)) (xs (i + 3)) j_1 j_2 j_3 := f_6
    have houC : j_1 = 0 → j_4 0 = j_2.toInt64 := f_7
    have hP : va_P D vwCl (((wFl x r cI cZ cQ w q d T st re rc (nI nz)) ++ ((wPl pa pb cI zo) ++ ((wPl ka kb cI ke) ++ ((wFs fx cI cZ ff fg tk wt le) ++ ((wSs sx cI sf sg ra fo te ot zn co) ++ (wMo mx cI cZ w (nI nz) q d (nI nt) mpr mwi mti mzo mke mwy mst mtr mbe mch mth)))))) ++ (((wDp ad o pa ka (fx 0) (sx 0)) ++ ((wOf o (x 0) (y 0)) ++ (wSt y rp rw rt cI cQ P n Wi j_3 (nI nt)))) ++ (wOu ou cJ j_4))) H := hP
    have hD : va_D A (((wFl x r cI cZ cQ w q d T st re rc (nI nz)) ++ ((wPl pa pb cI zo) ++ ((wPl ka kb cI ke) ++ ((wFs fx cI cZ ff fg tk wt le) ++ ((wSs sx cI sf sg ra fo te ot zn co) ++ (wMo mx cI cZ w (nI nz) q d (nI nt) mpr mwi mti mzo mke mwy mst mtr mbe mch mth)))))) ++ (((wDp ad o pa ka (fx 0) (sx 0)) ++ ((wOf o (x 0) (y 0)) ++ (wSt y rp rw rt cI cQ P n Wi j_3 (nI nt)))) ++ (wOu ou cJ j_4))) := hD
    refine lv_istore (lv' := [(5, .int (nI j_1)), (4, .int (nI i)), (0, .ref b), (1, .ref ad), (2, .ref (mx 0)), (3, .ref ou)]) hx hb dL_law_634 hl (by decide) rfl (fun ls hl => ?_)
    refine lv_aload_n hx hb dL_law_636 rfl (lv_at hl 4 rfl) ?_
    refine lv_aload_n hx hb dL_law_637 rfl (lv_at hl 2 rfl) ?_
    refine lv_iload hx hb dL_law_638 (lv_at hl 1 rfl) ?_
    refine lv_iconst (v := nI 1) hx hb dL_law_640 (by decide) ?_
    refine r_addn hx hb dL_law_641 ?_
    refine va_sld hx hb hX hbl hbA hS (i := nI (i + 1)) (vp_in_nI (by omega) (by omega)) dL_law_642 ?_
    refine lv_as (y := xs (i + 1)) (by rw [nIc (by omega)]) ?_
    refine lv_aload_n hx hb dL_law_643 rfl (lv_at hl 2 rfl) ?_
    refine lv_iload hx hb dL_law_644 (lv_at hl 1 rfl) ?_
    refine lv_iconst (v := nI 2) hx hb dL_law_646 (by decide) ?_
    refine r_addn hx hb dL_law_647 ?_
    refine va_sld hx hb hX hbl hbA hS (i := nI (i + 2)) (vp_in_nI (by omega) (by omega)) dL_law_648 ?_
    refine lv_as (y := xs (i + 2)) (by rw [nIc (by omega)]) ?_
    refine lv_aload_n hx hb dL_law_649 rfl (lv_at hl 2 rfl) ?_
    refine lv_iload hx hb dL_law_650 (lv_at hl 1 rfl) ?_
    refine lv_iconst (v := nI 3) hx hb dL_law_652 (by decide) ?_
    refine r_addn hx hb dL_law_653 ?_
    refine va_sld hx hb hX hbl hbA hS (i := nI (i + 3)) (vp_in_nI (by omega) (by omega)) dL_law_654 ?_
    refine lv_as (y := xs (i + 3)) (by rw [nIc (by omega)]) ?_
    refine rw_i (wr := (wFl x r cI cZ cQ w q d T st re rc (nI nz)) ++ ((wPl pa pb cI zo) ++ ((wPl ka kb cI ke) ++ ((wFs fx cI cZ ff fg tk wt le) ++ ((wSs sx cI sf sg ra fo te ot zn co) ++ ((wDp ad o pa ka (fx 0) (sx 0)) ++ ((wOf o (x 0) (y 0)) ++ ((wSt y rp rw rt cI cQ P n Wi j_3 (nI nt)) ++ (wOu ou cJ j_4))))))))) (w_V (As := [.int (xs (i + 1)), .int (xs (i + 2)), .int (xs (i + 3))]) ⟨hx, hb, hml, hown, hts⟩ (c_X8_setTie l D cI cZ cQ cJ mx w nz q d nt mpr mwi mti mzo mke mwy mst mtr mbe mch mth Ti (xs (i + 1)) (xs (i + 2)) (xs (i + 3)) H.size (by first | assumption | omega) (by first | assumption | omega) (by first | assumption | omega)) (gV t4_95 t4_96 t4_97 t1_10 t4_98) rfl rfl hd_X8_setTie ⟨Nat.le_of_ble_eq_true rfl, Nat.le_of_ble_eq_true rfl⟩ (rw_pre hP hD hSt [31, 32, 33, 34, 35, 36, 37, 38, 39, 40, 41, 42, 43, 44] rfl (by decide)) (va_recv hSt.1 hP (ci := 8) (q0 := 31) rfl rfl) rfl hl.1 (rest := []) rfl (Nat.le_of_ble_eq_true rfl) dL_law_655 ⟨(by show _ ≤ 643243; omega), (by show _ ≤ 7166375; omega)⟩) hP hD hS hA [31, 32, 33, 34, 35, 36, 37, 38, 39, 40, 41, 42, 43, 44] [0, 1, 2, 3, 4, 5, 6, 7, 8, 9, 10, 11, 12, 13, 14, 15, 16, 17, 18, 19, 20, 21, 22, 23, 24, 25, 26, 27, 28, 29, 30, 45, 46, 47, 48, 49, 50, 51, 52, 53, 54, 55, 56, 57, 58, 59, 60, 61, 62, 63, 64, 65, 66, 67, 68, 69, 70, 71, 72, 73] rfl rfl (by decide) (by decide) (fun r_9 u_12 H locs hw9 hP hD hS => ?_)
    obtain ⟨j_8, j_9, j_10, j_11⟩ := u_12
    obtain ⟨er_9, f_13, f_14⟩ := hw9
    replace er_9 := er_9.symm
    subst er_9
    have hsM : sSetTie nt Ti (xs (i + 1)) (xs (i + 2)) (xs (i + 3)) j_9 j_8 j_11 := f_13
    have hm2M : ∀ t j, t < 7 → j < 7 → j_10 (7 * t + j) = j_11 t j := f_14
    have hP : va_P D vwCl (((wFl x r cI cZ cQ w q d T st re rc (nI nz)) ++ ((wPl pa pb cI zo) ++ ((wPl ka kb cI ke) ++ ((wFs fx cI cZ ff fg tk wt le) ++ ((wSs sx cI sf sg ra fo te ot zn co) ++ ((wDp ad o pa ka (fx 0) (sx 0)) ++ ((wOf o (x 0) (y 0)) ++ ((wSt y rp rw rt cI cQ P n Wi j_3 (nI nt)) ++ (wOu ou cJ j_4))))))))) ++ (wMo mx cI cZ w (nI nz) q d (nI nt) mpr mwi j_10 mzo mke mwy mst mtr mbe mch (nI j_9))) H := hP
    have hD : va_D A (((wFl x r cI cZ cQ w q d T st re rc (nI nz)) ++ ((wPl pa pb cI zo) ++ ((wPl ka kb cI ke) ++ ((wFs fx cI cZ ff fg tk wt le) ++ ((wSs sx cI sf sg ra fo te ot zn co) ++ ((wDp ad o pa ka (fx 0) (sx 0)) ++ ((wOf o (x 0) (y 0)) ++ ((wSt y rp rw rt cI cQ P n Wi j_3 (nI nt)) ++ (wOu ou cJ j_4))))))))) ++ (wMo mx cI cZ w (nI nz) q d (nI nt) mpr mwi j_10 mzo mke mwy mst mtr mbe mch (nI j_9))) := hD
    refine lv_istore (lv' := [(6, .int j_8), (5, .int (nI j_1)), (4, .int (nI i)), (0, .ref b), (1, .ref ad), (2, .ref (mx 0)), (3, .ref ou)]) hx hb dL_law_658 hl (by decide) rfl (fun ls hl => ?_)
    refine lv_aload_n hx hb dL_law_660 rfl (lv_at hl 5 rfl) ?_
    refine ro_V (As := []) (rest := []) (v := (nI j_9)) ⟨hx, hb, hml, hown, hts⟩ (c_X8_thrown l D cI cZ cQ cJ mx w nz q d nt mpr mwi j_10 mzo mke mwy mst mtr mbe mch (nI j_9)) (gV t4_29 t4_30 t4_31 t1_10 t4_32) rfl rfl hd_X8_thrown ⟨Nat.le_of_ble_eq_true rfl, Nat.le_of_ble_eq_true rfl⟩ (hP.sub (ws' := wMo mx cI cZ w (nI nz) q d (nI nt) mpr mwi j_10 mzo mke mwy mst mtr mbe mch (nI j_9)) [60, 61, 62, 63, 64, 65, 66, 67, 68, 69, 70, 71, 72, 73] rfl) hSt (va_recv hSt.1 hP (ci := 8) (q0 := 60) rfl rfl) rfl hl.1 rfl (Nat.le_of_ble_eq_true rfl) dL_law_661 (by show _ ≤ 643243; omega) (by show _ ≤ 7166375; omega) ?_
    have hkb : j_1 ≤ 3 := sSetTie_k hsC
    obtain ⟨hk9, hv9, hu90⟩ := sSetTie_fn hsC hsM
    have hP77 := hP
    have hD77 := hD
    have hl77 := hl
    subst hu90
    have hP := hP77
    have hD := hD77
    have hl := hl77
    refine lv_iload hx hb dL_law_664 (lv_at hl 1 rfl) ?_
    refine lv_icmp_eq (tgt := 671) hx hb dL_law_666 (by decide) (fun c_15 => ?_) (fun c_15 => ?_)
    · refine lv_iload hx hb dL_law_671 (lv_at hl 1 rfl) ?_
      refine lv_if_ne (tgt := 688) hx hb dL_law_673 (by decide) (fun c_16 => ?_) (fun c_16 => ?_)
      · have c_16 := z_ne (a := j_1) (b := 0) (by omega) (by omega) c_16
        refine lv_goto (tgt := 1423) hx hb dL_law_688 (by decide) ?_
        have hIV9 : IV w q d T nz nt P n Wi j_11 zo ke ff fg tk mpr mwi j_10 mzo mke := iv_setTie I hsM hm2M
        have hP9 : va_P D vwCl ((wDp ad o pa ka (fx 0) (sx 0)) ++ ((wOf o (x 0) (y 0)) ++ ((wFl x r cI cZ cQ w q d T st re rc (nI nz)) ++ ((wSt y rp rw rt cI cQ P n Wi j_11 (nI nt)) ++ ((wPl pa pb cI zo) ++ ((wPl ka kb cI ke) ++ ((wFs fx cI cZ ff fg tk wt le) ++ ((wSs sx cI sf sg ra fo te ot zn co) ++ ((wMo mx cI cZ w (nI nz) q d (nI nt) mpr mwi j_10 mzo mke mwy mst mtr mbe mch (nI j_9)) ++ (wOu ou cJ j_4)))))))))) H := (hP.sub (ws' := (wDp ad o pa ka (fx 0) (sx 0)) ++ ((wOf o (x 0) (y 0)) ++ ((wFl x r cI cZ cQ w q d T st re rc (nI nz)) ++ ((wSt y rp rw rt cI cQ P n Wi j_11 (nI nt)) ++ ((wPl pa pb cI zo) ++ ((wPl ka kb cI ke) ++ ((wFs fx cI cZ ff fg tk wt le) ++ ((wSs sx cI sf sg ra fo te ot zn co) ++ ((wMo mx cI cZ w (nI nz) q d (nI nt) mpr mwi j_10 mzo mke mwy mst mtr mbe mch (nI j_9)) ++ (wOu ou cJ j_4)))))))))) [31, 32, 0, 1, 2, 3, 4, 5, 6, 7, 8, 9, 10, 11, 12, 13, 33, 34, 35, 36, 37, 38, 39, 40, 41, 42, 43, 44, 45, 46, 47, 48, 49, 50, 51, 52, 53, 54, 55, 56, 57, 58, 14, 15, 16, 17, 18, 19, 20, 21, 22, 23, 24, 25, 26, 27, 28, 29, 30, 60, 61, 62, 63, 64, 65, 66, 67, 68, 69, 70, 71, 72, 73, 59] rfl)
        have hD9 : va_D A ((wDp ad o pa ka (fx 0) (sx 0)) ++ ((wOf o (x 0) (y 0)) ++ ((wFl x r cI cZ cQ w q d T st re rc (nI nz)) ++ ((wSt y rp rw rt cI cQ P n Wi j_11 (nI nt)) ++ ((wPl pa pb cI zo) ++ ((wPl ka kb cI ke) ++ ((wFs fx cI cZ ff fg tk wt le) ++ ((wSs sx cI sf sg ra fo te ot zn co) ++ ((wMo mx cI cZ w (nI nz) q d (nI nt) mpr mwi j_10 mzo mke mwy mst mtr mbe mch (nI j_9)) ++ (wOu ou cJ j_4)))))))))) := (hD.sub (ws' := (wDp ad o pa ka (fx 0) (sx 0)) ++ ((wOf o (x 0) (y 0)) ++ ((wFl x r cI cZ cQ w q d T st re rc (nI nz)) ++ ((wSt y rp rw rt cI cQ P n Wi j_11 (nI nt)) ++ ((wPl pa pb cI zo) ++ ((wPl ka kb cI ke) ++ ((wFs fx cI cZ ff fg tk wt le) ++ ((wSs sx cI sf sg ra fo te ot zn co) ++ ((wMo mx cI cZ w (nI nz) q d (nI nt) mpr mwi j_10 mzo mke mwy mst mtr mbe mch (nI j_9)) ++ (wOu ou cJ j_4)))))))))) [31, 32, 0, 1, 2, 3, 4, 5, 6, 7, 8, 9, 10, 11, 12, 13, 33, 34, 35, 36, 37, 38, 39, 40, 41, 42, 43, 44, 45, 46, 47, 48, 49, 50, 51, 52, 53, 54, 55, 56, 57, 58, 14, 15, 16, 17, 18, 19, 20, 21, 22, 23, 24, 25, 26, 27, 28, 29, 30, 60, 61, 62, 63, 64, 65, 66, 67, 68, 69, 70, 71, 72, 73, 59] (by decide) rfl)
        refine W.widen (k := 74 + i + 4) (n := 900 + 6 * i + 24) (by omega) (by omega) ?_
        exact K w q d T st re rc nz P n Wi j_11 nt zo ke ff fg wt le sf sg ra fo te ot zn co mpr mwi j_10 mzo mke mwy mst mtr mbe mch (nI j_9) j_4 hIV9 H locs hP9 hD9 hS ls (lv_sub hl [2, 3, 4, 5, 6] rfl)
      · have c_16 := z_eq (a := j_1) (b := 0) (by omega) (by omega) c_16
        refine lv_aload_n hx hb dL_law_676 rfl (lv_at hl 6 rfl) ?_
        refine lv_iconst (v := nI 0) hx hb dL_law_677 (by decide) ?_
        refine r_lald hx hb hSt.1 hP 59 3 rfl rfl (k := 0) (by omega) (by omega) dL_law_678 ?_
        refine lv_iload hx hb dL_law_679 (lv_at hl 0 rfl) ?_
        refine lv_i2l (v := (j_8).toInt64) hx hb dL_law_681 rfl ?_
        refine W.lcmp hx hb dL_law_682 ?_
        refine lv_if_eq (tgt := 688) hx hb dL_law_683 (by decide) (fun c_17 => ?_) (fun c_17 => ?_)
        · refine lv_goto (tgt := 1423) hx hb dL_law_688 (by decide) ?_
          have hIV9 : IV w q d T nz nt P n Wi j_11 zo ke ff fg tk mpr mwi j_10 mzo mke := iv_setTie I hsM hm2M
          have hP9 : va_P D vwCl ((wDp ad o pa ka (fx 0) (sx 0)) ++ ((wOf o (x 0) (y 0)) ++ ((wFl x r cI cZ cQ w q d T st re rc (nI nz)) ++ ((wSt y rp rw rt cI cQ P n Wi j_11 (nI nt)) ++ ((wPl pa pb cI zo) ++ ((wPl ka kb cI ke) ++ ((wFs fx cI cZ ff fg tk wt le) ++ ((wSs sx cI sf sg ra fo te ot zn co) ++ ((wMo mx cI cZ w (nI nz) q d (nI nt) mpr mwi j_10 mzo mke mwy mst mtr mbe mch (nI j_9)) ++ (wOu ou cJ j_4)))))))))) H := (hP.sub (ws' := (wDp ad o pa ka (fx 0) (sx 0)) ++ ((wOf o (x 0) (y 0)) ++ ((wFl x r cI cZ cQ w q d T st re rc (nI nz)) ++ ((wSt y rp rw rt cI cQ P n Wi j_11 (nI nt)) ++ ((wPl pa pb cI zo) ++ ((wPl ka kb cI ke) ++ ((wFs fx cI cZ ff fg tk wt le) ++ ((wSs sx cI sf sg ra fo te ot zn co) ++ ((wMo mx cI cZ w (nI nz) q d (nI nt) mpr mwi j_10 mzo mke mwy mst mtr mbe mch (nI j_9)) ++ (wOu ou cJ j_4)))))))))) [31, 32, 0, 1, 2, 3, 4, 5, 6, 7, 8, 9, 10, 11, 12, 13, 33, 34, 35, 36, 37, 38, 39, 40, 41, 42, 43, 44, 45, 46, 47, 48, 49, 50, 51, 52, 53, 54, 55, 56, 57, 58, 14, 15, 16, 17, 18, 19, 20, 21, 22, 23, 24, 25, 26, 27, 28, 29, 30, 60, 61, 62, 63, 64, 65, 66, 67, 68, 69, 70, 71, 72, 73, 59] rfl)
          have hD9 : va_D A ((wDp ad o pa ka (fx 0) (sx 0)) ++ ((wOf o (x 0) (y 0)) ++ ((wFl x r cI cZ cQ w q d T st re rc (nI nz)) ++ ((wSt y rp rw rt cI cQ P n Wi j_11 (nI nt)) ++ ((wPl pa pb cI zo) ++ ((wPl ka kb cI ke) ++ ((wFs fx cI cZ ff fg tk wt le) ++ ((wSs sx cI sf sg ra fo te ot zn co) ++ ((wMo mx cI cZ w (nI nz) q d (nI nt) mpr mwi j_10 mzo mke mwy mst mtr mbe mch (nI j_9)) ++ (wOu ou cJ j_4)))))))))) := (hD.sub (ws' := (wDp ad o pa ka (fx 0) (sx 0)) ++ ((wOf o (x 0) (y 0)) ++ ((wFl x r cI cZ cQ w q d T st re rc (nI nz)) ++ ((wSt y rp rw rt cI cQ P n Wi j_11 (nI nt)) ++ ((wPl pa pb cI zo) ++ ((wPl ka kb cI ke) ++ ((wFs fx cI cZ ff fg tk wt le) ++ ((wSs sx cI sf sg ra fo te ot zn co) ++ ((wMo mx cI cZ w (nI nz) q d (nI nt) mpr mwi j_10 mzo mke mwy mst mtr mbe mch (nI j_9)) ++ (wOu ou cJ j_4)))))))))) [31, 32, 0, 1, 2, 3, 4, 5, 6, 7, 8, 9, 10, 11, 12, 13, 33, 34, 35, 36, 37, 38, 39, 40, 41, 42, 43, 44, 45, 46, 47, 48, 49, 50, 51, 52, 53, 54, 55, 56, 57, 58, 14, 15, 16, 17, 18, 19, 20, 21, 22, 23, 24, 25, 26, 27, 28, 29, 30, 60, 61, 62, 63, 64, 65, 66, 67, 68, 69, 70, 71, 72, 73, 59] (by decide) rfl)
          refine W.widen (k := 74 + i + 4) (n := 900 + 6 * i + 24) (by omega) (by omega) ?_
          exact K w q d T st re rc nz P n Wi j_11 nt zo ke ff fg wt le sf sg ra fo te ot zn co mpr mwi j_10 mzo mke mwy mst mtr mbe mch (nI j_9) j_4 hIV9 H locs hP9 hD9 hS ls (lv_sub hl [2, 3, 4, 5, 6] rfl)
        · exact absurd ((lg_cmp_eq _ _).mpr ((houC c_16).trans (congrArg Int32.toInt64 (hv9 c_16)))) c_17
    · exact absurd (congrArg nI hk9) c_15
set_option maxHeartbeats 4000000 in
set_option maxRecDepth 100000 in
theorem law_c7 (l : Launch) {p : Program} {e : Env} {s : State} {m : MethodId} {below : List Frame} {meth : Method} {c : Code} {b L : Nat} {xs : Nat → Int32} {A : Nat → Prop} {Q : State → Prop} {D : va_G} {cI cZ cQ cJ : ClassId} (ad : Nat) (o : Nat) (pa : Nat) (ka : Nat) (fx : Nat → Nat) (sx : Nat → Nat) (x : Nat → Nat) (r : Nat → Nat) (y : Nat → Nat) (rp : Nat → Nat) (rw : Nat → Nat) (rt : Nat → Nat) (pb : Nat) (kb : Nat) (mx : Nat → Nat) (ou : Nat) (tk : Nat → Int32) (C : LC p l s m c b L xs A D cI cZ cQ cJ) {i : Nat} (hi : i + 4 ≤ L) (K : LK p l e s m below meth c b A Q D cI cZ cQ cJ ad o pa ka fx sx x r y rp rw rt pb kb mx ou tk i 1423 (74 + i + 4) (900 + 6 * i + 24)) : LK p l e s m below meth c b A Q D cI cZ cQ cJ ad o pa ka fx sx x r y rp rw rt pb kb mx ou tk i 691 (74 + i) (900 + 6 * i) := by
  obtain ⟨hx, hb, hml, hown, hts, hX, hbl, hbA, hL, hSt, hDc, hZ, hfl, hA⟩ := C
  intro w q d T st re rc nz P n Wi Ti nt zo ke ff fg wt le sf sg ra fo te ot zn co mpr mwi mti mzo mke mwy mst mtr mbe mch mth fo9 hIV H locs hP hD hS ls hl
  obtain ⟨sq, dn, pp, wi, ti, dd, g, gk, I⟩ := id hIV
  obtain ⟨⟨hnz, hnt⟩, hw, hq, hT, hdd, hdn, hPp, hnn, hwi, hti, hv, hzo, hke, hvg, hvk, hfG, hff2, hfg2, htk, hpP, hmW, hmT, hmz, hmk⟩ := id I
  have hpr : ∀ t, t < nt → ∀ j, j < 5 → mpr (5 * t + j) = nI (pp t j) ∧ pp t j ≤ 60 := fun t ht j hj => by rw [hpP t j (by omega) hj]; exact hPp t ht j hj
  have hmw : ∀ t z, t < 7 → z < 7 → mwi (7 * t + z) = nI (wi t z) := fun t z ht hz => (hmW t z ht hz).trans (hwi t z ht hz)
  have hmt : ∀ t z, t < 7 → z < 7 → mti (7 * t + z) = nI (ti t z) := fun t z ht hz => (hmT t z ht hz).trans (hti t z ht hz)
  have hTd : ∀ u v, u < nz → v < nz → T u v = nI (dd u v) := fun u v hu hv => hdd u v hu hv
  have hdD : ∀ u v, u < nz → v < nz → isD w (sq u) (sq v) (nI (dd u v)) := fun u v hu hv => by rw [← hdd u v hu hv]; exact hT u v hu hv
  have hzz : ∀ u, nt ≤ u → u < 7 → zo u = -1 := fun u h1 h2 => by rw [hzo u h2, vG_out hvg u h1 h2]; rfl
  have hgz7 : gOK nz 7 g := fun t _ => (hvg.1 t).imp And.right id
  have hgzn : gOK nz nt g := fun t _ => (hvg.1 t).imp And.right id
  obtain ⟨nx, hnx⟩ := nx_ex (zo := zo) (ke := ke)
  obtain ⟨nm, hnm⟩ := nm_ex (gk := gk) hzo hvg hnz
  refine lv_aload_n hx hb dL_law_691 rfl (lv_at hl 2 rfl) ?_
  refine lv_aload_n hx hb dL_law_692 rfl (lv_at hl 1 rfl) ?_
  refine lv_iload hx hb dL_law_693 (lv_at hl 0 rfl) ?_
  refine lv_iconst (v := nI 1) hx hb dL_law_695 (by decide) ?_
  refine r_addn hx hb dL_law_696 ?_
  refine va_sld hx hb hX hbl hbA hS (i := nI (i + 1)) (vp_in_nI (by omega) (by omega)) dL_law_697 ?_
  refine lv_as (y := xs (i + 1)) (by rw [nIc (by omega)]) ?_
  refine lv_aload_n hx hb dL_law_698 rfl (lv_at hl 1 rfl) ?_
  refine lv_iload hx hb dL_law_699 (lv_at hl 0 rfl) ?_
  refine lv_iconst (v := nI 2) hx hb dL_law_701 (by decide) ?_
  refine r_addn hx hb dL_law_702 ?_
  refine va_sld hx hb hX hbl hbA hS (i := nI (i + 2)) (vp_in_nI (by omega) (by omega)) dL_law_703 ?_
  refine lv_as (y := xs (i + 2)) (by rw [nIc (by omega)]) ?_
  refine lv_aload_n hx hb dL_law_704 rfl (lv_at hl 4 rfl) ?_
  refine rx_i (wr := (wPl ka kb cI ke) ++ ((wFs fx cI cZ ff fg tk wt le) ++ ((wSs sx cI sf sg ra fo te ot zn co) ++ (wMo mx cI cZ w (nI nz) q d (nI nt) mpr mwi mti mzo mke mwy mst mtr mbe mch mth)))) (w_SHX (As := [.ref ad, .int (xs (i + 1)), .int (xs (i + 2)), .ref ou]) ⟨hx, hb, hml, hown, hts⟩ (c_L_place l D cI cZ cQ cJ ad o pa ka fx sx x r w q d T st re rc nz y rp rw rt P n Wi Ti nt pb zo (xs (i + 1)) (xs (i + 2)) ou fo9 H.size (by first | assumption | omega) (by first | assumption | omega) (by first | assumption | omega)) (gSH t3_83 t3_84 t1_0 t3_85) rfl rfl hd_L_place ⟨Nat.le_of_ble_eq_true rfl, Nat.le_of_ble_eq_true rfl⟩ (rx_pre hP hD hSt hDc hZ hS hA [0, 1, 2, 3, 4, 5, 6, 7, 8, 9, 10, 11, 12, 13, 14, 15, 16, 17, 18, 19, 20, 21, 22, 23, 24, 25, 26, 27, 28, 29, 30, 31, 32, 33, 34, 35, 36, 37, 38, 39, 40, 41, 42, 43, 73] rfl (by decide)) rfl hl.1 (rest := []) rfl (Nat.le_of_ble_eq_true rfl) dL_law_705 ⟨(by show _ ≤ 643243; omega), (by show _ ≤ 7166375; omega)⟩) hP hD hS hA [0, 1, 2, 3, 4, 5, 6, 7, 8, 9, 10, 11, 12, 13, 14, 15, 16, 17, 18, 19, 20, 21, 22, 23, 24, 25, 26, 27, 28, 29, 30, 31, 32, 33, 34, 35, 36, 37, 38, 39, 40, 41, 42, 43, 73] [44, 45, 46, 47, 48, 49, 50, 51, 52, 53, 54, 55, 56, 57, 58, 59, 60, 61, 62, 63, 64, 65, 66, 67, 68, 69, 70, 71, 72] rfl rfl (by decide) (by decide) (fun E9 ce9 q9 x9 H locs hx9 hP hD hS hc91 hc92 hc93 => ?_) (fun r_9 u_5 H locs hw9 hP hD hS => ?_)
  · have hx9 : False := hx9
    have hP : va_P D vwCl (((wPl ka kb cI ke) ++ ((wFs fx cI cZ ff fg tk wt le) ++ ((wSs sx cI sf sg ra fo te ot zn co) ++ (wMo mx cI cZ w (nI nz) q d (nI nt) mpr mwi mti mzo mke mwy mst mtr mbe mch mth)))) ++ (((wDp ad o pa ka (fx 0) (sx 0)) ++ ((wOf o (x 0) (y 0)) ++ ((wFl x r cI cZ cQ w q d T st re rc (nI nz)) ++ ((wSt y rp rw rt cI cQ P n Wi Ti (nI nt)) ++ (wPl pa pb cI zo))))) ++ (wOu ou cJ fo9))) H := hP
    have hD : va_D A (((wPl ka kb cI ke) ++ ((wFs fx cI cZ ff fg tk wt le) ++ ((wSs sx cI sf sg ra fo te ot zn co) ++ (wMo mx cI cZ w (nI nz) q d (nI nt) mpr mwi mti mzo mke mwy mst mtr mbe mch mth)))) ++ (((wDp ad o pa ka (fx 0) (sx 0)) ++ ((wOf o (x 0) (y 0)) ++ ((wFl x r cI cZ cQ w q d T st re rc (nI nz)) ++ ((wSt y rp rw rt cI cQ P n Wi Ti (nI nt)) ++ (wPl pa pb cI zo))))) ++ (wOu ou cJ fo9))) := hD
    exact hx9.elim
  · obtain ⟨j_1, j_2, j_3, j_4⟩ := u_5
    obtain ⟨er_9, f_6, f_7⟩ := hw9
    replace er_9 := er_9.symm
    subst er_9
    have hsC : sPlace nt nz zo n d (xs (i + 1)) (xs (i + 2)) j_1 j_2 j_3 := f_6
    have houC : j_1 = 0 → j_4 0 = j_2.toInt64 := f_7
    have hP : va_P D vwCl (((wPl ka kb cI ke) ++ ((wFs fx cI cZ ff fg tk wt le) ++ ((wSs sx cI sf sg ra fo te ot zn co) ++ (wMo mx cI cZ w (nI nz) q d (nI nt) mpr mwi mti mzo mke mwy mst mtr mbe mch mth)))) ++ (((wDp ad o pa ka (fx 0) (sx 0)) ++ ((wOf o (x 0) (y 0)) ++ ((wFl x r cI cZ cQ w q d T st re rc (nI nz)) ++ ((wSt y rp rw rt cI cQ P n Wi Ti (nI nt)) ++ (wPl pa pb cI j_3))))) ++ (wOu ou cJ j_4))) H := hP
    have hD : va_D A (((wPl ka kb cI ke) ++ ((wFs fx cI cZ ff fg tk wt le) ++ ((wSs sx cI sf sg ra fo te ot zn co) ++ (wMo mx cI cZ w (nI nz) q d (nI nt) mpr mwi mti mzo mke mwy mst mtr mbe mch mth)))) ++ (((wDp ad o pa ka (fx 0) (sx 0)) ++ ((wOf o (x 0) (y 0)) ++ ((wFl x r cI cZ cQ w q d T st re rc (nI nz)) ++ ((wSt y rp rw rt cI cQ P n Wi Ti (nI nt)) ++ (wPl pa pb cI j_3))))) ++ (wOu ou cJ j_4))) := hD
    refine lv_istore (lv' := [(5, .int (nI j_1)), (4, .int (nI i)), (0, .ref b), (1, .ref ad), (2, .ref (mx 0)), (3, .ref ou)]) hx hb dL_law_708 hl (by decide) rfl (fun ls hl => ?_)
    refine lv_aload_n hx hb dL_law_710 rfl (lv_at hl 4 rfl) ?_
    refine lv_aload_n hx hb dL_law_711 rfl (lv_at hl 2 rfl) ?_
    refine lv_iload hx hb dL_law_712 (lv_at hl 1 rfl) ?_
    refine lv_iconst (v := nI 1) hx hb dL_law_714 (by decide) ?_
    refine r_addn hx hb dL_law_715 ?_
    refine va_sld hx hb hX hbl hbA hS (i := nI (i + 1)) (vp_in_nI (by omega) (by omega)) dL_law_716 ?_
    refine lv_as (y := xs (i + 1)) (by rw [nIc (by omega)]) ?_
    refine lv_aload_n hx hb dL_law_717 rfl (lv_at hl 2 rfl) ?_
    refine lv_iload hx hb dL_law_718 (lv_at hl 1 rfl) ?_
    refine lv_iconst (v := nI 2) hx hb dL_law_720 (by decide) ?_
    refine r_addn hx hb dL_law_721 ?_
    refine va_sld hx hb hX hbl hbA hS (i := nI (i + 2)) (vp_in_nI (by omega) (by omega)) dL_law_722 ?_
    refine lv_as (y := xs (i + 2)) (by rw [nIc (by omega)]) ?_
    refine rw_i (wr := (wPl ka kb cI ke) ++ ((wFs fx cI cZ ff fg tk wt le) ++ ((wSs sx cI sf sg ra fo te ot zn co) ++ ((wDp ad o pa ka (fx 0) (sx 0)) ++ ((wOf o (x 0) (y 0)) ++ ((wFl x r cI cZ cQ w q d T st re rc (nI nz)) ++ ((wSt y rp rw rt cI cQ P n Wi Ti (nI nt)) ++ ((wPl pa pb cI j_3) ++ (wOu ou cJ j_4))))))))) (w_V (As := [.int (xs (i + 1)), .int (xs (i + 2))]) ⟨hx, hb, hml, hown, hts⟩ (c_X8_place l D cI cZ cQ cJ mx w nz q d nt mpr mwi mti mzo mke mwy mst mtr mbe mch mth pp n g zo (xs (i + 1)) (xs (i + 2)) H.size (by first | assumption | omega) (by first | assumption | omega) (by first | assumption | omega) (by first | assumption | omega) (by first | assumption | omega) (by first | assumption | omega) (by first | assumption | omega)) (gV t4_99 t4_100 t4_101 t1_10 t4_102) rfl rfl hd_X8_place ⟨Nat.le_of_ble_eq_true rfl, Nat.le_of_ble_eq_true rfl⟩ (rw_pre hP hD hSt [15, 16, 17, 18, 19, 20, 21, 22, 23, 24, 25, 26, 27, 28] rfl (by decide)) (va_recv hSt.1 hP (ci := 8) (q0 := 15) rfl rfl) rfl hl.1 (rest := []) rfl (Nat.le_of_ble_eq_true rfl) dL_law_723 ⟨(by show _ ≤ 643243; omega), (by show _ ≤ 7166375; omega)⟩) hP hD hS hA [15, 16, 17, 18, 19, 20, 21, 22, 23, 24, 25, 26, 27, 28] [0, 1, 2, 3, 4, 5, 6, 7, 8, 9, 10, 11, 12, 13, 14, 29, 30, 31, 32, 33, 34, 35, 36, 37, 38, 39, 40, 41, 42, 43, 44, 45, 46, 47, 48, 49, 50, 51, 52, 53, 54, 55, 56, 57, 58, 59, 60, 61, 62, 63, 64, 65, 66, 67, 68, 69, 70, 71, 72, 73] rfl rfl (by decide) (by decide) (fun r_9 u_12 H locs hw9 hP hD hS => ?_)
    obtain ⟨j_8, j_9, j_10, j_11⟩ := u_12
    obtain ⟨er_9, f_13, f_14⟩ := hw9
    replace er_9 := er_9.symm
    subst er_9
    have hsM : sPlace nt nz zo n d (xs (i + 1)) (xs (i + 2)) j_9 j_8 j_11 := f_13
    have hz2M : j_10 = if j_9 = 0 then upd mzo (xs (i + 1)).toNatClampNeg (xs (i + 2)) else mzo := f_14
    have hP : va_P D vwCl (((wPl ka kb cI ke) ++ ((wFs fx cI cZ ff fg tk wt le) ++ ((wSs sx cI sf sg ra fo te ot zn co) ++ ((wDp ad o pa ka (fx 0) (sx 0)) ++ ((wOf o (x 0) (y 0)) ++ ((wFl x r cI cZ cQ w q d T st re rc (nI nz)) ++ ((wSt y rp rw rt cI cQ P n Wi Ti (nI nt)) ++ ((wPl pa pb cI j_3) ++ (wOu ou cJ j_4))))))))) ++ (wMo mx cI cZ w (nI nz) q d (nI nt) mpr mwi mti j_10 mke mwy mst mtr mbe mch (nI j_9))) H := hP
    have hD : va_D A (((wPl ka kb cI ke) ++ ((wFs fx cI cZ ff fg tk wt le) ++ ((wSs sx cI sf sg ra fo te ot zn co) ++ ((wDp ad o pa ka (fx 0) (sx 0)) ++ ((wOf o (x 0) (y 0)) ++ ((wFl x r cI cZ cQ w q d T st re rc (nI nz)) ++ ((wSt y rp rw rt cI cQ P n Wi Ti (nI nt)) ++ ((wPl pa pb cI j_3) ++ (wOu ou cJ j_4))))))))) ++ (wMo mx cI cZ w (nI nz) q d (nI nt) mpr mwi mti j_10 mke mwy mst mtr mbe mch (nI j_9))) := hD
    refine lv_istore (lv' := [(6, .int j_8), (5, .int (nI j_1)), (4, .int (nI i)), (0, .ref b), (1, .ref ad), (2, .ref (mx 0)), (3, .ref ou)]) hx hb dL_law_726 hl (by decide) rfl (fun ls hl => ?_)
    refine lv_aload_n hx hb dL_law_728 rfl (lv_at hl 5 rfl) ?_
    refine ro_V (As := []) (rest := []) (v := (nI j_9)) ⟨hx, hb, hml, hown, hts⟩ (c_X8_thrown l D cI cZ cQ cJ mx w nz q d nt mpr mwi mti j_10 mke mwy mst mtr mbe mch (nI j_9)) (gV t4_29 t4_30 t4_31 t1_10 t4_32) rfl rfl hd_X8_thrown ⟨Nat.le_of_ble_eq_true rfl, Nat.le_of_ble_eq_true rfl⟩ (hP.sub (ws' := wMo mx cI cZ w (nI nz) q d (nI nt) mpr mwi mti j_10 mke mwy mst mtr mbe mch (nI j_9)) [60, 61, 62, 63, 64, 65, 66, 67, 68, 69, 70, 71, 72, 73] rfl) hSt (va_recv hSt.1 hP (ci := 8) (q0 := 60) rfl rfl) rfl hl.1 rfl (Nat.le_of_ble_eq_true rfl) dL_law_729 (by show _ ≤ 643243; omega) (by show _ ≤ 7166375; omega) ?_
    have hkb : j_1 ≤ 3 := sPlace_k hsC
    obtain ⟨hk9, hv9, hu90⟩ := sPlace_fn hsC hsM
    have hP77 := hP
    have hD77 := hD
    have hl77 := hl
    subst hu90
    have hP := hP77
    have hD := hD77
    have hl := hl77
    refine lv_iload hx hb dL_law_732 (lv_at hl 1 rfl) ?_
    refine lv_icmp_eq (tgt := 739) hx hb dL_law_734 (by decide) (fun c_15 => ?_) (fun c_15 => ?_)
    · refine lv_iload hx hb dL_law_739 (lv_at hl 1 rfl) ?_
      refine lv_if_ne (tgt := 756) hx hb dL_law_741 (by decide) (fun c_16 => ?_) (fun c_16 => ?_)
      · have c_16 := z_ne (a := j_1) (b := 0) (by omega) (by omega) c_16
        refine lv_goto (tgt := 1423) hx hb dL_law_756 (by decide) ?_
        have hIV9 : IV w q d T nz nt P n Wi Ti j_11 ke ff fg tk mpr mwi mti j_10 mke := iv_place I hsM hz2M
        have hP9 : va_P D vwCl ((wDp ad o pa ka (fx 0) (sx 0)) ++ ((wOf o (x 0) (y 0)) ++ ((wFl x r cI cZ cQ w q d T st re rc (nI nz)) ++ ((wSt y rp rw rt cI cQ P n Wi Ti (nI nt)) ++ ((wPl pa pb cI j_11) ++ ((wPl ka kb cI ke) ++ ((wFs fx cI cZ ff fg tk wt le) ++ ((wSs sx cI sf sg ra fo te ot zn co) ++ ((wMo mx cI cZ w (nI nz) q d (nI nt) mpr mwi mti j_10 mke mwy mst mtr mbe mch (nI j_9)) ++ (wOu ou cJ j_4)))))))))) H := (hP.sub (ws' := (wDp ad o pa ka (fx 0) (sx 0)) ++ ((wOf o (x 0) (y 0)) ++ ((wFl x r cI cZ cQ w q d T st re rc (nI nz)) ++ ((wSt y rp rw rt cI cQ P n Wi Ti (nI nt)) ++ ((wPl pa pb cI j_11) ++ ((wPl ka kb cI ke) ++ ((wFs fx cI cZ ff fg tk wt le) ++ ((wSs sx cI sf sg ra fo te ot zn co) ++ ((wMo mx cI cZ w (nI nz) q d (nI nt) mpr mwi mti j_10 mke mwy mst mtr mbe mch (nI j_9)) ++ (wOu ou cJ j_4)))))))))) [15, 16, 17, 18, 19, 20, 21, 22, 23, 24, 25, 26, 27, 28, 29, 30, 31, 32, 33, 34, 35, 36, 37, 38, 39, 40, 41, 42, 43, 44, 45, 46, 47, 48, 49, 50, 51, 52, 53, 54, 55, 56, 57, 58, 0, 1, 2, 3, 4, 5, 6, 7, 8, 9, 10, 11, 12, 13, 14, 60, 61, 62, 63, 64, 65, 66, 67, 68, 69, 70, 71, 72, 73, 59] rfl)
        have hD9 : va_D A ((wDp ad o pa ka (fx 0) (sx 0)) ++ ((wOf o (x 0) (y 0)) ++ ((wFl x r cI cZ cQ w q d T st re rc (nI nz)) ++ ((wSt y rp rw rt cI cQ P n Wi Ti (nI nt)) ++ ((wPl pa pb cI j_11) ++ ((wPl ka kb cI ke) ++ ((wFs fx cI cZ ff fg tk wt le) ++ ((wSs sx cI sf sg ra fo te ot zn co) ++ ((wMo mx cI cZ w (nI nz) q d (nI nt) mpr mwi mti j_10 mke mwy mst mtr mbe mch (nI j_9)) ++ (wOu ou cJ j_4)))))))))) := (hD.sub (ws' := (wDp ad o pa ka (fx 0) (sx 0)) ++ ((wOf o (x 0) (y 0)) ++ ((wFl x r cI cZ cQ w q d T st re rc (nI nz)) ++ ((wSt y rp rw rt cI cQ P n Wi Ti (nI nt)) ++ ((wPl pa pb cI j_11) ++ ((wPl ka kb cI ke) ++ ((wFs fx cI cZ ff fg tk wt le) ++ ((wSs sx cI sf sg ra fo te ot zn co) ++ ((wMo mx cI cZ w (nI nz) q d (nI nt) mpr mwi mti j_10 mke mwy mst mtr mbe mch (nI j_9)) ++ (wOu ou cJ j_4)))))))))) [15, 16, 17, 18, 19, 20, 21, 22, 23, 24, 25, 26, 27, 28, 29, 30, 31, 32, 33, 34, 35, 36, 37, 38, 39, 40, 41, 42, 43, 44, 45, 46, 47, 48, 49, 50, 51, 52, 53, 54, 55, 56, 57, 58, 0, 1, 2, 3, 4, 5, 6, 7, 8, 9, 10, 11, 12, 13, 14, 60, 61, 62, 63, 64, 65, 66, 67, 68, 69, 70, 71, 72, 73, 59] (by decide) rfl)
        refine W.widen (k := 74 + i + 4) (n := 900 + 6 * i + 24) (by omega) (by omega) ?_
        exact K w q d T st re rc nz P n Wi Ti nt j_11 ke ff fg wt le sf sg ra fo te ot zn co mpr mwi mti j_10 mke mwy mst mtr mbe mch (nI j_9) j_4 hIV9 H locs hP9 hD9 hS ls (lv_sub hl [2, 3, 4, 5, 6] rfl)
      · have c_16 := z_eq (a := j_1) (b := 0) (by omega) (by omega) c_16
        refine lv_aload_n hx hb dL_law_744 rfl (lv_at hl 6 rfl) ?_
        refine lv_iconst (v := nI 0) hx hb dL_law_745 (by decide) ?_
        refine r_lald hx hb hSt.1 hP 59 3 rfl rfl (k := 0) (by omega) (by omega) dL_law_746 ?_
        refine lv_iload hx hb dL_law_747 (lv_at hl 0 rfl) ?_
        refine lv_i2l (v := (j_8).toInt64) hx hb dL_law_749 rfl ?_
        refine W.lcmp hx hb dL_law_750 ?_
        refine lv_if_eq (tgt := 756) hx hb dL_law_751 (by decide) (fun c_17 => ?_) (fun c_17 => ?_)
        · refine lv_goto (tgt := 1423) hx hb dL_law_756 (by decide) ?_
          have hIV9 : IV w q d T nz nt P n Wi Ti j_11 ke ff fg tk mpr mwi mti j_10 mke := iv_place I hsM hz2M
          have hP9 : va_P D vwCl ((wDp ad o pa ka (fx 0) (sx 0)) ++ ((wOf o (x 0) (y 0)) ++ ((wFl x r cI cZ cQ w q d T st re rc (nI nz)) ++ ((wSt y rp rw rt cI cQ P n Wi Ti (nI nt)) ++ ((wPl pa pb cI j_11) ++ ((wPl ka kb cI ke) ++ ((wFs fx cI cZ ff fg tk wt le) ++ ((wSs sx cI sf sg ra fo te ot zn co) ++ ((wMo mx cI cZ w (nI nz) q d (nI nt) mpr mwi mti j_10 mke mwy mst mtr mbe mch (nI j_9)) ++ (wOu ou cJ j_4)))))))))) H := (hP.sub (ws' := (wDp ad o pa ka (fx 0) (sx 0)) ++ ((wOf o (x 0) (y 0)) ++ ((wFl x r cI cZ cQ w q d T st re rc (nI nz)) ++ ((wSt y rp rw rt cI cQ P n Wi Ti (nI nt)) ++ ((wPl pa pb cI j_11) ++ ((wPl ka kb cI ke) ++ ((wFs fx cI cZ ff fg tk wt le) ++ ((wSs sx cI sf sg ra fo te ot zn co) ++ ((wMo mx cI cZ w (nI nz) q d (nI nt) mpr mwi mti j_10 mke mwy mst mtr mbe mch (nI j_9)) ++ (wOu ou cJ j_4)))))))))) [15, 16, 17, 18, 19, 20, 21, 22, 23, 24, 25, 26, 27, 28, 29, 30, 31, 32, 33, 34, 35, 36, 37, 38, 39, 40, 41, 42, 43, 44, 45, 46, 47, 48, 49, 50, 51, 52, 53, 54, 55, 56, 57, 58, 0, 1, 2, 3, 4, 5, 6, 7, 8, 9, 10, 11, 12, 13, 14, 60, 61, 62, 63, 64, 65, 66, 67, 68, 69, 70, 71, 72, 73, 59] rfl)
          have hD9 : va_D A ((wDp ad o pa ka (fx 0) (sx 0)) ++ ((wOf o (x 0) (y 0)) ++ ((wFl x r cI cZ cQ w q d T st re rc (nI nz)) ++ ((wSt y rp rw rt cI cQ P n Wi Ti (nI nt)) ++ ((wPl pa pb cI j_11) ++ ((wPl ka kb cI ke) ++ ((wFs fx cI cZ ff fg tk wt le) ++ ((wSs sx cI sf sg ra fo te ot zn co) ++ ((wMo mx cI cZ w (nI nz) q d (nI nt) mpr mwi mti j_10 mke mwy mst mtr mbe mch (nI j_9)) ++ (wOu ou cJ j_4)))))))))) := (hD.sub (ws' := (wDp ad o pa ka (fx 0) (sx 0)) ++ ((wOf o (x 0) (y 0)) ++ ((wFl x r cI cZ cQ w q d T st re rc (nI nz)) ++ ((wSt y rp rw rt cI cQ P n Wi Ti (nI nt)) ++ ((wPl pa pb cI j_11) ++ ((wPl ka kb cI ke) ++ ((wFs fx cI cZ ff fg tk wt le) ++ ((wSs sx cI sf sg ra fo te ot zn co) ++ ((wMo mx cI cZ w (nI nz) q d (nI nt) mpr mwi mti j_10 mke mwy mst mtr mbe mch (nI j_9)) ++ (wOu ou cJ j_4)))))))))) [15, 16, 17, 18, 19, 20, 21, 22, 23, 24, 25, 26, 27, 28, 29, 30, 31, 32, 33, 34, 35, 36, 37, 38, 39, 40, 41, 42, 43, 44, 45, 46, 47, 48, 49, 50, 51, 52, 53, 54, 55, 56, 57, 58, 0, 1, 2, 3, 4, 5, 6, 7, 8, 9, 10, 11, 12, 13, 14, 60, 61, 62, 63, 64, 65, 66, 67, 68, 69, 70, 71, 72, 73, 59] (by decide) rfl)
          refine W.widen (k := 74 + i + 4) (n := 900 + 6 * i + 24) (by omega) (by omega) ?_
          exact K w q d T st re rc nz P n Wi Ti nt j_11 ke ff fg wt le sf sg ra fo te ot zn co mpr mwi mti j_10 mke mwy mst mtr mbe mch (nI j_9) j_4 hIV9 H locs hP9 hD9 hS ls (lv_sub hl [2, 3, 4, 5, 6] rfl)
        · exact absurd ((lg_cmp_eq _ _).mpr ((houC c_16).trans (congrArg Int32.toInt64 (hv9 c_16)))) c_17
    · exact absurd (congrArg nI hk9) c_15
