theorem hd_X2_tryFrom : yX2_tryFrom.cls = RX2 ∧ yX2_tryFrom.cls ≠ "java/lang/invoke/MethodHandle" ∧ yX2_tryFrom.cls ≠ "java/lang/invoke/VarHandle" ∧ (parseMethodDescriptor yX2_tryFrom.desc).map (fun d => d.parameters.length) = some 3 := by decide +kernel
theorem hd_X2_tryAt : yX2_tryAt.cls = RX2 ∧ yX2_tryAt.cls ≠ "java/lang/invoke/MethodHandle" ∧ yX2_tryAt.cls ≠ "java/lang/invoke/VarHandle" ∧ (parseMethodDescriptor yX2_tryAt.desc).map (fun d => d.parameters.length) = some 4 := by decide +kernel
def pF (dp : Nat) : Prop := ∀ (l : Launch) (D : va_G) (cI cZ cQ cJ : ClassId) (o : Nat) (x : Nat → Nat) (r : Nat → Nat) (w : Nat → Int32) (q : Nat → Int32) (d : Nat → Int32) (T : Nat → Nat → Int32) (st : Nat → Int32) (re : Nat → Int32) (rc : Int32) (nz : Nat) (y : Nat → Nat) (rp : Nat → Nat) (rw : Nat → Nat) (rt : Nat → Nat) (P : Nat → Nat → Int32) (n : Nat → Int32) (Wi : Nat → Nat → Int32) (Ti : Nat → Nat → Int32) (nt : Nat) (fx : Nat → Nat) (ff : Nat → Int32) (fg : Nat → Int32) (tk : Nat → Int32) (wb : Bool) (k : Nat) (wi : Nat → Nat → Nat) (ti : Nat → Nat → Nat) (dd : Nat → Nat → Nat) (g : Nat → Nat) (t : Nat) (cN : Nat) (sz : Nat) (hnt : nt ≤ 7) (hnz : nz ≤ 7) (hwi : rOK 7 7 Wi wi) (hti : rOK 7 7 Ti ti) (hdd : rOK nz nz T dd) (hv : vOK nz wi ti dd) (hdp : t + dp = nt) (hff : pOK t ff g) (hff2 : ∀ u, nt ≤ u → u < 7 → ff u = -1) (hfg2 : ∀ u, nt ≤ u → u < 7 → fg u = -1) (htk1 : ∀ u, u < 7 → tk u = 0 ∨ tk u = 1) (htk2 : ∀ u, u < nz → (tk u = 0 ↔ ∀ j, j < t → g j ≠ u)) (hvp : vP nz (fun t9 z9 => n t9 ≤ d z9) g t) (hcN : cN = pcN wb wi ti dd g t) (hk9 : k ≤ 1000000) (hck : cN < k), Met l yX2_tryFrom (.code yX2_tryFrom cX2_tryFrom 5 none :: ALL) ({ frames := 2 * dp + 3, cells := 0, slots := 0, locals := 49 * dp + 150 } : Room) (va_Pc [.ref (fx 0), .ref o, .int (nI t), .int (nI cN)] (rw_P D cI cZ cQ cJ ((wOf o (x 0) (y 0)) ++ ((wFl x r cI cZ cQ w q d T st re rc (nI nz)) ++ ((wSt y rp rw rt cI cQ P n Wi Ti (nI nt)) ++ (wFs fx cI cZ ff fg tk (bB wb) (lI k))))) sz)) (va_Qv (fun u9 : (Nat → Int32) × (Nat → Int32) × Nat => (pOK t u9.1 g) ∧ (∀ u, nt ≤ u → u < 7 → u9.1 u = -1) ∧ (∀ u, nt ≤ u → u < 7 → u9.2.1 u = -1) ∧ (SR nt (fun g9 => pcN wb wi ti dd g9 nt) (Cp nz nt (fun t9 z9 => n t9 ≤ d z9) g t) k fg u9.2.2 u9.2.1)) (rw_B D (va_A ((wOf o (x 0) (y 0)) ++ ((wFl x r cI cZ cQ w q d T st re rc (nI nz)) ++ ((wSt y rp rw rt cI cQ P n Wi Ti (nI nt)) ++ (wFs fx cI cZ ff fg tk (bB wb) (lI k))))) sz) (fun u9 : (Nat → Int32) × (Nat → Int32) × Nat => (wOf o (x 0) (y 0)) ++ ((wFl x r cI cZ cQ w q d T st re rc (nI nz)) ++ ((wSt y rp rw rt cI cQ P n Wi Ti (nI nt)) ++ (wFs fx cI cZ u9.1 u9.2.1 tk (bB wb) (lI u9.2.2)))))) (va_A ((wOf o (x 0) (y 0)) ++ ((wFl x r cI cZ cQ w q d T st re rc (nI nz)) ++ ((wSt y rp rw rt cI cQ P n Wi Ti (nI nt)) ++ (wFs fx cI cZ ff fg tk (bB wb) (lI k))))) sz)) 0 0 (va_A ((wOf o (x 0) (y 0)) ++ ((wFl x r cI cZ cQ w q d T st re rc (nI nz)) ++ ((wSt y rp rw rt cI cQ P n Wi Ti (nI nt)) ++ (wFs fx cI cZ ff fg tk (bB wb) (lI k))))) sz)
def pA (dp : Nat) : Prop := ∀ (l : Launch) (D : va_G) (cI cZ cQ cJ : ClassId) (o : Nat) (x : Nat → Nat) (r : Nat → Nat) (w : Nat → Int32) (q : Nat → Int32) (d : Nat → Int32) (T : Nat → Nat → Int32) (st : Nat → Int32) (re : Nat → Int32) (rc : Int32) (nz : Nat) (y : Nat → Nat) (rp : Nat → Nat) (rw : Nat → Nat) (rt : Nat → Nat) (P : Nat → Nat → Int32) (n : Nat → Int32) (Wi : Nat → Nat → Int32) (Ti : Nat → Nat → Int32) (nt : Nat) (fx : Nat → Nat) (ff : Nat → Int32) (fg : Nat → Int32) (tk : Nat → Int32) (wb : Bool) (k : Nat) (wi : Nat → Nat → Nat) (ti : Nat → Nat → Nat) (dd : Nat → Nat → Nat) (g : Nat → Nat) (t : Nat) (z : Nat) (cN : Nat) (sz : Nat) (hnt : nt ≤ 7) (hnz : nz ≤ 7) (hwi : rOK 7 7 Wi wi) (hti : rOK 7 7 Ti ti) (hdd : rOK nz nz T dd) (hv : vOK nz wi ti dd) (hdp : t + (dp + 1) = nt) (hff : pOK t ff g) (hff2 : ∀ u, nt ≤ u → u < 7 → ff u = -1) (hfg2 : ∀ u, nt ≤ u → u < 7 → fg u = -1) (htk1 : ∀ u, u < 7 → tk u = 0 ∨ tk u = 1) (htk2 : ∀ u, u < nz → (tk u = 0 ↔ ∀ j, j < t → g j ≠ u)) (hvp : vP nz (fun t9 z9 => n t9 ≤ d z9) g t) (hcN : cN = pcN wb wi ti dd g t) (hk9 : k ≤ 1000000) (hz : z < nz) (hfr : ∀ j, j < t → g j ≠ z) (hft : n t ≤ d z), Met l yX2_tryAt (.code yX2_tryAt cX2_tryAt 6 none :: ALL) ({ frames := 2 * dp + 4, cells := 0, slots := 0, locals := 49 * dp + 174 } : Room) (va_Pc [.ref (fx 0), .ref o, .int (nI t), .int (nI z), .int (nI cN)] (rw_P D cI cZ cQ cJ ((wOf o (x 0) (y 0)) ++ ((wFl x r cI cZ cQ w q d T st re rc (nI nz)) ++ ((wSt y rp rw rt cI cQ P n Wi Ti (nI nt)) ++ (wFs fx cI cZ ff fg tk (bB wb) (lI k))))) sz)) (va_Qv (fun u9 : (Nat → Int32) × (Nat → Int32) × Nat => (pOK t u9.1 g) ∧ (∀ u, nt ≤ u → u < 7 → u9.1 u = -1) ∧ (∀ u, nt ≤ u → u < 7 → u9.2.1 u = -1) ∧ (SR nt (fun g9 => pcN wb wi ti dd g9 nt) (Cp nz nt (fun t9 z9 => n t9 ≤ d z9) (updN g t z) (t + 1)) k fg u9.2.2 u9.2.1)) (rw_B D (va_A ((wOf o (x 0) (y 0)) ++ ((wFl x r cI cZ cQ w q d T st re rc (nI nz)) ++ ((wSt y rp rw rt cI cQ P n Wi Ti (nI nt)) ++ (wFs fx cI cZ ff fg tk (bB wb) (lI k))))) sz) (fun u9 : (Nat → Int32) × (Nat → Int32) × Nat => (wOf o (x 0) (y 0)) ++ ((wFl x r cI cZ cQ w q d T st re rc (nI nz)) ++ ((wSt y rp rw rt cI cQ P n Wi Ti (nI nt)) ++ (wFs fx cI cZ u9.1 u9.2.1 tk (bB wb) (lI u9.2.2)))))) (va_A ((wOf o (x 0) (y 0)) ++ ((wFl x r cI cZ cQ w q d T st re rc (nI nz)) ++ ((wSt y rp rw rt cI cQ P n Wi Ti (nI nt)) ++ (wFs fx cI cZ ff fg tk (bB wb) (lI k))))) sz)) 0 0 (va_A ((wOf o (x 0) (y 0)) ++ ((wFl x r cI cZ cQ w q d T st re rc (nI nz)) ++ ((wSt y rp rw rt cI cQ P n Wi Ti (nI nt)) ++ (wFs fx cI cZ ff fg tk (bB wb) (lI k))))) sz)
theorem tk_ex {v : Int32} {t z : Nat} {g : Nat → Nat} (h : v = 0 ↔ ∀ j, j < t → g j ≠ z) (hv : ¬ v = 0) : ∃ j, j < t ∧ g j = z := by
  apply Classical.byContradiction
  intro q
  exact hv (h.mpr fun j hj e => q ⟨j, hj, e⟩)
set_option maxHeartbeats 4000000 in
set_option maxRecDepth 100000 in
/-- all zones for a team, and those behind it -/
theorem s_X2_tryFrom (dp : Nat) (hAt : ∀ dp9, dp = dp9 + 1 → pA dp9) (l : Launch) (D : va_G) (cI cZ cQ cJ : ClassId) (o : Nat) (x : Nat → Nat) (r : Nat → Nat) (w : Nat → Int32) (q : Nat → Int32) (d : Nat → Int32) (T : Nat → Nat → Int32) (st : Nat → Int32) (re : Nat → Int32) (rc : Int32) (nz : Nat) (y : Nat → Nat) (rp : Nat → Nat) (rw : Nat → Nat) (rt : Nat → Nat) (P : Nat → Nat → Int32) (n : Nat → Int32) (Wi : Nat → Nat → Int32) (Ti : Nat → Nat → Int32) (nt : Nat) (fx : Nat → Nat) (ff : Nat → Int32) (fg : Nat → Int32) (tk : Nat → Int32) (wb : Bool) (k : Nat) (wi : Nat → Nat → Nat) (ti : Nat → Nat → Nat) (dd : Nat → Nat → Nat) (g : Nat → Nat) (t : Nat) (cN : Nat) (sz : Nat) (hnt : nt ≤ 7) (hnz : nz ≤ 7) (hwi : rOK 7 7 Wi wi) (hti : rOK 7 7 Ti ti) (hdd : rOK nz nz T dd) (hv : vOK nz wi ti dd) (hdp : t + dp = nt) (hff : pOK t ff g) (hff2 : ∀ u, nt ≤ u → u < 7 → ff u = -1) (hfg2 : ∀ u, nt ≤ u → u < 7 → fg u = -1) (htk1 : ∀ u, u < 7 → tk u = 0 ∨ tk u = 1) (htk2 : ∀ u, u < nz → (tk u = 0 ↔ ∀ j, j < t → g j ≠ u)) (hvp : vP nz (fun t9 z9 => n t9 ≤ d z9) g t) (hcN : cN = pcN wb wi ti dd g t) (hk9 : k ≤ 1000000) (hck : cN < k) : Met l yX2_tryFrom (.code yX2_tryFrom cX2_tryFrom 5 none :: ALL) ({ frames := 2 * dp + 3, cells := 0, slots := 0, locals := 49 * dp + 150 } : Room) (va_Pc [.ref (fx 0), .ref o, .int (nI t), .int (nI cN)] (rw_P D cI cZ cQ cJ ((wOf o (x 0) (y 0)) ++ ((wFl x r cI cZ cQ w q d T st re rc (nI nz)) ++ ((wSt y rp rw rt cI cQ P n Wi Ti (nI nt)) ++ (wFs fx cI cZ ff fg tk (bB wb) (lI k))))) sz)) (va_Qv (fun u9 : (Nat → Int32) × (Nat → Int32) × Nat => (pOK t u9.1 g) ∧ (∀ u, nt ≤ u → u < 7 → u9.1 u = -1) ∧ (∀ u, nt ≤ u → u < 7 → u9.2.1 u = -1) ∧ (SR nt (fun g9 => pcN wb wi ti dd g9 nt) (Cp nz nt (fun t9 z9 => n t9 ≤ d z9) g t) k fg u9.2.2 u9.2.1)) (rw_B D (va_A ((wOf o (x 0) (y 0)) ++ ((wFl x r cI cZ cQ w q d T st re rc (nI nz)) ++ ((wSt y rp rw rt cI cQ P n Wi Ti (nI nt)) ++ (wFs fx cI cZ ff fg tk (bB wb) (lI k))))) sz) (fun u9 : (Nat → Int32) × (Nat → Int32) × Nat => (wOf o (x 0) (y 0)) ++ ((wFl x r cI cZ cQ w q d T st re rc (nI nz)) ++ ((wSt y rp rw rt cI cQ P n Wi Ti (nI nt)) ++ (wFs fx cI cZ u9.1 u9.2.1 tk (bB wb) (lI u9.2.2)))))) (va_A ((wOf o (x 0) (y 0)) ++ ((wFl x r cI cZ cQ w q d T st re rc (nI nz)) ++ ((wSt y rp rw rt cI cQ P n Wi Ti (nI nt)) ++ (wFs fx cI cZ ff fg tk (bB wb) (lI k))))) sz)) 0 0 (va_A ((wOf o (x 0) (y 0)) ++ ((wFl x r cI cZ cQ w q d T st re rc (nI nz)) ++ ((wSt y rp rw rt cI cQ P n Wi Ti (nI nt)) ++ (wFs fx cI cZ ff fg tk (bB wb) (lI k))))) sz) := by
  refine Met.ofW (cc := cX2_tryFrom) (maxL := 5) (ret := none) (by decide) rfl ?_
  intro p e s m args below meth c s₁ B hml hv
  obtain ⟨rfl, hsz, hP, hSt, hD0⟩ := hv
  have hx := B.exec
  have hb := B.bytes
  have hr := B.returns
  have hts : ∀ w ∈ ALL, w.before ([.ref (fx 0), .ref o, .int (nI t), .int (nI cN)] : List Value).toArray s = true := fun w h => atoms_spec (ws := (.code yX2_tryFrom cX2_tryFrom 5 none :: ALL)) B.pre w (List.mem_cons_of_mem _ h)
  have hown : s.vm.findClass RX2 = some m.cls := findClass_of_methodNamed B.named
  have hlocks := B.notSynchronized
  subst hsz
  have hD := hD0.self (sz := s.heap.size)
  clear hD0
  generalize hAe : va_A ((wOf o (x 0) (y 0)) ++ ((wFl x r cI cZ cQ w q d T st re rc (nI nz)) ++ ((wSt y rp rw rt cI cQ P n Wi Ti (nI nt)) ++ (wFs fx cI cZ ff fg tk (bB wb) (lI k))))) s.heap.size = A at hD ⊢
  have hA : ∀ q : Nat, s.heap.size ≤ q → A q := fun q h => by rw [← hAe]; exact Or.inr h
  have hS : va_S A s.heap s.heap [] := va_S.rf
  have hl := lv_entry ([.ref (fx 0), .ref o, .int (nI t), .int (nI cN)]) (n := 5) (Nat.le_of_ble_eq_true rfl)
  rw [lg_entry_eq]
  generalize (lg_sl ([.ref (fx 0), .ref o, .int (nI t), .int (nI cN)]) ++ List.replicate (5 - (lg_sl ([.ref (fx 0), .ref o, .int (nI t), .int (nI cN)])).length) Slot.unset).toArray = ls at hl ⊢
  have hl : lv_has ls 5 [(0, .ref (fx 0)), (1, .ref o), (2, .int (nI t)), (3, .int (nI cN))] := hl
  obtain ⟨H, hHe⟩ : ∃ H : Heap, H = s.heap := ⟨_, rfl⟩
  obtain ⟨locs, hLe⟩ : ∃ L : List Loc, L = [] := ⟨_, rfl⟩
  have hP : va_P D vwCl ((wOf o (x 0) (y 0)) ++ ((wFl x r cI cZ cQ w q d T st re rc (nI nz)) ++ ((wSt y rp rw rt cI cQ P n Wi Ti (nI nt)) ++ (wFs fx cI cZ ff fg tk (bB wb) (lI k))))) H := by rw [hHe]; exact hP
  have hS : va_S A s.heap H locs := by rw [hHe, hLe]; exact hS
  refine W.eqHL hHe hLe ?_
  refine lv_iload_n hx hb dX2_tryFrom_0 rfl (lv_at hl 2 rfl) ?_
  refine lv_aload_n hx hb dX2_tryFrom_1 rfl (lv_at hl 1 rfl) ?_
  refine va_getN (D := D) (ci := 3) (v := .ref (y 0)) (C := RX3) (T := TX3) (N := 2) hx hb hts tu_X3 hown hSt.1 hP 0 rfl rfl 1 (by decide) (nf_11 hSt.2) (fun _ h9 => h9) rfl dX2_tryFrom_2 ?_
  refine va_getN (D := D) (ci := 5) (v := .int (nI nt)) (C := RX5) (T := TX5) (N := 5) hx hb hts tu_X5 hown hSt.1 hP 15 rfl rfl 4 (by decide) (nf_12 hSt.2) (fun _ h9 => h9) rfl dX2_tryFrom_5 ?_
  refine lv_icmp_lt (tgt := 28) hx hb dX2_tryFrom_8 (by decide) (fun c_1 => ?_) (fun c_1 => ?_)
  · have c_1 := z_lt (by omega) (by omega) c_1
    refine lv_iconst (v := nI 0) hx hb dX2_tryFrom_28 (by decide) ?_
    refine lv_istore (lv' := [(4, .int (nI 0)), (0, .ref (fx 0)), (1, .ref o), (2, .int (nI t)), (3, .int (nI cN))]) hx hb dX2_tryFrom_29 hl (by decide) rfl (fun ls hl => ?_)
    have L31 : ∀ (n9 : Nat) (z : Nat) (f1 : Nat → Int32) (b1 : Nat → Int32) (k1 : Nat), (z ≤ nz) → (pOK t f1 g) → (∀ u, nt ≤ u → u < 7 → f1 u = -1) → (∀ u, nt ≤ u → u < 7 → b1 u = -1) → (SR nt (fun g9 => pcN wb wi ti dd g9 nt) (Cz nz nt (fun t9 z9 => n t9 ≤ d z9) g t z) k fg k1 b1) → (nz - z) < n9 → ∀ (H : Heap) (locs : List Loc), va_P D vwCl ((wOf o (x 0) (y 0)) ++ ((wFl x r cI cZ cQ w q d T st re rc (nI nz)) ++ ((wSt y rp rw rt cI cQ P n Wi Ti (nI nt)) ++ (wFs fx cI cZ f1 b1 tk (bB wb) (lI k1))))) H → va_D A ((wOf o (x 0) (y 0)) ++ ((wFl x r cI cZ cQ w q d T st re rc (nI nz)) ++ ((wSt y rp rw rt cI cQ P n Wi Ti (nI nt)) ++ (wFs fx cI cZ f1 b1 tk (bB wb) (lI k1))))) → va_S A s.heap H locs → ∀ (ls : Array Slot), lv_has ls 5 [(0, .ref (fx 0)), (1, .ref o), (2, .int (nI t)), (3, .int (nI cN)), (4, .int (nI z))] → W p l e ({ frames := 2 * dp + 3, cells := 0, slots := 0, locals := 49 * dp + 150 } : Room) s m ([.ref (fx 0), .ref o, .int (nI t), .int (nI cN)] : List Value).toArray below meth c H locs 0 0 (MQ below (va_Qv (fun u9 : (Nat → Int32) × (Nat → Int32) × Nat => (pOK t u9.1 g) ∧ (∀ u, nt ≤ u → u < 7 → u9.1 u = -1) ∧ (∀ u, nt ≤ u → u < 7 → u9.2.1 u = -1) ∧ (SR nt (fun g9 => pcN wb wi ti dd g9 nt) (Cp nz nt (fun t9 z9 => n t9 ≤ d z9) g t) k fg u9.2.2 u9.2.1)) (rw_B D A (fun u9 : (Nat → Int32) × (Nat → Int32) × Nat => (wOf o (x 0) (y 0)) ++ ((wFl x r cI cZ cQ w q d T st re rc (nI nz)) ++ ((wSt y rp rw rt cI cQ P n Wi Ti (nI nt)) ++ (wFs fx cI cZ u9.1 u9.2.1 tk (bB wb) (lI u9.2.2)))))) A) ([.ref (fx 0), .ref o, .int (nI t), .int (nI cN)] : List Value).toArray s 0 0 A) (F0 m 31 ls []) := by
      intro n9
      induction n9 with
      | zero =>
        intro z f1 b1 k1 hz hf1 hf12 hb12 hS1 hm
        exact absurd hm (by omega)
      | succ n9 ih =>
        intro z f1 b1 k1 hz hf1 hf12 hb12 hS1 hm H locs hP hD hS ls hl
        have ih_L31 := ih
        refine lv_iload hx hb dX2_tryFrom_31 (lv_at hl 4 rfl) ?_
        refine lv_aload_n hx hb dX2_tryFrom_33 rfl (lv_at hl 1 rfl) ?_
        refine va_getN (D := D) (ci := 3) (v := .ref (x 0)) (C := RX3) (T := TX3) (N := 2) hx hb hts tu_X3 hown hSt.1 hP 0 rfl rfl 0 (by decide) (nf_13 hSt.2) (fun _ h9 => h9) rfl dX2_tryFrom_34 ?_
        refine va_getN (D := D) (ci := 1) (v := .int (nI nz)) (C := RX1) (T := TX1) (N := 8) hx hb hts tu_X1 hown hSt.1 hP 1 rfl rfl 7 (by decide) (nf_14 hSt.2) (fun _ h9 => h9) rfl dX2_tryFrom_37 ?_
        refine lv_icmp_ge (tgt := 78) hx hb dX2_tryFrom_40 (by decide) (fun c_2 => ?_) (fun c_2 => ?_)
        · have c_2 := z_le (by omega) (by omega) c_2
          have hP9 : va_P D vwCl ((wOf o (x 0) (y 0)) ++ ((wFl x r cI cZ cQ w q d T st re rc (nI nz)) ++ ((wSt y rp rw rt cI cQ P n Wi Ti (nI nt)) ++ (wFs fx cI cZ f1 b1 tk (bB wb) (lI k1))))) H := hP
          have hD9 : va_D A ((wOf o (x 0) (y 0)) ++ ((wFl x r cI cZ cQ w q d T st re rc (nI nz)) ++ ((wSt y rp rw rt cI cQ P n Wi Ti (nI nt)) ++ (wFs fx cI cZ f1 b1 tk (bB wb) (lI k1))))) := hD
          have g_3 : pOK t f1 g := hf1
          have g_4 : ∀ u, nt ≤ u → u < 7 → f1 u = -1 := hf12
          have g_5 : ∀ u, nt ≤ u → u < 7 → b1 u = -1 := hb12
          have g_6 : SR nt (fun g9 => pcN wb wi ti dd g9 nt) (Cp nz nt (fun t9 z9 => n t9 ≤ d z9) g t) k fg k1 b1 := SR_end hS1 (by omega) (by omega)
          exact W.vret hx hb hr (fun t9 ht9 hW9 => ⟨⟨(f1, b1, k1), rfl, ⟨g_3, g_4, g_5, g_6⟩, by rw [ht9]; exact hP9, hD9⟩, hS.F ht9⟩) hS.2.2 dX2_tryFrom_78
        · have c_2 := z_nle (by omega) (by omega) c_2
          refine lv_aload_n hx hb dX2_tryFrom_43 rfl (lv_at hl 0 rfl) ?_
          refine va_get (D := D) (ci := 2) (v := .ref (fx 5)) (C := RX2) (T := TX2) (N := 5) hx hb hts tu_X2 hown hSt.1 hP 41 rfl rfl 2 (by decide) (hts _ t1_145) (fun _ h9 => h9) rfl dX2_tryFrom_44 ?_
          refine lv_iload hx hb dX2_tryFrom_47 (lv_at hl 4 rfl) ?_
          refine r_zald hx hb hSt.1 hP 46 1 rfl rfl (k := z) (by omega) (by omega) dX2_tryFrom_49 ?_
          refine lv_if_ne (tgt := 72) hx hb dX2_tryFrom_50 (by decide) (fun c_7 => ?_) (fun c_7 => ?_)
          · refine lv_iinc (v := nI (z + 1)) (lv' := [(4, .int (nI (z + 1))), (0, .ref (fx 0)), (1, .ref o), (2, .int (nI t)), (3, .int (nI cN))]) hx hb dX2_tryFrom_72 hl (k := 4) rfl (z_inc _) (by decide) rfl (fun ls hl => ?_)
            refine lv_goto (tgt := 31) hx hb dX2_tryFrom_75 (by decide) ?_
            exact ih_L31 (z + 1) f1 b1 k1 (by omega) hf1 hf12 hb12 (SR_skip hS1 (by omega) (Or.inl (tk_ex (htk2 z (by omega)) c_7))) (by omega) _ _ hP hD hS _ (lv_sub hl [1, 2, 3, 4, 0] rfl)
          · refine lv_aload_n hx hb dX2_tryFrom_53 rfl (lv_at hl 1 rfl) ?_
            refine lv_iload_n hx hb dX2_tryFrom_54 rfl (lv_at hl 2 rfl) ?_
            refine lv_iload hx hb dX2_tryFrom_55 (lv_at hl 4 rfl) ?_
            refine ro_V (As := [.int (nI t), .int (nI z)]) (rest := []) (v := bI (n t ≤ d z)) ⟨hx, hb, hml, hown, hts⟩ (c_X3_fits l D cI cZ cQ cJ o x r w q d T st re rc (nI nz) y rp rw rt P n Wi Ti (nI nt) t z (by first | assumption | omega) (by first | assumption | omega)) (gV t2_20 t2_21 t2_22 t1_2 t2_23) rfl rfl hd_X3_fits ⟨(by omega : 0 + 1 ≤ 2 * dp + 3), (by omega : 8 + (3 + 11) + 0 ≤ 49 * dp + 150)⟩ (hP.sub (ws' := (wOf o (x 0) (y 0)) ++ ((wFl x r cI cZ cQ w q d T st re rc (nI nz)) ++ (wSt y rp rw rt cI cQ P n Wi Ti (nI nt)))) [0, 1, 2, 3, 4, 5, 6, 7, 8, 9, 10, 11, 12, 13, 14, 15, 16, 17, 18, 19, 20, 21, 22, 23, 24, 25, 26, 27, 28, 29, 30, 31, 32, 33, 34, 35, 36, 37, 38, 39, 40] rfl) hSt (va_recv hSt.1 hP (ci := 3) (q0 := 0) rfl rfl) rfl hl.1 rfl (Nat.le_of_ble_eq_true rfl) dX2_tryFrom_57 (Nat.zero_le _) (Nat.zero_le _) ?_
            refine lv_if_eq (tgt := 72) hx hb dX2_tryFrom_60 (by decide) (fun c_8 => ?_) (fun c_8 => ?_)
            · have c_8 := bI_0.mp c_8
              refine lv_iinc (v := nI (z + 1)) (lv' := [(4, .int (nI (z + 1))), (0, .ref (fx 0)), (1, .ref o), (2, .int (nI t)), (3, .int (nI cN))]) hx hb dX2_tryFrom_72 hl (k := 4) rfl (z_inc _) (by decide) rfl (fun ls hl => ?_)
              refine lv_goto (tgt := 31) hx hb dX2_tryFrom_75 (by decide) ?_
              exact ih_L31 (z + 1) f1 b1 k1 (by omega) hf1 hf12 hb12 (SR_skip hS1 (by omega) (Or.inr c_8)) (by omega) _ _ hP hD hS _ (lv_sub hl [1, 2, 3, 4, 0] rfl)
            · have c_8 := bI_n0.mp c_8
              obtain ⟨dp9, e9⟩ : ∃ dp9, dp = dp9 + 1 := ⟨dp - 1, by omega⟩
              have hfr := (htk2 z (by omega)).mp c_7
              refine lv_aload_n hx hb dX2_tryFrom_63 rfl (lv_at hl 0 rfl) ?_
              refine lv_aload_n hx hb dX2_tryFrom_64 rfl (lv_at hl 1 rfl) ?_
              refine lv_iload_n hx hb dX2_tryFrom_65 rfl (lv_at hl 2 rfl) ?_
              refine lv_iload hx hb dX2_tryFrom_66 (lv_at hl 4 rfl) ?_
              refine lv_iload_n hx hb dX2_tryFrom_68 rfl (lv_at hl 3 rfl) ?_
              refine rw_v (wr := ([] : va_W)) (w_V (As := [.ref o, .int (nI t), .int (nI z), .int (nI cN)]) ⟨hx, hb, hml, hown, hts⟩ ((hAt dp9 e9) l D cI cZ cQ cJ o x r w q d T st re rc nz y rp rw rt P n Wi Ti nt fx f1 b1 tk wb k1 wi ti dd g t z cN H.size (by first | assumption | omega) (by first | assumption | omega) (by first | assumption | omega) (by first | assumption | omega) (by first | assumption | omega) (by first | assumption | omega) (by omega) hf1 hf12 hb12 (by first | assumption | omega) (by first | assumption | omega) (by first | assumption | omega) (by first | assumption | omega) (by have := SR_le hS1; omega) (by first | assumption | omega) (by first | assumption | omega) c_8) (gV t2_24 t2_26 t0_1 t1_7 t2_27) rfl rfl hd_X2_tryAt ⟨(by omega : (2 * dp9 + 4) + 1 ≤ 2 * dp + 3), (by omega : 8 + (6 + 11) + (49 * dp9 + 174) ≤ 49 * dp + 150)⟩ (rw_pre hP hD hSt [0, 1, 2, 3, 4, 5, 6, 7, 8, 9, 10, 11, 12, 13, 14, 15, 16, 17, 18, 19, 20, 21, 22, 23, 24, 25, 26, 27, 28, 29, 30, 31, 32, 33, 34, 35, 36, 37, 38, 39, 40, 41, 42, 43, 44, 45, 46] rfl (by decide)) (va_recv hSt.1 hP (ci := 2) (q0 := 41) rfl rfl) rfl hl.1 (rest := []) rfl (Nat.le_of_ble_eq_true rfl) dX2_tryFrom_69 ⟨Nat.le_of_ble_eq_true rfl, Nat.le_of_ble_eq_true rfl⟩) hP hD hS hA [0, 1, 2, 3, 4, 5, 6, 7, 8, 9, 10, 11, 12, 13, 14, 15, 16, 17, 18, 19, 20, 21, 22, 23, 24, 25, 26, 27, 28, 29, 30, 31, 32, 33, 34, 35, 36, 37, 38, 39, 40, 41, 42, 43, 44, 45, 46] [] rfl rfl (by decide) (by decide) (fun  u_12 H locs hw9 hP hD hS => ?_)
              obtain ⟨j_9, j_10, j_11⟩ := u_12
              obtain ⟨f_13, f_14, f_15, f_16⟩ := hw9
              have hff : pOK t j_9 g := f_13
              have hff2 : ∀ u, nt ≤ u → u < 7 → j_9 u = -1 := f_14
              have hfg2 : ∀ u, nt ≤ u → u < 7 → j_10 u = -1 := f_15
              have hSR : SR nt (fun g9 => pcN wb wi ti dd g9 nt) (Cp nz nt (fun t9 z9 => n t9 ≤ d z9) (updN g t z) (t + 1)) k1 b1 j_11 j_10 := f_16
              have hP : va_P D vwCl ((wOf o (x 0) (y 0)) ++ ((wFl x r cI cZ cQ w q d T st re rc (nI nz)) ++ ((wSt y rp rw rt cI cQ P n Wi Ti (nI nt)) ++ (wFs fx cI cZ j_9 j_10 tk (bB wb) (lI j_11))))) H := hP
              have hD : va_D A ((wOf o (x 0) (y 0)) ++ ((wFl x r cI cZ cQ w q d T st re rc (nI nz)) ++ ((wSt y rp rw rt cI cQ P n Wi Ti (nI nt)) ++ (wFs fx cI cZ j_9 j_10 tk (bB wb) (lI j_11))))) := hD
              refine lv_iinc (v := nI (z + 1)) (lv' := [(4, .int (nI (z + 1))), (0, .ref (fx 0)), (1, .ref o), (2, .int (nI t)), (3, .int (nI cN))]) hx hb dX2_tryFrom_72 hl (k := 4) rfl (z_inc _) (by decide) rfl (fun ls hl => ?_)
              refine lv_goto (tgt := 31) hx hb dX2_tryFrom_75 (by decide) ?_
              exact ih_L31 (z + 1) j_9 j_10 j_11 (by omega) hff hff2 hfg2 (SR_step hS1 hSR (by omega)) (by omega) _ _ hP hD hS _ (lv_sub hl [1, 2, 3, 4, 0] rfl)
    exact L31 _ 0 ff fg k (by omega) hff hff2 hfg2 SR_0 (Nat.lt_succ_self _) _ _ hP hD hS _ (lv_sub hl [1, 2, 3, 4, 0] rfl)
  · have c_1 := z_nlt (by omega) (by omega) c_1
    refine lv_aload_n hx hb dX2_tryFrom_11 rfl (lv_at hl 0 rfl) ?_
    refine lv_iload_n hx hb dX2_tryFrom_12 rfl (lv_at hl 3 rfl) ?_
    refine va_put (D := D) (ci := 2) (v := .int (nI cN)) (ty := .int) (C := RX2) (T := TX2) (N := 5) hx hb hts tu_X2 tyX2 tyX2_ok nmX2 hown hSt.1 hP hD hS 41 rfl rfl 4 (by decide) (hts _ t1_147) (fun _ h9 => h9) rfl (by decide +kernel) rfl rfl (Nat.le_of_ble_eq_true rfl) dX2_tryFrom_13 (fun H locs hP hD hS => ?_)
    have hP : va_P D vwCl ((wOf o (x 0) (y 0)) ++ ((wFl x r cI cZ cQ w q d T st re rc (nI nz)) ++ ((wSt y rp rw rt cI cQ P n Wi Ti (nI nt)) ++ (wFs fx cI cZ ff fg tk (bB wb) (nI cN))))) H := hP
    have hD : va_D A ((wOf o (x 0) (y 0)) ++ ((wFl x r cI cZ cQ w q d T st re rc (nI nz)) ++ ((wSt y rp rw rt cI cQ P n Wi Ti (nI nt)) ++ (wFs fx cI cZ ff fg tk (bB wb) (nI cN))))) := hD
    refine lv_aload_n hx hb dX2_tryFrom_16 rfl (lv_at hl 0 rfl) ?_
    refine va_get (D := D) (ci := 2) (v := .ref (fx 3)) (C := RX2) (T := TX2) (N := 5) hx hb hts tu_X2 hown hSt.1 hP 41 rfl rfl 1 (by decide) (hts _ t1_143) (fun _ h9 => h9) rfl dX2_tryFrom_17 ?_
    refine lv_aload_n hx hb dX2_tryFrom_20 rfl (lv_at hl 0 rfl) ?_
    refine va_get (D := D) (ci := 2) (v := .ref (fx 1)) (C := RX2) (T := TX2) (N := 5) hx hb hts tu_X2 hown hSt.1 hP 41 rfl rfl 0 (by decide) (hts _ t1_142) (fun _ h9 => h9) rfl dX2_tryFrom_21 ?_
    refine rw_v (wr := (([(o, .inr (3, [.ref (x 0), .ref (y 0)])), ((x 0), .inr (1, [.ref (x 1), .ref (x 2), .ref (x 3), .ref (x 4), .ref (x 5), .ref (x 6), .int rc, .int (nI nz)])), ((x 1), .inl (cZ, 64, .inl w)), ((x 2), .inl (cI, 7, .inl q)), ((x 3), .inl (cI, 7, .inl d)), rq (x 4) cQ r, ((x 5), .inl (cI, 64, .inl st)), ((x 6), .inl (cI, 64, .inl re))] : va_W) ++ ((rb r cI 7 T 7) ++ (([((y 0), .inr (5, [.ref (y 1), .ref (y 2), .ref (y 3), .ref (y 4), .int (nI nt)])), rq (y 1) cQ rp, ((y 2), .inl (cI, 7, .inl n)), rq (y 3) cQ rw, rq (y 4) cQ rt] : va_W) ++ ((rb rp cI 5 P 7) ++ ((rb rw cI 7 Wi 7) ++ ((rb rt cI 7 Ti 7) ++ ([((fx 0), .inr (2, [.ref (fx 1), .ref (fx 3), .ref (fx 5), .int (bB wb), .int (nI cN)])), ((fx 5), .inl (cZ, 7, .inl tk))] : va_W)))))))) (w_V (As := [.ref (fx 1)]) ⟨hx, hb, hml, hown, hts⟩ (c_X4_layLike l D cI cZ cQ cJ (fx 3) (fx 4) fg (fx 1) (fx 2) ff H.size) (gV t2_19 t1_229 t1_230 t1_5 t1_231) rfl rfl hd_X4_layLike ⟨(by omega : 1 + 1 ≤ 2 * dp + 3), (by omega : 8 + (2 + 11) + 60 ≤ 49 * dp + 150)⟩ (rw_pre hP hD hSt [44, 45, 42, 43] rfl (by decide)) (va_recv hSt.1 hP (ci := 4) (q0 := 44) rfl rfl) rfl hl.1 (rest := []) rfl (Nat.le_of_ble_eq_true rfl) dX2_tryFrom_24 ⟨Nat.le_of_ble_eq_true rfl, Nat.le_of_ble_eq_true rfl⟩) hP hD hS hA [44, 45, 42, 43] [0, 1, 2, 3, 4, 5, 6, 7, 8, 9, 10, 11, 12, 13, 14, 15, 16, 17, 18, 19, 20, 21, 22, 23, 24, 25, 26, 27, 28, 29, 30, 31, 32, 33, 34, 35, 36, 37, 38, 39, 40, 41, 46] rfl rfl (by decide) (by decide) (fun  u_17 H locs hw9 hP hD hS => ?_)
    have hP : va_P D vwCl ((wOf o (x 0) (y 0)) ++ ((wFl x r cI cZ cQ w q d T st re rc (nI nz)) ++ ((wSt y rp rw rt cI cQ P n Wi Ti (nI nt)) ++ (wFs fx cI cZ ff ff tk (bB wb) (nI cN))))) H := hP.sub (ws' := (wOf o (x 0) (y 0)) ++ ((wFl x r cI cZ cQ w q d T st re rc (nI nz)) ++ ((wSt y rp rw rt cI cQ P n Wi Ti (nI nt)) ++ (wFs fx cI cZ ff ff tk (bB wb) (nI cN))))) [0, 1, 2, 3, 4, 5, 6, 7, 8, 9, 10, 11, 12, 13, 14, 15, 16, 17, 18, 19, 20, 21, 22, 23, 24, 25, 26, 27, 28, 29, 30, 31, 32, 33, 34, 35, 36, 37, 38, 39, 40, 41, 45, 46, 43, 44, 42] rfl
    have hD : va_D A ((wOf o (x 0) (y 0)) ++ ((wFl x r cI cZ cQ w q d T st re rc (nI nz)) ++ ((wSt y rp rw rt cI cQ P n Wi Ti (nI nt)) ++ (wFs fx cI cZ ff ff tk (bB wb) (nI cN))))) := hD.sub (ws' := (wOf o (x 0) (y 0)) ++ ((wFl x r cI cZ cQ w q d T st re rc (nI nz)) ++ ((wSt y rp rw rt cI cQ P n Wi Ti (nI nt)) ++ (wFs fx cI cZ ff ff tk (bB wb) (nI cN))))) [0, 1, 2, 3, 4, 5, 6, 7, 8, 9, 10, 11, 12, 13, 14, 15, 16, 17, 18, 19, 20, 21, 22, 23, 24, 25, 26, 27, 28, 29, 30, 31, 32, 33, 34, 35, 36, 37, 38, 39, 40, 41, 45, 46, 43, 44, 42] (by decide) rfl
    have hP9 : va_P D vwCl ((wOf o (x 0) (y 0)) ++ ((wFl x r cI cZ cQ w q d T st re rc (nI nz)) ++ ((wSt y rp rw rt cI cQ P n Wi Ti (nI nt)) ++ (wFs fx cI cZ ff ff tk (bB wb) (lI cN))))) H := by rw [lI_lt (show cN < 1000000 by omega)]; exact hP
    have hD9 : va_D A ((wOf o (x 0) (y 0)) ++ ((wFl x r cI cZ cQ w q d T st re rc (nI nz)) ++ ((wSt y rp rw rt cI cQ P n Wi Ti (nI nt)) ++ (wFs fx cI cZ ff ff tk (bB wb) (lI cN))))) := by rw [lI_lt (show cN < 1000000 by omega)]; exact hD
    have g_18 : pOK t ff g := hff
    have g_19 : ∀ u, nt ≤ u → u < 7 → ff u = -1 := hff2
    have g_20 : ∀ u, nt ≤ u → u < 7 → ff u = -1 := hff2
    have g_21 : SR nt (fun g9 => pcN wb wi ti dd g9 nt) (Cp nz nt (fun t9 z9 => n t9 ≤ d z9) g t) k fg cN ff := by have e9 : nt = t := (by omega); subst e9; rw [hcN]; exact SR_leaf (fun g h e => pcN_congr e) hvp (by rw [← hcN]; exact hck) hff
    exact W.vret hx hb hr (fun t9 ht9 hW9 => ⟨⟨(ff, ff, cN), rfl, ⟨g_18, g_19, g_20, g_21⟩, by rw [ht9]; exact hP9, hD9⟩, hS.F ht9⟩) hS.2.2 dX2_tryFrom_27
set_option maxHeartbeats 4000000 in
set_option maxRecDepth 100000 in
/-- a team at a zone, and those behind it -/
theorem s_X2_tryAt (dp : Nat) (hFrom : pF dp) (l : Launch) (D : va_G) (cI cZ cQ cJ : ClassId) (o : Nat) (x : Nat → Nat) (r : Nat → Nat) (w : Nat → Int32) (q : Nat → Int32) (d : Nat → Int32) (T : Nat → Nat → Int32) (st : Nat → Int32) (re : Nat → Int32) (rc : Int32) (nz : Nat) (y : Nat → Nat) (rp : Nat → Nat) (rw : Nat → Nat) (rt : Nat → Nat) (P : Nat → Nat → Int32) (n : Nat → Int32) (Wi : Nat → Nat → Int32) (Ti : Nat → Nat → Int32) (nt : Nat) (fx : Nat → Nat) (ff : Nat → Int32) (fg : Nat → Int32) (tk : Nat → Int32) (wb : Bool) (k : Nat) (wi : Nat → Nat → Nat) (ti : Nat → Nat → Nat) (dd : Nat → Nat → Nat) (g : Nat → Nat) (t : Nat) (z : Nat) (cN : Nat) (sz : Nat) (hnt : nt ≤ 7) (hnz : nz ≤ 7) (hwi : rOK 7 7 Wi wi) (hti : rOK 7 7 Ti ti) (hdd : rOK nz nz T dd) (hv : vOK nz wi ti dd) (hdp : t + (dp + 1) = nt) (hff : pOK t ff g) (hff2 : ∀ u, nt ≤ u → u < 7 → ff u = -1) (hfg2 : ∀ u, nt ≤ u → u < 7 → fg u = -1) (htk1 : ∀ u, u < 7 → tk u = 0 ∨ tk u = 1) (htk2 : ∀ u, u < nz → (tk u = 0 ↔ ∀ j, j < t → g j ≠ u)) (hvp : vP nz (fun t9 z9 => n t9 ≤ d z9) g t) (hcN : cN = pcN wb wi ti dd g t) (hk9 : k ≤ 1000000) (hz : z < nz) (hfr : ∀ j, j < t → g j ≠ z) (hft : n t ≤ d z) : Met l yX2_tryAt (.code yX2_tryAt cX2_tryAt 6 none :: ALL) ({ frames := 2 * dp + 4, cells := 0, slots := 0, locals := 49 * dp + 174 } : Room) (va_Pc [.ref (fx 0), .ref o, .int (nI t), .int (nI z), .int (nI cN)] (rw_P D cI cZ cQ cJ ((wOf o (x 0) (y 0)) ++ ((wFl x r cI cZ cQ w q d T st re rc (nI nz)) ++ ((wSt y rp rw rt cI cQ P n Wi Ti (nI nt)) ++ (wFs fx cI cZ ff fg tk (bB wb) (lI k))))) sz)) (va_Qv (fun u9 : (Nat → Int32) × (Nat → Int32) × Nat => (pOK t u9.1 g) ∧ (∀ u, nt ≤ u → u < 7 → u9.1 u = -1) ∧ (∀ u, nt ≤ u → u < 7 → u9.2.1 u = -1) ∧ (SR nt (fun g9 => pcN wb wi ti dd g9 nt) (Cp nz nt (fun t9 z9 => n t9 ≤ d z9) (updN g t z) (t + 1)) k fg u9.2.2 u9.2.1)) (rw_B D (va_A ((wOf o (x 0) (y 0)) ++ ((wFl x r cI cZ cQ w q d T st re rc (nI nz)) ++ ((wSt y rp rw rt cI cQ P n Wi Ti (nI nt)) ++ (wFs fx cI cZ ff fg tk (bB wb) (lI k))))) sz) (fun u9 : (Nat → Int32) × (Nat → Int32) × Nat => (wOf o (x 0) (y 0)) ++ ((wFl x r cI cZ cQ w q d T st re rc (nI nz)) ++ ((wSt y rp rw rt cI cQ P n Wi Ti (nI nt)) ++ (wFs fx cI cZ u9.1 u9.2.1 tk (bB wb) (lI u9.2.2)))))) (va_A ((wOf o (x 0) (y 0)) ++ ((wFl x r cI cZ cQ w q d T st re rc (nI nz)) ++ ((wSt y rp rw rt cI cQ P n Wi Ti (nI nt)) ++ (wFs fx cI cZ ff fg tk (bB wb) (lI k))))) sz)) 0 0 (va_A ((wOf o (x 0) (y 0)) ++ ((wFl x r cI cZ cQ w q d T st re rc (nI nz)) ++ ((wSt y rp rw rt cI cQ P n Wi Ti (nI nt)) ++ (wFs fx cI cZ ff fg tk (bB wb) (lI k))))) sz) := by
  refine Met.ofW (cc := cX2_tryAt) (maxL := 6) (ret := none) (by decide) rfl ?_
  intro p e s m args below meth c s₁ B hml hv
  obtain ⟨rfl, hsz, hP, hSt, hD0⟩ := hv
  have hx := B.exec
  have hb := B.bytes
  have hr := B.returns
  have hts : ∀ w ∈ ALL, w.before ([.ref (fx 0), .ref o, .int (nI t), .int (nI z), .int (nI cN)] : List Value).toArray s = true := fun w h => atoms_spec (ws := (.code yX2_tryAt cX2_tryAt 6 none :: ALL)) B.pre w (List.mem_cons_of_mem _ h)
  have hown : s.vm.findClass RX2 = some m.cls := findClass_of_methodNamed B.named
  have hlocks := B.notSynchronized
  subst hsz
  have hD := hD0.self (sz := s.heap.size)
  clear hD0
  generalize hAe : va_A ((wOf o (x 0) (y 0)) ++ ((wFl x r cI cZ cQ w q d T st re rc (nI nz)) ++ ((wSt y rp rw rt cI cQ P n Wi Ti (nI nt)) ++ (wFs fx cI cZ ff fg tk (bB wb) (lI k))))) s.heap.size = A at hD ⊢
  have hA : ∀ q : Nat, s.heap.size ≤ q → A q := fun q h => by rw [← hAe]; exact Or.inr h
  have hS : va_S A s.heap s.heap [] := va_S.rf
  have hl := lv_entry ([.ref (fx 0), .ref o, .int (nI t), .int (nI z), .int (nI cN)]) (n := 6) (Nat.le_of_ble_eq_true rfl)
  rw [lg_entry_eq]
  generalize (lg_sl ([.ref (fx 0), .ref o, .int (nI t), .int (nI z), .int (nI cN)]) ++ List.replicate (6 - (lg_sl ([.ref (fx 0), .ref o, .int (nI t), .int (nI z), .int (nI cN)])).length) Slot.unset).toArray = ls at hl ⊢
  have hl : lv_has ls 6 [(0, .ref (fx 0)), (1, .ref o), (2, .int (nI t)), (3, .int (nI z)), (4, .int (nI cN))] := hl
  obtain ⟨H, hHe⟩ : ∃ H : Heap, H = s.heap := ⟨_, rfl⟩
  obtain ⟨locs, hLe⟩ : ∃ L : List Loc, L = [] := ⟨_, rfl⟩
  have hP : va_P D vwCl ((wOf o (x 0) (y 0)) ++ ((wFl x r cI cZ cQ w q d T st re rc (nI nz)) ++ ((wSt y rp rw rt cI cQ P n Wi Ti (nI nt)) ++ (wFs fx cI cZ ff fg tk (bB wb) (lI k))))) H := by rw [hHe]; exact hP
  have hS : va_S A s.heap H locs := by rw [hHe, hLe]; exact hS
  refine W.eqHL hHe hLe ?_
  refine lv_aload_n hx hb dX2_tryAt_0 rfl (lv_at hl 0 rfl) ?_
  refine va_get (D := D) (ci := 2) (v := .ref (fx 1)) (C := RX2) (T := TX2) (N := 5) hx hb hts tu_X2 hown hSt.1 hP 41 rfl rfl 0 (by decide) (hts _ t1_142) (fun _ h9 => h9) rfl dX2_tryAt_1 ?_
  refine lv_iload_n hx hb dX2_tryAt_4 rfl (lv_at hl 2 rfl) ?_
  refine lv_iload_n hx hb dX2_tryAt_5 rfl (lv_at hl 3 rfl) ?_
  refine rw_v (wr := (([(o, .inr (3, [.ref (x 0), .ref (y 0)])), ((x 0), .inr (1, [.ref (x 1), .ref (x 2), .ref (x 3), .ref (x 4), .ref (x 5), .ref (x 6), .int rc, .int (nI nz)])), ((x 1), .inl (cZ, 64, .inl w)), ((x 2), .inl (cI, 7, .inl q)), ((x 3), .inl (cI, 7, .inl d)), rq (x 4) cQ r, ((x 5), .inl (cI, 64, .inl st)), ((x 6), .inl (cI, 64, .inl re))] : va_W) ++ ((rb r cI 7 T 7) ++ (([((y 0), .inr (5, [.ref (y 1), .ref (y 2), .ref (y 3), .ref (y 4), .int (nI nt)])), rq (y 1) cQ rp, ((y 2), .inl (cI, 7, .inl n)), rq (y 3) cQ rw, rq (y 4) cQ rt] : va_W) ++ ((rb rp cI 5 P 7) ++ ((rb rw cI 7 Wi 7) ++ ((rb rt cI 7 Ti 7) ++ ([((fx 0), .inr (2, [.ref (fx 1), .ref (fx 3), .ref (fx 5), .int (bB wb), .int (lI k)])), ((fx 3), .inr (4, [.ref (fx 4)])), ((fx 4), .inl (cI, 7, .inl fg)), ((fx 5), .inl (cZ, 7, .inl tk))] : va_W)))))))) (w_V (As := [.int (nI t), .int (nI z)]) ⟨hx, hb, hml, hown, hts⟩ (c_X4_lay l D cI cZ cQ cJ (fx 1) (fx 2) ff t (nI z) H.size (by first | assumption | omega)) (gV t2_28 t2_29 t2_30 t1_5 t2_31) rfl rfl hd_X4_lay ⟨(by omega : 0 + 1 ≤ 2 * dp + 4), (by omega : 8 + (3 + 11) + 0 ≤ 49 * dp + 174)⟩ (rw_pre hP hD hSt [42, 43] rfl (by decide)) (va_recv hSt.1 hP (ci := 4) (q0 := 42) rfl rfl) rfl hl.1 (rest := []) rfl (Nat.le_of_ble_eq_true rfl) dX2_tryAt_6 ⟨Nat.le_of_ble_eq_true rfl, Nat.le_of_ble_eq_true rfl⟩) hP hD hS hA [42, 43] [0, 1, 2, 3, 4, 5, 6, 7, 8, 9, 10, 11, 12, 13, 14, 15, 16, 17, 18, 19, 20, 21, 22, 23, 24, 25, 26, 27, 28, 29, 30, 31, 32, 33, 34, 35, 36, 37, 38, 39, 40, 41, 44, 45, 46] rfl rfl (by decide) (by decide) (fun  u_1 H locs hw9 hP hD hS => ?_)
  have hP : va_P D vwCl ((wOf o (x 0) (y 0)) ++ ((wFl x r cI cZ cQ w q d T st re rc (nI nz)) ++ ((wSt y rp rw rt cI cQ P n Wi Ti (nI nt)) ++ (wFs fx cI cZ (upd ff t (nI z)) fg tk (bB wb) (lI k))))) H := hP.sub (ws' := (wOf o (x 0) (y 0)) ++ ((wFl x r cI cZ cQ w q d T st re rc (nI nz)) ++ ((wSt y rp rw rt cI cQ P n Wi Ti (nI nt)) ++ (wFs fx cI cZ (upd ff t (nI z)) fg tk (bB wb) (lI k))))) [0, 1, 2, 3, 4, 5, 6, 7, 8, 9, 10, 11, 12, 13, 14, 15, 16, 17, 18, 19, 20, 21, 22, 23, 24, 25, 26, 27, 28, 29, 30, 31, 32, 33, 34, 35, 36, 37, 38, 39, 40, 41, 45, 46, 42, 43, 44] rfl
  have hD : va_D A ((wOf o (x 0) (y 0)) ++ ((wFl x r cI cZ cQ w q d T st re rc (nI nz)) ++ ((wSt y rp rw rt cI cQ P n Wi Ti (nI nt)) ++ (wFs fx cI cZ (upd ff t (nI z)) fg tk (bB wb) (lI k))))) := hD.sub (ws' := (wOf o (x 0) (y 0)) ++ ((wFl x r cI cZ cQ w q d T st re rc (nI nz)) ++ ((wSt y rp rw rt cI cQ P n Wi Ti (nI nt)) ++ (wFs fx cI cZ (upd ff t (nI z)) fg tk (bB wb) (lI k))))) [0, 1, 2, 3, 4, 5, 6, 7, 8, 9, 10, 11, 12, 13, 14, 15, 16, 17, 18, 19, 20, 21, 22, 23, 24, 25, 26, 27, 28, 29, 30, 31, 32, 33, 34, 35, 36, 37, 38, 39, 40, 41, 45, 46, 42, 43, 44] (by decide) rfl
  refine lv_iload hx hb dX2_tryAt_9 (lv_at hl 4 rfl) ?_
  refine lv_aload_n hx hb dX2_tryAt_11 rfl (lv_at hl 1 rfl) ?_
  refine va_getN (D := D) (ci := 3) (v := .ref (y 0)) (C := RX3) (T := TX3) (N := 2) hx hb hts tu_X3 hown hSt.1 hP 0 rfl rfl 1 (by decide) (nf_11 hSt.2) (fun _ h9 => h9) rfl dX2_tryAt_12 ?_
  refine va_getN (D := D) (ci := 5) (v := .ref (y 3)) (C := RX5) (T := TX5) (N := 5) hx hb hts tu_X5 hown hSt.1 hP 15 rfl rfl 2 (by decide) (nf_15 hSt.2) (fun _ h9 => h9) rfl dX2_tryAt_15 ?_
  refine lv_iload_n hx hb dX2_tryAt_18 rfl (lv_at hl 2 rfl) ?_
  refine r_aald (r := rw) hx hb hSt.1 hP 18 2 rfl rfl (k := t) (by omega) dX2_tryAt_19 ?_
  refine lv_iload_n hx hb dX2_tryAt_20 rfl (lv_at hl 3 rfl) ?_
  refine r_iald hx hb hSt.1 hP _ 0 (f := Wi t) (at_r (at_r (at_l (wSt_W (k := t) (by omega))))) rfl (k := z) (by omega) (by omega) dX2_tryAt_21 ?_
  refine lv_as (y := nI (wi t z)) (hwi t z (by omega) (by omega)) ?_
  refine r_addn hx hb dX2_tryAt_22 ?_
  refine lv_istore (lv' := [(5, .int (nI (cN + (wi t z)))), (0, .ref (fx 0)), (1, .ref o), (2, .int (nI t)), (3, .int (nI z)), (4, .int (nI cN))]) hx hb dX2_tryAt_23 hl (by decide) rfl (fun ls hl => ?_)
  refine lv_aload_n hx hb dX2_tryAt_25 rfl (lv_at hl 1 rfl) ?_
  refine va_get (D := D) (ci := 2) (v := .int (bB wb)) (C := RX2) (T := TX2) (N := 5) hx hb hts tu_X2 hown hSt.1 hP 41 rfl rfl 3 (by decide) (hts _ t1_146) (fun _ h9 => h9) rfl dX2_tryAt_26 ?_
  have L46 : ∀ (c1 : Nat), (c1 = pcN wb wi ti dd (updN g t z) (t + 1)) → ∀ (H : Heap) (locs : List Loc), va_P D vwCl ((wOf o (x 0) (y 0)) ++ ((wFl x r cI cZ cQ w q d T st re rc (nI nz)) ++ ((wSt y rp rw rt cI cQ P n Wi Ti (nI nt)) ++ (wFs fx cI cZ (upd ff t (nI z)) fg tk (bB wb) (lI k))))) H → va_D A ((wOf o (x 0) (y 0)) ++ ((wFl x r cI cZ cQ w q d T st re rc (nI nz)) ++ ((wSt y rp rw rt cI cQ P n Wi Ti (nI nt)) ++ (wFs fx cI cZ (upd ff t (nI z)) fg tk (bB wb) (lI k))))) → va_S A s.heap H locs → ∀ (ls : Array Slot), lv_has ls 6 [(0, .ref (fx 0)), (1, .ref o), (2, .int (nI t)), (3, .int (nI z)), (5, .int (nI c1))] → W p l e ({ frames := 2 * dp + 4, cells := 0, slots := 0, locals := 49 * dp + 174 } : Room) s m ([.ref (fx 0), .ref o, .int (nI t), .int (nI z), .int (nI cN)] : List Value).toArray below meth c H locs 0 0 (MQ below (va_Qv (fun u9 : (Nat → Int32) × (Nat → Int32) × Nat => (pOK t u9.1 g) ∧ (∀ u, nt ≤ u → u < 7 → u9.1 u = -1) ∧ (∀ u, nt ≤ u → u < 7 → u9.2.1 u = -1) ∧ (SR nt (fun g9 => pcN wb wi ti dd g9 nt) (Cp nz nt (fun t9 z9 => n t9 ≤ d z9) (updN g t z) (t + 1)) k fg u9.2.2 u9.2.1)) (rw_B D A (fun u9 : (Nat → Int32) × (Nat → Int32) × Nat => (wOf o (x 0) (y 0)) ++ ((wFl x r cI cZ cQ w q d T st re rc (nI nz)) ++ ((wSt y rp rw rt cI cQ P n Wi Ti (nI nt)) ++ (wFs fx cI cZ u9.1 u9.2.1 tk (bB wb) (lI u9.2.2)))))) A) ([.ref (fx 0), .ref o, .int (nI t), .int (nI z), .int (nI cN)] : List Value).toArray s 0 0 A) (F0 m 46 ls []) := by
    intro c1 hc1 H locs hP hD hS ls hl
    have hc19 : c1 ≤ 50000 := by rw [hc1]; exact pcN_le hv (fun j hj => Or.inl ((vP_next hvp hz hft hfr).1 j hj).1) (by omega) hnz
    refine lv_aload_n hx hb dX2_tryAt_46 rfl (lv_at hl 0 rfl) ?_
    refine va_get (D := D) (ci := 2) (v := .int (lI k)) (C := RX2) (T := TX2) (N := 5) hx hb hts tu_X2 hown hSt.1 hP 41 rfl rfl 4 (by decide) (hts _ t1_147) (fun _ h9 => h9) rfl dX2_tryAt_47 ?_
    refine lv_iconst (v := (-1 : Int32)) hx hb dX2_tryAt_50 (by decide) ?_
    have L64 : (c1 < k) → ∀ (H : Heap) (locs : List Loc), va_P D vwCl ((wOf o (x 0) (y 0)) ++ ((wFl x r cI cZ cQ w q d T st re rc (nI nz)) ++ ((wSt y rp rw rt cI cQ P n Wi Ti (nI nt)) ++ (wFs fx cI cZ (upd ff t (nI z)) fg tk (bB wb) (lI k))))) H → va_D A ((wOf o (x 0) (y 0)) ++ ((wFl x r cI cZ cQ w q d T st re rc (nI nz)) ++ ((wSt y rp rw rt cI cQ P n Wi Ti (nI nt)) ++ (wFs fx cI cZ (upd ff t (nI z)) fg tk (bB wb) (lI k))))) → va_S A s.heap H locs → ∀ (ls : Array Slot), lv_has ls 6 [(0, .ref (fx 0)), (1, .ref o), (2, .int (nI t)), (3, .int (nI z)), (5, .int (nI c1))] → W p l e ({ frames := 2 * dp + 4, cells := 0, slots := 0, locals := 49 * dp + 174 } : Room) s m ([.ref (fx 0), .ref o, .int (nI t), .int (nI z), .int (nI cN)] : List Value).toArray below meth c H locs 0 0 (MQ below (va_Qv (fun u9 : (Nat → Int32) × (Nat → Int32) × Nat => (pOK t u9.1 g) ∧ (∀ u, nt ≤ u → u < 7 → u9.1 u = -1) ∧ (∀ u, nt ≤ u → u < 7 → u9.2.1 u = -1) ∧ (SR nt (fun g9 => pcN wb wi ti dd g9 nt) (Cp nz nt (fun t9 z9 => n t9 ≤ d z9) (updN g t z) (t + 1)) k fg u9.2.2 u9.2.1)) (rw_B D A (fun u9 : (Nat → Int32) × (Nat → Int32) × Nat => (wOf o (x 0) (y 0)) ++ ((wFl x r cI cZ cQ w q d T st re rc (nI nz)) ++ ((wSt y rp rw rt cI cQ P n Wi Ti (nI nt)) ++ (wFs fx cI cZ u9.1 u9.2.1 tk (bB wb) (lI u9.2.2)))))) A) ([.ref (fx 0), .ref o, .int (nI t), .int (nI z), .int (nI cN)] : List Value).toArray s 0 0 A) (F0 m 64 ls []) := by
      intro hck H locs hP hD hS ls hl
      refine lv_aload_n hx hb dX2_tryAt_64 rfl (lv_at hl 0 rfl) ?_
      refine va_get (D := D) (ci := 2) (v := .ref (fx 5)) (C := RX2) (T := TX2) (N := 5) hx hb hts tu_X2 hown hSt.1 hP 41 rfl rfl 2 (by decide) (hts _ t1_145) (fun _ h9 => h9) rfl dX2_tryAt_65 ?_
      refine lv_iload_n hx hb dX2_tryAt_68 rfl (lv_at hl 3 rfl) ?_
      refine lv_iconst (v := nI 1) hx hb dX2_tryAt_69 (by decide) ?_
      refine r_zast hx hb hSt.1 hP hD hS 46 1 rfl rfl (rfl) (k := z) (by omega) (by omega) dX2_tryAt_70 (fun H locs hP hD hS => ?_)
      have hP : va_P D vwCl ((wOf o (x 0) (y 0)) ++ ((wFl x r cI cZ cQ w q d T st re rc (nI nz)) ++ ((wSt y rp rw rt cI cQ P n Wi Ti (nI nt)) ++ (wFs fx cI cZ (upd ff t (nI z)) fg (upd tk z (nI 1)) (bB wb) (lI k))))) H := hP
      have hD : va_D A ((wOf o (x 0) (y 0)) ++ ((wFl x r cI cZ cQ w q d T st re rc (nI nz)) ++ ((wSt y rp rw rt cI cQ P n Wi Ti (nI nt)) ++ (wFs fx cI cZ (upd ff t (nI z)) fg (upd tk z (nI 1)) (bB wb) (lI k))))) := hD
      refine lv_aload_n hx hb dX2_tryAt_71 rfl (lv_at hl 0 rfl) ?_
      refine lv_aload_n hx hb dX2_tryAt_72 rfl (lv_at hl 1 rfl) ?_
      refine lv_iload_n hx hb dX2_tryAt_73 rfl (lv_at hl 2 rfl) ?_
      refine lv_iconst (v := nI 1) hx hb dX2_tryAt_74 (by decide) ?_
      refine r_addn hx hb dX2_tryAt_75 ?_
      refine lv_iload hx hb dX2_tryAt_76 (lv_at hl 4 rfl) ?_
      refine rw_v (wr := ([] : va_W)) (w_V (As := [.ref o, .int (nI (t + 1)), .int (nI c1)]) ⟨hx, hb, hml, hown, hts⟩ (hFrom l D cI cZ cQ cJ o x r w q d T st re rc nz y rp rw rt P n Wi Ti nt fx (upd ff t (nI z)) fg (upd tk z (nI 1)) wb k wi ti dd (updN g t z) (t + 1) c1 H.size (by first | assumption | omega) (by first | assumption | omega) (by first | assumption | omega) (by first | assumption | omega) (by first | assumption | omega) (by first | assumption | omega) (by omega) (pOK_next hff (by omega)) (fun u h1 h2 => by rw [pk_un (show u ≠ t by omega)]; exact hff2 u h1 h2) hfg2 (tk_01 htk1) (tk_next htk2) (vP_next hvp hz hft hfr) hc1 (by first | assumption | omega) (by first | assumption | omega)) (gV t2_15 t2_17 t0_0 t1_7 t2_18) rfl rfl hd_X2_tryFrom ⟨(by omega : (2 * dp + 3) + 1 ≤ 2 * dp + 4), (by omega : 8 + (5 + 11) + (49 * dp + 150) ≤ 49 * dp + 174)⟩ (rw_pre hP hD hSt [0, 1, 2, 3, 4, 5, 6, 7, 8, 9, 10, 11, 12, 13, 14, 15, 16, 17, 18, 19, 20, 21, 22, 23, 24, 25, 26, 27, 28, 29, 30, 31, 32, 33, 34, 35, 36, 37, 38, 39, 40, 41, 42, 43, 44, 45, 46] rfl (by decide)) (va_recv hSt.1 hP (ci := 2) (q0 := 41) rfl rfl) rfl hl.1 (rest := []) rfl (Nat.le_of_ble_eq_true rfl) dX2_tryAt_78 ⟨Nat.le_of_ble_eq_true rfl, Nat.le_of_ble_eq_true rfl⟩) hP hD hS hA [0, 1, 2, 3, 4, 5, 6, 7, 8, 9, 10, 11, 12, 13, 14, 15, 16, 17, 18, 19, 20, 21, 22, 23, 24, 25, 26, 27, 28, 29, 30, 31, 32, 33, 34, 35, 36, 37, 38, 39, 40, 41, 42, 43, 44, 45, 46] [] rfl rfl (by decide) (by decide) (fun  u_5 H locs hw9 hP hD hS => ?_)
      obtain ⟨j_2, j_3, j_4⟩ := u_5
      obtain ⟨f_6, f_7, f_8, f_9⟩ := hw9
      have hff : pOK (t + 1) j_2 (updN g t z) := f_6
      have hff2 : ∀ u, nt ≤ u → u < 7 → j_2 u = -1 := f_7
      have hfg2 : ∀ u, nt ≤ u → u < 7 → j_3 u = -1 := f_8
      have hSR : SR nt (fun g9 => pcN wb wi ti dd g9 nt) (Cp nz nt (fun t9 z9 => n t9 ≤ d z9) (updN g t z) (t + 1)) k fg j_4 j_3 := f_9
      have hP : va_P D vwCl ((wOf o (x 0) (y 0)) ++ ((wFl x r cI cZ cQ w q d T st re rc (nI nz)) ++ ((wSt y rp rw rt cI cQ P n Wi Ti (nI nt)) ++ (wFs fx cI cZ j_2 j_3 (upd tk z (nI 1)) (bB wb) (lI j_4))))) H := hP
      have hD : va_D A ((wOf o (x 0) (y 0)) ++ ((wFl x r cI cZ cQ w q d T st re rc (nI nz)) ++ ((wSt y rp rw rt cI cQ P n Wi Ti (nI nt)) ++ (wFs fx cI cZ j_2 j_3 (upd tk z (nI 1)) (bB wb) (lI j_4))))) := hD
      refine lv_aload_n hx hb dX2_tryAt_81 rfl (lv_at hl 0 rfl) ?_
      refine va_get (D := D) (ci := 2) (v := .ref (fx 5)) (C := RX2) (T := TX2) (N := 5) hx hb hts tu_X2 hown hSt.1 hP 41 rfl rfl 2 (by decide) (hts _ t1_145) (fun _ h9 => h9) rfl dX2_tryAt_82 ?_
      refine lv_iload_n hx hb dX2_tryAt_85 rfl (lv_at hl 3 rfl) ?_
      refine lv_iconst (v := nI 0) hx hb dX2_tryAt_86 (by decide) ?_
      refine r_zast hx hb hSt.1 hP hD hS 46 1 rfl rfl (rfl) (k := z) (by omega) (by omega) dX2_tryAt_87 (fun H locs hP hD hS => ?_)
      have hP : va_P D vwCl ((wOf o (x 0) (y 0)) ++ ((wFl x r cI cZ cQ w q d T st re rc (nI nz)) ++ ((wSt y rp rw rt cI cQ P n Wi Ti (nI nt)) ++ (wFs fx cI cZ j_2 j_3 (upd (upd tk z (nI 1)) z (nI 0)) (bB wb) (lI j_4))))) H := hP
      have hD : va_D A ((wOf o (x 0) (y 0)) ++ ((wFl x r cI cZ cQ w q d T st re rc (nI nz)) ++ ((wSt y rp rw rt cI cQ P n Wi Ti (nI nt)) ++ (wFs fx cI cZ j_2 j_3 (upd (upd tk z (nI 1)) z (nI 0)) (bB wb) (lI j_4))))) := hD
      have e9 : upd (upd tk z (nI 1)) z (nI 0) = tk := upd_back ((htk2 z hz).mpr hfr)
      have hP9 : va_P D vwCl ((wOf o (x 0) (y 0)) ++ ((wFl x r cI cZ cQ w q d T st re rc (nI nz)) ++ ((wSt y rp rw rt cI cQ P n Wi Ti (nI nt)) ++ (wFs fx cI cZ j_2 j_3 tk (bB wb) (lI j_4))))) H := by rw [← e9]; exact hP
      have hD9 : va_D A ((wOf o (x 0) (y 0)) ++ ((wFl x r cI cZ cQ w q d T st re rc (nI nz)) ++ ((wSt y rp rw rt cI cQ P n Wi Ti (nI nt)) ++ (wFs fx cI cZ j_2 j_3 tk (bB wb) (lI j_4))))) := by rw [← e9]; exact hD
      have g_10 : pOK t j_2 g := pOK_back hff
      have g_11 : ∀ u, nt ≤ u → u < 7 → j_2 u = -1 := hff2
      have g_12 : ∀ u, nt ≤ u → u < 7 → j_3 u = -1 := hfg2
      have g_13 : SR nt (fun g9 => pcN wb wi ti dd g9 nt) (Cp nz nt (fun t9 z9 => n t9 ≤ d z9) (updN g t z) (t + 1)) k fg j_4 j_3 := hSR
      exact W.vret hx hb hr (fun t9 ht9 hW9 => ⟨⟨(j_2, j_3, j_4), rfl, ⟨g_10, g_11, g_12, g_13⟩, by rw [ht9]; exact hP9, hD9⟩, hS.F ht9⟩) hS.2.2 dX2_tryAt_88
    refine lv_icmp_eq (tgt := 64) hx hb dX2_tryAt_51 (by decide) (fun c_14 => ?_) (fun c_14 => ?_)
    · exact L64 (by have := lI_none c_14; omega) _ _ hP hD hS _ (lv_sub hl [0, 1, 2, 3, 4] rfl)
    · have hk1 := lI_some c_14
      refine lv_iload hx hb dX2_tryAt_54 (lv_at hl 4 rfl) ?_
      refine lv_aload_n hx hb dX2_tryAt_56 rfl (lv_at hl 0 rfl) ?_
      refine va_get (D := D) (ci := 2) (v := .int (lI k)) (C := RX2) (T := TX2) (N := 5) hx hb hts tu_X2 hown hSt.1 hP 41 rfl rfl 4 (by decide) (hts _ t1_147) (fun _ h9 => h9) rfl dX2_tryAt_57 ?_
      refine lv_as (y := nI k) (lI_lt hk1) ?_
      refine lv_icmp_lt (tgt := 64) hx hb dX2_tryAt_60 (by decide) (fun c_15 => ?_) (fun c_15 => ?_)
      · have c_15 := z_lt (by omega) (by omega) c_15
        exact L64 c_15 _ _ hP hD hS _ (lv_sub hl [0, 1, 2, 3, 4] rfl)
      · have c_15 := z_nlt (by omega) (by omega) c_15
        have hP9 : va_P D vwCl ((wOf o (x 0) (y 0)) ++ ((wFl x r cI cZ cQ w q d T st re rc (nI nz)) ++ ((wSt y rp rw rt cI cQ P n Wi Ti (nI nt)) ++ (wFs fx cI cZ (upd ff t (nI z)) fg tk (bB wb) (lI k))))) H := hP
        have hD9 : va_D A ((wOf o (x 0) (y 0)) ++ ((wFl x r cI cZ cQ w q d T st re rc (nI nz)) ++ ((wSt y rp rw rt cI cQ P n Wi Ti (nI nt)) ++ (wFs fx cI cZ (upd ff t (nI z)) fg tk (bB wb) (lI k))))) := hD
        have g_16 : pOK t (upd ff t (nI z)) g := pOK_back (pOK_next hff (by omega))
        have g_17 : ∀ u, nt ≤ u → u < 7 → (upd ff t (nI z)) u = -1 := fun u h1 h2 => by rw [pk_un (show u ≠ t by omega)]; exact hff2 u h1 h2
        have g_18 : ∀ u, nt ≤ u → u < 7 → fg u = -1 := hfg2
        have g_19 : SR nt (fun g9 => pcN wb wi ti dd g9 nt) (Cp nz nt (fun t9 z9 => n t9 ≤ d z9) (updN g t z) (t + 1)) k fg k fg := SR_cut fun g9 e9 => by rw [← pcN_congr (n := t + 1) e9] at hc1; have h9 := pcN_mono (b := wb) (wi := wi) (ti := ti) (dd := dd) (g := g9) (show t + 1 ≤ nt by omega); have := c_15; show k ≤ pcN wb wi ti dd g9 nt; omega
        exact W.vret hx hb hr (fun t9 ht9 hW9 => ⟨⟨(upd ff t (nI z), fg, k), rfl, ⟨g_16, g_17, g_18, g_19⟩, by rw [ht9]; exact hP9, hD9⟩, hS.F ht9⟩) hS.2.2 dX2_tryAt_63
  refine lv_if_eq (tgt := 46) hx hb dX2_tryAt_29 (by decide) (fun c_20 => ?_) (fun c_20 => ?_)
  · exact L46 (cN + (wi t z)) (pc_f (bB_0 c_20) hcN (by omega) rfl) _ _ hP hD hS _ (lv_sub hl [1, 2, 3, 4, 0] rfl)
  · refine lv_iload hx hb dX2_tryAt_32 (lv_at hl 0 rfl) ?_
    refine lv_aload_n hx hb dX2_tryAt_34 rfl (lv_at hl 2 rfl) ?_
    refine lv_aload_n hx hb dX2_tryAt_35 rfl (lv_at hl 1 rfl) ?_
    refine va_get (D := D) (ci := 2) (v := .ref (fx 1)) (C := RX2) (T := TX2) (N := 5) hx hb hts tu_X2 hown hSt.1 hP 41 rfl rfl 0 (by decide) (hts _ t1_142) (fun _ h9 => h9) rfl dX2_tryAt_36 ?_
    refine lv_iload_n hx hb dX2_tryAt_39 rfl (lv_at hl 3 rfl) ?_
    refine ro_V (As := [.ref (fx 1), .int (nI t)]) (rest := [.int (nI (cN + (wi t z)))]) (v := nI (tieN ti dd (updN g t z) t)) ⟨hx, hb, hml, hown, hts⟩ (c_X3_tieCostToLower l D cI cZ cQ cJ o x r w q d T st re rc nz y rp rw rt P n Wi Ti (fx 1) (fx 2) (upd ff t (nI z)) (nI nt) ti dd (updN g t z) t (by first | assumption | omega) (by first | assumption | omega) (pOK_next hff (by omega)) (fun j hj => Or.inl ((vP_next hvp hz hft hfr).1 j hj).1) (by first | assumption | omega) (by first | assumption | omega)) (gV t2_32 t2_33 t2_34 t1_2 t2_35) rfl rfl hd_X3_tieCostToLower ⟨(by omega : 1 + 1 ≤ 2 * dp + 4), (by omega : 8 + (7 + 11) + 21 ≤ 49 * dp + 174)⟩ (hP.sub (ws' := (wOf o (x 0) (y 0)) ++ ((wFl x r cI cZ cQ w q d T st re rc (nI nz)) ++ ((wSt y rp rw rt cI cQ P n Wi Ti (nI nt)) ++ (wPl (fx 1) (fx 2) cI (upd ff t (nI z)))))) [0, 1, 2, 3, 4, 5, 6, 7, 8, 9, 10, 11, 12, 13, 14, 15, 16, 17, 18, 19, 20, 21, 22, 23, 24, 25, 26, 27, 28, 29, 30, 31, 32, 33, 34, 35, 36, 37, 38, 39, 40, 42, 43] rfl) hSt (va_recv hSt.1 hP (ci := 3) (q0 := 0) rfl rfl) rfl hl.1 rfl (Nat.le_of_ble_eq_true rfl) dX2_tryAt_40 (Nat.zero_le _) (Nat.zero_le _) ?_
    refine r_addn hx hb dX2_tryAt_43 ?_
    refine lv_istore (lv' := [(5, .int (nI ((cN + (wi t z)) + (tieN ti dd (updN g t z) t)))), (0, .ref (fx 0)), (1, .ref o), (2, .int (nI t)), (3, .int (nI z)), (4, .int (nI cN))]) hx hb dX2_tryAt_44 hl (by decide) rfl (fun ls hl => ?_)
    exact L46 ((cN + (wi t z)) + (tieN ti dd (updN g t z) t)) (pc_t (bB_1 c_20) hcN (by omega) rfl) _ _ hP hD hS _ (lv_sub hl [1, 2, 3, 4, 0] rfl)
theorem c_X2_tryFrom : ∀ dp, pF dp
  | 0 => s_X2_tryFrom 0 (fun dp9 e => absurd e (by omega))
  | dp + 1 => s_X2_tryFrom (dp + 1) (fun dp9 e => by
      have e2 : dp9 = dp := by omega
      subst e2
      exact s_X2_tryAt dp9 (c_X2_tryFrom dp9))
set_option maxHeartbeats 4000000 in
set_option maxRecDepth 100000 in
/-- the least cost of all placements -/
theorem c_X2_findLeast (l : Launch) (D : va_G) (cI cZ cQ cJ : ClassId) (o : Nat) (x : Nat → Nat) (r : Nat → Nat) (w : Nat → Int32) (q : Nat → Int32) (d : Nat → Int32) (T : Nat → Nat → Int32) (st : Nat → Int32) (re : Nat → Int32) (rc : Int32) (nz : Nat) (y : Nat → Nat) (rp : Nat → Nat) (rw : Nat → Nat) (rt : Nat → Nat) (P : Nat → Nat → Int32) (n : Nat → Int32) (Wi : Nat → Nat → Int32) (Ti : Nat → Nat → Int32) (nt : Nat) (fx : Nat → Nat) (ff : Nat → Int32) (fg : Nat → Int32) (tk : Nat → Int32) (wi : Nat → Nat → Nat) (ti : Nat → Nat → Nat) (dd : Nat → Nat → Nat) (wt : Int32) (le : Int32) (wb : Bool) (sz : Nat) (hnt : nt ≤ 7) (hnz : nz ≤ 7) (hwi : rOK 7 7 Wi wi) (hti : rOK 7 7 Ti ti) (hdd : rOK nz nz T dd) (hv : vOK nz wi ti dd) (hff2 : ∀ u, nt ≤ u → u < 7 → ff u = -1) (hfg2 : ∀ u, nt ≤ u → u < 7 → fg u = -1) (htk : ∀ u, u < 7 → tk u = 0) : Met l yX2_findLeast (.code yX2_findLeast cX2_findLeast 3 (some .int) :: ALL) ({ frames := 18, cells := 0, slots := 0, locals := 517 } : Room) (va_Pc [.ref (fx 0), .ref o, .int (bB wb)] (rw_P D cI cZ cQ cJ ((wOf o (x 0) (y 0)) ++ ((wFl x r cI cZ cQ w q d T st re rc (nI nz)) ++ ((wSt y rp rw rt cI cQ P n Wi Ti (nI nt)) ++ (wFs fx cI cZ ff fg tk wt le)))) sz)) (va_Qi (fun (r9 : Int32) (u9 : (Nat → Int32) × (Nat → Int32) × Nat) => (r9 = (lI u9.2.2)) ∧ (∀ u, nt ≤ u → u < 7 → u9.1 u = -1) ∧ (∀ u, nt ≤ u → u < 7 → u9.2.1 u = -1) ∧ (SR nt (fun g9 => pcN wb wi ti dd g9 nt) (cmp nz nt (fun t9 z9 => n t9 ≤ d z9)) 1000000 fg u9.2.2 u9.2.1)) (rw_B D (va_A ((wOf o (x 0) (y 0)) ++ ((wFl x r cI cZ cQ w q d T st re rc (nI nz)) ++ ((wSt y rp rw rt cI cQ P n Wi Ti (nI nt)) ++ (wFs fx cI cZ ff fg tk wt le)))) sz) (fun u9 : (Nat → Int32) × (Nat → Int32) × Nat => (wOf o (x 0) (y 0)) ++ ((wFl x r cI cZ cQ w q d T st re rc (nI nz)) ++ ((wSt y rp rw rt cI cQ P n Wi Ti (nI nt)) ++ (wFs fx cI cZ u9.1 u9.2.1 tk (bB wb) (lI u9.2.2)))))) (va_A ((wOf o (x 0) (y 0)) ++ ((wFl x r cI cZ cQ w q d T st re rc (nI nz)) ++ ((wSt y rp rw rt cI cQ P n Wi Ti (nI nt)) ++ (wFs fx cI cZ ff fg tk wt le)))) sz)) 0 0 (va_A ((wOf o (x 0) (y 0)) ++ ((wFl x r cI cZ cQ w q d T st re rc (nI nz)) ++ ((wSt y rp rw rt cI cQ P n Wi Ti (nI nt)) ++ (wFs fx cI cZ ff fg tk wt le)))) sz) := by
  refine Met.ofW (cc := cX2_findLeast) (maxL := 3) (ret := (some .int)) (by decide) rfl ?_
  intro p e s m args below meth c s₁ B hml hv
  obtain ⟨rfl, hsz, hP, hSt, hD0⟩ := hv
  have hx := B.exec
  have hb := B.bytes
  have hr := B.returns
  have hts : ∀ w ∈ ALL, w.before ([.ref (fx 0), .ref o, .int (bB wb)] : List Value).toArray s = true := fun w h => atoms_spec (ws := (.code yX2_findLeast cX2_findLeast 3 (some .int) :: ALL)) B.pre w (List.mem_cons_of_mem _ h)
  have hown : s.vm.findClass RX2 = some m.cls := findClass_of_methodNamed B.named
  have hlocks := B.notSynchronized
  subst hsz
  have hD := hD0.self (sz := s.heap.size)
  clear hD0
  generalize hAe : va_A ((wOf o (x 0) (y 0)) ++ ((wFl x r cI cZ cQ w q d T st re rc (nI nz)) ++ ((wSt y rp rw rt cI cQ P n Wi Ti (nI nt)) ++ (wFs fx cI cZ ff fg tk wt le)))) s.heap.size = A at hD ⊢
  have hA : ∀ q : Nat, s.heap.size ≤ q → A q := fun q h => by rw [← hAe]; exact Or.inr h
  have hS : va_S A s.heap s.heap [] := va_S.rf
  have hl := lv_entry ([.ref (fx 0), .ref o, .int (bB wb)]) (n := 3) (Nat.le_of_ble_eq_true rfl)
  rw [lg_entry_eq]
  generalize (lg_sl ([.ref (fx 0), .ref o, .int (bB wb)]) ++ List.replicate (3 - (lg_sl ([.ref (fx 0), .ref o, .int (bB wb)])).length) Slot.unset).toArray = ls at hl ⊢
  have hl : lv_has ls 3 [(0, .ref (fx 0)), (1, .ref o), (2, .int (bB wb))] := hl
  obtain ⟨H, hHe⟩ : ∃ H : Heap, H = s.heap := ⟨_, rfl⟩
  obtain ⟨locs, hLe⟩ : ∃ L : List Loc, L = [] := ⟨_, rfl⟩
  have hP : va_P D vwCl ((wOf o (x 0) (y 0)) ++ ((wFl x r cI cZ cQ w q d T st re rc (nI nz)) ++ ((wSt y rp rw rt cI cQ P n Wi Ti (nI nt)) ++ (wFs fx cI cZ ff fg tk wt le)))) H := by rw [hHe]; exact hP
  have hS : va_S A s.heap H locs := by rw [hHe, hLe]; exact hS
  refine W.eqHL hHe hLe ?_
  refine lv_aload_n hx hb dX2_findLeast_0 rfl (lv_at hl 0 rfl) ?_
  refine lv_iload_n hx hb dX2_findLeast_1 rfl (lv_at hl 2 rfl) ?_
  refine va_put (D := D) (ci := 2) (v := .int (bB wb)) (ty := .boolean) (C := RX2) (T := TX2) (N := 5) hx hb hts tu_X2 tyX2 tyX2_ok nmX2 hown hSt.1 hP hD hS 41 rfl rfl 3 (by decide) (hts _ t1_146) (fun _ h9 => h9) rfl (by decide +kernel) (b01_nar' (bB_01 wb)) (by cases wb <;> rfl) (Nat.le_of_ble_eq_true rfl) dX2_findLeast_2 (fun H locs hP hD hS => ?_)
  have hP : va_P D vwCl ((wOf o (x 0) (y 0)) ++ ((wFl x r cI cZ cQ w q d T st re rc (nI nz)) ++ ((wSt y rp rw rt cI cQ P n Wi Ti (nI nt)) ++ (wFs fx cI cZ ff fg tk (bB wb) le)))) H := hP
  have hD : va_D A ((wOf o (x 0) (y 0)) ++ ((wFl x r cI cZ cQ w q d T st re rc (nI nz)) ++ ((wSt y rp rw rt cI cQ P n Wi Ti (nI nt)) ++ (wFs fx cI cZ ff fg tk (bB wb) le)))) := hD
  refine lv_aload_n hx hb dX2_findLeast_5 rfl (lv_at hl 0 rfl) ?_
  refine lv_iconst (v := (-1 : Int32)) hx hb dX2_findLeast_6 (by decide) ?_
  refine va_put (D := D) (ci := 2) (v := .int (-1 : Int32)) (ty := .int) (C := RX2) (T := TX2) (N := 5) hx hb hts tu_X2 tyX2 tyX2_ok nmX2 hown hSt.1 hP hD hS 41 rfl rfl 4 (by decide) (hts _ t1_147) (fun _ h9 => h9) rfl (by decide +kernel) rfl rfl (Nat.le_of_ble_eq_true rfl) dX2_findLeast_7 (fun H locs hP hD hS => ?_)
  have hP : va_P D vwCl ((wOf o (x 0) (y 0)) ++ ((wFl x r cI cZ cQ w q d T st re rc (nI nz)) ++ ((wSt y rp rw rt cI cQ P n Wi Ti (nI nt)) ++ (wFs fx cI cZ ff fg tk (bB wb) (-1 : Int32))))) H := hP
  have hD : va_D A ((wOf o (x 0) (y 0)) ++ ((wFl x r cI cZ cQ w q d T st re rc (nI nz)) ++ ((wSt y rp rw rt cI cQ P n Wi Ti (nI nt)) ++ (wFs fx cI cZ ff fg tk (bB wb) (-1 : Int32))))) := hD
  have hP : va_P D vwCl ((wOf o (x 0) (y 0)) ++ ((wFl x r cI cZ cQ w q d T st re rc (nI nz)) ++ ((wSt y rp rw rt cI cQ P n Wi Ti (nI nt)) ++ (wFs fx cI cZ ff fg tk (bB wb) (lI 1000000))))) H := by rw [lI_big]; exact hP
  have hD : va_D A ((wOf o (x 0) (y 0)) ++ ((wFl x r cI cZ cQ w q d T st re rc (nI nz)) ++ ((wSt y rp rw rt cI cQ P n Wi Ti (nI nt)) ++ (wFs fx cI cZ ff fg tk (bB wb) (lI 1000000))))) := by rw [lI_big]; exact hD
  refine lv_aload_n hx hb dX2_findLeast_10 rfl (lv_at hl 0 rfl) ?_
  refine lv_aload_n hx hb dX2_findLeast_11 rfl (lv_at hl 1 rfl) ?_
  refine lv_iconst (v := nI 0) hx hb dX2_findLeast_12 (by decide) ?_
  refine lv_iconst (v := nI 0) hx hb dX2_findLeast_13 (by decide) ?_
  refine rw_v (wr := ([] : va_W)) (w_V (As := [.ref o, .int (nI 0), .int (nI 0)]) ⟨hx, hb, hml, hown, hts⟩ ((c_X2_tryFrom nt) l D cI cZ cQ cJ o x r w q d T st re rc nz y rp rw rt P n Wi Ti nt fx ff fg tk wb 1000000 wi ti dd (fun _ => 0) 0 0 H.size (by first | assumption | omega) (by first | assumption | omega) (by first | assumption | omega) (by first | assumption | omega) (by first | assumption | omega) (by first | assumption | omega) (by omega) (fun j hj => absurd hj (by omega)) hff2 hfg2 (fun u hu => Or.inl (htk u hu)) (fun u hu => ⟨fun _ j hj => absurd hj (by omega), fun _ => htk u (by omega)⟩) (⟨fun j hj => absurd hj (by omega), fun i j _ hj => absurd hj (by omega)⟩) (by cases wb <;> rfl) (by first | assumption | omega) (by first | assumption | omega)) (gV t2_15 t2_17 t0_0 t1_7 t2_18) rfl rfl hd_X2_tryFrom ⟨(by omega : 2 * nt + 3 + 1 ≤ 18), (by omega : 8 + (5 + 11) + (49 * nt + 150) ≤ 517)⟩ (rw_pre hP hD hSt [0, 1, 2, 3, 4, 5, 6, 7, 8, 9, 10, 11, 12, 13, 14, 15, 16, 17, 18, 19, 20, 21, 22, 23, 24, 25, 26, 27, 28, 29, 30, 31, 32, 33, 34, 35, 36, 37, 38, 39, 40, 41, 42, 43, 44, 45, 46] rfl (by decide)) (va_recv hSt.1 hP (ci := 2) (q0 := 41) rfl rfl) rfl hl.1 (rest := []) rfl (Nat.le_of_ble_eq_true rfl) dX2_findLeast_14 ⟨Nat.le_of_ble_eq_true rfl, Nat.le_of_ble_eq_true rfl⟩) hP hD hS hA [0, 1, 2, 3, 4, 5, 6, 7, 8, 9, 10, 11, 12, 13, 14, 15, 16, 17, 18, 19, 20, 21, 22, 23, 24, 25, 26, 27, 28, 29, 30, 31, 32, 33, 34, 35, 36, 37, 38, 39, 40, 41, 42, 43, 44, 45, 46] [] rfl rfl (by decide) (by decide) (fun  u_4 H locs hw9 hP hD hS => ?_)
  obtain ⟨j_1, j_2, j_3⟩ := u_4
  obtain ⟨f_5, f_6, f_7, f_8⟩ := hw9
  have hff : pOK 0 j_1 (fun _ => 0) := f_5
  have hff2 : ∀ u, nt ≤ u → u < 7 → j_1 u = -1 := f_6
  have hfg2 : ∀ u, nt ≤ u → u < 7 → j_2 u = -1 := f_7
  have hSR : SR nt (fun g9 => pcN wb wi ti dd g9 nt) (Cp nz nt (fun t9 z9 => n t9 ≤ d z9) (fun _ => 0) 0) 1000000 fg j_3 j_2 := f_8
  have hP : va_P D vwCl ((wOf o (x 0) (y 0)) ++ ((wFl x r cI cZ cQ w q d T st re rc (nI nz)) ++ ((wSt y rp rw rt cI cQ P n Wi Ti (nI nt)) ++ (wFs fx cI cZ j_1 j_2 tk (bB wb) (lI j_3))))) H := hP
  have hD : va_D A ((wOf o (x 0) (y 0)) ++ ((wFl x r cI cZ cQ w q d T st re rc (nI nz)) ++ ((wSt y rp rw rt cI cQ P n Wi Ti (nI nt)) ++ (wFs fx cI cZ j_1 j_2 tk (bB wb) (lI j_3))))) := hD
  refine lv_aload_n hx hb dX2_findLeast_17 rfl (lv_at hl 0 rfl) ?_
  refine va_get (D := D) (ci := 2) (v := .int (lI j_3)) (C := RX2) (T := TX2) (N := 5) hx hb hts tu_X2 hown hSt.1 hP 41 rfl rfl 4 (by decide) (hts _ t1_147) (fun _ h9 => h9) rfl dX2_findLeast_18 ?_
  have hP9 : va_P D vwCl ((wOf o (x 0) (y 0)) ++ ((wFl x r cI cZ cQ w q d T st re rc (nI nz)) ++ ((wSt y rp rw rt cI cQ P n Wi Ti (nI nt)) ++ (wFs fx cI cZ j_1 j_2 tk (bB wb) (lI j_3))))) H := hP
  have hD9 : va_D A ((wOf o (x 0) (y 0)) ++ ((wFl x r cI cZ cQ w q d T st re rc (nI nz)) ++ ((wSt y rp rw rt cI cQ P n Wi Ti (nI nt)) ++ (wFs fx cI cZ j_1 j_2 tk (bB wb) (lI j_3))))) := hD
  have g_9 : ∀ u, nt ≤ u → u < 7 → j_1 u = -1 := hff2
  have g_10 : ∀ u, nt ≤ u → u < 7 → j_2 u = -1 := hfg2
  have g_11 : SR nt (fun g9 => pcN wb wi ti dd g9 nt) (cmp nz nt (fun t9 z9 => n t9 ≤ d z9)) 1000000 fg j_3 j_2 := SR_congr hSR (fun g => ⟨fun q => ⟨q, fun j hj => absurd hj (by omega)⟩, fun q => q.1⟩)
  exact W.iret (v := lI j_3) hx hb hr (fun t9 ht9 hW9 => ⟨⟨lI j_3, (j_1, j_2, j_3), rfl, ⟨rfl, g_9, g_10, g_11⟩, by rw [ht9]; exact hP9, hD9⟩, hS.F ht9⟩) hS.2.2 dX2_findLeast_21
theorem hd_X2_findLeast : yX2_findLeast.cls = RX2 ∧ yX2_findLeast.cls ≠ "java/lang/invoke/MethodHandle" ∧ yX2_findLeast.cls ≠ "java/lang/invoke/VarHandle" ∧ (parseMethodDescriptor yX2_findLeast.desc).map (fun d => d.parameters.length) = some 2 := by decide +kernel
