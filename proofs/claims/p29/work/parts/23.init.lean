set_option maxHeartbeats 4000000 in
set_option maxRecDepth 100000 in
/-- Arrays.fill of an int row -/
theorem c_J7_fill_53178 (l : Launch) (D : va_G) (cI cZ cQ cJ : ClassId) (a : Nat) (N : Nat) (f : Nat → Int32) (v : Int32) (sz : Nat) (hN : N ≤ 64) : Met l yJ7_fill_53178 (.code yJ7_fill_53178 cJ7_fill_53178 4 none :: ALL) ({ frames := 0, cells := 0, slots := 0, locals := 0 } : Room) (va_Pc [.ref a, .int v] (rw_P D cI cZ cQ cJ (wAr a cI N f) sz)) (va_Qv (fun u9 : Unit => True) (rw_B D (va_A (wAr a cI N f) sz) (fun u9 : Unit => wAr a cI N (fun _ => v))) (va_A (wAr a cI N f) sz)) 0 0 (va_A (wAr a cI N f) sz) := by
  refine Met.ofW (cc := cJ7_fill_53178) (maxL := 4) (ret := none) (by decide) rfl ?_
  intro p e s m args below meth c s₁ B hml hv
  obtain ⟨rfl, hsz, hP, hSt, hD0⟩ := hv
  have hx := B.exec
  have hb := B.bytes
  have hr := B.returns
  have hts : ∀ w ∈ ALL, w.before ([.ref a, .int v] : List Value).toArray s = true := fun w h => atoms_spec (ws := (.code yJ7_fill_53178 cJ7_fill_53178 4 none :: ALL)) B.pre w (List.mem_cons_of_mem _ h)
  have hown : s.vm.findClass RJ7 = some m.cls := findClass_of_methodNamed B.named
  have hlocks := B.notSynchronized
  subst hsz
  have hD := hD0.self (sz := s.heap.size)
  clear hD0
  generalize hAe : va_A (wAr a cI N f) s.heap.size = A at hD ⊢
  have hA : ∀ q : Nat, s.heap.size ≤ q → A q := fun q h => by rw [← hAe]; exact Or.inr h
  have hS : va_S A s.heap s.heap [] := va_S.rf
  have hl := lv_entry ([.ref a, .int v]) (n := 4) (Nat.le_of_ble_eq_true rfl)
  rw [lg_entry_eq]
  generalize (lg_sl ([.ref a, .int v]) ++ List.replicate (4 - (lg_sl ([.ref a, .int v])).length) Slot.unset).toArray = ls at hl ⊢
  have hl : lv_has ls 4 [(0, .ref a), (1, .int v)] := hl
  obtain ⟨H, hHe⟩ : ∃ H : Heap, H = s.heap := ⟨_, rfl⟩
  obtain ⟨locs, hLe⟩ : ∃ L : List Loc, L = [] := ⟨_, rfl⟩
  have hP : va_P D vwCl (wAr a cI N f) H := by rw [hHe]; exact hP
  have hS : va_S A s.heap H locs := by rw [hHe, hLe]; exact hS
  refine W.eqHL hHe hLe ?_
  refine lv_iconst (v := nI 0) hx hb dJ7_fill_53178_0 (by decide) ?_
  refine lv_istore_n (lv' := [(2, .int (nI 0)), (0, .ref a), (1, .int v)]) hx hb dJ7_fill_53178_1 rfl hl (by decide) rfl (fun ls hl => ?_)
  refine lv_aload_n hx hb dJ7_fill_53178_2 rfl (lv_at hl 1 rfl) ?_
  refine va_alen hx hb hSt.1 hP 0 0 rfl rfl (v := nI N) rfl dJ7_fill_53178_3 ?_
  refine lv_istore_n (lv' := [(3, .int (nI N)), (2, .int (nI 0)), (0, .ref a), (1, .int v)]) hx hb dJ7_fill_53178_4 rfl hl (by decide) rfl (fun ls hl => ?_)
  have L5 : ∀ (n : Nat) (i : Nat) (g : Nat → Int32), (i ≤ N) → (∀ j, j < i → g j = v) → (N - i) < n → ∀ (H : Heap) (locs : List Loc), va_P D vwCl (wAr a cI N g) H → va_D A (wAr a cI N g) → va_S A s.heap H locs → ∀ (ls : Array Slot), lv_has ls 4 [(0, .ref a), (1, .int v), (2, .int (nI i)), (3, .int (nI N))] → W p l e ({ frames := 0, cells := 0, slots := 0, locals := 0 } : Room) s m ([.ref a, .int v] : List Value).toArray below meth c H locs 0 0 (MQ below (va_Qv (fun u9 : Unit => True) (rw_B D A (fun u9 : Unit => wAr a cI N (fun _ => v))) A) ([.ref a, .int v] : List Value).toArray s 0 0 A) (F0 m 5 ls []) := by
    intro n
    induction n with
    | zero =>
      intro i g hi hg hm
      exact absurd hm (by omega)
    | succ n ih =>
      intro i g hi hg hm H locs hP hD hS ls hl
      have ih_L5 := ih
      refine lv_iload_n hx hb dJ7_fill_53178_5 rfl (lv_at hl 2 rfl) ?_
      refine lv_iload_n hx hb dJ7_fill_53178_6 rfl (lv_at hl 3 rfl) ?_
      refine lv_icmp_ge (tgt := 20) hx hb dJ7_fill_53178_7 (by decide) (fun c_1 => ?_) (fun c_1 => ?_)
      · have c_1 := z_le (by omega) (by omega) c_1
        obtain ⟨hP, hD⟩ := P_fi hP hD 0 (fun _ => v) rfl (fun j hj => hg j (by omega))
        have hP : va_P D vwCl (wAr a cI N (fun _ => v)) H := hP
        have hD : va_D A (wAr a cI N (fun _ => v)) := hD
        have hP9 : va_P D vwCl (wAr a cI N (fun _ => v)) H := hP
        have hD9 : va_D A (wAr a cI N (fun _ => v)) := hD
        exact W.vret hx hb hr (fun t9 ht9 hW9 => ⟨⟨(), rfl, trivial, by rw [ht9]; exact hP9, hD9⟩, hS.F ht9⟩) hS.2.2 dJ7_fill_53178_20
      · have c_1 := z_nle (by omega) (by omega) c_1
        refine lv_aload_n hx hb dJ7_fill_53178_10 rfl (lv_at hl 0 rfl) ?_
        refine lv_iload_n hx hb dJ7_fill_53178_11 rfl (lv_at hl 2 rfl) ?_
        refine lv_iload_n hx hb dJ7_fill_53178_12 rfl (lv_at hl 1 rfl) ?_
        refine r_iast hx hb hSt.1 hP hD hS 0 0 rfl rfl (k := i) (by omega) (by omega) dJ7_fill_53178_13 (fun H locs hP hD hS => ?_)
        have hP : va_P D vwCl (wAr a cI N (upd g i v)) H := hP
        have hD : va_D A (wAr a cI N (upd g i v)) := hD
        refine lv_iinc (v := nI (i + 1)) (lv' := [(2, .int (nI (i + 1))), (0, .ref a), (1, .int v), (3, .int (nI N))]) hx hb dJ7_fill_53178_14 hl (k := 2) rfl (z_inc _) (by decide) rfl (fun ls hl => ?_)
        refine lv_goto (tgt := 5) hx hb dJ7_fill_53178_17 (by decide) ?_
        exact ih_L5 (i + 1) (upd g i v) (by omega) (fun j hj => by unfold upd; by_cases e : j = i <;> simp [e]; exact hg j (by omega)) (by omega) _ _ hP hD hS _ (lv_sub hl [1, 2, 0, 3] rfl)
  exact L5 _ 0 f (by omega) (fun j hj => absurd hj (by omega)) (Nat.lt_succ_self _) _ _ hP hD hS _ (lv_sub hl [2, 3, 1, 0] rfl)
theorem hd_J7_fill_53178 : yJ7_fill_53178.cls ≠ "java/lang/invoke/MethodHandle" ∧ yJ7_fill_53178.cls ≠ "java/lang/invoke/VarHandle" ∧ (parseMethodDescriptor yJ7_fill_53178.desc).map (fun d => d.parameters.length) = some 2 := by decide +kernel
set_option maxHeartbeats 4000000 in
set_option maxRecDepth 100000 in
/-- Placement(): no team is in a zone -/
theorem c_X4_init (l : Launch) (D : va_G) (cI cZ cQ cJ : ClassId) (a : Nat) (sz : Nat)  : Met l yX4_init (.code yX4_init cX4_init 1 none :: ALL) ({ frames := 1, cells := 1, slots := 7, locals := 23 } : Room) (va_Pc [.ref a] (rw_P D cI cZ cQ cJ ([(a, .inr (4, [.null]))] : va_W) sz)) (va_Qv (fun u9 : Nat => True) (rw_B D (va_A ([(a, .inr (4, [.null]))] : va_W) sz) (fun u9 : Nat => wPl a u9 cI (fun _ => (-1 : Int32)))) (va_A ([(a, .inr (4, [.null]))] : va_W) sz)) 1 7 (va_A ([(a, .inr (4, [.null]))] : va_W) sz) := by
  refine Met.ofW (cc := cX4_init) (maxL := 1) (ret := none) (by decide) rfl ?_
  intro p e s m args below meth c s₁ B hml hv
  obtain ⟨rfl, hsz, hP, hSt, hD0⟩ := hv
  have hx := B.exec
  have hb := B.bytes
  have hr := B.returns
  have hts : ∀ w ∈ ALL, w.before ([.ref a] : List Value).toArray s = true := fun w h => atoms_spec (ws := (.code yX4_init cX4_init 1 none :: ALL)) B.pre w (List.mem_cons_of_mem _ h)
  have hown : s.vm.findClass RX4 = some m.cls := findClass_of_methodNamed B.named
  have hlocks := B.notSynchronized
  have hin : meth.name = "<init>" := (name_of_methodNamed B.named B.method).1
  subst hsz
  have hD := hD0.self (sz := s.heap.size)
  clear hD0
  generalize hAe : va_A ([(a, .inr (4, [.null]))] : va_W) s.heap.size = A at hD ⊢
  have hA : ∀ q : Nat, s.heap.size ≤ q → A q := fun q h => by rw [← hAe]; exact Or.inr h
  have hS : va_S A s.heap s.heap [] := va_S.rf
  have hl := lv_entry ([.ref a]) (n := 1) (Nat.le_of_ble_eq_true rfl)
  rw [lg_entry_eq]
  generalize (lg_sl ([.ref a]) ++ List.replicate (1 - (lg_sl ([.ref a])).length) Slot.unset).toArray = ls at hl ⊢
  have hl : lv_has ls 1 [(0, .ref a)] := hl
  obtain ⟨H, hHe⟩ : ∃ H : Heap, H = s.heap := ⟨_, rfl⟩
  obtain ⟨locs, hLe⟩ : ∃ L : List Loc, L = [] := ⟨_, rfl⟩
  have hP : va_P D vwCl ([(a, .inr (4, [.null]))] : va_W) H := by rw [hHe]; exact hP
  have hS : va_S A s.heap H locs := by rw [hHe, hLe]; exact hS
  refine W.eqHL hHe hLe ?_
  refine lv_aload_n hx hb dX4_init_0 rfl (lv_at hl 0 rfl) ?_
  refine W.objInit hx hb hown (hts _ t1_126) (hts _ t1_24) (hts _ t1_25) rfl (by rw [hml]; exact hl.1) rfl dX4_init_1 (Nat.le_of_ble_eq_true rfl) (Nat.le_of_ble_eq_true rfl) ?_
  refine W.eq (g2 := F0 m 4 ls []) rfl ?_
  refine lv_aload_n hx hb dX4_init_4 rfl (lv_at hl 0 rfl) ?_
  refine lv_bipush (v := nI 7) hx hb dX4_init_5 (by decide) ?_
  refine r_newI hx hb (hts _ t1_73) hSt hP hD hS hA (N := 7) (by omega) (Nat.le_of_ble_eq_true rfl) (Nat.le_of_ble_eq_true rfl) dX4_init_7 (fun q_1 H hP hD hS => ?_)
  have hP : va_P D vwCl (([(a, .inr (4, [.null]))] : va_W) ++ ([(q_1, .inl (cI, 7, .inl (fun _ => nI 0)))] : va_W)) H := hP
  have hD : va_D A (([(a, .inr (4, [.null]))] : va_W) ++ ([(q_1, .inl (cI, 7, .inl (fun _ => nI 0)))] : va_W)) := hD
  refine va_putF (D := D) (ci := 4) (v := .ref q_1) (ty := (.array .int)) (C := RX4) (T := TX4) (N := 1) hx hb hts tu_X4 tyX4 tyX4_ok nmX4 hown hSt.1 hP hD hS 0 rfl rfl 0 (by decide) (hts _ t1_130) (fun _ h9 => h9) rfl hin rfl (by decide +kernel) rfl rfl (Nat.le_of_ble_eq_true rfl) dX4_init_9 (fun H locs hP hD hS => ?_)
  have hP : va_P D vwCl (([(a, .inr (4, [.ref q_1]))] : va_W) ++ ([(q_1, .inl (cI, 7, .inl (fun _ => nI 0)))] : va_W)) H := hP
  have hD : va_D A (([(a, .inr (4, [.ref q_1]))] : va_W) ++ ([(q_1, .inl (cI, 7, .inl (fun _ => nI 0)))] : va_W)) := hD
  refine lv_aload_n hx hb dX4_init_12 rfl (lv_at hl 0 rfl) ?_
  refine va_get (D := D) (ci := 4) (v := .ref q_1) (C := RX4) (T := TX4) (N := 1) hx hb hts tu_X4 hown hSt.1 hP 0 rfl rfl 0 (by decide) (hts _ t1_130) (fun _ h9 => h9) rfl dX4_init_13 ?_
  refine lv_iconst (v := (-1 : Int32)) hx hb dX4_init_16 (by decide) ?_
  refine rw_v (wr := ([(a, .inr (4, [.ref q_1]))] : va_W)) (w_SX (As := [.ref q_1, .int (-1 : Int32)]) ⟨hx, hb, hml, hown, hts⟩ (c_J7_fill_53178 l D cI cZ cQ cJ q_1 7 (fun _ => nI 0) (-1 : Int32) H.size (by first | assumption | omega)) (gSX t1_127 t1_128 t1_6 t1_129) rfl rfl hd_J7_fill_53178 ⟨Nat.le_of_ble_eq_true rfl, Nat.le_of_ble_eq_true rfl⟩ (rw_pre hP hD hSt [1] rfl (by decide)) rfl hl.1 (rest := []) rfl (Nat.le_of_ble_eq_true rfl) dX4_init_17 ⟨Nat.le_of_ble_eq_true rfl, Nat.le_of_ble_eq_true rfl⟩) hP hD hS hA [1] [0] rfl rfl (by decide) (by decide) (fun  u_2 H locs hw hP hD hS => ?_)
  have hP : va_P D vwCl (([(a, .inr (4, [.ref q_1]))] : va_W) ++ ([(q_1, .inl (cI, 7, .inl (fun _ => (-1 : Int32))))] : va_W)) H := hP.sub (ws' := ([(a, .inr (4, [.ref q_1]))] : va_W) ++ ([(q_1, .inl (cI, 7, .inl (fun _ => (-1 : Int32))))] : va_W)) [0, 1] rfl
  have hD : va_D A (([(a, .inr (4, [.ref q_1]))] : va_W) ++ ([(q_1, .inl (cI, 7, .inl (fun _ => (-1 : Int32))))] : va_W)) := hD.sub (ws' := ([(a, .inr (4, [.ref q_1]))] : va_W) ++ ([(q_1, .inl (cI, 7, .inl (fun _ => (-1 : Int32))))] : va_W)) [0, 1] (by decide) rfl
  have hP9 : va_P D vwCl (wPl a q_1 cI (fun _ => (-1 : Int32))) H := (show va_P D vwCl (wPl a q_1 cI (fun _ => (-1 : Int32))) H from hP)
  have hD9 : va_D A (wPl a q_1 cI (fun _ => (-1 : Int32))) := (show va_D A (wPl a q_1 cI (fun _ => (-1 : Int32))) from hD)
  refine W.widen (k := 1) (n := 7) (by omega) (by omega) ?_
  exact W.vret hx hb hr (fun t9 ht9 hW9 => ⟨⟨(q_1), rfl, trivial, by rw [ht9]; exact hP9, hD9⟩, hS.F ht9⟩) hS.2.2 dX4_init_20
set_option maxHeartbeats 4000000 in
set_option maxRecDepth 100000 in
/-- Change() -/
theorem c_X0_init (l : Launch) (D : va_G) (cI cZ cQ cJ : ClassId) (a : Nat) (sz : Nat)  : Met l yX0_init (.code yX0_init cX0_init 1 none :: ALL) ({ frames := 1, cells := 0, slots := 0, locals := 16 } : Room) (va_Pc [.ref a] (rw_P D cI cZ cQ cJ ([(a, .inr (0, [.int (nI 0), .int (nI 0), .int (nI 0), .int (nI 0), .int (nI 0)]))] : va_W) sz)) (va_Qv (fun u9 : Unit => True) (rw_B D (va_A ([(a, .inr (0, [.int (nI 0), .int (nI 0), .int (nI 0), .int (nI 0), .int (nI 0)]))] : va_W) sz) (fun u9 : Unit => wCh a (nI 0) (nI 0) (-1 : Int32) (nI 0) (nI 0))) (va_A ([(a, .inr (0, [.int (nI 0), .int (nI 0), .int (nI 0), .int (nI 0), .int (nI 0)]))] : va_W) sz)) 0 0 (va_A ([(a, .inr (0, [.int (nI 0), .int (nI 0), .int (nI 0), .int (nI 0), .int (nI 0)]))] : va_W) sz) := by
  refine Met.ofW (cc := cX0_init) (maxL := 1) (ret := none) (by decide) rfl ?_
  intro p e s m args below meth c s₁ B hml hv
  obtain ⟨rfl, hsz, hP, hSt, hD0⟩ := hv
  have hx := B.exec
  have hb := B.bytes
  have hr := B.returns
  have hts : ∀ w ∈ ALL, w.before ([.ref a] : List Value).toArray s = true := fun w h => atoms_spec (ws := (.code yX0_init cX0_init 1 none :: ALL)) B.pre w (List.mem_cons_of_mem _ h)
  have hown : s.vm.findClass RX0 = some m.cls := findClass_of_methodNamed B.named
  have hlocks := B.notSynchronized
  have hin : meth.name = "<init>" := (name_of_methodNamed B.named B.method).1
  subst hsz
  have hD := hD0.self (sz := s.heap.size)
  clear hD0
  generalize hAe : va_A ([(a, .inr (0, [.int (nI 0), .int (nI 0), .int (nI 0), .int (nI 0), .int (nI 0)]))] : va_W) s.heap.size = A at hD ⊢
  have hA : ∀ q : Nat, s.heap.size ≤ q → A q := fun q h => by rw [← hAe]; exact Or.inr h
  have hS : va_S A s.heap s.heap [] := va_S.rf
  have hl := lv_entry ([.ref a]) (n := 1) (Nat.le_of_ble_eq_true rfl)
  rw [lg_entry_eq]
  generalize (lg_sl ([.ref a]) ++ List.replicate (1 - (lg_sl ([.ref a])).length) Slot.unset).toArray = ls at hl ⊢
  have hl : lv_has ls 1 [(0, .ref a)] := hl
  obtain ⟨H, hHe⟩ : ∃ H : Heap, H = s.heap := ⟨_, rfl⟩
  obtain ⟨locs, hLe⟩ : ∃ L : List Loc, L = [] := ⟨_, rfl⟩
  have hP : va_P D vwCl ([(a, .inr (0, [.int (nI 0), .int (nI 0), .int (nI 0), .int (nI 0), .int (nI 0)]))] : va_W) H := by rw [hHe]; exact hP
  have hS : va_S A s.heap H locs := by rw [hHe, hLe]; exact hS
  refine W.eqHL hHe hLe ?_
  refine lv_aload_n hx hb dX0_init_0 rfl (lv_at hl 0 rfl) ?_
  refine W.objInit hx hb hown (hts _ t1_172) (hts _ t1_24) (hts _ t1_25) rfl (by rw [hml]; exact hl.1) rfl dX0_init_1 (Nat.le_of_ble_eq_true rfl) (Nat.le_of_ble_eq_true rfl) ?_
  refine W.eq (g2 := F0 m 4 ls []) rfl ?_
  refine lv_aload_n hx hb dX0_init_4 rfl (lv_at hl 0 rfl) ?_
  refine lv_iconst (v := nI 0) hx hb dX0_init_5 (by decide) ?_
  refine va_put (D := D) (ci := 0) (v := .int (nI 0)) (ty := .boolean) (C := RX0) (T := TX0) (N := 5) hx hb hts tu_X0 tyX0 tyX0_ok nmX0 hown hSt.1 hP hD hS 0 rfl rfl 0 (by decide) (hts _ t1_173) (fun _ h9 => h9) rfl (by decide +kernel) rfl rfl (Nat.le_of_ble_eq_true rfl) dX0_init_6 (fun H locs hP hD hS => ?_)
  have hP : va_P D vwCl ([(a, .inr (0, [.int (nI 0), .int (nI 0), .int (nI 0), .int (nI 0), .int (nI 0)]))] : va_W) H := hP
  have hD : va_D A ([(a, .inr (0, [.int (nI 0), .int (nI 0), .int (nI 0), .int (nI 0), .int (nI 0)]))] : va_W) := hD
  refine lv_aload_n hx hb dX0_init_9 rfl (lv_at hl 0 rfl) ?_
  refine lv_iconst (v := nI 0) hx hb dX0_init_10 (by decide) ?_
  refine va_put (D := D) (ci := 0) (v := .int (nI 0)) (ty := .int) (C := RX0) (T := TX0) (N := 5) hx hb hts tu_X0 tyX0 tyX0_ok nmX0 hown hSt.1 hP hD hS 0 rfl rfl 1 (by decide) (hts _ t1_175) (fun _ h9 => h9) rfl (by decide +kernel) rfl rfl (Nat.le_of_ble_eq_true rfl) dX0_init_11 (fun H locs hP hD hS => ?_)
  have hP : va_P D vwCl ([(a, .inr (0, [.int (nI 0), .int (nI 0), .int (nI 0), .int (nI 0), .int (nI 0)]))] : va_W) H := hP
  have hD : va_D A ([(a, .inr (0, [.int (nI 0), .int (nI 0), .int (nI 0), .int (nI 0), .int (nI 0)]))] : va_W) := hD
  refine lv_aload_n hx hb dX0_init_14 rfl (lv_at hl 0 rfl) ?_
  refine lv_iconst (v := (-1 : Int32)) hx hb dX0_init_15 (by decide) ?_
  refine va_put (D := D) (ci := 0) (v := .int (-1 : Int32)) (ty := .int) (C := RX0) (T := TX0) (N := 5) hx hb hts tu_X0 tyX0 tyX0_ok nmX0 hown hSt.1 hP hD hS 0 rfl rfl 2 (by decide) (hts _ t1_177) (fun _ h9 => h9) rfl (by decide +kernel) rfl rfl (Nat.le_of_ble_eq_true rfl) dX0_init_16 (fun H locs hP hD hS => ?_)
  have hP : va_P D vwCl ([(a, .inr (0, [.int (nI 0), .int (nI 0), .int (-1 : Int32), .int (nI 0), .int (nI 0)]))] : va_W) H := hP
  have hD : va_D A ([(a, .inr (0, [.int (nI 0), .int (nI 0), .int (-1 : Int32), .int (nI 0), .int (nI 0)]))] : va_W) := hD
  refine lv_aload_n hx hb dX0_init_19 rfl (lv_at hl 0 rfl) ?_
  refine lv_iconst (v := nI 0) hx hb dX0_init_20 (by decide) ?_
  refine va_put (D := D) (ci := 0) (v := .int (nI 0)) (ty := .int) (C := RX0) (T := TX0) (N := 5) hx hb hts tu_X0 tyX0 tyX0_ok nmX0 hown hSt.1 hP hD hS 0 rfl rfl 3 (by decide) (hts _ t1_179) (fun _ h9 => h9) rfl (by decide +kernel) rfl rfl (Nat.le_of_ble_eq_true rfl) dX0_init_21 (fun H locs hP hD hS => ?_)
  have hP : va_P D vwCl ([(a, .inr (0, [.int (nI 0), .int (nI 0), .int (-1 : Int32), .int (nI 0), .int (nI 0)]))] : va_W) H := hP
  have hD : va_D A ([(a, .inr (0, [.int (nI 0), .int (nI 0), .int (-1 : Int32), .int (nI 0), .int (nI 0)]))] : va_W) := hD
  refine lv_aload_n hx hb dX0_init_24 rfl (lv_at hl 0 rfl) ?_
  refine lv_iconst (v := nI 0) hx hb dX0_init_25 (by decide) ?_
  refine va_put (D := D) (ci := 0) (v := .int (nI 0)) (ty := .int) (C := RX0) (T := TX0) (N := 5) hx hb hts tu_X0 tyX0 tyX0_ok nmX0 hown hSt.1 hP hD hS 0 rfl rfl 4 (by decide) (hts _ t1_181) (fun _ h9 => h9) rfl (by decide +kernel) rfl rfl (Nat.le_of_ble_eq_true rfl) dX0_init_26 (fun H locs hP hD hS => ?_)
  have hP : va_P D vwCl ([(a, .inr (0, [.int (nI 0), .int (nI 0), .int (-1 : Int32), .int (nI 0), .int (nI 0)]))] : va_W) H := hP
  have hD : va_D A ([(a, .inr (0, [.int (nI 0), .int (nI 0), .int (-1 : Int32), .int (nI 0), .int (nI 0)]))] : va_W) := hD
  have hP9 : va_P D vwCl (wCh a (nI 0) (nI 0) (-1 : Int32) (nI 0) (nI 0)) H := (show va_P D vwCl (wCh a (nI 0) (nI 0) (-1 : Int32) (nI 0) (nI 0)) H from hP)
  have hD9 : va_D A (wCh a (nI 0) (nI 0) (-1 : Int32) (nI 0) (nI 0)) := (show va_D A (wCh a (nI 0) (nI 0) (-1 : Int32) (nI 0) (nI 0)) from hD)
  exact W.vret hx hb hr (fun t9 ht9 hW9 => ⟨⟨(), rfl, trivial, by rw [ht9]; exact hP9, hD9⟩, hS.F ht9⟩) hS.2.2 dX0_init_29
set_option maxHeartbeats 4000000 in
set_option maxRecDepth 100000 in
/-- Floor() -/
theorem c_X1_init (l : Launch) (D : va_G) (cI cZ cQ cJ : ClassId) (a : Nat) (sz : Nat)  : Met l yX1_init (.code yX1_init cX1_init 1 none :: ALL) ({ frames := 1, cells := 13, slots := 262, locals := 16 } : Room) (va_Pc [.ref a] (rw_P D cI cZ cQ cJ ([(a, .inr (1, [.null, .null, .null, .null, .null, .null, .int (nI 0), .int (nI 0)]))] : va_W) sz)) (va_Qv (fun u9 : (Nat → Nat) × (Nat → Nat) => u9.1 0 = a) (rw_B D (va_A ([(a, .inr (1, [.null, .null, .null, .null, .null, .null, .int (nI 0), .int (nI 0)]))] : va_W) sz) (fun u9 : (Nat → Nat) × (Nat → Nat) => wFl u9.1 u9.2 cI cZ cQ (fun _ => nI 0) (fun _ => nI 0) (fun _ => nI 0) (fun _ _ => nI 0) (fun _ => nI 0) (fun _ => nI 0) (nI 0) (nI 0))) (va_A ([(a, .inr (1, [.null, .null, .null, .null, .null, .null, .int (nI 0), .int (nI 0)]))] : va_W) sz)) 13 262 (va_A ([(a, .inr (1, [.null, .null, .null, .null, .null, .null, .int (nI 0), .int (nI 0)]))] : va_W) sz) := by
  refine Met.ofW (cc := cX1_init) (maxL := 1) (ret := none) (by decide) rfl ?_
  intro p e s m args below meth c s₁ B hml hv
  obtain ⟨rfl, hsz, hP, hSt, hD0⟩ := hv
  have hx := B.exec
  have hb := B.bytes
  have hr := B.returns
  have hts : ∀ w ∈ ALL, w.before ([.ref a] : List Value).toArray s = true := fun w h => atoms_spec (ws := (.code yX1_init cX1_init 1 none :: ALL)) B.pre w (List.mem_cons_of_mem _ h)
  have hown : s.vm.findClass RX1 = some m.cls := findClass_of_methodNamed B.named
  have hlocks := B.notSynchronized
  have hin : meth.name = "<init>" := (name_of_methodNamed B.named B.method).1
  subst hsz
  have hD := hD0.self (sz := s.heap.size)
  clear hD0
  generalize hAe : va_A ([(a, .inr (1, [.null, .null, .null, .null, .null, .null, .int (nI 0), .int (nI 0)]))] : va_W) s.heap.size = A at hD ⊢
  have hA : ∀ q : Nat, s.heap.size ≤ q → A q := fun q h => by rw [← hAe]; exact Or.inr h
  have hS : va_S A s.heap s.heap [] := va_S.rf
  have hl := lv_entry ([.ref a]) (n := 1) (Nat.le_of_ble_eq_true rfl)
  rw [lg_entry_eq]
  generalize (lg_sl ([.ref a]) ++ List.replicate (1 - (lg_sl ([.ref a])).length) Slot.unset).toArray = ls at hl ⊢
  have hl : lv_has ls 1 [(0, .ref a)] := hl
  obtain ⟨H, hHe⟩ : ∃ H : Heap, H = s.heap := ⟨_, rfl⟩
  obtain ⟨locs, hLe⟩ : ∃ L : List Loc, L = [] := ⟨_, rfl⟩
  have hP : va_P D vwCl ([(a, .inr (1, [.null, .null, .null, .null, .null, .null, .int (nI 0), .int (nI 0)]))] : va_W) H := by rw [hHe]; exact hP
  have hS : va_S A s.heap H locs := by rw [hHe, hLe]; exact hS
  refine W.eqHL hHe hLe ?_
  refine lv_aload_n hx hb dX1_init_0 rfl (lv_at hl 0 rfl) ?_
  refine W.objInit hx hb hown (hts _ t1_37) (hts _ t1_24) (hts _ t1_25) rfl (by rw [hml]; exact hl.1) rfl dX1_init_1 (Nat.le_of_ble_eq_true rfl) (Nat.le_of_ble_eq_true rfl) ?_
  refine W.eq (g2 := F0 m 4 ls []) rfl ?_
  refine lv_aload_n hx hb dX1_init_4 rfl (lv_at hl 0 rfl) ?_
  refine lv_bipush (v := nI 64) hx hb dX1_init_5 (by decide) ?_
  refine r_newZ hx hb (hts _ t1_72) hSt hP hD hS hA (N := 64) (by omega) (Nat.le_of_ble_eq_true rfl) (Nat.le_of_ble_eq_true rfl) dX1_init_7 (fun q_1 H hP hD hS => ?_)
  have hP : va_P D vwCl (([(a, .inr (1, [.null, .null, .null, .null, .null, .null, .int (nI 0), .int (nI 0)]))] : va_W) ++ ([(q_1, .inl (cZ, 64, .inl (fun _ => nI 0)))] : va_W)) H := hP
  have hD : va_D A (([(a, .inr (1, [.null, .null, .null, .null, .null, .null, .int (nI 0), .int (nI 0)]))] : va_W) ++ ([(q_1, .inl (cZ, 64, .inl (fun _ => nI 0)))] : va_W)) := hD
  refine va_putF (D := D) (ci := 1) (v := .ref q_1) (ty := (.array .boolean)) (C := RX1) (T := TX1) (N := 8) hx hb hts tu_X1 tyX1 tyX1_ok nmX1 hown hSt.1 hP hD hS 0 rfl rfl 0 (by decide) (hts _ t1_40) (fun _ h9 => h9) rfl hin rfl (by decide +kernel) rfl rfl (Nat.le_of_ble_eq_true rfl) dX1_init_9 (fun H locs hP hD hS => ?_)
  have hP : va_P D vwCl (([(a, .inr (1, [.ref q_1, .null, .null, .null, .null, .null, .int (nI 0), .int (nI 0)]))] : va_W) ++ ([(q_1, .inl (cZ, 64, .inl (fun _ => nI 0)))] : va_W)) H := hP
  have hD : va_D A (([(a, .inr (1, [.ref q_1, .null, .null, .null, .null, .null, .int (nI 0), .int (nI 0)]))] : va_W) ++ ([(q_1, .inl (cZ, 64, .inl (fun _ => nI 0)))] : va_W)) := hD
  refine lv_aload_n hx hb dX1_init_12 rfl (lv_at hl 0 rfl) ?_
  refine lv_bipush (v := nI 7) hx hb dX1_init_13 (by decide) ?_
  refine r_newI hx hb (hts _ t1_73) hSt hP hD hS hA (N := 7) (by omega) (Nat.le_of_ble_eq_true rfl) (Nat.le_of_ble_eq_true rfl) dX1_init_15 (fun q_2 H hP hD hS => ?_)
  have hP : va_P D vwCl ((([(a, .inr (1, [.ref q_1, .null, .null, .null, .null, .null, .int (nI 0), .int (nI 0)]))] : va_W) ++ ([(q_1, .inl (cZ, 64, .inl (fun _ => nI 0)))] : va_W)) ++ ([(q_2, .inl (cI, 7, .inl (fun _ => nI 0)))] : va_W)) H := hP
  have hD : va_D A ((([(a, .inr (1, [.ref q_1, .null, .null, .null, .null, .null, .int (nI 0), .int (nI 0)]))] : va_W) ++ ([(q_1, .inl (cZ, 64, .inl (fun _ => nI 0)))] : va_W)) ++ ([(q_2, .inl (cI, 7, .inl (fun _ => nI 0)))] : va_W)) := hD
  refine va_putF (D := D) (ci := 1) (v := .ref q_2) (ty := (.array .int)) (C := RX1) (T := TX1) (N := 8) hx hb hts tu_X1 tyX1 tyX1_ok nmX1 hown hSt.1 hP hD hS 0 rfl rfl 1 (by decide) (hts _ t1_41) (fun _ h9 => h9) rfl hin rfl (by decide +kernel) rfl rfl (Nat.le_of_ble_eq_true rfl) dX1_init_17 (fun H locs hP hD hS => ?_)
  have hP : va_P D vwCl ((([(a, .inr (1, [.ref q_1, .ref q_2, .null, .null, .null, .null, .int (nI 0), .int (nI 0)]))] : va_W) ++ ([(q_1, .inl (cZ, 64, .inl (fun _ => nI 0)))] : va_W)) ++ ([(q_2, .inl (cI, 7, .inl (fun _ => nI 0)))] : va_W)) H := hP
  have hD : va_D A ((([(a, .inr (1, [.ref q_1, .ref q_2, .null, .null, .null, .null, .int (nI 0), .int (nI 0)]))] : va_W) ++ ([(q_1, .inl (cZ, 64, .inl (fun _ => nI 0)))] : va_W)) ++ ([(q_2, .inl (cI, 7, .inl (fun _ => nI 0)))] : va_W)) := hD
  refine lv_aload_n hx hb dX1_init_20 rfl (lv_at hl 0 rfl) ?_
  refine lv_bipush (v := nI 7) hx hb dX1_init_21 (by decide) ?_
  refine r_newI hx hb (hts _ t1_73) hSt hP hD hS hA (N := 7) (by omega) (Nat.le_of_ble_eq_true rfl) (Nat.le_of_ble_eq_true rfl) dX1_init_23 (fun q_3 H hP hD hS => ?_)
  have hP : va_P D vwCl (((([(a, .inr (1, [.ref q_1, .ref q_2, .null, .null, .null, .null, .int (nI 0), .int (nI 0)]))] : va_W) ++ ([(q_1, .inl (cZ, 64, .inl (fun _ => nI 0)))] : va_W)) ++ ([(q_2, .inl (cI, 7, .inl (fun _ => nI 0)))] : va_W)) ++ ([(q_3, .inl (cI, 7, .inl (fun _ => nI 0)))] : va_W)) H := hP
  have hD : va_D A (((([(a, .inr (1, [.ref q_1, .ref q_2, .null, .null, .null, .null, .int (nI 0), .int (nI 0)]))] : va_W) ++ ([(q_1, .inl (cZ, 64, .inl (fun _ => nI 0)))] : va_W)) ++ ([(q_2, .inl (cI, 7, .inl (fun _ => nI 0)))] : va_W)) ++ ([(q_3, .inl (cI, 7, .inl (fun _ => nI 0)))] : va_W)) := hD
  refine va_putF (D := D) (ci := 1) (v := .ref q_3) (ty := (.array .int)) (C := RX1) (T := TX1) (N := 8) hx hb hts tu_X1 tyX1 tyX1_ok nmX1 hown hSt.1 hP hD hS 0 rfl rfl 2 (by decide) (hts _ t1_42) (fun _ h9 => h9) rfl hin rfl (by decide +kernel) rfl rfl (Nat.le_of_ble_eq_true rfl) dX1_init_25 (fun H locs hP hD hS => ?_)
  have hP : va_P D vwCl (((([(a, .inr (1, [.ref q_1, .ref q_2, .ref q_3, .null, .null, .null, .int (nI 0), .int (nI 0)]))] : va_W) ++ ([(q_1, .inl (cZ, 64, .inl (fun _ => nI 0)))] : va_W)) ++ ([(q_2, .inl (cI, 7, .inl (fun _ => nI 0)))] : va_W)) ++ ([(q_3, .inl (cI, 7, .inl (fun _ => nI 0)))] : va_W)) H := hP
  have hD : va_D A (((([(a, .inr (1, [.ref q_1, .ref q_2, .ref q_3, .null, .null, .null, .int (nI 0), .int (nI 0)]))] : va_W) ++ ([(q_1, .inl (cZ, 64, .inl (fun _ => nI 0)))] : va_W)) ++ ([(q_2, .inl (cI, 7, .inl (fun _ => nI 0)))] : va_W)) ++ ([(q_3, .inl (cI, 7, .inl (fun _ => nI 0)))] : va_W)) := hD
  refine lv_aload_n hx hb dX1_init_28 rfl (lv_at hl 0 rfl) ?_
  refine lv_bipush (v := nI 7) hx hb dX1_init_29 (by decide) ?_
  refine lv_bipush (v := nI 7) hx hb dX1_init_31 (by decide) ?_
  refine r_mna hx hb hown (hts _ t1_38) (hts _ t1_73) hSt hP hD hS hA (M := 7) (by omega) (Nat.le_of_ble_eq_true rfl) (Nat.le_of_ble_eq_true rfl) dX1_init_33 (fun q_4 r_5 H hP hD hS => ?_)
  have hP : va_P D vwCl (((((([(a, .inr (1, [.ref q_1, .ref q_2, .ref q_3, .null, .null, .null, .int (nI 0), .int (nI 0)]))] : va_W) ++ ([(q_1, .inl (cZ, 64, .inl (fun _ => nI 0)))] : va_W)) ++ ([(q_2, .inl (cI, 7, .inl (fun _ => nI 0)))] : va_W)) ++ ([(q_3, .inl (cI, 7, .inl (fun _ => nI 0)))] : va_W)) ++ ([rq q_4 cQ r_5] : va_W)) ++ (rb r_5 cI 7 (fun _ _ => nI 0) 7)) H := hP
  have hD : va_D A (((((([(a, .inr (1, [.ref q_1, .ref q_2, .ref q_3, .null, .null, .null, .int (nI 0), .int (nI 0)]))] : va_W) ++ ([(q_1, .inl (cZ, 64, .inl (fun _ => nI 0)))] : va_W)) ++ ([(q_2, .inl (cI, 7, .inl (fun _ => nI 0)))] : va_W)) ++ ([(q_3, .inl (cI, 7, .inl (fun _ => nI 0)))] : va_W)) ++ ([rq q_4 cQ r_5] : va_W)) ++ (rb r_5 cI 7 (fun _ _ => nI 0) 7)) := hD
  refine va_putF (D := D) (ci := 1) (v := .ref q_4) (ty := (.array (.array .int))) (C := RX1) (T := TX1) (N := 8) hx hb hts tu_X1 tyX1 tyX1_ok nmX1 hown hSt.1 hP hD hS 0 rfl rfl 3 (by decide) (hts _ t1_45) (fun _ h9 => h9) rfl hin rfl (by decide +kernel) rfl rfl (Nat.le_of_ble_eq_true rfl) dX1_init_37 (fun H locs hP hD hS => ?_)
  have hP : va_P D vwCl (((((([(a, .inr (1, [.ref q_1, .ref q_2, .ref q_3, .ref q_4, .null, .null, .int (nI 0), .int (nI 0)]))] : va_W) ++ ([(q_1, .inl (cZ, 64, .inl (fun _ => nI 0)))] : va_W)) ++ ([(q_2, .inl (cI, 7, .inl (fun _ => nI 0)))] : va_W)) ++ ([(q_3, .inl (cI, 7, .inl (fun _ => nI 0)))] : va_W)) ++ ([rq q_4 cQ r_5] : va_W)) ++ (rb r_5 cI 7 (fun _ _ => nI 0) 7)) H := hP
  have hD : va_D A (((((([(a, .inr (1, [.ref q_1, .ref q_2, .ref q_3, .ref q_4, .null, .null, .int (nI 0), .int (nI 0)]))] : va_W) ++ ([(q_1, .inl (cZ, 64, .inl (fun _ => nI 0)))] : va_W)) ++ ([(q_2, .inl (cI, 7, .inl (fun _ => nI 0)))] : va_W)) ++ ([(q_3, .inl (cI, 7, .inl (fun _ => nI 0)))] : va_W)) ++ ([rq q_4 cQ r_5] : va_W)) ++ (rb r_5 cI 7 (fun _ _ => nI 0) 7)) := hD
  refine lv_aload_n hx hb dX1_init_40 rfl (lv_at hl 0 rfl) ?_
  refine lv_bipush (v := nI 64) hx hb dX1_init_41 (by decide) ?_
  refine r_newI hx hb (hts _ t1_73) hSt hP hD hS hA (N := 64) (by omega) (Nat.le_of_ble_eq_true rfl) (Nat.le_of_ble_eq_true rfl) dX1_init_43 (fun q_6 H hP hD hS => ?_)
  have hP : va_P D vwCl ((((((([(a, .inr (1, [.ref q_1, .ref q_2, .ref q_3, .ref q_4, .null, .null, .int (nI 0), .int (nI 0)]))] : va_W) ++ ([(q_1, .inl (cZ, 64, .inl (fun _ => nI 0)))] : va_W)) ++ ([(q_2, .inl (cI, 7, .inl (fun _ => nI 0)))] : va_W)) ++ ([(q_3, .inl (cI, 7, .inl (fun _ => nI 0)))] : va_W)) ++ ([rq q_4 cQ r_5] : va_W)) ++ (rb r_5 cI 7 (fun _ _ => nI 0) 7)) ++ ([(q_6, .inl (cI, 64, .inl (fun _ => nI 0)))] : va_W)) H := hP
  have hD : va_D A ((((((([(a, .inr (1, [.ref q_1, .ref q_2, .ref q_3, .ref q_4, .null, .null, .int (nI 0), .int (nI 0)]))] : va_W) ++ ([(q_1, .inl (cZ, 64, .inl (fun _ => nI 0)))] : va_W)) ++ ([(q_2, .inl (cI, 7, .inl (fun _ => nI 0)))] : va_W)) ++ ([(q_3, .inl (cI, 7, .inl (fun _ => nI 0)))] : va_W)) ++ ([rq q_4 cQ r_5] : va_W)) ++ (rb r_5 cI 7 (fun _ _ => nI 0) 7)) ++ ([(q_6, .inl (cI, 64, .inl (fun _ => nI 0)))] : va_W)) := hD
  refine va_putF (D := D) (ci := 1) (v := .ref q_6) (ty := (.array .int)) (C := RX1) (T := TX1) (N := 8) hx hb hts tu_X1 tyX1 tyX1_ok nmX1 hown hSt.1 hP hD hS 0 rfl rfl 4 (by decide) (hts _ t1_48) (fun _ h9 => h9) rfl hin rfl (by decide +kernel) rfl rfl (Nat.le_of_ble_eq_true rfl) dX1_init_45 (fun H locs hP hD hS => ?_)
  have hP : va_P D vwCl ((((((([(a, .inr (1, [.ref q_1, .ref q_2, .ref q_3, .ref q_4, .ref q_6, .null, .int (nI 0), .int (nI 0)]))] : va_W) ++ ([(q_1, .inl (cZ, 64, .inl (fun _ => nI 0)))] : va_W)) ++ ([(q_2, .inl (cI, 7, .inl (fun _ => nI 0)))] : va_W)) ++ ([(q_3, .inl (cI, 7, .inl (fun _ => nI 0)))] : va_W)) ++ ([rq q_4 cQ r_5] : va_W)) ++ (rb r_5 cI 7 (fun _ _ => nI 0) 7)) ++ ([(q_6, .inl (cI, 64, .inl (fun _ => nI 0)))] : va_W)) H := hP
  have hD : va_D A ((((((([(a, .inr (1, [.ref q_1, .ref q_2, .ref q_3, .ref q_4, .ref q_6, .null, .int (nI 0), .int (nI 0)]))] : va_W) ++ ([(q_1, .inl (cZ, 64, .inl (fun _ => nI 0)))] : va_W)) ++ ([(q_2, .inl (cI, 7, .inl (fun _ => nI 0)))] : va_W)) ++ ([(q_3, .inl (cI, 7, .inl (fun _ => nI 0)))] : va_W)) ++ ([rq q_4 cQ r_5] : va_W)) ++ (rb r_5 cI 7 (fun _ _ => nI 0) 7)) ++ ([(q_6, .inl (cI, 64, .inl (fun _ => nI 0)))] : va_W)) := hD
  refine lv_aload_n hx hb dX1_init_48 rfl (lv_at hl 0 rfl) ?_
  refine lv_bipush (v := nI 64) hx hb dX1_init_49 (by decide) ?_
  refine r_newI hx hb (hts _ t1_73) hSt hP hD hS hA (N := 64) (by omega) (Nat.le_of_ble_eq_true rfl) (Nat.le_of_ble_eq_true rfl) dX1_init_51 (fun q_7 H hP hD hS => ?_)
  have hP : va_P D vwCl (((((((([(a, .inr (1, [.ref q_1, .ref q_2, .ref q_3, .ref q_4, .ref q_6, .null, .int (nI 0), .int (nI 0)]))] : va_W) ++ ([(q_1, .inl (cZ, 64, .inl (fun _ => nI 0)))] : va_W)) ++ ([(q_2, .inl (cI, 7, .inl (fun _ => nI 0)))] : va_W)) ++ ([(q_3, .inl (cI, 7, .inl (fun _ => nI 0)))] : va_W)) ++ ([rq q_4 cQ r_5] : va_W)) ++ (rb r_5 cI 7 (fun _ _ => nI 0) 7)) ++ ([(q_6, .inl (cI, 64, .inl (fun _ => nI 0)))] : va_W)) ++ ([(q_7, .inl (cI, 64, .inl (fun _ => nI 0)))] : va_W)) H := hP
  have hD : va_D A (((((((([(a, .inr (1, [.ref q_1, .ref q_2, .ref q_3, .ref q_4, .ref q_6, .null, .int (nI 0), .int (nI 0)]))] : va_W) ++ ([(q_1, .inl (cZ, 64, .inl (fun _ => nI 0)))] : va_W)) ++ ([(q_2, .inl (cI, 7, .inl (fun _ => nI 0)))] : va_W)) ++ ([(q_3, .inl (cI, 7, .inl (fun _ => nI 0)))] : va_W)) ++ ([rq q_4 cQ r_5] : va_W)) ++ (rb r_5 cI 7 (fun _ _ => nI 0) 7)) ++ ([(q_6, .inl (cI, 64, .inl (fun _ => nI 0)))] : va_W)) ++ ([(q_7, .inl (cI, 64, .inl (fun _ => nI 0)))] : va_W)) := hD
  refine va_putF (D := D) (ci := 1) (v := .ref q_7) (ty := (.array .int)) (C := RX1) (T := TX1) (N := 8) hx hb hts tu_X1 tyX1 tyX1_ok nmX1 hown hSt.1 hP hD hS 0 rfl rfl 5 (by decide) (hts _ t1_49) (fun _ h9 => h9) rfl hin rfl (by decide +kernel) rfl rfl (Nat.le_of_ble_eq_true rfl) dX1_init_53 (fun H locs hP hD hS => ?_)
  have hP : va_P D vwCl (((((((([(a, .inr (1, [.ref q_1, .ref q_2, .ref q_3, .ref q_4, .ref q_6, .ref q_7, .int (nI 0), .int (nI 0)]))] : va_W) ++ ([(q_1, .inl (cZ, 64, .inl (fun _ => nI 0)))] : va_W)) ++ ([(q_2, .inl (cI, 7, .inl (fun _ => nI 0)))] : va_W)) ++ ([(q_3, .inl (cI, 7, .inl (fun _ => nI 0)))] : va_W)) ++ ([rq q_4 cQ r_5] : va_W)) ++ (rb r_5 cI 7 (fun _ _ => nI 0) 7)) ++ ([(q_6, .inl (cI, 64, .inl (fun _ => nI 0)))] : va_W)) ++ ([(q_7, .inl (cI, 64, .inl (fun _ => nI 0)))] : va_W)) H := hP
  have hD : va_D A (((((((([(a, .inr (1, [.ref q_1, .ref q_2, .ref q_3, .ref q_4, .ref q_6, .ref q_7, .int (nI 0), .int (nI 0)]))] : va_W) ++ ([(q_1, .inl (cZ, 64, .inl (fun _ => nI 0)))] : va_W)) ++ ([(q_2, .inl (cI, 7, .inl (fun _ => nI 0)))] : va_W)) ++ ([(q_3, .inl (cI, 7, .inl (fun _ => nI 0)))] : va_W)) ++ ([rq q_4 cQ r_5] : va_W)) ++ (rb r_5 cI 7 (fun _ _ => nI 0) 7)) ++ ([(q_6, .inl (cI, 64, .inl (fun _ => nI 0)))] : va_W)) ++ ([(q_7, .inl (cI, 64, .inl (fun _ => nI 0)))] : va_W)) := hD
  refine lv_aload_n hx hb dX1_init_56 rfl (lv_at hl 0 rfl) ?_
  refine lv_iconst (v := nI 0) hx hb dX1_init_57 (by decide) ?_
  refine va_put (D := D) (ci := 1) (v := .int (nI 0)) (ty := .int) (C := RX1) (T := TX1) (N := 8) hx hb hts tu_X1 tyX1 tyX1_ok nmX1 hown hSt.1 hP hD hS 0 rfl rfl 6 (by decide) (hts _ t1_50) (fun _ h9 => h9) rfl (by decide +kernel) rfl rfl (Nat.le_of_ble_eq_true rfl) dX1_init_58 (fun H locs hP hD hS => ?_)
  have hP : va_P D vwCl (((((((([(a, .inr (1, [.ref q_1, .ref q_2, .ref q_3, .ref q_4, .ref q_6, .ref q_7, .int (nI 0), .int (nI 0)]))] : va_W) ++ ([(q_1, .inl (cZ, 64, .inl (fun _ => nI 0)))] : va_W)) ++ ([(q_2, .inl (cI, 7, .inl (fun _ => nI 0)))] : va_W)) ++ ([(q_3, .inl (cI, 7, .inl (fun _ => nI 0)))] : va_W)) ++ ([rq q_4 cQ r_5] : va_W)) ++ (rb r_5 cI 7 (fun _ _ => nI 0) 7)) ++ ([(q_6, .inl (cI, 64, .inl (fun _ => nI 0)))] : va_W)) ++ ([(q_7, .inl (cI, 64, .inl (fun _ => nI 0)))] : va_W)) H := hP
  have hD : va_D A (((((((([(a, .inr (1, [.ref q_1, .ref q_2, .ref q_3, .ref q_4, .ref q_6, .ref q_7, .int (nI 0), .int (nI 0)]))] : va_W) ++ ([(q_1, .inl (cZ, 64, .inl (fun _ => nI 0)))] : va_W)) ++ ([(q_2, .inl (cI, 7, .inl (fun _ => nI 0)))] : va_W)) ++ ([(q_3, .inl (cI, 7, .inl (fun _ => nI 0)))] : va_W)) ++ ([rq q_4 cQ r_5] : va_W)) ++ (rb r_5 cI 7 (fun _ _ => nI 0) 7)) ++ ([(q_6, .inl (cI, 64, .inl (fun _ => nI 0)))] : va_W)) ++ ([(q_7, .inl (cI, 64, .inl (fun _ => nI 0)))] : va_W)) := hD
  refine lv_aload_n hx hb dX1_init_61 rfl (lv_at hl 0 rfl) ?_
  refine lv_iconst (v := nI 0) hx hb dX1_init_62 (by decide) ?_
  refine va_put (D := D) (ci := 1) (v := .int (nI 0)) (ty := .int) (C := RX1) (T := TX1) (N := 8) hx hb hts tu_X1 tyX1 tyX1_ok nmX1 hown hSt.1 hP hD hS 0 rfl rfl 7 (by decide) (hts _ t1_51) (fun _ h9 => h9) rfl (by decide +kernel) rfl rfl (Nat.le_of_ble_eq_true rfl) dX1_init_63 (fun H locs hP hD hS => ?_)
  have hP : va_P D vwCl (((((((([(a, .inr (1, [.ref q_1, .ref q_2, .ref q_3, .ref q_4, .ref q_6, .ref q_7, .int (nI 0), .int (nI 0)]))] : va_W) ++ ([(q_1, .inl (cZ, 64, .inl (fun _ => nI 0)))] : va_W)) ++ ([(q_2, .inl (cI, 7, .inl (fun _ => nI 0)))] : va_W)) ++ ([(q_3, .inl (cI, 7, .inl (fun _ => nI 0)))] : va_W)) ++ ([rq q_4 cQ r_5] : va_W)) ++ (rb r_5 cI 7 (fun _ _ => nI 0) 7)) ++ ([(q_6, .inl (cI, 64, .inl (fun _ => nI 0)))] : va_W)) ++ ([(q_7, .inl (cI, 64, .inl (fun _ => nI 0)))] : va_W)) H := hP
  have hD : va_D A (((((((([(a, .inr (1, [.ref q_1, .ref q_2, .ref q_3, .ref q_4, .ref q_6, .ref q_7, .int (nI 0), .int (nI 0)]))] : va_W) ++ ([(q_1, .inl (cZ, 64, .inl (fun _ => nI 0)))] : va_W)) ++ ([(q_2, .inl (cI, 7, .inl (fun _ => nI 0)))] : va_W)) ++ ([(q_3, .inl (cI, 7, .inl (fun _ => nI 0)))] : va_W)) ++ ([rq q_4 cQ r_5] : va_W)) ++ (rb r_5 cI 7 (fun _ _ => nI 0) 7)) ++ ([(q_6, .inl (cI, 64, .inl (fun _ => nI 0)))] : va_W)) ++ ([(q_7, .inl (cI, 64, .inl (fun _ => nI 0)))] : va_W)) := hD
  have hP9 : va_P D vwCl (wFl (adl [a, q_1, q_2, q_3, q_4, q_6, q_7]) r_5 cI cZ cQ (fun _ => nI 0) (fun _ => nI 0) (fun _ => nI 0) (fun _ _ => nI 0) (fun _ => nI 0) (fun _ => nI 0) (nI 0) (nI 0)) H := (hP.sub (ws' := wFl (adl [a, q_1, q_2, q_3, q_4, q_6, q_7]) r_5 cI cZ cQ (fun _ => nI 0) (fun _ => nI 0) (fun _ => nI 0) (fun _ _ => nI 0) (fun _ => nI 0) (fun _ => nI 0) (nI 0) (nI 0)) [0, 1, 2, 3, 4, 12, 13, 5, 6, 7, 8, 9, 10, 11] rfl)
  have hD9 : va_D A (wFl (adl [a, q_1, q_2, q_3, q_4, q_6, q_7]) r_5 cI cZ cQ (fun _ => nI 0) (fun _ => nI 0) (fun _ => nI 0) (fun _ _ => nI 0) (fun _ => nI 0) (fun _ => nI 0) (nI 0) (nI 0)) := (hD.sub (ws' := wFl (adl [a, q_1, q_2, q_3, q_4, q_6, q_7]) r_5 cI cZ cQ (fun _ => nI 0) (fun _ => nI 0) (fun _ => nI 0) (fun _ _ => nI 0) (fun _ => nI 0) (fun _ => nI 0) (nI 0) (nI 0)) [0, 1, 2, 3, 4, 12, 13, 5, 6, 7, 8, 9, 10, 11] (by decide) rfl)
  refine W.widen (k := 13) (n := 262) (by omega) (by omega) ?_
  exact W.vret hx hb hr (fun t9 ht9 hW9 => ⟨⟨(adl [a, q_1, q_2, q_3, q_4, q_6, q_7], r_5), rfl, rfl, by rw [ht9]; exact hP9, hD9⟩, hS.F ht9⟩) hS.2.2 dX1_init_66
set_option maxHeartbeats 4000000 in
set_option maxRecDepth 100000 in
/-- Staff() -/
theorem c_X5_init (l : Launch) (D : va_G) (cI cZ cQ cJ : ClassId) (a : Nat) (sz : Nat)  : Met l yX5_init (.code yX5_init cX5_init 1 none :: ALL) ({ frames := 1, cells := 25, slots := 161, locals := 16 } : Room) (va_Pc [.ref a] (rw_P D cI cZ cQ cJ ([(a, .inr (5, [.null, .null, .null, .null, .int (nI 0)]))] : va_W) sz)) (va_Qv (fun u9 : (Nat → Nat) × (Nat → Nat) × (Nat → Nat) × (Nat → Nat) => u9.1 0 = a) (rw_B D (va_A ([(a, .inr (5, [.null, .null, .null, .null, .int (nI 0)]))] : va_W) sz) (fun u9 : (Nat → Nat) × (Nat → Nat) × (Nat → Nat) × (Nat → Nat) => wSt u9.1 u9.2.1 u9.2.2.1 u9.2.2.2 cI cQ (fun _ _ => nI 0) (fun _ => nI 0) (fun _ _ => nI 0) (fun _ _ => nI 0) (nI 0))) (va_A ([(a, .inr (5, [.null, .null, .null, .null, .int (nI 0)]))] : va_W) sz)) 25 161 (va_A ([(a, .inr (5, [.null, .null, .null, .null, .int (nI 0)]))] : va_W) sz) := by
  refine Met.ofW (cc := cX5_init) (maxL := 1) (ret := none) (by decide) rfl ?_
  intro p e s m args below meth c s₁ B hml hv
  obtain ⟨rfl, hsz, hP, hSt, hD0⟩ := hv
  have hx := B.exec
  have hb := B.bytes
  have hr := B.returns
  have hts : ∀ w ∈ ALL, w.before ([.ref a] : List Value).toArray s = true := fun w h => atoms_spec (ws := (.code yX5_init cX5_init 1 none :: ALL)) B.pre w (List.mem_cons_of_mem _ h)
  have hown : s.vm.findClass RX5 = some m.cls := findClass_of_methodNamed B.named
  have hlocks := B.notSynchronized
  have hin : meth.name = "<init>" := (name_of_methodNamed B.named B.method).1
  subst hsz
  have hD := hD0.self (sz := s.heap.size)
  clear hD0
  generalize hAe : va_A ([(a, .inr (5, [.null, .null, .null, .null, .int (nI 0)]))] : va_W) s.heap.size = A at hD ⊢
  have hA : ∀ q : Nat, s.heap.size ≤ q → A q := fun q h => by rw [← hAe]; exact Or.inr h
  have hS : va_S A s.heap s.heap [] := va_S.rf
  have hl := lv_entry ([.ref a]) (n := 1) (Nat.le_of_ble_eq_true rfl)
  rw [lg_entry_eq]
  generalize (lg_sl ([.ref a]) ++ List.replicate (1 - (lg_sl ([.ref a])).length) Slot.unset).toArray = ls at hl ⊢
  have hl : lv_has ls 1 [(0, .ref a)] := hl
  obtain ⟨H, hHe⟩ : ∃ H : Heap, H = s.heap := ⟨_, rfl⟩
  obtain ⟨locs, hLe⟩ : ∃ L : List Loc, L = [] := ⟨_, rfl⟩
  have hP : va_P D vwCl ([(a, .inr (5, [.null, .null, .null, .null, .int (nI 0)]))] : va_W) H := by rw [hHe]; exact hP
  have hS : va_S A s.heap H locs := by rw [hHe, hLe]; exact hS
  refine W.eqHL hHe hLe ?_
  refine lv_aload_n hx hb dX5_init_0 rfl (lv_at hl 0 rfl) ?_
  refine W.objInit hx hb hown (hts _ t1_79) (hts _ t1_24) (hts _ t1_25) rfl (by rw [hml]; exact hl.1) rfl dX5_init_1 (Nat.le_of_ble_eq_true rfl) (Nat.le_of_ble_eq_true rfl) ?_
  refine W.eq (g2 := F0 m 4 ls []) rfl ?_
  refine lv_aload_n hx hb dX5_init_4 rfl (lv_at hl 0 rfl) ?_
  refine lv_bipush (v := nI 7) hx hb dX5_init_5 (by decide) ?_
  refine lv_iconst (v := nI 5) hx hb dX5_init_7 (by decide) ?_
  refine r_mna hx hb hown (hts _ t1_80) (hts _ t1_73) hSt hP hD hS hA (M := 5) (by omega) (Nat.le_of_ble_eq_true rfl) (Nat.le_of_ble_eq_true rfl) dX5_init_8 (fun q_1 r_2 H hP hD hS => ?_)
  have hP : va_P D vwCl ((([(a, .inr (5, [.null, .null, .null, .null, .int (nI 0)]))] : va_W) ++ ([rq q_1 cQ r_2] : va_W)) ++ (rb r_2 cI 5 (fun _ _ => nI 0) 7)) H := hP
  have hD : va_D A ((([(a, .inr (5, [.null, .null, .null, .null, .int (nI 0)]))] : va_W) ++ ([rq q_1 cQ r_2] : va_W)) ++ (rb r_2 cI 5 (fun _ _ => nI 0) 7)) := hD
  refine va_putF (D := D) (ci := 5) (v := .ref q_1) (ty := (.array (.array .int))) (C := RX5) (T := TX5) (N := 5) hx hb hts tu_X5 tyX5 tyX5_ok nmX5 hown hSt.1 hP hD hS 0 rfl rfl 0 (by decide) (hts _ t1_81) (fun _ h9 => h9) rfl hin rfl (by decide +kernel) rfl rfl (Nat.le_of_ble_eq_true rfl) dX5_init_12 (fun H locs hP hD hS => ?_)
  have hP : va_P D vwCl ((([(a, .inr (5, [.ref q_1, .null, .null, .null, .int (nI 0)]))] : va_W) ++ ([rq q_1 cQ r_2] : va_W)) ++ (rb r_2 cI 5 (fun _ _ => nI 0) 7)) H := hP
  have hD : va_D A ((([(a, .inr (5, [.ref q_1, .null, .null, .null, .int (nI 0)]))] : va_W) ++ ([rq q_1 cQ r_2] : va_W)) ++ (rb r_2 cI 5 (fun _ _ => nI 0) 7)) := hD
  refine lv_aload_n hx hb dX5_init_15 rfl (lv_at hl 0 rfl) ?_
  refine lv_bipush (v := nI 7) hx hb dX5_init_16 (by decide) ?_
  refine r_newI hx hb (hts _ t1_73) hSt hP hD hS hA (N := 7) (by omega) (Nat.le_of_ble_eq_true rfl) (Nat.le_of_ble_eq_true rfl) dX5_init_18 (fun q_3 H hP hD hS => ?_)
  have hP : va_P D vwCl (((([(a, .inr (5, [.ref q_1, .null, .null, .null, .int (nI 0)]))] : va_W) ++ ([rq q_1 cQ r_2] : va_W)) ++ (rb r_2 cI 5 (fun _ _ => nI 0) 7)) ++ ([(q_3, .inl (cI, 7, .inl (fun _ => nI 0)))] : va_W)) H := hP
  have hD : va_D A (((([(a, .inr (5, [.ref q_1, .null, .null, .null, .int (nI 0)]))] : va_W) ++ ([rq q_1 cQ r_2] : va_W)) ++ (rb r_2 cI 5 (fun _ _ => nI 0) 7)) ++ ([(q_3, .inl (cI, 7, .inl (fun _ => nI 0)))] : va_W)) := hD
  refine va_putF (D := D) (ci := 5) (v := .ref q_3) (ty := (.array .int)) (C := RX5) (T := TX5) (N := 5) hx hb hts tu_X5 tyX5 tyX5_ok nmX5 hown hSt.1 hP hD hS 0 rfl rfl 1 (by decide) (hts _ t1_83) (fun _ h9 => h9) rfl hin rfl (by decide +kernel) rfl rfl (Nat.le_of_ble_eq_true rfl) dX5_init_20 (fun H locs hP hD hS => ?_)
  have hP : va_P D vwCl (((([(a, .inr (5, [.ref q_1, .ref q_3, .null, .null, .int (nI 0)]))] : va_W) ++ ([rq q_1 cQ r_2] : va_W)) ++ (rb r_2 cI 5 (fun _ _ => nI 0) 7)) ++ ([(q_3, .inl (cI, 7, .inl (fun _ => nI 0)))] : va_W)) H := hP
  have hD : va_D A (((([(a, .inr (5, [.ref q_1, .ref q_3, .null, .null, .int (nI 0)]))] : va_W) ++ ([rq q_1 cQ r_2] : va_W)) ++ (rb r_2 cI 5 (fun _ _ => nI 0) 7)) ++ ([(q_3, .inl (cI, 7, .inl (fun _ => nI 0)))] : va_W)) := hD
  refine lv_aload_n hx hb dX5_init_23 rfl (lv_at hl 0 rfl) ?_
  refine lv_bipush (v := nI 7) hx hb dX5_init_24 (by decide) ?_
  refine lv_bipush (v := nI 7) hx hb dX5_init_26 (by decide) ?_
  refine r_mna hx hb hown (hts _ t1_80) (hts _ t1_73) hSt hP hD hS hA (M := 7) (by omega) (Nat.le_of_ble_eq_true rfl) (Nat.le_of_ble_eq_true rfl) dX5_init_28 (fun q_4 r_5 H hP hD hS => ?_)
  have hP : va_P D vwCl (((((([(a, .inr (5, [.ref q_1, .ref q_3, .null, .null, .int (nI 0)]))] : va_W) ++ ([rq q_1 cQ r_2] : va_W)) ++ (rb r_2 cI 5 (fun _ _ => nI 0) 7)) ++ ([(q_3, .inl (cI, 7, .inl (fun _ => nI 0)))] : va_W)) ++ ([rq q_4 cQ r_5] : va_W)) ++ (rb r_5 cI 7 (fun _ _ => nI 0) 7)) H := hP
  have hD : va_D A (((((([(a, .inr (5, [.ref q_1, .ref q_3, .null, .null, .int (nI 0)]))] : va_W) ++ ([rq q_1 cQ r_2] : va_W)) ++ (rb r_2 cI 5 (fun _ _ => nI 0) 7)) ++ ([(q_3, .inl (cI, 7, .inl (fun _ => nI 0)))] : va_W)) ++ ([rq q_4 cQ r_5] : va_W)) ++ (rb r_5 cI 7 (fun _ _ => nI 0) 7)) := hD
  refine va_putF (D := D) (ci := 5) (v := .ref q_4) (ty := (.array (.array .int))) (C := RX5) (T := TX5) (N := 5) hx hb hts tu_X5 tyX5 tyX5_ok nmX5 hown hSt.1 hP hD hS 0 rfl rfl 2 (by decide) (hts _ t1_86) (fun _ h9 => h9) rfl hin rfl (by decide +kernel) rfl rfl (Nat.le_of_ble_eq_true rfl) dX5_init_32 (fun H locs hP hD hS => ?_)
  have hP : va_P D vwCl (((((([(a, .inr (5, [.ref q_1, .ref q_3, .ref q_4, .null, .int (nI 0)]))] : va_W) ++ ([rq q_1 cQ r_2] : va_W)) ++ (rb r_2 cI 5 (fun _ _ => nI 0) 7)) ++ ([(q_3, .inl (cI, 7, .inl (fun _ => nI 0)))] : va_W)) ++ ([rq q_4 cQ r_5] : va_W)) ++ (rb r_5 cI 7 (fun _ _ => nI 0) 7)) H := hP
  have hD : va_D A (((((([(a, .inr (5, [.ref q_1, .ref q_3, .ref q_4, .null, .int (nI 0)]))] : va_W) ++ ([rq q_1 cQ r_2] : va_W)) ++ (rb r_2 cI 5 (fun _ _ => nI 0) 7)) ++ ([(q_3, .inl (cI, 7, .inl (fun _ => nI 0)))] : va_W)) ++ ([rq q_4 cQ r_5] : va_W)) ++ (rb r_5 cI 7 (fun _ _ => nI 0) 7)) := hD
  refine lv_aload_n hx hb dX5_init_35 rfl (lv_at hl 0 rfl) ?_
  refine lv_bipush (v := nI 7) hx hb dX5_init_36 (by decide) ?_
  refine lv_bipush (v := nI 7) hx hb dX5_init_38 (by decide) ?_
  refine r_mna hx hb hown (hts _ t1_80) (hts _ t1_73) hSt hP hD hS hA (M := 7) (by omega) (Nat.le_of_ble_eq_true rfl) (Nat.le_of_ble_eq_true rfl) dX5_init_40 (fun q_6 r_7 H hP hD hS => ?_)
  have hP : va_P D vwCl (((((((([(a, .inr (5, [.ref q_1, .ref q_3, .ref q_4, .null, .int (nI 0)]))] : va_W) ++ ([rq q_1 cQ r_2] : va_W)) ++ (rb r_2 cI 5 (fun _ _ => nI 0) 7)) ++ ([(q_3, .inl (cI, 7, .inl (fun _ => nI 0)))] : va_W)) ++ ([rq q_4 cQ r_5] : va_W)) ++ (rb r_5 cI 7 (fun _ _ => nI 0) 7)) ++ ([rq q_6 cQ r_7] : va_W)) ++ (rb r_7 cI 7 (fun _ _ => nI 0) 7)) H := hP
  have hD : va_D A (((((((([(a, .inr (5, [.ref q_1, .ref q_3, .ref q_4, .null, .int (nI 0)]))] : va_W) ++ ([rq q_1 cQ r_2] : va_W)) ++ (rb r_2 cI 5 (fun _ _ => nI 0) 7)) ++ ([(q_3, .inl (cI, 7, .inl (fun _ => nI 0)))] : va_W)) ++ ([rq q_4 cQ r_5] : va_W)) ++ (rb r_5 cI 7 (fun _ _ => nI 0) 7)) ++ ([rq q_6 cQ r_7] : va_W)) ++ (rb r_7 cI 7 (fun _ _ => nI 0) 7)) := hD
  refine va_putF (D := D) (ci := 5) (v := .ref q_6) (ty := (.array (.array .int))) (C := RX5) (T := TX5) (N := 5) hx hb hts tu_X5 tyX5 tyX5_ok nmX5 hown hSt.1 hP hD hS 0 rfl rfl 3 (by decide) (hts _ t1_90) (fun _ h9 => h9) rfl hin rfl (by decide +kernel) rfl rfl (Nat.le_of_ble_eq_true rfl) dX5_init_44 (fun H locs hP hD hS => ?_)
  have hP : va_P D vwCl (((((((([(a, .inr (5, [.ref q_1, .ref q_3, .ref q_4, .ref q_6, .int (nI 0)]))] : va_W) ++ ([rq q_1 cQ r_2] : va_W)) ++ (rb r_2 cI 5 (fun _ _ => nI 0) 7)) ++ ([(q_3, .inl (cI, 7, .inl (fun _ => nI 0)))] : va_W)) ++ ([rq q_4 cQ r_5] : va_W)) ++ (rb r_5 cI 7 (fun _ _ => nI 0) 7)) ++ ([rq q_6 cQ r_7] : va_W)) ++ (rb r_7 cI 7 (fun _ _ => nI 0) 7)) H := hP
  have hD : va_D A (((((((([(a, .inr (5, [.ref q_1, .ref q_3, .ref q_4, .ref q_6, .int (nI 0)]))] : va_W) ++ ([rq q_1 cQ r_2] : va_W)) ++ (rb r_2 cI 5 (fun _ _ => nI 0) 7)) ++ ([(q_3, .inl (cI, 7, .inl (fun _ => nI 0)))] : va_W)) ++ ([rq q_4 cQ r_5] : va_W)) ++ (rb r_5 cI 7 (fun _ _ => nI 0) 7)) ++ ([rq q_6 cQ r_7] : va_W)) ++ (rb r_7 cI 7 (fun _ _ => nI 0) 7)) := hD
  refine lv_aload_n hx hb dX5_init_47 rfl (lv_at hl 0 rfl) ?_
  refine lv_iconst (v := nI 0) hx hb dX5_init_48 (by decide) ?_
  refine va_put (D := D) (ci := 5) (v := .int (nI 0)) (ty := .int) (C := RX5) (T := TX5) (N := 5) hx hb hts tu_X5 tyX5 tyX5_ok nmX5 hown hSt.1 hP hD hS 0 rfl rfl 4 (by decide) (hts _ t1_92) (fun _ h9 => h9) rfl (by decide +kernel) rfl rfl (Nat.le_of_ble_eq_true rfl) dX5_init_49 (fun H locs hP hD hS => ?_)
  have hP : va_P D vwCl (((((((([(a, .inr (5, [.ref q_1, .ref q_3, .ref q_4, .ref q_6, .int (nI 0)]))] : va_W) ++ ([rq q_1 cQ r_2] : va_W)) ++ (rb r_2 cI 5 (fun _ _ => nI 0) 7)) ++ ([(q_3, .inl (cI, 7, .inl (fun _ => nI 0)))] : va_W)) ++ ([rq q_4 cQ r_5] : va_W)) ++ (rb r_5 cI 7 (fun _ _ => nI 0) 7)) ++ ([rq q_6 cQ r_7] : va_W)) ++ (rb r_7 cI 7 (fun _ _ => nI 0) 7)) H := hP
  have hD : va_D A (((((((([(a, .inr (5, [.ref q_1, .ref q_3, .ref q_4, .ref q_6, .int (nI 0)]))] : va_W) ++ ([rq q_1 cQ r_2] : va_W)) ++ (rb r_2 cI 5 (fun _ _ => nI 0) 7)) ++ ([(q_3, .inl (cI, 7, .inl (fun _ => nI 0)))] : va_W)) ++ ([rq q_4 cQ r_5] : va_W)) ++ (rb r_5 cI 7 (fun _ _ => nI 0) 7)) ++ ([rq q_6 cQ r_7] : va_W)) ++ (rb r_7 cI 7 (fun _ _ => nI 0) 7)) := hD
  have hP9 : va_P D vwCl (wSt (adl [a, q_1, q_3, q_4, q_6]) r_2 r_5 r_7 cI cQ (fun _ _ => nI 0) (fun _ => nI 0) (fun _ _ => nI 0) (fun _ _ => nI 0) (nI 0)) H := (hP.sub (ws' := wSt (adl [a, q_1, q_3, q_4, q_6]) r_2 r_5 r_7 cI cQ (fun _ _ => nI 0) (fun _ => nI 0) (fun _ _ => nI 0) (fun _ _ => nI 0) (nI 0)) [0, 1, 9, 10, 18, 2, 3, 4, 5, 6, 7, 8, 11, 12, 13, 14, 15, 16, 17, 19, 20, 21, 22, 23, 24, 25] rfl)
  have hD9 : va_D A (wSt (adl [a, q_1, q_3, q_4, q_6]) r_2 r_5 r_7 cI cQ (fun _ _ => nI 0) (fun _ => nI 0) (fun _ _ => nI 0) (fun _ _ => nI 0) (nI 0)) := (hD.sub (ws' := wSt (adl [a, q_1, q_3, q_4, q_6]) r_2 r_5 r_7 cI cQ (fun _ _ => nI 0) (fun _ => nI 0) (fun _ _ => nI 0) (fun _ _ => nI 0) (nI 0)) [0, 1, 9, 10, 18, 2, 3, 4, 5, 6, 7, 8, 11, 12, 13, 14, 15, 16, 17, 19, 20, 21, 22, 23, 24, 25] (by decide) rfl)
  refine W.widen (k := 25) (n := 161) (by omega) (by omega) ?_
  exact W.vret hx hb hr (fun t9 ht9 hW9 => ⟨⟨(adl [a, q_1, q_3, q_4, q_6], r_2, r_5, r_7), rfl, rfl, by rw [ht9]; exact hP9, hD9⟩, hS.F ht9⟩) hS.2.2 dX5_init_52
theorem hd_X4_init : yX4_init.name = "<init>" ∧ yX4_init.cls ≠ "java/lang/invoke/MethodHandle" ∧ yX4_init.cls ≠ "java/lang/invoke/VarHandle" ∧ (parseMethodDescriptor yX4_init.desc).map (fun d => d.parameters.length) = some 0 := by decide +kernel
theorem hd_X0_init : yX0_init.name = "<init>" ∧ yX0_init.cls ≠ "java/lang/invoke/MethodHandle" ∧ yX0_init.cls ≠ "java/lang/invoke/VarHandle" ∧ (parseMethodDescriptor yX0_init.desc).map (fun d => d.parameters.length) = some 0 := by decide +kernel
theorem hd_X1_init : yX1_init.name = "<init>" ∧ yX1_init.cls ≠ "java/lang/invoke/MethodHandle" ∧ yX1_init.cls ≠ "java/lang/invoke/VarHandle" ∧ (parseMethodDescriptor yX1_init.desc).map (fun d => d.parameters.length) = some 0 := by decide +kernel
theorem hd_X5_init : yX5_init.name = "<init>" ∧ yX5_init.cls ≠ "java/lang/invoke/MethodHandle" ∧ yX5_init.cls ≠ "java/lang/invoke/VarHandle" ∧ (parseMethodDescriptor yX5_init.desc).map (fun d => d.parameters.length) = some 0 := by decide +kernel
