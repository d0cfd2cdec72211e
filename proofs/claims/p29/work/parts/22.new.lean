/-! rows that make: arrays, arrays of arrays; calls of constructors -/
/-- addresses, listed -/
def adl (l : List Nat) : Nat → Nat := fun k => l.getD k 0
theorem ar_I {D : va_G} {cI cZ cQ cJ cA : ClassId} {s : State} {tys : List (ClassId × FieldType)} (hSt : St D cI cZ cQ cJ s) (hK : va_K D vwCl tys s) (k : Nat) (h : tys[k]? = some (cA, .int)) : cI = cA := Option.some.inj ((hSt.1.2 0 _ rfl).2.symm.trans (hK.2 k _ h).2)
theorem ar_Z {D : va_G} {cI cZ cQ cJ cA : ClassId} {s : State} {tys : List (ClassId × FieldType)} (hSt : St D cI cZ cQ cJ s) (hK : va_K D vwCl tys s) (k : Nat) (h : tys[k]? = some (cA, .boolean)) : cZ = cA := Option.some.inj ((hSt.1.2 1 _ rfl).2.symm.trans (hK.2 k _ h).2)
theorem ar_Q {D : va_G} {cI cZ cQ cJ cA : ClassId} {s : State} {tys : List (ClassId × FieldType)} (hSt : St D cI cZ cQ cJ s) (hK : va_K D vwCl tys s) (k : Nat) (h : tys[k]? = some (cA, .array .int)) : cQ = cA := Option.some.inj ((hSt.1.2 2 _ rfl).2.symm.trans (hK.2 k _ h).2)
section NEW
variable {p : Program} {l : Launch} {e : Env} {R : Room} {s : State} {m : MethodId} {args : Array Value} {below : List Frame} {meth : Method} {c : Code} {H : Heap} {locs : List Loc} {cells slots : Nat} {Q : State → Prop}
variable {cc : ByteArray} {pc : Nat} {ls : Array Slot} {rest st0 : List Value} {D : va_G} {A : Nat → Prop} {a : Nat} {ws : va_W} {H0 : Heap}
variable {cI cZ cQ cJ : ClassId}
theorem r_newI (hexec : p.tables.exec = Jvm.exec) (hb : c.code = cc) (harr : (Cond.arrayClass .int).before args s = true) (hSt : St D cI cZ cQ cJ s) (hP : va_P D vwCl ws H) (hD : va_D A ws) (hS : va_S A H0 H locs) (hA : ∀ q, H0.size ≤ q → A q)
    {N : Nat} (hN : N < 2 ^ 20) (hcells : cells + 1 ≤ R.cells) (hslots : slots + N ≤ R.slots) (hdg : decode cc pc = .ok (.newarray .int, 2))
    (kk : ∀ (q : Nat) (H1 : Heap), va_P D vwCl (ws ++ [(q, .inl (cI, N, .inl (fun _ => nI 0)))]) H1 → va_D A (ws ++ [(q, .inl (cI, N, .inl (fun _ => nI 0)))]) → va_S A H0 H1 locs →
      W p l e R s m args below meth c H1 locs (cells + 1) (slots + N) Q (F0 m (pc + 2) ls (.ref q :: rest))) : W p l e R s m args below meth c H locs cells slots Q (F0 m pc ls (.int (nI N) :: rest)) := by
  refine va_newa (atype := .int) (ty := .int) (a0 := (N, .inl (fun _ => nI 0))) (N' := N) hexec hb harr rfl hSt.1 hP hD hS hA (fun _ => rfl) (nI_pos (by omega)) (nI_clamp (by omega)) (by show N * 4 ≤ _; omega) hcells hslots hdg (fun q cA H1 hK1 hP1 hD1 hS1 => ?_)
  obtain rfl : cI = cA := ar_I hSt hK1 4 rfl
  exact kk q H1 hP1 hD1 hS1
theorem r_newZ (hexec : p.tables.exec = Jvm.exec) (hb : c.code = cc) (harr : (Cond.arrayClass .boolean).before args s = true) (hSt : St D cI cZ cQ cJ s) (hP : va_P D vwCl ws H) (hD : va_D A ws) (hS : va_S A H0 H locs) (hA : ∀ q, H0.size ≤ q → A q)
    {N : Nat} (hN : N < 2 ^ 20) (hcells : cells + 1 ≤ R.cells) (hslots : slots + N ≤ R.slots) (hdg : decode cc pc = .ok (.newarray .boolean, 2))
    (kk : ∀ (q : Nat) (H1 : Heap), va_P D vwCl (ws ++ [(q, .inl (cZ, N, .inl (fun _ => nI 0)))]) H1 → va_D A (ws ++ [(q, .inl (cZ, N, .inl (fun _ => nI 0)))]) → va_S A H0 H1 locs →
      W p l e R s m args below meth c H1 locs (cells + 1) (slots + N) Q (F0 m (pc + 2) ls (.ref q :: rest))) : W p l e R s m args below meth c H locs cells slots Q (F0 m pc ls (.int (nI N) :: rest)) := by
  refine va_newa (atype := .boolean) (ty := .boolean) (a0 := (N, .inl (fun _ => nI 0))) (N' := N) hexec hb harr rfl hSt.1 hP hD hS hA (fun _ => rfl) (nI_pos (by omega)) (nI_clamp (by omega)) (by show N * 1 ≤ _; omega) hcells hslots hdg (fun q cA H1 hK1 hP1 hD1 hS1 => ?_)
  obtain rfl : cZ = cA := ar_Z hSt hK1 4 rfl
  exact kk q H1 hP1 hD1 hS1
theorem rb_pl {r : Nat → Nat} {cI : ClassId} {M : Nat} {f : Nat → va_E} : va_pl ([] ++ (List.range 7).map r) (vr_up f ((List.range 7).map r) (.inl (cI, M, .inl (fun _ => nI 0)))) = rb r cI M (fun _ _ => nI 0) 7 := by
  rw [List.nil_append]
  unfold va_pl rb
  rw [List.map_map]
  apply List.map_congr_left
  intro i hi
  show (r i, vr_up f _ _ (r i)) = _
  rw [vr_up_in (List.mem_map.mpr ⟨i, hi, rfl⟩)]
/-- new int[7][M] -/
theorem r_mna (hexec : p.tables.exec = Jvm.exec) (hb : c.code = cc) {own : String} {idx : Nat} (hown : s.vm.findClass own = some m.cls) (hclink : (Cond.classLink own idx "[[I").before args s = true) (harr : (Cond.arrayClass .int).before args s = true) (hSt : St D cI cZ cQ cJ s) (hP : va_P D vwCl ws H) (hD : va_D A ws) (hS : va_S A H0 H locs) (hA : ∀ q, H0.size ≤ q → A q)
    {M : Nat} (hM : M < 2 ^ 20) (hcells : cells + 8 ≤ R.cells) (hslots : slots + (7 + 7 * M) ≤ R.slots) (hdg : decode cc pc = .ok (.multianewarray idx 2, 4))
    (kk : ∀ (q : Nat) (r : Nat → Nat) (H1 : Heap), va_P D vwCl ((ws ++ [rq q cQ r]) ++ rb r cI M (fun _ _ => nI 0) 7) H1 → va_D A ((ws ++ [rq q cQ r]) ++ rb r cI M (fun _ _ => nI 0) 7) → va_S A H0 H1 locs →
      W p l e R s m args below meth c H1 locs (cells + 8) (slots + (7 + 7 * M)) Q (F0 m (pc + 4) ls (.ref q :: rest))) : W p l e R s m args below meth c H locs cells slots Q (F0 m pc ls (.int (nI M) :: .int (nI 7) :: rest)) := by
  have hcy : s.vm.findClass (FieldType.array FieldType.int).toString = some cI := by
    have h := (hSt.1.2 0 _ rfl).2
    have h2 : s.vm.findClass ("[" ++ FieldType.int.toString) = some cI := h
    exact h2
  have e0 : ws ++ va_pl [] (fun _ => .inr (0, [])) = ws := List.append_nil ws
  refine va_mna (X := ws) (L := []) (f := fun _ => .inr (0, [])) (ty := .int) (N' := 7) (K' := M) (z := (M, .inl (fun _ => nI 0))) hexec hb hown hclink hSt.2.a harr hcy hSt.1 (by rw [e0]; exact hP) (by rw [e0]; exact hD) hS hA (nI_pos (by omega)) (nI_pos (by omega)) (nI_clamp (by omega)) (nI_clamp (by omega)) (by omega) (by show M * 4 ≤ _; omega) (by omega) rfl rfl (by omega) hslots (fun c => arrV_new c M _) hdg (fun q r cA H1 hr1 hr2 hK1 hP1 hD1 hS1 => ?_)
  obtain rfl : cQ = cA := ar_Q hSt hK1 4 rfl
  have h := kk q r H1 (by rw [← rb_pl]; exact hP1) (by rw [← rb_pl]; exact hD1) hS1
  rw [show cells + 1 + 7 = cells + 8 from rfl, show slots + 7 + 7 * M = slots + (7 + 7 * M) by omega]
  exact h
/-- a constructor of the class's own nest, called -/
theorem w_IN {own host : String} {idx nL maxL n mc ms : Nat} {y : MethodName} {bytes : ByteArray} {rm : Room} {wc : va_W} {sz : Nat} {b : Addr} {As : List Value} {Qc : Array Value → State → Outcome → State → Prop} {free : Addr → Prop}
    (S : CallFix p m c cc nL s args ALL own) (hM : Met l y (Cond.code y bytes maxL none :: ALL) rm (va_Pc (.ref b :: As) (rw_P D cI cZ cQ cJ wc sz)) Qc mc ms free)
    (hl : va_Nw (.methodLinkNest own idx y host) s) (h2 : Cond.instanceMethod y ∈ ALL) (h4 : Cond.initialized y.cls ∈ ALL) (h5 : Cond.code y bytes maxL none ∈ ALL) (hrc : rm.cells = mc) (hrs : rm.slots = ms)
    (hd : y.name = "<init>" ∧ y.cls ≠ "java/lang/invoke/MethodHandle" ∧ y.cls ≠ "java/lang/invoke/VarHandle" ∧ (parseMethodDescriptor y.desc).map (fun d => d.parameters.length) = some n) (hR : rm.frames + 1 ≤ R.frames ∧ 8 + (maxL + 11) + rm.locals ≤ R.locals)
    (hpre : ∀ U : State, U.heap = H → s.WarmedH U.vm → va_Pc (.ref b :: As) (rw_P D cI cZ cQ cJ wc sz) (.ref b :: As : List Value).toArray U)
    (hn : As.length = n) (hsize : ls.size = nL) (hstack : st0 = As.reverse ++ .ref b :: rest) (hW : (rest.map fun v => v.category).sum ≤ 8) (hdg : decode cc pc = .ok (.invokespecial idx, 3)) (hf : cells + mc ≤ R.cells ∧ slots + ms ≤ R.slots) :
    va_Run p l e R s m args below meth c H locs cells slots mc ms (F0 m pc ls st0) rest (Qc (.ref b :: As : List Value).toArray) free := by
  obtain ⟨hx, hb, hml, hown, hts⟩ := id S
  exact va_runIN (As := As) (rest := rest) S hM ⟨va_cnB n hts (gC h5) rfl hrc hrs hl (hts _ h4) hd.2 hR, hd.1, hts _ h2⟩ ⟨rw_blind, hpre⟩ rfl hn hsize hstack (lv_room hW) hdg hf
theorem w_I {own : String} {idx nL maxL n mc ms : Nat} {y : MethodName} {bytes : ByteArray} {rm : Room} {wc : va_W} {sz : Nat} {b : Addr} {As : List Value} {Qc : Array Value → State → Outcome → State → Prop} {free : Addr → Prop}
    (S : CallFix p m c cc nL s args ALL own) (hM : Met l y (Cond.code y bytes maxL none :: ALL) rm (va_Pc (.ref b :: As) (rw_P D cI cZ cQ cJ wc sz)) Qc mc ms free)
    (hl : Cond.methodLink own idx y ∈ ALL) (h2 : Cond.instanceMethod y ∈ ALL) (h4 : Cond.initialized y.cls ∈ ALL) (h5 : Cond.code y bytes maxL none ∈ ALL) (hrc : rm.cells = mc) (hrs : rm.slots = ms)
    (hd : y.name = "<init>" ∧ y.cls ≠ "java/lang/invoke/MethodHandle" ∧ y.cls ≠ "java/lang/invoke/VarHandle" ∧ (parseMethodDescriptor y.desc).map (fun d => d.parameters.length) = some n) (hR : rm.frames + 1 ≤ R.frames ∧ 8 + (maxL + 11) + rm.locals ≤ R.locals)
    (hpre : ∀ U : State, U.heap = H → s.WarmedH U.vm → va_Pc (.ref b :: As) (rw_P D cI cZ cQ cJ wc sz) (.ref b :: As : List Value).toArray U)
    (hn : As.length = n) (hsize : ls.size = nL) (hstack : st0 = As.reverse ++ .ref b :: rest) (hW : (rest.map fun v => v.category).sum ≤ 8) (hdg : decode cc pc = .ok (.invokespecial idx, 3)) (hf : cells + mc ≤ R.cells ∧ slots + ms ≤ R.slots) :
    va_Run p l e R s m args below meth c H locs cells slots mc ms (F0 m pc ls st0) rest (Qc (.ref b :: As : List Value).toArray) free := by
  obtain ⟨hx, hb, hml, hown, hts⟩ := id S
  exact va_runI (As := As) (rest := rest) S hM (cwI n hts (gC h5) rfl hrc hrs (hts _ h4) (hts _ hl) (hts _ h2) hd.1 hd.2 hR) ⟨rw_blind, hpre⟩ rfl hn hsize hstack (lv_room hW) hdg hf
/-- a static method of another class, called -/
theorem w_SX {own : String} {idx nL maxL n mc ms : Nat} {y : MethodName} {bytes : ByteArray} {ret : Option FieldType} {rm : Room} {wc : va_W} {sz : Nat} {As : List Value} {Qc : Array Value → State → Outcome → State → Prop} {free : Addr → Prop}
    (S : CallFix p m c cc nL s args ALL own) (hM : Met l y (Cond.code y bytes maxL ret :: ALL) rm (va_Pc As (rw_P D cI cZ cQ cJ wc sz)) Qc mc ms free)
    (hG : GoodIn ALL (va_wsS own idx y (Cond.code y bytes maxL ret :: ALL))) (hrc : rm.cells = mc) (hrs : rm.slots = ms)
    (hd : y.cls ≠ "java/lang/invoke/MethodHandle" ∧ y.cls ≠ "java/lang/invoke/VarHandle" ∧ (parseMethodDescriptor y.desc).map (fun d => d.parameters.length) = some n) (hR : rm.frames + 1 ≤ R.frames ∧ 8 + (maxL + 11) + rm.locals ≤ R.locals)
    (hpre : ∀ U : State, U.heap = H → s.WarmedH U.vm → va_Pc As (rw_P D cI cZ cQ cJ wc sz) As.toArray U)
    (hn : As.length = n) (hsize : ls.size = nL) (hstack : st0 = As.reverse ++ rest) (hW : (rest.map fun v => v.category).sum ≤ 8) (hdg : decode cc pc = .ok (.invokestatic idx, 3)) (hf : cells + mc ≤ R.cells ∧ slots + ms ≤ R.slots) :
    va_Run p l e R s m args below meth c H locs cells slots mc ms (F0 m pc ls st0) rest (Qc As.toArray) free := by
  obtain ⟨hx, hb, hml, hown, hts⟩ := id S
  exact va_runS (As := As) (rest := rest) S hM (va_cwS n hts hG rfl hrc hrs hd hR) ⟨rw_blind, hpre⟩ rfl hn hsize hstack (lv_room hW) hdg hf
end NEW
theorem gSX {own : String} {idx : Nat} {y : MethodName} {cc : ByteArray} {n : Nat} {r : Option FieldType} (h1 : Cond.methodLink own idx y ∈ ALL) (h2 : Cond.static y ∈ ALL) (h3 : Cond.initialized y.cls ∈ ALL) (h5 : Cond.code y cc n r ∈ ALL) : GoodIn ALL (va_wsS own idx y (Cond.code y cc n r :: ALL)) := by
  intro w hw
  rcases List.mem_append.mp hw with h | h
  · simp only [List.mem_cons, List.not_mem_nil, or_false] at h
    rcases h with rfl | rfl | rfl
    · exact ⟨h1, ALL_good h1⟩
    · exact ⟨h2, ALL_good h2⟩
    · exact ⟨h3, ALL_good h3⟩
  · rcases List.mem_cons.mp h with rfl | h
    · exact ⟨h5, ALL_good h5⟩
    · exact ⟨h, ALL_good h⟩
