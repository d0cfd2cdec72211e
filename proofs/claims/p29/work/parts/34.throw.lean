section
/-! what throws -/
def ax_N : List String := ["java/lang/RuntimeException", "java/lang/Exception"]
/-- words of throws that the method's own list doesn't have -/
def Dcl : List MethodName := [⟨"java/lang/RuntimeException", "<init>", "(Ljava/lang/String;)V"⟩, ⟨"java/lang/Exception", "<init>", "(Ljava/lang/String;)V"⟩, ⟨"java/lang/Throwable", "<init>", "(Ljava/lang/String;)V"⟩]
def Dc (U : State) : Prop := ∀ y ∈ Dcl, va_Nw (.declares y) U
theorem Dc.warm {s U : State} (hW : s.WarmedH U.vm) (h : Dc s) : Dc U := fun y hy => va_Nw.warmD hW (h y hy)
theorem Dc.same {u U : State} (hv : u.vm = U.vm) (h : Dc u) : Dc U := fun y hy => va_Nw.same rfl hv (h y hy)
/-- the two statics of Throwable -/
def ZQ (A : Nat → Prop) (U : State) (H : Heap) : Prop := vx_Zq Bundle.tN "UNASSIGNED_STACK" Bundle.steD A U H ∧ vx_Zq Bundle.tN "SUPPRESSED_SENTINEL" Bundle.listD A U H
theorem ZQ.moved {A : Nat → Prop} {u U : State} {H : Heap} (hvm : u.vm.Alike U.vm) (h : ZQ A u H) : ZQ A U H := ⟨vx_Zq.moved hvm h.1, vx_Zq.moved hvm h.2⟩
theorem ZQ.kept {A : Nat → Prop} {U : State} {H H1 : Heap} (h : ZQ A U H) (hq : ∀ a : Nat, a < H.size → ¬ A a → H1[a]? = H[a]?) : ZQ A U H1 := ⟨vx_Zq.kept h.1 hq, vx_Zq.kept h.2 hq⟩
theorem ZQ.narrow {A B : Nat → Prop} {U : State} {H : Heap} (h : ZQ A U H) (hAB : ∀ q, B q → A q) : ZQ B U H := ⟨vx_Zq.narrow h.1 hAB, vx_Zq.narrow h.2 hAB⟩
theorem ax_of {L : List Cond} (ps : List Nat) (h : L.filter goodWord = ps.filterMap (fun i => lw_tbl[i]?)) : ∀ w ∈ L.filter goodWord, w ∈ ALL := fun w hw => by
  have hg := (List.mem_filter.mp hw).2
  rw [h] at hw
  obtain ⟨i, -, hi⟩ := List.mem_filterMap.mp hw
  exact List.mem_filter.mpr ⟨List.mem_of_getElem? hi, hg⟩
set_option maxRecDepth 100000 in
theorem ax_w0 : (vx_atS "DeskPlanner" 213 "java/lang/IndexOutOfBoundsException" ax_N).filter goodWord = ([29, 341, 350, 354, 357, 359, 342, 343, 43, 44, 344, 349, 355, 375, 331, 376, 333, 377, 335, 345, 347, 337, 371, 372, 374, 337, 362, 363, 364, 365, 365, 366, 367, 368, 368, 369, 370, 371, 361, 320, 328, 329, 330, 332, 334, 336, 340, 339, 338] : List Nat).filterMap (fun i => lw_tbl[i]?) := by decide +kernel
set_option maxRecDepth 100000 in
theorem ax_b0 : ∀ w ∈ (vx_atS "DeskPlanner" 213 "java/lang/IndexOutOfBoundsException" ax_N).filter (fun w => !goodWord w), w ∈ Cond.castable "java/lang/IndexOutOfBoundsException" "java/lang/IndexOutOfBoundsException" :: Dcl.map Cond.declares := by decide +kernel
set_option maxRecDepth 100000 in
theorem ax_g0 : ∀ w ∈ Cond.classLink "DeskPlanner" 209 "java/lang/IndexOutOfBoundsException" :: Cond.initialized "java/lang/IndexOutOfBoundsException" :: vx_atS "DeskPlanner" 213 "java/lang/IndexOutOfBoundsException" ax_N, vx_ot w = true := by decide +kernel
set_option maxRecDepth 100000 in
theorem ax_w1 : (vx_atS "DeskPlanner" 141 "java/lang/IllegalArgumentException" ax_N).filter goodWord = ([29, 341, 350, 354, 357, 359, 342, 343, 43, 44, 344, 349, 355, 375, 331, 376, 333, 377, 335, 345, 347, 337, 371, 372, 374, 337, 451, 452, 453, 365, 365, 366, 367, 368, 368, 369, 370, 371, 450, 441, 443, 352, 444, 445, 446, 447, 340, 339, 448] : List Nat).filterMap (fun i => lw_tbl[i]?) := by decide +kernel
set_option maxRecDepth 100000 in
theorem ax_b1 : ∀ w ∈ (vx_atS "DeskPlanner" 141 "java/lang/IllegalArgumentException" ax_N).filter (fun w => !goodWord w), w ∈ Cond.castable "java/lang/IllegalArgumentException" "java/lang/IllegalArgumentException" :: Dcl.map Cond.declares := by decide +kernel
set_option maxRecDepth 100000 in
theorem ax_g1 : ∀ w ∈ Cond.classLink "DeskPlanner" 137 "java/lang/IllegalArgumentException" :: Cond.initialized "java/lang/IllegalArgumentException" :: vx_atS "DeskPlanner" 141 "java/lang/IllegalArgumentException" ax_N, vx_ot w = true := by decide +kernel
set_option maxRecDepth 100000 in
theorem ax_w2 : (vx_atS "DeskPlanner" 58 "java/lang/IllegalStateException" ax_N).filter goodWord = ([29, 341, 350, 354, 357, 359, 342, 343, 43, 44, 344, 349, 355, 375, 331, 376, 333, 377, 335, 345, 347, 337, 371, 372, 374, 337, 405, 406, 407, 365, 365, 366, 367, 368, 368, 369, 370, 371, 404, 395, 397, 353, 398, 399, 400, 401, 340, 339, 402] : List Nat).filterMap (fun i => lw_tbl[i]?) := by decide +kernel
set_option maxRecDepth 100000 in
theorem ax_b2 : ∀ w ∈ (vx_atS "DeskPlanner" 58 "java/lang/IllegalStateException" ax_N).filter (fun w => !goodWord w), w ∈ Cond.castable "java/lang/IllegalStateException" "java/lang/IllegalStateException" :: Dcl.map Cond.declares := by decide +kernel
set_option maxRecDepth 100000 in
theorem ax_g2 : ∀ w ∈ Cond.classLink "DeskPlanner" 54 "java/lang/IllegalStateException" :: Cond.initialized "java/lang/IllegalStateException" :: vx_atS "DeskPlanner" 58 "java/lang/IllegalStateException" ax_N, vx_ot w = true := by decide +kernel
theorem ax_h {s : State} {args : Array Value} (hts : ∀ w ∈ ALL, w.before args s = true) (hK : nl_K s) (hD : Dc s) (k : Nat) {E : String} (hk : nl_E[k]? = some E) {L : List Cond} (ps : List Nat) (h1 : L.filter goodWord = ps.filterMap (fun i => lw_tbl[i]?)) (h2 : ∀ w ∈ L.filter (fun w => !goodWord w), w ∈ Cond.castable E E :: Dcl.map Cond.declares) : ∀ w ∈ L, w.before args s = true :=
  vx_hat (fun w hw => hts w (ax_of ps h1 w hw)) h2 (fun w hw => by
    rcases List.mem_cons.mp hw with rfl | hw
    · exact hK.e k hk
    · obtain ⟨y, hy, rfl⟩ := List.mem_map.mp hw
      exact va_Nw.use rfl (hD y hy))
theorem ax_f0 : Bundle.fit "java/lang/IndexOutOfBoundsException" = true := by decide +kernel
theorem ax_f1 : Bundle.fit "java/lang/IllegalArgumentException" = true := by decide +kernel
theorem ax_f2 : Bundle.fit "java/lang/IllegalStateException" = true := by decide +kernel
theorem ax_fN : ∀ n ∈ ax_N, Bundle.fit n = true := by decide +kernel
end
section RX
variable {p : Program} {l : Launch} {e : Env} {R : Room} {s : State} {m : MethodId} {args : Array Value} {below : List Frame} {meth : Method} {c : Code} {H : Heap} {locs : List Loc} {cells slots : Nat} {Q : State → Prop}
variable {cc : ByteArray} {pc : Nat} {ls : Array Slot} {rest st0 : List Value} {D : va_G} {A : Nat → Prop} {a : Nat} {ws : va_W} {H0 : Heap}
variable {cI cZ cQ cJ : ClassId}
variable {Qc : Array Value → State → Outcome → State → Prop} {XC : String → State → State → Prop} {free : Addr → Prop}
/-- throw new java/lang/IndexOutOfBoundsException(text) -/
theorem tw_0 (hexec : p.tables.exec = Jvm.exec) (hb : c.code = cc) (hl : l.stackTraces = false) (hown : s.vm.findClass "DeskPlanner" = some m.cls) (hts : ∀ w ∈ ALL, w.before args s = true) (hSt : St D cI cZ cQ cJ s) (hDc : Dc s) (hZ : ZQ A s s.heap) (hS : va_S A s.heap H locs) (hsize : ls.size = c.maxLocals) (k : Nat) {is : Nat} {tx : String} (hk : nl_S[k]? = some (is, tx)) {mc ms : Nat}
    (d0 : decode cc pc = .ok (.new 209, 3)) (d3 : decode cc (pc + 3) = .ok (.dup, 1)) (d4 : decode cc (pc + 4) = .ok (.ldc is, 2)) (d6 : decode cc (pc + 6) = .ok (.invokespecial 213, 3)) (d9 : decode cc (pc + 9) = .ok (.athrow, 1))
    (ht : ∀ x ∈ c.exceptionTable.toList, False) (hRframes : 5 < R.frames) (hRlocals : (rest.map fun v => v.category).sum + 82 ≤ R.locals) (hRcells : cells + 1 ≤ R.cells) (hRslots : slots + 6 ≤ R.slots) (hlocks : meth.locks = false)
    (hx : ∀ t : State, s.vm.Alike t.vm → H.size ≤ t.heap.size → (∀ q : Nat, q < H.size → t.heap[q]? = H[q]?) → XC "java/lang/IndexOutOfBoundsException" s t)
    (hf : ∀ z ∈ locs, free z.base) (hc : cells + 1 ≤ mc) (hs : slots + 6 ≤ ms) :
    W p l e R s m args below meth c H locs cells slots (vx_MQ below Qc XC args s mc ms free) (F0 m pc ls rest) := by
  obtain ⟨sa, hsa⟩ := hSt.2.s k hk
  exact vx_throwS (names := ax_N) hexec hb hl hown ax_f0 ax_fN (hts _ t2_60) (hts _ t1_13) hsa (ax_h hts hSt.2 hDc 0 rfl _ ax_w0 ax_b0) ax_g0 hZ.1 hZ.2 hS hsize d0 d3 d4 d6 d9 (fun x hx => (ht x hx).elim) hRframes hRlocals hRcells hRslots hlocks hx hf hc hs
/-- throw new java/lang/IllegalArgumentException(text) -/
theorem tw_1 (hexec : p.tables.exec = Jvm.exec) (hb : c.code = cc) (hl : l.stackTraces = false) (hown : s.vm.findClass "DeskPlanner" = some m.cls) (hts : ∀ w ∈ ALL, w.before args s = true) (hSt : St D cI cZ cQ cJ s) (hDc : Dc s) (hZ : ZQ A s s.heap) (hS : va_S A s.heap H locs) (hsize : ls.size = c.maxLocals) (k : Nat) {is : Nat} {tx : String} (hk : nl_S[k]? = some (is, tx)) {mc ms : Nat}
    (d0 : decode cc pc = .ok (.new 137, 3)) (d3 : decode cc (pc + 3) = .ok (.dup, 1)) (d4 : decode cc (pc + 4) = .ok (.ldc is, 2)) (d6 : decode cc (pc + 6) = .ok (.invokespecial 141, 3)) (d9 : decode cc (pc + 9) = .ok (.athrow, 1))
    (ht : ∀ x ∈ c.exceptionTable.toList, False) (hRframes : 5 < R.frames) (hRlocals : (rest.map fun v => v.category).sum + 82 ≤ R.locals) (hRcells : cells + 1 ≤ R.cells) (hRslots : slots + 6 ≤ R.slots) (hlocks : meth.locks = false)
    (hx : ∀ t : State, s.vm.Alike t.vm → H.size ≤ t.heap.size → (∀ q : Nat, q < H.size → t.heap[q]? = H[q]?) → XC "java/lang/IllegalArgumentException" s t)
    (hf : ∀ z ∈ locs, free z.base) (hc : cells + 1 ≤ mc) (hs : slots + 6 ≤ ms) :
    W p l e R s m args below meth c H locs cells slots (vx_MQ below Qc XC args s mc ms free) (F0 m pc ls rest) := by
  obtain ⟨sa, hsa⟩ := hSt.2.s k hk
  exact vx_throwS (names := ax_N) hexec hb hl hown ax_f1 ax_fN (hts _ t2_181) (hts _ t1_15) hsa (ax_h hts hSt.2 hDc 1 rfl _ ax_w1 ax_b1) ax_g1 hZ.1 hZ.2 hS hsize d0 d3 d4 d6 d9 (fun x hx => (ht x hx).elim) hRframes hRlocals hRcells hRslots hlocks hx hf hc hs
/-- throw new java/lang/IllegalStateException(text) -/
theorem tw_2 (hexec : p.tables.exec = Jvm.exec) (hb : c.code = cc) (hl : l.stackTraces = false) (hown : s.vm.findClass "DeskPlanner" = some m.cls) (hts : ∀ w ∈ ALL, w.before args s = true) (hSt : St D cI cZ cQ cJ s) (hDc : Dc s) (hZ : ZQ A s s.heap) (hS : va_S A s.heap H locs) (hsize : ls.size = c.maxLocals) (k : Nat) {is : Nat} {tx : String} (hk : nl_S[k]? = some (is, tx)) {mc ms : Nat}
    (d0 : decode cc pc = .ok (.new 54, 3)) (d3 : decode cc (pc + 3) = .ok (.dup, 1)) (d4 : decode cc (pc + 4) = .ok (.ldc is, 2)) (d6 : decode cc (pc + 6) = .ok (.invokespecial 58, 3)) (d9 : decode cc (pc + 9) = .ok (.athrow, 1))
    (ht : ∀ x ∈ c.exceptionTable.toList, False) (hRframes : 5 < R.frames) (hRlocals : (rest.map fun v => v.category).sum + 82 ≤ R.locals) (hRcells : cells + 1 ≤ R.cells) (hRslots : slots + 6 ≤ R.slots) (hlocks : meth.locks = false)
    (hx : ∀ t : State, s.vm.Alike t.vm → H.size ≤ t.heap.size → (∀ q : Nat, q < H.size → t.heap[q]? = H[q]?) → XC "java/lang/IllegalStateException" s t)
    (hf : ∀ z ∈ locs, free z.base) (hc : cells + 1 ≤ mc) (hs : slots + 6 ≤ ms) :
    W p l e R s m args below meth c H locs cells slots (vx_MQ below Qc XC args s mc ms free) (F0 m pc ls rest) := by
  obtain ⟨sa, hsa⟩ := hSt.2.s k hk
  exact vx_throwS (names := ax_N) hexec hb hl hown ax_f2 ax_fN (hts _ t2_135) (hts _ t1_14) hsa (ax_h hts hSt.2 hDc 2 rfl _ ax_w2 ax_b2) ax_g2 hZ.1 hZ.2 hS hsize d0 d3 d4 d6 d9 (fun x hx => (ht x hx).elim) hRframes hRlocals hRcells hRslots hlocks hx hf hc hs
abbrev rx_P (D : va_G) (cI cZ cQ cJ : ClassId) (wc : va_W) (sz : Nat) : State → Prop := fun U => (U.heap.size = sz ∧ va_P D vwCl wc U.heap ∧ St D cI cZ cQ cJ U ∧ va_D (fun _ => True) wc) ∧ Dc U ∧ ZQ (va_A wc sz) U U.heap
theorem rx_blind {wc : va_W} {sz : Nat} {av : List Value} : FrameBlind (va_Pc av (rx_P D cI cZ cQ cJ wc sz)) := fun a U g mk q => ⟨q.1, ⟨q.2.1.1, q.2.1.2.1, St.same (u := U) (U := U.calling g mk a) rfl q.2.1.2.2.1, q.2.1.2.2.2⟩, Dc.same (u := U) (U := U.calling g mk a) rfl q.2.2.1, ZQ.moved (u := U) (U := U.calling g mk a) (by rw [show (U.calling g mk a).vm = U.vm from rfl]; exact Vm.Alike.refl U.vm) q.2.2.2⟩
/-- where a method has thrown E: its world -/
abbrev rx_X {T : Type} (px : String → T → Prop) (D : va_G) (A : Nat → Prop) (B : T → va_W) : String → State → State → Prop := vx_X (fun _ : T => True) (fun E u t => px E u ∧ va_P D vwCl (B u) t.heap ∧ va_D A (B u)) A
theorem rx_pre {wc : va_W} {As : List Value} (hP : va_P D vwCl ws H) (hD : va_D A ws) (hSt : St D cI cZ cQ cJ s) (hDc : Dc s) (hZ : ZQ A s s.heap) (hS : va_S A s.heap H locs) (hA : ∀ q, s.heap.size ≤ q → A q) (isC : List Nat) (hC : isC.map (fun i => ws[i]?) = wc.map some) (hnd : va_nd isC = true) : ∀ U : State, U.heap = H → s.WarmedH U.vm → va_Pc As (rx_P D cI cZ cQ cJ wc H.size) As.toArray U := by
  intro U hU hW
  have hF := va_free (wc := wc) hD hS hA isC hC
  refine ⟨rfl, (rw_pre (As := As) hP hD hSt isC hC hnd U hU hW).2, Dc.warm hW hDc, ?_⟩
  have h1 : ZQ A s H := hZ.kept hS.2.1
  have h2 : ZQ (va_A wc H.size) s H := h1.narrow hF
  rw [hU]
  exact h2.moved hW.alike
theorem rx_i {T TX : Type} {mc ms : Nat} {wc wr : va_W} {av : Array Value} {post : Int32 → T → Prop} {B : T → va_W} {px : String → TX → Prop} {BX : TX → va_W}
    (hr : vx_Run p l e R s m args below meth c H locs cells slots mc ms (F0 m pc ls st0) rest (va_Qi post (rw_B D (va_A wc H.size) B) (va_A wc H.size) av) (rx_X px D (va_A wc H.size) BX) (va_A wc H.size))
    (hP : va_P D vwCl ws H) (hD : va_D A ws) (hS : va_S A H0 H locs) (hA : ∀ q, H0.size ≤ q → A q) (isC isR : List Nat) (hC : isC.map (fun i => ws[i]?) = wc.map some) (hR : isR.map (fun i => ws[i]?) = wr.map some) (hn : va_nd isR = true) (hdis : ∀ i ∈ isR, i ∉ isC)
    (kx : ∀ (E : String) (ce : Cell) (q9 : Addr) (u : TX) (H : Heap) (locs : List Loc), px E u → va_P D vwCl (wr ++ BX u) H → va_D A (wr ++ BX u) → va_S A H0 H locs → H[q9]? = some ce → ce.vm = .none → s.vm.findClass E = some ce.cls → vx_W p l e R s m args below meth c H locs (cells + mc) (slots + ms) Q (F0 m pc ls rest) q9)
    (kk : ∀ (r : Int32) (u : T) (H : Heap) (locs : List Loc), post r u → va_P D vwCl (wr ++ B u) H → va_D A (wr ++ B u) → va_S A H0 H locs → W p l e R s m args below meth c H locs (cells + mc) (slots + ms) Q (F0 m (pc + 3) ls (.int r :: rest))) : W p l e R s m args below meth c H locs cells slots Q (F0 m pc ls st0) := by
  have hF := va_free (wc := wc) hD hS hA isC hC
  refine vx_calli hr hS (fun q _ h => hF q h) hF (fun q _ h => hF q h) (fun E ce q9 u t H1 locs1 ht hvm hw hB hz1 hk1 hS1 hc1 hc2 hc3 => ?_) (fun r u t H1 locs1 ht hvm hw hB hz1 hk1 hS1 => ?_)
  · obtain ⟨hp1, hP1, hD1⟩ := hB
    rw [ht] at hP1
    obtain ⟨hP2, hD2⟩ := va_join (wr := wr) (w1 := BX u) hP hD isC isR hC hR hn hdis hk1 hF hP1 hD1
    exact kx E ce q9 u H1 locs1 hp1 hP2 hD2 hS1 hc1 hc2 hc3
  · obtain ⟨hP1, hD1⟩ := hB
    rw [ht] at hP1
    obtain ⟨hP2, hD2⟩ := va_join (wr := wr) (w1 := B u) hP hD isC isR hC hR hn hdis hk1 hF hP1 hD1
    exact kk r u H1 locs1 hw hP2 hD2 hS1
theorem rx_v {T TX : Type} {mc ms : Nat} {wc wr : va_W} {av : Array Value} {post : T → Prop} {B : T → va_W} {px : String → TX → Prop} {BX : TX → va_W}
    (hr : vx_Run p l e R s m args below meth c H locs cells slots mc ms (F0 m pc ls st0) rest (va_Qv post (rw_B D (va_A wc H.size) B) (va_A wc H.size) av) (rx_X px D (va_A wc H.size) BX) (va_A wc H.size))
    (hP : va_P D vwCl ws H) (hD : va_D A ws) (hS : va_S A H0 H locs) (hA : ∀ q, H0.size ≤ q → A q) (isC isR : List Nat) (hC : isC.map (fun i => ws[i]?) = wc.map some) (hR : isR.map (fun i => ws[i]?) = wr.map some) (hn : va_nd isR = true) (hdis : ∀ i ∈ isR, i ∉ isC)
    (kx : ∀ (E : String) (ce : Cell) (q9 : Addr) (u : TX) (H : Heap) (locs : List Loc), px E u → va_P D vwCl (wr ++ BX u) H → va_D A (wr ++ BX u) → va_S A H0 H locs → H[q9]? = some ce → ce.vm = .none → s.vm.findClass E = some ce.cls → vx_W p l e R s m args below meth c H locs (cells + mc) (slots + ms) Q (F0 m pc ls rest) q9)
    (kk : ∀ (u : T) (H : Heap) (locs : List Loc), post u → va_P D vwCl (wr ++ B u) H → va_D A (wr ++ B u) → va_S A H0 H locs → W p l e R s m args below meth c H locs (cells + mc) (slots + ms) Q (F0 m (pc + 3) ls rest)) : W p l e R s m args below meth c H locs cells slots Q (F0 m pc ls st0) := by
  have hF := va_free (wc := wc) hD hS hA isC hC
  refine vx_callv hr hS (fun q _ h => hF q h) hF (fun q _ h => hF q h) (fun E ce q9 u t H1 locs1 ht hvm hw hB hz1 hk1 hS1 hc1 hc2 hc3 => ?_) (fun u t H1 locs1 ht hvm hw hB hz1 hk1 hS1 => ?_)
  · obtain ⟨hp1, hP1, hD1⟩ := hB
    rw [ht] at hP1
    obtain ⟨hP2, hD2⟩ := va_join (wr := wr) (w1 := BX u) hP hD isC isR hC hR hn hdis hk1 hF hP1 hD1
    exact kx E ce q9 u H1 locs1 hp1 hP2 hD2 hS1 hc1 hc2 hc3
  · obtain ⟨hP1, hD1⟩ := hB
    rw [ht] at hP1
    obtain ⟨hP2, hD2⟩ := va_join (wr := wr) (w1 := B u) hP hD isC isR hC hR hn hdis hk1 hF hP1 hD1
    exact kk u H1 locs1 hw hP2 hD2 hS1
/-- what a callee has thrown goes on to the caller -/
theorem rx_on {TX : Type} {px : String → TX → Prop} {BX : TX → va_W} {E : String} {ce : Cell} {q : Addr} {u : TX} {mc ms : Nat} (ht : ∀ x ∈ c.exceptionTable.toList, False) (hlocks : meth.locks = false) (hp : px E u) (hP : va_P D vwCl (BX u) H) (hD : va_D A (BX u)) (hS : va_S A s.heap H locs) (hcell : H[q]? = some ce) (hv : ce.vm = .none) (hcl : s.vm.findClass E = some ce.cls) (hc : cells ≤ mc) (hs : slots ≤ ms) :
    vx_W p l e R s m args below meth c H locs cells slots (vx_MQ below Qc (rx_X px D A BX) args s mc ms A) (F0 m pc ls rest) q :=
  vx_out (fun x hx => (ht x hx).elim) hlocks hcell hv hcl (fun t hth _ => ⟨u, trivial, ⟨hp, by rw [hth]; exact hP, hD⟩, ⟨by rw [hth]; exact hS.1, fun q hq hA => by rw [hth]; exact hS.2.1 q hq hA⟩⟩) hS.2.2 hc hs
/-- thrown here -/
theorem rx_new {TX : Type} {px : String → TX → Prop} {BX : TX → va_W} {E : String} {u : TX} (hp : px E u) (hP : va_P D vwCl (BX u) H) (hD : va_D A (BX u)) (hS : va_S A s.heap H locs) : ∀ t : State, s.vm.Alike t.vm → H.size ≤ t.heap.size → (∀ q : Nat, q < H.size → t.heap[q]? = H[q]?) → rx_X px D A BX E s t :=
  fun t _ hz hk => ⟨u, trivial, ⟨hp, hP.kept (fun k q hq => hk q.1 (vx_lt hP hq)), hD⟩, ⟨Nat.le_trans hS.1 hz, fun q hq hA => by rw [hk q (Nat.lt_of_lt_of_le hq hS.1)]; exact hS.2.1 q hq hA⟩⟩
theorem w_VX {own C : String} {idx nL maxL n mc ms : Nat} {y : MethodName} {bytes : ByteArray} {ret : Option FieldType} {rm : Room} {wc : va_W} {sz : Nat} {b : Addr} {As : List Value}
    (S : CallFix p m c cc nL s args ALL own) (hM : vx_Met l y (Cond.code y bytes maxL ret :: ALL) rm (va_Pc (.ref b :: As) (rx_P D cI cZ cQ cJ wc sz)) Qc XC mc ms free)
    (hG : GoodIn ALL (wsV own idx C y (Cond.code y bytes maxL ret :: ALL))) (hrc : rm.cells = mc) (hrs : rm.slots = ms)
    (hd : y.cls = C ∧ y.cls ≠ "java/lang/invoke/MethodHandle" ∧ y.cls ≠ "java/lang/invoke/VarHandle" ∧ (parseMethodDescriptor y.desc).map (fun d => d.parameters.length) = some n) (hR : rm.frames + 1 ≤ R.frames ∧ 8 + (maxL + 11) + rm.locals ≤ R.locals)
    (hpre : ∀ U : State, U.heap = H → s.WarmedH U.vm → va_Pc (.ref b :: As) (rx_P D cI cZ cQ cJ wc sz) (.ref b :: As : List Value).toArray U) (hv : ∃ cell : Cell, H[b]? = some cell ∧ cell.vm.isStatics = false ∧ s.vm.findClass C = some cell.cls)
    (hn : As.length = n) (hsize : ls.size = nL) (hstack : st0 = As.reverse ++ .ref b :: rest) (hW : (rest.map fun v => v.category).sum ≤ 8) (hdg : decode cc pc = .ok (.invokevirtual idx, 3)) (hf : cells + mc ≤ R.cells ∧ slots + ms ≤ R.slots) :
    vx_Run p l e R s m args below meth c H locs cells slots mc ms (F0 m pc ls st0) rest (Qc (.ref b :: As : List Value).toArray) XC free := by
  obtain ⟨hx, hb, hml, hown, hts⟩ := id S
  exact vx_runV (As := As) (rest := rest) S hM (cwV n hts hG rfl hrc hrs hd hR) ⟨rx_blind, hv, hpre⟩ rfl hn hsize hstack (lv_room hW) hdg hf
end RX
section
/-! numbers in a range -/
def inN (z : Int32) (n : Nat) : Prop := ∃ k, k < n ∧ z = nI k
def inR (v : Int32) (lo hi : Nat) : Prop := ∃ k, lo ≤ k ∧ k ≤ hi ∧ v = nI k
theorem inN_lo {z : Int32} {n : Nat} (hn : n < 2 ^ 31) (h : z < 0) : ¬ inN z n := fun ⟨k, h1, h2⟩ => nI_pos (n := k) (by omega) (by rw [← h2]; exact h)
theorem inN_hi {z : Int32} {n : Nat} (hn : n < 2 ^ 31) (h : nI n ≤ z) : ¬ inN z n := fun ⟨k, h1, h2⟩ => by
  rw [h2] at h
  have := z_le (by omega) (by omega) h
  omega
theorem inN_ok {z : Int32} {n : Nat} (hn : n < 2 ^ 31) (h : ¬ z < 0) (h2 : ¬ nI n ≤ z) : inN z n := by
  obtain ⟨j, h3, h4⟩ := nI_of h
  rw [h4] at h2
  exact ⟨j, z_nle (by omega) (by omega) h2, h4⟩
theorem inR_lo {v : Int32} {lo hi : Nat} (hh : hi < 2 ^ 31) (h : v < nI lo) : ¬ inR v lo hi := fun ⟨k, h1, h2, h3⟩ => by
  rw [h3] at h
  have := z_lt (by omega) (by omega) h
  omega
theorem inR_hi {v : Int32} {lo hi : Nat} (hh : hi < 2 ^ 31) (h : nI hi < v) : ¬ inR v lo hi := fun ⟨k, h1, h2, h3⟩ => by
  rw [h3] at h
  have := z_lt (by omega) (by omega) h
  omega
theorem inR_ok {v : Int32} {lo hi : Nat} (hl : lo < 2 ^ 31) (hh : hi < 2 ^ 31) (h : ¬ v < nI lo) (h2 : ¬ nI hi < v) : inR v lo hi := by
  have h0 : ¬ v < 0 := fun q => h (Int32.lt_of_lt_of_le q (nI_pos' hl))
  obtain ⟨j, h3, h4⟩ := nI_of h0
  rw [h4] at h h2
  exact ⟨j, z_nlt (by omega) (by omega) h, z_nlt (by omega) (by omega) h2, h4⟩
end
