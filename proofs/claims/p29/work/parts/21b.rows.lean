theorem va_P_nil {D : va_G} {cl : List vw_C} {H : Heap} : va_P D cl [] H := fun k q h => by simp at h
theorem z_inck (k a : Nat) : nI a + Int32.ofInt (k : Int) = nI (a + k) := by
  rw [show Int32.ofInt (k : Int) = nI k from rfl, nI_add]
theorem at_l {a b : va_W} {i : Nat} {q : Nat × va_E} (h : a[i]? = some q) : (a ++ b)[i]? = some q := by
  rw [List.getElem?_append_left (List.getElem?_eq_some_iff.mp h).1]
  exact h
theorem at_r {a b : va_W} {i : Nat} {q : Nat × va_E} (h : b[i]? = some q) : (a ++ b)[a.length + i]? = some q := by
  rw [List.getElem?_append_right (Nat.le_add_right _ _), Nat.add_sub_cancel_left]
  exact h
theorem set_l {a b a' : va_W} {i : Nat} {q x : Nat × va_E} (h : a[i]? = some q) (e : a.set i x = a') : (a ++ b).set i x = a' ++ b := by
  rw [List.set_append_left _ _ (List.getElem?_eq_some_iff.mp h).1, e]
theorem set_r {a b b' : va_W} {i : Nat} {x : Nat × va_E} (e : b.set i x = b') : (a ++ b).set (a.length + i) x = a ++ b' := by
  rw [List.set_append_right _ _ (Nat.le_add_right _ _), Nat.add_sub_cancel_left, e]
theorem wFl_T {x r : Nat → Nat} {cI cZ cQ : ClassId} {w q d : Nat → Int32} {T : Nat → Nat → Int32} {st re : Nat → Int32} {rc nz : Int32} {k : Nat} (hk : k < 7) : (wFl x r cI cZ cQ w q d T st re rc nz)[7 + k]? = some (r k, .inl (cI, 7, .inl (T k))) := rb_get rfl hk
theorem wFl_Ts {x r : Nat → Nat} {cI cZ cQ : ClassId} {w q d : Nat → Int32} {T : Nat → Nat → Int32} {st re : Nat → Int32} {rc nz : Int32} {k j : Nat} {v : Int32} (hk : k < 7) : (wFl x r cI cZ cQ w q d T st re rc nz).set (7 + k) (r k, .inl (cI, 7, .inl (upd (T k) j v))) = wFl x r cI cZ cQ w q d (u2 T k j v) st re rc nz := rb_set rfl hk
theorem wSt_P {x rp rw rt : Nat → Nat} {cI cQ : ClassId} {P : Nat → Nat → Int32} {n : Nat → Int32} {Wi Ti : Nat → Nat → Int32} {nt : Int32} {k : Nat} (hk : k < 7) : (wSt x rp rw rt cI cQ P n Wi Ti nt)[5 + k]? = some (rp k, .inl (cI, 5, .inl (P k))) := rb_get rfl hk
theorem wSt_Ps {x rp rw rt : Nat → Nat} {cI cQ : ClassId} {P : Nat → Nat → Int32} {n : Nat → Int32} {Wi Ti : Nat → Nat → Int32} {nt : Int32} {k j : Nat} {v : Int32} (hk : k < 7) : (wSt x rp rw rt cI cQ P n Wi Ti nt).set (5 + k) (rp k, .inl (cI, 5, .inl (upd (P k) j v))) = wSt x rp rw rt cI cQ (u2 P k j v) n Wi Ti nt := rb_set rfl hk
theorem wSt_W {x rp rw rt : Nat → Nat} {cI cQ : ClassId} {P : Nat → Nat → Int32} {n : Nat → Int32} {Wi Ti : Nat → Nat → Int32} {nt : Int32} {k : Nat} (hk : k < 7) : (wSt x rp rw rt cI cQ P n Wi Ti nt)[5 + (7 + k)]? = some (rw k, .inl (cI, 7, .inl (Wi k))) := by
  have h := at_r (a := [(x 0, .inr (5, [.ref (x 1), .ref (x 2), .ref (x 3), .ref (x 4), .int nt])), rq (x 1) cQ rp, (x 2, .inl (cI, 7, .inl n)), rq (x 3) cQ rw, rq (x 4) cQ rt]) (rb_get (X := rb rp cI 5 P 7) (Y := rb rt cI 7 Ti 7 ++ []) (r := rw) (cI := cI) (m := 7) (F := Wi) (x := 7) (rb_len _ _ _ _ _) hk)
  exact h
theorem wSt_Ws {x rp rw rt : Nat → Nat} {cI cQ : ClassId} {P : Nat → Nat → Int32} {n : Nat → Int32} {Wi Ti : Nat → Nat → Int32} {nt : Int32} {k j : Nat} {v : Int32} (hk : k < 7) : (wSt x rp rw rt cI cQ P n Wi Ti nt).set (5 + (7 + k)) (rw k, .inl (cI, 7, .inl (upd (Wi k) j v))) = wSt x rp rw rt cI cQ P n (u2 Wi k j v) Ti nt := by
  have h := set_r (a := [(x 0, .inr (5, [.ref (x 1), .ref (x 2), .ref (x 3), .ref (x 4), .int nt])), rq (x 1) cQ rp, (x 2, .inl (cI, 7, .inl n)), rq (x 3) cQ rw, rq (x 4) cQ rt]) (rb_set (X := rb rp cI 5 P 7) (Y := rb rt cI 7 Ti 7 ++ []) (r := rw) (cI := cI) (m := 7) (F := Wi) (x := 7) (j := j) (v := v) (rb_len _ _ _ _ _) hk)
  exact h
theorem wSt_T {x rp rw rt : Nat → Nat} {cI cQ : ClassId} {P : Nat → Nat → Int32} {n : Nat → Int32} {Wi Ti : Nat → Nat → Int32} {nt : Int32} {k : Nat} (hk : k < 7) : (wSt x rp rw rt cI cQ P n Wi Ti nt)[5 + (7 + (7 + k))]? = some (rt k, .inl (cI, 7, .inl (Ti k))) := by
  have h0 := at_r (a := rb rp cI 5 P 7) (rb_get (X := rb rw cI 7 Wi 7) (Y := []) (r := rt) (cI := cI) (m := 7) (F := Ti) (x := 7) (rb_len _ _ _ _ _) hk)
  rw [rb_len] at h0
  have h := at_r (a := [(x 0, .inr (5, [.ref (x 1), .ref (x 2), .ref (x 3), .ref (x 4), .int nt])), rq (x 1) cQ rp, (x 2, .inl (cI, 7, .inl n)), rq (x 3) cQ rw, rq (x 4) cQ rt]) h0
  exact h
theorem wSt_Ts {x rp rw rt : Nat → Nat} {cI cQ : ClassId} {P : Nat → Nat → Int32} {n : Nat → Int32} {Wi Ti : Nat → Nat → Int32} {nt : Int32} {k j : Nat} {v : Int32} (hk : k < 7) : (wSt x rp rw rt cI cQ P n Wi Ti nt).set (5 + (7 + (7 + k))) (rt k, .inl (cI, 7, .inl (upd (Ti k) j v))) = wSt x rp rw rt cI cQ P n Wi (u2 Ti k j v) nt := by
  have h0 := set_r (a := rb rp cI 5 P 7) (rb_set (X := rb rw cI 7 Wi 7) (Y := []) (r := rt) (cI := cI) (m := 7) (F := Ti) (x := 7) (j := j) (v := v) (rb_len _ _ _ _ _) hk)
  rw [rb_len] at h0
  have h := set_r (a := [(x 0, .inr (5, [.ref (x 1), .ref (x 2), .ref (x 3), .ref (x 4), .int nt])), rq (x 1) cQ rp, (x 2, .inl (cI, 7, .inl n)), rq (x 3) cQ rw, rq (x 4) cQ rt]) h0
  exact h
theorem P_eq {D : va_G} {cl : List vw_C} {a b : va_W} {H : Heap} (e : a = b) (h : va_P D cl a H) : va_P D cl b H := e ▸ h
theorem D_eq {A : Nat → Prop} {a b : va_W} (e : a = b) (h : va_D A a) : va_D A b := e ▸ h
theorem gS {own : String} {idx : Nat} {y : MethodName} {cc : ByteArray} {n : Nat} {r : Option FieldType} (h1 : Cond.methodLink own idx y ∈ ALL) (h2 : Cond.static y ∈ ALL) (h3 : Cond.initialized own ∈ ALL) (h5 : Cond.code y cc n r ∈ ALL) : GoodIn ALL (wsS own idx y (Cond.code y cc n r :: ALL)) := by
  intro w hw
  rcases List.mem_append.mp hw with h | h
  · simp only [List.mem_cons, List.not_mem_nil, or_false] at h
    rcases h with rfl | rfl | rfl
    · exact ⟨h1, ALL_good h1⟩
    · exact ⟨h2, ALL_good h2⟩
    · exact ⟨h3, ALL_good h3⟩
  · rcases List.mem_cons.mp h with rfl | h
    · exact ⟨h5, ALL_good h5⟩
    · exact ⟨h, ALL_good h⟩
section RR2
variable {p : Program} {l : Launch} {e : Env} {R : Room} {s : State} {m : MethodId} {args : Array Value} {below : List Frame} {meth : Method} {c : Code} {H : Heap} {locs : List Loc} {cells slots : Nat} {Q : State → Prop}
variable {cc : ByteArray} {pc : Nat} {ls : Array Slot} {rest st0 : List Value} {D : va_G} {A : Nat → Prop} {a : Nat} {ws : va_W} {H0 : Heap}
variable {cI cZ cQ cJ : ClassId}
theorem W.eqHL {g : JFrame} {H1 : Heap} {L1 : List Loc} (h : H1 = H) (hL : L1 = locs) (k : W p l e R s m args below meth c H1 L1 cells slots Q g) : W p l e R s m args below meth c H locs cells slots Q g := by
  subst h
  subst hL
  exact k
theorem r_divn (hexec : p.tables.exec = Jvm.exec) (hb : c.code = cc) {x y : Nat} (hx : x < 2 ^ 31) (h0 : 0 < y) (hy : y < 2 ^ 31) (hdg : decode cc pc = .ok (.idiv, 1)) (k : W p l e R s m args below meth c H locs cells slots Q (F0 m (pc + 1) ls (.int (nI (x / y)) :: rest))) : W p l e R s m args below meth c H locs cells slots Q (F0 m pc ls (.int (nI y) :: .int (nI x) :: rest)) := lv_idiv hexec hb hdg (nI_ne0 h0 hy) (by rw [pk_div hx h0 hy]; exact k)
theorem r_remn (hexec : p.tables.exec = Jvm.exec) (hb : c.code = cc) {x y : Nat} (hx : x < 2 ^ 31) (h0 : 0 < y) (hy : y < 2 ^ 31) (hdg : decode cc pc = .ok (.irem, 1)) (k : W p l e R s m args below meth c H locs cells slots Q (F0 m (pc + 1) ls (.int (nI (x % y)) :: rest))) : W p l e R s m args below meth c H locs cells slots Q (F0 m pc ls (.int (nI y) :: .int (nI x) :: rest)) := lv_irem hexec hb hdg (nI_ne0 h0 hy) (by rw [pk_rem hx h0 hy]; exact k)
/-- a call of a method that writes, run -/
theorem w_V {own C : String} {idx nL maxL n mc ms : Nat} {y : MethodName} {bytes : ByteArray} {ret : Option FieldType} {rm : Room} {wc : va_W} {sz : Nat} {b : Addr} {As : List Value} {Qc : Array Value → State → Outcome → State → Prop} {free : Addr → Prop}
    (S : CallFix p m c cc nL s args ALL own) (hM : Met l y (Cond.code y bytes maxL ret :: ALL) rm (va_Pc (.ref b :: As) (rw_P D cI cZ cQ cJ wc sz)) Qc mc ms free)
    (hG : GoodIn ALL (wsV own idx C y (Cond.code y bytes maxL ret :: ALL))) (hrc : rm.cells = mc) (hrs : rm.slots = ms)
    (hd : y.cls = C ∧ y.cls ≠ "java/lang/invoke/MethodHandle" ∧ y.cls ≠ "java/lang/invoke/VarHandle" ∧ (parseMethodDescriptor y.desc).map (fun d => d.parameters.length) = some n) (hR : rm.frames + 1 ≤ R.frames ∧ 8 + (maxL + 11) + rm.locals ≤ R.locals)
    (hpre : ∀ U : State, U.heap = H → s.WarmedH U.vm → va_Pc (.ref b :: As) (rw_P D cI cZ cQ cJ wc sz) (.ref b :: As : List Value).toArray U) (hv : ∃ cell : Cell, H[b]? = some cell ∧ cell.vm.isStatics = false ∧ s.vm.findClass C = some cell.cls)
    (hn : As.length = n) (hsize : ls.size = nL) (hstack : st0 = As.reverse ++ .ref b :: rest) (hW : (rest.map fun v => v.category).sum ≤ 8) (hdg : decode cc pc = .ok (.invokevirtual idx, 3)) (hf : cells + mc ≤ R.cells ∧ slots + ms ≤ R.slots) :
    va_Run p l e R s m args below meth c H locs cells slots mc ms (F0 m pc ls st0) rest (Qc (.ref b :: As : List Value).toArray) free := by
  obtain ⟨hx, hb, hml, hown, hts⟩ := id S
  exact va_runV (As := As) (rest := rest) S hM (cwV n hts hG rfl hrc hrs hd hR) ⟨rw_blind, hv, hpre⟩ rfl hn hsize hstack (lv_room hW) hdg hf
theorem w_S {own : String} {idx nL maxL n mc ms : Nat} {y : MethodName} {bytes : ByteArray} {ret : Option FieldType} {rm : Room} {wc : va_W} {sz : Nat} {As : List Value} {Qc : Array Value → State → Outcome → State → Prop} {free : Addr → Prop}
    (S : CallFix p m c cc nL s args ALL own) (hM : Met l y (Cond.code y bytes maxL ret :: ALL) rm (va_Pc As (rw_P D cI cZ cQ cJ wc sz)) Qc mc ms free)
    (hG : GoodIn ALL (wsS own idx y (Cond.code y bytes maxL ret :: ALL))) (hrc : rm.cells = mc) (hrs : rm.slots = ms)
    (hd : y.cls = own ∧ y.cls ≠ "java/lang/invoke/MethodHandle" ∧ y.cls ≠ "java/lang/invoke/VarHandle" ∧ (parseMethodDescriptor y.desc).map (fun d => d.parameters.length) = some n) (hR : rm.frames + 1 ≤ R.frames ∧ 8 + (maxL + 11) + rm.locals ≤ R.locals)
    (hpre : ∀ U : State, U.heap = H → s.WarmedH U.vm → va_Pc As (rw_P D cI cZ cQ cJ wc sz) As.toArray U)
    (hn : As.length = n) (hsize : ls.size = nL) (hstack : st0 = As.reverse ++ rest) (hW : (rest.map fun v => v.category).sum ≤ 8) (hdg : decode cc pc = .ok (.invokestatic idx, 3)) (hf : cells + mc ≤ R.cells ∧ slots + ms ≤ R.slots) :
    va_Run p l e R s m args below meth c H locs cells slots mc ms (F0 m pc ls st0) rest (Qc As.toArray) free := by
  obtain ⟨hx, hb, hml, hown, hts⟩ := id S
  exact va_runS (As := As) (rest := rest) S hM (cwS n hts hG rfl hrc hrs hd hR) ⟨rw_blind, hpre⟩ rfl hn hsize hstack (lv_room hW) hdg hf
end RR2
def wAr (a : Nat) (cI : ClassId) (N : Nat) (f : Nat → Int32) : va_W := [(a, .inl (cI, N, .inl f))]
