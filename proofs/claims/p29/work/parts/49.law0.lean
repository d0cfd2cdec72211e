section LW0
variable {p : Program} {l : Launch} {e : Env} {R : Room} {s : State} {m : MethodId} {args : Array Value} {below : List Frame} {meth : Method} {c : Code} {H : Heap} {locs : List Loc} {cells slots : Nat} {Q : State → Prop}
variable {cc : ByteArray} {pc : Nat} {ls : Array Slot} {rest st0 : List Value} {D : va_G} {A : Nat → Prop} {a : Nat} {ws : va_W} {H0 : Heap}
variable {cI cZ cQ cJ : ClassId}
variable {Qc : Array Value → State → Outcome → State → Prop} {XC : String → State → State → Prop} {free : Addr → Prop}
theorem gSH {own : String} {idx : Nat} {y : MethodName} {cc : ByteArray} {n : Nat} {r : Option FieldType} {hh : List (Nat × Nat × Nat × Nat)} (h1 : Cond.methodLink own idx y ∈ ALL) (h2 : Cond.static y ∈ ALL) (h3 : Cond.initialized y.cls ∈ ALL) (h5 : Cond.codeWith y cc n r hh ∈ ALL) : GoodIn ALL (va_wsS own idx y (Cond.codeWith y cc n r hh :: ALL)) := by
  intro w hw
  rcases List.mem_append.mp hw with h | h
  · simp only [List.mem_cons, List.not_mem_nil, or_false] at h
    rcases h with rfl | rfl | rfl
    · exact ⟨h1, ALL_good h1⟩
    · exact ⟨h2, ALL_good h2⟩
    · exact ⟨h3, ALL_good h3⟩
  · rcases List.mem_cons.mp h with rfl | h
    · exact ⟨h5, ALL_good h5⟩
    · exact ⟨h, ALL_good h⟩
/-- a static method with handlers, called -/
theorem w_SHX {own : String} {idx nL maxL n mc ms : Nat} {y : MethodName} {bytes : ByteArray} {ret : Option FieldType} {hh : List (Nat × Nat × Nat × Nat)} {rm : Room} {wc : va_W} {sz : Nat} {As : List Value}
    (S : CallFix p m c cc nL s args ALL own) (hM : vx_Met l y (Cond.codeWith y bytes maxL ret hh :: ALL) rm (va_Pc As (rx_P D cI cZ cQ cJ wc sz)) Qc XC mc ms free)
    (hG : GoodIn ALL (va_wsS own idx y (Cond.codeWith y bytes maxL ret hh :: ALL))) (hrc : rm.cells = mc) (hrs : rm.slots = ms)
    (hd : y.cls ≠ "java/lang/invoke/MethodHandle" ∧ y.cls ≠ "java/lang/invoke/VarHandle" ∧ (parseMethodDescriptor y.desc).map (fun d => d.parameters.length) = some n) (hR : rm.frames + 1 ≤ R.frames ∧ 8 + (maxL + 11) + rm.locals ≤ R.locals)
    (hpre : ∀ U : State, U.heap = H → s.WarmedH U.vm → va_Pc As (rx_P D cI cZ cQ cJ wc sz) As.toArray U)
    (hn : As.length = n) (hsize : ls.size = nL) (hstack : st0 = As.reverse ++ rest) (hW : (rest.map fun v => v.category).sum ≤ 8) (hdg : decode cc pc = .ok (.invokestatic idx, 3)) (hf : cells + mc ≤ R.cells ∧ slots + ms ≤ R.slots) :
    vx_Run p l e R s m args below meth c H locs cells slots mc ms (F0 m pc ls st0) rest (Qc As.toArray) XC free := by
  obtain ⟨hx, hb, hml, hown, hts⟩ := id S
  exact vx_runSX (As := As) (rest := rest) S hM (vx_cwSW n hts hG rfl hrc hrs hd hR) ⟨rx_blind, hpre⟩ rfl hn hsize hstack (lv_room hW) hdg hf
end LW0
section
variable {d : Nat → Int32} {nz nt : Nat} {n : Nat → Int32} {wi ti dd : Nat → Nat → Nat}
theorem sBest_1 {wb : Bool} {v : Int32} {b b' : Nat → Int32} (h : sBest wb nt nz n d wi ti dd 1 v b) : sBest wb nt nz n d wi ti dd 1 v b' := by
  obtain ⟨kc, b0, hS, hk⟩ := h
  refine ⟨kc, b', ?_, hk⟩
  rcases hk with ⟨a1, -⟩ | ⟨-, a2, -⟩
  · rcases hS with ⟨e1, e2, e3⟩ | ⟨h, c1, e1, e2, e3, e4⟩
    · exact Or.inl ⟨e1, rfl, e3⟩
    · omega
  · omega
end
