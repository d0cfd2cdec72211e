section
/-! what the tables say, at the start -/
theorem str_ex {own tx : String} {k : Nat} {A : Array Value} {U : State} (h : (Cond.stringRef own k tx).before A U = true) : ∃ a, vk_R own k tx a U := by
  have h2 : ∃ a, U.resolvedAt? own k = some (.string a) := by
    simp only [Cond.before, Cond.holds, Cond.value] at h
    cases hr : U.resolvedAt? own k with
    | none => cases hc : U.vm.findClass own <;> simp [hr, hc] at h
    | some r =>
      cases r with
      | string a => exact ⟨a, rfl⟩
      | _ => cases hc : U.vm.findClass own <;> simp [hr, hc] at h
  obtain ⟨a, ha⟩ := h2
  refine ⟨a, vk_R.of h ?_⟩
  unfold State.resolvedAt? at ha
  unfold Term.eval
  cases hc : U.vm.findClass own with
  | none => simp [hc] at ha
  | some i =>
    cases hk : U.vm.classes[i]? with
    | none => simp [hc, hk] at ha
    | some kk =>
      cases hj : (kk.resolved[k]?).join with
      | none => simp [hc, hk, hj] at ha
      | some z =>
        simp [hc, hk, hj] at ha
        simp [hk, hj, ha]
theorem arr_ex {ty : FieldType} (hty : ∀ C, ty ≠ .object C) {A : Array Value} {U : State} (h : (Cond.arrayClass ty).before A U = true) : ∃ c, ArrOfT U c ty ∧ U.vm.findClass ("[" ++ ty.toString) = some c := by
  obtain ⟨c, k, comp, h1, h2, h3⟩ := Cond.arrayClass_spec h
  exact ⟨c, fun n z => ⟨fun k h => (by cases h), k, h2, comp, h3⟩, h1⟩
theorem arrQ_ex {A : Array Value} {U : State} (h : (Cond.arrayOver (.array .int)).before A U = true) : ∃ c, ArrOfT U c (.array .int) ∧ U.vm.findClass ("[" ++ (FieldType.array .int).toString) = some c := by
  obtain ⟨comp, c, k, -, h2, h3, h1⟩ := Cond.arrayOver_specA h
  exact ⟨c, fun n z => ⟨fun k h => (by cases h), k, h2, comp, h3⟩, h1⟩
theorem know_nl {s : State} {A : Array Value} (hts : ∀ w ∈ lw_tbl, w.before A s = true) (hg : ∀ q ∈ nl_P, (Cond.not (.castable q.1 q.2)).before A s = true) : nl_K s := by
  have m1 : ∀ q ∈ nl_F, nl_f q ∈ lw_tbl := by decide +kernel
  have m2 : ∀ q ∈ nl_M, nl_m q ∈ lw_tbl := by decide +kernel
  have m3 : ∀ E ∈ nl_E, Cond.castable E E ∈ lw_tbl := by decide +kernel
  have m4 : ∀ q ∈ nl_S, Cond.stringRef "DeskPlanner" q.1 q.2 ∈ lw_tbl := by decide +kernel
  exact ⟨fun q hq => va_tabs (c := nl_f q) rfl rfl (hts _ (m1 q hq)), fun q hq => va_tabs (c := nl_m q) rfl rfl (hts _ (m2 q hq)), fun E hE => va_tabs (c := .castable E E) rfl rfl (hts _ (m3 E hE)), fun q hq => va_Nc.of (hg q hq), va_AOA.of (hts _ (by decide +kernel)), fun q hq => str_ex (hts _ (m4 q hq))⟩
theorem know_Dc {s : State} {A : Array Value} (hts : ∀ w ∈ lw_tbl, w.before A s = true) : Dc s := by
  have m1 : ∀ y ∈ Dcl, Cond.declares y ∈ lw_tbl := by decide +kernel
  exact fun y hy => va_tabs (c := .declares y) rfl rfl (hts _ (m1 y hy))
theorem know_St {s : State} {A : Array Value} (hts : ∀ w ∈ lw_tbl, w.before A s = true) (hg : ∀ q ∈ nl_P, (Cond.not (.castable q.1 q.2)).before A s = true) : ∃ (D : va_G) (cI cZ cQ cJ : ClassId), St D cI cZ cQ cJ s := by
  have htA : ∀ w ∈ ALL, w.before A s = true := fun w h => hts w (ALL_tbl h)
  obtain ⟨d0, i0, k0⟩ := u_known htA tu_X0 (hts _ (ALL_tbl t1_168))
  obtain ⟨d1, i1, k1⟩ := u_known htA tu_X1 (hts _ (ALL_tbl t1_33))
  obtain ⟨d2, i2, k2⟩ := u_known htA tu_X2 (hts _ (ALL_tbl t1_135))
  obtain ⟨d3, i3, k3⟩ := u_known htA tu_X3 (hts _ (ALL_tbl t1_27))
  obtain ⟨d4, i4, k4⟩ := u_known htA tu_X4 (hts _ (ALL_tbl t1_122))
  obtain ⟨d5, i5, k5⟩ := u_known htA tu_X5 (hts _ (ALL_tbl t1_75))
  obtain ⟨d6, i6, k6⟩ := u_known htA tu_X6 (hts _ (ALL_tbl t1_160))
  obtain ⟨d7, i7, k7⟩ := u_known htA tu_X7 (hts _ (ALL_tbl t1_19))
  obtain ⟨cI, aI, bI⟩ := arr_ex (ty := .int) (fun _ h => nomatch h) (hts _ (by decide +kernel))
  obtain ⟨cZ, aZ, bZ⟩ := arr_ex (ty := .boolean) (fun _ h => nomatch h) (hts _ (by decide +kernel))
  obtain ⟨cQ, aQ, bQ⟩ := arrQ_ex (hts (.arrayOver (.array .int)) (by decide +kernel))
  refine ⟨(fun k => match k with | 0 => d0 | 1 => d1 | 2 => d2 | 3 => d3 | 4 => d4 | 5 => d5 | 6 => d6 | _ => d7, fun k => match k with | 0 => i0 | 1 => i1 | 2 => i2 | 3 => i3 | 4 => i4 | 5 => i5 | 6 => i6 | _ => i7), cI, cZ, cQ, cI, ⟨fun k q h => ?_, fun k q h => ?_⟩, know_nl hts hg⟩
  · match k, h with
    | 0, h => cases h; exact k0
    | 1, h => cases h; exact k1
    | 2, h => cases h; exact k2
    | 3, h => cases h; exact k3
    | 4, h => cases h; exact k4
    | 5, h => cases h; exact k5
    | 6, h => cases h; exact k6
    | 7, h => cases h; exact k7
    | n + 8, h => exact absurd h (by simp)
  · match k, h with
    | 0, h => cases h; exact ⟨aI, bI⟩
    | 1, h => cases h; exact ⟨aZ, bZ⟩
    | 2, h => cases h; exact ⟨aQ, bQ⟩
    | 3, h => cases h; exact ⟨aI, bI⟩
    | n + 4, h => exact absurd h (by simp)
theorem know_ZQ {s : State} {A : Array Value} {F : Nat → Prop} (hts : ∀ w ∈ lw_tbl, w.before A s = true) (h1 : (Cond.isRef (.static "java/lang/Throwable" "UNASSIGNED_STACK" "[Ljava/lang/StackTraceElement;")).before A s = true) (h2 : (Cond.isRef (.static "java/lang/Throwable" "SUPPRESSED_SENTINEL" "Ljava/util/List;")).before A s = true) (hF : ∀ a : Nat, a < s.heap.size → ¬ F a) : ZQ F s s.heap :=
  ⟨vx_Zqof (hts (.laysStatic "java/lang/Throwable" "UNASSIGNED_STACK" "[Ljava/lang/StackTraceElement;") (by decide +kernel)) (hts (.initialized "java/lang/Throwable") (by decide +kernel)) h1 hF, vx_Zqof (hts (.laysStatic "java/lang/Throwable" "SUPPRESSED_SENTINEL" "Ljava/util/List;") (by decide +kernel)) (hts (.initialized "java/lang/Throwable") (by decide +kernel)) h2 hF⟩
theorem know_g {s : State} {A : Array Value} (h : (Jvm.Cond.and given_1 narrow_1).before A s = true) : (∀ q ∈ nl_P, (Cond.not (.castable q.1 q.2)).before A s = true) ∧ (Cond.isRef (.static "java/lang/Throwable" "UNASSIGNED_STACK" "[Ljava/lang/StackTraceElement;")).before A s = true ∧ (Cond.isRef (.static "java/lang/Throwable" "SUPPRESSED_SENTINEL" "Ljava/util/List;")).before A s = true := by
  have hs := flat_of_before _ h
  exact ⟨fun q hq => hs _ ((show ∀ q ∈ nl_P, Cond.not (.castable q.1 q.2) ∈ _ by decide +kernel) q hq), hs _ (by decide +kernel), hs _ (by decide +kernel)⟩
end
