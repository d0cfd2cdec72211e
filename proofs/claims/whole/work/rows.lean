section
-- ===== PART A: goes FIRST, ahead of the names: the tables' words, and 'selects' of the private methods out of them =====
/-- a private method of a class that the tables say can be made, by its rows of tables_1 -/
def lw_okq (q : MethodName × Nat) : Prop := (q.1.cls ≠ "java/lang/invoke/MethodHandle" ∧ q.1.cls ≠ "java/lang/invoke/VarHandle") ∧ Cond.instantiable q.1.cls q.2 ∈ tables_1 ∧ Cond.privateMethod q.1 ∈ tables_1 ∧ Cond.instanceMethod q.1 ∈ tables_1
theorem lw_p0 : lw_okq (⟨"DeskPlanner$FullSearch", "tryFrom", "(LDeskPlanner$Office;II)V"⟩, 5) := ⟨⟨by decide +kernel, by decide +kernel⟩, List.mem_of_getElem? (i := 136) (by decide +kernel), List.mem_of_getElem? (i := 282) (by decide +kernel), List.mem_of_getElem? (i := 283) (by decide +kernel)⟩
theorem lw_p1 : lw_okq (⟨"DeskPlanner$FullSearch", "tryAt", "(LDeskPlanner$Office;III)V"⟩, 5) := ⟨⟨by decide +kernel, by decide +kernel⟩, List.mem_of_getElem? (i := 136) (by decide +kernel), List.mem_of_getElem? (i := 291) (by decide +kernel), List.mem_of_getElem? (i := 292) (by decide +kernel)⟩
theorem lw_p2 : lw_okq (⟨"DeskPlanner", "isLowestOfCircle", "(I)Z"⟩, 5) := ⟨⟨by decide +kernel, by decide +kernel⟩, List.mem_of_getElem? (i := 20) (by decide +kernel), List.mem_of_getElem? (i := 304) (by decide +kernel), List.mem_of_getElem? (i := 305) (by decide +kernel)⟩
theorem lw_p3 : lw_okq (⟨"DeskPlanner", "teamInTheWayOf", "(I)I"⟩, 5) := ⟨⟨by decide +kernel, by decide +kernel⟩, List.mem_of_getElem? (i := 20) (by decide +kernel), List.mem_of_getElem? (i := 308) (by decide +kernel), List.mem_of_getElem? (i := 309) (by decide +kernel)⟩
theorem lw_p4 : lw_okq (⟨"DeskPlanner", "requireSquare", "(II)V"⟩, 5) := ⟨⟨by decide +kernel, by decide +kernel⟩, List.mem_of_getElem? (i := 20) (by decide +kernel), List.mem_of_getElem? (i := 335) (by decide +kernel), List.mem_of_getElem? (i := 336) (by decide +kernel)⟩
theorem lw_p5 : lw_okq (⟨"java/lang/Throwable", "fillInStackTrace", "(I)Ljava/lang/Throwable;"⟩, 6) := ⟨⟨by decide +kernel, by decide +kernel⟩, List.mem_of_getElem? (i := 380) (by decide +kernel), List.mem_of_getElem? (i := 378) (by decide +kernel), List.mem_of_getElem? (i := 379) (by decide +kernel)⟩
theorem lw_p6 : lw_okq (⟨"DeskPlanner$Floor", "measureAll", "()V"⟩, 8) := ⟨⟨by decide +kernel, by decide +kernel⟩, List.mem_of_getElem? (i := 34) (by decide +kernel), List.mem_of_getElem? (i := 437) (by decide +kernel), List.mem_of_getElem? (i := 438) (by decide +kernel)⟩
theorem lw_p7 : lw_okq (⟨"DeskPlanner$Floor", "measureFrom", "(I)V"⟩, 8) := ⟨⟨by decide +kernel, by decide +kernel⟩, List.mem_of_getElem? (i := 34) (by decide +kernel), List.mem_of_getElem? (i := 441) (by decide +kernel), List.mem_of_getElem? (i := 442) (by decide +kernel)⟩
theorem lw_p8 : lw_okq (⟨"DeskPlanner$Floor", "reach", "(III)V"⟩, 8) := ⟨⟨by decide +kernel, by decide +kernel⟩, List.mem_of_getElem? (i := 34) (by decide +kernel), List.mem_of_getElem? (i := 446) (by decide +kernel), List.mem_of_getElem? (i := 447) (by decide +kernel)⟩
theorem lw_p9 : lw_okq (⟨"DeskPlanner", "requireRange", "(III)V"⟩, 5) := ⟨⟨by decide +kernel, by decide +kernel⟩, List.mem_of_getElem? (i := 20) (by decide +kernel), List.mem_of_getElem? (i := 459) (by decide +kernel), List.mem_of_getElem? (i := 460) (by decide +kernel)⟩
theorem lw_p10 : lw_okq (⟨"DeskPlanner", "requireZone", "(I)V"⟩, 5) := ⟨⟨by decide +kernel, by decide +kernel⟩, List.mem_of_getElem? (i := 20) (by decide +kernel), List.mem_of_getElem? (i := 496) (by decide +kernel), List.mem_of_getElem? (i := 497) (by decide +kernel)⟩
theorem lw_p11 : lw_okq (⟨"DeskPlanner", "requireTeam", "(I)V"⟩, 5) := ⟨⟨by decide +kernel, by decide +kernel⟩, List.mem_of_getElem? (i := 20) (by decide +kernel), List.mem_of_getElem? (i := 522) (by decide +kernel), List.mem_of_getElem? (i := 523) (by decide +kernel)⟩
theorem lw_p12 : lw_okq (⟨"DeskPlanner", "requireDay", "(I)V"⟩, 5) := ⟨⟨by decide +kernel, by decide +kernel⟩, List.mem_of_getElem? (i := 20) (by decide +kernel), List.mem_of_getElem? (i := 527) (by decide +kernel), List.mem_of_getElem? (i := 528) (by decide +kernel)⟩
theorem lw_p13 : lw_okq (⟨"DeskPlanner", "requireRoom", "(II)V"⟩, 5) := ⟨⟨by decide +kernel, by decide +kernel⟩, List.mem_of_getElem? (i := 20) (by decide +kernel), List.mem_of_getElem? (i := 571) (by decide +kernel), List.mem_of_getElem? (i := 572) (by decide +kernel)⟩
theorem lw_p14 : lw_okq (⟨"DeskPlanner", "layLeast", "(Z)I"⟩, 5) := ⟨⟨by decide +kernel, by decide +kernel⟩, List.mem_of_getElem? (i := 20) (by decide +kernel), List.mem_of_getElem? (i := 586) (by decide +kernel), List.mem_of_getElem? (i := 587) (by decide +kernel)⟩
theorem lw_p15 : lw_okq (⟨"DeskPlanner$StepSearch", "chooseChange", "(LDeskPlanner$Office;I)V"⟩, 4) := ⟨⟨by decide +kernel, by decide +kernel⟩, List.mem_of_getElem? (i := 161) (by decide +kernel), List.mem_of_getElem? (i := 613) (by decide +kernel), List.mem_of_getElem? (i := 614) (by decide +kernel)⟩
def lw_privs_1 : List (MethodName × Nat) := [(⟨"DeskPlanner$FullSearch", "tryFrom", "(LDeskPlanner$Office;II)V"⟩, 5), (⟨"DeskPlanner$FullSearch", "tryAt", "(LDeskPlanner$Office;III)V"⟩, 5), (⟨"DeskPlanner", "isLowestOfCircle", "(I)Z"⟩, 5), (⟨"DeskPlanner", "teamInTheWayOf", "(I)I"⟩, 5), (⟨"DeskPlanner", "requireSquare", "(II)V"⟩, 5), (⟨"java/lang/Throwable", "fillInStackTrace", "(I)Ljava/lang/Throwable;"⟩, 6), (⟨"DeskPlanner$Floor", "measureAll", "()V"⟩, 8), (⟨"DeskPlanner$Floor", "measureFrom", "(I)V"⟩, 8), (⟨"DeskPlanner$Floor", "reach", "(III)V"⟩, 8), (⟨"DeskPlanner", "requireRange", "(III)V"⟩, 5), (⟨"DeskPlanner", "requireZone", "(I)V"⟩, 5), (⟨"DeskPlanner", "requireTeam", "(I)V"⟩, 5), (⟨"DeskPlanner", "requireDay", "(I)V"⟩, 5), (⟨"DeskPlanner", "requireRoom", "(II)V"⟩, 5), (⟨"DeskPlanner", "layLeast", "(Z)I"⟩, 5), (⟨"DeskPlanner$StepSearch", "chooseChange", "(LDeskPlanner$Office;I)V"⟩, 4)]
theorem lw_r1 : ∀ q ∈ lw_privs_1, lw_okq q := List.forall_mem_cons.mpr ⟨lw_p0, List.forall_mem_cons.mpr ⟨lw_p1, List.forall_mem_cons.mpr ⟨lw_p2, List.forall_mem_cons.mpr ⟨lw_p3, List.forall_mem_cons.mpr ⟨lw_p4, List.forall_mem_cons.mpr ⟨lw_p5, List.forall_mem_cons.mpr ⟨lw_p6, List.forall_mem_cons.mpr ⟨lw_p7, List.forall_mem_cons.mpr ⟨lw_p8, List.forall_mem_cons.mpr ⟨lw_p9, List.forall_mem_cons.mpr ⟨lw_p10, List.forall_mem_cons.mpr ⟨lw_p11, List.forall_mem_cons.mpr ⟨lw_p12, List.forall_mem_cons.mpr ⟨lw_p13, List.forall_mem_cons.mpr ⟨lw_p14, List.forall_mem_cons.mpr ⟨lw_p15, fun _ h => absurd h List.not_mem_nil⟩⟩⟩⟩⟩⟩⟩⟩⟩⟩⟩⟩⟩⟩⟩⟩
theorem lw_p16 : lw_okq (⟨"DeskPlanner$StepSearch", "weighExchange", "(LDeskPlanner$Office;II)V"⟩, 4) := ⟨⟨by decide +kernel, by decide +kernel⟩, List.mem_of_getElem? (i := 161) (by decide +kernel), List.mem_of_getElem? (i := 617) (by decide +kernel), List.mem_of_getElem? (i := 618) (by decide +kernel)⟩
theorem lw_p17 : lw_okq (⟨"DeskPlanner$StepSearch", "weighMove", "(LDeskPlanner$Office;II)V"⟩, 4) := ⟨⟨by decide +kernel, by decide +kernel⟩, List.mem_of_getElem? (i := 161) (by decide +kernel), List.mem_of_getElem? (i := 632) (by decide +kernel), List.mem_of_getElem? (i := 633) (by decide +kernel)⟩
theorem lw_p18 : lw_okq (⟨"DeskPlanner$StepSearch", "makeChange", "(I)V"⟩, 4) := ⟨⟨by decide +kernel, by decide +kernel⟩, List.mem_of_getElem? (i := 161) (by decide +kernel), List.mem_of_getElem? (i := 637) (by decide +kernel), List.mem_of_getElem? (i := 638) (by decide +kernel)⟩
theorem lw_p19 : lw_okq (⟨"DeskPlannerModel", "hasZone", "(I)Z"⟩, 16) := ⟨⟨by decide +kernel, by decide +kernel⟩, List.mem_of_getElem? (i := 695) (by decide +kernel), List.mem_of_getElem? (i := 764) (by decide +kernel), List.mem_of_getElem? (i := 765) (by decide +kernel)⟩
theorem lw_p20 : lw_okq (⟨"DeskPlannerModel", "asked", "(ZZ)Z"⟩, 16) := ⟨⟨by decide +kernel, by decide +kernel⟩, List.mem_of_getElem? (i := 695) (by decide +kernel), List.mem_of_getElem? (i := 768) (by decide +kernel), List.mem_of_getElem? (i := 769) (by decide +kernel)⟩
theorem lw_p21 : lw_okq (⟨"DeskPlannerModel", "asked", "(ZZZ)Z"⟩, 16) := ⟨⟨by decide +kernel, by decide +kernel⟩, List.mem_of_getElem? (i := 695) (by decide +kernel), List.mem_of_getElem? (i := 776) (by decide +kernel), List.mem_of_getElem? (i := 777) (by decide +kernel)⟩
theorem lw_p22 : lw_okq (⟨"DeskPlannerModel", "isZone", "(I)Z"⟩, 16) := ⟨⟨by decide +kernel, by decide +kernel⟩, List.mem_of_getElem? (i := 695) (by decide +kernel), List.mem_of_getElem? (i := 784) (by decide +kernel), List.mem_of_getElem? (i := 785) (by decide +kernel)⟩
theorem lw_p23 : lw_okq (⟨"DeskPlannerModel", "inZone", "(I)I"⟩, 16) := ⟨⟨by decide +kernel, by decide +kernel⟩, List.mem_of_getElem? (i := 695) (by decide +kernel), List.mem_of_getElem? (i := 788) (by decide +kernel), List.mem_of_getElem? (i := 789) (by decide +kernel)⟩
theorem lw_p24 : lw_okq (⟨"DeskPlannerModel", "needOf", "(I)I"⟩, 16) := ⟨⟨by decide +kernel, by decide +kernel⟩, List.mem_of_getElem? (i := 695) (by decide +kernel), List.mem_of_getElem? (i := 792) (by decide +kernel), List.mem_of_getElem? (i := 793) (by decide +kernel)⟩
theorem lw_p25 : lw_okq (⟨"DeskPlannerModel", "asked", "(Z)Z"⟩, 16) := ⟨⟨by decide +kernel, by decide +kernel⟩, List.mem_of_getElem? (i := 695) (by decide +kernel), List.mem_of_getElem? (i := 800) (by decide +kernel), List.mem_of_getElem? (i := 801) (by decide +kernel)⟩
theorem lw_p26 : lw_okq (⟨"DeskPlannerModel", "isTeam", "(I)Z"⟩, 16) := ⟨⟨by decide +kernel, by decide +kernel⟩, List.mem_of_getElem? (i := 695) (by decide +kernel), List.mem_of_getElem? (i := 808) (by decide +kernel), List.mem_of_getElem? (i := 809) (by decide +kernel)⟩
theorem lw_p27 : lw_okq (⟨"DeskPlannerModel", "fits", "(II)Z"⟩, 16) := ⟨⟨by decide +kernel, by decide +kernel⟩, List.mem_of_getElem? (i := 695) (by decide +kernel), List.mem_of_getElem? (i := 824) (by decide +kernel), List.mem_of_getElem? (i := 825) (by decide +kernel)⟩
theorem lw_p28 : lw_okq (⟨"DeskPlannerModel", "lays", "(Z)I"⟩, 16) := ⟨⟨by decide +kernel, by decide +kernel⟩, List.mem_of_getElem? (i := 695) (by decide +kernel), List.mem_of_getElem? (i := 832) (by decide +kernel), List.mem_of_getElem? (i := 833) (by decide +kernel)⟩
theorem lw_p29 : lw_okq (⟨"DeskPlannerModel", "tries", "(Z)I"⟩, 16) := ⟨⟨by decide +kernel, by decide +kernel⟩, List.mem_of_getElem? (i := 695) (by decide +kernel), List.mem_of_getElem? (i := 836) (by decide +kernel), List.mem_of_getElem? (i := 837) (by decide +kernel)⟩
theorem lw_p30 : lw_okq (⟨"DeskPlannerModel", "findsWays", "()V"⟩, 16) := ⟨⟨by decide +kernel, by decide +kernel⟩, List.mem_of_getElem? (i := 695) (by decide +kernel), List.mem_of_getElem? (i := 840) (by decide +kernel), List.mem_of_getElem? (i := 841) (by decide +kernel)⟩
theorem lw_p31 : lw_okq (⟨"DeskPlannerModel", "walks", "(I)V"⟩, 16) := ⟨⟨by decide +kernel, by decide +kernel⟩, List.mem_of_getElem? (i := 695) (by decide +kernel), List.mem_of_getElem? (i := 844) (by decide +kernel), List.mem_of_getElem? (i := 845) (by decide +kernel)⟩
def lw_privs_2 : List (MethodName × Nat) := [(⟨"DeskPlanner$StepSearch", "weighExchange", "(LDeskPlanner$Office;II)V"⟩, 4), (⟨"DeskPlanner$StepSearch", "weighMove", "(LDeskPlanner$Office;II)V"⟩, 4), (⟨"DeskPlanner$StepSearch", "makeChange", "(I)V"⟩, 4), (⟨"DeskPlannerModel", "hasZone", "(I)Z"⟩, 16), (⟨"DeskPlannerModel", "asked", "(ZZ)Z"⟩, 16), (⟨"DeskPlannerModel", "asked", "(ZZZ)Z"⟩, 16), (⟨"DeskPlannerModel", "isZone", "(I)Z"⟩, 16), (⟨"DeskPlannerModel", "inZone", "(I)I"⟩, 16), (⟨"DeskPlannerModel", "needOf", "(I)I"⟩, 16), (⟨"DeskPlannerModel", "asked", "(Z)Z"⟩, 16), (⟨"DeskPlannerModel", "isTeam", "(I)Z"⟩, 16), (⟨"DeskPlannerModel", "fits", "(II)Z"⟩, 16), (⟨"DeskPlannerModel", "lays", "(Z)I"⟩, 16), (⟨"DeskPlannerModel", "tries", "(Z)I"⟩, 16), (⟨"DeskPlannerModel", "findsWays", "()V"⟩, 16), (⟨"DeskPlannerModel", "walks", "(I)V"⟩, 16)]
theorem lw_r2 : ∀ q ∈ lw_privs_2, lw_okq q := List.forall_mem_cons.mpr ⟨lw_p16, List.forall_mem_cons.mpr ⟨lw_p17, List.forall_mem_cons.mpr ⟨lw_p18, List.forall_mem_cons.mpr ⟨lw_p19, List.forall_mem_cons.mpr ⟨lw_p20, List.forall_mem_cons.mpr ⟨lw_p21, List.forall_mem_cons.mpr ⟨lw_p22, List.forall_mem_cons.mpr ⟨lw_p23, List.forall_mem_cons.mpr ⟨lw_p24, List.forall_mem_cons.mpr ⟨lw_p25, List.forall_mem_cons.mpr ⟨lw_p26, List.forall_mem_cons.mpr ⟨lw_p27, List.forall_mem_cons.mpr ⟨lw_p28, List.forall_mem_cons.mpr ⟨lw_p29, List.forall_mem_cons.mpr ⟨lw_p30, List.forall_mem_cons.mpr ⟨lw_p31, fun _ h => absurd h List.not_mem_nil⟩⟩⟩⟩⟩⟩⟩⟩⟩⟩⟩⟩⟩⟩⟩⟩
theorem lw_p32 : lw_okq (⟨"DeskPlannerModel", "goes", "(III)V"⟩, 16) := ⟨⟨by decide +kernel, by decide +kernel⟩, List.mem_of_getElem? (i := 695) (by decide +kernel), List.mem_of_getElem? (i := 848) (by decide +kernel), List.mem_of_getElem? (i := 849) (by decide +kernel)⟩
theorem lw_p33 : lw_okq (⟨"DeskPlannerModel", "costOf", "([I)I"⟩, 16) := ⟨⟨by decide +kernel, by decide +kernel⟩, List.mem_of_getElem? (i := 695) (by decide +kernel), List.mem_of_getElem? (i := 852) (by decide +kernel), List.mem_of_getElem? (i := 853) (by decide +kernel)⟩
theorem lw_p34 : lw_okq (⟨"DeskPlannerModel", "wishOf", "([I)I"⟩, 16) := ⟨⟨by decide +kernel, by decide +kernel⟩, List.mem_of_getElem? (i := 695) (by decide +kernel), List.mem_of_getElem? (i := 856) (by decide +kernel), List.mem_of_getElem? (i := 857) (by decide +kernel)⟩
theorem lw_p35 : lw_okq (⟨"DeskPlannerModel", "nextZone", "(I)I"⟩, 16) := ⟨⟨by decide +kernel, by decide +kernel⟩, List.mem_of_getElem? (i := 695) (by decide +kernel), List.mem_of_getElem? (i := 860) (by decide +kernel), List.mem_of_getElem? (i := 861) (by decide +kernel)⟩
theorem lw_p36 : lw_okq (⟨"DeskPlannerModel", "isPlaced", "()Z"⟩, 16) := ⟨⟨by decide +kernel, by decide +kernel⟩, List.mem_of_getElem? (i := 695) (by decide +kernel), List.mem_of_getElem? (i := 872) (by decide +kernel), List.mem_of_getElem? (i := 873) (by decide +kernel)⟩
theorem lw_p37 : lw_okq (⟨"DeskPlannerModel", "costBehind", "(IIIII)I"⟩, 16) := ⟨⟨by decide +kernel, by decide +kernel⟩, List.mem_of_getElem? (i := 695) (by decide +kernel), List.mem_of_getElem? (i := 876) (by decide +kernel), List.mem_of_getElem? (i := 877) (by decide +kernel)⟩
theorem lw_p38 : lw_okq (⟨"DeskPlannerModel", "told", "(I)I"⟩, 16) := ⟨⟨by decide +kernel, by decide +kernel⟩, List.mem_of_getElem? (i := 695) (by decide +kernel), List.mem_of_getElem? (i := 884) (by decide +kernel), List.mem_of_getElem? (i := 885) (by decide +kernel)⟩
theorem lw_p39 : lw_okq (⟨"DeskPlannerModel", "circlesNow", "()I"⟩, 16) := ⟨⟨by decide +kernel, by decide +kernel⟩, List.mem_of_getElem? (i := 695) (by decide +kernel), List.mem_of_getElem? (i := 940) (by decide +kernel), List.mem_of_getElem? (i := 941) (by decide +kernel)⟩
def lw_privs_3 : List (MethodName × Nat) := [(⟨"DeskPlannerModel", "goes", "(III)V"⟩, 16), (⟨"DeskPlannerModel", "costOf", "([I)I"⟩, 16), (⟨"DeskPlannerModel", "wishOf", "([I)I"⟩, 16), (⟨"DeskPlannerModel", "nextZone", "(I)I"⟩, 16), (⟨"DeskPlannerModel", "isPlaced", "()Z"⟩, 16), (⟨"DeskPlannerModel", "costBehind", "(IIIII)I"⟩, 16), (⟨"DeskPlannerModel", "told", "(I)I"⟩, 16), (⟨"DeskPlannerModel", "circlesNow", "()I"⟩, 16)]
theorem lw_r3 : ∀ q ∈ lw_privs_3, lw_okq q := List.forall_mem_cons.mpr ⟨lw_p32, List.forall_mem_cons.mpr ⟨lw_p33, List.forall_mem_cons.mpr ⟨lw_p34, List.forall_mem_cons.mpr ⟨lw_p35, List.forall_mem_cons.mpr ⟨lw_p36, List.forall_mem_cons.mpr ⟨lw_p37, List.forall_mem_cons.mpr ⟨lw_p38, List.forall_mem_cons.mpr ⟨lw_p39, fun _ h => absurd h List.not_mem_nil⟩⟩⟩⟩⟩⟩⟩⟩
def lw_privs : List (MethodName × Nat) := lw_privs_1 ++ (lw_privs_2 ++ (lw_privs_3))
def lw_tbl : List Cond := k2_sels lw_privs ++ tables_1
theorem lw_privs_ok : ∀ q ∈ lw_privs, lw_okq q := by
  show ∀ q ∈ lw_privs_1 ++ (lw_privs_2 ++ (lw_privs_3)), lw_okq q
  exact List.forall_mem_append.mpr ⟨lw_r1, List.forall_mem_append.mpr ⟨lw_r2, lw_r3⟩⟩
end
section
/-! 'arrays over arrays of t': the table's word, at any arguments; 01.kit names it (va_mna) -/
def va_AOA (t : FieldType) (U : State) : Prop := (Cond.arrayOver (.array t)).before #[] U = true
theorem va_AOA.of {t : FieldType} {A : Array Value} {U : State} (h : (Cond.arrayOver (.array t)).before A U = true) : va_AOA t U := h
theorem va_AOA.use {t : FieldType} {A : Array Value} {U : State} (h : va_AOA t U) : (Cond.arrayOver (.array t)).before A U = true := h
end
section
/-! ===== BEGIN words of one list among another's, by their places ===== -/
theorem goodIn_r {big : List Cond} (ws : List Cond) (ps : List Nat) (hp : ws = ps.filterMap (fun i => big[i]?)) (h : ws.all goodWord = true) : GoodIn big ws := by
  intro w hw
  have h1 := List.all_eq_true.mp h w hw
  rw [hp] at hw
  obtain ⟨i, -, hi⟩ := List.mem_filterMap.mp hw
  have hm : w ∈ big := by first | exact List.mem_of_getElem? hi | exact List.getElem?_mem hi
  exact ⟨hm, good_of_word h1⟩
theorem goodIn_app {big a b : List Cond} (ha : GoodIn big a) (hb : GoodIn big b) : GoodIn big (a ++ b) := fun w h => (List.mem_append.mp h).elim (ha w) (hb w)
theorem goodIn_ca {big a b : List Cond} {c : Cond} (ha : GoodIn big (c :: a)) (hb : GoodIn big b) : GoodIn big (c :: (a ++ b)) := fun w h => (List.mem_cons.mp h).elim (fun e => ha w (List.mem_cons.mpr (Or.inl e))) (fun h => (List.mem_append.mp h).elim (fun h => ha w (List.mem_cons.mpr (Or.inr h))) (hb w))
theorem goodIn_sub {big ws : List Cond} (hm : ∀ w ∈ ws, w ∈ big) (h : ws.all goodWord = true) : GoodIn big ws := fun w hw => ⟨hm w hw, good_of_word (List.all_eq_true.mp h w hw)⟩
/-! ===== END ===== -/

/-! ===== BEGIN new T[n][m]: the outer array a place, the inner ones among the pooled ===== -/
/-- f, but v at every address of l -/
def vr_up {α : Type} (f : Nat → α) (l : List Nat) (v : α) : Nat → α := fun a => if a ∈ l then v else f a
theorem vr_up_in {α : Type} {f : Nat → α} {l : List Nat} {v : α} {a : Nat} (h : a ∈ l) : vr_up f l v a = v := if_pos h
theorem vr_up_ne {α : Type} {f : Nat → α} {l : List Nat} {v : α} {a : Nat} (h : a ∉ l) : vr_up f l v a = f a := if_neg h
theorem vr_rows {L l : List Nat} {f : Nat → va_E} {e : va_E} (h : ∀ a, a ∈ l → a ∉ L) : va_pl L f ++ l.map (fun a => (a, e)) = va_pl (L ++ l) (vr_up f l e) := by
  unfold va_pl
  rw [List.map_append]
  congr 1
  · apply List.map_congr_left
    intro a ha
    rw [vr_up_ne (fun q => h a q ha)]
  · apply List.map_congr_left
    intro a ha
    rw [vr_up_in ha]
theorem vr_lay {X rows : va_W} {x : Nat × va_E} {pl : va_W} {D : va_G} {cl : List vw_C} {H : Heap} (hP : va_P D cl (((X ++ pl) ++ [x]) ++ rows) H) : va_P D cl ((X ++ [x]) ++ (pl ++ rows)) H := by
  rw [List.append_assoc (X ++ pl)] at hP
  have h := va_P.swap hP
  rw [← List.append_assoc X] at h
  have h2 := va_P.swap h
  rw [List.append_assoc (X ++ [x])] at h2
  exact h2
theorem vr_layD {X rows : va_W} {x : Nat × va_E} {pl : va_W} {A : Nat → Prop} (hD : va_D A (((X ++ pl) ++ [x]) ++ rows)) : va_D A ((X ++ [x]) ++ (pl ++ rows)) := by
  rw [List.append_assoc (X ++ pl)] at hD
  have h := va_D.swap hD
  rw [← List.append_assoc X] at h
  have h2 := va_D.swap h
  rw [List.append_assoc (X ++ [x])] at h2
  exact h2
theorem vr_outer (c : ClassId) (N h0 : Nat) : ∀ i : Nat, Jvm.Free.Multi.outerC c N h0 i = arrV c N (fun j => va_rf (if j < i then some (h0 + 1 + j) else none))
  | 0 => by
    show ({ cls := c, slots := Array.replicate N .null, vm := .none } : Cell) = _
    rw [arrV_new]
    refine congrArg (arrV c N) (funext fun j => ?_)
    simp [va_rf]
  | i + 1 => by
    show (Jvm.Free.Multi.outerC c N h0 i).setSlot i (.ref (h0 + 1 + i)) = _
    rw [vr_outer c N h0 i, arrV_store]
    refine congrArg (arrV c N) (funext fun j => ?_)
    by_cases e : j = i
    · subst e
      simp [updV, va_rf]
    · by_cases h : j < i
      · simp [updV, e, h, Nat.lt_succ_of_lt h]
      · simp [updV, e, h, show ¬ j < i + 1 by omega]
section VGM
variable {p : Program} {l : Launch} {e : Env} {R : Room} {s : State} {m : MethodId} {args : Array Value} {below : List Frame} {meth : Method} {c : Code} {H : Heap} {locs : List Loc} {cells slots : Nat} {Q : State → Prop}
variable {cc : ByteArray} {pc : Nat} {ls : Array Slot} {rest : List Value} {D : va_G} {cl : List vw_C} {A : Nat → Prop} {a : Nat} {tys : List (ClassId × FieldType)} {ws : va_W} {H0 : Heap}
theorem va_mna {X : va_W} {L : List Nat} {f : Nat → va_E} {cc : ByteArray} (hexec : p.tables.exec = Jvm.exec) (hb : c.code = cc) {own : String} {index : Nat} {ty : FieldType} {cy : ClassId} (hown : s.vm.findClass own = some m.cls) (hclink : (Cond.classLink own index ("[" ++ (FieldType.array ty).toString)).before args s = true) (hover : va_AOA ty s) (harr : (Cond.arrayClass ty).before args s = true) (hcy : s.vm.findClass (FieldType.array ty).toString = some cy)
    (hK : va_K D cl tys s) (hP : va_P D cl (X ++ va_pl L f) H) (hD : va_D A (X ++ va_pl L f)) (hS : va_S A H0 H locs) (hA : ∀ q, H0.size ≤ q → A q) {n k : Int32} {N' K' : Nat} {z : vp_A} (hn : ¬ n < 0) (hk : ¬ k < 0) (hN : n.toNatClampNeg = N') (hM : k.toNatClampNeg = K')
    (hb1 : N' * 4 ≤ 536870912) (hb2 : K' * componentBytes ty ≤ 536870912) (hb3 : K' ≤ 536870912) (hdf : fits ty (defaultValue ty) = true) (hdd : (defaultValue ty).isDefault = true) (hcells : cells + (1 + N') ≤ R.cells) (hslots : slots + (N' + N' * K') ≤ R.slots) (hz : ∀ c : ClassId, Jvm.Free.Multi.innerC c K' (defaultValue ty) = vp_cell c z) (hdg : decode cc pc = .ok (.multianewarray index 2, 4))
    (kk : ∀ (q : Nat) (r : Nat → Nat) (cA : ClassId) (H1 : Heap), (∀ i j : Nat, i < N' → j < N' → r i = r j → i = j) → (∀ i : Nat, i < N' → r i ∉ L) → va_K D cl (tys ++ [(cA, .array ty)]) s →
      va_P D cl ((X ++ [(q, .inl (cA, N', .inr (.inr (.inr (.inr (fun i => if i < N' then some (r i) else none))))))]) ++ va_pl (L ++ (List.range N').map r) (vr_up f ((List.range N').map r) (.inl (cy, z)))) H1 → va_D A ((X ++ [(q, .inl (cA, N', .inr (.inr (.inr (.inr (fun i => if i < N' then some (r i) else none))))))]) ++ va_pl (L ++ (List.range N').map r) (vr_up f ((List.range N').map r) (.inl (cy, z)))) → va_S A H0 H1 locs →
      W p l e R s m args below meth c H1 locs (cells + 1 + N') (slots + N' + N' * K') Q (F0 m (pc + 4) ls (.ref q :: rest))) : W p l e R s m args below meth c H locs cells slots Q (F0 m pc ls (.int k :: .int n :: rest)) := by
  subst hN
  subst hM
  intro T hT Xs
  obtain ⟨vm₁, cA, comp, -, fA, fC, hO, -, X', step⟩ := Xs.multianewarray2F hexec hown hclink (va_AOA.use hover) harr (g := F0 m pc ls (.int k :: .int n :: rest)) rfl (by rw [hb]; exact hdg) rfl hn hk hb1 hb2 hb3 hdf hdd hcells hslots
  have ec : some cy = some comp := hcy.symm.trans fC
  cases ec
  generalize hF : Jvm.Free.Multi.fill (T.setVm vm₁) cA cy n.toNatClampNeg k.toNatClampNeg (defaultValue ty) n.toNatClampNeg = F at X' step
  have hTh : (T.setVm vm₁).heap = H := hT
  obtain ⟨f1, f2, -, -⟩ := Jvm.Free.Multi.fill_facts (T.setVm vm₁) cA cy n.toNatClampNeg k.toNatClampNeg (defaultValue ty) n.toNatClampNeg
  rw [hF, hTh] at f1 f2
  have hold : ∀ x : Nat, x < H.size → F.heap[x]? = H[x]? := fun x hx => by
    have := Jvm.Free.Multi.fill_old (T.setVm vm₁) cA cy n.toNatClampNeg k.toNatClampNeg (defaultValue ty) (a := x) (by rw [hTh]; exact hx) n.toNatClampNeg
    rw [hF, hTh] at this
    exact this
  have hrow : ∀ j : Nat, j < n.toNatClampNeg → F.heap[H.size + 1 + j]? = some (vp_cell cy z) := fun j hj => by
    have := Jvm.Free.Multi.fill_inner (T.setVm vm₁) cA cy n.toNatClampNeg k.toNatClampNeg (defaultValue ty) n.toNatClampNeg j hj
    rw [hF, hTh, hz] at this
    exact this
  have hout : Jvm.Free.Multi.outerC cA n.toNatClampNeg H.size n.toNatClampNeg = vp_cell cA (n.toNatClampNeg, .inr (.inr (.inr (.inr (fun i => if i < n.toNatClampNeg then some (H.size + 1 + i) else none))))) := by
    rw [vp_cell_q]
    exact vr_outer cA n.toNatClampNeg H.size n.toNatClampNeg
  rw [hout] at f2
  have hlt : ∀ a, a ∈ L → a < H.size := fun a ha => by
    obtain ⟨k9, hk9⟩ := va_pl_get (X := X) (f := f) ha
    exact (hP k9 _ hk9).lt
  have hnl : ∀ i : Nat, i < n.toNatClampNeg → H.size + 1 + i ∉ L := fun i _ h => by
    have := hlt _ h
    omega
  have hnm : ∀ a, a ∈ (List.range n.toNatClampNeg).map (fun i => H.size + 1 + i) → a ∉ L := fun a ha h => by
    obtain ⟨i, -, rfl⟩ := List.mem_map.mp ha
    have := hlt _ h
    omega
  have hP0 : va_P D cl (X ++ va_pl L f) F.heap := hP.kept (fun k9 x hx => hold x.1 ((hP k9 x hx).lt))
  have hP1 : va_P D cl ((X ++ va_pl L f) ++ [(H.size, .inl (cA, n.toNatClampNeg, .inr (.inr (.inr (.inr (fun i => if i < n.toNatClampNeg then some (H.size + 1 + i) else none))))))]) F.heap := hP0.app (fun k9 x hx => by
    have h0 : k9 < 1 := (List.getElem?_eq_some_iff.mp hx).1
    rw [show k9 = 0 by omega] at hx
    cases hx
    exact f2)
  have hP2 : va_P D cl (((X ++ va_pl L f) ++ [(H.size, .inl (cA, n.toNatClampNeg, .inr (.inr (.inr (.inr (fun i => if i < n.toNatClampNeg then some (H.size + 1 + i) else none))))))]) ++ ((List.range n.toNatClampNeg).map (fun i => H.size + 1 + i)).map (fun a => (a, .inl (cy, z)))) F.heap := hP1.app (fun k9 x hx => by
    obtain ⟨a, ha, rfl⟩ := List.mem_map.mp (List.mem_of_getElem? hx)
    obtain ⟨i, hi, rfl⟩ := List.mem_map.mp ha
    exact hrow i (List.mem_range.mp hi))
  have hD2 : va_D A (((X ++ va_pl L f) ++ [(H.size, .inl (cA, n.toNatClampNeg, .inr (.inr (.inr (.inr (fun i => if i < n.toNatClampNeg then some (H.size + 1 + i) else none))))))]) ++ ((List.range n.toNatClampNeg).map (fun i => H.size + 1 + i)).map (fun a => (a, .inl (cy, z)))) := by
    have hD1 := hD.push (e := .inl (cA, n.toNatClampNeg, .inr (.inr (.inr (.inr (fun i => if i < n.toNatClampNeg then some (H.size + 1 + i) else none)))))) hP rfl (hA _ hS.1)
    generalize hW1 : (X ++ va_pl L f) ++ [(H.size, .inl (cA, n.toNatClampNeg, .inr (.inr (.inr (.inr (fun i => if i < n.toNatClampNeg then some (H.size + 1 + i) else none))))))] = W1 at hD1 hP1 ⊢
    have hle : ∀ (k9 : Nat) (x : Nat × va_E), W1[k9]? = some x → x.1 ≤ H.size := fun k9 x hx => by
      rw [← hW1] at hx
      by_cases hl : k9 < (X ++ va_pl L f).length
      · rw [List.getElem?_append_left hl] at hx
        exact Nat.le_of_lt ((hP k9 x hx).lt)
      · rw [List.getElem?_append_right (by omega)] at hx
        have h0 : k9 - (X ++ va_pl L f).length < 1 := (List.getElem?_eq_some_iff.mp hx).1
        rw [show k9 - (X ++ va_pl L f).length = 0 by omega] at hx
        cases hx
        exact Nat.le_refl _
    have hr : ∀ (k9 : Nat) (x : Nat × va_E), (((List.range n.toNatClampNeg).map (fun i => H.size + 1 + i)).map (fun a => ((a, .inl (cy, z)) : Nat × va_E)))[k9]? = some x → x.1 = H.size + 1 + k9 := fun k9 x hx => by
      rw [List.getElem?_map, List.getElem?_map] at hx
      by_cases h9 : k9 < n.toNatClampNeg
      · rw [List.getElem?_range h9] at hx
        cases hx
        rfl
      · have hn0 : (List.range n.toNatClampNeg)[k9]? = none := List.getElem?_eq_none (by rw [List.length_range]; omega)
        rw [hn0] at hx
        cases hx
    refine ⟨fun i j x y hi hj hxy => ?_, fun k9 x hx => ?_⟩
    · by_cases h1 : i < W1.length <;> by_cases h2 : j < W1.length
      · rw [List.getElem?_append_left h1] at hi
        rw [List.getElem?_append_left h2] at hj
        exact hD1.1 i j x y hi hj hxy
      · rw [List.getElem?_append_left h1] at hi
        rw [List.getElem?_append_right (by omega)] at hj
        have := hle _ _ hi
        have := hr _ _ hj
        omega
      · rw [List.getElem?_append_right (by omega)] at hi
        rw [List.getElem?_append_left h2] at hj
        have := hle _ _ hj
        have := hr _ _ hi
        omega
      · rw [List.getElem?_append_right (by omega)] at hi hj
        have := hr _ _ hi
        have := hr _ _ hj
        omega
    · by_cases h1 : k9 < W1.length
      · rw [List.getElem?_append_left h1] at hx
        exact hD1.2 k9 x hx
      · rw [List.getElem?_append_right (by omega)] at hx
        have := hr _ _ hx
        exact hA _ (by have := hS.1; omega)
  have hAr : ArrOfT s cA (.array ty) := fun N9 z9 => by
    obtain ⟨-, k9, hk9, cm9, hkk9⟩ := (hO 0 0 0).1
    exact ⟨(fun q hq => by cases hq), k9, hk9, cm9, hkk9⟩
  have hK2 : va_K D cl (tys ++ [(cA, .array ty)]) s := ⟨hK.1, fun k9 x hx => by
    by_cases hl : k9 < tys.length
    · rw [List.getElem?_append_left hl] at hx
      exact hK.2 k9 x hx
    · rw [List.getElem?_append_right (by omega)] at hx
      have h0 : k9 - tys.length < 1 := (List.getElem?_eq_some_iff.mp hx).1
      rw [show k9 - tys.length = 0 by omega] at hx
      cases hx
      exact ⟨hAr, fA⟩⟩
  obtain ⟨t, a1, b1⟩ := kk H.size (fun i => H.size + 1 + i) cA F.heap (fun i j _ _ h => by have h9 : H.size + 1 + i = H.size + 1 + j := h; omega) hnl hK2 (by rw [← vr_rows hnm]; exact vr_lay hP2) (by rw [← vr_rows hnm]; exact vr_layD hD2) ⟨by rw [f1]; have := hS.1; omega, fun x h1 h2 => (hold x (Nat.lt_of_lt_of_le h1 hS.1)).trans (hS.2.1 x h1 h2), hS.2.2⟩ F rfl X'
  refine ⟨t, step t ?_, b1⟩
  have e : T.heap.size = H.size := by rw [hT]
  rw [e]
  exact a1
end VGM
/-! ===== END ===== -/

/-! ===== BEGIN exceptions that leave a method, and their catching by the caller (launches without stack traces) ===== -/
section VXA
/-! The laws vx_back, vx_callV, vx_callS, vx_callSW, vx_throw0, vx_throwS follow proofs of the library, with one case more: JvmDerived/Free/Laws.lean (Back.of_free), Shelf42/LK1.lean (callV, callS), Shelf/KitTraced.lean (throwNew0V, throwNewS). -/
/-- where a method has thrown q: the class by its name, the cell, what was written, the world -/
def vx_T (XC : String → State → State → Prop) (st : State) (q : Addr) (t : State) (mc ms : Nat) (free : Addr → Prop) : Prop :=
  ∃ (E : String) (ce : Cell) (L : List Loc), XC E st t ∧ t.heap[q]? = some ce ∧ ce.vm = .none ∧ st.vm.findClass E = some ce.cls ∧ st.WarmedH t.vm ∧ st.sameButNew ({ t with vm := st.vm } : State) L mc ms ∧ ∀ z ∈ L, free z.base
def vx_Q (Qc : Array Value → State → Outcome → State → Prop) (XC : String → State → State → Prop) (mc ms : Nat) (free : Addr → Prop) : Array Value → State → Outcome → State → Prop := fun a st o t =>
  (Qc a st o t ∧ ∃ L, FrameEnd st o t L mc ms ∧ ∀ q ∈ L, free q.base) ∨ ∃ q, o = .threw q ∧ vx_T XC st q t mc ms free
/-- a callee that returns or throws -/
def vx_Met (l : Launch) (y : MethodName) (ws : List Cond) (rm : Room) (Pc : Array Value → State → Prop) (Qc : Array Value → State → Outcome → State → Prop) (XC : String → State → State → Prop) (mc ms : Nat) (free : Addr → Prop) : Prop :=
  MetFree l y (headSpec ws rm) Pc (fun _ _ _ _ _ => True) (vx_Q Qc XC mc ms free)
def vx_Post (XC : String → State → State → Prop) (mc ms : Nat) (free : Addr → Prop) : Pt → Array Value → Addr → Pt → Prop := fun A a q B =>
  ∃ (g : JFrame) (mk : MethodId) (t : State) (L : List Loc) (E : String) (ce : Cell), B.U.heap = t.heap ∧ B.U.vm = t.vm ∧ XC E (A.U.calling g mk a) t ∧ t.heap[q]? = some ce ∧ ce.vm = .none ∧ A.U.vm.findClass E = some ce.cls ∧ B.locs = A.locs ++ L ∧ (∀ z ∈ L, free z.base) ∧ B.cells = A.cells + mc ∧ B.slots = A.slots + ms
def vx_Back (l : Launch) (R : Room) (p : Program) (e : Env) (below : List Frame) (s : State) (sargs : Array Value) (y : MethodName) (len W9 : Nat)
    (Pre : Pt → Array Value → Prop) (Post : Pt → Array Value → Option Value → Pt → Prop) (PostX : Pt → Array Value → Addr → Pt → Prop) : Prop :=
  ∀ (m : MethodId) (meth : Method) (c : Code) (A : Pt) (g : JFrame) (ig : Instr) (mk : MethodId) (a : Array Value),
    Stand p l e R s m sargs below meth c A.U A.locs A.cells A.slots → g.method = m → g.locals.size = c.maxLocals → decode c.code g.pc = .ok (ig, len) →
    2 * g.monitorRoom + (g.stack.map fun v => v.category).sum ≤ W9 → A.U.methodNamed? y = some mk → Pre A a →
    (∃ (v : Option Value) (B : Pt), Stand p l e R s m sargs below meth c B.U B.locs B.cells B.slots ∧ Post A a v B ∧
      Steps p.tables e below (doInvoke e (A.U.setTop g) [] mk a).1 (B.U.setTop { g with pc := g.pc + len, stack := v.toList ++ g.stack })) ∨
    (∃ (q : Addr) (B : Pt), Stand p l e R s m sargs below meth c B.U B.locs B.cells B.slots ∧ PostX A a q B ∧
      Steps p.tables e below (doInvoke e (A.U.setTop g) [] mk a).1 ((B.U.setTop g).pushFrame (.throwing q)))
section Payer
variable {l : Launch} {R : Room} {p : Program} {e : Env} {below : List Frame} {s : State} {sargs : Array Value} {y : MethodName} {len W9 : Nat}
theorem vx_back {ws : List Cond} {rm : Room} {Pc : Array Value → State → Prop} {Qc : Array Value → State → Outcome → State → Prop} {XC : String → State → State → Prop} {mc ms : Nat} {free : Addr → Prop} {bytes : ByteArray} {maxL : Nat} {ret : Option FieldType}
    (hM : vx_Met l y ws rm Pc Qc XC mc ms free) (hblind : FrameBlind Pc) (hrc : rm.cells = mc) (hrs : rm.slots = ms)
    (hframes : rm.frames + 1 ≤ R.frames) (hlocals : W9 + (maxL + 11) + rm.locals ≤ R.locals)
    (hws : ∀ w ∈ ws, ∀ a' U, s.WarmedH U.vm → w.before a' U = true) (hcode : Cond.code y bytes maxL ret ∈ ws) (hinit : ∀ a' U, s.WarmedH U.vm → (Cond.initialized y.cls).before a' U = true) :
    vx_Back l R p e below s sargs y len W9 (PreOf R mc ms Pc) (PostOf Qc mc ms free) (vx_Post XC mc ms free) := by
  intro m meth c A g ig mk a X hg hsize hdg hW hn hp
  have h1 : (headSpec ws rm).pre.before a A.U = true := atoms_intro fun w hw => hws w hw _ _ X.warmed
  have h2 : (Cond.code y bytes maxL ret).before a A.U = true := hws _ hcode _ _ X.warmed
  have h3 : (Cond.initialized y.cls).before a A.U = true := hinit _ _ X.warmed
  have h4 : A.cells + (headSpec ws rm).room.cells ≤ R.cells := by rw [show (headSpec ws rm).room.cells = mc from hrc]; exact hp.1
  have h5 : A.slots + (headSpec ws rm).room.slots ≤ R.slots := by rw [show (headSpec ws rm).room.slots = ms from hrs]; exact hp.2.1
  have hPc : Pc a (A.U.calling g mk a) := hblind _ _ _ _ hp.2.2
  obtain ⟨U, Ls, c0, s0⟩ := A
  dsimp only [Pt.U, Pt.locs, Pt.cells, Pt.slots] at h1 h2 h3 h4 h5 X hn hPc ⊢
  obtain ⟨methY, cY, hmY, hcY, -, hlY, -, -, -, -⟩ := Cond.code_spec hn h2
  obtain ⟨kY, hkY, -⟩ := className_of_methodNamed hn
  have hinitY : kY.init = .initialized := Cond.initialized_spec (findClass_of_methodNamed hn) hkY h3
  have h : At U g.method c below := by rw [hg]; exact X.here
  have hlocals9 : W9 + (maxL + 11) + (headSpec ws rm).room.locals ≤ R.locals := hlocals
  have happ : (headSpec ws rm).appliesLoose y e.platform (U.calling g mk a) = true :=
    Spec.appliesLoose_calling (g := g) h hdg hn hkY hinitY
      (X.room_calling (g := g) (R' := (headSpec ws rm).room) hsize hmY hcY hframes (by rw [hlY]; omega) h4 h5) h1
  obtain ⟨mid, hmid⟩ := h.above
  have hfr : (U.setTop g).frames = (.java g :: mid) ++ below := by rw [State.frames_setTop' g h.top, hmid]; rfl
  obtain ⟨o, s₂, hsteps, -, hend, hq⟩ := Steps.callFree hM p X.admits X.cas X.clock (acts := []) hfr happ hPc trivial
  have hq' : vx_Q Qc XC mc ms free a (U.calling g mk a) o s₂ := hq
  rw [State.frames_setTop' g h.top] at hend
  obtain ⟨g₀, hg0⟩ := Option.isSome_iff_exists.mp h.top
  obtain ⟨r, hr⟩ := State.topJava?_eq_some.mp hg0
  have hr' : (({ U with heap := s₂.heap, slotsUsed := s₂.slotsUsed } : State).setVm s₂.vm).frames = .java g₀ :: r := hr
  rcases hq' with ⟨hqc, L, hfe, hL⟩ | ⟨q, rfl, E, ce, L, hx, hce, hcv, hcl, hW₂, hsm, hL⟩
  · obtain ⟨⟨v, rfl⟩, hW₂, e2, q2, q3, q4, q5, q6⟩ := id hfe
    have e3 : s₂ = ({ (U.calling g mk a).setFrames s₂.frames with heap := s₂.heap, slotsUsed := s₂.slotsUsed } : State).setVm s₂.vm := by
      have : s₂ = ({ s₂ with vm := (U.calling g mk a).vm } : State).setVm s₂.vm := rfl
      rw [e2] at this
      exact this
    obtain ⟨c₂, i₂, len₂, hc₂, hd₂, hf₂⟩ := hend
    have hW' : U.WarmedH s₂.vm := hW₂
    have hcc : c₂ = c := by
      have h1 : s₂.code? g.method = U.code? g.method := by
        rw [State.code?_eq, State.code?_eq, hW'.alike.method?]
      exact Option.some.inj (hc₂.symm.trans (h1.trans h.code))
    subst hcc
    have hlen : len₂ = len := by rw [hdg] at hd₂; cases hd₂; rfl
    subst hlen
    have hs₂ : s₂ = (({ U with heap := s₂.heap, slotsUsed := s₂.slotsUsed } : State).setVm s₂.vm).setTop { g with pc := g.pc + len₂, stack := v.toList ++ g.stack } := by
      refine e3.trans ?_
      rw [hf₂, State.calling_eq h.top, State.setFrames_setFrames, State.setTop_of_frames _ hr', hr]
      rfl
    have hsame : U.sameButNew ({ U with heap := s₂.heap, slotsUsed := s₂.slotsUsed } : State) L mc ms := by
      refine ⟨?_, q2, q3, q4, q5, q6⟩
      obtain ⟨t, ht, -⟩ := State.frames_cons hr
      show ({ U with heap := s₂.heap, slotsUsed := s₂.slotsUsed } : State) = { U.setFrames U.frames with heap := s₂.heap, slotsUsed := s₂.slotsUsed }
      rw [State.setFrames_self ht]
    subst hg
    refine Or.inl ⟨v, ⟨(({ U with heap := s₂.heap, slotsUsed := s₂.slotsUsed } : State).setVm s₂.vm), Ls ++ L, c0 + mc, s0 + ms⟩,
      ⟨X.admits, X.cas, X.clock, X.frames, X.room, X.hears, X.method, X.code, (X.here.setHeapUsed s₂.heap s₂.slotsUsed).setVm hW'.alike, X.tail, State.WarmedH.trans X.warmed hW', X.limits, X.bytes, X.same.trans (hsame.setVm s.vm)⟩,
      ⟨g, mk, s₂, L, rfl, rfl, hqc, rfl, hL, rfl, rfl⟩, ?_⟩
    show Steps p.tables e below _ ((({ U with heap := s₂.heap, slotsUsed := s₂.slotsUsed } : State).setVm s₂.vm).setTop { g with pc := g.pc + len₂, stack := v.toList ++ g.stack })
    rw [← hs₂]
    exact hsteps
  · obtain ⟨e2, q2, q3, q4, q5, q6⟩ := id hsm
    have e3 : s₂ = ({ (U.calling g mk a).setFrames s₂.frames with heap := s₂.heap, slotsUsed := s₂.slotsUsed } : State).setVm s₂.vm := by
      have : s₂ = ({ s₂ with vm := (U.calling g mk a).vm } : State).setVm s₂.vm := rfl
      rw [e2] at this
      exact this
    have hf₂ : s₂.frames = .throwing q :: .java g :: U.frames.tail := hend
    have hW' : U.WarmedH s₂.vm := hW₂
    have hs₂ : s₂ = ((({ U with heap := s₂.heap, slotsUsed := s₂.slotsUsed } : State).setVm s₂.vm).setTop g).pushFrame (.throwing q) := by
      refine e3.trans ?_
      rw [hf₂, State.calling_eq h.top, State.setFrames_setFrames, State.pushFrame, State.frames_setTop _ hr', State.setTop_of_frames _ hr', State.setFrames_setFrames, hr]
      rfl
    have hsame : U.sameButNew ({ U with heap := s₂.heap, slotsUsed := s₂.slotsUsed } : State) L mc ms := by
      refine ⟨?_, q2, q3, q4, q5, q6⟩
      obtain ⟨t, ht, -⟩ := State.frames_cons hr
      show ({ U with heap := s₂.heap, slotsUsed := s₂.slotsUsed } : State) = { U.setFrames U.frames with heap := s₂.heap, slotsUsed := s₂.slotsUsed }
      rw [State.setFrames_self ht]
    subst hg
    refine Or.inr ⟨q, ⟨(({ U with heap := s₂.heap, slotsUsed := s₂.slotsUsed } : State).setVm s₂.vm), Ls ++ L, c0 + mc, s0 + ms⟩,
      ⟨X.admits, X.cas, X.clock, X.frames, X.room, X.hears, X.method, X.code, (X.here.setHeapUsed s₂.heap s₂.slotsUsed).setVm hW'.alike, X.tail, State.WarmedH.trans X.warmed hW', X.limits, X.bytes, X.same.trans (hsame.setVm s.vm)⟩,
      ⟨g, mk, s₂, L, E, ce, rfl, rfl, hx, hce, hcv, hcl, rfl, hL, rfl, rfl⟩, ?_⟩
    show Steps p.tables e below _ (((({ U with heap := s₂.heap, slotsUsed := s₂.slotsUsed } : State).setVm s₂.vm).setTop g).pushFrame (.throwing q))
    rw [← hs₂]
    exact hsteps
end Payer
section Calls
variable {p : Program} {l : Launch} {e : Env} {R : Room} {s : State} {m : MethodId} {args : Array Value} {below : List Frame} {meth : Method} {c : Code} {T : State} {locs : List Loc} {cells slots : Nat}
theorem vx_callV (X : Stand p l e R s m args below meth c T locs cells slots) (hexec : p.tables.exec = Jvm.exec) {own C : String} {index : Nat} {y : MethodName} {bytes : ByteArray} {maxL : Nat} {ret : Option FieldType}
    (hown : s.vm.findClass own = some m.cls) (hlink : (Cond.methodLink own index y).before args s = true) (hinst : (Cond.instanceMethod y).before args s = true) (hsel : (Cond.selects C y y).before args s = true)
    (hcode : (Cond.code y bytes maxL ret).before args s = true) (hy : y.cls ≠ "java/lang/invoke/MethodHandle" ∧ y.cls ≠ "java/lang/invoke/VarHandle")
    {W9 : Nat} {Pre : Pt → Array Value → Prop} {Post : Pt → Array Value → Option Value → Pt → Prop} {PostX : Pt → Array Value → Addr → Pt → Prop} (hK : vx_Back l R p e below s args y 3 W9 Pre Post PostX)
    {b : Addr} {cellB : Cell} (hcell : T.heap[b]? = some cellB) (hobj : cellB.vm.isStatics = false) (hcls : s.vm.findClass C = some cellB.cls)
    {g : JFrame} (hg : g.method = m) (hsize : g.locals.size = c.maxLocals) {argsL rest : List Value} (hlen : ∀ sig, parseMethodDescriptor y.desc = some sig → argsL.length = sig.parameters.length)
    (hstack : g.stack = argsL.reverse ++ .ref b :: rest) (hW : 2 * g.monitorRoom + (rest.map fun v => v.category).sum ≤ W9) (hdg : decode c.code g.pc = .ok (.invokevirtual index, 3))
    (hpre : ∀ vm₁, s.WarmedH vm₁ → Pre ⟨T.setVm vm₁, locs, cells, slots⟩ (Value.ref b :: argsL).toArray) :
    (∃ (v : Option Value) (vm₁ : Vm) (B : Pt), s.WarmedH vm₁ ∧ Stand p l e R s m args below meth c B.U B.locs B.cells B.slots ∧ Post ⟨T.setVm vm₁, locs, cells, slots⟩ (Value.ref b :: argsL).toArray v B ∧
      ∀ target, Steps p.tables e below (B.U.setTop { g with pc := g.pc + 3, stack := v.toList ++ rest }) target → Steps p.tables e below (T.setTop g) target) ∨
    (∃ (q : Addr) (vm₁ : Vm) (B : Pt), s.WarmedH vm₁ ∧ Stand p l e R s m args below meth c B.U B.locs B.cells B.slots ∧ PostX ⟨T.setVm vm₁, locs, cells, slots⟩ (Value.ref b :: argsL).toArray q B ∧
      Steps p.tables e below (T.setTop g) ((B.U.setTop { g with stack := rest }).pushFrame (.throwing q))) := by
  obtain ⟨mk, methM, hnamed, hmethM, hstM, habM⟩ := Cond.instanceMethod_spec hinst
  obtain ⟨methM', cM, hmethM', -, -, -, -, -, -, hsigM⟩ := Cond.code_spec hnamed hcode
  cases hmethM.symm.trans hmethM'
  obtain ⟨c2, r2, m2, q1, q2, q3, q4, kP, hkP, hkPi⟩ := Cond.selects_spec hsel
  cases hcls.symm.trans q1
  cases (State.methodFound?_of_named hnamed hy).symm.trans q2
  cases hnamed.symm.trans q3
  have hselP : selectMethod e.platform s.vm cellB.cls mk = .method mk := by rw [Launch.admits_selectMethod X.admits]; exact q4
  obtain ⟨vm₁, X₁, hstep₁⟩ := X.invokevirtual hexec hown hlink hnamed hmethM hstM hkP hkPi hy (a := b) (cell := cellB) hcell
    (fun z h => by rw [h] at hobj; cases hobj) hselP hmethM habM hkP hkPi (g := g) hg (argsL := argsL) (rest := rest) (hlen _ hsigM) hstack hdg
  rcases hK m meth c ⟨T.setVm vm₁, locs, cells, slots⟩ { g with stack := rest } (.invokevirtual index) mk (Value.ref b :: argsL).toArray X₁ hg hsize hdg hW (X₁.named hnamed) (hpre vm₁ X₁.warmed) with ⟨v, B, X', hpost, hsteps⟩ | ⟨q, B, X', hpost, hsteps⟩
  · exact Or.inl ⟨v, vm₁, B, X₁.warmed, X', hpost, fun target h => hstep₁ _ fun acts => by rw [doInvoke_state]; exact hsteps.trans h⟩
  · exact Or.inr ⟨q, vm₁, B, X₁.warmed, X', hpost, hstep₁ _ fun acts => by rw [doInvoke_state]; exact hsteps⟩
theorem vx_callS (X : Stand p l e R s m args below meth c T locs cells slots) (hexec : p.tables.exec = Jvm.exec) {own : String} {index : Nat} {y : MethodName} {bytes : ByteArray} {maxL : Nat} {ret : Option FieldType}
    (hown : s.vm.findClass own = some m.cls) (hlink : (Cond.methodLink own index y).before args s = true) (hstat : (Cond.static y).before args s = true) (hinit : (Cond.initialized y.cls).before args s = true)
    (hcode : (Cond.code y bytes maxL ret).before args s = true) (hy : y.cls ≠ "java/lang/invoke/MethodHandle" ∧ y.cls ≠ "java/lang/invoke/VarHandle")
    {W9 : Nat} {Pre : Pt → Array Value → Prop} {Post : Pt → Array Value → Option Value → Pt → Prop} {PostX : Pt → Array Value → Addr → Pt → Prop} (hK : vx_Back l R p e below s args y 3 W9 Pre Post PostX)
    {g : JFrame} (hg : g.method = m) (hsize : g.locals.size = c.maxLocals) {argsL rest : List Value} (hlen : ∀ sig, parseMethodDescriptor y.desc = some sig → argsL.length = sig.parameters.length)
    (hstack : g.stack = argsL.reverse ++ rest) (hW : 2 * g.monitorRoom + (rest.map fun v => v.category).sum ≤ W9) (hdg : decode c.code g.pc = .ok (.invokestatic index, 3))
    (hpre : ∀ vm₁, s.WarmedH vm₁ → Pre ⟨T.setVm vm₁, locs, cells, slots⟩ argsL.toArray) :
    (∃ (v : Option Value) (vm₁ : Vm) (B : Pt), s.WarmedH vm₁ ∧ Stand p l e R s m args below meth c B.U B.locs B.cells B.slots ∧ Post ⟨T.setVm vm₁, locs, cells, slots⟩ argsL.toArray v B ∧
      ∀ target, Steps p.tables e below (B.U.setTop { g with pc := g.pc + 3, stack := v.toList ++ rest }) target → Steps p.tables e below (T.setTop g) target) ∨
    (∃ (q : Addr) (vm₁ : Vm) (B : Pt), s.WarmedH vm₁ ∧ Stand p l e R s m args below meth c B.U B.locs B.cells B.slots ∧ PostX ⟨T.setVm vm₁, locs, cells, slots⟩ argsL.toArray q B ∧
      Steps p.tables e below (T.setTop g) ((B.U.setTop { g with stack := rest }).pushFrame (.throwing q))) := by
  obtain ⟨mk, hnamed⟩ := Cond.code_named hcode
  obtain ⟨methM, cM, hmethM, -, -, -, -, -, -, hsigM⟩ := Cond.code_spec hnamed hcode
  have hstatic : methM.isStatic = true := Cond.static_spec hnamed hmethM hstat
  obtain ⟨kP, hkP, -⟩ := className_of_methodNamed hnamed
  have hinitP : kP.init = .initialized := Cond.initialized_spec (findClass_of_methodNamed hnamed) hkP hinit
  obtain ⟨vm₁, X₁, hstep₁⟩ := X.invokestatic hexec hown hlink hnamed hmethM hstatic hkP hinitP hy (g := g) hg (argsL := argsL) (rest := rest) (hlen _ hsigM) hstack hdg
  rcases hK m meth c ⟨T.setVm vm₁, locs, cells, slots⟩ { g with stack := rest } (.invokestatic index) mk argsL.toArray X₁ hg hsize hdg hW (X₁.named hnamed) (hpre vm₁ X₁.warmed) with ⟨v, B, X', hpost, hsteps⟩ | ⟨q, B, X', hpost, hsteps⟩
  · exact Or.inl ⟨v, vm₁, B, X₁.warmed, X', hpost, fun target h => hstep₁ _ fun acts => by rw [doInvoke_state]; exact hsteps.trans h⟩
  · exact Or.inr ⟨q, vm₁, B, X₁.warmed, X', hpost, hstep₁ _ fun acts => by rw [doInvoke_state]; exact hsteps⟩
end Calls
theorem vx_cls {s : State} {T : State} {vm₁ : Vm} {E : String} {k : ClassId} (hW : s.WarmedH vm₁) (h : (T.setVm vm₁).vm.findClass E = some k) : s.vm.findClass E = some k := by
  have h1 : vm₁.findClass E = some k := h
  rw [hW.alike.findClass] at h1
  exact h1
/-- the method's frame g, with q thrown over it -/
def vx_W (p : Program) (l : Launch) (e : Env) (R : Room) (s : State) (m : MethodId) (args : Array Value) (below : List Frame) (meth : Method) (c : Code) (H : Heap) (locs : List Loc) (cells slots : Nat) (Q : State → Prop) (g : JFrame) (q : Addr) : Prop :=
  ∀ T : State, T.heap = H → Stand p l e R s m args below meth c T locs cells slots → ∃ t, Steps p.tables e below ((T.setTop g).pushFrame (.throwing q)) t ∧ Q t
def vx_Run (p : Program) (l : Launch) (e : Env) (R : Room) (s : State) (m : MethodId) (args : Array Value) (below : List Frame) (meth : Method) (c : Code) (H : Heap) (locs : List Loc) (cells slots mc ms : Nat) (g : JFrame) (rest : List Value) (Qa : State → Outcome → State → Prop) (XC : String → State → State → Prop) (free : Addr → Prop) : Prop :=
  ∀ T : State, T.heap = H → Stand p l e R s m args below meth c T locs cells slots →
    (∃ (v : Option Value) (st₀ t T' : State) (L : List Loc), st₀.heap = H ∧ Stand p l e R s m args below meth c T' (locs ++ L) (cells + mc) (slots + ms) ∧ (∀ q ∈ L, free q.base) ∧ T'.heap = t.heap ∧ T'.vm = t.vm ∧ Qa st₀ (.returned v) t ∧
      Goes p e below T g T' { g with pc := g.pc + 3, stack := v.toList ++ rest }) ∨
    (∃ (q : Addr) (st₀ t T' : State) (L : List Loc) (E : String) (ce : Cell), st₀.heap = H ∧ Stand p l e R s m args below meth c T' (locs ++ L) (cells + mc) (slots + ms) ∧ (∀ z ∈ L, free z.base) ∧ T'.heap = t.heap ∧ T'.vm = t.vm ∧ XC E st₀ t ∧ t.heap[q]? = some ce ∧ ce.vm = .none ∧ s.vm.findClass E = some ce.cls ∧
      Steps p.tables e below (T.setTop g) ((T'.setTop { g with stack := rest }).pushFrame (.throwing q)))
def vx_X {S : Type} (px : S → Prop) (B : String → S → State → Prop) (A : Nat → Prop) : String → State → State → Prop := fun E st t => ∃ u : S, px u ∧ B E u t ∧ va_F A st t
section Runs
variable {p : Program} {l : Launch} {e : Env} {R : Room} {s : State} {m : MethodId} {args : Array Value} {below : List Frame} {meth : Method} {c : Code} {H : Heap} {locs : List Loc} {cells slots : Nat}
variable {y : MethodName} {bytes cc : ByteArray} {maxL nL mc ms n index : Nat} {ret : Option FieldType} {ws : List Cond} {rm : Room} {Pc : Array Value → State → Prop} {Qc : Array Value → State → Outcome → State → Prop} {XC : String → State → State → Prop} {free : Addr → Prop} {Ts : List Cond} {own C : String} {b : Addr} {As rest : List Value} {g : JFrame}
theorem vx_callBack (cb : CallB R s args own index y bytes maxL ret ws rm mc ms n) (hM : vx_Met l y ws rm Pc Qc XC mc ms free) (hbl : FrameBlind Pc) : vx_Back l R p e below s args y 3 8 (PreOf R mc ms Pc) (PostOf Qc mc ms free) (vx_Post XC mc ms free) := by
  obtain ⟨hrc, hrs, hfr, hlo, hws, hcw, -, hini, -⟩ := cb
  exact vx_back (bytes := bytes) (maxL := maxL) (ret := ret) hM hbl hrc hrs hfr hlo hws hcw (fun a' U hW => word_at hW (Or.inl (by first | rfl | simp [Cond.onTables, Cond.keeps, Cond.steady])) hini)
theorem vx_runV (S : CallFix p m c cc nL s args Ts own) (hM : vx_Met l y ws rm Pc Qc XC mc ms free) (cw : CallW R s args own C index y bytes maxL ret ws rm mc ms n) (hp : PreV s H C b Pc As)
    (hg : g.method = m) (hn : As.length = n) (hsize : g.locals.size = nL) (hstack : g.stack = As.reverse ++ .ref b :: rest) (hW : 2 * g.monitorRoom + (rest.map fun v => v.category).sum ≤ 8) (hdg : decode cc g.pc = .ok (.invokevirtual index, 3)) (hf : cells + mc ≤ R.cells ∧ slots + ms ≤ R.slots) :
    vx_Run p l e R s m args below meth c H locs cells slots mc ms g rest (Qc (Value.ref b :: As).toArray) XC free := by
  have hK : vx_Back l R p e below s args y 3 8 (PreOf R mc ms Pc) (PostOf Qc mc ms free) (vx_Post XC mc ms free) := vx_callBack cw.1 hM hp.1
  obtain ⟨⟨-, -, -, -, -, -, hcode, -, hy, hlen, hl⟩, hin, hse⟩ := cw
  obtain ⟨hx, hb, hml, ho, -⟩ := S
  obtain ⟨-, ⟨cellB, hcB, hoB, hclB⟩, hPc⟩ := hp
  intro T hT X
  rcases vx_callV X hx (C := C) (bytes := bytes) (maxL := maxL) (ret := ret) ho hl hin hse hcode hy hK (by rw [hT]; exact hcB) hoB hclB hg (hsize.trans hml.symm) (argsL := As) (rest := rest) (fun sig h => hn.trans (hlen sig h)) hstack hW (by rw [hb]; exact hdg)
    (fun vm₁ hW₁ => ⟨hf.1, hf.2, hPc (T.setVm vm₁) hT hW₁⟩) with ⟨v, vm₁, ⟨U', l2, c2, s2⟩, hW₁, X', ⟨g', mk, t, L, e1, e2, hq, h1, hL, h2, h3⟩, st⟩ | ⟨q, vm₁, ⟨U', l2, c2, s2⟩, hW₁, X', ⟨g', mk, t, L, E, ce, e1, e2, hq, hce, hcv, hcl, h1, hL, h2, h3⟩, st⟩
  · dsimp only [Pt.U, Pt.locs, Pt.cells, Pt.slots] at X' e1 e2 h1 h2 h3 st
    subst h1; subst h2; subst h3
    exact Or.inl ⟨v, (T.setVm vm₁).calling g' mk (Value.ref b :: As).toArray, t, U', L, hT, X', hL, e1, e2, hq, st⟩
  · dsimp only [Pt.U, Pt.locs, Pt.cells, Pt.slots] at X' e1 e2 h1 h2 h3 st hcl
    subst h1; subst h2; subst h3
    exact Or.inr ⟨q, (T.setVm vm₁).calling g' mk (Value.ref b :: As).toArray, t, U', L, E, ce, hT, X', hL, e1, e2, hq, hce, hcv, vx_cls hW₁ hcl, st⟩
theorem vx_runS (S : CallFix p m c cc nL s args Ts own) (hM : vx_Met l y ws rm Pc Qc XC mc ms free) (cw : CallB R s args own index y bytes maxL ret ws rm mc ms n ∧ (Cond.static y).before args s = true) (hp : PreS s H Pc As)
    (hg : g.method = m) (hn : As.length = n) (hsize : g.locals.size = nL) (hstack : g.stack = As.reverse ++ rest) (hW : 2 * g.monitorRoom + (rest.map fun v => v.category).sum ≤ 8) (hdg : decode cc g.pc = .ok (.invokestatic index, 3)) (hf : cells + mc ≤ R.cells ∧ slots + ms ≤ R.slots) :
    vx_Run p l e R s m args below meth c H locs cells slots mc ms g rest (Qc As.toArray) XC free := by
  have hK : vx_Back l R p e below s args y 3 8 (PreOf R mc ms Pc) (PostOf Qc mc ms free) (vx_Post XC mc ms free) := vx_callBack cw.1 hM hp.1
  obtain ⟨⟨-, -, -, -, -, -, hcode, hini, hy, hlen, hl⟩, hstt⟩ := cw
  obtain ⟨hx, hb, hml, ho, -⟩ := S
  intro T hT X
  rcases vx_callS X hx (bytes := bytes) (maxL := maxL) (ret := ret) ho hl hstt hini hcode hy hK hg (hsize.trans hml.symm) (argsL := As) (rest := rest) (fun sig h => hn.trans (hlen sig h)) hstack hW (by rw [hb]; exact hdg)
    (fun vm₁ hW₁ => ⟨hf.1, hf.2, hp.2 (T.setVm vm₁) hT hW₁⟩) with ⟨v, vm₁, ⟨U', l2, c2, s2⟩, hW₁, X', ⟨g', mk, t, L, e1, e2, hq, h1, hL, h2, h3⟩, st⟩ | ⟨q, vm₁, ⟨U', l2, c2, s2⟩, hW₁, X', ⟨g', mk, t, L, E, ce, e1, e2, hq, hce, hcv, hcl, h1, hL, h2, h3⟩, st⟩
  · dsimp only [Pt.U, Pt.locs, Pt.cells, Pt.slots] at X' e1 e2 h1 h2 h3 st
    subst h1; subst h2; subst h3
    exact Or.inl ⟨v, (T.setVm vm₁).calling g' mk As.toArray, t, U', L, hT, X', hL, e1, e2, hq, st⟩
  · dsimp only [Pt.U, Pt.locs, Pt.cells, Pt.slots] at X' e1 e2 h1 h2 h3 st hcl
    subst h1; subst h2; subst h3
    exact Or.inr ⟨q, (T.setVm vm₁).calling g' mk As.toArray, t, U', L, E, ce, hT, X', hL, e1, e2, hq, hce, hcv, vx_cls hW₁ hcl, st⟩
end Runs
section Rows
variable {p : Program} {l : Launch} {e : Env} {R : Room} {s : State} {m : MethodId} {args : Array Value} {below : List Frame} {meth : Method} {c : Code} {H : Heap} {locs : List Loc} {cells slots : Nat} {Q : State → Prop}
variable {mc ms : Nat} {free : Addr → Prop} {A0 A1 : Nat → Prop} {H0 : Heap} {a : Array Value} {pc : Nat} {ls : Array Slot} {st0 rest : List Value}
theorem vx_keep {st₀ t T' : State} {L : List Loc} (h0 : st₀.heap = H) (e1 : T'.heap = t.heap) (hS : va_S A0 H0 H locs) (hA : ∀ q, q < H.size → A1 q → A0 q) (hf : ∀ q, free q → A0 q) (hL : ∀ q ∈ L, free q.base) (hF : va_F A1 st₀ t) :
    H.size ≤ T'.heap.size ∧ (∀ q : Nat, q < H.size → ¬ A1 q → T'.heap[q]? = H[q]?) ∧ va_S A0 H0 T'.heap (locs ++ L) := by
  obtain ⟨hz, hk⟩ := hF
  rw [h0] at hz hk
  exact ⟨by rw [e1]; exact hz, fun q h1 h2 => by rw [e1]; exact hk q h1 h2,
    ⟨Nat.le_trans hS.1 (by rw [e1]; exact hz), fun q h1 h2 => by rw [e1, hk q (Nat.lt_of_lt_of_le h1 hS.1) (fun z => h2 (hA q (Nat.lt_of_lt_of_le h1 hS.1) z))]; exact hS.2.1 q h1 h2, fun q hq => by
      rcases List.mem_append.mp hq with h | h
      · exact hS.2.2 q h
      · exact hf _ (hL q h)⟩⟩
theorem vx_calli {S SX : Type} {post : Int32 → S → Prop} {px : SX → Prop} {B : S → State → Prop} {BX : String → SX → State → Prop} {AX : Nat → Prop} (hr : vx_Run p l e R s m args below meth c H locs cells slots mc ms (F0 m pc ls st0) rest (va_Qi post B A1 a) (vx_X px BX AX) free) (hS : va_S A0 H0 H locs) (hA : ∀ q, q < H.size → A1 q → A0 q) (hf : ∀ q, free q → A0 q) (hAX : ∀ q, q < H.size → AX q → A0 q)
    (kx : ∀ (E : String) (ce : Cell) (q9 : Addr) (u : SX) (t : State) (H1 : Heap) (locs1 : List Loc), t.heap = H1 → s.vm.Alike t.vm → px u → BX E u t → H.size ≤ H1.size → (∀ q : Nat, q < H.size → ¬ AX q → H1[q]? = H[q]?) → va_S A0 H0 H1 locs1 → H1[q9]? = some ce → ce.vm = .none → s.vm.findClass E = some ce.cls → vx_W p l e R s m args below meth c H1 locs1 (cells + mc) (slots + ms) Q (F0 m pc ls rest) q9)
    (kk : ∀ (r : Int32) (u : S) (t : State) (H1 : Heap) (locs1 : List Loc), t.heap = H1 → s.vm.Alike t.vm → post r u → B u t → H.size ≤ H1.size → (∀ q : Nat, q < H.size → ¬ A1 q → H1[q]? = H[q]?) → va_S A0 H0 H1 locs1 → W p l e R s m args below meth c H1 locs1 (cells + mc) (slots + ms) Q (F0 m (pc + 3) ls (.int r :: rest))) : W p l e R s m args below meth c H locs cells slots Q (F0 m pc ls st0) := by
  intro T hT X
  rcases hr T hT X with ⟨v, st₀, t, T', L, h0, X', hL, e1, e2, ⟨⟨r, u, hv, hp, hb⟩, hF⟩, st⟩ | ⟨q, st₀, t, T', L, E, ce, h0, X', hL, e1, e2, ⟨u, hp, hb, hF⟩, hce, hcv, hcl, st⟩
  · cases hv
    obtain ⟨k1, k2, k3⟩ := vx_keep h0 e1 hS hA hf hL hF
    obtain ⟨t2, a1, b1⟩ := kk r u t T'.heap (locs ++ L) e1.symm (by rw [← e2]; exact X'.warmed.alike) hp hb k1 k2 k3 T' rfl X'
    exact ⟨t2, st t2 a1, b1⟩
  · obtain ⟨k1, k2, k3⟩ := vx_keep h0 e1 hS hAX hf hL hF
    obtain ⟨t2, a1, b1⟩ := kx E ce q u t T'.heap (locs ++ L) e1.symm (by rw [← e2]; exact X'.warmed.alike) hp hb k1 k2 k3 (by rw [e1]; exact hce) hcv hcl T' rfl X'
    exact ⟨t2, st.trans a1, b1⟩
theorem vx_calll {S SX : Type} {post : Int64 → S → Prop} {px : SX → Prop} {B : S → State → Prop} {BX : String → SX → State → Prop} {AX : Nat → Prop} (hr : vx_Run p l e R s m args below meth c H locs cells slots mc ms (F0 m pc ls st0) rest (va_Ql post B A1 a) (vx_X px BX AX) free) (hS : va_S A0 H0 H locs) (hA : ∀ q, q < H.size → A1 q → A0 q) (hf : ∀ q, free q → A0 q) (hAX : ∀ q, q < H.size → AX q → A0 q)
    (kx : ∀ (E : String) (ce : Cell) (q9 : Addr) (u : SX) (t : State) (H1 : Heap) (locs1 : List Loc), t.heap = H1 → s.vm.Alike t.vm → px u → BX E u t → H.size ≤ H1.size → (∀ q : Nat, q < H.size → ¬ AX q → H1[q]? = H[q]?) → va_S A0 H0 H1 locs1 → H1[q9]? = some ce → ce.vm = .none → s.vm.findClass E = some ce.cls → vx_W p l e R s m args below meth c H1 locs1 (cells + mc) (slots + ms) Q (F0 m pc ls rest) q9)
    (kk : ∀ (r : Int64) (u : S) (t : State) (H1 : Heap) (locs1 : List Loc), t.heap = H1 → s.vm.Alike t.vm → post r u → B u t → H.size ≤ H1.size → (∀ q : Nat, q < H.size → ¬ A1 q → H1[q]? = H[q]?) → va_S A0 H0 H1 locs1 → W p l e R s m args below meth c H1 locs1 (cells + mc) (slots + ms) Q (F0 m (pc + 3) ls (.long r :: rest))) : W p l e R s m args below meth c H locs cells slots Q (F0 m pc ls st0) := by
  intro T hT X
  rcases hr T hT X with ⟨v, st₀, t, T', L, h0, X', hL, e1, e2, ⟨⟨r, u, hv, hp, hb⟩, hF⟩, st⟩ | ⟨q, st₀, t, T', L, E, ce, h0, X', hL, e1, e2, ⟨u, hp, hb, hF⟩, hce, hcv, hcl, st⟩
  · cases hv
    obtain ⟨k1, k2, k3⟩ := vx_keep h0 e1 hS hA hf hL hF
    obtain ⟨t2, a1, b1⟩ := kk r u t T'.heap (locs ++ L) e1.symm (by rw [← e2]; exact X'.warmed.alike) hp hb k1 k2 k3 T' rfl X'
    exact ⟨t2, st t2 a1, b1⟩
  · obtain ⟨k1, k2, k3⟩ := vx_keep h0 e1 hS hAX hf hL hF
    obtain ⟨t2, a1, b1⟩ := kx E ce q u t T'.heap (locs ++ L) e1.symm (by rw [← e2]; exact X'.warmed.alike) hp hb k1 k2 k3 (by rw [e1]; exact hce) hcv hcl T' rfl X'
    exact ⟨t2, st.trans a1, b1⟩
theorem vx_callf {S SX : Type} {post : UInt32 → S → Prop} {px : SX → Prop} {B : S → State → Prop} {BX : String → SX → State → Prop} {AX : Nat → Prop} (hr : vx_Run p l e R s m args below meth c H locs cells slots mc ms (F0 m pc ls st0) rest (va_Qf post B A1 a) (vx_X px BX AX) free) (hS : va_S A0 H0 H locs) (hA : ∀ q, q < H.size → A1 q → A0 q) (hf : ∀ q, free q → A0 q) (hAX : ∀ q, q < H.size → AX q → A0 q)
    (kx : ∀ (E : String) (ce : Cell) (q9 : Addr) (u : SX) (t : State) (H1 : Heap) (locs1 : List Loc), t.heap = H1 → s.vm.Alike t.vm → px u → BX E u t → H.size ≤ H1.size → (∀ q : Nat, q < H.size → ¬ AX q → H1[q]? = H[q]?) → va_S A0 H0 H1 locs1 → H1[q9]? = some ce → ce.vm = .none → s.vm.findClass E = some ce.cls → vx_W p l e R s m args below meth c H1 locs1 (cells + mc) (slots + ms) Q (F0 m pc ls rest) q9)
    (kk : ∀ (r : UInt32) (u : S) (t : State) (H1 : Heap) (locs1 : List Loc), t.heap = H1 → s.vm.Alike t.vm → post r u → B u t → H.size ≤ H1.size → (∀ q : Nat, q < H.size → ¬ A1 q → H1[q]? = H[q]?) → va_S A0 H0 H1 locs1 → W p l e R s m args below meth c H1 locs1 (cells + mc) (slots + ms) Q (F0 m (pc + 3) ls (.float r :: rest))) : W p l e R s m args below meth c H locs cells slots Q (F0 m pc ls st0) := by
  intro T hT X
  rcases hr T hT X with ⟨v, st₀, t, T', L, h0, X', hL, e1, e2, ⟨⟨r, u, hv, hp, hb⟩, hF⟩, st⟩ | ⟨q, st₀, t, T', L, E, ce, h0, X', hL, e1, e2, ⟨u, hp, hb, hF⟩, hce, hcv, hcl, st⟩
  · cases hv
    obtain ⟨k1, k2, k3⟩ := vx_keep h0 e1 hS hA hf hL hF
    obtain ⟨t2, a1, b1⟩ := kk r u t T'.heap (locs ++ L) e1.symm (by rw [← e2]; exact X'.warmed.alike) hp hb k1 k2 k3 T' rfl X'
    exact ⟨t2, st t2 a1, b1⟩
  · obtain ⟨k1, k2, k3⟩ := vx_keep h0 e1 hS hAX hf hL hF
    obtain ⟨t2, a1, b1⟩ := kx E ce q u t T'.heap (locs ++ L) e1.symm (by rw [← e2]; exact X'.warmed.alike) hp hb k1 k2 k3 (by rw [e1]; exact hce) hcv hcl T' rfl X'
    exact ⟨t2, st.trans a1, b1⟩
theorem vx_calld {S SX : Type} {post : UInt64 → S → Prop} {px : SX → Prop} {B : S → State → Prop} {BX : String → SX → State → Prop} {AX : Nat → Prop} (hr : vx_Run p l e R s m args below meth c H locs cells slots mc ms (F0 m pc ls st0) rest (va_Qd post B A1 a) (vx_X px BX AX) free) (hS : va_S A0 H0 H locs) (hA : ∀ q, q < H.size → A1 q → A0 q) (hf : ∀ q, free q → A0 q) (hAX : ∀ q, q < H.size → AX q → A0 q)
    (kx : ∀ (E : String) (ce : Cell) (q9 : Addr) (u : SX) (t : State) (H1 : Heap) (locs1 : List Loc), t.heap = H1 → s.vm.Alike t.vm → px u → BX E u t → H.size ≤ H1.size → (∀ q : Nat, q < H.size → ¬ AX q → H1[q]? = H[q]?) → va_S A0 H0 H1 locs1 → H1[q9]? = some ce → ce.vm = .none → s.vm.findClass E = some ce.cls → vx_W p l e R s m args below meth c H1 locs1 (cells + mc) (slots + ms) Q (F0 m pc ls rest) q9)
    (kk : ∀ (r : UInt64) (u : S) (t : State) (H1 : Heap) (locs1 : List Loc), t.heap = H1 → s.vm.Alike t.vm → post r u → B u t → H.size ≤ H1.size → (∀ q : Nat, q < H.size → ¬ A1 q → H1[q]? = H[q]?) → va_S A0 H0 H1 locs1 → W p l e R s m args below meth c H1 locs1 (cells + mc) (slots + ms) Q (F0 m (pc + 3) ls (.double r :: rest))) : W p l e R s m args below meth c H locs cells slots Q (F0 m pc ls st0) := by
  intro T hT X
  rcases hr T hT X with ⟨v, st₀, t, T', L, h0, X', hL, e1, e2, ⟨⟨r, u, hv, hp, hb⟩, hF⟩, st⟩ | ⟨q, st₀, t, T', L, E, ce, h0, X', hL, e1, e2, ⟨u, hp, hb, hF⟩, hce, hcv, hcl, st⟩
  · cases hv
    obtain ⟨k1, k2, k3⟩ := vx_keep h0 e1 hS hA hf hL hF
    obtain ⟨t2, a1, b1⟩ := kk r u t T'.heap (locs ++ L) e1.symm (by rw [← e2]; exact X'.warmed.alike) hp hb k1 k2 k3 T' rfl X'
    exact ⟨t2, st t2 a1, b1⟩
  · obtain ⟨k1, k2, k3⟩ := vx_keep h0 e1 hS hAX hf hL hF
    obtain ⟨t2, a1, b1⟩ := kx E ce q u t T'.heap (locs ++ L) e1.symm (by rw [← e2]; exact X'.warmed.alike) hp hb k1 k2 k3 (by rw [e1]; exact hce) hcv hcl T' rfl X'
    exact ⟨t2, st.trans a1, b1⟩
theorem vx_callv {S SX : Type} {post : S → Prop} {px : SX → Prop} {B : S → State → Prop} {BX : String → SX → State → Prop} {AX : Nat → Prop} (hr : vx_Run p l e R s m args below meth c H locs cells slots mc ms (F0 m pc ls st0) rest (va_Qv post B A1 a) (vx_X px BX AX) free) (hS : va_S A0 H0 H locs) (hA : ∀ q, q < H.size → A1 q → A0 q) (hf : ∀ q, free q → A0 q) (hAX : ∀ q, q < H.size → AX q → A0 q)
    (kx : ∀ (E : String) (ce : Cell) (q9 : Addr) (u : SX) (t : State) (H1 : Heap) (locs1 : List Loc), t.heap = H1 → s.vm.Alike t.vm → px u → BX E u t → H.size ≤ H1.size → (∀ q : Nat, q < H.size → ¬ AX q → H1[q]? = H[q]?) → va_S A0 H0 H1 locs1 → H1[q9]? = some ce → ce.vm = .none → s.vm.findClass E = some ce.cls → vx_W p l e R s m args below meth c H1 locs1 (cells + mc) (slots + ms) Q (F0 m pc ls rest) q9)
    (kk : ∀ (u : S) (t : State) (H1 : Heap) (locs1 : List Loc), t.heap = H1 → s.vm.Alike t.vm → post u → B u t → H.size ≤ H1.size → (∀ q : Nat, q < H.size → ¬ A1 q → H1[q]? = H[q]?) → va_S A0 H0 H1 locs1 → W p l e R s m args below meth c H1 locs1 (cells + mc) (slots + ms) Q (F0 m (pc + 3) ls (rest))) : W p l e R s m args below meth c H locs cells slots Q (F0 m pc ls st0) := by
  intro T hT X
  rcases hr T hT X with ⟨v, st₀, t, T', L, h0, X', hL, e1, e2, ⟨⟨u, hv, hp, hb⟩, hF⟩, st⟩ | ⟨q, st₀, t, T', L, E, ce, h0, X', hL, e1, e2, ⟨u, hp, hb, hF⟩, hce, hcv, hcl, st⟩
  · cases hv
    obtain ⟨k1, k2, k3⟩ := vx_keep h0 e1 hS hA hf hL hF
    obtain ⟨t2, a1, b1⟩ := kk u t T'.heap (locs ++ L) e1.symm (by rw [← e2]; exact X'.warmed.alike) hp hb k1 k2 k3 T' rfl X'
    exact ⟨t2, st t2 a1, b1⟩
  · obtain ⟨k1, k2, k3⟩ := vx_keep h0 e1 hS hAX hf hL hF
    obtain ⟨t2, a1, b1⟩ := kx E ce q u t T'.heap (locs ++ L) e1.symm (by rw [← e2]; exact X'.warmed.alike) hp hb k1 k2 k3 (by rw [e1]; exact hce) hcv hcl T' rfl X'
    exact ⟨t2, st.trans a1, b1⟩
/-- caught by the row x of this method's table; the rows ahead don't take it -/
theorem vx_catch {own name : String} {E : String} {ce : Cell} {q : Addr} (hown : s.vm.findClass own = some m.cls) (pre : List ExceptionTableEntry) (x : ExceptionTableEntry) (suf : List ExceptionTableEntry) (hsplit : c.exceptionTable.toList = pre ++ x :: suf)
    (hpass : ∀ z ∈ pre, covers z pc = false ∨ (z.catchType ≠ 0 ∧ ∃ nm : String, (Cond.classLink own z.catchType nm).before args s = true ∧ va_Nc E nm s)) (hx : covers x pc = true) (h0 : x.catchType ≠ 0)
    (hlink : (Cond.classLink own x.catchType name).before args s = true) (hcast : (Cond.castable E name).before args s = true) (hcell : H[q]? = some ce) (hv : ce.vm = .none) (hcl : s.vm.findClass E = some ce.cls)
    (kk : W p l e R s m args below meth c H locs cells slots Q (F0 m x.handlerPc ls [.ref q])) : vx_W p l e R s m args below meth c H locs cells slots Q (F0 m pc ls rest) q := by
  intro T hT X
  have hpl : e.platform.magicAccessors = ({} : Platform).magicAccessors := by rw [X.admits.platform]
  obtain ⟨c3, c4, hc3, hc4, hasg⟩ := Cond.castable_spec hcast
  cases Option.some.inj (hc3.symm.trans hcl)
  obtain ⟨c5, hc5, hcl5⟩ := Cond.classLink_spec hown hlink e.platform hpl
  cases Option.some.inj (hc4.symm.trans hc5)
  obtain ⟨vm', X', st⟩ := X.thenCaughtThrough q (g := F0 m pc ls rest) rfl (Steps.refl _) (by rw [hT]; exact hcell) (by rw [hv]; rfl) (by obtain ⟨k9, h9, -⟩ := Vm.findClass_spec hcl; exact ⟨k9, h9⟩) pre x suf hsplit
    (fun z hz => by
      rcases hpass z hz with h | ⟨hz0, nm, hl1, hn1⟩
      · exact Or.inl h
      · obtain ⟨c6, hc6, hcl6⟩ := Cond.classLink_spec hown hl1 e.platform hpl
        obtain ⟨a8, b8, h1, h2, h3⟩ := hn1
        cases Option.some.inj (h1.symm.trans hcl)
        cases Option.some.inj (h2.symm.trans hc6)
        exact Or.inr ⟨hz0, _, hcl6, h3⟩) hx (Or.inr ⟨h0, c4, hcl5, hasg⟩)
  obtain ⟨t, a1, b1⟩ := kk (T.setVm vm') hT X'
  exact ⟨t, st.trans a1, b1⟩
end Rows
section Ends
variable {p : Program} {l : Launch} {e : Env} {R : Room} {s : State} {m : MethodId} {args : Array Value} {below : List Frame} {meth : Method} {c : Code} {H : Heap} {locs : List Loc} {cells slots : Nat} {Q : State → Prop}
variable {mc ms : Nat} {free : Addr → Prop} {A0 A1 : Nat → Prop} {H0 : Heap} {a : Array Value} {ls : Array Slot} {st0 rest : List Value}
variable {Qc : Array Value → State → Outcome → State → Prop} {XC : String → State → State → Prop}
/-- what a body that may throw owes at its end -/
def vx_MQ (below : List Frame) (Qc : Array Value → State → Outcome → State → Prop) (XC : String → State → State → Prop) (a : Array Value) (s : State) (mc ms : Nat) (free : Addr → Prop) : State → Prop := fun t =>
  ∃ o, t.status = .running ∧ Ended t below o ∧ vx_Q Qc XC mc ms free a s o t
theorem vx_ret {g : JFrame} {mc ms : Nat} (k : W p l e R s m args below meth c H locs cells slots (MQ below Qc args s mc ms free) g) : W p l e R s m args below meth c H locs cells slots (vx_MQ below Qc XC args s mc ms free) g := by
  intro T hT X
  obtain ⟨t, a1, o, b1, b2, b3, b4⟩ := k T hT X
  exact ⟨t, a1, o, b1, b2, Or.inl ⟨b3, b4⟩⟩
/-- not caught here: it goes on to the caller -/
theorem vx_widen {g : JFrame} {q : Addr} {k n : Nat} (h1 : cells ≤ k) (h2 : slots ≤ n) (kk : vx_W p l e R s m args below meth c H locs k n Q g q) : vx_W p l e R s m args below meth c H locs cells slots Q g q := fun T hT X => kk T hT (stand_widen X h1 h2)
theorem vx_out {pc : Nat} {E : String} {ce : Cell} {q : Addr} {mc ms : Nat} (hout : ∀ x ∈ c.exceptionTable.toList, covers x pc = false) (hlocks : meth.locks = false) (hcell : H[q]? = some ce) (hv : ce.vm = .none) (hcl : s.vm.findClass E = some ce.cls)
    (hx : ∀ t : State, t.heap = H → s.vm.Alike t.vm → XC E s t) (hf : ∀ z ∈ locs, free z.base) (hc : cells ≤ mc) (hs : slots ≤ ms) :
    vx_W p l e R s m args below meth c H locs cells slots (vx_MQ below Qc XC args s mc ms free) (F0 m pc ls rest) q := by
  intro T hT X
  obtain ⟨st1, hrun, hend, hW, hsm⟩ := X.leaveThrown q (g := F0 m pc ls rest) rfl rfl rfl hout hlocks
  have hcell9 : (T.setFrames (.throwing q :: below)).heap[q]? = some ce := by
    show T.heap[q]? = some ce
    rw [hT]; exact hcell
  exact ⟨_, st1, .threw q, hrun, hend, Or.inr ⟨q, rfl, E, ce, locs, hx _ hT hW.alike, hcell9, hv, hcl, hW, hsm.mono hc hs, hf⟩⟩
theorem vx_frame {U : State} {k n : Nat} (h : s.sameButNew ({ U with vm := s.vm } : State) locs k n) : s.heap.size ≤ U.heap.size ∧ ∀ q : Nat, q < s.heap.size → (∀ z ∈ locs, z.base ≠ q) → U.heap[q]? = s.heap[q]? := by
  obtain ⟨-, h2, -, -, -, h6⟩ := h
  refine ⟨h2, fun q hq hz => ?_⟩
  obtain ⟨c9, e1, e2, e3, e4⟩ := h6 q _ (Array.getElem?_eq_getElem hq)
  have hs : c9.slots = (s.heap[q]).slots := Array.ext_getElem? fun i => e4 i fun hm => hz _ hm rfl
  have h9 : c9 = s.heap[q] := by
    rw [hs] at e2
    exact e2
  have e5 : U.heap[q]? = some c9 := e1
  rw [e5, h9, Array.getElem?_eq_getElem hq]
/-- the words of a throw but the four that speak of the heap -/
def vx_no (w : Cond) : Bool := decide (w ≠ .isRef (.static Bundle.tN "UNASSIGNED_STACK" Bundle.steD)) && decide (w ≠ .isRef (.static Bundle.tN "SUPPRESSED_SENTINEL" Bundle.listD)) && decide (w ≠ .laysStatic Bundle.tN "UNASSIGNED_STACK" Bundle.steD) && decide (w ≠ .laysStatic Bundle.tN "SUPPRESSED_SENTINEL" Bundle.listD)
def vx_at0 (own : String) (ic : Nat) (X : String) (names : List String) : List Cond := (Bundle.ownAtoms0 own ic X names).filter vx_no
def vx_atS (own : String) (ic : Nat) (X : String) (names : List String) : List Cond := (Bundle.ownAtoms own ic X names).filter vx_no
/-- a word that the tables alone decide, or a good one -/
def vx_ot (w : Cond) : Bool := w.onTables || goodWord w
theorem vx_ot_at {args a' : Array Value} {s U : State} {w : Cond} (hW : s.WarmedH U.vm) (hvm : s.vm = U.vm) (hg : vx_ot w = true) (h : w.before args s = true) : w.before a' U = true := by
  simp only [vx_ot, Bool.or_eq_true] at hg
  rcases hg with hg | hg
  · exact va_tabs hg hvm h
  · exact word_at hW (good_of_word hg) h
/-- a list's words: the good ones out of the method's own list, the others by premises of their own -/
theorem vx_hat {args : Array Value} {s : State} {L B : List Cond} (h1 : ∀ w ∈ L.filter goodWord, w.before args s = true) (h2 : ∀ w ∈ L.filter (fun w => !goodWord w), w ∈ B) (h3 : ∀ w ∈ B, w.before args s = true) : ∀ w ∈ L, w.before args s = true := by
  intro w hw
  by_cases g : goodWord w = true
  · exact h1 w (List.mem_filter.mpr ⟨hw, g⟩)
  · refine h3 w (h2 w (List.mem_filter.mpr ⟨hw, ?_⟩))
    show (!goodWord w) = true
    cases hgw : goodWord w
    · rfl
    · exact absurd hgw g
theorem vx_c {args : Array Value} {s : State} {w : Cond} {B : List Cond} (h : w.before args s = true) (t : ∀ w ∈ B, w.before args s = true) : ∀ w' ∈ w :: B, w'.before args s = true := fun w' h' => (List.mem_cons.mp h').elim (fun e => by rw [e]; exact h) (t w')
theorem vx_n {args : Array Value} {s : State} : ∀ w ∈ ([] : List Cond), w.before args s = true := fun _ h => nomatch h
theorem vx_own {args : Array Value} {s : State} {L : List Cond} (h1 : ∀ w ∈ L.filter vx_no, w.before args s = true)
    (hU : (Cond.isRef (.static Bundle.tN "UNASSIGNED_STACK" Bundle.steD)).before args s = true) (hN : (Cond.isRef (.static Bundle.tN "SUPPRESSED_SENTINEL" Bundle.listD)).before args s = true)
    (lU : (Cond.laysStatic Bundle.tN "UNASSIGNED_STACK" Bundle.steD).before args s = true) (lN : (Cond.laysStatic Bundle.tN "SUPPRESSED_SENTINEL" Bundle.listD).before args s = true) : ∀ w ∈ L, w.before args s = true := by
  intro w hw
  by_cases e1 : w = .isRef (.static Bundle.tN "UNASSIGNED_STACK" Bundle.steD)
  · rw [e1]; exact hU
  · by_cases e2 : w = .isRef (.static Bundle.tN "SUPPRESSED_SENTINEL" Bundle.listD)
    · rw [e2]; exact hN
    · by_cases e3 : w = .laysStatic Bundle.tN "UNASSIGNED_STACK" Bundle.steD
      · rw [e3]; exact lU
      · by_cases e4 : w = .laysStatic Bundle.tN "SUPPRESSED_SENTINEL" Bundle.listD
        · rw [e4]; exact lN
        · exact h1 w (List.mem_filter.mpr ⟨hw, by unfold vx_no; rw [decide_eq_true e1, decide_eq_true e2, decide_eq_true e3, decide_eq_true e4]; rfl⟩)
/-- where a static field lies, its class's statics cell in H -/
def vx_L (C n d : String) (A : Nat → Prop) (U : State) (H : Heap) : Prop := ∃ (c : ClassId) (k : Class) (i : Nat) (f : Field) (a : Nat) (cell : Cell), U.vm.findClass C = some c ∧ U.fieldFound? C n d = some (c, k, i, f) ∧ f.isStatic = true ∧ k.statics = some a ∧ H[a]? = some cell ∧ cell.vm.isStatics = true ∧ cell.cls = c ∧ f.slot < cell.slots.size ∧ k.staticTypes[f.slot]? = some f.type ∧ ¬ A a
theorem vx_L.moved {C n d : String} {A : Nat → Prop} {u U : State} {H : Heap} (hvm : u.vm.Alike U.vm) (h : vx_L C n d A u H) : vx_L C n d A U H := by
  obtain ⟨c, k, i, f, a, cell, h1, h2, h3, h4, h5, h6, h7, h8, h9, h10⟩ := h
  obtain ⟨k', hi', he⟩ := State.fieldFound?_setVm hvm h2
  exact ⟨c, k', i, f, a, cell, by rw [hvm.findClass]; exact h1, hi', h3, by rw [he]; exact h4, h5, h6, h7, h8, by rw [he]; exact h9, h10⟩
theorem vx_L.kept {C n d : String} {A : Nat → Prop} {U : State} {H H1 : Heap} (h : vx_L C n d A U H) (hq : ∀ a : Nat, a < H.size → ¬ A a → H1[a]? = H[a]?) : vx_L C n d A U H1 := by
  obtain ⟨c, k, i, f, a, cell, h1, h2, h3, h4, h5, h6, h7, h8, h9, h10⟩ := h
  exact ⟨c, k, i, f, a, cell, h1, h2, h3, h4, by rw [hq a (Array.getElem?_eq_some_iff.mp h5).1 h10]; exact h5, h6, h7, h8, h9, h10⟩
theorem vx_L.narrow {C n d : String} {A B : Nat → Prop} {U : State} {H : Heap} (h : vx_L C n d A U H) (hAB : ∀ q, B q → A q) : vx_L C n d B U H := by
  obtain ⟨c, k, i, f, a, cell, h1, h2, h3, h4, h5, h6, h7, h8, h9, h10⟩ := h
  exact ⟨c, k, i, f, a, cell, h1, h2, h3, h4, h5, h6, h7, h8, h9, fun z => h10 (hAB _ z)⟩
theorem vx_L.word {C n d : String} {A : Nat → Prop} {s : State} {args : Array Value} (h : vx_L C n d A s s.heap) : (Cond.laysStatic C n d).before args s = true := by
  obtain ⟨c, k, i, f, a, cell, h1, h2, h3, h4, h5, h6, h7, h8, h9, -⟩ := h
  show (Cond.laysStatic C n d).holds args s none s [] = true
  exact Cond.laysStatic_of h1 h2 h3 h4 h5 h6 h7 h8 h9
/-- .. and what it holds: null or some reference -/
def vx_Zq (C n d : String) (A : Nat → Prop) (U : State) (H : Heap) : Prop := va_Zq C n d A U H ∧ vx_L C n d A U H
theorem vx_Zq.moved {C n d : String} {A : Nat → Prop} {u U : State} {H : Heap} (hvm : u.vm.Alike U.vm) (h : vx_Zq C n d A u H) : vx_Zq C n d A U H := ⟨va_Zq.moved hvm h.1, vx_L.moved hvm h.2⟩
theorem vx_Zq.kept {C n d : String} {A : Nat → Prop} {U : State} {H H1 : Heap} (h : vx_Zq C n d A U H) (hq : ∀ a : Nat, a < H.size → ¬ A a → H1[a]? = H[a]?) : vx_Zq C n d A U H1 := ⟨va_Zq.kept h.1 hq, vx_L.kept h.2 hq⟩
theorem vx_Zq.narrow {C n d : String} {A B : Nat → Prop} {U : State} {H : Heap} (h : vx_Zq C n d A U H) (hAB : ∀ q, B q → A q) : vx_Zq C n d B U H := ⟨va_Zq.narrow h.1 hAB, vx_L.narrow h.2 hAB⟩
theorem vx_Zqof {args : Array Value} {s : State} {C n d : String} {A : Nat → Prop} (hl : (Cond.laysStatic C n d).before args s = true) (hini : (Cond.initialized C).before args s = true) (h : (Cond.isRef (.static C n d)).before args s = true) (hA : ∀ a : Nat, a < s.heap.size → ¬ A a) : vx_Zq C n d A s s.heap := by
  refine ⟨va_Zqof hl hini h hA, ?_⟩
  obtain ⟨c, k, i, f, a, cell, h1, h2, h3, h4, h5, h6, h7, h8, h9⟩ := Cond.laysStatic_spec hl
  exact ⟨c, k, i, f, a, cell, h1, h2, h3, h4, h5, h6, h7, h8, h9, hA a (Array.getElem?_eq_some_iff.mp h5).1⟩
theorem vx_isRef {C n d : String} {v : Value} {A : Nat → Prop} {s : State} {args : Array Value} (h : va_Z C n d v A s s.heap) (hv : v.isRef = true) : (Cond.isRef (.static C n d)).before args s = true := by
  obtain ⟨cf, kf, fi, f, a, cell, h1, h2, h3, h4, h5, h6, h7, -⟩ := h
  have he : (Term.static C n d).eval args s none [] s = some v := by
    simp [Term.eval, State.fieldNamed?, h1, h2, h4, h5, h6, h7]
  simp only [Cond.before, Cond.holds, Cond.value, he]
  cases v <;> simp_all [Value.isRef]
theorem vx_isRefq {C n d : String} {A : Nat → Prop} {s : State} {args : Array Value} (h : va_Zq C n d A s s.heap) : (Cond.isRef (.static C n d)).before args s = true := by
  rcases h with h | ⟨t, h⟩
  · exact vx_isRef h rfl
  · exact vx_isRef h rfl
/-- the same frame, seen from here: as if the method were called anew in this heap -/
theorem vx_rebase {T : State} (X : Stand p l e R s m args below meth c T locs cells slots) {R' : Room} (hf : R'.frames ≤ R.frames) (hl : R'.locals ≤ R.locals) (hc : cells + R'.cells ≤ R.cells) (hs : slots + R'.slots ≤ R.slots) :
    Stand p l e R' ((T.setVm s.vm).setFrames (.invoking m args :: below)) m args below meth c T [] 0 0 := by
  have htop : (T.setVm s.vm).topJava?.isSome := X.here.top
  have hF : ((T.setVm s.vm).setFrames (.invoking m args :: below)).frames = .invoking m args :: below := State.frames_setFrames _ (State.cur_lt_of_top htop)
  obtain ⟨g₀, hg0⟩ := Option.isSome_iff_exists.mp htop
  obtain ⟨r, hr⟩ := State.topJava?_eq_some.mp hg0
  have hl9 : e.platform.stackLimits (T.setVm s.vm).me = e.platform.stackLimits s.me := X.limits
  have hb9 : (T.setVm s.vm).me.stackBytes = s.me.stackBytes := X.bytes
  refine ⟨X.admits, X.cas, X.clock, hF, ?_, X.hears, X.method, X.code, X.here, X.tail, X.warmed, ?_, ?_, ?_⟩
  · have h := X.room
    have hU : ((T.setVm s.vm).setFrames (.invoking m args :: below)).localsInUse = s.localsInUse := by
      rw [State.localsInUse_invoking hF (meth := meth) (c := c) X.method X.code, State.localsInUse_invoking X.frames X.method X.code]
    simp only [State.hasRoom, Bool.and_eq_true, decide_eq_true_eq] at h ⊢
    obtain ⟨⟨⟨⟨h1, h2, h3, h4, h5, h6⟩, h7⟩, h8⟩, h9⟩ := h
    rw [X.frames, List.length_cons] at h2 h3
    have q1 := X.heapSize
    have q2 := X.used
    simp only [hF, hU, List.length_cons, State.stackLimits_setFrames, State.stackBytes_setFrames, hl9, hb9]
    refine ⟨⟨⟨⟨by omega, by omega, by omega, by omega, by omega, h6⟩, ?_⟩, ?_⟩, X.book⟩
    · show T.heap.size + R'.cells ≤ e.platform.maxCells
      omega
    · show T.slotsUsed + R'.slots ≤ e.platform.maxSlots
      omega
  · rw [State.stackLimits_setFrames]; rfl
  · rw [State.stackBytes_setFrames]; rfl
  · refine ⟨?_, Nat.le_refl _, Nat.le_refl _, ?_, ?_, fun a c9 h9 => ⟨c9, h9, rfl, rfl, fun _ _ => rfl⟩⟩
    · obtain ⟨t, ht, -⟩ := State.frames_cons hr
      show T.setVm s.vm = { ((T.setVm s.vm).setFrames (.invoking m args :: below)).setFrames (T.setVm s.vm).frames with heap := T.heap, slotsUsed := T.slotsUsed }
      rw [State.setFrames_setFrames, State.setFrames_self ht]
      rfl
    · show T.slotsUsed = T.slotsUsed + ((T.heap.toList.drop T.heap.size).map (·.slots.size)).sum
      rw [List.drop_eq_nil_of_le (Nat.le_of_eq Array.length_toList)]
      rfl
    · show ((T.heap.toList.drop T.heap.size).map (·.slots.size)).sum ≤ 0
      rw [List.drop_eq_nil_of_le (Nat.le_of_eq Array.length_toList)]
      exact Nat.le_refl _
/-- 'throw new E()': new; dup; invokespecial; athrow -/
theorem vx_throw0 {cc : ByteArray} {pc : Nat} (hexec : p.tables.exec = Jvm.exec) (hb : c.code = cc) (hl : l.stackTraces = false) {own cls : String} {names : List String} {ik ic mc ms : Nat} {A : Nat → Prop}
    (hown : s.vm.findClass own = some m.cls) (hcls : Bundle.fit cls = true) (hnames : ∀ n ∈ names, Bundle.fit n = true)
    (hk : (Cond.classLink own ik cls).before args s = true) (hini : (Cond.initialized cls).before args s = true) (hat : ∀ w ∈ vx_at0 own ic cls names, w.before args s = true)
    (hgood : ∀ w ∈ Cond.classLink own ik cls :: Cond.initialized cls :: vx_at0 own ic cls names, vx_ot w = true)
    (hU : vx_Zq Bundle.tN "UNASSIGNED_STACK" Bundle.steD A s s.heap) (hN : vx_Zq Bundle.tN "SUPPRESSED_SENTINEL" Bundle.listD A s s.heap) (hS : va_S A s.heap H locs) (hsize : ls.size = c.maxLocals)
    (d0 : decode cc pc = .ok (.new ik, 3)) (d3 : decode cc (pc + 3) = .ok (.dup, 1)) (d4 : decode cc (pc + 4) = .ok (.invokespecial ic, 3)) (d7 : decode cc (pc + 7) = .ok (.athrow, 1))
    (hout : ∀ x ∈ c.exceptionTable.toList, covers x (pc + 7) = false)
    (hRframes : names.length + 3 < R.frames) (hRlocals : (rest.map fun v => v.category).sum + (13 * (names.length + 1) + 42) ≤ R.locals) (hRcells : cells + 1 ≤ R.cells) (hRslots : slots + 6 ≤ R.slots) (hlocks : meth.locks = false)
    (hx : ∀ t : State, s.vm.Alike t.vm → H.size ≤ t.heap.size → (∀ q : Nat, q < H.size → t.heap[q]? = H[q]?) → XC cls s t)
    (hf : ∀ z ∈ locs, free z.base) (hc : cells + 1 ≤ mc) (hs : slots + 6 ≤ ms) :
    W p l e R s m args below meth c H locs cells slots (vx_MQ below Qc XC args s mc ms free) (F0 m pc ls rest) := by
  intro T hT X
  have htr : e.platform.stackTraces = false := (show e.platform.stackTraces = l.stackTraces by rw [X.admits.platform]).trans hl
  have Y := vx_rebase X (R' := { frames := R.frames, locals := R.locals, cells := 1, slots := 6 }) (Nat.le_refl _) (Nat.le_refl _) hRcells hRslots
  obtain ⟨s', hA⟩ : ∃ z, z = (T.setVm s.vm).setFrames (.invoking m args :: below) := ⟨_, rfl⟩
  rw [← hA] at Y
  have hvm : s'.vm = s.vm := by rw [hA]; rfl
  have hhp : s'.heap = H := by rw [hA]; exact hT
  have hW0 : s.WarmedH s'.vm := by rw [hvm]; exact State.WarmedH.refl s
  have hat' : ∀ w ∈ vx_at0 own ic cls names, w.before args s' = true := fun w hw => vx_ot_at hW0 hvm.symm (hgood w (List.mem_cons_of_mem _ (List.mem_cons_of_mem _ hw))) (hat w hw)
  have hk' : (Cond.classLink own ik cls).before args s' = true := vx_ot_at hW0 hvm.symm (hgood _ List.mem_cons_self) hk
  have hini' : (Cond.initialized cls).before args s' = true := vx_ot_at hW0 hvm.symm (hgood _ (List.mem_cons_of_mem _ List.mem_cons_self)) hini
  have hU' : vx_Zq Bundle.tN "UNASSIGNED_STACK" Bundle.steD A s' s'.heap := by rw [hhp]; exact vx_Zq.moved hW0.alike (hU.kept hS.2.1)
  have hN' : vx_Zq Bundle.tN "SUPPRESSED_SENTINEL" Bundle.listD A s' s'.heap := by rw [hhp]; exact vx_Zq.moved hW0.alike (hN.kept hS.2.1)
  have h : ∀ w ∈ Bundle.ownAtoms0 own ic cls names, w.before args s' = true := vx_own hat' (vx_isRefq hU'.1) (vx_isRefq hN'.1) hU'.2.word hN'.2.word
  have hown' : s'.vm.findClass own = some m.cls := by rw [hvm]; exact hown
  have hins : (Cond.instantiable cls 6).before args s' = true := h _ (by simp [Bundle.ownAtoms0])
  obtain ⟨vm₁, cX, kX, hfX, hkX, -, -, X₁, st1⟩ := Y.newCold hexec (own := own) (C := cls) (index := ik) (n := 6) hown' hk' hins hini'
    (g := F0 m pc ls rest) rfl (by rw [hb]; exact d0) (Nat.le_refl _) (Nat.le_refl _)
  generalize hT1 : (T.setVm vm₁).pushCell { cls := cX, slots := kX.instanceTypes.map defaultValue, vm := .none } = T1 at X₁ st1
  have hcat : (Value.ref T.heap.size).category = 1 := rfl
  have hcellA : T1.heap[T.heap.size]? = some (freshCell cX kX) := by rw [← hT1]; exact State.heap_pushCell_size _ _
  have d3' : decode c.code (pc + 3) = .ok (.dup, 1) := by rw [hb]; exact d3
  obtain ⟨U, hsteps, hrun, hend, hW, hsame, ce, hce, hO⟩ := X₁.ctorThrow0 hexec htr (own := own) (cls := cls) (names := names) (ic := ic) hown' hcls hnames h (fun x hx => nomatch hx) hfX hkX hcellA (by rw [hhp, hT]; exact Nat.le_refl _)
    (g := { method := m, pc := pc + 4, locals := ls, stack := .ref T.heap.size :: .ref T.heap.size :: rest, locked := none }) rfl hsize rfl rfl (rest := rest) rfl
    (by rw [hb]; exact d4) (by rw [hb]; exact d7) hout hRframes (by simp only [List.map_cons, List.sum_cons, hcat]; omega) hlocks
  obtain ⟨f1, f2⟩ := vx_frame hsame
  rw [hhp] at f1 f2
  have hWs : s.WarmedH U.vm := State.WarmedH.trans hW0 hW
  have hcl : s.vm.findClass cls = some ce.cls := by
    have h9 := hO.cls
    rw [hvm] at h9
    exact h9
  have hall : s.sameButNew ({ U with vm := s.vm } : State) locs mc ms := by
    subst hA
    obtain ⟨e1, e2⟩ := hsame
    rw [State.setFrames_setFrames] at e1
    have h2 : (T.setVm s.vm).sameButNew ({ U with vm := s.vm } : State) [] (0 + 1) (0 + 6) := ⟨e1, e2⟩
    have h3 := X.same.trans h2
    rw [List.append_nil] at h3
    exact h3.mono hc hs
  refine ⟨U, ?_, .threw T.heap.size, hrun, hend, Or.inr ⟨T.heap.size, rfl, cls, ce, locs, hx U hWs.alike f1 (fun q hq => f2 q hq (fun z hz => nomatch hz)), hce, hO.vm, hcl, hWs, hall, hf⟩⟩
  refine st1 _ ?_
  show Steps p.tables e below (T1.setTop { method := m, pc := pc + 3, locals := ls, stack := .ref T.heap.size :: rest, locked := none }) _
  jvm_step X₁.here [X₁.here.top, hexec, d3', Value.category]
  exact hsteps
/-- 'throw new E("text")': new; dup; ldc; invokespecial; athrow -/
theorem vx_throwS {cc : ByteArray} {pc : Nat} (hexec : p.tables.exec = Jvm.exec) (hb : c.code = cc) (hl : l.stackTraces = false) {own cls text : String} {names : List String} {ik is ic mc ms sa : Nat} {A : Nat → Prop}
    (hown : s.vm.findClass own = some m.cls) (hcls : Bundle.fit cls = true) (hnames : ∀ n ∈ names, Bundle.fit n = true)
    (hk : (Cond.classLink own ik cls).before args s = true) (hini : (Cond.initialized cls).before args s = true) (hstr : vk_R own is text sa s) (hat : ∀ w ∈ vx_atS own ic cls names, w.before args s = true)
    (hgood : ∀ w ∈ Cond.classLink own ik cls :: Cond.initialized cls :: vx_atS own ic cls names, vx_ot w = true)
    (hU : vx_Zq Bundle.tN "UNASSIGNED_STACK" Bundle.steD A s s.heap) (hN : vx_Zq Bundle.tN "SUPPRESSED_SENTINEL" Bundle.listD A s s.heap) (hS : va_S A s.heap H locs) (hsize : ls.size = c.maxLocals)
    (d0 : decode cc pc = .ok (.new ik, 3)) (d3 : decode cc (pc + 3) = .ok (.dup, 1)) (d4 : decode cc (pc + 4) = .ok (.ldc is, 2)) (d6 : decode cc (pc + 6) = .ok (.invokespecial ic, 3)) (d9 : decode cc (pc + 9) = .ok (.athrow, 1))
    (hout : ∀ x ∈ c.exceptionTable.toList, covers x (pc + 9) = false)
    (hRframes : names.length + 3 < R.frames) (hRlocals : (rest.map fun v => v.category).sum + (13 * (names.length + 1) + 43) ≤ R.locals) (hRcells : cells + 1 ≤ R.cells) (hRslots : slots + 6 ≤ R.slots) (hlocks : meth.locks = false)
    (hx : ∀ t : State, s.vm.Alike t.vm → H.size ≤ t.heap.size → (∀ q : Nat, q < H.size → t.heap[q]? = H[q]?) → XC cls s t)
    (hf : ∀ z ∈ locs, free z.base) (hc : cells + 1 ≤ mc) (hs : slots + 6 ≤ ms) :
    W p l e R s m args below meth c H locs cells slots (vx_MQ below Qc XC args s mc ms free) (F0 m pc ls rest) := by
  intro T hT X
  have htr : e.platform.stackTraces = false := (show e.platform.stackTraces = l.stackTraces by rw [X.admits.platform]).trans hl
  have Y := vx_rebase X (R' := { frames := R.frames, locals := R.locals, cells := 1, slots := 6 }) (Nat.le_refl _) (Nat.le_refl _) hRcells hRslots
  obtain ⟨s', hA⟩ : ∃ z, z = (T.setVm s.vm).setFrames (.invoking m args :: below) := ⟨_, rfl⟩
  rw [← hA] at Y
  have hvm : s'.vm = s.vm := by rw [hA]; rfl
  have hhp : s'.heap = H := by rw [hA]; exact hT
  have hW0 : s.WarmedH s'.vm := by rw [hvm]; exact State.WarmedH.refl s
  have hat' : ∀ w ∈ vx_atS own ic cls names, w.before args s' = true := fun w hw => vx_ot_at hW0 hvm.symm (hgood w (List.mem_cons_of_mem _ (List.mem_cons_of_mem _ hw))) (hat w hw)
  have hk' : (Cond.classLink own ik cls).before args s' = true := vx_ot_at hW0 hvm.symm (hgood _ List.mem_cons_self) hk
  have hini' : (Cond.initialized cls).before args s' = true := vx_ot_at hW0 hvm.symm (hgood _ (List.mem_cons_of_mem _ List.mem_cons_self)) hini
  have hU' : vx_Zq Bundle.tN "UNASSIGNED_STACK" Bundle.steD A s' s'.heap := by rw [hhp]; exact vx_Zq.moved hW0.alike (hU.kept hS.2.1)
  have hN' : vx_Zq Bundle.tN "SUPPRESSED_SENTINEL" Bundle.listD A s' s'.heap := by rw [hhp]; exact vx_Zq.moved hW0.alike (hN.kept hS.2.1)
  have h : ∀ w ∈ Bundle.ownAtoms own ic cls names, w.before args s' = true := vx_own hat' (vx_isRefq hU'.1) (vx_isRefq hN'.1) hU'.2.word hN'.2.word
  have hown' : s'.vm.findClass own = some m.cls := by rw [hvm]; exact hown
  have hins : (Cond.instantiable cls 6).before args s' = true := h _ (by simp [Bundle.ownAtoms])
  obtain ⟨vm₁, cX, kX, hfX, hkX, -, -, X₁, st1⟩ := Y.newCold hexec (own := own) (C := cls) (index := ik) (n := 6) hown' hk' hins hini'
    (g := F0 m pc ls rest) rfl (by rw [hb]; exact d0) (Nat.le_refl _) (Nat.le_refl _)
  generalize hT1 : (T.setVm vm₁).pushCell { cls := cX, slots := kX.instanceTypes.map defaultValue, vm := .none } = T1 at X₁ st1
  have hcat : (Value.ref T.heap.size).category = 1 := rfl
  have hcellA : T1.heap[T.heap.size]? = some (freshCell cX kX) := by rw [← hT1]; exact State.heap_pushCell_size _ _
  have d3' : decode c.code (pc + 3) = .ok (.dup, 1) := by rw [hb]; exact d3
  have d4' : decode c.code (pc + 4) = .ok (.ldc is, 2) := by rw [hb]; exact d4
  have hstr' : vk_R own is text sa s' := vk_R.warm hW0 hstr
  obtain ⟨U, hsteps, hrun, hend, hW, hsame, ce, hce, hO⟩ := X₁.ctorThrowS hexec htr (own := own) (cls := cls) (names := names) (ic := ic) hown' hcls hnames h (fun x hx => nomatch hx) hfX hkX hcellA (by rw [hhp, hT]; exact Nat.le_refl _) (msg := .ref sa) rfl
    (g := { method := m, pc := pc + 6, locals := ls, stack := .ref sa :: .ref T.heap.size :: .ref T.heap.size :: rest, locked := none }) rfl hsize rfl rfl (rest := rest) rfl
    (by rw [hb]; exact d6) (by rw [hb]; exact d9) hout hRframes (by simp only [List.map_cons, List.sum_cons, hcat]; omega) hlocks
  obtain ⟨f1, f2⟩ := vx_frame hsame
  rw [hhp] at f1 f2
  have hWs : s.WarmedH U.vm := State.WarmedH.trans hW0 hW
  have hcl : s.vm.findClass cls = some ce.cls := by
    have h9 := hO.cls
    rw [hvm] at h9
    exact h9
  have hall : s.sameButNew ({ U with vm := s.vm } : State) locs mc ms := by
    subst hA
    obtain ⟨e1, e2⟩ := hsame
    rw [State.setFrames_setFrames] at e1
    have h2 : (T.setVm s.vm).sameButNew ({ U with vm := s.vm } : State) [] (0 + 1) (0 + 6) := ⟨e1, e2⟩
    have h3 := X.same.trans h2
    rw [List.append_nil] at h3
    exact h3.mono hc hs
  refine ⟨U, ?_, .threw T.heap.size, hrun, hend, Or.inr ⟨T.heap.size, rfl, cls, ce, locs, hx U hWs.alike f1 (fun q hq => f2 q hq (fun z hz => nomatch hz)), hce, hO.vm, hcl, hWs, hall, hf⟩⟩
  refine st1 _ ?_
  show Steps p.tables e below (T1.setTop { method := m, pc := pc + 3, locals := ls, stack := .ref T.heap.size :: rest, locked := none }) _
  jvm_step X₁.here [X₁.here.top, hexec, d3', Value.category]
  exact X₁.ldcString hexec (own := own) (text := text) (index := is) (a := sa) hown' hstr'.1 hstr'.2
    (g := { method := m, pc := pc + 4, locals := ls, stack := .ref T.heap.size :: .ref T.heap.size :: rest, locked := none }) rfl d4' _ hsteps
/-- 'throw new E("text")', the text by a wide index -/
theorem vx_throwSW {cc : ByteArray} {pc : Nat} (hexec : p.tables.exec = Jvm.exec) (hb : c.code = cc) (hl : l.stackTraces = false) {own cls text : String} {names : List String} {ik is ic mc ms sa : Nat} {A : Nat → Prop}
    (hown : s.vm.findClass own = some m.cls) (hcls : Bundle.fit cls = true) (hnames : ∀ n ∈ names, Bundle.fit n = true)
    (hk : (Cond.classLink own ik cls).before args s = true) (hini : (Cond.initialized cls).before args s = true) (hstr : vk_R own is text sa s) (hat : ∀ w ∈ vx_atS own ic cls names, w.before args s = true)
    (hgood : ∀ w ∈ Cond.classLink own ik cls :: Cond.initialized cls :: vx_atS own ic cls names, vx_ot w = true)
    (hU : vx_Zq Bundle.tN "UNASSIGNED_STACK" Bundle.steD A s s.heap) (hN : vx_Zq Bundle.tN "SUPPRESSED_SENTINEL" Bundle.listD A s s.heap) (hS : va_S A s.heap H locs) (hsize : ls.size = c.maxLocals)
    (d0 : decode cc pc = .ok (.new ik, 3)) (d3 : decode cc (pc + 3) = .ok (.dup, 1)) (d4 : decode cc (pc + 4) = .ok (.ldc_w is, 3)) (d7 : decode cc (pc + 7) = .ok (.invokespecial ic, 3)) (d10 : decode cc (pc + 10) = .ok (.athrow, 1))
    (hout : ∀ x ∈ c.exceptionTable.toList, covers x (pc + 10) = false)
    (hRframes : names.length + 3 < R.frames) (hRlocals : (rest.map fun v => v.category).sum + (13 * (names.length + 1) + 43) ≤ R.locals) (hRcells : cells + 1 ≤ R.cells) (hRslots : slots + 6 ≤ R.slots) (hlocks : meth.locks = false)
    (hx : ∀ t : State, s.vm.Alike t.vm → H.size ≤ t.heap.size → (∀ q : Nat, q < H.size → t.heap[q]? = H[q]?) → XC cls s t)
    (hf : ∀ z ∈ locs, free z.base) (hc : cells + 1 ≤ mc) (hs : slots + 6 ≤ ms) :
    W p l e R s m args below meth c H locs cells slots (vx_MQ below Qc XC args s mc ms free) (F0 m pc ls rest) := by
  intro T hT X
  have htr : e.platform.stackTraces = false := (show e.platform.stackTraces = l.stackTraces by rw [X.admits.platform]).trans hl
  have Y := vx_rebase X (R' := { frames := R.frames, locals := R.locals, cells := 1, slots := 6 }) (Nat.le_refl _) (Nat.le_refl _) hRcells hRslots
  obtain ⟨s', hA⟩ : ∃ z, z = (T.setVm s.vm).setFrames (.invoking m args :: below) := ⟨_, rfl⟩
  rw [← hA] at Y
  have hvm : s'.vm = s.vm := by rw [hA]; rfl
  have hhp : s'.heap = H := by rw [hA]; exact hT
  have hW0 : s.WarmedH s'.vm := by rw [hvm]; exact State.WarmedH.refl s
  have hat' : ∀ w ∈ vx_atS own ic cls names, w.before args s' = true := fun w hw => vx_ot_at hW0 hvm.symm (hgood w (List.mem_cons_of_mem _ (List.mem_cons_of_mem _ hw))) (hat w hw)
  have hk' : (Cond.classLink own ik cls).before args s' = true := vx_ot_at hW0 hvm.symm (hgood _ List.mem_cons_self) hk
  have hini' : (Cond.initialized cls).before args s' = true := vx_ot_at hW0 hvm.symm (hgood _ (List.mem_cons_of_mem _ List.mem_cons_self)) hini
  have hU' : vx_Zq Bundle.tN "UNASSIGNED_STACK" Bundle.steD A s' s'.heap := by rw [hhp]; exact vx_Zq.moved hW0.alike (hU.kept hS.2.1)
  have hN' : vx_Zq Bundle.tN "SUPPRESSED_SENTINEL" Bundle.listD A s' s'.heap := by rw [hhp]; exact vx_Zq.moved hW0.alike (hN.kept hS.2.1)
  have h : ∀ w ∈ Bundle.ownAtoms own ic cls names, w.before args s' = true := vx_own hat' (vx_isRefq hU'.1) (vx_isRefq hN'.1) hU'.2.word hN'.2.word
  have hown' : s'.vm.findClass own = some m.cls := by rw [hvm]; exact hown
  have hins : (Cond.instantiable cls 6).before args s' = true := h _ (by simp [Bundle.ownAtoms])
  obtain ⟨vm₁, cX, kX, hfX, hkX, -, -, X₁, st1⟩ := Y.newCold hexec (own := own) (C := cls) (index := ik) (n := 6) hown' hk' hins hini'
    (g := F0 m pc ls rest) rfl (by rw [hb]; exact d0) (Nat.le_refl _) (Nat.le_refl _)
  generalize hT1 : (T.setVm vm₁).pushCell { cls := cX, slots := kX.instanceTypes.map defaultValue, vm := .none } = T1 at X₁ st1
  have hcat : (Value.ref T.heap.size).category = 1 := rfl
  have hcellA : T1.heap[T.heap.size]? = some (freshCell cX kX) := by rw [← hT1]; exact State.heap_pushCell_size _ _
  have d3' : decode c.code (pc + 3) = .ok (.dup, 1) := by rw [hb]; exact d3
  have d4' : decode c.code (pc + 4) = .ok (.ldc_w is, 3) := by rw [hb]; exact d4
  have hstr' : vk_R own is text sa s' := vk_R.warm hW0 hstr
  obtain ⟨U, hsteps, hrun, hend, hW, hsame, ce, hce, hO⟩ := X₁.ctorThrowS hexec htr (own := own) (cls := cls) (names := names) (ic := ic) hown' hcls hnames h (fun x hx => nomatch hx) hfX hkX hcellA (by rw [hhp, hT]; exact Nat.le_refl _) (msg := .ref sa) rfl
    (g := { method := m, pc := pc + 7, locals := ls, stack := .ref sa :: .ref T.heap.size :: .ref T.heap.size :: rest, locked := none }) rfl hsize rfl rfl (rest := rest) rfl
    (by rw [hb]; exact d7) (by rw [hb]; exact d10) hout hRframes (by simp only [List.map_cons, List.sum_cons, hcat]; omega) hlocks
  obtain ⟨f1, f2⟩ := vx_frame hsame
  rw [hhp] at f1 f2
  have hWs : s.WarmedH U.vm := State.WarmedH.trans hW0 hW
  have hcl : s.vm.findClass cls = some ce.cls := by
    have h9 := hO.cls
    rw [hvm] at h9
    exact h9
  have hall : s.sameButNew ({ U with vm := s.vm } : State) locs mc ms := by
    subst hA
    obtain ⟨e1, e2⟩ := hsame
    rw [State.setFrames_setFrames] at e1
    have h2 : (T.setVm s.vm).sameButNew ({ U with vm := s.vm } : State) [] (0 + 1) (0 + 6) := ⟨e1, e2⟩
    have h3 := X.same.trans h2
    rw [List.append_nil] at h3
    exact h3.mono hc hs
  refine ⟨U, ?_, .threw T.heap.size, hrun, hend, Or.inr ⟨T.heap.size, rfl, cls, ce, locs, hx U hWs.alike f1 (fun q hq => f2 q hq (fun z hz => nomatch hz)), hce, hO.vm, hcl, hWs, hall, hf⟩⟩
  refine st1 _ ?_
  show Steps p.tables e below (T1.setTop { method := m, pc := pc + 3, locals := ls, stack := .ref T.heap.size :: rest, locked := none }) _
  jvm_step X₁.here [X₁.here.top, hexec, d3', Value.category]
  exact X₁.ldcStringW hexec (own := own) (text := text) (index := is) (a := sa) hown' hstr'.1 hstr'.2
    (g := { method := m, pc := pc + 4, locals := ls, stack := .ref T.heap.size :: .ref T.heap.size :: rest, locked := none }) rfl d4' _ hsteps
end Ends
section Bodies
variable {l : Launch}
theorem vx_ofW {y : MethodName} {ws ws' : List Cond} {rm : Room} {Pc : Array Value → State → Prop} {Qc : Array Value → State → Outcome → State → Prop} {XC : String → State → State → Prop} {mc ms : Nat} {free : Addr → Prop} {cc : ByteArray} {maxL : Nat} {ret : Option FieldType}
    (hy : plainName y.cls = true) (hw : ws = Cond.code y cc maxL ret :: ws')
    (body : ∀ p e s m args below meth c s₁, BodyLoose p l y (headSpec ws rm) cc maxL ret e s m args below meth c s₁ → c.maxLocals = maxL → (∀ x ∈ c.exceptionTable.toList, False) → Pc args s →
      W p l e (headSpec ws rm).room s m args below meth c s.heap [] 0 0 (vx_MQ below Qc XC args s mc ms free) (entryFrame m args maxL)) : vx_Met l y ws rm Pc Qc XC mc ms free := by
  refine MetFree.of_bodyS (code := cc) (maxLocals := maxL) (ret := ret) hy ?_ ?_
  · intro args s m h hn
    obtain ⟨meth, c, h1, h2, h3, h4, h5, h6, -, -⟩ := Cond.code_spec hn (atoms_spec (ws := ws) h _ (by rw [hw]; exact List.mem_cons_self))
    exact ⟨meth, c, h1, h2, h3, h4, h5, h6⟩
  · intro p e s m args below meth c s₁ B hml hP _
    have hh0 : s₁.heap = s.heap := by rw [B.state]; rfl
    have ht : ∀ x ∈ c.exceptionTable.toList, False := by
      obtain ⟨meth9, c9, h1, h2, -, -, -, -, h7, -⟩ := Cond.code_spec B.named (atoms_spec (ws := ws) B.pre _ (by rw [hw]; exact List.mem_cons_self))
      cases Option.some.inj (h1.symm.trans B.method)
      cases Option.some.inj (h2.symm.trans (Stand.of_body B).code)
      intro x hx
      rw [Array.isEmpty_iff.mp h7] at hx
      cases hx
    obtain ⟨t, a1, o, b1, b2, b3⟩ := body p e s m args below meth c s₁ B hml ht hP s₁ hh0 (Stand.of_body B)
    exact ⟨t, o, a1, b1, b2, b3⟩
/-- the table of a body with handlers -/
theorem vx_table {p : Program} {x y : MethodName} {S : Spec} {cc bytes : ByteArray} {maxL maxL' : Nat} {ret ret' : Option FieldType} {e : Env} {s s₁ : State} {m : MethodId} {args : Array Value} {below : List Frame} {meth : Method} {c : Code} {hh : List (Nat × Nat × Nat × Nat)}
    (B : BodyLoose p l y S cc maxL ret e s m args below meth c s₁) (h : (Cond.codeWith y bytes maxL' ret' hh).before args s = true) : c.exceptionTable.toList = tableOf hh := by
  obtain ⟨m9, meth9, c9, hn9, h1, h2, -, -, h6, -⟩ := Cond.codeWith_spec h
  cases Option.some.inj (hn9.symm.trans B.named)
  cases Option.some.inj (h1.symm.trans B.method)
  cases Option.some.inj (h2.symm.trans (Stand.of_body B).code)
  rw [← h6, table_eq]
end Bodies
end VXA
/-! ===== END ===== -/
/-! ===== BEGIN a static call of a method with an exception table ===== -/
section VXS
variable {p : Program} {l : Launch} {e : Env} {R : Room} {s : State} {m : MethodId} {args : Array Value} {below : List Frame} {meth : Method} {c : Code} {T : State} {H : Heap} {locs : List Loc} {cells slots : Nat}
abbrev vx_CSW (R : Room) (s : State) (args : Array Value) (own : String) (index : Nat) (y : MethodName) (bytes : ByteArray) (maxL : Nat) (ret : Option FieldType) (hh : List (Nat × Nat × Nat × Nat)) (ws : List Cond) (rm : Room) (mc ms n : Nat) : Prop :=
  (rm.cells = mc ∧ rm.slots = ms ∧ rm.frames + 1 ≤ R.frames ∧ 8 + (maxL + 11) + rm.locals ≤ R.locals ∧ (∀ w ∈ ws, ∀ (a' : Array Value) (U : State), s.WarmedH U.vm → w.before a' U = true) ∧ Cond.codeWith y bytes maxL ret hh ∈ ws) ∧
  (Cond.codeWith y bytes maxL ret hh).before args s = true ∧ (Cond.initialized y.cls).before args s = true ∧ (y.cls ≠ "java/lang/invoke/MethodHandle" ∧ y.cls ≠ "java/lang/invoke/VarHandle") ∧
  (∀ sig, parseMethodDescriptor y.desc = some sig → n = sig.parameters.length) ∧ (Cond.methodLink own index y).before args s = true ∧ (Cond.static y).before args s = true
theorem vx_cwSW {own : String} {index maxL mc ms : Nat} {y : MethodName} {bytes : ByteArray} {ret : Option FieldType} {hh : List (Nat × Nat × Nat × Nat)} {Ts ws ws' : List Cond} {rm : Room} (n : Nat) (ht : ∀ w ∈ Ts, w.before args s = true) (hT : GoodIn Ts (va_wsS own index y ws)) (hw : ws = Cond.codeWith y bytes maxL ret hh :: ws') (hrc : rm.cells = mc) (hrs : rm.slots = ms)
    (hd : y.cls ≠ "java/lang/invoke/MethodHandle" ∧ y.cls ≠ "java/lang/invoke/VarHandle" ∧ (parseMethodDescriptor y.desc).map (fun d => d.parameters.length) = some n) (hR : rm.frames + 1 ≤ R.frames ∧ 8 + (maxL + 11) + rm.locals ≤ R.locals) :
    vx_CSW R s args own index y bytes maxL ret hh ws rm mc ms n := by
  have ok : ∀ w ∈ va_wsS own index y ws, w.before args s = true := fun w h => ht w (hT w h).1
  have hG : GoodIn Ts ws := fun w h => hT w (by unfold va_wsS; exact List.mem_append_right _ h)
  have hc : Cond.codeWith y bytes maxL ret hh ∈ ws := by rw [hw]; exact List.mem_cons_self
  refine ⟨⟨hrc, hrs, hR.1, hR.2, pay_in ht hG, hc⟩, ht _ (hG _ hc).1, ok _ (by simp [va_wsS]), ⟨hd.1, hd.2.1⟩, fun sig h => ?_, ok _ (by simp [va_wsS]), ok _ (by simp [va_wsS])⟩
  have h2 := hd.2.2
  rw [h] at h2
  exact (Option.some.inj h2).symm
theorem vx_callSW (X : Stand p l e R s m args below meth c T locs cells slots) (hexec : p.tables.exec = Jvm.exec) {own : String} {index : Nat} {y : MethodName} {bytes : ByteArray} {maxL : Nat} {ret : Option FieldType} {hh : List (Nat × Nat × Nat × Nat)}
    (hown : s.vm.findClass own = some m.cls) (hlink : (Cond.methodLink own index y).before args s = true) (hstat : (Cond.static y).before args s = true) (hinit : (Cond.initialized y.cls).before args s = true)
    (hcode : (Cond.codeWith y bytes maxL ret hh).before args s = true) (hy : y.cls ≠ "java/lang/invoke/MethodHandle" ∧ y.cls ≠ "java/lang/invoke/VarHandle")
    {W9 : Nat} {Pre : Pt → Array Value → Prop} {Post : Pt → Array Value → Option Value → Pt → Prop} (hK : Back l R p e below s args y 3 W9 Pre Post)
    {g : JFrame} (hg : g.method = m) (hsize : g.locals.size = c.maxLocals) {argsL rest : List Value} (hlen : ∀ sig, parseMethodDescriptor y.desc = some sig → argsL.length = sig.parameters.length)
    (hstack : g.stack = argsL.reverse ++ rest) (hW : 2 * g.monitorRoom + (rest.map fun v => v.category).sum ≤ W9) (hdg : decode c.code g.pc = .ok (.invokestatic index, 3))
    (hpre : ∀ vm₁, s.WarmedH vm₁ → Pre ⟨T.setVm vm₁, locs, cells, slots⟩ argsL.toArray) :
    ∃ (v : Option Value) (vm₁ : Vm) (B : Pt), s.WarmedH vm₁ ∧ Stand p l e R s m args below meth c B.U B.locs B.cells B.slots ∧ Post ⟨T.setVm vm₁, locs, cells, slots⟩ argsL.toArray v B ∧
      ∀ target, Steps p.tables e below (B.U.setTop { g with pc := g.pc + 3, stack := v.toList ++ rest }) target → Steps p.tables e below (T.setTop g) target := by
  obtain ⟨mk, methM, cM, hnamed, hmethM, -, -, -, -, -, -, hsigM⟩ := Cond.codeWith_spec hcode
  have hstatic : methM.isStatic = true := Cond.static_spec hnamed hmethM hstat
  obtain ⟨kP, hkP, -⟩ := className_of_methodNamed hnamed
  have hinitP : kP.init = .initialized := Cond.initialized_spec (findClass_of_methodNamed hnamed) hkP hinit
  obtain ⟨vm₁, X₁, hstep₁⟩ := X.invokestatic hexec hown hlink hnamed hmethM hstatic hkP hinitP hy (g := g) hg (argsL := argsL) (rest := rest) (hlen _ hsigM) hstack hdg
  obtain ⟨v, B, X', hpost, hsteps⟩ := hK m meth c ⟨T.setVm vm₁, locs, cells, slots⟩ { g with stack := rest } (.invokestatic index) mk argsL.toArray X₁ hg hsize hdg hW (X₁.named hnamed) (hpre vm₁ X₁.warmed)
  exact ⟨v, vm₁, B, X₁.warmed, X', hpost, fun target h => hstep₁ _ fun acts => by rw [doInvoke_state]; exact hsteps.trans h⟩
theorem vx_runSW {y : MethodName} {bytes cc : ByteArray} {maxL nL mc ms n index : Nat} {ret : Option FieldType} {hh : List (Nat × Nat × Nat × Nat)} {ws : List Cond} {rm : Room} {Pc : Array Value → State → Prop} {Qc : Array Value → State → Outcome → State → Prop} {free : Addr → Prop} {Ts : List Cond} {own : String} {As rest : List Value} {g : JFrame}
    (S : CallFix p m c cc nL s args Ts own) (hM : Met l y ws rm Pc Qc mc ms free) (cw : vx_CSW R s args own index y bytes maxL ret hh ws rm mc ms n) (hp : PreS s H Pc As)
    (hg : g.method = m) (hn : As.length = n) (hsize : g.locals.size = nL) (hstack : g.stack = As.reverse ++ rest) (hW : 2 * g.monitorRoom + (rest.map fun v => v.category).sum ≤ 8) (hdg : decode cc g.pc = .ok (.invokestatic index, 3)) (hf : cells + mc ≤ R.cells ∧ slots + ms ≤ R.slots) :
    va_Run p l e R s m args below meth c H locs cells slots mc ms g rest (Qc As.toArray) (free) := by
  obtain ⟨⟨hrc, hrs, hfr, hlo, hws, hcw⟩, hcode, hini, hy, hlen, hl, hstt⟩ := cw
  have hK : Back l R p e below s args y 3 8 (PreOf R mc ms Pc) (PostOf Qc mc ms free) := va_backW (hh := hh) (bytes := bytes) (maxL := maxL) (ret := ret) hM hp.1 hrc hrs hfr hlo hws hcw (fun a' U hW => word_at hW (Or.inl (by first | rfl | simp [Cond.onTables, Cond.keeps, Cond.steady])) hini)
  obtain ⟨hx, hb, hml, ho, -⟩ := S
  intro T hT X
  obtain ⟨v, vm₁, ⟨U', l2, c2, s2⟩, hW₁, X', ⟨g', mk, t, L, e1, e2, hq, h1, hL, h2, h3⟩, st⟩ := vx_callSW X hx (hh := hh) (bytes := bytes) (maxL := maxL) (ret := ret) ho hl hstt hini hcode hy hK hg (hsize.trans hml.symm) (argsL := As) (rest := rest) (fun sig h => hn.trans (hlen sig h)) hstack hW (by rw [hb]; exact hdg)
    (fun vm₁ hW₁ => ⟨hf.1, hf.2, hp.2 (T.setVm vm₁) hT hW₁⟩)
  dsimp only [Pt.U, Pt.locs, Pt.cells, Pt.slots] at X' e1 e2 h1 h2 h3 st
  subst h1; subst h2; subst h3
  exact ⟨v, (T.setVm vm₁).calling g' mk As.toArray, t, U', L, hT, X', hL, e1, e2, hq, st⟩
/-- not caught here, past rows that name other classes: it goes on to the caller -/
theorem vx_outP {p : Program} {l : Launch} {e : Env} {R : Room} {s : State} {m : MethodId} {args : Array Value} {below : List Frame} {meth : Method} {c : Code} {H : Heap} {locs : List Loc} {cells slots : Nat} {free : Addr → Prop} {ls : Array Slot} {rest : List Value} {Qc : Array Value → State → Outcome → State → Prop} {XC : String → State → State → Prop}
    {pc : Nat} {own E : String} {ce : Cell} {q : Addr} {mc ms : Nat} (hown : s.vm.findClass own = some m.cls) (hlocks : meth.locks = false)
    (hpass : ∀ z ∈ c.exceptionTable.toList, covers z pc = false ∨ (z.catchType ≠ 0 ∧ ∃ nm : String, (Cond.classLink own z.catchType nm).before args s = true ∧ va_Nc E nm s)) (hcell : H[q]? = some ce) (hv : ce.vm = .none) (hcl : s.vm.findClass E = some ce.cls)
    (hx : ∀ t : State, t.heap = H → s.vm.Alike t.vm → XC E s t) (hf : ∀ z ∈ locs, free z.base) (hc : cells ≤ mc) (hs : slots ≤ ms) :
    vx_W p l e R s m args below meth c H locs cells slots (vx_MQ below Qc XC args s mc ms free) (F0 m pc ls rest) q := by
  intro T hT X
  have hpl : e.platform.magicAccessors = ({} : Platform).magicAccessors := by rw [X.admits.platform]
  obtain ⟨vm', hW', X', st⟩ := X.outThrough hlocks q (g := F0 m pc ls rest) rfl rfl rfl (cell := ce) (by rw [hT]; exact hcell) (by rw [hv]; rfl)
    (by obtain ⟨k9, h9, -⟩ := Vm.findClass_spec hcl; exact ⟨k9, h9⟩) (fun z hz => by
      rcases hpass z hz with h | ⟨hz0, nm, hl1, hn1⟩
      · exact Or.inl h
      · obtain ⟨c6, hc6, hcl6⟩ := Cond.classLink_spec hown hl1 e.platform hpl
        obtain ⟨a8, b8, h1, h2, h3⟩ := hn1
        cases Option.some.inj (h1.symm.trans hcl)
        cases Option.some.inj (h2.symm.trans hc6)
        exact Or.inr ⟨hz0, _, hcl6, h3⟩)
  obtain ⟨g₀, hfr⟩ := X'.frames_eq
  have hcell9 : ((T.setVm vm').setFrames (.throwing q :: below)).heap[q]? = some ce := by
    show T.heap[q]? = some ce
    rw [hT]; exact hcell
  have hend : Ended ((T.setVm vm').setFrames (.throwing q :: below)) below (.threw q) := State.frames_setFrames _ (State.cur_lt_of_frames hfr)
  refine ⟨(T.setVm vm').setFrames (.throwing q :: below), ?_, .threw q, X'.here.running, hend, Or.inr ⟨q, rfl, E, ce, locs, hx _ hT (X'.ends _).1.alike, hcell9, hv, hcl, (X'.ends _).1, (X'.ends _).2.mono hc hs, hf⟩⟩
  rw [X.pushThrowing_eq]
  exact st
/-- a thing of a world lies in the heap -/
theorem vx_lt {D : va_G} {cl : List vw_C} {ws : va_W} {H1 : Heap} (h : va_P D cl ws H1) {k : Nat} {q : Nat × va_E} (hk : ws[k]? = some q) : q.1 < H1.size := (h k q hk).lt
end VXS
/-! ===== END ===== -/
/-! ===== BEGIN methods with a table of their own: called by a name, returning or throwing ===== -/
section VXH
/-! vx_backW, vx_callVX, vx_callSX, vx_callVW, vx_runVW, vx_runVX, vx_runSX, vx_ofWH follow the same proofs as their sisters above (Free/Laws.lean, Shelf42/LK1.lean); vx_outP calls Shelf42/NT130.lean (outThrough). -/
section
variable {l : Launch} {R : Room} {p : Program} {e : Env} {below : List Frame} {s : State} {sargs : Array Value} {y : MethodName} {len W9 : Nat}
theorem vx_backW {ws : List Cond} {rm : Room} {Pc : Array Value → State → Prop} {Qc : Array Value → State → Outcome → State → Prop} {XC : String → State → State → Prop} {mc ms : Nat} {free : Addr → Prop} {bytes : ByteArray} {maxL : Nat} {ret : Option FieldType} {hh : List (Nat × Nat × Nat × Nat)}
    (hM : vx_Met l y ws rm Pc Qc XC mc ms free) (hblind : FrameBlind Pc) (hrc : rm.cells = mc) (hrs : rm.slots = ms)
    (hframes : rm.frames + 1 ≤ R.frames) (hlocals : W9 + (maxL + 11) + rm.locals ≤ R.locals)
    (hws : ∀ w ∈ ws, ∀ a' U, s.WarmedH U.vm → w.before a' U = true) (hcode : Cond.codeWith y bytes maxL ret hh ∈ ws) (hinit : ∀ a' U, s.WarmedH U.vm → (Cond.initialized y.cls).before a' U = true) :
    vx_Back l R p e below s sargs y len W9 (PreOf R mc ms Pc) (PostOf Qc mc ms free) (vx_Post XC mc ms free) := by
  intro m meth c A g ig mk a X hg hsize hdg hW hn hp
  have h1 : (headSpec ws rm).pre.before a A.U = true := atoms_intro fun w hw => hws w hw _ _ X.warmed
  have h2 : (Cond.codeWith y bytes maxL ret hh).before a A.U = true := hws _ hcode _ _ X.warmed
  have h3 : (Cond.initialized y.cls).before a A.U = true := hinit _ _ X.warmed
  have h4 : A.cells + (headSpec ws rm).room.cells ≤ R.cells := by rw [show (headSpec ws rm).room.cells = mc from hrc]; exact hp.1
  have h5 : A.slots + (headSpec ws rm).room.slots ≤ R.slots := by rw [show (headSpec ws rm).room.slots = ms from hrs]; exact hp.2.1
  have hPc : Pc a (A.U.calling g mk a) := hblind _ _ _ _ hp.2.2
  obtain ⟨U, Ls, c0, s0⟩ := A
  dsimp only [Pt.U, Pt.locs, Pt.cells, Pt.slots] at h1 h2 h3 h4 h5 X hn hPc ⊢
  obtain ⟨m9, methY, cY, hn9, hmY, hcY, -, hlY, -⟩ := Cond.codeWith_spec h2
  cases Option.some.inj (hn9.symm.trans hn)
  obtain ⟨kY, hkY, -⟩ := className_of_methodNamed hn
  have hinitY : kY.init = .initialized := Cond.initialized_spec (findClass_of_methodNamed hn) hkY h3
  have h : At U g.method c below := by rw [hg]; exact X.here
  have hlocals9 : W9 + (maxL + 11) + (headSpec ws rm).room.locals ≤ R.locals := hlocals
  have happ : (headSpec ws rm).appliesLoose y e.platform (U.calling g mk a) = true :=
    Spec.appliesLoose_calling (g := g) h hdg hn hkY hinitY
      (X.room_calling (g := g) (R' := (headSpec ws rm).room) hsize hmY hcY hframes (by rw [hlY]; omega) h4 h5) h1
  obtain ⟨mid, hmid⟩ := h.above
  have hfr : (U.setTop g).frames = (.java g :: mid) ++ below := by rw [State.frames_setTop' g h.top, hmid]; rfl
  obtain ⟨o, s₂, hsteps, -, hend, hq⟩ := Steps.callFree hM p X.admits X.cas X.clock (acts := []) hfr happ hPc trivial
  have hq' : vx_Q Qc XC mc ms free a (U.calling g mk a) o s₂ := hq
  rw [State.frames_setTop' g h.top] at hend
  obtain ⟨g₀, hg0⟩ := Option.isSome_iff_exists.mp h.top
  obtain ⟨r, hr⟩ := State.topJava?_eq_some.mp hg0
  have hr' : (({ U with heap := s₂.heap, slotsUsed := s₂.slotsUsed } : State).setVm s₂.vm).frames = .java g₀ :: r := hr
  rcases hq' with ⟨hqc, L, hfe, hL⟩ | ⟨q, rfl, E, ce, L, hx, hce, hcv, hcl, hW₂, hsm, hL⟩
  · obtain ⟨⟨v, rfl⟩, hW₂, e2, q2, q3, q4, q5, q6⟩ := id hfe
    have e3 : s₂ = ({ (U.calling g mk a).setFrames s₂.frames with heap := s₂.heap, slotsUsed := s₂.slotsUsed } : State).setVm s₂.vm := by
      have : s₂ = ({ s₂ with vm := (U.calling g mk a).vm } : State).setVm s₂.vm := rfl
      rw [e2] at this
      exact this
    obtain ⟨c₂, i₂, len₂, hc₂, hd₂, hf₂⟩ := hend
    have hW' : U.WarmedH s₂.vm := hW₂
    have hcc : c₂ = c := by
      have h1 : s₂.code? g.method = U.code? g.method := by
        rw [State.code?_eq, State.code?_eq, hW'.alike.method?]
      exact Option.some.inj (hc₂.symm.trans (h1.trans h.code))
    subst hcc
    have hlen : len₂ = len := by rw [hdg] at hd₂; cases hd₂; rfl
    subst hlen
    have hs₂ : s₂ = (({ U with heap := s₂.heap, slotsUsed := s₂.slotsUsed } : State).setVm s₂.vm).setTop { g with pc := g.pc + len₂, stack := v.toList ++ g.stack } := by
      refine e3.trans ?_
      rw [hf₂, State.calling_eq h.top, State.setFrames_setFrames, State.setTop_of_frames _ hr', hr]
      rfl
    have hsame : U.sameButNew ({ U with heap := s₂.heap, slotsUsed := s₂.slotsUsed } : State) L mc ms := by
      refine ⟨?_, q2, q3, q4, q5, q6⟩
      obtain ⟨t, ht, -⟩ := State.frames_cons hr
      show ({ U with heap := s₂.heap, slotsUsed := s₂.slotsUsed } : State) = { U.setFrames U.frames with heap := s₂.heap, slotsUsed := s₂.slotsUsed }
      rw [State.setFrames_self ht]
    subst hg
    refine Or.inl ⟨v, ⟨(({ U with heap := s₂.heap, slotsUsed := s₂.slotsUsed } : State).setVm s₂.vm), Ls ++ L, c0 + mc, s0 + ms⟩,
      ⟨X.admits, X.cas, X.clock, X.frames, X.room, X.hears, X.method, X.code, (X.here.setHeapUsed s₂.heap s₂.slotsUsed).setVm hW'.alike, X.tail, State.WarmedH.trans X.warmed hW', X.limits, X.bytes, X.same.trans (hsame.setVm s.vm)⟩,
      ⟨g, mk, s₂, L, rfl, rfl, hqc, rfl, hL, rfl, rfl⟩, ?_⟩
    show Steps p.tables e below _ ((({ U with heap := s₂.heap, slotsUsed := s₂.slotsUsed } : State).setVm s₂.vm).setTop { g with pc := g.pc + len₂, stack := v.toList ++ g.stack })
    rw [← hs₂]
    exact hsteps
  · obtain ⟨e2, q2, q3, q4, q5, q6⟩ := id hsm
    have e3 : s₂ = ({ (U.calling g mk a).setFrames s₂.frames with heap := s₂.heap, slotsUsed := s₂.slotsUsed } : State).setVm s₂.vm := by
      have : s₂ = ({ s₂ with vm := (U.calling g mk a).vm } : State).setVm s₂.vm := rfl
      rw [e2] at this
      exact this
    have hf₂ : s₂.frames = .throwing q :: .java g :: U.frames.tail := hend
    have hW' : U.WarmedH s₂.vm := hW₂
    have hs₂ : s₂ = ((({ U with heap := s₂.heap, slotsUsed := s₂.slotsUsed } : State).setVm s₂.vm).setTop g).pushFrame (.throwing q) := by
      refine e3.trans ?_
      rw [hf₂, State.calling_eq h.top, State.setFrames_setFrames, State.pushFrame, State.frames_setTop _ hr', State.setTop_of_frames _ hr', State.setFrames_setFrames, hr]
      rfl
    have hsame : U.sameButNew ({ U with heap := s₂.heap, slotsUsed := s₂.slotsUsed } : State) L mc ms := by
      refine ⟨?_, q2, q3, q4, q5, q6⟩
      obtain ⟨t, ht, -⟩ := State.frames_cons hr
      show ({ U with heap := s₂.heap, slotsUsed := s₂.slotsUsed } : State) = { U.setFrames U.frames with heap := s₂.heap, slotsUsed := s₂.slotsUsed }
      rw [State.setFrames_self ht]
    subst hg
    refine Or.inr ⟨q, ⟨(({ U with heap := s₂.heap, slotsUsed := s₂.slotsUsed } : State).setVm s₂.vm), Ls ++ L, c0 + mc, s0 + ms⟩,
      ⟨X.admits, X.cas, X.clock, X.frames, X.room, X.hears, X.method, X.code, (X.here.setHeapUsed s₂.heap s₂.slotsUsed).setVm hW'.alike, X.tail, State.WarmedH.trans X.warmed hW', X.limits, X.bytes, X.same.trans (hsame.setVm s.vm)⟩,
      ⟨g, mk, s₂, L, E, ce, rfl, rfl, hx, hce, hcv, hcl, rfl, hL, rfl, rfl⟩, ?_⟩
    show Steps p.tables e below _ (((({ U with heap := s₂.heap, slotsUsed := s₂.slotsUsed } : State).setVm s₂.vm).setTop g).pushFrame (.throwing q))
    rw [← hs₂]
    exact hsteps
end
variable {p : Program} {l : Launch} {e : Env} {R : Room} {s : State} {m : MethodId} {args : Array Value} {below : List Frame} {meth : Method} {c : Code} {T : State} {H : Heap} {locs : List Loc} {cells slots : Nat}
theorem vx_callVX (X : Stand p l e R s m args below meth c T locs cells slots) (hexec : p.tables.exec = Jvm.exec) {own C : String} {index : Nat} {y : MethodName} {bytes : ByteArray} {maxL : Nat} {ret : Option FieldType} {hh : List (Nat × Nat × Nat × Nat)}
    (hown : s.vm.findClass own = some m.cls) (hlink : (Cond.methodLink own index y).before args s = true) (hinst : (Cond.instanceMethod y).before args s = true) (hsel : (Cond.selects C y y).before args s = true)
    (hcode : (Cond.codeWith y bytes maxL ret hh).before args s = true) (hy : y.cls ≠ "java/lang/invoke/MethodHandle" ∧ y.cls ≠ "java/lang/invoke/VarHandle")
    {W9 : Nat} {Pre : Pt → Array Value → Prop} {Post : Pt → Array Value → Option Value → Pt → Prop} {PostX : Pt → Array Value → Addr → Pt → Prop} (hK : vx_Back l R p e below s args y 3 W9 Pre Post PostX)
    {b : Addr} {cellB : Cell} (hcell : T.heap[b]? = some cellB) (hobj : cellB.vm.isStatics = false) (hcls : s.vm.findClass C = some cellB.cls)
    {g : JFrame} (hg : g.method = m) (hsize : g.locals.size = c.maxLocals) {argsL rest : List Value} (hlen : ∀ sig, parseMethodDescriptor y.desc = some sig → argsL.length = sig.parameters.length)
    (hstack : g.stack = argsL.reverse ++ .ref b :: rest) (hW : 2 * g.monitorRoom + (rest.map fun v => v.category).sum ≤ W9) (hdg : decode c.code g.pc = .ok (.invokevirtual index, 3))
    (hpre : ∀ vm₁, s.WarmedH vm₁ → Pre ⟨T.setVm vm₁, locs, cells, slots⟩ (Value.ref b :: argsL).toArray) :
    (∃ (v : Option Value) (vm₁ : Vm) (B : Pt), s.WarmedH vm₁ ∧ Stand p l e R s m args below meth c B.U B.locs B.cells B.slots ∧ Post ⟨T.setVm vm₁, locs, cells, slots⟩ (Value.ref b :: argsL).toArray v B ∧
      ∀ target, Steps p.tables e below (B.U.setTop { g with pc := g.pc + 3, stack := v.toList ++ rest }) target → Steps p.tables e below (T.setTop g) target) ∨
    (∃ (q : Addr) (vm₁ : Vm) (B : Pt), s.WarmedH vm₁ ∧ Stand p l e R s m args below meth c B.U B.locs B.cells B.slots ∧ PostX ⟨T.setVm vm₁, locs, cells, slots⟩ (Value.ref b :: argsL).toArray q B ∧
      Steps p.tables e below (T.setTop g) ((B.U.setTop { g with stack := rest }).pushFrame (.throwing q))) := by
  obtain ⟨mk, methM, hnamed, hmethM, hstM, habM⟩ := Cond.instanceMethod_spec hinst
  obtain ⟨m8, methM', cM, hn8, hmethM', -, -, -, -, -, -, hsigM⟩ := Cond.codeWith_spec hcode
  cases Option.some.inj (hn8.symm.trans hnamed)
  cases hmethM.symm.trans hmethM'
  obtain ⟨c2, r2, m2, q1, q2, q3, q4, kP, hkP, hkPi⟩ := Cond.selects_spec hsel
  cases hcls.symm.trans q1
  cases (State.methodFound?_of_named hnamed hy).symm.trans q2
  cases hnamed.symm.trans q3
  have hselP : selectMethod e.platform s.vm cellB.cls mk = .method mk := by rw [Launch.admits_selectMethod X.admits]; exact q4
  obtain ⟨vm₁, X₁, hstep₁⟩ := X.invokevirtual hexec hown hlink hnamed hmethM hstM hkP hkPi hy (a := b) (cell := cellB) hcell
    (fun z h => by rw [h] at hobj; cases hobj) hselP hmethM habM hkP hkPi (g := g) hg (argsL := argsL) (rest := rest) (hlen _ hsigM) hstack hdg
  rcases hK m meth c ⟨T.setVm vm₁, locs, cells, slots⟩ { g with stack := rest } (.invokevirtual index) mk (Value.ref b :: argsL).toArray X₁ hg hsize hdg hW (X₁.named hnamed) (hpre vm₁ X₁.warmed) with ⟨v, B, X', hpost, hsteps⟩ | ⟨q, B, X', hpost, hsteps⟩
  · exact Or.inl ⟨v, vm₁, B, X₁.warmed, X', hpost, fun target h => hstep₁ _ fun acts => by rw [doInvoke_state]; exact hsteps.trans h⟩
  · exact Or.inr ⟨q, vm₁, B, X₁.warmed, X', hpost, hstep₁ _ fun acts => by rw [doInvoke_state]; exact hsteps⟩
theorem vx_callSX (X : Stand p l e R s m args below meth c T locs cells slots) (hexec : p.tables.exec = Jvm.exec) {own : String} {index : Nat} {y : MethodName} {bytes : ByteArray} {maxL : Nat} {ret : Option FieldType} {hh : List (Nat × Nat × Nat × Nat)}
    (hown : s.vm.findClass own = some m.cls) (hlink : (Cond.methodLink own index y).before args s = true) (hstat : (Cond.static y).before args s = true) (hinit : (Cond.initialized y.cls).before args s = true)
    (hcode : (Cond.codeWith y bytes maxL ret hh).before args s = true) (hy : y.cls ≠ "java/lang/invoke/MethodHandle" ∧ y.cls ≠ "java/lang/invoke/VarHandle")
    {W9 : Nat} {Pre : Pt → Array Value → Prop} {Post : Pt → Array Value → Option Value → Pt → Prop} {PostX : Pt → Array Value → Addr → Pt → Prop} (hK : vx_Back l R p e below s args y 3 W9 Pre Post PostX)
    {g : JFrame} (hg : g.method = m) (hsize : g.locals.size = c.maxLocals) {argsL rest : List Value} (hlen : ∀ sig, parseMethodDescriptor y.desc = some sig → argsL.length = sig.parameters.length)
    (hstack : g.stack = argsL.reverse ++ rest) (hW : 2 * g.monitorRoom + (rest.map fun v => v.category).sum ≤ W9) (hdg : decode c.code g.pc = .ok (.invokestatic index, 3))
    (hpre : ∀ vm₁, s.WarmedH vm₁ → Pre ⟨T.setVm vm₁, locs, cells, slots⟩ argsL.toArray) :
    (∃ (v : Option Value) (vm₁ : Vm) (B : Pt), s.WarmedH vm₁ ∧ Stand p l e R s m args below meth c B.U B.locs B.cells B.slots ∧ Post ⟨T.setVm vm₁, locs, cells, slots⟩ argsL.toArray v B ∧
      ∀ target, Steps p.tables e below (B.U.setTop { g with pc := g.pc + 3, stack := v.toList ++ rest }) target → Steps p.tables e below (T.setTop g) target) ∨
    (∃ (q : Addr) (vm₁ : Vm) (B : Pt), s.WarmedH vm₁ ∧ Stand p l e R s m args below meth c B.U B.locs B.cells B.slots ∧ PostX ⟨T.setVm vm₁, locs, cells, slots⟩ argsL.toArray q B ∧
      Steps p.tables e below (T.setTop g) ((B.U.setTop { g with stack := rest }).pushFrame (.throwing q))) := by
  obtain ⟨mk, methM, cM, hnamed, hmethM, -, -, -, -, -, -, hsigM⟩ := Cond.codeWith_spec hcode
  have hstatic : methM.isStatic = true := Cond.static_spec hnamed hmethM hstat
  obtain ⟨kP, hkP, -⟩ := className_of_methodNamed hnamed
  have hinitP : kP.init = .initialized := Cond.initialized_spec (findClass_of_methodNamed hnamed) hkP hinit
  obtain ⟨vm₁, X₁, hstep₁⟩ := X.invokestatic hexec hown hlink hnamed hmethM hstatic hkP hinitP hy (g := g) hg (argsL := argsL) (rest := rest) (hlen _ hsigM) hstack hdg
  rcases hK m meth c ⟨T.setVm vm₁, locs, cells, slots⟩ { g with stack := rest } (.invokestatic index) mk argsL.toArray X₁ hg hsize hdg hW (X₁.named hnamed) (hpre vm₁ X₁.warmed) with ⟨v, B, X', hpost, hsteps⟩ | ⟨q, B, X', hpost, hsteps⟩
  · exact Or.inl ⟨v, vm₁, B, X₁.warmed, X', hpost, fun target h => hstep₁ _ fun acts => by rw [doInvoke_state]; exact hsteps.trans h⟩
  · exact Or.inr ⟨q, vm₁, B, X₁.warmed, X', hpost, hstep₁ _ fun acts => by rw [doInvoke_state]; exact hsteps⟩
theorem vx_callVW (X : Stand p l e R s m args below meth c T locs cells slots) (hexec : p.tables.exec = Jvm.exec) {own C : String} {index : Nat} {y : MethodName} {bytes : ByteArray} {maxL : Nat} {ret : Option FieldType} {hh : List (Nat × Nat × Nat × Nat)}
    (hown : s.vm.findClass own = some m.cls) (hlink : (Cond.methodLink own index y).before args s = true) (hinst : (Cond.instanceMethod y).before args s = true) (hsel : (Cond.selects C y y).before args s = true)
    (hcode : (Cond.codeWith y bytes maxL ret hh).before args s = true) (hy : y.cls ≠ "java/lang/invoke/MethodHandle" ∧ y.cls ≠ "java/lang/invoke/VarHandle")
    {W9 : Nat} {Pre : Pt → Array Value → Prop} {Post : Pt → Array Value → Option Value → Pt → Prop} (hK : Back l R p e below s args y 3 W9 Pre Post)
    {b : Addr} {cellB : Cell} (hcell : T.heap[b]? = some cellB) (hobj : cellB.vm.isStatics = false) (hcls : s.vm.findClass C = some cellB.cls)
    {g : JFrame} (hg : g.method = m) (hsize : g.locals.size = c.maxLocals) {argsL rest : List Value} (hlen : ∀ sig, parseMethodDescriptor y.desc = some sig → argsL.length = sig.parameters.length)
    (hstack : g.stack = argsL.reverse ++ .ref b :: rest) (hW : 2 * g.monitorRoom + (rest.map fun v => v.category).sum ≤ W9) (hdg : decode c.code g.pc = .ok (.invokevirtual index, 3))
    (hpre : ∀ vm₁, s.WarmedH vm₁ → Pre ⟨T.setVm vm₁, locs, cells, slots⟩ (Value.ref b :: argsL).toArray) :
    ∃ (v : Option Value) (vm₁ : Vm) (B : Pt), s.WarmedH vm₁ ∧ Stand p l e R s m args below meth c B.U B.locs B.cells B.slots ∧ Post ⟨T.setVm vm₁, locs, cells, slots⟩ (Value.ref b :: argsL).toArray v B ∧
      ∀ target, Steps p.tables e below (B.U.setTop { g with pc := g.pc + 3, stack := v.toList ++ rest }) target → Steps p.tables e below (T.setTop g) target := by
  obtain ⟨mk, methM, hnamed, hmethM, hstM, habM⟩ := Cond.instanceMethod_spec hinst
  obtain ⟨m8, methM', cM, hn8, hmethM', -, -, -, -, -, -, hsigM⟩ := Cond.codeWith_spec hcode
  cases Option.some.inj (hn8.symm.trans hnamed)
  cases hmethM.symm.trans hmethM'
  obtain ⟨c2, r2, m2, q1, q2, q3, q4, kP, hkP, hkPi⟩ := Cond.selects_spec hsel
  cases hcls.symm.trans q1
  cases (State.methodFound?_of_named hnamed hy).symm.trans q2
  cases hnamed.symm.trans q3
  have hselP : selectMethod e.platform s.vm cellB.cls mk = .method mk := by rw [Launch.admits_selectMethod X.admits]; exact q4
  obtain ⟨vm₁, X₁, hstep₁⟩ := X.invokevirtual hexec hown hlink hnamed hmethM hstM hkP hkPi hy (a := b) (cell := cellB) hcell
    (fun z h => by rw [h] at hobj; cases hobj) hselP hmethM habM hkP hkPi (g := g) hg (argsL := argsL) (rest := rest) (hlen _ hsigM) hstack hdg
  obtain ⟨v, B, X', hpost, hsteps⟩ := hK m meth c ⟨T.setVm vm₁, locs, cells, slots⟩ { g with stack := rest } (.invokevirtual index) mk (Value.ref b :: argsL).toArray X₁ hg hsize hdg hW (X₁.named hnamed) (hpre vm₁ X₁.warmed)
  exact ⟨v, vm₁, B, X₁.warmed, X', hpost, fun target h => hstep₁ _ fun acts => by rw [doInvoke_state]; exact hsteps.trans h⟩
abbrev vx_CVW (R : Room) (s : State) (args : Array Value) (own C : String) (index : Nat) (y : MethodName) (bytes : ByteArray) (maxL : Nat) (ret : Option FieldType) (hh : List (Nat × Nat × Nat × Nat)) (ws : List Cond) (rm : Room) (mc ms n : Nat) : Prop :=
  (rm.cells = mc ∧ rm.slots = ms ∧ rm.frames + 1 ≤ R.frames ∧ 8 + (maxL + 11) + rm.locals ≤ R.locals ∧ (∀ w ∈ ws, ∀ (a' : Array Value) (U : State), s.WarmedH U.vm → w.before a' U = true) ∧ Cond.codeWith y bytes maxL ret hh ∈ ws) ∧
  (Cond.codeWith y bytes maxL ret hh).before args s = true ∧ (Cond.initialized y.cls).before args s = true ∧ (y.cls ≠ "java/lang/invoke/MethodHandle" ∧ y.cls ≠ "java/lang/invoke/VarHandle") ∧
  (∀ sig, parseMethodDescriptor y.desc = some sig → n = sig.parameters.length) ∧ (Cond.methodLink own index y).before args s = true ∧ (Cond.instanceMethod y).before args s = true ∧ (Cond.selects C y y).before args s = true
theorem vx_cwVW {own C : String} {index maxL mc ms : Nat} {y : MethodName} {bytes : ByteArray} {ret : Option FieldType} {hh : List (Nat × Nat × Nat × Nat)} {Ts ws ws' : List Cond} {rm : Room} (n : Nat) (ht : ∀ w ∈ Ts, w.before args s = true) (hT : GoodIn Ts (wsV own index C y ws)) (hw : ws = Cond.codeWith y bytes maxL ret hh :: ws') (hrc : rm.cells = mc) (hrs : rm.slots = ms)
    (hd : y.cls = C ∧ y.cls ≠ "java/lang/invoke/MethodHandle" ∧ y.cls ≠ "java/lang/invoke/VarHandle" ∧ (parseMethodDescriptor y.desc).map (fun d => d.parameters.length) = some n) (hR : rm.frames + 1 ≤ R.frames ∧ 8 + (maxL + 11) + rm.locals ≤ R.locals) :
    vx_CVW R s args own C index y bytes maxL ret hh ws rm mc ms n := by
  obtain ⟨hC, hd⟩ := hd
  subst hC
  have ok : ∀ w ∈ wsV own index y.cls y ws, w.before args s = true := fun w h => ht w (hT w h).1
  have hG : GoodIn Ts ws := fun w h => hT w (by unfold wsV; exact List.mem_append_right _ h)
  have hc : Cond.codeWith y bytes maxL ret hh ∈ ws := by rw [hw]; exact List.mem_cons_self
  refine ⟨⟨hrc, hrs, hR.1, hR.2, pay_in ht hG, hc⟩, ht _ (hG _ hc).1, ok _ (by simp [wsV]), ⟨hd.1, hd.2.1⟩, fun sig h => ?_, ok _ (by simp [wsV]), ok _ (by simp [wsV]), ok _ (by simp [wsV])⟩
  have h2 := hd.2.2
  rw [h] at h2
  exact (Option.some.inj h2).symm
theorem vx_runVW {y : MethodName} {bytes cc : ByteArray} {maxL nL mc ms n index : Nat} {ret : Option FieldType} {hh : List (Nat × Nat × Nat × Nat)} {ws : List Cond} {rm : Room} {Pc : Array Value → State → Prop} {Qc : Array Value → State → Outcome → State → Prop} {free : Addr → Prop} {Ts : List Cond} {own C : String} {b : Addr} {As rest : List Value} {g : JFrame}
    (S : CallFix p m c cc nL s args Ts own) (hM : Met l y ws rm Pc Qc mc ms free) (cw : vx_CVW R s args own C index y bytes maxL ret hh ws rm mc ms n) (hp : PreV s H C b Pc As)
    (hg : g.method = m) (hn : As.length = n) (hsize : g.locals.size = nL) (hstack : g.stack = As.reverse ++ .ref b :: rest) (hW : 2 * g.monitorRoom + (rest.map fun v => v.category).sum ≤ 8) (hdg : decode cc g.pc = .ok (.invokevirtual index, 3)) (hf : cells + mc ≤ R.cells ∧ slots + ms ≤ R.slots) :
    va_Run p l e R s m args below meth c H locs cells slots mc ms g rest (Qc (Value.ref b :: As).toArray) free := by
  obtain ⟨⟨hrc, hrs, hfr, hlo, hws, hcw⟩, hcode, hini, hy, hlen, hl, hin, hse⟩ := cw
  have hK : Back l R p e below s args y 3 8 (PreOf R mc ms Pc) (PostOf Qc mc ms free) := va_backW (hh := hh) (bytes := bytes) (maxL := maxL) (ret := ret) hM hp.1 hrc hrs hfr hlo hws hcw (fun a' U hW => word_at hW (Or.inl (by first | rfl | simp [Cond.onTables, Cond.keeps, Cond.steady])) hini)
  obtain ⟨hx, hb, hml, ho, -⟩ := S
  obtain ⟨-, ⟨cellB, hcB, hoB, hclB⟩, hPc⟩ := hp
  intro T hT X
  obtain ⟨v, vm₁, ⟨U', l2, c2, s2⟩, hW₁, X', ⟨g', mk, t, L, e1, e2, hq, h1, hL, h2, h3⟩, st⟩ := vx_callVW X hx (C := C) (hh := hh) (bytes := bytes) (maxL := maxL) (ret := ret) ho hl hin hse hcode hy hK (by rw [hT]; exact hcB) hoB hclB hg (hsize.trans hml.symm) (argsL := As) (rest := rest) (fun sig h => hn.trans (hlen sig h)) hstack hW (by rw [hb]; exact hdg)
    (fun vm₁ hW₁ => ⟨hf.1, hf.2, hPc (T.setVm vm₁) hT hW₁⟩)
  dsimp only [Pt.U, Pt.locs, Pt.cells, Pt.slots] at X' e1 e2 h1 h2 h3 st
  subst h1; subst h2; subst h3
  exact ⟨v, (T.setVm vm₁).calling g' mk (Value.ref b :: As).toArray, t, U', L, hT, X', hL, e1, e2, hq, st⟩
section
variable {y : MethodName} {bytes cc : ByteArray} {maxL nL mc ms n index : Nat} {ret : Option FieldType} {ws : List Cond} {rm : Room} {Pc : Array Value → State → Prop} {Qc : Array Value → State → Outcome → State → Prop} {XC : String → State → State → Prop} {free : Addr → Prop} {Ts : List Cond} {own C : String} {b : Addr} {As rest : List Value} {g : JFrame}
theorem vx_runVX {hh : List (Nat × Nat × Nat × Nat)} (S : CallFix p m c cc nL s args Ts own) (hM : vx_Met l y ws rm Pc Qc XC mc ms free) (cw : vx_CVW R s args own C index y bytes maxL ret hh ws rm mc ms n) (hp : PreV s H C b Pc As)
    (hg : g.method = m) (hn : As.length = n) (hsize : g.locals.size = nL) (hstack : g.stack = As.reverse ++ .ref b :: rest) (hW : 2 * g.monitorRoom + (rest.map fun v => v.category).sum ≤ 8) (hdg : decode cc g.pc = .ok (.invokevirtual index, 3)) (hf : cells + mc ≤ R.cells ∧ slots + ms ≤ R.slots) :
    vx_Run p l e R s m args below meth c H locs cells slots mc ms g rest (Qc (Value.ref b :: As).toArray) XC free := by
  obtain ⟨⟨hrc, hrs, hfr, hlo, hws, hcw⟩, hcode, hini, hy, hlen, hl, hin, hse⟩ := cw
  have hK : vx_Back l R p e below s args y 3 8 (PreOf R mc ms Pc) (PostOf Qc mc ms free) (vx_Post XC mc ms free) := vx_backW (hh := hh) (bytes := bytes) (maxL := maxL) (ret := ret) hM hp.1 hrc hrs hfr hlo hws hcw (fun a' U hW => word_at hW (Or.inl (by first | rfl | simp [Cond.onTables, Cond.keeps, Cond.steady])) hini)
  obtain ⟨hx, hb, hml, ho, -⟩ := S
  obtain ⟨-, ⟨cellB, hcB, hoB, hclB⟩, hPc⟩ := hp
  intro T hT X
  rcases vx_callVX X hx (C := C) (hh := hh) (bytes := bytes) (maxL := maxL) (ret := ret) ho hl hin hse hcode hy hK (by rw [hT]; exact hcB) hoB hclB hg (hsize.trans hml.symm) (argsL := As) (rest := rest) (fun sig h => hn.trans (hlen sig h)) hstack hW (by rw [hb]; exact hdg)
    (fun vm₁ hW₁ => ⟨hf.1, hf.2, hPc (T.setVm vm₁) hT hW₁⟩) with ⟨v, vm₁, ⟨U', l2, c2, s2⟩, hW₁, X', ⟨g', mk, t, L, e1, e2, hq, h1, hL, h2, h3⟩, st⟩ | ⟨q, vm₁, ⟨U', l2, c2, s2⟩, hW₁, X', ⟨g', mk, t, L, E, ce, e1, e2, hq, hce, hcv, hcl, h1, hL, h2, h3⟩, st⟩
  · dsimp only [Pt.U, Pt.locs, Pt.cells, Pt.slots] at X' e1 e2 h1 h2 h3 st
    subst h1; subst h2; subst h3
    exact Or.inl ⟨v, (T.setVm vm₁).calling g' mk (Value.ref b :: As).toArray, t, U', L, hT, X', hL, e1, e2, hq, st⟩
  · dsimp only [Pt.U, Pt.locs, Pt.cells, Pt.slots] at X' e1 e2 h1 h2 h3 st hcl
    subst h1; subst h2; subst h3
    exact Or.inr ⟨q, (T.setVm vm₁).calling g' mk (Value.ref b :: As).toArray, t, U', L, E, ce, hT, X', hL, e1, e2, hq, hce, hcv, vx_cls hW₁ hcl, st⟩
theorem vx_runSX {hh : List (Nat × Nat × Nat × Nat)} (S : CallFix p m c cc nL s args Ts own) (hM : vx_Met l y ws rm Pc Qc XC mc ms free) (cw : vx_CSW R s args own index y bytes maxL ret hh ws rm mc ms n) (hp : PreS s H Pc As)
    (hg : g.method = m) (hn : As.length = n) (hsize : g.locals.size = nL) (hstack : g.stack = As.reverse ++ rest) (hW : 2 * g.monitorRoom + (rest.map fun v => v.category).sum ≤ 8) (hdg : decode cc g.pc = .ok (.invokestatic index, 3)) (hf : cells + mc ≤ R.cells ∧ slots + ms ≤ R.slots) :
    vx_Run p l e R s m args below meth c H locs cells slots mc ms g rest (Qc As.toArray) XC free := by
  obtain ⟨⟨hrc, hrs, hfr, hlo, hws, hcw⟩, hcode, hini, hy, hlen, hl, hstt⟩ := cw
  have hK : vx_Back l R p e below s args y 3 8 (PreOf R mc ms Pc) (PostOf Qc mc ms free) (vx_Post XC mc ms free) := vx_backW (hh := hh) (bytes := bytes) (maxL := maxL) (ret := ret) hM hp.1 hrc hrs hfr hlo hws hcw (fun a' U hW => word_at hW (Or.inl (by first | rfl | simp [Cond.onTables, Cond.keeps, Cond.steady])) hini)
  obtain ⟨hx, hb, hml, ho, -⟩ := S
  intro T hT X
  rcases vx_callSX X hx (hh := hh) (bytes := bytes) (maxL := maxL) (ret := ret) ho hl hstt hini hcode hy hK hg (hsize.trans hml.symm) (argsL := As) (rest := rest) (fun sig h => hn.trans (hlen sig h)) hstack hW (by rw [hb]; exact hdg)
    (fun vm₁ hW₁ => ⟨hf.1, hf.2, hp.2 (T.setVm vm₁) hT hW₁⟩) with ⟨v, vm₁, ⟨U', l2, c2, s2⟩, hW₁, X', ⟨g', mk, t, L, e1, e2, hq, h1, hL, h2, h3⟩, st⟩ | ⟨q, vm₁, ⟨U', l2, c2, s2⟩, hW₁, X', ⟨g', mk, t, L, E, ce, e1, e2, hq, hce, hcv, hcl, h1, hL, h2, h3⟩, st⟩
  · dsimp only [Pt.U, Pt.locs, Pt.cells, Pt.slots] at X' e1 e2 h1 h2 h3 st
    subst h1; subst h2; subst h3
    exact Or.inl ⟨v, (T.setVm vm₁).calling g' mk As.toArray, t, U', L, hT, X', hL, e1, e2, hq, st⟩
  · dsimp only [Pt.U, Pt.locs, Pt.cells, Pt.slots] at X' e1 e2 h1 h2 h3 st hcl
    subst h1; subst h2; subst h3
    exact Or.inr ⟨q, (T.setVm vm₁).calling g' mk As.toArray, t, U', L, E, ce, hT, X', hL, e1, e2, hq, hce, hcv, vx_cls hW₁ hcl, st⟩
end
end VXH
theorem vx_ofWH {l : Launch} {y : MethodName} {ws ws' : List Cond} {rm : Room} {Pc : Array Value → State → Prop} {Qc : Array Value → State → Outcome → State → Prop} {XC : String → State → State → Prop} {mc ms : Nat} {free : Addr → Prop} {cc : ByteArray} {maxL : Nat} {ret : Option FieldType} {hh : List (Nat × Nat × Nat × Nat)}
    (hy : plainName y.cls = true) (hw : ws = Cond.codeWith y cc maxL ret hh :: ws')
    (body : ∀ p e s m args below meth c s₁, BodyLoose p l y (headSpec ws rm) cc maxL ret e s m args below meth c s₁ → c.maxLocals = maxL → Pc args s →
      W p l e (headSpec ws rm).room s m args below meth c s.heap [] 0 0 (vx_MQ below Qc XC args s mc ms free) (entryFrame m args maxL)) : vx_Met l y ws rm Pc Qc XC mc ms free := by
  refine MetFree.of_bodyS (code := cc) (maxLocals := maxL) (ret := ret) hy ?_ ?_
  · intro args s m h hn
    obtain ⟨m9, meth, c, hn9, h1, h2, h3, h4, -, h5, h6, -⟩ := Cond.codeWith_spec (atoms_spec (ws := ws) h _ (by rw [hw]; exact List.mem_cons_self))
    cases hn.symm.trans hn9
    exact ⟨meth, c, h1, h2, h3, h4, h5, h6⟩
  · intro p e s m args below meth c s₁ B hml hP _
    have hh0 : s₁.heap = s.heap := by rw [B.state]; rfl
    obtain ⟨t, a1, o, b1, b2, b3⟩ := body p e s m args below meth c s₁ B hml hP s₁ hh0 (Stand.of_body B)
    exact ⟨t, o, a1, b1, b2, b3⟩
/-! ===== END ===== -/
end
section
def RX0 : String := "DeskPlanner$Change"
def TX0 : u_T := fun k => match k with
  | 0 => ("DeskPlanner$Change", "found", "Z", false)
  | 1 => ("DeskPlanner$Change", "team", "I", false)
  | 2 => ("DeskPlanner$Change", "other", "I", false)
  | 3 => ("DeskPlanner$Change", "zone", "I", false)
  | _ => ("DeskPlanner$Change", "cost", "I", false)
def tyX0 : Nat → FieldType := fun k => match k with
  | 0 => .boolean
  | 1 => .int
  | 2 => .int
  | 3 => .int
  | _ => .int
abbrev wsX00 : List Cond := u_ws RX0 TX0 5
theorem nmX0 : ∀ a, a < 5 → ∀ b, b < 5 → a ≠ b → (TX0 a).2.1 ≠ (TX0 b).2.1 := by decide +kernel
theorem tyX0_ok : ∀ k, k < 5 → parseFieldDescriptor (TX0 k).2.2.1 = some (tyX0 k) := by decide +kernel
abbrev cX0_init : ByteArray := prog_2_method_1_code
def yX0_init : MethodName := ⟨RX0, "<init>", "()V"⟩
abbrev cX0_keepIfLess : ByteArray := prog_2_method_2_code
def yX0_keepIfLess : MethodName := ⟨RX0, "keepIfLess", "(IIII)V"⟩
def RX1 : String := "DeskPlanner$Floor"
def TX1 : u_T := fun k => match k with
  | 0 => ("DeskPlanner$Floor", "walls", "[Z", true)
  | 1 => ("DeskPlanner$Floor", "zoneSquares", "[I", true)
  | 2 => ("DeskPlanner$Floor", "desks", "[I", true)
  | 3 => ("DeskPlanner$Floor", "distances", "[[I", true)
  | 4 => ("DeskPlanner$Floor", "steps", "[I", true)
  | 5 => ("DeskPlanner$Floor", "reached", "[I", true)
  | 6 => ("DeskPlanner$Floor", "reachedCount", "I", false)
  | _ => ("DeskPlanner$Floor", "zoneCount", "I", false)
def tyX1 : Nat → FieldType := fun k => match k with
  | 0 => .array .boolean
  | 1 => .array .int
  | 2 => .array .int
  | 3 => .array (.array .int)
  | 4 => .array .int
  | 5 => .array .int
  | 6 => .int
  | _ => .int
abbrev wsX10 : List Cond := u_ws RX1 TX1 8
theorem nmX1 : ∀ a, a < 8 → ∀ b, b < 8 → a ≠ b → (TX1 a).2.1 ≠ (TX1 b).2.1 := by decide +kernel
theorem tyX1_ok : ∀ k, k < 8 → parseFieldDescriptor (TX1 k).2.2.1 = some (tyX1 k) := by decide +kernel
abbrev cX1_init : ByteArray := prog_3_method_1_code
def yX1_init : MethodName := ⟨RX1, "<init>", "()V"⟩
abbrev cX1_isSquare : ByteArray := prog_3_method_2_code
def yX1_isSquare : MethodName := ⟨RX1, "isSquare", "(II)Z"⟩
abbrev cX1_squareAt : ByteArray := prog_3_method_3_code
def yX1_squareAt : MethodName := ⟨RX1, "squareAt", "(II)I"⟩
abbrev cX1_hasWall : ByteArray := prog_3_method_4_code
def yX1_hasWall : MethodName := ⟨RX1, "hasWall", "(II)Z"⟩
abbrev cX1_hasZone : ByteArray := prog_3_method_5_code
def yX1_hasZone : MethodName := ⟨RX1, "hasZone", "(II)Z"⟩
abbrev cX1_buildWall : ByteArray := prog_3_method_6_code
def yX1_buildWall : MethodName := ⟨RX1, "buildWall", "(IIZ)Z"⟩
abbrev cX1_openZone : ByteArray := prog_3_method_7_code
def yX1_openZone : MethodName := ⟨RX1, "openZone", "(III)I"⟩
abbrev cX1_measureAll : ByteArray := prog_3_method_8_code
def yX1_measureAll : MethodName := ⟨RX1, "measureAll", "()V"⟩
abbrev cX1_measureFrom : ByteArray := prog_3_method_9_code
def yX1_measureFrom : MethodName := ⟨RX1, "measureFrom", "(I)V"⟩
abbrev cX1_reach : ByteArray := prog_3_method_10_code
def yX1_reach : MethodName := ⟨RX1, "reach", "(III)V"⟩
def RX2 : String := "DeskPlanner$FullSearch"
def TX2 : u_T := fun k => match k with
  | 0 => ("DeskPlanner$FullSearch", "trial", "LDeskPlanner$Placement;", true)
  | 1 => ("DeskPlanner$FullSearch", "best", "LDeskPlanner$Placement;", true)
  | 2 => ("DeskPlanner$FullSearch", "taken", "[Z", true)
  | 3 => ("DeskPlanner$FullSearch", "withTies", "Z", false)
  | _ => ("DeskPlanner$FullSearch", "least", "I", false)
def tyX2 : Nat → FieldType := fun k => match k with
  | 0 => .object "DeskPlanner$Placement"
  | 1 => .object "DeskPlanner$Placement"
  | 2 => .array .boolean
  | 3 => .boolean
  | _ => .int
abbrev wsX20 : List Cond := u_ws RX2 TX2 5
theorem nmX2 : ∀ a, a < 5 → ∀ b, b < 5 → a ≠ b → (TX2 a).2.1 ≠ (TX2 b).2.1 := by decide +kernel
theorem tyX2_ok : ∀ k, k < 5 → parseFieldDescriptor (TX2 k).2.2.1 = some (tyX2 k) := by decide +kernel
abbrev cX2_init : ByteArray := prog_4_method_1_code
def yX2_init : MethodName := ⟨RX2, "<init>", "()V"⟩
abbrev cX2_findLeast : ByteArray := prog_4_method_2_code
def yX2_findLeast : MethodName := ⟨RX2, "findLeast", "(LDeskPlanner$Office;Z)I"⟩
abbrev cX2_tryFrom : ByteArray := prog_4_method_3_code
def yX2_tryFrom : MethodName := ⟨RX2, "tryFrom", "(LDeskPlanner$Office;II)V"⟩
abbrev cX2_tryAt : ByteArray := prog_4_method_4_code
def yX2_tryAt : MethodName := ⟨RX2, "tryAt", "(LDeskPlanner$Office;III)V"⟩
def RX3 : String := "DeskPlanner$Office"
def TX3 : u_T := fun k => match k with
  | 0 => ("DeskPlanner$Office", "floor", "LDeskPlanner$Floor;", true)
  | _ => ("DeskPlanner$Office", "staff", "LDeskPlanner$Staff;", true)
def tyX3 : Nat → FieldType := fun k => match k with
  | 0 => .object "DeskPlanner$Floor"
  | _ => .object "DeskPlanner$Staff"
abbrev wsX30 : List Cond := u_ws RX3 TX3 2
theorem nmX3 : ∀ a, a < 2 → ∀ b, b < 2 → a ≠ b → (TX3 a).2.1 ≠ (TX3 b).2.1 := by decide +kernel
theorem tyX3_ok : ∀ k, k < 2 → parseFieldDescriptor (TX3 k).2.2.1 = some (tyX3 k) := by decide +kernel
abbrev cX3_init : ByteArray := prog_5_method_1_code
def yX3_init : MethodName := ⟨RX3, "<init>", "()V"⟩
abbrev cX3_fits : ByteArray := prog_5_method_2_code
def yX3_fits : MethodName := ⟨RX3, "fits", "(II)Z"⟩
abbrev cX3_costOf : ByteArray := prog_5_method_3_code
def yX3_costOf : MethodName := ⟨RX3, "costOf", "(LDeskPlanner$Placement;)I"⟩
abbrev cX3_wishCostOf : ByteArray := prog_5_method_4_code
def yX3_wishCostOf : MethodName := ⟨RX3, "wishCostOf", "(LDeskPlanner$Placement;)I"⟩
abbrev cX3_tieCostToLower : ByteArray := prog_5_method_5_code
def yX3_tieCostToLower : MethodName := ⟨RX3, "tieCostToLower", "(LDeskPlanner$Placement;I)I"⟩
def RX4 : String := "DeskPlanner$Placement"
def TX4 : u_T := fun k => match k with
  | _ => ("DeskPlanner$Placement", "zoneByTeam", "[I", true)
def tyX4 : Nat → FieldType := fun k => match k with
  | _ => .array .int
abbrev wsX40 : List Cond := u_ws RX4 TX4 1
theorem nmX4 : ∀ a, a < 1 → ∀ b, b < 1 → a ≠ b → (TX4 a).2.1 ≠ (TX4 b).2.1 := by decide +kernel
theorem tyX4_ok : ∀ k, k < 1 → parseFieldDescriptor (TX4 k).2.2.1 = some (tyX4 k) := by decide +kernel
abbrev cX4_init : ByteArray := prog_6_method_1_code
def yX4_init : MethodName := ⟨RX4, "<init>", "()V"⟩
abbrev cX4_zoneWith : ByteArray := prog_6_method_2_code
def yX4_zoneWith : MethodName := ⟨RX4, "zoneWith", "(I)I"⟩
abbrev cX4_teamAt : ByteArray := prog_6_method_3_code
def yX4_teamAt : MethodName := ⟨RX4, "teamAt", "(I)I"⟩
abbrev cX4_lay : ByteArray := prog_6_method_4_code
def yX4_lay : MethodName := ⟨RX4, "lay", "(II)V"⟩
abbrev cX4_exchange : ByteArray := prog_6_method_5_code
def yX4_exchange : MethodName := ⟨RX4, "exchange", "(II)V"⟩
abbrev cX4_layLike : ByteArray := prog_6_method_6_code
def yX4_layLike : MethodName := ⟨RX4, "layLike", "(LDeskPlanner$Placement;)V"⟩
abbrev cX4_countPlaced : ByteArray := prog_6_method_7_code
def yX4_countPlaced : MethodName := ⟨RX4, "countPlaced", "()I"⟩
abbrev cX4_countOtherwise : ByteArray := prog_6_method_8_code
def yX4_countOtherwise : MethodName := ⟨RX4, "countOtherwise", "(LDeskPlanner$Placement;)I"⟩
def RX5 : String := "DeskPlanner$Staff"
def TX5 : u_T := fun k => match k with
  | 0 => ("DeskPlanner$Staff", "present", "[[I", true)
  | 1 => ("DeskPlanner$Staff", "needs", "[I", true)
  | 2 => ("DeskPlanner$Staff", "wishes", "[[I", true)
  | 3 => ("DeskPlanner$Staff", "ties", "[[I", true)
  | _ => ("DeskPlanner$Staff", "teamCount", "I", false)
def tyX5 : Nat → FieldType := fun k => match k with
  | 0 => .array (.array .int)
  | 1 => .array .int
  | 2 => .array (.array .int)
  | 3 => .array (.array .int)
  | _ => .int
abbrev wsX50 : List Cond := u_ws RX5 TX5 5
theorem nmX5 : ∀ a, a < 5 → ∀ b, b < 5 → a ≠ b → (TX5 a).2.1 ≠ (TX5 b).2.1 := by decide +kernel
theorem tyX5_ok : ∀ k, k < 5 → parseFieldDescriptor (TX5 k).2.2.1 = some (tyX5 k) := by decide +kernel
abbrev cX5_init : ByteArray := prog_7_method_1_code
def yX5_init : MethodName := ⟨RX5, "<init>", "()V"⟩
abbrev cX5_enter : ByteArray := prog_7_method_2_code
def yX5_enter : MethodName := ⟨RX5, "enter", "()I"⟩
abbrev cX5_needWith : ByteArray := prog_7_method_3_code
def yX5_needWith : MethodName := ⟨RX5, "needWith", "(III)I"⟩
abbrev cX5_changePresent : ByteArray := prog_7_method_4_code
def yX5_changePresent : MethodName := ⟨RX5, "changePresent", "(III)I"⟩
abbrev cX5_changeTie : ByteArray := prog_7_method_5_code
def yX5_changeTie : MethodName := ⟨RX5, "changeTie", "(III)I"⟩
abbrev cX5_shareOf : ByteArray := prog_7_method_6_code
def yX5_shareOf : MethodName := ⟨RX5, "shareOf", "(I)I"⟩
def RX6 : String := "DeskPlanner$StepSearch"
def TX6 : u_T := fun k => match k with
  | 0 => ("DeskPlanner$StepSearch", "trial", "LDeskPlanner$Placement;", true)
  | 1 => ("DeskPlanner$StepSearch", "best", "LDeskPlanner$Placement;", true)
  | 2 => ("DeskPlanner$StepSearch", "restedAt", "[I", true)
  | _ => ("DeskPlanner$StepSearch", "change", "LDeskPlanner$Change;", true)
def tyX6 : Nat → FieldType := fun k => match k with
  | 0 => .object "DeskPlanner$Placement"
  | 1 => .object "DeskPlanner$Placement"
  | 2 => .array .int
  | _ => .object "DeskPlanner$Change"
abbrev wsX60 : List Cond := u_ws RX6 TX6 4
theorem nmX6 : ∀ a, a < 4 → ∀ b, b < 4 → a ≠ b → (TX6 a).2.1 ≠ (TX6 b).2.1 := by decide +kernel
theorem tyX6_ok : ∀ k, k < 4 → parseFieldDescriptor (TX6 k).2.2.1 = some (tyX6 k) := by decide +kernel
abbrev cX6_init : ByteArray := prog_8_method_1_code
def yX6_init : MethodName := ⟨RX6, "<init>", "()V"⟩
abbrev cX6_run : ByteArray := prog_8_method_2_code
def yX6_run : MethodName := ⟨RX6, "run", "(LDeskPlanner$Office;LDeskPlanner$Placement;II)I"⟩
abbrev cX6_chooseChange : ByteArray := prog_8_method_3_code
def yX6_chooseChange : MethodName := ⟨RX6, "chooseChange", "(LDeskPlanner$Office;I)V"⟩
abbrev cX6_weighExchange : ByteArray := prog_8_method_4_code
def yX6_weighExchange : MethodName := ⟨RX6, "weighExchange", "(LDeskPlanner$Office;II)V"⟩
abbrev cX6_weighMove : ByteArray := prog_8_method_5_code
def yX6_weighMove : MethodName := ⟨RX6, "weighMove", "(LDeskPlanner$Office;II)V"⟩
abbrev cX6_makeChange : ByteArray := prog_8_method_6_code
def yX6_makeChange : MethodName := ⟨RX6, "makeChange", "(I)V"⟩
def RX7 : String := "DeskPlanner"
def TX7 : u_T := fun k => match k with
  | 0 => ("DeskPlanner", "office", "LDeskPlanner$Office;", true)
  | 1 => ("DeskPlanner", "placed", "LDeskPlanner$Placement;", true)
  | 2 => ("DeskPlanner", "remembered", "LDeskPlanner$Placement;", true)
  | 3 => ("DeskPlanner", "fullSearch", "LDeskPlanner$FullSearch;", true)
  | _ => ("DeskPlanner", "stepSearch", "LDeskPlanner$StepSearch;", true)
def tyX7 : Nat → FieldType := fun k => match k with
  | 0 => .object "DeskPlanner$Office"
  | 1 => .object "DeskPlanner$Placement"
  | 2 => .object "DeskPlanner$Placement"
  | 3 => .object "DeskPlanner$FullSearch"
  | _ => .object "DeskPlanner$StepSearch"
abbrev wsX70 : List Cond := u_ws RX7 TX7 5
theorem nmX7 : ∀ a, a < 5 → ∀ b, b < 5 → a ≠ b → (TX7 a).2.1 ≠ (TX7 b).2.1 := by decide +kernel
theorem tyX7_ok : ∀ k, k < 5 → parseFieldDescriptor (TX7 k).2.2.1 = some (tyX7 k) := by decide +kernel
abbrev cX7_init : ByteArray := prog_1_method_1_code
def yX7_init : MethodName := ⟨RX7, "<init>", "()V"⟩
abbrev cX7_setWall : ByteArray := prog_1_method_2_code
def yX7_setWall : MethodName := ⟨RX7, "setWall", "(IIZ)Z"⟩
abbrev cX7_addZone : ByteArray := prog_1_method_3_code
def yX7_addZone : MethodName := ⟨RX7, "addZone", "(III)I"⟩
abbrev cX7_setDesks : ByteArray := prog_1_method_4_code
def yX7_setDesks : MethodName := ⟨RX7, "setDesks", "(II)I"⟩
abbrev cX7_addTeam : ByteArray := prog_1_method_5_code
def yX7_addTeam : MethodName := ⟨RX7, "addTeam", "()I"⟩
abbrev cX7_setPresent : ByteArray := prog_1_method_6_code
def yX7_setPresent : MethodName := ⟨RX7, "setPresent", "(III)I"⟩
abbrev cX7_setWish : ByteArray := prog_1_method_7_code
def yX7_setWish : MethodName := ⟨RX7, "setWish", "(III)I"⟩
abbrev cX7_setTie : ByteArray := prog_1_method_8_code
def yX7_setTie : MethodName := ⟨RX7, "setTie", "(III)I"⟩
abbrev cX7_place : ByteArray := prog_1_method_9_code
def yX7_place : MethodName := ⟨RX7, "place", "(II)I"⟩
abbrev cX7_placeByWishes : ByteArray := prog_1_method_10_code
def yX7_placeByWishes : MethodName := ⟨RX7, "placeByWishes", "()I"⟩
abbrev cX7_placeBest : ByteArray := prog_1_method_11_code
def yX7_placeBest : MethodName := ⟨RX7, "placeBest", "()I"⟩
abbrev cX7_search : ByteArray := prog_1_method_12_code
def yX7_search : MethodName := ⟨RX7, "search", "(II)I"⟩
abbrev cX7_remember : ByteArray := prog_1_method_13_code
def yX7_remember : MethodName := ⟨RX7, "remember", "()I"⟩
abbrev cX7_recall : ByteArray := prog_1_method_14_code
def yX7_recall : MethodName := ⟨RX7, "recall", "()I"⟩
abbrev cX7_zones : ByteArray := prog_1_method_15_code
def yX7_zones : MethodName := ⟨RX7, "zones", "()I"⟩
abbrev cX7_teams : ByteArray := prog_1_method_16_code
def yX7_teams : MethodName := ⟨RX7, "teams", "()I"⟩
abbrev cX7_need : ByteArray := prog_1_method_17_code
def yX7_need : MethodName := ⟨RX7, "need", "(I)I"⟩
abbrev cX7_share : ByteArray := prog_1_method_18_code
def yX7_share : MethodName := ⟨RX7, "share", "(I)I"⟩
abbrev cX7_zoneOf : ByteArray := prog_1_method_19_code
def yX7_zoneOf : MethodName := ⟨RX7, "zoneOf", "(I)I"⟩
abbrev cX7_teamIn : ByteArray := prog_1_method_20_code
def yX7_teamIn : MethodName := ⟨RX7, "teamIn", "(I)I"⟩
abbrev cX7_free : ByteArray := prog_1_method_21_code
def yX7_free : MethodName := ⟨RX7, "free", "(II)I"⟩
abbrev cX7_distance : ByteArray := prog_1_method_22_code
def yX7_distance : MethodName := ⟨RX7, "distance", "(II)I"⟩
abbrev cX7_wishCost : ByteArray := prog_1_method_23_code
def yX7_wishCost : MethodName := ⟨RX7, "wishCost", "()I"⟩
abbrev cX7_cost : ByteArray := prog_1_method_24_code
def yX7_cost : MethodName := ⟨RX7, "cost", "()I"⟩
abbrev cX7_leastWishCost : ByteArray := prog_1_method_25_code
def yX7_leastWishCost : MethodName := ⟨RX7, "leastWishCost", "()I"⟩
abbrev cX7_circles : ByteArray := prog_1_method_26_code
def yX7_circles : MethodName := ⟨RX7, "circles", "()I"⟩
abbrev cX7_moves : ByteArray := prog_1_method_27_code
def yX7_moves : MethodName := ⟨RX7, "moves", "()I"⟩
abbrev cX7_requireSquare : ByteArray := prog_1_method_28_code
def yX7_requireSquare : MethodName := ⟨RX7, "requireSquare", "(II)V"⟩
abbrev cX7_requireZone : ByteArray := prog_1_method_29_code
def yX7_requireZone : MethodName := ⟨RX7, "requireZone", "(I)V"⟩
abbrev cX7_requireTeam : ByteArray := prog_1_method_30_code
def yX7_requireTeam : MethodName := ⟨RX7, "requireTeam", "(I)V"⟩
abbrev cX7_requireDay : ByteArray := prog_1_method_31_code
def yX7_requireDay : MethodName := ⟨RX7, "requireDay", "(I)V"⟩
abbrev cX7_requireRange : ByteArray := prog_1_method_32_code
def yX7_requireRange : MethodName := ⟨RX7, "requireRange", "(III)V"⟩
abbrev cX7_requireRoom : ByteArray := prog_1_method_33_code
def yX7_requireRoom : MethodName := ⟨RX7, "requireRoom", "(II)V"⟩
abbrev cX7_layLeast : ByteArray := prog_1_method_34_code
def yX7_layLeast : MethodName := ⟨RX7, "layLeast", "(Z)I"⟩
abbrev cX7_isLowestOfCircle : ByteArray := prog_1_method_35_code
def yX7_isLowestOfCircle : MethodName := ⟨RX7, "isLowestOfCircle", "(I)Z"⟩
abbrev cX7_teamInTheWayOf : ByteArray := prog_1_method_36_code
def yX7_teamInTheWayOf : MethodName := ⟨RX7, "teamInTheWayOf", "(I)I"⟩
def RX8 : String := "DeskPlannerModel"
def TX8 : u_T := fun k => match k with
  | 0 => ("DeskPlannerModel", "wall", "[Z", true)
  | 1 => ("DeskPlannerModel", "zones", "I", false)
  | 2 => ("DeskPlannerModel", "square", "[I", true)
  | 3 => ("DeskPlannerModel", "desks", "[I", true)
  | 4 => ("DeskPlannerModel", "teams", "I", false)
  | 5 => ("DeskPlannerModel", "present", "[I", true)
  | 6 => ("DeskPlannerModel", "wish", "[I", true)
  | 7 => ("DeskPlannerModel", "tie", "[I", true)
  | 8 => ("DeskPlannerModel", "zone", "[I", true)
  | 9 => ("DeskPlannerModel", "kept", "[I", true)
  | 10 => ("DeskPlannerModel", "ways", "[I", true)
  | 11 => ("DeskPlannerModel", "steps", "[I", true)
  | 12 => ("DeskPlannerModel", "trial", "[I", true)
  | 13 => ("DeskPlannerModel", "best", "[I", true)
  | 14 => ("DeskPlannerModel", "changed", "[I", true)
  | _ => ("DeskPlannerModel", "thrown", "I", false)
def tyX8 : Nat → FieldType := fun k => match k with
  | 0 => .array .boolean
  | 1 => .int
  | 2 => .array .int
  | 3 => .array .int
  | 4 => .int
  | 5 => .array .int
  | 6 => .array .int
  | 7 => .array .int
  | 8 => .array .int
  | 9 => .array .int
  | 10 => .array .int
  | 11 => .array .int
  | 12 => .array .int
  | 13 => .array .int
  | 14 => .array .int
  | _ => .int
abbrev wsX80 : List Cond := u_ws RX8 TX8 16
theorem nmX8 : ∀ a, a < 16 → ∀ b, b < 16 → a ≠ b → (TX8 a).2.1 ≠ (TX8 b).2.1 := by decide +kernel
theorem tyX8_ok : ∀ k, k < 16 → parseFieldDescriptor (TX8 k).2.2.1 = some (tyX8 k) := by decide +kernel
abbrev cX8_init : ByteArray := prog_10_method_1_code
def yX8_init : MethodName := ⟨RX8, "<init>", "()V"⟩
abbrev cX8_thrown : ByteArray := prog_10_method_2_code
def yX8_thrown : MethodName := ⟨RX8, "thrown", "()I"⟩
abbrev cX8_in : ByteArray := prog_10_method_3_code
def yX8_in : MethodName := ⟨RX8, "in", "(III)Z"⟩
abbrev cX8_asked : ByteArray := prog_10_method_4_code
def yX8_asked : MethodName := ⟨RX8, "asked", "(Z)Z"⟩
abbrev cX8_asked_ : ByteArray := prog_10_method_5_code
def yX8_asked_ : MethodName := ⟨RX8, "asked", "(ZZ)Z"⟩
abbrev cX8_asked__ : ByteArray := prog_10_method_6_code
def yX8_asked__ : MethodName := ⟨RX8, "asked", "(ZZZ)Z"⟩
abbrev cX8_told : ByteArray := prog_10_method_7_code
def yX8_told : MethodName := ⟨RX8, "told", "(I)I"⟩
abbrev cX8_isSquare : ByteArray := prog_10_method_8_code
def yX8_isSquare : MethodName := ⟨RX8, "isSquare", "(II)Z"⟩
abbrev cX8_isZone : ByteArray := prog_10_method_9_code
def yX8_isZone : MethodName := ⟨RX8, "isZone", "(I)Z"⟩
abbrev cX8_isTeam : ByteArray := prog_10_method_10_code
def yX8_isTeam : MethodName := ⟨RX8, "isTeam", "(I)Z"⟩
abbrev cX8_hasZone : ByteArray := prog_10_method_11_code
def yX8_hasZone : MethodName := ⟨RX8, "hasZone", "(I)Z"⟩
abbrev cX8_inZone : ByteArray := prog_10_method_12_code
def yX8_inZone : MethodName := ⟨RX8, "inZone", "(I)I"⟩
abbrev cX8_needOf : ByteArray := prog_10_method_13_code
def yX8_needOf : MethodName := ⟨RX8, "needOf", "(I)I"⟩
abbrev cX8_fits : ByteArray := prog_10_method_14_code
def yX8_fits : MethodName := ⟨RX8, "fits", "(II)Z"⟩
abbrev cX8_setWall : ByteArray := prog_10_method_15_code
def yX8_setWall : MethodName := ⟨RX8, "setWall", "(IIZ)Z"⟩
abbrev cX8_addZone : ByteArray := prog_10_method_16_code
def yX8_addZone : MethodName := ⟨RX8, "addZone", "(III)I"⟩
abbrev cX8_setDesks : ByteArray := prog_10_method_17_code
def yX8_setDesks : MethodName := ⟨RX8, "setDesks", "(II)I"⟩
abbrev cX8_addTeam : ByteArray := prog_10_method_18_code
def yX8_addTeam : MethodName := ⟨RX8, "addTeam", "()I"⟩
abbrev cX8_setPresent : ByteArray := prog_10_method_19_code
def yX8_setPresent : MethodName := ⟨RX8, "setPresent", "(III)I"⟩
abbrev cX8_setWish : ByteArray := prog_10_method_20_code
def yX8_setWish : MethodName := ⟨RX8, "setWish", "(III)I"⟩
abbrev cX8_setTie : ByteArray := prog_10_method_21_code
def yX8_setTie : MethodName := ⟨RX8, "setTie", "(III)I"⟩
abbrev cX8_walks : ByteArray := prog_10_method_22_code
def yX8_walks : MethodName := ⟨RX8, "walks", "(I)V"⟩
abbrev cX8_goes : ByteArray := prog_10_method_23_code
def yX8_goes : MethodName := ⟨RX8, "goes", "(III)V"⟩
abbrev cX8_findsWays : ByteArray := prog_10_method_24_code
def yX8_findsWays : MethodName := ⟨RX8, "findsWays", "()V"⟩
abbrev cX8_wishOf : ByteArray := prog_10_method_25_code
def yX8_wishOf : MethodName := ⟨RX8, "wishOf", "([I)I"⟩
abbrev cX8_costOf : ByteArray := prog_10_method_26_code
def yX8_costOf : MethodName := ⟨RX8, "costOf", "([I)I"⟩
abbrev cX8_nextZone : ByteArray := prog_10_method_27_code
def yX8_nextZone : MethodName := ⟨RX8, "nextZone", "(I)I"⟩
abbrev cX8_tries : ByteArray := prog_10_method_28_code
def yX8_tries : MethodName := ⟨RX8, "tries", "(Z)I"⟩
abbrev cX8_place : ByteArray := prog_10_method_29_code
def yX8_place : MethodName := ⟨RX8, "place", "(II)I"⟩
abbrev cX8_lays : ByteArray := prog_10_method_30_code
def yX8_lays : MethodName := ⟨RX8, "lays", "(Z)I"⟩
abbrev cX8_placeByWishes : ByteArray := prog_10_method_31_code
def yX8_placeByWishes : MethodName := ⟨RX8, "placeByWishes", "()I"⟩
abbrev cX8_placeBest : ByteArray := prog_10_method_32_code
def yX8_placeBest : MethodName := ⟨RX8, "placeBest", "()I"⟩
abbrev cX8_isPlaced : ByteArray := prog_10_method_33_code
def yX8_isPlaced : MethodName := ⟨RX8, "isPlaced", "()Z"⟩
abbrev cX8_costBehind : ByteArray := prog_10_method_34_code
def yX8_costBehind : MethodName := ⟨RX8, "costBehind", "(IIIII)I"⟩
abbrev cX8_search : ByteArray := prog_10_method_35_code
def yX8_search : MethodName := ⟨RX8, "search", "(II)I"⟩
abbrev cX8_remember : ByteArray := prog_10_method_36_code
def yX8_remember : MethodName := ⟨RX8, "remember", "()I"⟩
abbrev cX8_recall : ByteArray := prog_10_method_37_code
def yX8_recall : MethodName := ⟨RX8, "recall", "()I"⟩
abbrev cX8_zones : ByteArray := prog_10_method_38_code
def yX8_zones : MethodName := ⟨RX8, "zones", "()I"⟩
abbrev cX8_teams : ByteArray := prog_10_method_39_code
def yX8_teams : MethodName := ⟨RX8, "teams", "()I"⟩
abbrev cX8_need : ByteArray := prog_10_method_40_code
def yX8_need : MethodName := ⟨RX8, "need", "(I)I"⟩
abbrev cX8_share : ByteArray := prog_10_method_41_code
def yX8_share : MethodName := ⟨RX8, "share", "(I)I"⟩
abbrev cX8_zoneOf : ByteArray := prog_10_method_42_code
def yX8_zoneOf : MethodName := ⟨RX8, "zoneOf", "(I)I"⟩
abbrev cX8_teamIn : ByteArray := prog_10_method_43_code
def yX8_teamIn : MethodName := ⟨RX8, "teamIn", "(I)I"⟩
abbrev cX8_free : ByteArray := prog_10_method_44_code
def yX8_free : MethodName := ⟨RX8, "free", "(II)I"⟩
abbrev cX8_distance : ByteArray := prog_10_method_45_code
def yX8_distance : MethodName := ⟨RX8, "distance", "(II)I"⟩
abbrev cX8_wishCost : ByteArray := prog_10_method_46_code
def yX8_wishCost : MethodName := ⟨RX8, "wishCost", "()I"⟩
abbrev cX8_cost : ByteArray := prog_10_method_47_code
def yX8_cost : MethodName := ⟨RX8, "cost", "()I"⟩
abbrev cX8_leastWishCost : ByteArray := prog_10_method_48_code
def yX8_leastWishCost : MethodName := ⟨RX8, "leastWishCost", "()I"⟩
abbrev cX8_circlesNow : ByteArray := prog_10_method_49_code
def yX8_circlesNow : MethodName := ⟨RX8, "circlesNow", "()I"⟩
abbrev cX8_circles : ByteArray := prog_10_method_50_code
def yX8_circles : MethodName := ⟨RX8, "circles", "()I"⟩
abbrev cX8_moves : ByteArray := prog_10_method_51_code
def yX8_moves : MethodName := ⟨RX8, "moves", "()I"⟩
def RJx145de : String := "java/io/Serializable"
def TJx145de : u_T := fun k => match k with
  | _ => ("", "", "", false)
def tyJx145de : Nat → FieldType := fun k => match k with
  | _ => .int
abbrev wsJx145de0 : List Cond := u_ws RJx145de TJx145de 0
theorem nmJx145de : ∀ a, a < 0 → ∀ b, b < 0 → a ≠ b → (TJx145de a).2.1 ≠ (TJx145de b).2.1 := by decide +kernel
theorem tyJx145de_ok : ∀ k, k < 0 → parseFieldDescriptor (TJx145de k).2.2.1 = some (tyJx145de k) := by decide +kernel
def RJ9 : String := "java/lang/Math"
def TJ9 : u_T := fun k => match k with
  | _ => ("", "", "", false)
def tyJ9 : Nat → FieldType := fun k => match k with
  | _ => .int
abbrev wsJ90 : List Cond := u_ws RJ9 TJ9 0
theorem nmJ9 : ∀ a, a < 0 → ∀ b, b < 0 → a ≠ b → (TJ9 a).2.1 ≠ (TJ9 b).2.1 := by decide +kernel
theorem tyJ9_ok : ∀ k, k < 0 → parseFieldDescriptor (TJ9 k).2.2.1 = some (tyJ9 k) := by decide +kernel
abbrev cJ9_max_7cf53 : ByteArray := prog_15_method_65_code
def yJ9_max_7cf53 : MethodName := ⟨RJ9, "max", "(II)I"⟩
def RJ0 : String := "java/lang/String"
def TJ0 : u_T := fun k => match k with
  | _ => ("", "", "", false)
def tyJ0 : Nat → FieldType := fun k => match k with
  | _ => .int
abbrev wsJ00 : List Cond := u_ws RJ0 TJ0 0
theorem nmJ0 : ∀ a, a < 0 → ∀ b, b < 0 → a ≠ b → (TJ0 a).2.1 ≠ (TJ0 b).2.1 := by decide +kernel
theorem tyJ0_ok : ∀ k, k < 0 → parseFieldDescriptor (TJ0 k).2.2.1 = some (tyJ0 k) := by decide +kernel
def RJ10 : String := "java/lang/System"
def TJ10 : u_T := fun k => match k with
  | _ => ("", "", "", false)
def tyJ10 : Nat → FieldType := fun k => match k with
  | _ => .int
abbrev wsJ100 : List Cond := u_ws RJ10 TJ10 0
theorem nmJ10 : ∀ a, a < 0 → ∀ b, b < 0 → a ≠ b → (TJ10 a).2.1 ≠ (TJ10 b).2.1 := by decide +kernel
theorem tyJ10_ok : ∀ k, k < 0 → parseFieldDescriptor (TJ10 k).2.2.1 = some (tyJ10 k) := by decide +kernel
def RJ7 : String := "java/util/Arrays"
def TJ7 : u_T := fun k => match k with
  | _ => ("", "", "", false)
def tyJ7 : Nat → FieldType := fun k => match k with
  | _ => .int
abbrev wsJ70 : List Cond := u_ws RJ7 TJ7 0
theorem nmJ7 : ∀ a, a < 0 → ∀ b, b < 0 → a ≠ b → (TJ7 a).2.1 ≠ (TJ7 b).2.1 := by decide +kernel
theorem tyJ7_ok : ∀ k, k < 0 → parseFieldDescriptor (TJ7 k).2.2.1 = some (tyJ7 k) := by decide +kernel
abbrev cJ7_fill_53178 : ByteArray := prog_20_method_103_code
def yJ7_fill_53178 : MethodName := ⟨RJ7, "fill", "([II)V"⟩
def RL : String := "DeskPlannerLaw"
abbrev cL_setWall : ByteArray := method_3_code
def yL_setWall : MethodName := ⟨RL, "setWall", "(LDeskPlanner;IIZ[J)I"⟩
abbrev cL_addZone : ByteArray := method_4_code
def yL_addZone : MethodName := ⟨RL, "addZone", "(LDeskPlanner;III[J)I"⟩
abbrev cL_setDesks : ByteArray := method_5_code
def yL_setDesks : MethodName := ⟨RL, "setDesks", "(LDeskPlanner;II[J)I"⟩
abbrev cL_addTeam : ByteArray := method_6_code
def yL_addTeam : MethodName := ⟨RL, "addTeam", "(LDeskPlanner;[J)I"⟩
abbrev cL_setPresent : ByteArray := method_7_code
def yL_setPresent : MethodName := ⟨RL, "setPresent", "(LDeskPlanner;III[J)I"⟩
abbrev cL_setWish : ByteArray := method_8_code
def yL_setWish : MethodName := ⟨RL, "setWish", "(LDeskPlanner;III[J)I"⟩
abbrev cL_setTie : ByteArray := method_9_code
def yL_setTie : MethodName := ⟨RL, "setTie", "(LDeskPlanner;III[J)I"⟩
abbrev cL_place : ByteArray := method_10_code
def yL_place : MethodName := ⟨RL, "place", "(LDeskPlanner;II[J)I"⟩
abbrev cL_placeByWishes : ByteArray := method_11_code
def yL_placeByWishes : MethodName := ⟨RL, "placeByWishes", "(LDeskPlanner;[J)I"⟩
abbrev cL_placeBest : ByteArray := method_12_code
def yL_placeBest : MethodName := ⟨RL, "placeBest", "(LDeskPlanner;[J)I"⟩
abbrev cL_search : ByteArray := method_13_code
def yL_search : MethodName := ⟨RL, "search", "(LDeskPlanner;II[J)I"⟩
abbrev cL_recall : ByteArray := method_14_code
def yL_recall : MethodName := ⟨RL, "recall", "(LDeskPlanner;[J)I"⟩
abbrev cL_need : ByteArray := method_15_code
def yL_need : MethodName := ⟨RL, "need", "(LDeskPlanner;I[J)I"⟩
abbrev cL_share : ByteArray := method_16_code
def yL_share : MethodName := ⟨RL, "share", "(LDeskPlanner;I[J)I"⟩
abbrev cL_zoneOf : ByteArray := method_17_code
def yL_zoneOf : MethodName := ⟨RL, "zoneOf", "(LDeskPlanner;I[J)I"⟩
abbrev cL_teamIn : ByteArray := method_18_code
def yL_teamIn : MethodName := ⟨RL, "teamIn", "(LDeskPlanner;I[J)I"⟩
abbrev cL_free : ByteArray := method_19_code
def yL_free : MethodName := ⟨RL, "free", "(LDeskPlanner;II[J)I"⟩
abbrev cL_distance : ByteArray := method_20_code
def yL_distance : MethodName := ⟨RL, "distance", "(LDeskPlanner;II[J)I"⟩
abbrev cL_law : ByteArray := code
def yL_law : MethodName := ⟨RL, "law", "([I)Z"⟩
abbrev vwCl : List vw_C := [(RX0, TX0, 5), (RX1, TX1, 8), (RX2, TX2, 5), (RX3, TX3, 2), (RX4, TX4, 1), (RX5, TX5, 5), (RX6, TX6, 4), (RX7, TX7, 5), (RX8, TX8, 16)]
end
section
theorem dJ7_fill_53178_0 : decode cJ7_fill_53178 0 = .ok (.iconst 0, 1) := by decide +kernel
theorem dJ7_fill_53178_1 : decode cJ7_fill_53178 1 = .ok (.istore_n 2, 1) := by decide +kernel
theorem dJ7_fill_53178_2 : decode cJ7_fill_53178 2 = .ok (.aload_n 0, 1) := by decide +kernel
theorem dJ7_fill_53178_3 : decode cJ7_fill_53178 3 = .ok (.arraylength, 1) := by decide +kernel
theorem dJ7_fill_53178_4 : decode cJ7_fill_53178 4 = .ok (.istore_n 3, 1) := by decide +kernel
theorem dJ7_fill_53178_5 : decode cJ7_fill_53178 5 = .ok (.iload_n 2, 1) := by decide +kernel
theorem dJ7_fill_53178_6 : decode cJ7_fill_53178 6 = .ok (.iload_n 3, 1) := by decide +kernel
theorem dJ7_fill_53178_7 : decode cJ7_fill_53178 7 = .ok (.if_icmp .ge 13, 3) := by decide +kernel
theorem dJ7_fill_53178_10 : decode cJ7_fill_53178 10 = .ok (.aload_n 0, 1) := by decide +kernel
theorem dJ7_fill_53178_11 : decode cJ7_fill_53178 11 = .ok (.iload_n 2, 1) := by decide +kernel
theorem dJ7_fill_53178_12 : decode cJ7_fill_53178 12 = .ok (.iload_n 1, 1) := by decide +kernel
theorem dJ7_fill_53178_13 : decode cJ7_fill_53178 13 = .ok (.iastore, 1) := by decide +kernel
theorem dJ7_fill_53178_14 : decode cJ7_fill_53178 14 = .ok (.iinc 2 1, 3) := by decide +kernel
theorem dJ7_fill_53178_17 : decode cJ7_fill_53178 17 = .ok (.goto (-12), 3) := by decide +kernel
theorem dJ7_fill_53178_20 : decode cJ7_fill_53178 20 = .ok (.return_, 1) := by decide +kernel
end
section
theorem dX0_init_0 : decode cX0_init 0 = .ok (.aload_n 0, 1) := by decide +kernel
theorem dX0_init_1 : decode cX0_init 1 = .ok (.invokespecial 3, 3) := by decide +kernel
theorem dX0_init_4 : decode cX0_init 4 = .ok (.aload_n 0, 1) := by decide +kernel
theorem dX0_init_5 : decode cX0_init 5 = .ok (.iconst 0, 1) := by decide +kernel
theorem dX0_init_6 : decode cX0_init 6 = .ok (.putfield 9, 3) := by decide +kernel
theorem dX0_init_9 : decode cX0_init 9 = .ok (.aload_n 0, 1) := by decide +kernel
theorem dX0_init_10 : decode cX0_init 10 = .ok (.iconst 0, 1) := by decide +kernel
theorem dX0_init_11 : decode cX0_init 11 = .ok (.putfield 15, 3) := by decide +kernel
theorem dX0_init_14 : decode cX0_init 14 = .ok (.aload_n 0, 1) := by decide +kernel
theorem dX0_init_15 : decode cX0_init 15 = .ok (.iconst (-1), 1) := by decide +kernel
theorem dX0_init_16 : decode cX0_init 16 = .ok (.putfield 19, 3) := by decide +kernel
theorem dX0_init_19 : decode cX0_init 19 = .ok (.aload_n 0, 1) := by decide +kernel
theorem dX0_init_20 : decode cX0_init 20 = .ok (.iconst 0, 1) := by decide +kernel
theorem dX0_init_21 : decode cX0_init 21 = .ok (.putfield 22, 3) := by decide +kernel
theorem dX0_init_24 : decode cX0_init 24 = .ok (.aload_n 0, 1) := by decide +kernel
theorem dX0_init_25 : decode cX0_init 25 = .ok (.iconst 0, 1) := by decide +kernel
theorem dX0_init_26 : decode cX0_init 26 = .ok (.putfield 25, 3) := by decide +kernel
theorem dX0_init_29 : decode cX0_init 29 = .ok (.return_, 1) := by decide +kernel
theorem dX0_keepIfLess_0 : decode cX0_keepIfLess 0 = .ok (.aload_n 0, 1) := by decide +kernel
theorem dX0_keepIfLess_1 : decode cX0_keepIfLess 1 = .ok (.getfield 9, 3) := by decide +kernel
theorem dX0_keepIfLess_4 : decode cX0_keepIfLess 4 = .ok (.ifCond .eq 13, 3) := by decide +kernel
theorem dX0_keepIfLess_7 : decode cX0_keepIfLess 7 = .ok (.iload 4, 2) := by decide +kernel
theorem dX0_keepIfLess_9 : decode cX0_keepIfLess 9 = .ok (.aload_n 0, 1) := by decide +kernel
theorem dX0_keepIfLess_10 : decode cX0_keepIfLess 10 = .ok (.getfield 25, 3) := by decide +kernel
theorem dX0_keepIfLess_13 : decode cX0_keepIfLess 13 = .ok (.if_icmp .lt 4, 3) := by decide +kernel
theorem dX0_keepIfLess_16 : decode cX0_keepIfLess 16 = .ok (.return_, 1) := by decide +kernel
theorem dX0_keepIfLess_17 : decode cX0_keepIfLess 17 = .ok (.aload_n 0, 1) := by decide +kernel
theorem dX0_keepIfLess_18 : decode cX0_keepIfLess 18 = .ok (.iconst 1, 1) := by decide +kernel
theorem dX0_keepIfLess_19 : decode cX0_keepIfLess 19 = .ok (.putfield 9, 3) := by decide +kernel
theorem dX0_keepIfLess_22 : decode cX0_keepIfLess 22 = .ok (.aload_n 0, 1) := by decide +kernel
theorem dX0_keepIfLess_23 : decode cX0_keepIfLess 23 = .ok (.iload_n 1, 1) := by decide +kernel
theorem dX0_keepIfLess_24 : decode cX0_keepIfLess 24 = .ok (.putfield 15, 3) := by decide +kernel
theorem dX0_keepIfLess_27 : decode cX0_keepIfLess 27 = .ok (.aload_n 0, 1) := by decide +kernel
theorem dX0_keepIfLess_28 : decode cX0_keepIfLess 28 = .ok (.iload_n 2, 1) := by decide +kernel
theorem dX0_keepIfLess_29 : decode cX0_keepIfLess 29 = .ok (.putfield 19, 3) := by decide +kernel
theorem dX0_keepIfLess_32 : decode cX0_keepIfLess 32 = .ok (.aload_n 0, 1) := by decide +kernel
theorem dX0_keepIfLess_33 : decode cX0_keepIfLess 33 = .ok (.iload_n 3, 1) := by decide +kernel
theorem dX0_keepIfLess_34 : decode cX0_keepIfLess 34 = .ok (.putfield 22, 3) := by decide +kernel
theorem dX0_keepIfLess_37 : decode cX0_keepIfLess 37 = .ok (.aload_n 0, 1) := by decide +kernel
theorem dX0_keepIfLess_38 : decode cX0_keepIfLess 38 = .ok (.iload 4, 2) := by decide +kernel
theorem dX0_keepIfLess_40 : decode cX0_keepIfLess 40 = .ok (.putfield 25, 3) := by decide +kernel
theorem dX0_keepIfLess_43 : decode cX0_keepIfLess 43 = .ok (.return_, 1) := by decide +kernel
end
section
theorem dX1_init_0 : decode cX1_init 0 = .ok (.aload_n 0, 1) := by decide +kernel
theorem dX1_init_1 : decode cX1_init 1 = .ok (.invokespecial 3, 3) := by decide +kernel
theorem dX1_init_4 : decode cX1_init 4 = .ok (.aload_n 0, 1) := by decide +kernel
theorem dX1_init_5 : decode cX1_init 5 = .ok (.bipush 64, 2) := by decide +kernel
theorem dX1_init_7 : decode cX1_init 7 = .ok (.newarray .boolean, 2) := by decide +kernel
theorem dX1_init_9 : decode cX1_init 9 = .ok (.putfield 9, 3) := by decide +kernel
theorem dX1_init_12 : decode cX1_init 12 = .ok (.aload_n 0, 1) := by decide +kernel
theorem dX1_init_13 : decode cX1_init 13 = .ok (.bipush 7, 2) := by decide +kernel
theorem dX1_init_15 : decode cX1_init 15 = .ok (.newarray .int, 2) := by decide +kernel
theorem dX1_init_17 : decode cX1_init 17 = .ok (.putfield 15, 3) := by decide +kernel
theorem dX1_init_20 : decode cX1_init 20 = .ok (.aload_n 0, 1) := by decide +kernel
theorem dX1_init_21 : decode cX1_init 21 = .ok (.bipush 7, 2) := by decide +kernel
theorem dX1_init_23 : decode cX1_init 23 = .ok (.newarray .int, 2) := by decide +kernel
theorem dX1_init_25 : decode cX1_init 25 = .ok (.putfield 19, 3) := by decide +kernel
theorem dX1_init_28 : decode cX1_init 28 = .ok (.aload_n 0, 1) := by decide +kernel
theorem dX1_init_29 : decode cX1_init 29 = .ok (.bipush 7, 2) := by decide +kernel
theorem dX1_init_31 : decode cX1_init 31 = .ok (.bipush 7, 2) := by decide +kernel
theorem dX1_init_33 : decode cX1_init 33 = .ok (.multianewarray 22 2, 4) := by decide +kernel
theorem dX1_init_37 : decode cX1_init 37 = .ok (.putfield 24, 3) := by decide +kernel
theorem dX1_init_40 : decode cX1_init 40 = .ok (.aload_n 0, 1) := by decide +kernel
theorem dX1_init_41 : decode cX1_init 41 = .ok (.bipush 64, 2) := by decide +kernel
theorem dX1_init_43 : decode cX1_init 43 = .ok (.newarray .int, 2) := by decide +kernel
theorem dX1_init_45 : decode cX1_init 45 = .ok (.putfield 27, 3) := by decide +kernel
theorem dX1_init_48 : decode cX1_init 48 = .ok (.aload_n 0, 1) := by decide +kernel
theorem dX1_init_49 : decode cX1_init 49 = .ok (.bipush 64, 2) := by decide +kernel
theorem dX1_init_51 : decode cX1_init 51 = .ok (.newarray .int, 2) := by decide +kernel
theorem dX1_init_53 : decode cX1_init 53 = .ok (.putfield 30, 3) := by decide +kernel
theorem dX1_init_56 : decode cX1_init 56 = .ok (.aload_n 0, 1) := by decide +kernel
theorem dX1_init_57 : decode cX1_init 57 = .ok (.iconst 0, 1) := by decide +kernel
theorem dX1_init_58 : decode cX1_init 58 = .ok (.putfield 33, 3) := by decide +kernel
theorem dX1_init_61 : decode cX1_init 61 = .ok (.aload_n 0, 1) := by decide +kernel
theorem dX1_init_62 : decode cX1_init 62 = .ok (.iconst 0, 1) := by decide +kernel
theorem dX1_init_63 : decode cX1_init 63 = .ok (.putfield 37, 3) := by decide +kernel
theorem dX1_init_66 : decode cX1_init 66 = .ok (.return_, 1) := by decide +kernel
theorem dX1_isSquare_0 : decode cX1_isSquare 0 = .ok (.iload_n 0, 1) := by decide +kernel
theorem dX1_isSquare_1 : decode cX1_isSquare 1 = .ok (.ifCond .lt 23, 3) := by decide +kernel
theorem dX1_isSquare_4 : decode cX1_isSquare 4 = .ok (.iload_n 0, 1) := by decide +kernel
theorem dX1_isSquare_5 : decode cX1_isSquare 5 = .ok (.bipush 8, 2) := by decide +kernel
theorem dX1_isSquare_7 : decode cX1_isSquare 7 = .ok (.if_icmp .ge 17, 3) := by decide +kernel
theorem dX1_isSquare_10 : decode cX1_isSquare 10 = .ok (.iload_n 1, 1) := by decide +kernel
theorem dX1_isSquare_11 : decode cX1_isSquare 11 = .ok (.ifCond .lt 13, 3) := by decide +kernel
theorem dX1_isSquare_14 : decode cX1_isSquare 14 = .ok (.iload_n 1, 1) := by decide +kernel
theorem dX1_isSquare_15 : decode cX1_isSquare 15 = .ok (.bipush 8, 2) := by decide +kernel
theorem dX1_isSquare_17 : decode cX1_isSquare 17 = .ok (.if_icmp .ge 7, 3) := by decide +kernel
theorem dX1_isSquare_20 : decode cX1_isSquare 20 = .ok (.iconst 1, 1) := by decide +kernel
theorem dX1_isSquare_21 : decode cX1_isSquare 21 = .ok (.goto 4, 3) := by decide +kernel
theorem dX1_isSquare_24 : decode cX1_isSquare 24 = .ok (.iconst 0, 1) := by decide +kernel
theorem dX1_isSquare_25 : decode cX1_isSquare 25 = .ok (.ireturn, 1) := by decide +kernel
theorem dX1_squareAt_0 : decode cX1_squareAt 0 = .ok (.iload_n 1, 1) := by decide +kernel
theorem dX1_squareAt_1 : decode cX1_squareAt 1 = .ok (.bipush 8, 2) := by decide +kernel
theorem dX1_squareAt_3 : decode cX1_squareAt 3 = .ok (.imul, 1) := by decide +kernel
theorem dX1_squareAt_4 : decode cX1_squareAt 4 = .ok (.iload_n 0, 1) := by decide +kernel
theorem dX1_squareAt_5 : decode cX1_squareAt 5 = .ok (.iadd, 1) := by decide +kernel
theorem dX1_squareAt_6 : decode cX1_squareAt 6 = .ok (.ireturn, 1) := by decide +kernel
theorem dX1_hasWall_0 : decode cX1_hasWall 0 = .ok (.aload_n 0, 1) := by decide +kernel
theorem dX1_hasWall_1 : decode cX1_hasWall 1 = .ok (.getfield 9, 3) := by decide +kernel
theorem dX1_hasWall_4 : decode cX1_hasWall 4 = .ok (.iload_n 1, 1) := by decide +kernel
theorem dX1_hasWall_5 : decode cX1_hasWall 5 = .ok (.iload_n 2, 1) := by decide +kernel
theorem dX1_hasWall_6 : decode cX1_hasWall 6 = .ok (.invokestatic 40, 3) := by decide +kernel
theorem dX1_hasWall_9 : decode cX1_hasWall 9 = .ok (.baload, 1) := by decide +kernel
theorem dX1_hasWall_10 : decode cX1_hasWall 10 = .ok (.ireturn, 1) := by decide +kernel
theorem dX1_hasZone_0 : decode cX1_hasZone 0 = .ok (.iload_n 1, 1) := by decide +kernel
theorem dX1_hasZone_1 : decode cX1_hasZone 1 = .ok (.iload_n 2, 1) := by decide +kernel
theorem dX1_hasZone_2 : decode cX1_hasZone 2 = .ok (.invokestatic 40, 3) := by decide +kernel
theorem dX1_hasZone_5 : decode cX1_hasZone 5 = .ok (.istore_n 3, 1) := by decide +kernel
theorem dX1_hasZone_6 : decode cX1_hasZone 6 = .ok (.iconst 0, 1) := by decide +kernel
theorem dX1_hasZone_7 : decode cX1_hasZone 7 = .ok (.istore 4, 2) := by decide +kernel
theorem dX1_hasZone_9 : decode cX1_hasZone 9 = .ok (.iload 4, 2) := by decide +kernel
theorem dX1_hasZone_11 : decode cX1_hasZone 11 = .ok (.aload_n 0, 1) := by decide +kernel
theorem dX1_hasZone_12 : decode cX1_hasZone 12 = .ok (.getfield 37, 3) := by decide +kernel
theorem dX1_hasZone_15 : decode cX1_hasZone 15 = .ok (.if_icmp .ge 22, 3) := by decide +kernel
theorem dX1_hasZone_18 : decode cX1_hasZone 18 = .ok (.aload_n 0, 1) := by decide +kernel
theorem dX1_hasZone_19 : decode cX1_hasZone 19 = .ok (.getfield 15, 3) := by decide +kernel
theorem dX1_hasZone_22 : decode cX1_hasZone 22 = .ok (.iload 4, 2) := by decide +kernel
theorem dX1_hasZone_24 : decode cX1_hasZone 24 = .ok (.iaload, 1) := by decide +kernel
theorem dX1_hasZone_25 : decode cX1_hasZone 25 = .ok (.iload_n 3, 1) := by decide +kernel
theorem dX1_hasZone_26 : decode cX1_hasZone 26 = .ok (.if_icmp .ne 5, 3) := by decide +kernel
theorem dX1_hasZone_29 : decode cX1_hasZone 29 = .ok (.iconst 1, 1) := by decide +kernel
theorem dX1_hasZone_30 : decode cX1_hasZone 30 = .ok (.ireturn, 1) := by decide +kernel
theorem dX1_hasZone_31 : decode cX1_hasZone 31 = .ok (.iinc 4 1, 3) := by decide +kernel
theorem dX1_hasZone_34 : decode cX1_hasZone 34 = .ok (.goto (-25), 3) := by decide +kernel
theorem dX1_hasZone_37 : decode cX1_hasZone 37 = .ok (.iconst 0, 1) := by decide +kernel
theorem dX1_hasZone_38 : decode cX1_hasZone 38 = .ok (.ireturn, 1) := by decide +kernel
theorem dX1_buildWall_0 : decode cX1_buildWall 0 = .ok (.iload_n 1, 1) := by decide +kernel
theorem dX1_buildWall_1 : decode cX1_buildWall 1 = .ok (.iload_n 2, 1) := by decide +kernel
theorem dX1_buildWall_2 : decode cX1_buildWall 2 = .ok (.invokestatic 40, 3) := by decide +kernel
theorem dX1_buildWall_5 : decode cX1_buildWall 5 = .ok (.istore 4, 2) := by decide +kernel
theorem dX1_buildWall_7 : decode cX1_buildWall 7 = .ok (.aload_n 0, 1) := by decide +kernel
theorem dX1_buildWall_8 : decode cX1_buildWall 8 = .ok (.getfield 9, 3) := by decide +kernel
theorem dX1_buildWall_11 : decode cX1_buildWall 11 = .ok (.iload 4, 2) := by decide +kernel
theorem dX1_buildWall_13 : decode cX1_buildWall 13 = .ok (.baload, 1) := by decide +kernel
theorem dX1_buildWall_14 : decode cX1_buildWall 14 = .ok (.istore 5, 2) := by decide +kernel
theorem dX1_buildWall_16 : decode cX1_buildWall 16 = .ok (.iload 5, 2) := by decide +kernel
theorem dX1_buildWall_18 : decode cX1_buildWall 18 = .ok (.iload_n 3, 1) := by decide +kernel
theorem dX1_buildWall_19 : decode cX1_buildWall 19 = .ok (.if_icmp .eq 15, 3) := by decide +kernel
theorem dX1_buildWall_22 : decode cX1_buildWall 22 = .ok (.aload_n 0, 1) := by decide +kernel
theorem dX1_buildWall_23 : decode cX1_buildWall 23 = .ok (.getfield 9, 3) := by decide +kernel
theorem dX1_buildWall_26 : decode cX1_buildWall 26 = .ok (.iload 4, 2) := by decide +kernel
theorem dX1_buildWall_28 : decode cX1_buildWall 28 = .ok (.iload_n 3, 1) := by decide +kernel
theorem dX1_buildWall_29 : decode cX1_buildWall 29 = .ok (.bastore, 1) := by decide +kernel
theorem dX1_buildWall_30 : decode cX1_buildWall 30 = .ok (.aload_n 0, 1) := by decide +kernel
theorem dX1_buildWall_31 : decode cX1_buildWall 31 = .ok (.invokevirtual 44, 3) := by decide +kernel
theorem dX1_buildWall_34 : decode cX1_buildWall 34 = .ok (.iload 5, 2) := by decide +kernel
theorem dX1_buildWall_36 : decode cX1_buildWall 36 = .ok (.ireturn, 1) := by decide +kernel
theorem dX1_openZone_0 : decode cX1_openZone 0 = .ok (.aload_n 0, 1) := by decide +kernel
theorem dX1_openZone_1 : decode cX1_openZone 1 = .ok (.getfield 37, 3) := by decide +kernel
theorem dX1_openZone_4 : decode cX1_openZone 4 = .ok (.istore 4, 2) := by decide +kernel
theorem dX1_openZone_6 : decode cX1_openZone 6 = .ok (.aload_n 0, 1) := by decide +kernel
theorem dX1_openZone_7 : decode cX1_openZone 7 = .ok (.getfield 15, 3) := by decide +kernel
theorem dX1_openZone_10 : decode cX1_openZone 10 = .ok (.iload 4, 2) := by decide +kernel
theorem dX1_openZone_12 : decode cX1_openZone 12 = .ok (.iload_n 1, 1) := by decide +kernel
theorem dX1_openZone_13 : decode cX1_openZone 13 = .ok (.iload_n 2, 1) := by decide +kernel
theorem dX1_openZone_14 : decode cX1_openZone 14 = .ok (.invokestatic 40, 3) := by decide +kernel
theorem dX1_openZone_17 : decode cX1_openZone 17 = .ok (.iastore, 1) := by decide +kernel
theorem dX1_openZone_18 : decode cX1_openZone 18 = .ok (.aload_n 0, 1) := by decide +kernel
theorem dX1_openZone_19 : decode cX1_openZone 19 = .ok (.getfield 19, 3) := by decide +kernel
theorem dX1_openZone_22 : decode cX1_openZone 22 = .ok (.iload 4, 2) := by decide +kernel
theorem dX1_openZone_24 : decode cX1_openZone 24 = .ok (.iload_n 3, 1) := by decide +kernel
theorem dX1_openZone_25 : decode cX1_openZone 25 = .ok (.iastore, 1) := by decide +kernel
theorem dX1_openZone_26 : decode cX1_openZone 26 = .ok (.aload_n 0, 1) := by decide +kernel
theorem dX1_openZone_27 : decode cX1_openZone 27 = .ok (.dup, 1) := by decide +kernel
theorem dX1_openZone_28 : decode cX1_openZone 28 = .ok (.getfield 37, 3) := by decide +kernel
theorem dX1_openZone_31 : decode cX1_openZone 31 = .ok (.iconst 1, 1) := by decide +kernel
theorem dX1_openZone_32 : decode cX1_openZone 32 = .ok (.iadd, 1) := by decide +kernel
theorem dX1_openZone_33 : decode cX1_openZone 33 = .ok (.putfield 37, 3) := by decide +kernel
theorem dX1_openZone_36 : decode cX1_openZone 36 = .ok (.aload_n 0, 1) := by decide +kernel
theorem dX1_openZone_37 : decode cX1_openZone 37 = .ok (.invokevirtual 44, 3) := by decide +kernel
theorem dX1_openZone_40 : decode cX1_openZone 40 = .ok (.iload 4, 2) := by decide +kernel
theorem dX1_openZone_42 : decode cX1_openZone 42 = .ok (.ireturn, 1) := by decide +kernel
theorem dX1_measureAll_0 : decode cX1_measureAll 0 = .ok (.iconst 0, 1) := by decide +kernel
theorem dX1_measureAll_1 : decode cX1_measureAll 1 = .ok (.istore_n 1, 1) := by decide +kernel
theorem dX1_measureAll_2 : decode cX1_measureAll 2 = .ok (.iload_n 1, 1) := by decide +kernel
theorem dX1_measureAll_3 : decode cX1_measureAll 3 = .ok (.aload_n 0, 1) := by decide +kernel
theorem dX1_measureAll_4 : decode cX1_measureAll 4 = .ok (.getfield 37, 3) := by decide +kernel
theorem dX1_measureAll_7 : decode cX1_measureAll 7 = .ok (.if_icmp .ge 14, 3) := by decide +kernel
theorem dX1_measureAll_10 : decode cX1_measureAll 10 = .ok (.aload_n 0, 1) := by decide +kernel
theorem dX1_measureAll_11 : decode cX1_measureAll 11 = .ok (.iload_n 1, 1) := by decide +kernel
theorem dX1_measureAll_12 : decode cX1_measureAll 12 = .ok (.invokevirtual 47, 3) := by decide +kernel
theorem dX1_measureAll_15 : decode cX1_measureAll 15 = .ok (.iinc 1 1, 3) := by decide +kernel
theorem dX1_measureAll_18 : decode cX1_measureAll 18 = .ok (.goto (-16), 3) := by decide +kernel
theorem dX1_measureAll_21 : decode cX1_measureAll 21 = .ok (.return_, 1) := by decide +kernel
theorem dX1_measureFrom_0 : decode cX1_measureFrom 0 = .ok (.aload_n 0, 1) := by decide +kernel
theorem dX1_measureFrom_1 : decode cX1_measureFrom 1 = .ok (.getfield 27, 3) := by decide +kernel
theorem dX1_measureFrom_4 : decode cX1_measureFrom 4 = .ok (.bipush 100, 2) := by decide +kernel
theorem dX1_measureFrom_6 : decode cX1_measureFrom 6 = .ok (.invokestatic 51, 3) := by decide +kernel
theorem dX1_measureFrom_9 : decode cX1_measureFrom 9 = .ok (.aload_n 0, 1) := by decide +kernel
theorem dX1_measureFrom_10 : decode cX1_measureFrom 10 = .ok (.iconst 0, 1) := by decide +kernel
theorem dX1_measureFrom_11 : decode cX1_measureFrom 11 = .ok (.putfield 33, 3) := by decide +kernel
theorem dX1_measureFrom_14 : decode cX1_measureFrom 14 = .ok (.aload_n 0, 1) := by decide +kernel
theorem dX1_measureFrom_15 : decode cX1_measureFrom 15 = .ok (.aload_n 0, 1) := by decide +kernel
theorem dX1_measureFrom_16 : decode cX1_measureFrom 16 = .ok (.getfield 15, 3) := by decide +kernel
theorem dX1_measureFrom_19 : decode cX1_measureFrom 19 = .ok (.iload_n 1, 1) := by decide +kernel
theorem dX1_measureFrom_20 : decode cX1_measureFrom 20 = .ok (.iaload, 1) := by decide +kernel
theorem dX1_measureFrom_21 : decode cX1_measureFrom 21 = .ok (.bipush 8, 2) := by decide +kernel
theorem dX1_measureFrom_23 : decode cX1_measureFrom 23 = .ok (.irem, 1) := by decide +kernel
theorem dX1_measureFrom_24 : decode cX1_measureFrom 24 = .ok (.aload_n 0, 1) := by decide +kernel
theorem dX1_measureFrom_25 : decode cX1_measureFrom 25 = .ok (.getfield 15, 3) := by decide +kernel
theorem dX1_measureFrom_28 : decode cX1_measureFrom 28 = .ok (.iload_n 1, 1) := by decide +kernel
theorem dX1_measureFrom_29 : decode cX1_measureFrom 29 = .ok (.iaload, 1) := by decide +kernel
theorem dX1_measureFrom_30 : decode cX1_measureFrom 30 = .ok (.bipush 8, 2) := by decide +kernel
theorem dX1_measureFrom_32 : decode cX1_measureFrom 32 = .ok (.idiv, 1) := by decide +kernel
theorem dX1_measureFrom_33 : decode cX1_measureFrom 33 = .ok (.iconst 0, 1) := by decide +kernel
theorem dX1_measureFrom_34 : decode cX1_measureFrom 34 = .ok (.invokevirtual 57, 3) := by decide +kernel
theorem dX1_measureFrom_37 : decode cX1_measureFrom 37 = .ok (.iconst 0, 1) := by decide +kernel
theorem dX1_measureFrom_38 : decode cX1_measureFrom 38 = .ok (.istore_n 2, 1) := by decide +kernel
theorem dX1_measureFrom_39 : decode cX1_measureFrom 39 = .ok (.iload_n 2, 1) := by decide +kernel
theorem dX1_measureFrom_40 : decode cX1_measureFrom 40 = .ok (.aload_n 0, 1) := by decide +kernel
theorem dX1_measureFrom_41 : decode cX1_measureFrom 41 = .ok (.getfield 33, 3) := by decide +kernel
theorem dX1_measureFrom_44 : decode cX1_measureFrom 44 = .ok (.if_icmp .ge 95, 3) := by decide +kernel
theorem dX1_measureFrom_47 : decode cX1_measureFrom 47 = .ok (.iload_n 2, 1) := by decide +kernel
theorem dX1_measureFrom_48 : decode cX1_measureFrom 48 = .ok (.bipush 64, 2) := by decide +kernel
theorem dX1_measureFrom_50 : decode cX1_measureFrom 50 = .ok (.if_icmp .ge 89, 3) := by decide +kernel
theorem dX1_measureFrom_53 : decode cX1_measureFrom 53 = .ok (.aload_n 0, 1) := by decide +kernel
theorem dX1_measureFrom_54 : decode cX1_measureFrom 54 = .ok (.getfield 30, 3) := by decide +kernel
theorem dX1_measureFrom_57 : decode cX1_measureFrom 57 = .ok (.iload_n 2, 1) := by decide +kernel
theorem dX1_measureFrom_58 : decode cX1_measureFrom 58 = .ok (.iaload, 1) := by decide +kernel
theorem dX1_measureFrom_59 : decode cX1_measureFrom 59 = .ok (.bipush 8, 2) := by decide +kernel
theorem dX1_measureFrom_61 : decode cX1_measureFrom 61 = .ok (.irem, 1) := by decide +kernel
theorem dX1_measureFrom_62 : decode cX1_measureFrom 62 = .ok (.istore_n 3, 1) := by decide +kernel
theorem dX1_measureFrom_63 : decode cX1_measureFrom 63 = .ok (.aload_n 0, 1) := by decide +kernel
theorem dX1_measureFrom_64 : decode cX1_measureFrom 64 = .ok (.getfield 30, 3) := by decide +kernel
theorem dX1_measureFrom_67 : decode cX1_measureFrom 67 = .ok (.iload_n 2, 1) := by decide +kernel
theorem dX1_measureFrom_68 : decode cX1_measureFrom 68 = .ok (.iaload, 1) := by decide +kernel
theorem dX1_measureFrom_69 : decode cX1_measureFrom 69 = .ok (.bipush 8, 2) := by decide +kernel
theorem dX1_measureFrom_71 : decode cX1_measureFrom 71 = .ok (.idiv, 1) := by decide +kernel
theorem dX1_measureFrom_72 : decode cX1_measureFrom 72 = .ok (.istore 4, 2) := by decide +kernel
theorem dX1_measureFrom_74 : decode cX1_measureFrom 74 = .ok (.aload_n 0, 1) := by decide +kernel
theorem dX1_measureFrom_75 : decode cX1_measureFrom 75 = .ok (.getfield 27, 3) := by decide +kernel
theorem dX1_measureFrom_78 : decode cX1_measureFrom 78 = .ok (.aload_n 0, 1) := by decide +kernel
theorem dX1_measureFrom_79 : decode cX1_measureFrom 79 = .ok (.getfield 30, 3) := by decide +kernel
theorem dX1_measureFrom_82 : decode cX1_measureFrom 82 = .ok (.iload_n 2, 1) := by decide +kernel
theorem dX1_measureFrom_83 : decode cX1_measureFrom 83 = .ok (.iaload, 1) := by decide +kernel
theorem dX1_measureFrom_84 : decode cX1_measureFrom 84 = .ok (.iaload, 1) := by decide +kernel
theorem dX1_measureFrom_85 : decode cX1_measureFrom 85 = .ok (.iconst 1, 1) := by decide +kernel
theorem dX1_measureFrom_86 : decode cX1_measureFrom 86 = .ok (.iadd, 1) := by decide +kernel
theorem dX1_measureFrom_87 : decode cX1_measureFrom 87 = .ok (.istore 5, 2) := by decide +kernel
theorem dX1_measureFrom_89 : decode cX1_measureFrom 89 = .ok (.aload_n 0, 1) := by decide +kernel
theorem dX1_measureFrom_90 : decode cX1_measureFrom 90 = .ok (.iload_n 3, 1) := by decide +kernel
theorem dX1_measureFrom_91 : decode cX1_measureFrom 91 = .ok (.iconst 1, 1) := by decide +kernel
theorem dX1_measureFrom_92 : decode cX1_measureFrom 92 = .ok (.isub, 1) := by decide +kernel
theorem dX1_measureFrom_93 : decode cX1_measureFrom 93 = .ok (.iload 4, 2) := by decide +kernel
theorem dX1_measureFrom_95 : decode cX1_measureFrom 95 = .ok (.iload 5, 2) := by decide +kernel
theorem dX1_measureFrom_97 : decode cX1_measureFrom 97 = .ok (.invokevirtual 57, 3) := by decide +kernel
theorem dX1_measureFrom_100 : decode cX1_measureFrom 100 = .ok (.aload_n 0, 1) := by decide +kernel
theorem dX1_measureFrom_101 : decode cX1_measureFrom 101 = .ok (.iload_n 3, 1) := by decide +kernel
theorem dX1_measureFrom_102 : decode cX1_measureFrom 102 = .ok (.iconst 1, 1) := by decide +kernel
theorem dX1_measureFrom_103 : decode cX1_measureFrom 103 = .ok (.iadd, 1) := by decide +kernel
theorem dX1_measureFrom_104 : decode cX1_measureFrom 104 = .ok (.iload 4, 2) := by decide +kernel
theorem dX1_measureFrom_106 : decode cX1_measureFrom 106 = .ok (.iload 5, 2) := by decide +kernel
theorem dX1_measureFrom_108 : decode cX1_measureFrom 108 = .ok (.invokevirtual 57, 3) := by decide +kernel
theorem dX1_measureFrom_111 : decode cX1_measureFrom 111 = .ok (.aload_n 0, 1) := by decide +kernel
theorem dX1_measureFrom_112 : decode cX1_measureFrom 112 = .ok (.iload_n 3, 1) := by decide +kernel
theorem dX1_measureFrom_113 : decode cX1_measureFrom 113 = .ok (.iload 4, 2) := by decide +kernel
theorem dX1_measureFrom_115 : decode cX1_measureFrom 115 = .ok (.iconst 1, 1) := by decide +kernel
theorem dX1_measureFrom_116 : decode cX1_measureFrom 116 = .ok (.isub, 1) := by decide +kernel
theorem dX1_measureFrom_117 : decode cX1_measureFrom 117 = .ok (.iload 5, 2) := by decide +kernel
theorem dX1_measureFrom_119 : decode cX1_measureFrom 119 = .ok (.invokevirtual 57, 3) := by decide +kernel
theorem dX1_measureFrom_122 : decode cX1_measureFrom 122 = .ok (.aload_n 0, 1) := by decide +kernel
theorem dX1_measureFrom_123 : decode cX1_measureFrom 123 = .ok (.iload_n 3, 1) := by decide +kernel
theorem dX1_measureFrom_124 : decode cX1_measureFrom 124 = .ok (.iload 4, 2) := by decide +kernel
theorem dX1_measureFrom_126 : decode cX1_measureFrom 126 = .ok (.iconst 1, 1) := by decide +kernel
theorem dX1_measureFrom_127 : decode cX1_measureFrom 127 = .ok (.iadd, 1) := by decide +kernel
theorem dX1_measureFrom_128 : decode cX1_measureFrom 128 = .ok (.iload 5, 2) := by decide +kernel
theorem dX1_measureFrom_130 : decode cX1_measureFrom 130 = .ok (.invokevirtual 57, 3) := by decide +kernel
theorem dX1_measureFrom_133 : decode cX1_measureFrom 133 = .ok (.iinc 2 1, 3) := by decide +kernel
theorem dX1_measureFrom_136 : decode cX1_measureFrom 136 = .ok (.goto (-97), 3) := by decide +kernel
theorem dX1_measureFrom_139 : decode cX1_measureFrom 139 = .ok (.iconst 0, 1) := by decide +kernel
theorem dX1_measureFrom_140 : decode cX1_measureFrom 140 = .ok (.istore_n 2, 1) := by decide +kernel
theorem dX1_measureFrom_141 : decode cX1_measureFrom 141 = .ok (.iload_n 2, 1) := by decide +kernel
theorem dX1_measureFrom_142 : decode cX1_measureFrom 142 = .ok (.aload_n 0, 1) := by decide +kernel
theorem dX1_measureFrom_143 : decode cX1_measureFrom 143 = .ok (.getfield 37, 3) := by decide +kernel
theorem dX1_measureFrom_146 : decode cX1_measureFrom 146 = .ok (.if_icmp .ge 28, 3) := by decide +kernel
theorem dX1_measureFrom_149 : decode cX1_measureFrom 149 = .ok (.aload_n 0, 1) := by decide +kernel
theorem dX1_measureFrom_150 : decode cX1_measureFrom 150 = .ok (.getfield 24, 3) := by decide +kernel
theorem dX1_measureFrom_153 : decode cX1_measureFrom 153 = .ok (.iload_n 1, 1) := by decide +kernel
theorem dX1_measureFrom_154 : decode cX1_measureFrom 154 = .ok (.aaload, 1) := by decide +kernel
theorem dX1_measureFrom_155 : decode cX1_measureFrom 155 = .ok (.iload_n 2, 1) := by decide +kernel
theorem dX1_measureFrom_156 : decode cX1_measureFrom 156 = .ok (.aload_n 0, 1) := by decide +kernel
theorem dX1_measureFrom_157 : decode cX1_measureFrom 157 = .ok (.getfield 27, 3) := by decide +kernel
theorem dX1_measureFrom_160 : decode cX1_measureFrom 160 = .ok (.aload_n 0, 1) := by decide +kernel
theorem dX1_measureFrom_161 : decode cX1_measureFrom 161 = .ok (.getfield 15, 3) := by decide +kernel
theorem dX1_measureFrom_164 : decode cX1_measureFrom 164 = .ok (.iload_n 2, 1) := by decide +kernel
theorem dX1_measureFrom_165 : decode cX1_measureFrom 165 = .ok (.iaload, 1) := by decide +kernel
theorem dX1_measureFrom_166 : decode cX1_measureFrom 166 = .ok (.iaload, 1) := by decide +kernel
theorem dX1_measureFrom_167 : decode cX1_measureFrom 167 = .ok (.iastore, 1) := by decide +kernel
theorem dX1_measureFrom_168 : decode cX1_measureFrom 168 = .ok (.iinc 2 1, 3) := by decide +kernel
theorem dX1_measureFrom_171 : decode cX1_measureFrom 171 = .ok (.goto (-30), 3) := by decide +kernel
theorem dX1_measureFrom_174 : decode cX1_measureFrom 174 = .ok (.return_, 1) := by decide +kernel
theorem dX1_reach_0 : decode cX1_reach 0 = .ok (.iload_n 1, 1) := by decide +kernel
theorem dX1_reach_1 : decode cX1_reach 1 = .ok (.iload_n 2, 1) := by decide +kernel
theorem dX1_reach_2 : decode cX1_reach 2 = .ok (.invokestatic 61, 3) := by decide +kernel
theorem dX1_reach_5 : decode cX1_reach 5 = .ok (.ifCond .eq 12, 3) := by decide +kernel
theorem dX1_reach_8 : decode cX1_reach 8 = .ok (.aload_n 0, 1) := by decide +kernel
theorem dX1_reach_9 : decode cX1_reach 9 = .ok (.getfield 33, 3) := by decide +kernel
theorem dX1_reach_12 : decode cX1_reach 12 = .ok (.bipush 64, 2) := by decide +kernel
theorem dX1_reach_14 : decode cX1_reach 14 = .ok (.if_icmp .lt 4, 3) := by decide +kernel
theorem dX1_reach_17 : decode cX1_reach 17 = .ok (.return_, 1) := by decide +kernel
theorem dX1_reach_18 : decode cX1_reach 18 = .ok (.iload_n 1, 1) := by decide +kernel
theorem dX1_reach_19 : decode cX1_reach 19 = .ok (.iload_n 2, 1) := by decide +kernel
theorem dX1_reach_20 : decode cX1_reach 20 = .ok (.invokestatic 40, 3) := by decide +kernel
theorem dX1_reach_23 : decode cX1_reach 23 = .ok (.istore 4, 2) := by decide +kernel
theorem dX1_reach_25 : decode cX1_reach 25 = .ok (.aload_n 0, 1) := by decide +kernel
theorem dX1_reach_26 : decode cX1_reach 26 = .ok (.getfield 9, 3) := by decide +kernel
theorem dX1_reach_29 : decode cX1_reach 29 = .ok (.iload 4, 2) := by decide +kernel
theorem dX1_reach_31 : decode cX1_reach 31 = .ok (.baload, 1) := by decide +kernel
theorem dX1_reach_32 : decode cX1_reach 32 = .ok (.ifCond .ne 15, 3) := by decide +kernel
theorem dX1_reach_35 : decode cX1_reach 35 = .ok (.aload_n 0, 1) := by decide +kernel
theorem dX1_reach_36 : decode cX1_reach 36 = .ok (.getfield 27, 3) := by decide +kernel
theorem dX1_reach_39 : decode cX1_reach 39 = .ok (.iload 4, 2) := by decide +kernel
theorem dX1_reach_41 : decode cX1_reach 41 = .ok (.iaload, 1) := by decide +kernel
theorem dX1_reach_42 : decode cX1_reach 42 = .ok (.bipush 100, 2) := by decide +kernel
theorem dX1_reach_44 : decode cX1_reach 44 = .ok (.if_icmp .eq 4, 3) := by decide +kernel
theorem dX1_reach_47 : decode cX1_reach 47 = .ok (.return_, 1) := by decide +kernel
theorem dX1_reach_48 : decode cX1_reach 48 = .ok (.aload_n 0, 1) := by decide +kernel
theorem dX1_reach_49 : decode cX1_reach 49 = .ok (.getfield 27, 3) := by decide +kernel
theorem dX1_reach_52 : decode cX1_reach 52 = .ok (.iload 4, 2) := by decide +kernel
theorem dX1_reach_54 : decode cX1_reach 54 = .ok (.iload_n 3, 1) := by decide +kernel
theorem dX1_reach_55 : decode cX1_reach 55 = .ok (.iastore, 1) := by decide +kernel
theorem dX1_reach_56 : decode cX1_reach 56 = .ok (.aload_n 0, 1) := by decide +kernel
theorem dX1_reach_57 : decode cX1_reach 57 = .ok (.getfield 30, 3) := by decide +kernel
theorem dX1_reach_60 : decode cX1_reach 60 = .ok (.aload_n 0, 1) := by decide +kernel
theorem dX1_reach_61 : decode cX1_reach 61 = .ok (.getfield 33, 3) := by decide +kernel
theorem dX1_reach_64 : decode cX1_reach 64 = .ok (.iload 4, 2) := by decide +kernel
theorem dX1_reach_66 : decode cX1_reach 66 = .ok (.iastore, 1) := by decide +kernel
theorem dX1_reach_67 : decode cX1_reach 67 = .ok (.aload_n 0, 1) := by decide +kernel
theorem dX1_reach_68 : decode cX1_reach 68 = .ok (.dup, 1) := by decide +kernel
theorem dX1_reach_69 : decode cX1_reach 69 = .ok (.getfield 33, 3) := by decide +kernel
theorem dX1_reach_72 : decode cX1_reach 72 = .ok (.iconst 1, 1) := by decide +kernel
theorem dX1_reach_73 : decode cX1_reach 73 = .ok (.iadd, 1) := by decide +kernel
theorem dX1_reach_74 : decode cX1_reach 74 = .ok (.putfield 33, 3) := by decide +kernel
theorem dX1_reach_77 : decode cX1_reach 77 = .ok (.return_, 1) := by decide +kernel
end
section
theorem dX2_init_0 : decode cX2_init 0 = .ok (.aload_n 0, 1) := by decide +kernel
theorem dX2_init_1 : decode cX2_init 1 = .ok (.invokespecial 3, 3) := by decide +kernel
theorem dX2_init_4 : decode cX2_init 4 = .ok (.aload_n 0, 1) := by decide +kernel
theorem dX2_init_5 : decode cX2_init 5 = .ok (.new 9, 3) := by decide +kernel
theorem dX2_init_8 : decode cX2_init 8 = .ok (.dup, 1) := by decide +kernel
theorem dX2_init_9 : decode cX2_init 9 = .ok (.invokespecial 11, 3) := by decide +kernel
theorem dX2_init_12 : decode cX2_init 12 = .ok (.putfield 12, 3) := by decide +kernel
theorem dX2_init_15 : decode cX2_init 15 = .ok (.aload_n 0, 1) := by decide +kernel
theorem dX2_init_16 : decode cX2_init 16 = .ok (.new 9, 3) := by decide +kernel
theorem dX2_init_19 : decode cX2_init 19 = .ok (.dup, 1) := by decide +kernel
theorem dX2_init_20 : decode cX2_init 20 = .ok (.invokespecial 11, 3) := by decide +kernel
theorem dX2_init_23 : decode cX2_init 23 = .ok (.putfield 18, 3) := by decide +kernel
theorem dX2_init_26 : decode cX2_init 26 = .ok (.aload_n 0, 1) := by decide +kernel
theorem dX2_init_27 : decode cX2_init 27 = .ok (.bipush 7, 2) := by decide +kernel
theorem dX2_init_29 : decode cX2_init 29 = .ok (.newarray .boolean, 2) := by decide +kernel
theorem dX2_init_31 : decode cX2_init 31 = .ok (.putfield 21, 3) := by decide +kernel
theorem dX2_init_34 : decode cX2_init 34 = .ok (.aload_n 0, 1) := by decide +kernel
theorem dX2_init_35 : decode cX2_init 35 = .ok (.iconst 0, 1) := by decide +kernel
theorem dX2_init_36 : decode cX2_init 36 = .ok (.putfield 25, 3) := by decide +kernel
theorem dX2_init_39 : decode cX2_init 39 = .ok (.aload_n 0, 1) := by decide +kernel
theorem dX2_init_40 : decode cX2_init 40 = .ok (.iconst (-1), 1) := by decide +kernel
theorem dX2_init_41 : decode cX2_init 41 = .ok (.putfield 29, 3) := by decide +kernel
theorem dX2_init_44 : decode cX2_init 44 = .ok (.return_, 1) := by decide +kernel
theorem dX2_findLeast_0 : decode cX2_findLeast 0 = .ok (.aload_n 0, 1) := by decide +kernel
theorem dX2_findLeast_1 : decode cX2_findLeast 1 = .ok (.iload_n 2, 1) := by decide +kernel
theorem dX2_findLeast_2 : decode cX2_findLeast 2 = .ok (.putfield 25, 3) := by decide +kernel
theorem dX2_findLeast_5 : decode cX2_findLeast 5 = .ok (.aload_n 0, 1) := by decide +kernel
theorem dX2_findLeast_6 : decode cX2_findLeast 6 = .ok (.iconst (-1), 1) := by decide +kernel
theorem dX2_findLeast_7 : decode cX2_findLeast 7 = .ok (.putfield 29, 3) := by decide +kernel
theorem dX2_findLeast_10 : decode cX2_findLeast 10 = .ok (.aload_n 0, 1) := by decide +kernel
theorem dX2_findLeast_11 : decode cX2_findLeast 11 = .ok (.aload_n 1, 1) := by decide +kernel
theorem dX2_findLeast_12 : decode cX2_findLeast 12 = .ok (.iconst 0, 1) := by decide +kernel
theorem dX2_findLeast_13 : decode cX2_findLeast 13 = .ok (.iconst 0, 1) := by decide +kernel
theorem dX2_findLeast_14 : decode cX2_findLeast 14 = .ok (.invokevirtual 33, 3) := by decide +kernel
theorem dX2_findLeast_17 : decode cX2_findLeast 17 = .ok (.aload_n 0, 1) := by decide +kernel
theorem dX2_findLeast_18 : decode cX2_findLeast 18 = .ok (.getfield 29, 3) := by decide +kernel
theorem dX2_findLeast_21 : decode cX2_findLeast 21 = .ok (.ireturn, 1) := by decide +kernel
theorem dX2_tryFrom_0 : decode cX2_tryFrom 0 = .ok (.iload_n 2, 1) := by decide +kernel
theorem dX2_tryFrom_1 : decode cX2_tryFrom 1 = .ok (.aload_n 1, 1) := by decide +kernel
theorem dX2_tryFrom_2 : decode cX2_tryFrom 2 = .ok (.getfield 37, 3) := by decide +kernel
theorem dX2_tryFrom_5 : decode cX2_tryFrom 5 = .ok (.getfield 43, 3) := by decide +kernel
theorem dX2_tryFrom_8 : decode cX2_tryFrom 8 = .ok (.if_icmp .lt 20, 3) := by decide +kernel
theorem dX2_tryFrom_11 : decode cX2_tryFrom 11 = .ok (.aload_n 0, 1) := by decide +kernel
theorem dX2_tryFrom_12 : decode cX2_tryFrom 12 = .ok (.iload_n 3, 1) := by decide +kernel
theorem dX2_tryFrom_13 : decode cX2_tryFrom 13 = .ok (.putfield 29, 3) := by decide +kernel
theorem dX2_tryFrom_16 : decode cX2_tryFrom 16 = .ok (.aload_n 0, 1) := by decide +kernel
theorem dX2_tryFrom_17 : decode cX2_tryFrom 17 = .ok (.getfield 18, 3) := by decide +kernel
theorem dX2_tryFrom_20 : decode cX2_tryFrom 20 = .ok (.aload_n 0, 1) := by decide +kernel
theorem dX2_tryFrom_21 : decode cX2_tryFrom 21 = .ok (.getfield 12, 3) := by decide +kernel
theorem dX2_tryFrom_24 : decode cX2_tryFrom 24 = .ok (.invokevirtual 48, 3) := by decide +kernel
theorem dX2_tryFrom_27 : decode cX2_tryFrom 27 = .ok (.return_, 1) := by decide +kernel
theorem dX2_tryFrom_28 : decode cX2_tryFrom 28 = .ok (.iconst 0, 1) := by decide +kernel
theorem dX2_tryFrom_29 : decode cX2_tryFrom 29 = .ok (.istore 4, 2) := by decide +kernel
theorem dX2_tryFrom_31 : decode cX2_tryFrom 31 = .ok (.iload 4, 2) := by decide +kernel
theorem dX2_tryFrom_33 : decode cX2_tryFrom 33 = .ok (.aload_n 1, 1) := by decide +kernel
theorem dX2_tryFrom_34 : decode cX2_tryFrom 34 = .ok (.getfield 52, 3) := by decide +kernel
theorem dX2_tryFrom_37 : decode cX2_tryFrom 37 = .ok (.getfield 56, 3) := by decide +kernel
theorem dX2_tryFrom_40 : decode cX2_tryFrom 40 = .ok (.if_icmp .ge 38, 3) := by decide +kernel
theorem dX2_tryFrom_43 : decode cX2_tryFrom 43 = .ok (.aload_n 0, 1) := by decide +kernel
theorem dX2_tryFrom_44 : decode cX2_tryFrom 44 = .ok (.getfield 21, 3) := by decide +kernel
theorem dX2_tryFrom_47 : decode cX2_tryFrom 47 = .ok (.iload 4, 2) := by decide +kernel
theorem dX2_tryFrom_49 : decode cX2_tryFrom 49 = .ok (.baload, 1) := by decide +kernel
theorem dX2_tryFrom_50 : decode cX2_tryFrom 50 = .ok (.ifCond .ne 22, 3) := by decide +kernel
theorem dX2_tryFrom_53 : decode cX2_tryFrom 53 = .ok (.aload_n 1, 1) := by decide +kernel
theorem dX2_tryFrom_54 : decode cX2_tryFrom 54 = .ok (.iload_n 2, 1) := by decide +kernel
theorem dX2_tryFrom_55 : decode cX2_tryFrom 55 = .ok (.iload 4, 2) := by decide +kernel
theorem dX2_tryFrom_57 : decode cX2_tryFrom 57 = .ok (.invokevirtual 61, 3) := by decide +kernel
theorem dX2_tryFrom_60 : decode cX2_tryFrom 60 = .ok (.ifCond .eq 12, 3) := by decide +kernel
theorem dX2_tryFrom_63 : decode cX2_tryFrom 63 = .ok (.aload_n 0, 1) := by decide +kernel
theorem dX2_tryFrom_64 : decode cX2_tryFrom 64 = .ok (.aload_n 1, 1) := by decide +kernel
theorem dX2_tryFrom_65 : decode cX2_tryFrom 65 = .ok (.iload_n 2, 1) := by decide +kernel
theorem dX2_tryFrom_66 : decode cX2_tryFrom 66 = .ok (.iload 4, 2) := by decide +kernel
theorem dX2_tryFrom_68 : decode cX2_tryFrom 68 = .ok (.iload_n 3, 1) := by decide +kernel
theorem dX2_tryFrom_69 : decode cX2_tryFrom 69 = .ok (.invokevirtual 65, 3) := by decide +kernel
theorem dX2_tryFrom_72 : decode cX2_tryFrom 72 = .ok (.iinc 4 1, 3) := by decide +kernel
theorem dX2_tryFrom_75 : decode cX2_tryFrom 75 = .ok (.goto (-44), 3) := by decide +kernel
theorem dX2_tryFrom_78 : decode cX2_tryFrom 78 = .ok (.return_, 1) := by decide +kernel
theorem dX2_tryAt_0 : decode cX2_tryAt 0 = .ok (.aload_n 0, 1) := by decide +kernel
theorem dX2_tryAt_1 : decode cX2_tryAt 1 = .ok (.getfield 12, 3) := by decide +kernel
theorem dX2_tryAt_4 : decode cX2_tryAt 4 = .ok (.iload_n 2, 1) := by decide +kernel
theorem dX2_tryAt_5 : decode cX2_tryAt 5 = .ok (.iload_n 3, 1) := by decide +kernel
theorem dX2_tryAt_6 : decode cX2_tryAt 6 = .ok (.invokevirtual 69, 3) := by decide +kernel
theorem dX2_tryAt_9 : decode cX2_tryAt 9 = .ok (.iload 4, 2) := by decide +kernel
theorem dX2_tryAt_11 : decode cX2_tryAt 11 = .ok (.aload_n 1, 1) := by decide +kernel
theorem dX2_tryAt_12 : decode cX2_tryAt 12 = .ok (.getfield 37, 3) := by decide +kernel
theorem dX2_tryAt_15 : decode cX2_tryAt 15 = .ok (.getfield 73, 3) := by decide +kernel
theorem dX2_tryAt_18 : decode cX2_tryAt 18 = .ok (.iload_n 2, 1) := by decide +kernel
theorem dX2_tryAt_19 : decode cX2_tryAt 19 = .ok (.aaload, 1) := by decide +kernel
theorem dX2_tryAt_20 : decode cX2_tryAt 20 = .ok (.iload_n 3, 1) := by decide +kernel
theorem dX2_tryAt_21 : decode cX2_tryAt 21 = .ok (.iaload, 1) := by decide +kernel
theorem dX2_tryAt_22 : decode cX2_tryAt 22 = .ok (.iadd, 1) := by decide +kernel
theorem dX2_tryAt_23 : decode cX2_tryAt 23 = .ok (.istore 5, 2) := by decide +kernel
theorem dX2_tryAt_25 : decode cX2_tryAt 25 = .ok (.aload_n 0, 1) := by decide +kernel
theorem dX2_tryAt_26 : decode cX2_tryAt 26 = .ok (.getfield 25, 3) := by decide +kernel
theorem dX2_tryAt_29 : decode cX2_tryAt 29 = .ok (.ifCond .eq 17, 3) := by decide +kernel
theorem dX2_tryAt_32 : decode cX2_tryAt 32 = .ok (.iload 5, 2) := by decide +kernel
theorem dX2_tryAt_34 : decode cX2_tryAt 34 = .ok (.aload_n 1, 1) := by decide +kernel
theorem dX2_tryAt_35 : decode cX2_tryAt 35 = .ok (.aload_n 0, 1) := by decide +kernel
theorem dX2_tryAt_36 : decode cX2_tryAt 36 = .ok (.getfield 12, 3) := by decide +kernel
theorem dX2_tryAt_39 : decode cX2_tryAt 39 = .ok (.iload_n 2, 1) := by decide +kernel
theorem dX2_tryAt_40 : decode cX2_tryAt 40 = .ok (.invokevirtual 77, 3) := by decide +kernel
theorem dX2_tryAt_43 : decode cX2_tryAt 43 = .ok (.iadd, 1) := by decide +kernel
theorem dX2_tryAt_44 : decode cX2_tryAt 44 = .ok (.istore 5, 2) := by decide +kernel
theorem dX2_tryAt_46 : decode cX2_tryAt 46 = .ok (.aload_n 0, 1) := by decide +kernel
theorem dX2_tryAt_47 : decode cX2_tryAt 47 = .ok (.getfield 29, 3) := by decide +kernel
theorem dX2_tryAt_50 : decode cX2_tryAt 50 = .ok (.iconst (-1), 1) := by decide +kernel
theorem dX2_tryAt_51 : decode cX2_tryAt 51 = .ok (.if_icmp .eq 13, 3) := by decide +kernel
theorem dX2_tryAt_54 : decode cX2_tryAt 54 = .ok (.iload 5, 2) := by decide +kernel
theorem dX2_tryAt_56 : decode cX2_tryAt 56 = .ok (.aload_n 0, 1) := by decide +kernel
theorem dX2_tryAt_57 : decode cX2_tryAt 57 = .ok (.getfield 29, 3) := by decide +kernel
theorem dX2_tryAt_60 : decode cX2_tryAt 60 = .ok (.if_icmp .lt 4, 3) := by decide +kernel
theorem dX2_tryAt_63 : decode cX2_tryAt 63 = .ok (.return_, 1) := by decide +kernel
theorem dX2_tryAt_64 : decode cX2_tryAt 64 = .ok (.aload_n 0, 1) := by decide +kernel
theorem dX2_tryAt_65 : decode cX2_tryAt 65 = .ok (.getfield 21, 3) := by decide +kernel
theorem dX2_tryAt_68 : decode cX2_tryAt 68 = .ok (.iload_n 3, 1) := by decide +kernel
theorem dX2_tryAt_69 : decode cX2_tryAt 69 = .ok (.iconst 1, 1) := by decide +kernel
theorem dX2_tryAt_70 : decode cX2_tryAt 70 = .ok (.bastore, 1) := by decide +kernel
theorem dX2_tryAt_71 : decode cX2_tryAt 71 = .ok (.aload_n 0, 1) := by decide +kernel
theorem dX2_tryAt_72 : decode cX2_tryAt 72 = .ok (.aload_n 1, 1) := by decide +kernel
theorem dX2_tryAt_73 : decode cX2_tryAt 73 = .ok (.iload_n 2, 1) := by decide +kernel
theorem dX2_tryAt_74 : decode cX2_tryAt 74 = .ok (.iconst 1, 1) := by decide +kernel
theorem dX2_tryAt_75 : decode cX2_tryAt 75 = .ok (.iadd, 1) := by decide +kernel
theorem dX2_tryAt_76 : decode cX2_tryAt 76 = .ok (.iload 5, 2) := by decide +kernel
theorem dX2_tryAt_78 : decode cX2_tryAt 78 = .ok (.invokevirtual 33, 3) := by decide +kernel
theorem dX2_tryAt_81 : decode cX2_tryAt 81 = .ok (.aload_n 0, 1) := by decide +kernel
theorem dX2_tryAt_82 : decode cX2_tryAt 82 = .ok (.getfield 21, 3) := by decide +kernel
theorem dX2_tryAt_85 : decode cX2_tryAt 85 = .ok (.iload_n 3, 1) := by decide +kernel
theorem dX2_tryAt_86 : decode cX2_tryAt 86 = .ok (.iconst 0, 1) := by decide +kernel
theorem dX2_tryAt_87 : decode cX2_tryAt 87 = .ok (.bastore, 1) := by decide +kernel
theorem dX2_tryAt_88 : decode cX2_tryAt 88 = .ok (.return_, 1) := by decide +kernel
end
section
theorem dX3_init_0 : decode cX3_init 0 = .ok (.aload_n 0, 1) := by decide +kernel
theorem dX3_init_1 : decode cX3_init 1 = .ok (.invokespecial 3, 3) := by decide +kernel
theorem dX3_init_4 : decode cX3_init 4 = .ok (.aload_n 0, 1) := by decide +kernel
theorem dX3_init_5 : decode cX3_init 5 = .ok (.new 9, 3) := by decide +kernel
theorem dX3_init_8 : decode cX3_init 8 = .ok (.dup, 1) := by decide +kernel
theorem dX3_init_9 : decode cX3_init 9 = .ok (.invokespecial 11, 3) := by decide +kernel
theorem dX3_init_12 : decode cX3_init 12 = .ok (.putfield 12, 3) := by decide +kernel
theorem dX3_init_15 : decode cX3_init 15 = .ok (.aload_n 0, 1) := by decide +kernel
theorem dX3_init_16 : decode cX3_init 16 = .ok (.new 18, 3) := by decide +kernel
theorem dX3_init_19 : decode cX3_init 19 = .ok (.dup, 1) := by decide +kernel
theorem dX3_init_20 : decode cX3_init 20 = .ok (.invokespecial 20, 3) := by decide +kernel
theorem dX3_init_23 : decode cX3_init 23 = .ok (.putfield 21, 3) := by decide +kernel
theorem dX3_init_26 : decode cX3_init 26 = .ok (.return_, 1) := by decide +kernel
theorem dX3_fits_0 : decode cX3_fits 0 = .ok (.aload_n 0, 1) := by decide +kernel
theorem dX3_fits_1 : decode cX3_fits 1 = .ok (.getfield 12, 3) := by decide +kernel
theorem dX3_fits_4 : decode cX3_fits 4 = .ok (.getfield 25, 3) := by decide +kernel
theorem dX3_fits_7 : decode cX3_fits 7 = .ok (.iload_n 2, 1) := by decide +kernel
theorem dX3_fits_8 : decode cX3_fits 8 = .ok (.iaload, 1) := by decide +kernel
theorem dX3_fits_9 : decode cX3_fits 9 = .ok (.aload_n 0, 1) := by decide +kernel
theorem dX3_fits_10 : decode cX3_fits 10 = .ok (.getfield 21, 3) := by decide +kernel
theorem dX3_fits_13 : decode cX3_fits 13 = .ok (.getfield 29, 3) := by decide +kernel
theorem dX3_fits_16 : decode cX3_fits 16 = .ok (.iload_n 1, 1) := by decide +kernel
theorem dX3_fits_17 : decode cX3_fits 17 = .ok (.iaload, 1) := by decide +kernel
theorem dX3_fits_18 : decode cX3_fits 18 = .ok (.if_icmp .lt 7, 3) := by decide +kernel
theorem dX3_fits_21 : decode cX3_fits 21 = .ok (.iconst 1, 1) := by decide +kernel
theorem dX3_fits_22 : decode cX3_fits 22 = .ok (.goto 4, 3) := by decide +kernel
theorem dX3_fits_25 : decode cX3_fits 25 = .ok (.iconst 0, 1) := by decide +kernel
theorem dX3_fits_26 : decode cX3_fits 26 = .ok (.ireturn, 1) := by decide +kernel
theorem dX3_costOf_0 : decode cX3_costOf 0 = .ok (.aload_n 0, 1) := by decide +kernel
theorem dX3_costOf_1 : decode cX3_costOf 1 = .ok (.aload_n 1, 1) := by decide +kernel
theorem dX3_costOf_2 : decode cX3_costOf 2 = .ok (.invokevirtual 32, 3) := by decide +kernel
theorem dX3_costOf_5 : decode cX3_costOf 5 = .ok (.istore_n 2, 1) := by decide +kernel
theorem dX3_costOf_6 : decode cX3_costOf 6 = .ok (.iconst 0, 1) := by decide +kernel
theorem dX3_costOf_7 : decode cX3_costOf 7 = .ok (.istore_n 3, 1) := by decide +kernel
theorem dX3_costOf_8 : decode cX3_costOf 8 = .ok (.iload_n 3, 1) := by decide +kernel
theorem dX3_costOf_9 : decode cX3_costOf 9 = .ok (.aload_n 0, 1) := by decide +kernel
theorem dX3_costOf_10 : decode cX3_costOf 10 = .ok (.getfield 21, 3) := by decide +kernel
theorem dX3_costOf_13 : decode cX3_costOf 13 = .ok (.getfield 36, 3) := by decide +kernel
theorem dX3_costOf_16 : decode cX3_costOf 16 = .ok (.if_icmp .ge 18, 3) := by decide +kernel
theorem dX3_costOf_19 : decode cX3_costOf 19 = .ok (.iload_n 2, 1) := by decide +kernel
theorem dX3_costOf_20 : decode cX3_costOf 20 = .ok (.aload_n 0, 1) := by decide +kernel
theorem dX3_costOf_21 : decode cX3_costOf 21 = .ok (.aload_n 1, 1) := by decide +kernel
theorem dX3_costOf_22 : decode cX3_costOf 22 = .ok (.iload_n 3, 1) := by decide +kernel
theorem dX3_costOf_23 : decode cX3_costOf 23 = .ok (.invokevirtual 40, 3) := by decide +kernel
theorem dX3_costOf_26 : decode cX3_costOf 26 = .ok (.iadd, 1) := by decide +kernel
theorem dX3_costOf_27 : decode cX3_costOf 27 = .ok (.istore_n 2, 1) := by decide +kernel
theorem dX3_costOf_28 : decode cX3_costOf 28 = .ok (.iinc 3 1, 3) := by decide +kernel
theorem dX3_costOf_31 : decode cX3_costOf 31 = .ok (.goto (-23), 3) := by decide +kernel
theorem dX3_costOf_34 : decode cX3_costOf 34 = .ok (.iload_n 2, 1) := by decide +kernel
theorem dX3_costOf_35 : decode cX3_costOf 35 = .ok (.ireturn, 1) := by decide +kernel
theorem dX3_wishCostOf_0 : decode cX3_wishCostOf 0 = .ok (.iconst 0, 1) := by decide +kernel
theorem dX3_wishCostOf_1 : decode cX3_wishCostOf 1 = .ok (.istore_n 2, 1) := by decide +kernel
theorem dX3_wishCostOf_2 : decode cX3_wishCostOf 2 = .ok (.iconst 0, 1) := by decide +kernel
theorem dX3_wishCostOf_3 : decode cX3_wishCostOf 3 = .ok (.istore_n 3, 1) := by decide +kernel
theorem dX3_wishCostOf_4 : decode cX3_wishCostOf 4 = .ok (.iload_n 3, 1) := by decide +kernel
theorem dX3_wishCostOf_5 : decode cX3_wishCostOf 5 = .ok (.aload_n 0, 1) := by decide +kernel
theorem dX3_wishCostOf_6 : decode cX3_wishCostOf 6 = .ok (.getfield 21, 3) := by decide +kernel
theorem dX3_wishCostOf_9 : decode cX3_wishCostOf 9 = .ok (.getfield 36, 3) := by decide +kernel
theorem dX3_wishCostOf_12 : decode cX3_wishCostOf 12 = .ok (.if_icmp .ge 37, 3) := by decide +kernel
theorem dX3_wishCostOf_15 : decode cX3_wishCostOf 15 = .ok (.aload_n 1, 1) := by decide +kernel
theorem dX3_wishCostOf_16 : decode cX3_wishCostOf 16 = .ok (.iload_n 3, 1) := by decide +kernel
theorem dX3_wishCostOf_17 : decode cX3_wishCostOf 17 = .ok (.invokevirtual 44, 3) := by decide +kernel
theorem dX3_wishCostOf_20 : decode cX3_wishCostOf 20 = .ok (.istore 4, 2) := by decide +kernel
theorem dX3_wishCostOf_22 : decode cX3_wishCostOf 22 = .ok (.iload 4, 2) := by decide +kernel
theorem dX3_wishCostOf_24 : decode cX3_wishCostOf 24 = .ok (.iconst (-1), 1) := by decide +kernel
theorem dX3_wishCostOf_25 : decode cX3_wishCostOf 25 = .ok (.if_icmp .eq 18, 3) := by decide +kernel
theorem dX3_wishCostOf_28 : decode cX3_wishCostOf 28 = .ok (.iload_n 2, 1) := by decide +kernel
theorem dX3_wishCostOf_29 : decode cX3_wishCostOf 29 = .ok (.aload_n 0, 1) := by decide +kernel
theorem dX3_wishCostOf_30 : decode cX3_wishCostOf 30 = .ok (.getfield 21, 3) := by decide +kernel
theorem dX3_wishCostOf_33 : decode cX3_wishCostOf 33 = .ok (.getfield 50, 3) := by decide +kernel
theorem dX3_wishCostOf_36 : decode cX3_wishCostOf 36 = .ok (.iload_n 3, 1) := by decide +kernel
theorem dX3_wishCostOf_37 : decode cX3_wishCostOf 37 = .ok (.aaload, 1) := by decide +kernel
theorem dX3_wishCostOf_38 : decode cX3_wishCostOf 38 = .ok (.iload 4, 2) := by decide +kernel
theorem dX3_wishCostOf_40 : decode cX3_wishCostOf 40 = .ok (.iaload, 1) := by decide +kernel
theorem dX3_wishCostOf_41 : decode cX3_wishCostOf 41 = .ok (.iadd, 1) := by decide +kernel
theorem dX3_wishCostOf_42 : decode cX3_wishCostOf 42 = .ok (.istore_n 2, 1) := by decide +kernel
theorem dX3_wishCostOf_43 : decode cX3_wishCostOf 43 = .ok (.iinc 3 1, 3) := by decide +kernel
theorem dX3_wishCostOf_46 : decode cX3_wishCostOf 46 = .ok (.goto (-42), 3) := by decide +kernel
theorem dX3_wishCostOf_49 : decode cX3_wishCostOf 49 = .ok (.iload_n 2, 1) := by decide +kernel
theorem dX3_wishCostOf_50 : decode cX3_wishCostOf 50 = .ok (.ireturn, 1) := by decide +kernel
theorem dX3_tieCostToLower_0 : decode cX3_tieCostToLower 0 = .ok (.aload_n 1, 1) := by decide +kernel
theorem dX3_tieCostToLower_1 : decode cX3_tieCostToLower 1 = .ok (.iload_n 2, 1) := by decide +kernel
theorem dX3_tieCostToLower_2 : decode cX3_tieCostToLower 2 = .ok (.invokevirtual 44, 3) := by decide +kernel
theorem dX3_tieCostToLower_5 : decode cX3_tieCostToLower 5 = .ok (.istore_n 3, 1) := by decide +kernel
theorem dX3_tieCostToLower_6 : decode cX3_tieCostToLower 6 = .ok (.iload_n 3, 1) := by decide +kernel
theorem dX3_tieCostToLower_7 : decode cX3_tieCostToLower 7 = .ok (.iconst (-1), 1) := by decide +kernel
theorem dX3_tieCostToLower_8 : decode cX3_tieCostToLower 8 = .ok (.if_icmp .ne 5, 3) := by decide +kernel
theorem dX3_tieCostToLower_11 : decode cX3_tieCostToLower 11 = .ok (.iconst 0, 1) := by decide +kernel
theorem dX3_tieCostToLower_12 : decode cX3_tieCostToLower 12 = .ok (.ireturn, 1) := by decide +kernel
theorem dX3_tieCostToLower_13 : decode cX3_tieCostToLower 13 = .ok (.iconst 0, 1) := by decide +kernel
theorem dX3_tieCostToLower_14 : decode cX3_tieCostToLower 14 = .ok (.istore 4, 2) := by decide +kernel
theorem dX3_tieCostToLower_16 : decode cX3_tieCostToLower 16 = .ok (.iconst 0, 1) := by decide +kernel
theorem dX3_tieCostToLower_17 : decode cX3_tieCostToLower 17 = .ok (.istore 5, 2) := by decide +kernel
theorem dX3_tieCostToLower_19 : decode cX3_tieCostToLower 19 = .ok (.iload 5, 2) := by decide +kernel
theorem dX3_tieCostToLower_21 : decode cX3_tieCostToLower 21 = .ok (.iload_n 2, 1) := by decide +kernel
theorem dX3_tieCostToLower_22 : decode cX3_tieCostToLower 22 = .ok (.if_icmp .ge 53, 3) := by decide +kernel
theorem dX3_tieCostToLower_25 : decode cX3_tieCostToLower 25 = .ok (.aload_n 1, 1) := by decide +kernel
theorem dX3_tieCostToLower_26 : decode cX3_tieCostToLower 26 = .ok (.iload 5, 2) := by decide +kernel
theorem dX3_tieCostToLower_28 : decode cX3_tieCostToLower 28 = .ok (.invokevirtual 44, 3) := by decide +kernel
theorem dX3_tieCostToLower_31 : decode cX3_tieCostToLower 31 = .ok (.istore 6, 2) := by decide +kernel
theorem dX3_tieCostToLower_33 : decode cX3_tieCostToLower 33 = .ok (.iload 6, 2) := by decide +kernel
theorem dX3_tieCostToLower_35 : decode cX3_tieCostToLower 35 = .ok (.iconst (-1), 1) := by decide +kernel
theorem dX3_tieCostToLower_36 : decode cX3_tieCostToLower 36 = .ok (.if_icmp .eq 33, 3) := by decide +kernel
theorem dX3_tieCostToLower_39 : decode cX3_tieCostToLower 39 = .ok (.iload 4, 2) := by decide +kernel
theorem dX3_tieCostToLower_41 : decode cX3_tieCostToLower 41 = .ok (.aload_n 0, 1) := by decide +kernel
theorem dX3_tieCostToLower_42 : decode cX3_tieCostToLower 42 = .ok (.getfield 21, 3) := by decide +kernel
theorem dX3_tieCostToLower_45 : decode cX3_tieCostToLower 45 = .ok (.getfield 54, 3) := by decide +kernel
theorem dX3_tieCostToLower_48 : decode cX3_tieCostToLower 48 = .ok (.iload_n 2, 1) := by decide +kernel
theorem dX3_tieCostToLower_49 : decode cX3_tieCostToLower 49 = .ok (.aaload, 1) := by decide +kernel
theorem dX3_tieCostToLower_50 : decode cX3_tieCostToLower 50 = .ok (.iload 5, 2) := by decide +kernel
theorem dX3_tieCostToLower_52 : decode cX3_tieCostToLower 52 = .ok (.iaload, 1) := by decide +kernel
theorem dX3_tieCostToLower_53 : decode cX3_tieCostToLower 53 = .ok (.aload_n 0, 1) := by decide +kernel
theorem dX3_tieCostToLower_54 : decode cX3_tieCostToLower 54 = .ok (.getfield 12, 3) := by decide +kernel
theorem dX3_tieCostToLower_57 : decode cX3_tieCostToLower 57 = .ok (.getfield 57, 3) := by decide +kernel
theorem dX3_tieCostToLower_60 : decode cX3_tieCostToLower 60 = .ok (.iload_n 3, 1) := by decide +kernel
theorem dX3_tieCostToLower_61 : decode cX3_tieCostToLower 61 = .ok (.aaload, 1) := by decide +kernel
theorem dX3_tieCostToLower_62 : decode cX3_tieCostToLower 62 = .ok (.iload 6, 2) := by decide +kernel
theorem dX3_tieCostToLower_64 : decode cX3_tieCostToLower 64 = .ok (.iaload, 1) := by decide +kernel
theorem dX3_tieCostToLower_65 : decode cX3_tieCostToLower 65 = .ok (.imul, 1) := by decide +kernel
theorem dX3_tieCostToLower_66 : decode cX3_tieCostToLower 66 = .ok (.iadd, 1) := by decide +kernel
theorem dX3_tieCostToLower_67 : decode cX3_tieCostToLower 67 = .ok (.istore 4, 2) := by decide +kernel
theorem dX3_tieCostToLower_69 : decode cX3_tieCostToLower 69 = .ok (.iinc 5 1, 3) := by decide +kernel
theorem dX3_tieCostToLower_72 : decode cX3_tieCostToLower 72 = .ok (.goto (-53), 3) := by decide +kernel
theorem dX3_tieCostToLower_75 : decode cX3_tieCostToLower 75 = .ok (.iload 4, 2) := by decide +kernel
theorem dX3_tieCostToLower_77 : decode cX3_tieCostToLower 77 = .ok (.ireturn, 1) := by decide +kernel
end
section
theorem dX4_init_0 : decode cX4_init 0 = .ok (.aload_n 0, 1) := by decide +kernel
theorem dX4_init_1 : decode cX4_init 1 = .ok (.invokespecial 3, 3) := by decide +kernel
theorem dX4_init_4 : decode cX4_init 4 = .ok (.aload_n 0, 1) := by decide +kernel
theorem dX4_init_5 : decode cX4_init 5 = .ok (.bipush 7, 2) := by decide +kernel
theorem dX4_init_7 : decode cX4_init 7 = .ok (.newarray .int, 2) := by decide +kernel
theorem dX4_init_9 : decode cX4_init 9 = .ok (.putfield 9, 3) := by decide +kernel
theorem dX4_init_12 : decode cX4_init 12 = .ok (.aload_n 0, 1) := by decide +kernel
theorem dX4_init_13 : decode cX4_init 13 = .ok (.getfield 9, 3) := by decide +kernel
theorem dX4_init_16 : decode cX4_init 16 = .ok (.iconst (-1), 1) := by decide +kernel
theorem dX4_init_17 : decode cX4_init 17 = .ok (.invokestatic 15, 3) := by decide +kernel
theorem dX4_init_20 : decode cX4_init 20 = .ok (.return_, 1) := by decide +kernel
theorem dX4_zoneWith_0 : decode cX4_zoneWith 0 = .ok (.aload_n 0, 1) := by decide +kernel
theorem dX4_zoneWith_1 : decode cX4_zoneWith 1 = .ok (.getfield 9, 3) := by decide +kernel
theorem dX4_zoneWith_4 : decode cX4_zoneWith 4 = .ok (.iload_n 1, 1) := by decide +kernel
theorem dX4_zoneWith_5 : decode cX4_zoneWith 5 = .ok (.iaload, 1) := by decide +kernel
theorem dX4_zoneWith_6 : decode cX4_zoneWith 6 = .ok (.ireturn, 1) := by decide +kernel
theorem dX4_teamAt_0 : decode cX4_teamAt 0 = .ok (.iload_n 1, 1) := by decide +kernel
theorem dX4_teamAt_1 : decode cX4_teamAt 1 = .ok (.iconst (-1), 1) := by decide +kernel
theorem dX4_teamAt_2 : decode cX4_teamAt 2 = .ok (.if_icmp .ne 5, 3) := by decide +kernel
theorem dX4_teamAt_5 : decode cX4_teamAt 5 = .ok (.iconst (-1), 1) := by decide +kernel
theorem dX4_teamAt_6 : decode cX4_teamAt 6 = .ok (.ireturn, 1) := by decide +kernel
theorem dX4_teamAt_7 : decode cX4_teamAt 7 = .ok (.iconst 0, 1) := by decide +kernel
theorem dX4_teamAt_8 : decode cX4_teamAt 8 = .ok (.istore_n 2, 1) := by decide +kernel
theorem dX4_teamAt_9 : decode cX4_teamAt 9 = .ok (.iload_n 2, 1) := by decide +kernel
theorem dX4_teamAt_10 : decode cX4_teamAt 10 = .ok (.bipush 7, 2) := by decide +kernel
theorem dX4_teamAt_12 : decode cX4_teamAt 12 = .ok (.if_icmp .ge 21, 3) := by decide +kernel
theorem dX4_teamAt_15 : decode cX4_teamAt 15 = .ok (.aload_n 0, 1) := by decide +kernel
theorem dX4_teamAt_16 : decode cX4_teamAt 16 = .ok (.getfield 9, 3) := by decide +kernel
theorem dX4_teamAt_19 : decode cX4_teamAt 19 = .ok (.iload_n 2, 1) := by decide +kernel
theorem dX4_teamAt_20 : decode cX4_teamAt 20 = .ok (.iaload, 1) := by decide +kernel
theorem dX4_teamAt_21 : decode cX4_teamAt 21 = .ok (.iload_n 1, 1) := by decide +kernel
theorem dX4_teamAt_22 : decode cX4_teamAt 22 = .ok (.if_icmp .ne 5, 3) := by decide +kernel
theorem dX4_teamAt_25 : decode cX4_teamAt 25 = .ok (.iload_n 2, 1) := by decide +kernel
theorem dX4_teamAt_26 : decode cX4_teamAt 26 = .ok (.ireturn, 1) := by decide +kernel
theorem dX4_teamAt_27 : decode cX4_teamAt 27 = .ok (.iinc 2 1, 3) := by decide +kernel
theorem dX4_teamAt_30 : decode cX4_teamAt 30 = .ok (.goto (-21), 3) := by decide +kernel
theorem dX4_teamAt_33 : decode cX4_teamAt 33 = .ok (.iconst (-1), 1) := by decide +kernel
theorem dX4_teamAt_34 : decode cX4_teamAt 34 = .ok (.ireturn, 1) := by decide +kernel
theorem dX4_lay_0 : decode cX4_lay 0 = .ok (.aload_n 0, 1) := by decide +kernel
theorem dX4_lay_1 : decode cX4_lay 1 = .ok (.getfield 9, 3) := by decide +kernel
theorem dX4_lay_4 : decode cX4_lay 4 = .ok (.iload_n 1, 1) := by decide +kernel
theorem dX4_lay_5 : decode cX4_lay 5 = .ok (.iload_n 2, 1) := by decide +kernel
theorem dX4_lay_6 : decode cX4_lay 6 = .ok (.iastore, 1) := by decide +kernel
theorem dX4_lay_7 : decode cX4_lay 7 = .ok (.return_, 1) := by decide +kernel
theorem dX4_exchange_0 : decode cX4_exchange 0 = .ok (.aload_n 0, 1) := by decide +kernel
theorem dX4_exchange_1 : decode cX4_exchange 1 = .ok (.getfield 9, 3) := by decide +kernel
theorem dX4_exchange_4 : decode cX4_exchange 4 = .ok (.iload_n 1, 1) := by decide +kernel
theorem dX4_exchange_5 : decode cX4_exchange 5 = .ok (.iaload, 1) := by decide +kernel
theorem dX4_exchange_6 : decode cX4_exchange 6 = .ok (.istore_n 3, 1) := by decide +kernel
theorem dX4_exchange_7 : decode cX4_exchange 7 = .ok (.aload_n 0, 1) := by decide +kernel
theorem dX4_exchange_8 : decode cX4_exchange 8 = .ok (.getfield 9, 3) := by decide +kernel
theorem dX4_exchange_11 : decode cX4_exchange 11 = .ok (.iload_n 1, 1) := by decide +kernel
theorem dX4_exchange_12 : decode cX4_exchange 12 = .ok (.aload_n 0, 1) := by decide +kernel
theorem dX4_exchange_13 : decode cX4_exchange 13 = .ok (.getfield 9, 3) := by decide +kernel
theorem dX4_exchange_16 : decode cX4_exchange 16 = .ok (.iload_n 2, 1) := by decide +kernel
theorem dX4_exchange_17 : decode cX4_exchange 17 = .ok (.iaload, 1) := by decide +kernel
theorem dX4_exchange_18 : decode cX4_exchange 18 = .ok (.iastore, 1) := by decide +kernel
theorem dX4_exchange_19 : decode cX4_exchange 19 = .ok (.aload_n 0, 1) := by decide +kernel
theorem dX4_exchange_20 : decode cX4_exchange 20 = .ok (.getfield 9, 3) := by decide +kernel
theorem dX4_exchange_23 : decode cX4_exchange 23 = .ok (.iload_n 2, 1) := by decide +kernel
theorem dX4_exchange_24 : decode cX4_exchange 24 = .ok (.iload_n 3, 1) := by decide +kernel
theorem dX4_exchange_25 : decode cX4_exchange 25 = .ok (.iastore, 1) := by decide +kernel
theorem dX4_exchange_26 : decode cX4_exchange 26 = .ok (.return_, 1) := by decide +kernel
theorem dX4_layLike_0 : decode cX4_layLike 0 = .ok (.aload_n 1, 1) := by decide +kernel
theorem dX4_layLike_1 : decode cX4_layLike 1 = .ok (.getfield 9, 3) := by decide +kernel
theorem dX4_layLike_4 : decode cX4_layLike 4 = .ok (.iconst 0, 1) := by decide +kernel
theorem dX4_layLike_5 : decode cX4_layLike 5 = .ok (.aload_n 0, 1) := by decide +kernel
theorem dX4_layLike_6 : decode cX4_layLike 6 = .ok (.getfield 9, 3) := by decide +kernel
theorem dX4_layLike_9 : decode cX4_layLike 9 = .ok (.iconst 0, 1) := by decide +kernel
theorem dX4_layLike_10 : decode cX4_layLike 10 = .ok (.bipush 7, 2) := by decide +kernel
theorem dX4_layLike_12 : decode cX4_layLike 12 = .ok (.invokestatic 21, 3) := by decide +kernel
theorem dX4_layLike_15 : decode cX4_layLike 15 = .ok (.return_, 1) := by decide +kernel
theorem dX4_countPlaced_0 : decode cX4_countPlaced 0 = .ok (.iconst 0, 1) := by decide +kernel
theorem dX4_countPlaced_1 : decode cX4_countPlaced 1 = .ok (.istore_n 1, 1) := by decide +kernel
theorem dX4_countPlaced_2 : decode cX4_countPlaced 2 = .ok (.iconst 0, 1) := by decide +kernel
theorem dX4_countPlaced_3 : decode cX4_countPlaced 3 = .ok (.istore_n 2, 1) := by decide +kernel
theorem dX4_countPlaced_4 : decode cX4_countPlaced 4 = .ok (.iload_n 2, 1) := by decide +kernel
theorem dX4_countPlaced_5 : decode cX4_countPlaced 5 = .ok (.bipush 7, 2) := by decide +kernel
theorem dX4_countPlaced_7 : decode cX4_countPlaced 7 = .ok (.if_icmp .ge 22, 3) := by decide +kernel
theorem dX4_countPlaced_10 : decode cX4_countPlaced 10 = .ok (.aload_n 0, 1) := by decide +kernel
theorem dX4_countPlaced_11 : decode cX4_countPlaced 11 = .ok (.getfield 9, 3) := by decide +kernel
theorem dX4_countPlaced_14 : decode cX4_countPlaced 14 = .ok (.iload_n 2, 1) := by decide +kernel
theorem dX4_countPlaced_15 : decode cX4_countPlaced 15 = .ok (.iaload, 1) := by decide +kernel
theorem dX4_countPlaced_16 : decode cX4_countPlaced 16 = .ok (.iconst (-1), 1) := by decide +kernel
theorem dX4_countPlaced_17 : decode cX4_countPlaced 17 = .ok (.if_icmp .eq 6, 3) := by decide +kernel
theorem dX4_countPlaced_20 : decode cX4_countPlaced 20 = .ok (.iinc 1 1, 3) := by decide +kernel
theorem dX4_countPlaced_23 : decode cX4_countPlaced 23 = .ok (.iinc 2 1, 3) := by decide +kernel
theorem dX4_countPlaced_26 : decode cX4_countPlaced 26 = .ok (.goto (-22), 3) := by decide +kernel
theorem dX4_countPlaced_29 : decode cX4_countPlaced 29 = .ok (.iload_n 1, 1) := by decide +kernel
theorem dX4_countPlaced_30 : decode cX4_countPlaced 30 = .ok (.ireturn, 1) := by decide +kernel
theorem dX4_countOtherwise_0 : decode cX4_countOtherwise 0 = .ok (.iconst 0, 1) := by decide +kernel
theorem dX4_countOtherwise_1 : decode cX4_countOtherwise 1 = .ok (.istore_n 2, 1) := by decide +kernel
theorem dX4_countOtherwise_2 : decode cX4_countOtherwise 2 = .ok (.iconst 0, 1) := by decide +kernel
theorem dX4_countOtherwise_3 : decode cX4_countOtherwise 3 = .ok (.istore_n 3, 1) := by decide +kernel
theorem dX4_countOtherwise_4 : decode cX4_countOtherwise 4 = .ok (.iload_n 3, 1) := by decide +kernel
theorem dX4_countOtherwise_5 : decode cX4_countOtherwise 5 = .ok (.bipush 7, 2) := by decide +kernel
theorem dX4_countOtherwise_7 : decode cX4_countOtherwise 7 = .ok (.if_icmp .ge 27, 3) := by decide +kernel
theorem dX4_countOtherwise_10 : decode cX4_countOtherwise 10 = .ok (.aload_n 0, 1) := by decide +kernel
theorem dX4_countOtherwise_11 : decode cX4_countOtherwise 11 = .ok (.getfield 9, 3) := by decide +kernel
theorem dX4_countOtherwise_14 : decode cX4_countOtherwise 14 = .ok (.iload_n 3, 1) := by decide +kernel
theorem dX4_countOtherwise_15 : decode cX4_countOtherwise 15 = .ok (.iaload, 1) := by decide +kernel
theorem dX4_countOtherwise_16 : decode cX4_countOtherwise 16 = .ok (.aload_n 1, 1) := by decide +kernel
theorem dX4_countOtherwise_17 : decode cX4_countOtherwise 17 = .ok (.getfield 9, 3) := by decide +kernel
theorem dX4_countOtherwise_20 : decode cX4_countOtherwise 20 = .ok (.iload_n 3, 1) := by decide +kernel
theorem dX4_countOtherwise_21 : decode cX4_countOtherwise 21 = .ok (.iaload, 1) := by decide +kernel
theorem dX4_countOtherwise_22 : decode cX4_countOtherwise 22 = .ok (.if_icmp .eq 6, 3) := by decide +kernel
theorem dX4_countOtherwise_25 : decode cX4_countOtherwise 25 = .ok (.iinc 2 1, 3) := by decide +kernel
theorem dX4_countOtherwise_28 : decode cX4_countOtherwise 28 = .ok (.iinc 3 1, 3) := by decide +kernel
theorem dX4_countOtherwise_31 : decode cX4_countOtherwise 31 = .ok (.goto (-27), 3) := by decide +kernel
theorem dX4_countOtherwise_34 : decode cX4_countOtherwise 34 = .ok (.iload_n 2, 1) := by decide +kernel
theorem dX4_countOtherwise_35 : decode cX4_countOtherwise 35 = .ok (.ireturn, 1) := by decide +kernel
end
section
theorem dX5_init_0 : decode cX5_init 0 = .ok (.aload_n 0, 1) := by decide +kernel
theorem dX5_init_1 : decode cX5_init 1 = .ok (.invokespecial 3, 3) := by decide +kernel
theorem dX5_init_4 : decode cX5_init 4 = .ok (.aload_n 0, 1) := by decide +kernel
theorem dX5_init_5 : decode cX5_init 5 = .ok (.bipush 7, 2) := by decide +kernel
theorem dX5_init_7 : decode cX5_init 7 = .ok (.iconst 5, 1) := by decide +kernel
theorem dX5_init_8 : decode cX5_init 8 = .ok (.multianewarray 9 2, 4) := by decide +kernel
theorem dX5_init_12 : decode cX5_init 12 = .ok (.putfield 11, 3) := by decide +kernel
theorem dX5_init_15 : decode cX5_init 15 = .ok (.aload_n 0, 1) := by decide +kernel
theorem dX5_init_16 : decode cX5_init 16 = .ok (.bipush 7, 2) := by decide +kernel
theorem dX5_init_18 : decode cX5_init 18 = .ok (.newarray .int, 2) := by decide +kernel
theorem dX5_init_20 : decode cX5_init 20 = .ok (.putfield 16, 3) := by decide +kernel
theorem dX5_init_23 : decode cX5_init 23 = .ok (.aload_n 0, 1) := by decide +kernel
theorem dX5_init_24 : decode cX5_init 24 = .ok (.bipush 7, 2) := by decide +kernel
theorem dX5_init_26 : decode cX5_init 26 = .ok (.bipush 7, 2) := by decide +kernel
theorem dX5_init_28 : decode cX5_init 28 = .ok (.multianewarray 9 2, 4) := by decide +kernel
theorem dX5_init_32 : decode cX5_init 32 = .ok (.putfield 20, 3) := by decide +kernel
theorem dX5_init_35 : decode cX5_init 35 = .ok (.aload_n 0, 1) := by decide +kernel
theorem dX5_init_36 : decode cX5_init 36 = .ok (.bipush 7, 2) := by decide +kernel
theorem dX5_init_38 : decode cX5_init 38 = .ok (.bipush 7, 2) := by decide +kernel
theorem dX5_init_40 : decode cX5_init 40 = .ok (.multianewarray 9 2, 4) := by decide +kernel
theorem dX5_init_44 : decode cX5_init 44 = .ok (.putfield 23, 3) := by decide +kernel
theorem dX5_init_47 : decode cX5_init 47 = .ok (.aload_n 0, 1) := by decide +kernel
theorem dX5_init_48 : decode cX5_init 48 = .ok (.iconst 0, 1) := by decide +kernel
theorem dX5_init_49 : decode cX5_init 49 = .ok (.putfield 26, 3) := by decide +kernel
theorem dX5_init_52 : decode cX5_init 52 = .ok (.return_, 1) := by decide +kernel
theorem dX5_enter_0 : decode cX5_enter 0 = .ok (.aload_n 0, 1) := by decide +kernel
theorem dX5_enter_1 : decode cX5_enter 1 = .ok (.getfield 26, 3) := by decide +kernel
theorem dX5_enter_4 : decode cX5_enter 4 = .ok (.istore_n 1, 1) := by decide +kernel
theorem dX5_enter_5 : decode cX5_enter 5 = .ok (.aload_n 0, 1) := by decide +kernel
theorem dX5_enter_6 : decode cX5_enter 6 = .ok (.getfield 11, 3) := by decide +kernel
theorem dX5_enter_9 : decode cX5_enter 9 = .ok (.iload_n 1, 1) := by decide +kernel
theorem dX5_enter_10 : decode cX5_enter 10 = .ok (.aaload, 1) := by decide +kernel
theorem dX5_enter_11 : decode cX5_enter 11 = .ok (.iconst 1, 1) := by decide +kernel
theorem dX5_enter_12 : decode cX5_enter 12 = .ok (.invokestatic 30, 3) := by decide +kernel
theorem dX5_enter_15 : decode cX5_enter 15 = .ok (.aload_n 0, 1) := by decide +kernel
theorem dX5_enter_16 : decode cX5_enter 16 = .ok (.getfield 16, 3) := by decide +kernel
theorem dX5_enter_19 : decode cX5_enter 19 = .ok (.iload_n 1, 1) := by decide +kernel
theorem dX5_enter_20 : decode cX5_enter 20 = .ok (.iconst 1, 1) := by decide +kernel
theorem dX5_enter_21 : decode cX5_enter 21 = .ok (.iastore, 1) := by decide +kernel
theorem dX5_enter_22 : decode cX5_enter 22 = .ok (.aload_n 0, 1) := by decide +kernel
theorem dX5_enter_23 : decode cX5_enter 23 = .ok (.dup, 1) := by decide +kernel
theorem dX5_enter_24 : decode cX5_enter 24 = .ok (.getfield 26, 3) := by decide +kernel
theorem dX5_enter_27 : decode cX5_enter 27 = .ok (.iconst 1, 1) := by decide +kernel
theorem dX5_enter_28 : decode cX5_enter 28 = .ok (.iadd, 1) := by decide +kernel
theorem dX5_enter_29 : decode cX5_enter 29 = .ok (.putfield 26, 3) := by decide +kernel
theorem dX5_enter_32 : decode cX5_enter 32 = .ok (.iload_n 1, 1) := by decide +kernel
theorem dX5_enter_33 : decode cX5_enter 33 = .ok (.ireturn, 1) := by decide +kernel
theorem dX5_needWith_0 : decode cX5_needWith 0 = .ok (.iload_n 3, 1) := by decide +kernel
theorem dX5_needWith_1 : decode cX5_needWith 1 = .ok (.istore 4, 2) := by decide +kernel
theorem dX5_needWith_3 : decode cX5_needWith 3 = .ok (.iconst 0, 1) := by decide +kernel
theorem dX5_needWith_4 : decode cX5_needWith 4 = .ok (.istore 5, 2) := by decide +kernel
theorem dX5_needWith_6 : decode cX5_needWith 6 = .ok (.iload 5, 2) := by decide +kernel
theorem dX5_needWith_8 : decode cX5_needWith 8 = .ok (.iconst 5, 1) := by decide +kernel
theorem dX5_needWith_9 : decode cX5_needWith 9 = .ok (.if_icmp .ge 31, 3) := by decide +kernel
theorem dX5_needWith_12 : decode cX5_needWith 12 = .ok (.iload 5, 2) := by decide +kernel
theorem dX5_needWith_14 : decode cX5_needWith 14 = .ok (.iload_n 2, 1) := by decide +kernel
theorem dX5_needWith_15 : decode cX5_needWith 15 = .ok (.if_icmp .eq 19, 3) := by decide +kernel
theorem dX5_needWith_18 : decode cX5_needWith 18 = .ok (.iload 4, 2) := by decide +kernel
theorem dX5_needWith_20 : decode cX5_needWith 20 = .ok (.aload_n 0, 1) := by decide +kernel
theorem dX5_needWith_21 : decode cX5_needWith 21 = .ok (.getfield 11, 3) := by decide +kernel
theorem dX5_needWith_24 : decode cX5_needWith 24 = .ok (.iload_n 1, 1) := by decide +kernel
theorem dX5_needWith_25 : decode cX5_needWith 25 = .ok (.aaload, 1) := by decide +kernel
theorem dX5_needWith_26 : decode cX5_needWith 26 = .ok (.iload 5, 2) := by decide +kernel
theorem dX5_needWith_28 : decode cX5_needWith 28 = .ok (.iaload, 1) := by decide +kernel
theorem dX5_needWith_29 : decode cX5_needWith 29 = .ok (.invokestatic 36, 3) := by decide +kernel
theorem dX5_needWith_32 : decode cX5_needWith 32 = .ok (.istore 4, 2) := by decide +kernel
theorem dX5_needWith_34 : decode cX5_needWith 34 = .ok (.iinc 5 1, 3) := by decide +kernel
theorem dX5_needWith_37 : decode cX5_needWith 37 = .ok (.goto (-31), 3) := by decide +kernel
theorem dX5_needWith_40 : decode cX5_needWith 40 = .ok (.iload 4, 2) := by decide +kernel
theorem dX5_needWith_42 : decode cX5_needWith 42 = .ok (.ireturn, 1) := by decide +kernel
theorem dX5_changePresent_0 : decode cX5_changePresent 0 = .ok (.aload_n 0, 1) := by decide +kernel
theorem dX5_changePresent_1 : decode cX5_changePresent 1 = .ok (.getfield 11, 3) := by decide +kernel
theorem dX5_changePresent_4 : decode cX5_changePresent 4 = .ok (.iload_n 1, 1) := by decide +kernel
theorem dX5_changePresent_5 : decode cX5_changePresent 5 = .ok (.aaload, 1) := by decide +kernel
theorem dX5_changePresent_6 : decode cX5_changePresent 6 = .ok (.iload_n 2, 1) := by decide +kernel
theorem dX5_changePresent_7 : decode cX5_changePresent 7 = .ok (.iaload, 1) := by decide +kernel
theorem dX5_changePresent_8 : decode cX5_changePresent 8 = .ok (.istore 4, 2) := by decide +kernel
theorem dX5_changePresent_10 : decode cX5_changePresent 10 = .ok (.aload_n 0, 1) := by decide +kernel
theorem dX5_changePresent_11 : decode cX5_changePresent 11 = .ok (.getfield 16, 3) := by decide +kernel
theorem dX5_changePresent_14 : decode cX5_changePresent 14 = .ok (.iload_n 1, 1) := by decide +kernel
theorem dX5_changePresent_15 : decode cX5_changePresent 15 = .ok (.aload_n 0, 1) := by decide +kernel
theorem dX5_changePresent_16 : decode cX5_changePresent 16 = .ok (.iload_n 1, 1) := by decide +kernel
theorem dX5_changePresent_17 : decode cX5_changePresent 17 = .ok (.iload_n 2, 1) := by decide +kernel
theorem dX5_changePresent_18 : decode cX5_changePresent 18 = .ok (.iload_n 3, 1) := by decide +kernel
theorem dX5_changePresent_19 : decode cX5_changePresent 19 = .ok (.invokevirtual 42, 3) := by decide +kernel
theorem dX5_changePresent_22 : decode cX5_changePresent 22 = .ok (.iastore, 1) := by decide +kernel
theorem dX5_changePresent_23 : decode cX5_changePresent 23 = .ok (.aload_n 0, 1) := by decide +kernel
theorem dX5_changePresent_24 : decode cX5_changePresent 24 = .ok (.getfield 11, 3) := by decide +kernel
theorem dX5_changePresent_27 : decode cX5_changePresent 27 = .ok (.iload_n 1, 1) := by decide +kernel
theorem dX5_changePresent_28 : decode cX5_changePresent 28 = .ok (.aaload, 1) := by decide +kernel
theorem dX5_changePresent_29 : decode cX5_changePresent 29 = .ok (.iload_n 2, 1) := by decide +kernel
theorem dX5_changePresent_30 : decode cX5_changePresent 30 = .ok (.iload_n 3, 1) := by decide +kernel
theorem dX5_changePresent_31 : decode cX5_changePresent 31 = .ok (.iastore, 1) := by decide +kernel
theorem dX5_changePresent_32 : decode cX5_changePresent 32 = .ok (.iload 4, 2) := by decide +kernel
theorem dX5_changePresent_34 : decode cX5_changePresent 34 = .ok (.ireturn, 1) := by decide +kernel
theorem dX5_changeTie_0 : decode cX5_changeTie 0 = .ok (.aload_n 0, 1) := by decide +kernel
theorem dX5_changeTie_1 : decode cX5_changeTie 1 = .ok (.getfield 23, 3) := by decide +kernel
theorem dX5_changeTie_4 : decode cX5_changeTie 4 = .ok (.iload_n 1, 1) := by decide +kernel
theorem dX5_changeTie_5 : decode cX5_changeTie 5 = .ok (.aaload, 1) := by decide +kernel
theorem dX5_changeTie_6 : decode cX5_changeTie 6 = .ok (.iload_n 2, 1) := by decide +kernel
theorem dX5_changeTie_7 : decode cX5_changeTie 7 = .ok (.iaload, 1) := by decide +kernel
theorem dX5_changeTie_8 : decode cX5_changeTie 8 = .ok (.istore 4, 2) := by decide +kernel
theorem dX5_changeTie_10 : decode cX5_changeTie 10 = .ok (.aload_n 0, 1) := by decide +kernel
theorem dX5_changeTie_11 : decode cX5_changeTie 11 = .ok (.getfield 23, 3) := by decide +kernel
theorem dX5_changeTie_14 : decode cX5_changeTie 14 = .ok (.iload_n 1, 1) := by decide +kernel
theorem dX5_changeTie_15 : decode cX5_changeTie 15 = .ok (.aaload, 1) := by decide +kernel
theorem dX5_changeTie_16 : decode cX5_changeTie 16 = .ok (.iload_n 2, 1) := by decide +kernel
theorem dX5_changeTie_17 : decode cX5_changeTie 17 = .ok (.iload_n 3, 1) := by decide +kernel
theorem dX5_changeTie_18 : decode cX5_changeTie 18 = .ok (.iastore, 1) := by decide +kernel
theorem dX5_changeTie_19 : decode cX5_changeTie 19 = .ok (.aload_n 0, 1) := by decide +kernel
theorem dX5_changeTie_20 : decode cX5_changeTie 20 = .ok (.getfield 23, 3) := by decide +kernel
theorem dX5_changeTie_23 : decode cX5_changeTie 23 = .ok (.iload_n 2, 1) := by decide +kernel
theorem dX5_changeTie_24 : decode cX5_changeTie 24 = .ok (.aaload, 1) := by decide +kernel
theorem dX5_changeTie_25 : decode cX5_changeTie 25 = .ok (.iload_n 1, 1) := by decide +kernel
theorem dX5_changeTie_26 : decode cX5_changeTie 26 = .ok (.iload_n 3, 1) := by decide +kernel
theorem dX5_changeTie_27 : decode cX5_changeTie 27 = .ok (.iastore, 1) := by decide +kernel
theorem dX5_changeTie_28 : decode cX5_changeTie 28 = .ok (.iload 4, 2) := by decide +kernel
theorem dX5_changeTie_30 : decode cX5_changeTie 30 = .ok (.ireturn, 1) := by decide +kernel
theorem dX5_shareOf_0 : decode cX5_shareOf 0 = .ok (.aload_n 0, 1) := by decide +kernel
theorem dX5_shareOf_1 : decode cX5_shareOf 1 = .ok (.getfield 16, 3) := by decide +kernel
theorem dX5_shareOf_4 : decode cX5_shareOf 4 = .ok (.iload_n 1, 1) := by decide +kernel
theorem dX5_shareOf_5 : decode cX5_shareOf 5 = .ok (.iaload, 1) := by decide +kernel
theorem dX5_shareOf_6 : decode cX5_shareOf 6 = .ok (.istore_n 2, 1) := by decide +kernel
theorem dX5_shareOf_7 : decode cX5_shareOf 7 = .ok (.iload_n 2, 1) := by decide +kernel
theorem dX5_shareOf_8 : decode cX5_shareOf 8 = .ok (.ifCond .gt 6, 3) := by decide +kernel
theorem dX5_shareOf_11 : decode cX5_shareOf 11 = .ok (.bipush 100, 2) := by decide +kernel
theorem dX5_shareOf_13 : decode cX5_shareOf 13 = .ok (.ireturn, 1) := by decide +kernel
theorem dX5_shareOf_14 : decode cX5_shareOf 14 = .ok (.iconst 0, 1) := by decide +kernel
theorem dX5_shareOf_15 : decode cX5_shareOf 15 = .ok (.istore_n 3, 1) := by decide +kernel
theorem dX5_shareOf_16 : decode cX5_shareOf 16 = .ok (.iconst 0, 1) := by decide +kernel
theorem dX5_shareOf_17 : decode cX5_shareOf 17 = .ok (.istore 4, 2) := by decide +kernel
theorem dX5_shareOf_19 : decode cX5_shareOf 19 = .ok (.iload 4, 2) := by decide +kernel
theorem dX5_shareOf_21 : decode cX5_shareOf 21 = .ok (.iconst 5, 1) := by decide +kernel
theorem dX5_shareOf_22 : decode cX5_shareOf 22 = .ok (.if_icmp .ge 21, 3) := by decide +kernel
theorem dX5_shareOf_25 : decode cX5_shareOf 25 = .ok (.iload_n 3, 1) := by decide +kernel
theorem dX5_shareOf_26 : decode cX5_shareOf 26 = .ok (.aload_n 0, 1) := by decide +kernel
theorem dX5_shareOf_27 : decode cX5_shareOf 27 = .ok (.getfield 11, 3) := by decide +kernel
theorem dX5_shareOf_30 : decode cX5_shareOf 30 = .ok (.iload_n 1, 1) := by decide +kernel
theorem dX5_shareOf_31 : decode cX5_shareOf 31 = .ok (.aaload, 1) := by decide +kernel
theorem dX5_shareOf_32 : decode cX5_shareOf 32 = .ok (.iload 4, 2) := by decide +kernel
theorem dX5_shareOf_34 : decode cX5_shareOf 34 = .ok (.iaload, 1) := by decide +kernel
theorem dX5_shareOf_35 : decode cX5_shareOf 35 = .ok (.iadd, 1) := by decide +kernel
theorem dX5_shareOf_36 : decode cX5_shareOf 36 = .ok (.istore_n 3, 1) := by decide +kernel
theorem dX5_shareOf_37 : decode cX5_shareOf 37 = .ok (.iinc 4 1, 3) := by decide +kernel
theorem dX5_shareOf_40 : decode cX5_shareOf 40 = .ok (.goto (-21), 3) := by decide +kernel
theorem dX5_shareOf_43 : decode cX5_shareOf 43 = .ok (.iload_n 3, 1) := by decide +kernel
theorem dX5_shareOf_44 : decode cX5_shareOf 44 = .ok (.bipush 100, 2) := by decide +kernel
theorem dX5_shareOf_46 : decode cX5_shareOf 46 = .ok (.imul, 1) := by decide +kernel
theorem dX5_shareOf_47 : decode cX5_shareOf 47 = .ok (.iconst 5, 1) := by decide +kernel
theorem dX5_shareOf_48 : decode cX5_shareOf 48 = .ok (.iload_n 2, 1) := by decide +kernel
theorem dX5_shareOf_49 : decode cX5_shareOf 49 = .ok (.imul, 1) := by decide +kernel
theorem dX5_shareOf_50 : decode cX5_shareOf 50 = .ok (.idiv, 1) := by decide +kernel
theorem dX5_shareOf_51 : decode cX5_shareOf 51 = .ok (.ireturn, 1) := by decide +kernel
end
section
theorem dX6_init_0 : decode cX6_init 0 = .ok (.aload_n 0, 1) := by decide +kernel
theorem dX6_init_1 : decode cX6_init 1 = .ok (.invokespecial 3, 3) := by decide +kernel
theorem dX6_init_4 : decode cX6_init 4 = .ok (.aload_n 0, 1) := by decide +kernel
theorem dX6_init_5 : decode cX6_init 5 = .ok (.new 9, 3) := by decide +kernel
theorem dX6_init_8 : decode cX6_init 8 = .ok (.dup, 1) := by decide +kernel
theorem dX6_init_9 : decode cX6_init 9 = .ok (.invokespecial 11, 3) := by decide +kernel
theorem dX6_init_12 : decode cX6_init 12 = .ok (.putfield 12, 3) := by decide +kernel
theorem dX6_init_15 : decode cX6_init 15 = .ok (.aload_n 0, 1) := by decide +kernel
theorem dX6_init_16 : decode cX6_init 16 = .ok (.new 9, 3) := by decide +kernel
theorem dX6_init_19 : decode cX6_init 19 = .ok (.dup, 1) := by decide +kernel
theorem dX6_init_20 : decode cX6_init 20 = .ok (.invokespecial 11, 3) := by decide +kernel
theorem dX6_init_23 : decode cX6_init 23 = .ok (.putfield 18, 3) := by decide +kernel
theorem dX6_init_26 : decode cX6_init 26 = .ok (.aload_n 0, 1) := by decide +kernel
theorem dX6_init_27 : decode cX6_init 27 = .ok (.bipush 7, 2) := by decide +kernel
theorem dX6_init_29 : decode cX6_init 29 = .ok (.newarray .int, 2) := by decide +kernel
theorem dX6_init_31 : decode cX6_init 31 = .ok (.putfield 21, 3) := by decide +kernel
theorem dX6_init_34 : decode cX6_init 34 = .ok (.aload_n 0, 1) := by decide +kernel
theorem dX6_init_35 : decode cX6_init 35 = .ok (.new 25, 3) := by decide +kernel
theorem dX6_init_38 : decode cX6_init 38 = .ok (.dup, 1) := by decide +kernel
theorem dX6_init_39 : decode cX6_init 39 = .ok (.invokespecial 27, 3) := by decide +kernel
theorem dX6_init_42 : decode cX6_init 42 = .ok (.putfield 28, 3) := by decide +kernel
theorem dX6_init_45 : decode cX6_init 45 = .ok (.return_, 1) := by decide +kernel
theorem dX6_run_0 : decode cX6_run 0 = .ok (.aload_n 0, 1) := by decide +kernel
theorem dX6_run_1 : decode cX6_run 1 = .ok (.getfield 12, 3) := by decide +kernel
theorem dX6_run_4 : decode cX6_run 4 = .ok (.aload_n 2, 1) := by decide +kernel
theorem dX6_run_5 : decode cX6_run 5 = .ok (.invokevirtual 32, 3) := by decide +kernel
theorem dX6_run_8 : decode cX6_run 8 = .ok (.aload_n 0, 1) := by decide +kernel
theorem dX6_run_9 : decode cX6_run 9 = .ok (.getfield 18, 3) := by decide +kernel
theorem dX6_run_12 : decode cX6_run 12 = .ok (.aload_n 2, 1) := by decide +kernel
theorem dX6_run_13 : decode cX6_run 13 = .ok (.invokevirtual 32, 3) := by decide +kernel
theorem dX6_run_16 : decode cX6_run 16 = .ok (.aload_n 0, 1) := by decide +kernel
theorem dX6_run_17 : decode cX6_run 17 = .ok (.getfield 21, 3) := by decide +kernel
theorem dX6_run_20 : decode cX6_run 20 = .ok (.iconst 0, 1) := by decide +kernel
theorem dX6_run_21 : decode cX6_run 21 = .ok (.invokestatic 36, 3) := by decide +kernel
theorem dX6_run_24 : decode cX6_run 24 = .ok (.aload_n 1, 1) := by decide +kernel
theorem dX6_run_25 : decode cX6_run 25 = .ok (.aload_n 2, 1) := by decide +kernel
theorem dX6_run_26 : decode cX6_run 26 = .ok (.invokevirtual 42, 3) := by decide +kernel
theorem dX6_run_29 : decode cX6_run 29 = .ok (.istore 5, 2) := by decide +kernel
theorem dX6_run_31 : decode cX6_run 31 = .ok (.iconst 0, 1) := by decide +kernel
theorem dX6_run_32 : decode cX6_run 32 = .ok (.istore 6, 2) := by decide +kernel
theorem dX6_run_34 : decode cX6_run 34 = .ok (.iload 6, 2) := by decide +kernel
theorem dX6_run_36 : decode cX6_run 36 = .ok (.iload_n 3, 1) := by decide +kernel
theorem dX6_run_37 : decode cX6_run 37 = .ok (.if_icmp .ge 72, 3) := by decide +kernel
theorem dX6_run_40 : decode cX6_run 40 = .ok (.aload_n 0, 1) := by decide +kernel
theorem dX6_run_41 : decode cX6_run 41 = .ok (.aload_n 1, 1) := by decide +kernel
theorem dX6_run_42 : decode cX6_run 42 = .ok (.iload 6, 2) := by decide +kernel
theorem dX6_run_44 : decode cX6_run 44 = .ok (.invokevirtual 48, 3) := by decide +kernel
theorem dX6_run_47 : decode cX6_run 47 = .ok (.aload_n 0, 1) := by decide +kernel
theorem dX6_run_48 : decode cX6_run 48 = .ok (.getfield 28, 3) := by decide +kernel
theorem dX6_run_51 : decode cX6_run 51 = .ok (.getfield 52, 3) := by decide +kernel
theorem dX6_run_54 : decode cX6_run 54 = .ok (.ifCond .ne 6, 3) := by decide +kernel
theorem dX6_run_57 : decode cX6_run 57 = .ok (.goto 52, 3) := by decide +kernel
theorem dX6_run_60 : decode cX6_run 60 = .ok (.aload_n 0, 1) := by decide +kernel
theorem dX6_run_61 : decode cX6_run 61 = .ok (.iload 6, 2) := by decide +kernel
theorem dX6_run_63 : decode cX6_run 63 = .ok (.iload 4, 2) := by decide +kernel
theorem dX6_run_65 : decode cX6_run 65 = .ok (.iadd, 1) := by decide +kernel
theorem dX6_run_66 : decode cX6_run 66 = .ok (.iconst 1, 1) := by decide +kernel
theorem dX6_run_67 : decode cX6_run 67 = .ok (.iadd, 1) := by decide +kernel
theorem dX6_run_68 : decode cX6_run 68 = .ok (.invokevirtual 56, 3) := by decide +kernel
theorem dX6_run_71 : decode cX6_run 71 = .ok (.aload_n 0, 1) := by decide +kernel
theorem dX6_run_72 : decode cX6_run 72 = .ok (.getfield 28, 3) := by decide +kernel
theorem dX6_run_75 : decode cX6_run 75 = .ok (.getfield 60, 3) := by decide +kernel
theorem dX6_run_78 : decode cX6_run 78 = .ok (.iload 5, 2) := by decide +kernel
theorem dX6_run_80 : decode cX6_run 80 = .ok (.if_icmp .ge 23, 3) := by decide +kernel
theorem dX6_run_83 : decode cX6_run 83 = .ok (.aload_n 0, 1) := by decide +kernel
theorem dX6_run_84 : decode cX6_run 84 = .ok (.getfield 28, 3) := by decide +kernel
theorem dX6_run_87 : decode cX6_run 87 = .ok (.getfield 60, 3) := by decide +kernel
theorem dX6_run_90 : decode cX6_run 90 = .ok (.istore 5, 2) := by decide +kernel
theorem dX6_run_92 : decode cX6_run 92 = .ok (.aload_n 0, 1) := by decide +kernel
theorem dX6_run_93 : decode cX6_run 93 = .ok (.getfield 18, 3) := by decide +kernel
theorem dX6_run_96 : decode cX6_run 96 = .ok (.aload_n 0, 1) := by decide +kernel
theorem dX6_run_97 : decode cX6_run 97 = .ok (.getfield 12, 3) := by decide +kernel
theorem dX6_run_100 : decode cX6_run 100 = .ok (.invokevirtual 32, 3) := by decide +kernel
theorem dX6_run_103 : decode cX6_run 103 = .ok (.iinc 6 1, 3) := by decide +kernel
theorem dX6_run_106 : decode cX6_run 106 = .ok (.goto (-72), 3) := by decide +kernel
theorem dX6_run_109 : decode cX6_run 109 = .ok (.iload 5, 2) := by decide +kernel
theorem dX6_run_111 : decode cX6_run 111 = .ok (.ireturn, 1) := by decide +kernel
theorem dX6_chooseChange_0 : decode cX6_chooseChange 0 = .ok (.aload_n 0, 1) := by decide +kernel
theorem dX6_chooseChange_1 : decode cX6_chooseChange 1 = .ok (.getfield 28, 3) := by decide +kernel
theorem dX6_chooseChange_4 : decode cX6_chooseChange 4 = .ok (.iconst 0, 1) := by decide +kernel
theorem dX6_chooseChange_5 : decode cX6_chooseChange 5 = .ok (.putfield 52, 3) := by decide +kernel
theorem dX6_chooseChange_8 : decode cX6_chooseChange 8 = .ok (.aload_n 1, 1) := by decide +kernel
theorem dX6_chooseChange_9 : decode cX6_chooseChange 9 = .ok (.getfield 64, 3) := by decide +kernel
theorem dX6_chooseChange_12 : decode cX6_chooseChange 12 = .ok (.getfield 68, 3) := by decide +kernel
theorem dX6_chooseChange_15 : decode cX6_chooseChange 15 = .ok (.istore_n 3, 1) := by decide +kernel
theorem dX6_chooseChange_16 : decode cX6_chooseChange 16 = .ok (.iconst 0, 1) := by decide +kernel
theorem dX6_chooseChange_17 : decode cX6_chooseChange 17 = .ok (.istore 4, 2) := by decide +kernel
theorem dX6_chooseChange_19 : decode cX6_chooseChange 19 = .ok (.iload 4, 2) := by decide +kernel
theorem dX6_chooseChange_21 : decode cX6_chooseChange 21 = .ok (.iload_n 3, 1) := by decide +kernel
theorem dX6_chooseChange_22 : decode cX6_chooseChange 22 = .ok (.if_icmp .ge 58, 3) := by decide +kernel
theorem dX6_chooseChange_25 : decode cX6_chooseChange 25 = .ok (.iload 4, 2) := by decide +kernel
theorem dX6_chooseChange_27 : decode cX6_chooseChange 27 = .ok (.iconst 1, 1) := by decide +kernel
theorem dX6_chooseChange_28 : decode cX6_chooseChange 28 = .ok (.iadd, 1) := by decide +kernel
theorem dX6_chooseChange_29 : decode cX6_chooseChange 29 = .ok (.istore 5, 2) := by decide +kernel
theorem dX6_chooseChange_31 : decode cX6_chooseChange 31 = .ok (.iload 5, 2) := by decide +kernel
theorem dX6_chooseChange_33 : decode cX6_chooseChange 33 = .ok (.iload_n 3, 1) := by decide +kernel
theorem dX6_chooseChange_34 : decode cX6_chooseChange 34 = .ok (.if_icmp .ge 40, 3) := by decide +kernel
theorem dX6_chooseChange_37 : decode cX6_chooseChange 37 = .ok (.aload_n 0, 1) := by decide +kernel
theorem dX6_chooseChange_38 : decode cX6_chooseChange 38 = .ok (.getfield 21, 3) := by decide +kernel
theorem dX6_chooseChange_41 : decode cX6_chooseChange 41 = .ok (.iload 4, 2) := by decide +kernel
theorem dX6_chooseChange_43 : decode cX6_chooseChange 43 = .ok (.iaload, 1) := by decide +kernel
theorem dX6_chooseChange_44 : decode cX6_chooseChange 44 = .ok (.iload_n 2, 1) := by decide +kernel
theorem dX6_chooseChange_45 : decode cX6_chooseChange 45 = .ok (.if_icmp .gt 23, 3) := by decide +kernel
theorem dX6_chooseChange_48 : decode cX6_chooseChange 48 = .ok (.aload_n 0, 1) := by decide +kernel
theorem dX6_chooseChange_49 : decode cX6_chooseChange 49 = .ok (.getfield 21, 3) := by decide +kernel
theorem dX6_chooseChange_52 : decode cX6_chooseChange 52 = .ok (.iload 5, 2) := by decide +kernel
theorem dX6_chooseChange_54 : decode cX6_chooseChange 54 = .ok (.iaload, 1) := by decide +kernel
theorem dX6_chooseChange_55 : decode cX6_chooseChange 55 = .ok (.iload_n 2, 1) := by decide +kernel
theorem dX6_chooseChange_56 : decode cX6_chooseChange 56 = .ok (.if_icmp .gt 12, 3) := by decide +kernel
theorem dX6_chooseChange_59 : decode cX6_chooseChange 59 = .ok (.aload_n 0, 1) := by decide +kernel
theorem dX6_chooseChange_60 : decode cX6_chooseChange 60 = .ok (.aload_n 1, 1) := by decide +kernel
theorem dX6_chooseChange_61 : decode cX6_chooseChange 61 = .ok (.iload 4, 2) := by decide +kernel
theorem dX6_chooseChange_63 : decode cX6_chooseChange 63 = .ok (.iload 5, 2) := by decide +kernel
theorem dX6_chooseChange_65 : decode cX6_chooseChange 65 = .ok (.invokevirtual 73, 3) := by decide +kernel
theorem dX6_chooseChange_68 : decode cX6_chooseChange 68 = .ok (.iinc 5 1, 3) := by decide +kernel
theorem dX6_chooseChange_71 : decode cX6_chooseChange 71 = .ok (.goto (-40), 3) := by decide +kernel
theorem dX6_chooseChange_74 : decode cX6_chooseChange 74 = .ok (.iinc 4 1, 3) := by decide +kernel
theorem dX6_chooseChange_77 : decode cX6_chooseChange 77 = .ok (.goto (-58), 3) := by decide +kernel
theorem dX6_chooseChange_80 : decode cX6_chooseChange 80 = .ok (.iconst 0, 1) := by decide +kernel
theorem dX6_chooseChange_81 : decode cX6_chooseChange 81 = .ok (.istore 4, 2) := by decide +kernel
theorem dX6_chooseChange_83 : decode cX6_chooseChange 83 = .ok (.iload 4, 2) := by decide +kernel
theorem dX6_chooseChange_85 : decode cX6_chooseChange 85 = .ok (.iload_n 3, 1) := by decide +kernel
theorem dX6_chooseChange_86 : decode cX6_chooseChange 86 = .ok (.if_icmp .ge 63, 3) := by decide +kernel
theorem dX6_chooseChange_89 : decode cX6_chooseChange 89 = .ok (.iconst 0, 1) := by decide +kernel
theorem dX6_chooseChange_90 : decode cX6_chooseChange 90 = .ok (.istore 5, 2) := by decide +kernel
theorem dX6_chooseChange_92 : decode cX6_chooseChange 92 = .ok (.iload 5, 2) := by decide +kernel
theorem dX6_chooseChange_94 : decode cX6_chooseChange 94 = .ok (.aload_n 1, 1) := by decide +kernel
theorem dX6_chooseChange_95 : decode cX6_chooseChange 95 = .ok (.getfield 77, 3) := by decide +kernel
theorem dX6_chooseChange_98 : decode cX6_chooseChange 98 = .ok (.getfield 81, 3) := by decide +kernel
theorem dX6_chooseChange_101 : decode cX6_chooseChange 101 = .ok (.if_icmp .ge 42, 3) := by decide +kernel
theorem dX6_chooseChange_104 : decode cX6_chooseChange 104 = .ok (.aload_n 0, 1) := by decide +kernel
theorem dX6_chooseChange_105 : decode cX6_chooseChange 105 = .ok (.getfield 21, 3) := by decide +kernel
theorem dX6_chooseChange_108 : decode cX6_chooseChange 108 = .ok (.iload 4, 2) := by decide +kernel
theorem dX6_chooseChange_110 : decode cX6_chooseChange 110 = .ok (.iaload, 1) := by decide +kernel
theorem dX6_chooseChange_111 : decode cX6_chooseChange 111 = .ok (.iload_n 2, 1) := by decide +kernel
theorem dX6_chooseChange_112 : decode cX6_chooseChange 112 = .ok (.if_icmp .gt 25, 3) := by decide +kernel
theorem dX6_chooseChange_115 : decode cX6_chooseChange 115 = .ok (.aload_n 0, 1) := by decide +kernel
theorem dX6_chooseChange_116 : decode cX6_chooseChange 116 = .ok (.getfield 12, 3) := by decide +kernel
theorem dX6_chooseChange_119 : decode cX6_chooseChange 119 = .ok (.iload 5, 2) := by decide +kernel
theorem dX6_chooseChange_121 : decode cX6_chooseChange 121 = .ok (.invokevirtual 86, 3) := by decide +kernel
theorem dX6_chooseChange_124 : decode cX6_chooseChange 124 = .ok (.iconst (-1), 1) := by decide +kernel
theorem dX6_chooseChange_125 : decode cX6_chooseChange 125 = .ok (.if_icmp .ne 12, 3) := by decide +kernel
theorem dX6_chooseChange_128 : decode cX6_chooseChange 128 = .ok (.aload_n 0, 1) := by decide +kernel
theorem dX6_chooseChange_129 : decode cX6_chooseChange 129 = .ok (.aload_n 1, 1) := by decide +kernel
theorem dX6_chooseChange_130 : decode cX6_chooseChange 130 = .ok (.iload 4, 2) := by decide +kernel
theorem dX6_chooseChange_132 : decode cX6_chooseChange 132 = .ok (.iload 5, 2) := by decide +kernel
theorem dX6_chooseChange_134 : decode cX6_chooseChange 134 = .ok (.invokevirtual 90, 3) := by decide +kernel
theorem dX6_chooseChange_137 : decode cX6_chooseChange 137 = .ok (.iinc 5 1, 3) := by decide +kernel
theorem dX6_chooseChange_140 : decode cX6_chooseChange 140 = .ok (.goto (-48), 3) := by decide +kernel
theorem dX6_chooseChange_143 : decode cX6_chooseChange 143 = .ok (.iinc 4 1, 3) := by decide +kernel
theorem dX6_chooseChange_146 : decode cX6_chooseChange 146 = .ok (.goto (-63), 3) := by decide +kernel
theorem dX6_chooseChange_149 : decode cX6_chooseChange 149 = .ok (.return_, 1) := by decide +kernel
theorem dX6_weighExchange_0 : decode cX6_weighExchange 0 = .ok (.aload_n 0, 1) := by decide +kernel
theorem dX6_weighExchange_1 : decode cX6_weighExchange 1 = .ok (.getfield 12, 3) := by decide +kernel
theorem dX6_weighExchange_4 : decode cX6_weighExchange 4 = .ok (.iload_n 2, 1) := by decide +kernel
theorem dX6_weighExchange_5 : decode cX6_weighExchange 5 = .ok (.invokevirtual 93, 3) := by decide +kernel
theorem dX6_weighExchange_8 : decode cX6_weighExchange 8 = .ok (.istore 4, 2) := by decide +kernel
theorem dX6_weighExchange_10 : decode cX6_weighExchange 10 = .ok (.aload_n 0, 1) := by decide +kernel
theorem dX6_weighExchange_11 : decode cX6_weighExchange 11 = .ok (.getfield 12, 3) := by decide +kernel
theorem dX6_weighExchange_14 : decode cX6_weighExchange 14 = .ok (.iload_n 3, 1) := by decide +kernel
theorem dX6_weighExchange_15 : decode cX6_weighExchange 15 = .ok (.invokevirtual 93, 3) := by decide +kernel
theorem dX6_weighExchange_18 : decode cX6_weighExchange 18 = .ok (.istore 5, 2) := by decide +kernel
theorem dX6_weighExchange_20 : decode cX6_weighExchange 20 = .ok (.iload 4, 2) := by decide +kernel
theorem dX6_weighExchange_22 : decode cX6_weighExchange 22 = .ok (.iconst (-1), 1) := by decide +kernel
theorem dX6_weighExchange_23 : decode cX6_weighExchange 23 = .ok (.if_icmp .eq 9, 3) := by decide +kernel
theorem dX6_weighExchange_26 : decode cX6_weighExchange 26 = .ok (.iload 5, 2) := by decide +kernel
theorem dX6_weighExchange_28 : decode cX6_weighExchange 28 = .ok (.iconst (-1), 1) := by decide +kernel
theorem dX6_weighExchange_29 : decode cX6_weighExchange 29 = .ok (.if_icmp .ne 4, 3) := by decide +kernel
theorem dX6_weighExchange_32 : decode cX6_weighExchange 32 = .ok (.return_, 1) := by decide +kernel
theorem dX6_weighExchange_33 : decode cX6_weighExchange 33 = .ok (.aload_n 1, 1) := by decide +kernel
theorem dX6_weighExchange_34 : decode cX6_weighExchange 34 = .ok (.iload_n 2, 1) := by decide +kernel
theorem dX6_weighExchange_35 : decode cX6_weighExchange 35 = .ok (.iload 5, 2) := by decide +kernel
theorem dX6_weighExchange_37 : decode cX6_weighExchange 37 = .ok (.invokevirtual 96, 3) := by decide +kernel
theorem dX6_weighExchange_40 : decode cX6_weighExchange 40 = .ok (.ifCond .eq 50, 3) := by decide +kernel
theorem dX6_weighExchange_43 : decode cX6_weighExchange 43 = .ok (.aload_n 1, 1) := by decide +kernel
theorem dX6_weighExchange_44 : decode cX6_weighExchange 44 = .ok (.iload_n 3, 1) := by decide +kernel
theorem dX6_weighExchange_45 : decode cX6_weighExchange 45 = .ok (.iload 4, 2) := by decide +kernel
theorem dX6_weighExchange_47 : decode cX6_weighExchange 47 = .ok (.invokevirtual 96, 3) := by decide +kernel
theorem dX6_weighExchange_50 : decode cX6_weighExchange 50 = .ok (.ifCond .eq 40, 3) := by decide +kernel
theorem dX6_weighExchange_53 : decode cX6_weighExchange 53 = .ok (.aload_n 0, 1) := by decide +kernel
theorem dX6_weighExchange_54 : decode cX6_weighExchange 54 = .ok (.getfield 12, 3) := by decide +kernel
theorem dX6_weighExchange_57 : decode cX6_weighExchange 57 = .ok (.iload_n 2, 1) := by decide +kernel
theorem dX6_weighExchange_58 : decode cX6_weighExchange 58 = .ok (.iload_n 3, 1) := by decide +kernel
theorem dX6_weighExchange_59 : decode cX6_weighExchange 59 = .ok (.invokevirtual 100, 3) := by decide +kernel
theorem dX6_weighExchange_62 : decode cX6_weighExchange 62 = .ok (.aload_n 0, 1) := by decide +kernel
theorem dX6_weighExchange_63 : decode cX6_weighExchange 63 = .ok (.getfield 28, 3) := by decide +kernel
theorem dX6_weighExchange_66 : decode cX6_weighExchange 66 = .ok (.iload_n 2, 1) := by decide +kernel
theorem dX6_weighExchange_67 : decode cX6_weighExchange 67 = .ok (.iload_n 3, 1) := by decide +kernel
theorem dX6_weighExchange_68 : decode cX6_weighExchange 68 = .ok (.iload 5, 2) := by decide +kernel
theorem dX6_weighExchange_70 : decode cX6_weighExchange 70 = .ok (.aload_n 1, 1) := by decide +kernel
theorem dX6_weighExchange_71 : decode cX6_weighExchange 71 = .ok (.aload_n 0, 1) := by decide +kernel
theorem dX6_weighExchange_72 : decode cX6_weighExchange 72 = .ok (.getfield 12, 3) := by decide +kernel
theorem dX6_weighExchange_75 : decode cX6_weighExchange 75 = .ok (.invokevirtual 42, 3) := by decide +kernel
theorem dX6_weighExchange_78 : decode cX6_weighExchange 78 = .ok (.invokevirtual 104, 3) := by decide +kernel
theorem dX6_weighExchange_81 : decode cX6_weighExchange 81 = .ok (.aload_n 0, 1) := by decide +kernel
theorem dX6_weighExchange_82 : decode cX6_weighExchange 82 = .ok (.getfield 12, 3) := by decide +kernel
theorem dX6_weighExchange_85 : decode cX6_weighExchange 85 = .ok (.iload_n 2, 1) := by decide +kernel
theorem dX6_weighExchange_86 : decode cX6_weighExchange 86 = .ok (.iload_n 3, 1) := by decide +kernel
theorem dX6_weighExchange_87 : decode cX6_weighExchange 87 = .ok (.invokevirtual 100, 3) := by decide +kernel
theorem dX6_weighExchange_90 : decode cX6_weighExchange 90 = .ok (.return_, 1) := by decide +kernel
theorem dX6_weighMove_0 : decode cX6_weighMove 0 = .ok (.aload_n 1, 1) := by decide +kernel
theorem dX6_weighMove_1 : decode cX6_weighMove 1 = .ok (.iload_n 2, 1) := by decide +kernel
theorem dX6_weighMove_2 : decode cX6_weighMove 2 = .ok (.iload_n 3, 1) := by decide +kernel
theorem dX6_weighMove_3 : decode cX6_weighMove 3 = .ok (.invokevirtual 96, 3) := by decide +kernel
theorem dX6_weighMove_6 : decode cX6_weighMove 6 = .ok (.ifCond .eq 50, 3) := by decide +kernel
theorem dX6_weighMove_9 : decode cX6_weighMove 9 = .ok (.aload_n 0, 1) := by decide +kernel
theorem dX6_weighMove_10 : decode cX6_weighMove 10 = .ok (.getfield 12, 3) := by decide +kernel
theorem dX6_weighMove_13 : decode cX6_weighMove 13 = .ok (.iload_n 2, 1) := by decide +kernel
theorem dX6_weighMove_14 : decode cX6_weighMove 14 = .ok (.invokevirtual 93, 3) := by decide +kernel
theorem dX6_weighMove_17 : decode cX6_weighMove 17 = .ok (.istore 4, 2) := by decide +kernel
theorem dX6_weighMove_19 : decode cX6_weighMove 19 = .ok (.aload_n 0, 1) := by decide +kernel
theorem dX6_weighMove_20 : decode cX6_weighMove 20 = .ok (.getfield 12, 3) := by decide +kernel
theorem dX6_weighMove_23 : decode cX6_weighMove 23 = .ok (.iload_n 2, 1) := by decide +kernel
theorem dX6_weighMove_24 : decode cX6_weighMove 24 = .ok (.iload_n 3, 1) := by decide +kernel
theorem dX6_weighMove_25 : decode cX6_weighMove 25 = .ok (.invokevirtual 108, 3) := by decide +kernel
theorem dX6_weighMove_28 : decode cX6_weighMove 28 = .ok (.aload_n 0, 1) := by decide +kernel
theorem dX6_weighMove_29 : decode cX6_weighMove 29 = .ok (.getfield 28, 3) := by decide +kernel
theorem dX6_weighMove_32 : decode cX6_weighMove 32 = .ok (.iload_n 2, 1) := by decide +kernel
theorem dX6_weighMove_33 : decode cX6_weighMove 33 = .ok (.iconst (-1), 1) := by decide +kernel
theorem dX6_weighMove_34 : decode cX6_weighMove 34 = .ok (.iload_n 3, 1) := by decide +kernel
theorem dX6_weighMove_35 : decode cX6_weighMove 35 = .ok (.aload_n 1, 1) := by decide +kernel
theorem dX6_weighMove_36 : decode cX6_weighMove 36 = .ok (.aload_n 0, 1) := by decide +kernel
theorem dX6_weighMove_37 : decode cX6_weighMove 37 = .ok (.getfield 12, 3) := by decide +kernel
theorem dX6_weighMove_40 : decode cX6_weighMove 40 = .ok (.invokevirtual 42, 3) := by decide +kernel
theorem dX6_weighMove_43 : decode cX6_weighMove 43 = .ok (.invokevirtual 104, 3) := by decide +kernel
theorem dX6_weighMove_46 : decode cX6_weighMove 46 = .ok (.aload_n 0, 1) := by decide +kernel
theorem dX6_weighMove_47 : decode cX6_weighMove 47 = .ok (.getfield 12, 3) := by decide +kernel
theorem dX6_weighMove_50 : decode cX6_weighMove 50 = .ok (.iload_n 2, 1) := by decide +kernel
theorem dX6_weighMove_51 : decode cX6_weighMove 51 = .ok (.iload 4, 2) := by decide +kernel
theorem dX6_weighMove_53 : decode cX6_weighMove 53 = .ok (.invokevirtual 108, 3) := by decide +kernel
theorem dX6_weighMove_56 : decode cX6_weighMove 56 = .ok (.return_, 1) := by decide +kernel
theorem dX6_makeChange_0 : decode cX6_makeChange 0 = .ok (.aload_n 0, 1) := by decide +kernel
theorem dX6_makeChange_1 : decode cX6_makeChange 1 = .ok (.getfield 28, 3) := by decide +kernel
theorem dX6_makeChange_4 : decode cX6_makeChange 4 = .ok (.getfield 111, 3) := by decide +kernel
theorem dX6_makeChange_7 : decode cX6_makeChange 7 = .ok (.iconst (-1), 1) := by decide +kernel
theorem dX6_makeChange_8 : decode cX6_makeChange 8 = .ok (.if_icmp .ne 27, 3) := by decide +kernel
theorem dX6_makeChange_11 : decode cX6_makeChange 11 = .ok (.aload_n 0, 1) := by decide +kernel
theorem dX6_makeChange_12 : decode cX6_makeChange 12 = .ok (.getfield 12, 3) := by decide +kernel
theorem dX6_makeChange_15 : decode cX6_makeChange 15 = .ok (.aload_n 0, 1) := by decide +kernel
theorem dX6_makeChange_16 : decode cX6_makeChange 16 = .ok (.getfield 28, 3) := by decide +kernel
theorem dX6_makeChange_19 : decode cX6_makeChange 19 = .ok (.getfield 114, 3) := by decide +kernel
theorem dX6_makeChange_22 : decode cX6_makeChange 22 = .ok (.aload_n 0, 1) := by decide +kernel
theorem dX6_makeChange_23 : decode cX6_makeChange 23 = .ok (.getfield 28, 3) := by decide +kernel
theorem dX6_makeChange_26 : decode cX6_makeChange 26 = .ok (.getfield 117, 3) := by decide +kernel
theorem dX6_makeChange_29 : decode cX6_makeChange 29 = .ok (.invokevirtual 108, 3) := by decide +kernel
theorem dX6_makeChange_32 : decode cX6_makeChange 32 = .ok (.goto 37, 3) := by decide +kernel
theorem dX6_makeChange_35 : decode cX6_makeChange 35 = .ok (.aload_n 0, 1) := by decide +kernel
theorem dX6_makeChange_36 : decode cX6_makeChange 36 = .ok (.getfield 12, 3) := by decide +kernel
theorem dX6_makeChange_39 : decode cX6_makeChange 39 = .ok (.aload_n 0, 1) := by decide +kernel
theorem dX6_makeChange_40 : decode cX6_makeChange 40 = .ok (.getfield 28, 3) := by decide +kernel
theorem dX6_makeChange_43 : decode cX6_makeChange 43 = .ok (.getfield 114, 3) := by decide +kernel
theorem dX6_makeChange_46 : decode cX6_makeChange 46 = .ok (.aload_n 0, 1) := by decide +kernel
theorem dX6_makeChange_47 : decode cX6_makeChange 47 = .ok (.getfield 28, 3) := by decide +kernel
theorem dX6_makeChange_50 : decode cX6_makeChange 50 = .ok (.getfield 111, 3) := by decide +kernel
theorem dX6_makeChange_53 : decode cX6_makeChange 53 = .ok (.invokevirtual 100, 3) := by decide +kernel
theorem dX6_makeChange_56 : decode cX6_makeChange 56 = .ok (.aload_n 0, 1) := by decide +kernel
theorem dX6_makeChange_57 : decode cX6_makeChange 57 = .ok (.getfield 21, 3) := by decide +kernel
theorem dX6_makeChange_60 : decode cX6_makeChange 60 = .ok (.aload_n 0, 1) := by decide +kernel
theorem dX6_makeChange_61 : decode cX6_makeChange 61 = .ok (.getfield 28, 3) := by decide +kernel
theorem dX6_makeChange_64 : decode cX6_makeChange 64 = .ok (.getfield 111, 3) := by decide +kernel
theorem dX6_makeChange_67 : decode cX6_makeChange 67 = .ok (.iload_n 1, 1) := by decide +kernel
theorem dX6_makeChange_68 : decode cX6_makeChange 68 = .ok (.iastore, 1) := by decide +kernel
theorem dX6_makeChange_69 : decode cX6_makeChange 69 = .ok (.aload_n 0, 1) := by decide +kernel
theorem dX6_makeChange_70 : decode cX6_makeChange 70 = .ok (.getfield 21, 3) := by decide +kernel
theorem dX6_makeChange_73 : decode cX6_makeChange 73 = .ok (.aload_n 0, 1) := by decide +kernel
theorem dX6_makeChange_74 : decode cX6_makeChange 74 = .ok (.getfield 28, 3) := by decide +kernel
theorem dX6_makeChange_77 : decode cX6_makeChange 77 = .ok (.getfield 114, 3) := by decide +kernel
theorem dX6_makeChange_80 : decode cX6_makeChange 80 = .ok (.iload_n 1, 1) := by decide +kernel
theorem dX6_makeChange_81 : decode cX6_makeChange 81 = .ok (.iastore, 1) := by decide +kernel
theorem dX6_makeChange_82 : decode cX6_makeChange 82 = .ok (.return_, 1) := by decide +kernel
end
section
theorem dX7_init_0 : decode cX7_init 0 = .ok (.aload_n 0, 1) := by decide +kernel
theorem dX7_init_1 : decode cX7_init 1 = .ok (.invokespecial 3, 3) := by decide +kernel
theorem dX7_init_4 : decode cX7_init 4 = .ok (.aload_n 0, 1) := by decide +kernel
theorem dX7_init_5 : decode cX7_init 5 = .ok (.new 9, 3) := by decide +kernel
theorem dX7_init_8 : decode cX7_init 8 = .ok (.dup, 1) := by decide +kernel
theorem dX7_init_9 : decode cX7_init 9 = .ok (.invokespecial 11, 3) := by decide +kernel
theorem dX7_init_12 : decode cX7_init 12 = .ok (.putfield 12, 3) := by decide +kernel
theorem dX7_init_15 : decode cX7_init 15 = .ok (.aload_n 0, 1) := by decide +kernel
theorem dX7_init_16 : decode cX7_init 16 = .ok (.new 16, 3) := by decide +kernel
theorem dX7_init_19 : decode cX7_init 19 = .ok (.dup, 1) := by decide +kernel
theorem dX7_init_20 : decode cX7_init 20 = .ok (.invokespecial 18, 3) := by decide +kernel
theorem dX7_init_23 : decode cX7_init 23 = .ok (.putfield 19, 3) := by decide +kernel
theorem dX7_init_26 : decode cX7_init 26 = .ok (.aload_n 0, 1) := by decide +kernel
theorem dX7_init_27 : decode cX7_init 27 = .ok (.new 16, 3) := by decide +kernel
theorem dX7_init_30 : decode cX7_init 30 = .ok (.dup, 1) := by decide +kernel
theorem dX7_init_31 : decode cX7_init 31 = .ok (.invokespecial 18, 3) := by decide +kernel
theorem dX7_init_34 : decode cX7_init 34 = .ok (.putfield 23, 3) := by decide +kernel
theorem dX7_init_37 : decode cX7_init 37 = .ok (.aload_n 0, 1) := by decide +kernel
theorem dX7_init_38 : decode cX7_init 38 = .ok (.new 26, 3) := by decide +kernel
theorem dX7_init_41 : decode cX7_init 41 = .ok (.dup, 1) := by decide +kernel
theorem dX7_init_42 : decode cX7_init 42 = .ok (.invokespecial 28, 3) := by decide +kernel
theorem dX7_init_45 : decode cX7_init 45 = .ok (.putfield 29, 3) := by decide +kernel
theorem dX7_init_48 : decode cX7_init 48 = .ok (.aload_n 0, 1) := by decide +kernel
theorem dX7_init_49 : decode cX7_init 49 = .ok (.new 33, 3) := by decide +kernel
theorem dX7_init_52 : decode cX7_init 52 = .ok (.dup, 1) := by decide +kernel
theorem dX7_init_53 : decode cX7_init 53 = .ok (.invokespecial 35, 3) := by decide +kernel
theorem dX7_init_56 : decode cX7_init 56 = .ok (.putfield 36, 3) := by decide +kernel
theorem dX7_init_59 : decode cX7_init 59 = .ok (.return_, 1) := by decide +kernel
theorem dX7_setWall_0 : decode cX7_setWall 0 = .ok (.aload_n 0, 1) := by decide +kernel
theorem dX7_setWall_1 : decode cX7_setWall 1 = .ok (.iload_n 1, 1) := by decide +kernel
theorem dX7_setWall_2 : decode cX7_setWall 2 = .ok (.iload_n 2, 1) := by decide +kernel
theorem dX7_setWall_3 : decode cX7_setWall 3 = .ok (.invokevirtual 40, 3) := by decide +kernel
theorem dX7_setWall_6 : decode cX7_setWall 6 = .ok (.aload_n 0, 1) := by decide +kernel
theorem dX7_setWall_7 : decode cX7_setWall 7 = .ok (.getfield 12, 3) := by decide +kernel
theorem dX7_setWall_10 : decode cX7_setWall 10 = .ok (.getfield 44, 3) := by decide +kernel
theorem dX7_setWall_13 : decode cX7_setWall 13 = .ok (.iload_n 1, 1) := by decide +kernel
theorem dX7_setWall_14 : decode cX7_setWall 14 = .ok (.iload_n 2, 1) := by decide +kernel
theorem dX7_setWall_15 : decode cX7_setWall 15 = .ok (.invokevirtual 48, 3) := by decide +kernel
theorem dX7_setWall_18 : decode cX7_setWall 18 = .ok (.ifCond .eq 13, 3) := by decide +kernel
theorem dX7_setWall_21 : decode cX7_setWall 21 = .ok (.new 54, 3) := by decide +kernel
theorem dX7_setWall_24 : decode cX7_setWall 24 = .ok (.dup, 1) := by decide +kernel
theorem dX7_setWall_25 : decode cX7_setWall 25 = .ok (.ldc 56, 2) := by decide +kernel
theorem dX7_setWall_27 : decode cX7_setWall 27 = .ok (.invokespecial 58, 3) := by decide +kernel
theorem dX7_setWall_30 : decode cX7_setWall 30 = .ok (.athrow, 1) := by decide +kernel
theorem dX7_setWall_31 : decode cX7_setWall 31 = .ok (.aload_n 0, 1) := by decide +kernel
theorem dX7_setWall_32 : decode cX7_setWall 32 = .ok (.getfield 12, 3) := by decide +kernel
theorem dX7_setWall_35 : decode cX7_setWall 35 = .ok (.getfield 44, 3) := by decide +kernel
theorem dX7_setWall_38 : decode cX7_setWall 38 = .ok (.iload_n 1, 1) := by decide +kernel
theorem dX7_setWall_39 : decode cX7_setWall 39 = .ok (.iload_n 2, 1) := by decide +kernel
theorem dX7_setWall_40 : decode cX7_setWall 40 = .ok (.iload_n 3, 1) := by decide +kernel
theorem dX7_setWall_41 : decode cX7_setWall 41 = .ok (.invokevirtual 61, 3) := by decide +kernel
theorem dX7_setWall_44 : decode cX7_setWall 44 = .ok (.ireturn, 1) := by decide +kernel
theorem dX7_addZone_0 : decode cX7_addZone 0 = .ok (.aload_n 0, 1) := by decide +kernel
theorem dX7_addZone_1 : decode cX7_addZone 1 = .ok (.iload_n 1, 1) := by decide +kernel
theorem dX7_addZone_2 : decode cX7_addZone 2 = .ok (.iload_n 2, 1) := by decide +kernel
theorem dX7_addZone_3 : decode cX7_addZone 3 = .ok (.invokevirtual 40, 3) := by decide +kernel
theorem dX7_addZone_6 : decode cX7_addZone 6 = .ok (.aload_n 0, 1) := by decide +kernel
theorem dX7_addZone_7 : decode cX7_addZone 7 = .ok (.iload_n 3, 1) := by decide +kernel
theorem dX7_addZone_8 : decode cX7_addZone 8 = .ok (.iconst 1, 1) := by decide +kernel
theorem dX7_addZone_9 : decode cX7_addZone 9 = .ok (.bipush 60, 2) := by decide +kernel
theorem dX7_addZone_11 : decode cX7_addZone 11 = .ok (.invokevirtual 65, 3) := by decide +kernel
theorem dX7_addZone_14 : decode cX7_addZone 14 = .ok (.aload_n 0, 1) := by decide +kernel
theorem dX7_addZone_15 : decode cX7_addZone 15 = .ok (.getfield 12, 3) := by decide +kernel
theorem dX7_addZone_18 : decode cX7_addZone 18 = .ok (.getfield 44, 3) := by decide +kernel
theorem dX7_addZone_21 : decode cX7_addZone 21 = .ok (.getfield 69, 3) := by decide +kernel
theorem dX7_addZone_24 : decode cX7_addZone 24 = .ok (.bipush 7, 2) := by decide +kernel
theorem dX7_addZone_26 : decode cX7_addZone 26 = .ok (.if_icmp .lt 13, 3) := by decide +kernel
theorem dX7_addZone_29 : decode cX7_addZone 29 = .ok (.new 54, 3) := by decide +kernel
theorem dX7_addZone_32 : decode cX7_addZone 32 = .ok (.dup, 1) := by decide +kernel
theorem dX7_addZone_33 : decode cX7_addZone 33 = .ok (.ldc 73, 2) := by decide +kernel
theorem dX7_addZone_35 : decode cX7_addZone 35 = .ok (.invokespecial 58, 3) := by decide +kernel
theorem dX7_addZone_38 : decode cX7_addZone 38 = .ok (.athrow, 1) := by decide +kernel
theorem dX7_addZone_39 : decode cX7_addZone 39 = .ok (.aload_n 0, 1) := by decide +kernel
theorem dX7_addZone_40 : decode cX7_addZone 40 = .ok (.getfield 12, 3) := by decide +kernel
theorem dX7_addZone_43 : decode cX7_addZone 43 = .ok (.getfield 44, 3) := by decide +kernel
theorem dX7_addZone_46 : decode cX7_addZone 46 = .ok (.iload_n 1, 1) := by decide +kernel
theorem dX7_addZone_47 : decode cX7_addZone 47 = .ok (.iload_n 2, 1) := by decide +kernel
theorem dX7_addZone_48 : decode cX7_addZone 48 = .ok (.invokevirtual 75, 3) := by decide +kernel
theorem dX7_addZone_51 : decode cX7_addZone 51 = .ok (.ifCond .ne 18, 3) := by decide +kernel
theorem dX7_addZone_54 : decode cX7_addZone 54 = .ok (.aload_n 0, 1) := by decide +kernel
theorem dX7_addZone_55 : decode cX7_addZone 55 = .ok (.getfield 12, 3) := by decide +kernel
theorem dX7_addZone_58 : decode cX7_addZone 58 = .ok (.getfield 44, 3) := by decide +kernel
theorem dX7_addZone_61 : decode cX7_addZone 61 = .ok (.iload_n 1, 1) := by decide +kernel
theorem dX7_addZone_62 : decode cX7_addZone 62 = .ok (.iload_n 2, 1) := by decide +kernel
theorem dX7_addZone_63 : decode cX7_addZone 63 = .ok (.invokevirtual 48, 3) := by decide +kernel
theorem dX7_addZone_66 : decode cX7_addZone 66 = .ok (.ifCond .eq 13, 3) := by decide +kernel
theorem dX7_addZone_69 : decode cX7_addZone 69 = .ok (.new 54, 3) := by decide +kernel
theorem dX7_addZone_72 : decode cX7_addZone 72 = .ok (.dup, 1) := by decide +kernel
theorem dX7_addZone_73 : decode cX7_addZone 73 = .ok (.ldc 78, 2) := by decide +kernel
theorem dX7_addZone_75 : decode cX7_addZone 75 = .ok (.invokespecial 58, 3) := by decide +kernel
theorem dX7_addZone_78 : decode cX7_addZone 78 = .ok (.athrow, 1) := by decide +kernel
theorem dX7_addZone_79 : decode cX7_addZone 79 = .ok (.aload_n 0, 1) := by decide +kernel
theorem dX7_addZone_80 : decode cX7_addZone 80 = .ok (.getfield 12, 3) := by decide +kernel
theorem dX7_addZone_83 : decode cX7_addZone 83 = .ok (.getfield 44, 3) := by decide +kernel
theorem dX7_addZone_86 : decode cX7_addZone 86 = .ok (.iload_n 1, 1) := by decide +kernel
theorem dX7_addZone_87 : decode cX7_addZone 87 = .ok (.iload_n 2, 1) := by decide +kernel
theorem dX7_addZone_88 : decode cX7_addZone 88 = .ok (.iload_n 3, 1) := by decide +kernel
theorem dX7_addZone_89 : decode cX7_addZone 89 = .ok (.invokevirtual 80, 3) := by decide +kernel
theorem dX7_addZone_92 : decode cX7_addZone 92 = .ok (.ireturn, 1) := by decide +kernel
theorem dX7_setDesks_0 : decode cX7_setDesks 0 = .ok (.aload_n 0, 1) := by decide +kernel
theorem dX7_setDesks_1 : decode cX7_setDesks 1 = .ok (.iload_n 1, 1) := by decide +kernel
theorem dX7_setDesks_2 : decode cX7_setDesks 2 = .ok (.invokevirtual 84, 3) := by decide +kernel
theorem dX7_setDesks_5 : decode cX7_setDesks 5 = .ok (.aload_n 0, 1) := by decide +kernel
theorem dX7_setDesks_6 : decode cX7_setDesks 6 = .ok (.iload_n 2, 1) := by decide +kernel
theorem dX7_setDesks_7 : decode cX7_setDesks 7 = .ok (.iconst 1, 1) := by decide +kernel
theorem dX7_setDesks_8 : decode cX7_setDesks 8 = .ok (.bipush 60, 2) := by decide +kernel
theorem dX7_setDesks_10 : decode cX7_setDesks 10 = .ok (.invokevirtual 65, 3) := by decide +kernel
theorem dX7_setDesks_13 : decode cX7_setDesks 13 = .ok (.aload_n 0, 1) := by decide +kernel
theorem dX7_setDesks_14 : decode cX7_setDesks 14 = .ok (.getfield 19, 3) := by decide +kernel
theorem dX7_setDesks_17 : decode cX7_setDesks 17 = .ok (.iload_n 1, 1) := by decide +kernel
theorem dX7_setDesks_18 : decode cX7_setDesks 18 = .ok (.invokevirtual 88, 3) := by decide +kernel
theorem dX7_setDesks_21 : decode cX7_setDesks 21 = .ok (.istore_n 3, 1) := by decide +kernel
theorem dX7_setDesks_22 : decode cX7_setDesks 22 = .ok (.iload_n 3, 1) := by decide +kernel
theorem dX7_setDesks_23 : decode cX7_setDesks 23 = .ok (.iconst (-1), 1) := by decide +kernel
theorem dX7_setDesks_24 : decode cX7_setDesks 24 = .ok (.if_icmp .eq 29, 3) := by decide +kernel
theorem dX7_setDesks_27 : decode cX7_setDesks 27 = .ok (.aload_n 0, 1) := by decide +kernel
theorem dX7_setDesks_28 : decode cX7_setDesks 28 = .ok (.getfield 12, 3) := by decide +kernel
theorem dX7_setDesks_31 : decode cX7_setDesks 31 = .ok (.getfield 92, 3) := by decide +kernel
theorem dX7_setDesks_34 : decode cX7_setDesks 34 = .ok (.getfield 96, 3) := by decide +kernel
theorem dX7_setDesks_37 : decode cX7_setDesks 37 = .ok (.iload_n 3, 1) := by decide +kernel
theorem dX7_setDesks_38 : decode cX7_setDesks 38 = .ok (.iaload, 1) := by decide +kernel
theorem dX7_setDesks_39 : decode cX7_setDesks 39 = .ok (.iload_n 2, 1) := by decide +kernel
theorem dX7_setDesks_40 : decode cX7_setDesks 40 = .ok (.if_icmp .le 13, 3) := by decide +kernel
theorem dX7_setDesks_43 : decode cX7_setDesks 43 = .ok (.new 54, 3) := by decide +kernel
theorem dX7_setDesks_46 : decode cX7_setDesks 46 = .ok (.dup, 1) := by decide +kernel
theorem dX7_setDesks_47 : decode cX7_setDesks 47 = .ok (.ldc 102, 2) := by decide +kernel
theorem dX7_setDesks_49 : decode cX7_setDesks 49 = .ok (.invokespecial 58, 3) := by decide +kernel
theorem dX7_setDesks_52 : decode cX7_setDesks 52 = .ok (.athrow, 1) := by decide +kernel
theorem dX7_setDesks_53 : decode cX7_setDesks 53 = .ok (.aload_n 0, 1) := by decide +kernel
theorem dX7_setDesks_54 : decode cX7_setDesks 54 = .ok (.getfield 12, 3) := by decide +kernel
theorem dX7_setDesks_57 : decode cX7_setDesks 57 = .ok (.getfield 44, 3) := by decide +kernel
theorem dX7_setDesks_60 : decode cX7_setDesks 60 = .ok (.getfield 104, 3) := by decide +kernel
theorem dX7_setDesks_63 : decode cX7_setDesks 63 = .ok (.iload_n 1, 1) := by decide +kernel
theorem dX7_setDesks_64 : decode cX7_setDesks 64 = .ok (.iaload, 1) := by decide +kernel
theorem dX7_setDesks_65 : decode cX7_setDesks 65 = .ok (.istore 4, 2) := by decide +kernel
theorem dX7_setDesks_67 : decode cX7_setDesks 67 = .ok (.aload_n 0, 1) := by decide +kernel
theorem dX7_setDesks_68 : decode cX7_setDesks 68 = .ok (.getfield 12, 3) := by decide +kernel
theorem dX7_setDesks_71 : decode cX7_setDesks 71 = .ok (.getfield 44, 3) := by decide +kernel
theorem dX7_setDesks_74 : decode cX7_setDesks 74 = .ok (.getfield 104, 3) := by decide +kernel
theorem dX7_setDesks_77 : decode cX7_setDesks 77 = .ok (.iload_n 1, 1) := by decide +kernel
theorem dX7_setDesks_78 : decode cX7_setDesks 78 = .ok (.iload_n 2, 1) := by decide +kernel
theorem dX7_setDesks_79 : decode cX7_setDesks 79 = .ok (.iastore, 1) := by decide +kernel
theorem dX7_setDesks_80 : decode cX7_setDesks 80 = .ok (.iload 4, 2) := by decide +kernel
theorem dX7_setDesks_82 : decode cX7_setDesks 82 = .ok (.ireturn, 1) := by decide +kernel
theorem dX7_addTeam_0 : decode cX7_addTeam 0 = .ok (.aload_n 0, 1) := by decide +kernel
theorem dX7_addTeam_1 : decode cX7_addTeam 1 = .ok (.getfield 12, 3) := by decide +kernel
theorem dX7_addTeam_4 : decode cX7_addTeam 4 = .ok (.getfield 92, 3) := by decide +kernel
theorem dX7_addTeam_7 : decode cX7_addTeam 7 = .ok (.getfield 107, 3) := by decide +kernel
theorem dX7_addTeam_10 : decode cX7_addTeam 10 = .ok (.bipush 7, 2) := by decide +kernel
theorem dX7_addTeam_12 : decode cX7_addTeam 12 = .ok (.if_icmp .lt 13, 3) := by decide +kernel
theorem dX7_addTeam_15 : decode cX7_addTeam 15 = .ok (.new 54, 3) := by decide +kernel
theorem dX7_addTeam_18 : decode cX7_addTeam 18 = .ok (.dup, 1) := by decide +kernel
theorem dX7_addTeam_19 : decode cX7_addTeam 19 = .ok (.ldc 110, 2) := by decide +kernel
theorem dX7_addTeam_21 : decode cX7_addTeam 21 = .ok (.invokespecial 58, 3) := by decide +kernel
theorem dX7_addTeam_24 : decode cX7_addTeam 24 = .ok (.athrow, 1) := by decide +kernel
theorem dX7_addTeam_25 : decode cX7_addTeam 25 = .ok (.aload_n 0, 1) := by decide +kernel
theorem dX7_addTeam_26 : decode cX7_addTeam 26 = .ok (.getfield 12, 3) := by decide +kernel
theorem dX7_addTeam_29 : decode cX7_addTeam 29 = .ok (.getfield 92, 3) := by decide +kernel
theorem dX7_addTeam_32 : decode cX7_addTeam 32 = .ok (.invokevirtual 112, 3) := by decide +kernel
theorem dX7_addTeam_35 : decode cX7_addTeam 35 = .ok (.ireturn, 1) := by decide +kernel
theorem dX7_setPresent_0 : decode cX7_setPresent 0 = .ok (.aload_n 0, 1) := by decide +kernel
theorem dX7_setPresent_1 : decode cX7_setPresent 1 = .ok (.iload_n 1, 1) := by decide +kernel
theorem dX7_setPresent_2 : decode cX7_setPresent 2 = .ok (.invokevirtual 116, 3) := by decide +kernel
theorem dX7_setPresent_5 : decode cX7_setPresent 5 = .ok (.aload_n 0, 1) := by decide +kernel
theorem dX7_setPresent_6 : decode cX7_setPresent 6 = .ok (.iload_n 2, 1) := by decide +kernel
theorem dX7_setPresent_7 : decode cX7_setPresent 7 = .ok (.invokevirtual 119, 3) := by decide +kernel
theorem dX7_setPresent_10 : decode cX7_setPresent 10 = .ok (.aload_n 0, 1) := by decide +kernel
theorem dX7_setPresent_11 : decode cX7_setPresent 11 = .ok (.iload_n 3, 1) := by decide +kernel
theorem dX7_setPresent_12 : decode cX7_setPresent 12 = .ok (.iconst 0, 1) := by decide +kernel
theorem dX7_setPresent_13 : decode cX7_setPresent 13 = .ok (.bipush 60, 2) := by decide +kernel
theorem dX7_setPresent_15 : decode cX7_setPresent 15 = .ok (.invokevirtual 65, 3) := by decide +kernel
theorem dX7_setPresent_18 : decode cX7_setPresent 18 = .ok (.aload_n 0, 1) := by decide +kernel
theorem dX7_setPresent_19 : decode cX7_setPresent 19 = .ok (.getfield 19, 3) := by decide +kernel
theorem dX7_setPresent_22 : decode cX7_setPresent 22 = .ok (.iload_n 1, 1) := by decide +kernel
theorem dX7_setPresent_23 : decode cX7_setPresent 23 = .ok (.invokevirtual 122, 3) := by decide +kernel
theorem dX7_setPresent_26 : decode cX7_setPresent 26 = .ok (.istore 4, 2) := by decide +kernel
theorem dX7_setPresent_28 : decode cX7_setPresent 28 = .ok (.iload 4, 2) := by decide +kernel
theorem dX7_setPresent_30 : decode cX7_setPresent 30 = .ok (.iconst (-1), 1) := by decide +kernel
theorem dX7_setPresent_31 : decode cX7_setPresent 31 = .ok (.if_icmp .eq 42, 3) := by decide +kernel
theorem dX7_setPresent_34 : decode cX7_setPresent 34 = .ok (.aload_n 0, 1) := by decide +kernel
theorem dX7_setPresent_35 : decode cX7_setPresent 35 = .ok (.getfield 12, 3) := by decide +kernel
theorem dX7_setPresent_38 : decode cX7_setPresent 38 = .ok (.getfield 92, 3) := by decide +kernel
theorem dX7_setPresent_41 : decode cX7_setPresent 41 = .ok (.iload_n 1, 1) := by decide +kernel
theorem dX7_setPresent_42 : decode cX7_setPresent 42 = .ok (.iload_n 2, 1) := by decide +kernel
theorem dX7_setPresent_43 : decode cX7_setPresent 43 = .ok (.iload_n 3, 1) := by decide +kernel
theorem dX7_setPresent_44 : decode cX7_setPresent 44 = .ok (.invokevirtual 125, 3) := by decide +kernel
theorem dX7_setPresent_47 : decode cX7_setPresent 47 = .ok (.aload_n 0, 1) := by decide +kernel
theorem dX7_setPresent_48 : decode cX7_setPresent 48 = .ok (.getfield 12, 3) := by decide +kernel
theorem dX7_setPresent_51 : decode cX7_setPresent 51 = .ok (.getfield 44, 3) := by decide +kernel
theorem dX7_setPresent_54 : decode cX7_setPresent 54 = .ok (.getfield 104, 3) := by decide +kernel
theorem dX7_setPresent_57 : decode cX7_setPresent 57 = .ok (.iload 4, 2) := by decide +kernel
theorem dX7_setPresent_59 : decode cX7_setPresent 59 = .ok (.iaload, 1) := by decide +kernel
theorem dX7_setPresent_60 : decode cX7_setPresent 60 = .ok (.if_icmp .le 13, 3) := by decide +kernel
theorem dX7_setPresent_63 : decode cX7_setPresent 63 = .ok (.new 54, 3) := by decide +kernel
theorem dX7_setPresent_66 : decode cX7_setPresent 66 = .ok (.dup, 1) := by decide +kernel
theorem dX7_setPresent_67 : decode cX7_setPresent 67 = .ok (.ldc 128, 2) := by decide +kernel
theorem dX7_setPresent_69 : decode cX7_setPresent 69 = .ok (.invokespecial 58, 3) := by decide +kernel
theorem dX7_setPresent_72 : decode cX7_setPresent 72 = .ok (.athrow, 1) := by decide +kernel
theorem dX7_setPresent_73 : decode cX7_setPresent 73 = .ok (.aload_n 0, 1) := by decide +kernel
theorem dX7_setPresent_74 : decode cX7_setPresent 74 = .ok (.getfield 12, 3) := by decide +kernel
theorem dX7_setPresent_77 : decode cX7_setPresent 77 = .ok (.getfield 92, 3) := by decide +kernel
theorem dX7_setPresent_80 : decode cX7_setPresent 80 = .ok (.iload_n 1, 1) := by decide +kernel
theorem dX7_setPresent_81 : decode cX7_setPresent 81 = .ok (.iload_n 2, 1) := by decide +kernel
theorem dX7_setPresent_82 : decode cX7_setPresent 82 = .ok (.iload_n 3, 1) := by decide +kernel
theorem dX7_setPresent_83 : decode cX7_setPresent 83 = .ok (.invokevirtual 130, 3) := by decide +kernel
theorem dX7_setPresent_86 : decode cX7_setPresent 86 = .ok (.ireturn, 1) := by decide +kernel
theorem dX7_setWish_0 : decode cX7_setWish 0 = .ok (.aload_n 0, 1) := by decide +kernel
theorem dX7_setWish_1 : decode cX7_setWish 1 = .ok (.iload_n 1, 1) := by decide +kernel
theorem dX7_setWish_2 : decode cX7_setWish 2 = .ok (.invokevirtual 116, 3) := by decide +kernel
theorem dX7_setWish_5 : decode cX7_setWish 5 = .ok (.aload_n 0, 1) := by decide +kernel
theorem dX7_setWish_6 : decode cX7_setWish 6 = .ok (.iload_n 2, 1) := by decide +kernel
theorem dX7_setWish_7 : decode cX7_setWish 7 = .ok (.invokevirtual 84, 3) := by decide +kernel
theorem dX7_setWish_10 : decode cX7_setWish 10 = .ok (.aload_n 0, 1) := by decide +kernel
theorem dX7_setWish_11 : decode cX7_setWish 11 = .ok (.iload_n 3, 1) := by decide +kernel
theorem dX7_setWish_12 : decode cX7_setWish 12 = .ok (.iconst 0, 1) := by decide +kernel
theorem dX7_setWish_13 : decode cX7_setWish 13 = .ok (.bipush 99, 2) := by decide +kernel
theorem dX7_setWish_15 : decode cX7_setWish 15 = .ok (.invokevirtual 65, 3) := by decide +kernel
theorem dX7_setWish_18 : decode cX7_setWish 18 = .ok (.aload_n 0, 1) := by decide +kernel
theorem dX7_setWish_19 : decode cX7_setWish 19 = .ok (.getfield 12, 3) := by decide +kernel
theorem dX7_setWish_22 : decode cX7_setWish 22 = .ok (.getfield 92, 3) := by decide +kernel
theorem dX7_setWish_25 : decode cX7_setWish 25 = .ok (.getfield 133, 3) := by decide +kernel
theorem dX7_setWish_28 : decode cX7_setWish 28 = .ok (.iload_n 1, 1) := by decide +kernel
theorem dX7_setWish_29 : decode cX7_setWish 29 = .ok (.aaload, 1) := by decide +kernel
theorem dX7_setWish_30 : decode cX7_setWish 30 = .ok (.iload_n 2, 1) := by decide +kernel
theorem dX7_setWish_31 : decode cX7_setWish 31 = .ok (.iaload, 1) := by decide +kernel
theorem dX7_setWish_32 : decode cX7_setWish 32 = .ok (.istore 4, 2) := by decide +kernel
theorem dX7_setWish_34 : decode cX7_setWish 34 = .ok (.aload_n 0, 1) := by decide +kernel
theorem dX7_setWish_35 : decode cX7_setWish 35 = .ok (.getfield 12, 3) := by decide +kernel
theorem dX7_setWish_38 : decode cX7_setWish 38 = .ok (.getfield 92, 3) := by decide +kernel
theorem dX7_setWish_41 : decode cX7_setWish 41 = .ok (.getfield 133, 3) := by decide +kernel
theorem dX7_setWish_44 : decode cX7_setWish 44 = .ok (.iload_n 1, 1) := by decide +kernel
theorem dX7_setWish_45 : decode cX7_setWish 45 = .ok (.aaload, 1) := by decide +kernel
theorem dX7_setWish_46 : decode cX7_setWish 46 = .ok (.iload_n 2, 1) := by decide +kernel
theorem dX7_setWish_47 : decode cX7_setWish 47 = .ok (.iload_n 3, 1) := by decide +kernel
theorem dX7_setWish_48 : decode cX7_setWish 48 = .ok (.iastore, 1) := by decide +kernel
theorem dX7_setWish_49 : decode cX7_setWish 49 = .ok (.iload 4, 2) := by decide +kernel
theorem dX7_setWish_51 : decode cX7_setWish 51 = .ok (.ireturn, 1) := by decide +kernel
theorem dX7_setTie_0 : decode cX7_setTie 0 = .ok (.aload_n 0, 1) := by decide +kernel
theorem dX7_setTie_1 : decode cX7_setTie 1 = .ok (.iload_n 1, 1) := by decide +kernel
theorem dX7_setTie_2 : decode cX7_setTie 2 = .ok (.invokevirtual 116, 3) := by decide +kernel
theorem dX7_setTie_5 : decode cX7_setTie 5 = .ok (.aload_n 0, 1) := by decide +kernel
theorem dX7_setTie_6 : decode cX7_setTie 6 = .ok (.iload_n 2, 1) := by decide +kernel
theorem dX7_setTie_7 : decode cX7_setTie 7 = .ok (.invokevirtual 116, 3) := by decide +kernel
theorem dX7_setTie_10 : decode cX7_setTie 10 = .ok (.aload_n 0, 1) := by decide +kernel
theorem dX7_setTie_11 : decode cX7_setTie 11 = .ok (.iload_n 3, 1) := by decide +kernel
theorem dX7_setTie_12 : decode cX7_setTie 12 = .ok (.iconst 0, 1) := by decide +kernel
theorem dX7_setTie_13 : decode cX7_setTie 13 = .ok (.bipush 9, 2) := by decide +kernel
theorem dX7_setTie_15 : decode cX7_setTie 15 = .ok (.invokevirtual 65, 3) := by decide +kernel
theorem dX7_setTie_18 : decode cX7_setTie 18 = .ok (.iload_n 1, 1) := by decide +kernel
theorem dX7_setTie_19 : decode cX7_setTie 19 = .ok (.iload_n 2, 1) := by decide +kernel
theorem dX7_setTie_20 : decode cX7_setTie 20 = .ok (.if_icmp .ne 13, 3) := by decide +kernel
theorem dX7_setTie_23 : decode cX7_setTie 23 = .ok (.new 137, 3) := by decide +kernel
theorem dX7_setTie_26 : decode cX7_setTie 26 = .ok (.dup, 1) := by decide +kernel
theorem dX7_setTie_27 : decode cX7_setTie 27 = .ok (.ldc 139, 2) := by decide +kernel
theorem dX7_setTie_29 : decode cX7_setTie 29 = .ok (.invokespecial 141, 3) := by decide +kernel
theorem dX7_setTie_32 : decode cX7_setTie 32 = .ok (.athrow, 1) := by decide +kernel
theorem dX7_setTie_33 : decode cX7_setTie 33 = .ok (.aload_n 0, 1) := by decide +kernel
theorem dX7_setTie_34 : decode cX7_setTie 34 = .ok (.getfield 12, 3) := by decide +kernel
theorem dX7_setTie_37 : decode cX7_setTie 37 = .ok (.getfield 92, 3) := by decide +kernel
theorem dX7_setTie_40 : decode cX7_setTie 40 = .ok (.iload_n 1, 1) := by decide +kernel
theorem dX7_setTie_41 : decode cX7_setTie 41 = .ok (.iload_n 2, 1) := by decide +kernel
theorem dX7_setTie_42 : decode cX7_setTie 42 = .ok (.iload_n 3, 1) := by decide +kernel
theorem dX7_setTie_43 : decode cX7_setTie 43 = .ok (.invokevirtual 142, 3) := by decide +kernel
theorem dX7_setTie_46 : decode cX7_setTie 46 = .ok (.ireturn, 1) := by decide +kernel
theorem dX7_place_0 : decode cX7_place 0 = .ok (.aload_n 0, 1) := by decide +kernel
theorem dX7_place_1 : decode cX7_place 1 = .ok (.iload_n 1, 1) := by decide +kernel
theorem dX7_place_2 : decode cX7_place 2 = .ok (.invokevirtual 116, 3) := by decide +kernel
theorem dX7_place_5 : decode cX7_place 5 = .ok (.iload_n 2, 1) := by decide +kernel
theorem dX7_place_6 : decode cX7_place 6 = .ok (.iconst (-1), 1) := by decide +kernel
theorem dX7_place_7 : decode cX7_place 7 = .ok (.if_icmp .eq 14, 3) := by decide +kernel
theorem dX7_place_10 : decode cX7_place 10 = .ok (.aload_n 0, 1) := by decide +kernel
theorem dX7_place_11 : decode cX7_place 11 = .ok (.iload_n 2, 1) := by decide +kernel
theorem dX7_place_12 : decode cX7_place 12 = .ok (.invokevirtual 84, 3) := by decide +kernel
theorem dX7_place_15 : decode cX7_place 15 = .ok (.aload_n 0, 1) := by decide +kernel
theorem dX7_place_16 : decode cX7_place 16 = .ok (.iload_n 1, 1) := by decide +kernel
theorem dX7_place_17 : decode cX7_place 17 = .ok (.iload_n 2, 1) := by decide +kernel
theorem dX7_place_18 : decode cX7_place 18 = .ok (.invokevirtual 145, 3) := by decide +kernel
theorem dX7_place_21 : decode cX7_place 21 = .ok (.aload_n 0, 1) := by decide +kernel
theorem dX7_place_22 : decode cX7_place 22 = .ok (.getfield 19, 3) := by decide +kernel
theorem dX7_place_25 : decode cX7_place 25 = .ok (.iload_n 1, 1) := by decide +kernel
theorem dX7_place_26 : decode cX7_place 26 = .ok (.invokevirtual 122, 3) := by decide +kernel
theorem dX7_place_29 : decode cX7_place 29 = .ok (.istore_n 3, 1) := by decide +kernel
theorem dX7_place_30 : decode cX7_place 30 = .ok (.aload_n 0, 1) := by decide +kernel
theorem dX7_place_31 : decode cX7_place 31 = .ok (.getfield 19, 3) := by decide +kernel
theorem dX7_place_34 : decode cX7_place 34 = .ok (.iload_n 1, 1) := by decide +kernel
theorem dX7_place_35 : decode cX7_place 35 = .ok (.iload_n 2, 1) := by decide +kernel
theorem dX7_place_36 : decode cX7_place 36 = .ok (.invokevirtual 148, 3) := by decide +kernel
theorem dX7_place_39 : decode cX7_place 39 = .ok (.iload_n 3, 1) := by decide +kernel
theorem dX7_place_40 : decode cX7_place 40 = .ok (.ireturn, 1) := by decide +kernel
theorem dX7_placeByWishes_0 : decode cX7_placeByWishes 0 = .ok (.aload_n 0, 1) := by decide +kernel
theorem dX7_placeByWishes_1 : decode cX7_placeByWishes 1 = .ok (.iconst 0, 1) := by decide +kernel
theorem dX7_placeByWishes_2 : decode cX7_placeByWishes 2 = .ok (.invokevirtual 151, 3) := by decide +kernel
theorem dX7_placeByWishes_5 : decode cX7_placeByWishes 5 = .ok (.ireturn, 1) := by decide +kernel
theorem dX7_placeBest_0 : decode cX7_placeBest 0 = .ok (.aload_n 0, 1) := by decide +kernel
theorem dX7_placeBest_1 : decode cX7_placeBest 1 = .ok (.iconst 1, 1) := by decide +kernel
theorem dX7_placeBest_2 : decode cX7_placeBest 2 = .ok (.invokevirtual 151, 3) := by decide +kernel
theorem dX7_placeBest_5 : decode cX7_placeBest 5 = .ok (.ireturn, 1) := by decide +kernel
theorem dX7_search_0 : decode cX7_search 0 = .ok (.aload_n 0, 1) := by decide +kernel
theorem dX7_search_1 : decode cX7_search 1 = .ok (.iload_n 1, 1) := by decide +kernel
theorem dX7_search_2 : decode cX7_search 2 = .ok (.iconst 1, 1) := by decide +kernel
theorem dX7_search_3 : decode cX7_search 3 = .ok (.bipush 40, 2) := by decide +kernel
theorem dX7_search_5 : decode cX7_search 5 = .ok (.invokevirtual 65, 3) := by decide +kernel
theorem dX7_search_8 : decode cX7_search 8 = .ok (.aload_n 0, 1) := by decide +kernel
theorem dX7_search_9 : decode cX7_search 9 = .ok (.iload_n 2, 1) := by decide +kernel
theorem dX7_search_10 : decode cX7_search 10 = .ok (.iconst 0, 1) := by decide +kernel
theorem dX7_search_11 : decode cX7_search 11 = .ok (.iconst 5, 1) := by decide +kernel
theorem dX7_search_12 : decode cX7_search 12 = .ok (.invokevirtual 65, 3) := by decide +kernel
theorem dX7_search_15 : decode cX7_search 15 = .ok (.aload_n 0, 1) := by decide +kernel
theorem dX7_search_16 : decode cX7_search 16 = .ok (.getfield 19, 3) := by decide +kernel
theorem dX7_search_19 : decode cX7_search 19 = .ok (.invokevirtual 155, 3) := by decide +kernel
theorem dX7_search_22 : decode cX7_search 22 = .ok (.aload_n 0, 1) := by decide +kernel
theorem dX7_search_23 : decode cX7_search 23 = .ok (.getfield 12, 3) := by decide +kernel
theorem dX7_search_26 : decode cX7_search 26 = .ok (.getfield 92, 3) := by decide +kernel
theorem dX7_search_29 : decode cX7_search 29 = .ok (.getfield 107, 3) := by decide +kernel
theorem dX7_search_32 : decode cX7_search 32 = .ok (.if_icmp .ge 13, 3) := by decide +kernel
theorem dX7_search_35 : decode cX7_search 35 = .ok (.new 54, 3) := by decide +kernel
theorem dX7_search_38 : decode cX7_search 38 = .ok (.dup, 1) := by decide +kernel
theorem dX7_search_39 : decode cX7_search 39 = .ok (.ldc 158, 2) := by decide +kernel
theorem dX7_search_41 : decode cX7_search 41 = .ok (.invokespecial 58, 3) := by decide +kernel
theorem dX7_search_44 : decode cX7_search 44 = .ok (.athrow, 1) := by decide +kernel
theorem dX7_search_45 : decode cX7_search 45 = .ok (.aload_n 0, 1) := by decide +kernel
theorem dX7_search_46 : decode cX7_search 46 = .ok (.getfield 36, 3) := by decide +kernel
theorem dX7_search_49 : decode cX7_search 49 = .ok (.aload_n 0, 1) := by decide +kernel
theorem dX7_search_50 : decode cX7_search 50 = .ok (.getfield 12, 3) := by decide +kernel
theorem dX7_search_53 : decode cX7_search 53 = .ok (.aload_n 0, 1) := by decide +kernel
theorem dX7_search_54 : decode cX7_search 54 = .ok (.getfield 19, 3) := by decide +kernel
theorem dX7_search_57 : decode cX7_search 57 = .ok (.iload_n 1, 1) := by decide +kernel
theorem dX7_search_58 : decode cX7_search 58 = .ok (.iload_n 2, 1) := by decide +kernel
theorem dX7_search_59 : decode cX7_search 59 = .ok (.invokevirtual 160, 3) := by decide +kernel
theorem dX7_search_62 : decode cX7_search 62 = .ok (.istore_n 3, 1) := by decide +kernel
theorem dX7_search_63 : decode cX7_search 63 = .ok (.aload_n 0, 1) := by decide +kernel
theorem dX7_search_64 : decode cX7_search 64 = .ok (.getfield 19, 3) := by decide +kernel
theorem dX7_search_67 : decode cX7_search 67 = .ok (.aload_n 0, 1) := by decide +kernel
theorem dX7_search_68 : decode cX7_search 68 = .ok (.getfield 36, 3) := by decide +kernel
theorem dX7_search_71 : decode cX7_search 71 = .ok (.getfield 164, 3) := by decide +kernel
theorem dX7_search_74 : decode cX7_search 74 = .ok (.invokevirtual 167, 3) := by decide +kernel
theorem dX7_search_77 : decode cX7_search 77 = .ok (.iload_n 3, 1) := by decide +kernel
theorem dX7_search_78 : decode cX7_search 78 = .ok (.ireturn, 1) := by decide +kernel
theorem dX7_remember_0 : decode cX7_remember 0 = .ok (.aload_n 0, 1) := by decide +kernel
theorem dX7_remember_1 : decode cX7_remember 1 = .ok (.getfield 23, 3) := by decide +kernel
theorem dX7_remember_4 : decode cX7_remember 4 = .ok (.aload_n 0, 1) := by decide +kernel
theorem dX7_remember_5 : decode cX7_remember 5 = .ok (.getfield 19, 3) := by decide +kernel
theorem dX7_remember_8 : decode cX7_remember 8 = .ok (.invokevirtual 167, 3) := by decide +kernel
theorem dX7_remember_11 : decode cX7_remember 11 = .ok (.aload_n 0, 1) := by decide +kernel
theorem dX7_remember_12 : decode cX7_remember 12 = .ok (.getfield 19, 3) := by decide +kernel
theorem dX7_remember_15 : decode cX7_remember 15 = .ok (.invokevirtual 155, 3) := by decide +kernel
theorem dX7_remember_18 : decode cX7_remember 18 = .ok (.ireturn, 1) := by decide +kernel
theorem dX7_recall_0 : decode cX7_recall 0 = .ok (.iconst 0, 1) := by decide +kernel
theorem dX7_recall_1 : decode cX7_recall 1 = .ok (.istore_n 1, 1) := by decide +kernel
theorem dX7_recall_2 : decode cX7_recall 2 = .ok (.iload_n 1, 1) := by decide +kernel
theorem dX7_recall_3 : decode cX7_recall 3 = .ok (.aload_n 0, 1) := by decide +kernel
theorem dX7_recall_4 : decode cX7_recall 4 = .ok (.getfield 12, 3) := by decide +kernel
theorem dX7_recall_7 : decode cX7_recall 7 = .ok (.getfield 92, 3) := by decide +kernel
theorem dX7_recall_10 : decode cX7_recall 10 = .ok (.getfield 107, 3) := by decide +kernel
theorem dX7_recall_13 : decode cX7_recall 13 = .ok (.if_icmp .ge 45, 3) := by decide +kernel
theorem dX7_recall_16 : decode cX7_recall 16 = .ok (.aload_n 0, 1) := by decide +kernel
theorem dX7_recall_17 : decode cX7_recall 17 = .ok (.getfield 23, 3) := by decide +kernel
theorem dX7_recall_20 : decode cX7_recall 20 = .ok (.iload_n 1, 1) := by decide +kernel
theorem dX7_recall_21 : decode cX7_recall 21 = .ok (.invokevirtual 122, 3) := by decide +kernel
theorem dX7_recall_24 : decode cX7_recall 24 = .ok (.istore_n 2, 1) := by decide +kernel
theorem dX7_recall_25 : decode cX7_recall 25 = .ok (.iload_n 2, 1) := by decide +kernel
theorem dX7_recall_26 : decode cX7_recall 26 = .ok (.iconst (-1), 1) := by decide +kernel
theorem dX7_recall_27 : decode cX7_recall 27 = .ok (.if_icmp .eq 25, 3) := by decide +kernel
theorem dX7_recall_30 : decode cX7_recall 30 = .ok (.aload_n 0, 1) := by decide +kernel
theorem dX7_recall_31 : decode cX7_recall 31 = .ok (.getfield 12, 3) := by decide +kernel
theorem dX7_recall_34 : decode cX7_recall 34 = .ok (.iload_n 1, 1) := by decide +kernel
theorem dX7_recall_35 : decode cX7_recall 35 = .ok (.iload_n 2, 1) := by decide +kernel
theorem dX7_recall_36 : decode cX7_recall 36 = .ok (.invokevirtual 171, 3) := by decide +kernel
theorem dX7_recall_39 : decode cX7_recall 39 = .ok (.ifCond .ne 13, 3) := by decide +kernel
theorem dX7_recall_42 : decode cX7_recall 42 = .ok (.new 54, 3) := by decide +kernel
theorem dX7_recall_45 : decode cX7_recall 45 = .ok (.dup, 1) := by decide +kernel
theorem dX7_recall_46 : decode cX7_recall 46 = .ok (.ldc 174, 2) := by decide +kernel
theorem dX7_recall_48 : decode cX7_recall 48 = .ok (.invokespecial 58, 3) := by decide +kernel
theorem dX7_recall_51 : decode cX7_recall 51 = .ok (.athrow, 1) := by decide +kernel
theorem dX7_recall_52 : decode cX7_recall 52 = .ok (.iinc 1 1, 3) := by decide +kernel
theorem dX7_recall_55 : decode cX7_recall 55 = .ok (.goto (-53), 3) := by decide +kernel
theorem dX7_recall_58 : decode cX7_recall 58 = .ok (.aload_n 0, 1) := by decide +kernel
theorem dX7_recall_59 : decode cX7_recall 59 = .ok (.getfield 19, 3) := by decide +kernel
theorem dX7_recall_62 : decode cX7_recall 62 = .ok (.aload_n 0, 1) := by decide +kernel
theorem dX7_recall_63 : decode cX7_recall 63 = .ok (.getfield 23, 3) := by decide +kernel
theorem dX7_recall_66 : decode cX7_recall 66 = .ok (.invokevirtual 176, 3) := by decide +kernel
theorem dX7_recall_69 : decode cX7_recall 69 = .ok (.istore_n 1, 1) := by decide +kernel
theorem dX7_recall_70 : decode cX7_recall 70 = .ok (.aload_n 0, 1) := by decide +kernel
theorem dX7_recall_71 : decode cX7_recall 71 = .ok (.getfield 19, 3) := by decide +kernel
theorem dX7_recall_74 : decode cX7_recall 74 = .ok (.aload_n 0, 1) := by decide +kernel
theorem dX7_recall_75 : decode cX7_recall 75 = .ok (.getfield 23, 3) := by decide +kernel
theorem dX7_recall_78 : decode cX7_recall 78 = .ok (.invokevirtual 167, 3) := by decide +kernel
theorem dX7_recall_81 : decode cX7_recall 81 = .ok (.iload_n 1, 1) := by decide +kernel
theorem dX7_recall_82 : decode cX7_recall 82 = .ok (.ireturn, 1) := by decide +kernel
theorem dX7_zones_0 : decode cX7_zones 0 = .ok (.aload_n 0, 1) := by decide +kernel
theorem dX7_zones_1 : decode cX7_zones 1 = .ok (.getfield 12, 3) := by decide +kernel
theorem dX7_zones_4 : decode cX7_zones 4 = .ok (.getfield 44, 3) := by decide +kernel
theorem dX7_zones_7 : decode cX7_zones 7 = .ok (.getfield 69, 3) := by decide +kernel
theorem dX7_zones_10 : decode cX7_zones 10 = .ok (.ireturn, 1) := by decide +kernel
theorem dX7_teams_0 : decode cX7_teams 0 = .ok (.aload_n 0, 1) := by decide +kernel
theorem dX7_teams_1 : decode cX7_teams 1 = .ok (.getfield 12, 3) := by decide +kernel
theorem dX7_teams_4 : decode cX7_teams 4 = .ok (.getfield 92, 3) := by decide +kernel
theorem dX7_teams_7 : decode cX7_teams 7 = .ok (.getfield 107, 3) := by decide +kernel
theorem dX7_teams_10 : decode cX7_teams 10 = .ok (.ireturn, 1) := by decide +kernel
theorem dX7_need_0 : decode cX7_need 0 = .ok (.aload_n 0, 1) := by decide +kernel
theorem dX7_need_1 : decode cX7_need 1 = .ok (.iload_n 1, 1) := by decide +kernel
theorem dX7_need_2 : decode cX7_need 2 = .ok (.invokevirtual 116, 3) := by decide +kernel
theorem dX7_need_5 : decode cX7_need 5 = .ok (.aload_n 0, 1) := by decide +kernel
theorem dX7_need_6 : decode cX7_need 6 = .ok (.getfield 12, 3) := by decide +kernel
theorem dX7_need_9 : decode cX7_need 9 = .ok (.getfield 92, 3) := by decide +kernel
theorem dX7_need_12 : decode cX7_need 12 = .ok (.getfield 96, 3) := by decide +kernel
theorem dX7_need_15 : decode cX7_need 15 = .ok (.iload_n 1, 1) := by decide +kernel
theorem dX7_need_16 : decode cX7_need 16 = .ok (.iaload, 1) := by decide +kernel
theorem dX7_need_17 : decode cX7_need 17 = .ok (.ireturn, 1) := by decide +kernel
theorem dX7_share_0 : decode cX7_share 0 = .ok (.aload_n 0, 1) := by decide +kernel
theorem dX7_share_1 : decode cX7_share 1 = .ok (.iload_n 1, 1) := by decide +kernel
theorem dX7_share_2 : decode cX7_share 2 = .ok (.invokevirtual 116, 3) := by decide +kernel
theorem dX7_share_5 : decode cX7_share 5 = .ok (.aload_n 0, 1) := by decide +kernel
theorem dX7_share_6 : decode cX7_share 6 = .ok (.getfield 12, 3) := by decide +kernel
theorem dX7_share_9 : decode cX7_share 9 = .ok (.getfield 92, 3) := by decide +kernel
theorem dX7_share_12 : decode cX7_share 12 = .ok (.iload_n 1, 1) := by decide +kernel
theorem dX7_share_13 : decode cX7_share 13 = .ok (.invokevirtual 180, 3) := by decide +kernel
theorem dX7_share_16 : decode cX7_share 16 = .ok (.ireturn, 1) := by decide +kernel
theorem dX7_zoneOf_0 : decode cX7_zoneOf 0 = .ok (.aload_n 0, 1) := by decide +kernel
theorem dX7_zoneOf_1 : decode cX7_zoneOf 1 = .ok (.iload_n 1, 1) := by decide +kernel
theorem dX7_zoneOf_2 : decode cX7_zoneOf 2 = .ok (.invokevirtual 116, 3) := by decide +kernel
theorem dX7_zoneOf_5 : decode cX7_zoneOf 5 = .ok (.aload_n 0, 1) := by decide +kernel
theorem dX7_zoneOf_6 : decode cX7_zoneOf 6 = .ok (.getfield 19, 3) := by decide +kernel
theorem dX7_zoneOf_9 : decode cX7_zoneOf 9 = .ok (.iload_n 1, 1) := by decide +kernel
theorem dX7_zoneOf_10 : decode cX7_zoneOf 10 = .ok (.invokevirtual 122, 3) := by decide +kernel
theorem dX7_zoneOf_13 : decode cX7_zoneOf 13 = .ok (.ireturn, 1) := by decide +kernel
theorem dX7_teamIn_0 : decode cX7_teamIn 0 = .ok (.aload_n 0, 1) := by decide +kernel
theorem dX7_teamIn_1 : decode cX7_teamIn 1 = .ok (.iload_n 1, 1) := by decide +kernel
theorem dX7_teamIn_2 : decode cX7_teamIn 2 = .ok (.invokevirtual 84, 3) := by decide +kernel
theorem dX7_teamIn_5 : decode cX7_teamIn 5 = .ok (.aload_n 0, 1) := by decide +kernel
theorem dX7_teamIn_6 : decode cX7_teamIn 6 = .ok (.getfield 19, 3) := by decide +kernel
theorem dX7_teamIn_9 : decode cX7_teamIn 9 = .ok (.iload_n 1, 1) := by decide +kernel
theorem dX7_teamIn_10 : decode cX7_teamIn 10 = .ok (.invokevirtual 88, 3) := by decide +kernel
theorem dX7_teamIn_13 : decode cX7_teamIn 13 = .ok (.ireturn, 1) := by decide +kernel
theorem dX7_free_0 : decode cX7_free 0 = .ok (.aload_n 0, 1) := by decide +kernel
theorem dX7_free_1 : decode cX7_free 1 = .ok (.iload_n 1, 1) := by decide +kernel
theorem dX7_free_2 : decode cX7_free 2 = .ok (.invokevirtual 84, 3) := by decide +kernel
theorem dX7_free_5 : decode cX7_free 5 = .ok (.aload_n 0, 1) := by decide +kernel
theorem dX7_free_6 : decode cX7_free 6 = .ok (.iload_n 2, 1) := by decide +kernel
theorem dX7_free_7 : decode cX7_free 7 = .ok (.invokevirtual 119, 3) := by decide +kernel
theorem dX7_free_10 : decode cX7_free 10 = .ok (.aload_n 0, 1) := by decide +kernel
theorem dX7_free_11 : decode cX7_free 11 = .ok (.getfield 19, 3) := by decide +kernel
theorem dX7_free_14 : decode cX7_free 14 = .ok (.iload_n 1, 1) := by decide +kernel
theorem dX7_free_15 : decode cX7_free 15 = .ok (.invokevirtual 88, 3) := by decide +kernel
theorem dX7_free_18 : decode cX7_free 18 = .ok (.istore_n 3, 1) := by decide +kernel
theorem dX7_free_19 : decode cX7_free 19 = .ok (.iload_n 3, 1) := by decide +kernel
theorem dX7_free_20 : decode cX7_free 20 = .ok (.iconst (-1), 1) := by decide +kernel
theorem dX7_free_21 : decode cX7_free 21 = .ok (.if_icmp .ne 7, 3) := by decide +kernel
theorem dX7_free_24 : decode cX7_free 24 = .ok (.iconst 0, 1) := by decide +kernel
theorem dX7_free_25 : decode cX7_free 25 = .ok (.goto 17, 3) := by decide +kernel
theorem dX7_free_28 : decode cX7_free 28 = .ok (.aload_n 0, 1) := by decide +kernel
theorem dX7_free_29 : decode cX7_free 29 = .ok (.getfield 12, 3) := by decide +kernel
theorem dX7_free_32 : decode cX7_free 32 = .ok (.getfield 92, 3) := by decide +kernel
theorem dX7_free_35 : decode cX7_free 35 = .ok (.getfield 183, 3) := by decide +kernel
theorem dX7_free_38 : decode cX7_free 38 = .ok (.iload_n 3, 1) := by decide +kernel
theorem dX7_free_39 : decode cX7_free 39 = .ok (.aaload, 1) := by decide +kernel
theorem dX7_free_40 : decode cX7_free 40 = .ok (.iload_n 2, 1) := by decide +kernel
theorem dX7_free_41 : decode cX7_free 41 = .ok (.iaload, 1) := by decide +kernel
theorem dX7_free_42 : decode cX7_free 42 = .ok (.istore 4, 2) := by decide +kernel
theorem dX7_free_44 : decode cX7_free 44 = .ok (.aload_n 0, 1) := by decide +kernel
theorem dX7_free_45 : decode cX7_free 45 = .ok (.getfield 12, 3) := by decide +kernel
theorem dX7_free_48 : decode cX7_free 48 = .ok (.getfield 44, 3) := by decide +kernel
theorem dX7_free_51 : decode cX7_free 51 = .ok (.getfield 104, 3) := by decide +kernel
theorem dX7_free_54 : decode cX7_free 54 = .ok (.iload_n 1, 1) := by decide +kernel
theorem dX7_free_55 : decode cX7_free 55 = .ok (.iaload, 1) := by decide +kernel
theorem dX7_free_56 : decode cX7_free 56 = .ok (.iload 4, 2) := by decide +kernel
theorem dX7_free_58 : decode cX7_free 58 = .ok (.isub, 1) := by decide +kernel
theorem dX7_free_59 : decode cX7_free 59 = .ok (.ireturn, 1) := by decide +kernel
theorem dX7_distance_0 : decode cX7_distance 0 = .ok (.aload_n 0, 1) := by decide +kernel
theorem dX7_distance_1 : decode cX7_distance 1 = .ok (.iload_n 1, 1) := by decide +kernel
theorem dX7_distance_2 : decode cX7_distance 2 = .ok (.invokevirtual 84, 3) := by decide +kernel
theorem dX7_distance_5 : decode cX7_distance 5 = .ok (.aload_n 0, 1) := by decide +kernel
theorem dX7_distance_6 : decode cX7_distance 6 = .ok (.iload_n 2, 1) := by decide +kernel
theorem dX7_distance_7 : decode cX7_distance 7 = .ok (.invokevirtual 84, 3) := by decide +kernel
theorem dX7_distance_10 : decode cX7_distance 10 = .ok (.aload_n 0, 1) := by decide +kernel
theorem dX7_distance_11 : decode cX7_distance 11 = .ok (.getfield 12, 3) := by decide +kernel
theorem dX7_distance_14 : decode cX7_distance 14 = .ok (.getfield 44, 3) := by decide +kernel
theorem dX7_distance_17 : decode cX7_distance 17 = .ok (.getfield 186, 3) := by decide +kernel
theorem dX7_distance_20 : decode cX7_distance 20 = .ok (.iload_n 1, 1) := by decide +kernel
theorem dX7_distance_21 : decode cX7_distance 21 = .ok (.aaload, 1) := by decide +kernel
theorem dX7_distance_22 : decode cX7_distance 22 = .ok (.iload_n 2, 1) := by decide +kernel
theorem dX7_distance_23 : decode cX7_distance 23 = .ok (.iaload, 1) := by decide +kernel
theorem dX7_distance_24 : decode cX7_distance 24 = .ok (.ireturn, 1) := by decide +kernel
theorem dX7_wishCost_0 : decode cX7_wishCost 0 = .ok (.aload_n 0, 1) := by decide +kernel
theorem dX7_wishCost_1 : decode cX7_wishCost 1 = .ok (.getfield 12, 3) := by decide +kernel
theorem dX7_wishCost_4 : decode cX7_wishCost 4 = .ok (.aload_n 0, 1) := by decide +kernel
theorem dX7_wishCost_5 : decode cX7_wishCost 5 = .ok (.getfield 19, 3) := by decide +kernel
theorem dX7_wishCost_8 : decode cX7_wishCost 8 = .ok (.invokevirtual 189, 3) := by decide +kernel
theorem dX7_wishCost_11 : decode cX7_wishCost 11 = .ok (.ireturn, 1) := by decide +kernel
theorem dX7_cost_0 : decode cX7_cost 0 = .ok (.aload_n 0, 1) := by decide +kernel
theorem dX7_cost_1 : decode cX7_cost 1 = .ok (.getfield 12, 3) := by decide +kernel
theorem dX7_cost_4 : decode cX7_cost 4 = .ok (.aload_n 0, 1) := by decide +kernel
theorem dX7_cost_5 : decode cX7_cost 5 = .ok (.getfield 19, 3) := by decide +kernel
theorem dX7_cost_8 : decode cX7_cost 8 = .ok (.invokevirtual 192, 3) := by decide +kernel
theorem dX7_cost_11 : decode cX7_cost 11 = .ok (.ireturn, 1) := by decide +kernel
theorem dX7_leastWishCost_0 : decode cX7_leastWishCost 0 = .ok (.aload_n 0, 1) := by decide +kernel
theorem dX7_leastWishCost_1 : decode cX7_leastWishCost 1 = .ok (.getfield 29, 3) := by decide +kernel
theorem dX7_leastWishCost_4 : decode cX7_leastWishCost 4 = .ok (.aload_n 0, 1) := by decide +kernel
theorem dX7_leastWishCost_5 : decode cX7_leastWishCost 5 = .ok (.getfield 12, 3) := by decide +kernel
theorem dX7_leastWishCost_8 : decode cX7_leastWishCost 8 = .ok (.iconst 0, 1) := by decide +kernel
theorem dX7_leastWishCost_9 : decode cX7_leastWishCost 9 = .ok (.invokevirtual 195, 3) := by decide +kernel
theorem dX7_leastWishCost_12 : decode cX7_leastWishCost 12 = .ok (.ireturn, 1) := by decide +kernel
theorem dX7_circles_0 : decode cX7_circles 0 = .ok (.iconst 0, 1) := by decide +kernel
theorem dX7_circles_1 : decode cX7_circles 1 = .ok (.istore_n 1, 1) := by decide +kernel
theorem dX7_circles_2 : decode cX7_circles 2 = .ok (.iconst 0, 1) := by decide +kernel
theorem dX7_circles_3 : decode cX7_circles 3 = .ok (.istore_n 2, 1) := by decide +kernel
theorem dX7_circles_4 : decode cX7_circles 4 = .ok (.iload_n 2, 1) := by decide +kernel
theorem dX7_circles_5 : decode cX7_circles 5 = .ok (.aload_n 0, 1) := by decide +kernel
theorem dX7_circles_6 : decode cX7_circles 6 = .ok (.getfield 12, 3) := by decide +kernel
theorem dX7_circles_9 : decode cX7_circles 9 = .ok (.getfield 92, 3) := by decide +kernel
theorem dX7_circles_12 : decode cX7_circles 12 = .ok (.getfield 107, 3) := by decide +kernel
theorem dX7_circles_15 : decode cX7_circles 15 = .ok (.if_icmp .ge 20, 3) := by decide +kernel
theorem dX7_circles_18 : decode cX7_circles 18 = .ok (.aload_n 0, 1) := by decide +kernel
theorem dX7_circles_19 : decode cX7_circles 19 = .ok (.iload_n 2, 1) := by decide +kernel
theorem dX7_circles_20 : decode cX7_circles 20 = .ok (.invokevirtual 199, 3) := by decide +kernel
theorem dX7_circles_23 : decode cX7_circles 23 = .ok (.ifCond .eq 6, 3) := by decide +kernel
theorem dX7_circles_26 : decode cX7_circles 26 = .ok (.iinc 1 1, 3) := by decide +kernel
theorem dX7_circles_29 : decode cX7_circles 29 = .ok (.iinc 2 1, 3) := by decide +kernel
theorem dX7_circles_32 : decode cX7_circles 32 = .ok (.goto (-28), 3) := by decide +kernel
theorem dX7_circles_35 : decode cX7_circles 35 = .ok (.iload_n 1, 1) := by decide +kernel
theorem dX7_circles_36 : decode cX7_circles 36 = .ok (.ireturn, 1) := by decide +kernel
theorem dX7_moves_0 : decode cX7_moves 0 = .ok (.aload_n 0, 1) := by decide +kernel
theorem dX7_moves_1 : decode cX7_moves 1 = .ok (.getfield 19, 3) := by decide +kernel
theorem dX7_moves_4 : decode cX7_moves 4 = .ok (.aload_n 0, 1) := by decide +kernel
theorem dX7_moves_5 : decode cX7_moves 5 = .ok (.getfield 23, 3) := by decide +kernel
theorem dX7_moves_8 : decode cX7_moves 8 = .ok (.invokevirtual 176, 3) := by decide +kernel
theorem dX7_moves_11 : decode cX7_moves 11 = .ok (.aload_n 0, 1) := by decide +kernel
theorem dX7_moves_12 : decode cX7_moves 12 = .ok (.invokevirtual 203, 3) := by decide +kernel
theorem dX7_moves_15 : decode cX7_moves 15 = .ok (.iadd, 1) := by decide +kernel
theorem dX7_moves_16 : decode cX7_moves 16 = .ok (.ireturn, 1) := by decide +kernel
theorem dX7_requireSquare_0 : decode cX7_requireSquare 0 = .ok (.iload_n 1, 1) := by decide +kernel
theorem dX7_requireSquare_1 : decode cX7_requireSquare 1 = .ok (.iload_n 2, 1) := by decide +kernel
theorem dX7_requireSquare_2 : decode cX7_requireSquare 2 = .ok (.invokestatic 206, 3) := by decide +kernel
theorem dX7_requireSquare_5 : decode cX7_requireSquare 5 = .ok (.ifCond .ne 13, 3) := by decide +kernel
theorem dX7_requireSquare_8 : decode cX7_requireSquare 8 = .ok (.new 209, 3) := by decide +kernel
theorem dX7_requireSquare_11 : decode cX7_requireSquare 11 = .ok (.dup, 1) := by decide +kernel
theorem dX7_requireSquare_12 : decode cX7_requireSquare 12 = .ok (.ldc 211, 2) := by decide +kernel
theorem dX7_requireSquare_14 : decode cX7_requireSquare 14 = .ok (.invokespecial 213, 3) := by decide +kernel
theorem dX7_requireSquare_17 : decode cX7_requireSquare 17 = .ok (.athrow, 1) := by decide +kernel
theorem dX7_requireSquare_18 : decode cX7_requireSquare 18 = .ok (.return_, 1) := by decide +kernel
theorem dX7_requireZone_0 : decode cX7_requireZone 0 = .ok (.iload_n 1, 1) := by decide +kernel
theorem dX7_requireZone_1 : decode cX7_requireZone 1 = .ok (.ifCond .lt 17, 3) := by decide +kernel
theorem dX7_requireZone_4 : decode cX7_requireZone 4 = .ok (.iload_n 1, 1) := by decide +kernel
theorem dX7_requireZone_5 : decode cX7_requireZone 5 = .ok (.aload_n 0, 1) := by decide +kernel
theorem dX7_requireZone_6 : decode cX7_requireZone 6 = .ok (.getfield 12, 3) := by decide +kernel
theorem dX7_requireZone_9 : decode cX7_requireZone 9 = .ok (.getfield 44, 3) := by decide +kernel
theorem dX7_requireZone_12 : decode cX7_requireZone 12 = .ok (.getfield 69, 3) := by decide +kernel
theorem dX7_requireZone_15 : decode cX7_requireZone 15 = .ok (.if_icmp .lt 13, 3) := by decide +kernel
theorem dX7_requireZone_18 : decode cX7_requireZone 18 = .ok (.new 209, 3) := by decide +kernel
theorem dX7_requireZone_21 : decode cX7_requireZone 21 = .ok (.dup, 1) := by decide +kernel
theorem dX7_requireZone_22 : decode cX7_requireZone 22 = .ok (.ldc 214, 2) := by decide +kernel
theorem dX7_requireZone_24 : decode cX7_requireZone 24 = .ok (.invokespecial 213, 3) := by decide +kernel
theorem dX7_requireZone_27 : decode cX7_requireZone 27 = .ok (.athrow, 1) := by decide +kernel
theorem dX7_requireZone_28 : decode cX7_requireZone 28 = .ok (.return_, 1) := by decide +kernel
theorem dX7_requireTeam_0 : decode cX7_requireTeam 0 = .ok (.iload_n 1, 1) := by decide +kernel
theorem dX7_requireTeam_1 : decode cX7_requireTeam 1 = .ok (.ifCond .lt 17, 3) := by decide +kernel
theorem dX7_requireTeam_4 : decode cX7_requireTeam 4 = .ok (.iload_n 1, 1) := by decide +kernel
theorem dX7_requireTeam_5 : decode cX7_requireTeam 5 = .ok (.aload_n 0, 1) := by decide +kernel
theorem dX7_requireTeam_6 : decode cX7_requireTeam 6 = .ok (.getfield 12, 3) := by decide +kernel
theorem dX7_requireTeam_9 : decode cX7_requireTeam 9 = .ok (.getfield 92, 3) := by decide +kernel
theorem dX7_requireTeam_12 : decode cX7_requireTeam 12 = .ok (.getfield 107, 3) := by decide +kernel
theorem dX7_requireTeam_15 : decode cX7_requireTeam 15 = .ok (.if_icmp .lt 13, 3) := by decide +kernel
theorem dX7_requireTeam_18 : decode cX7_requireTeam 18 = .ok (.new 209, 3) := by decide +kernel
theorem dX7_requireTeam_21 : decode cX7_requireTeam 21 = .ok (.dup, 1) := by decide +kernel
theorem dX7_requireTeam_22 : decode cX7_requireTeam 22 = .ok (.ldc 216, 2) := by decide +kernel
theorem dX7_requireTeam_24 : decode cX7_requireTeam 24 = .ok (.invokespecial 213, 3) := by decide +kernel
theorem dX7_requireTeam_27 : decode cX7_requireTeam 27 = .ok (.athrow, 1) := by decide +kernel
theorem dX7_requireTeam_28 : decode cX7_requireTeam 28 = .ok (.return_, 1) := by decide +kernel
theorem dX7_requireDay_0 : decode cX7_requireDay 0 = .ok (.iload_n 1, 1) := by decide +kernel
theorem dX7_requireDay_1 : decode cX7_requireDay 1 = .ok (.ifCond .lt 8, 3) := by decide +kernel
theorem dX7_requireDay_4 : decode cX7_requireDay 4 = .ok (.iload_n 1, 1) := by decide +kernel
theorem dX7_requireDay_5 : decode cX7_requireDay 5 = .ok (.iconst 5, 1) := by decide +kernel
theorem dX7_requireDay_6 : decode cX7_requireDay 6 = .ok (.if_icmp .lt 13, 3) := by decide +kernel
theorem dX7_requireDay_9 : decode cX7_requireDay 9 = .ok (.new 209, 3) := by decide +kernel
theorem dX7_requireDay_12 : decode cX7_requireDay 12 = .ok (.dup, 1) := by decide +kernel
theorem dX7_requireDay_13 : decode cX7_requireDay 13 = .ok (.ldc 218, 2) := by decide +kernel
theorem dX7_requireDay_15 : decode cX7_requireDay 15 = .ok (.invokespecial 213, 3) := by decide +kernel
theorem dX7_requireDay_18 : decode cX7_requireDay 18 = .ok (.athrow, 1) := by decide +kernel
theorem dX7_requireDay_19 : decode cX7_requireDay 19 = .ok (.return_, 1) := by decide +kernel
theorem dX7_requireRange_0 : decode cX7_requireRange 0 = .ok (.iload_n 1, 1) := by decide +kernel
theorem dX7_requireRange_1 : decode cX7_requireRange 1 = .ok (.iload_n 2, 1) := by decide +kernel
theorem dX7_requireRange_2 : decode cX7_requireRange 2 = .ok (.if_icmp .lt 8, 3) := by decide +kernel
theorem dX7_requireRange_5 : decode cX7_requireRange 5 = .ok (.iload_n 1, 1) := by decide +kernel
theorem dX7_requireRange_6 : decode cX7_requireRange 6 = .ok (.iload_n 3, 1) := by decide +kernel
theorem dX7_requireRange_7 : decode cX7_requireRange 7 = .ok (.if_icmp .le 13, 3) := by decide +kernel
theorem dX7_requireRange_10 : decode cX7_requireRange 10 = .ok (.new 137, 3) := by decide +kernel
theorem dX7_requireRange_13 : decode cX7_requireRange 13 = .ok (.dup, 1) := by decide +kernel
theorem dX7_requireRange_14 : decode cX7_requireRange 14 = .ok (.ldc 220, 2) := by decide +kernel
theorem dX7_requireRange_16 : decode cX7_requireRange 16 = .ok (.invokespecial 141, 3) := by decide +kernel
theorem dX7_requireRange_19 : decode cX7_requireRange 19 = .ok (.athrow, 1) := by decide +kernel
theorem dX7_requireRange_20 : decode cX7_requireRange 20 = .ok (.return_, 1) := by decide +kernel
theorem dX7_requireRoom_0 : decode cX7_requireRoom 0 = .ok (.aload_n 0, 1) := by decide +kernel
theorem dX7_requireRoom_1 : decode cX7_requireRoom 1 = .ok (.getfield 19, 3) := by decide +kernel
theorem dX7_requireRoom_4 : decode cX7_requireRoom 4 = .ok (.iload_n 2, 1) := by decide +kernel
theorem dX7_requireRoom_5 : decode cX7_requireRoom 5 = .ok (.invokevirtual 88, 3) := by decide +kernel
theorem dX7_requireRoom_8 : decode cX7_requireRoom 8 = .ok (.istore_n 3, 1) := by decide +kernel
theorem dX7_requireRoom_9 : decode cX7_requireRoom 9 = .ok (.iload_n 3, 1) := by decide +kernel
theorem dX7_requireRoom_10 : decode cX7_requireRoom 10 = .ok (.iconst (-1), 1) := by decide +kernel
theorem dX7_requireRoom_11 : decode cX7_requireRoom 11 = .ok (.if_icmp .eq 18, 3) := by decide +kernel
theorem dX7_requireRoom_14 : decode cX7_requireRoom 14 = .ok (.iload_n 3, 1) := by decide +kernel
theorem dX7_requireRoom_15 : decode cX7_requireRoom 15 = .ok (.iload_n 1, 1) := by decide +kernel
theorem dX7_requireRoom_16 : decode cX7_requireRoom 16 = .ok (.if_icmp .eq 13, 3) := by decide +kernel
theorem dX7_requireRoom_19 : decode cX7_requireRoom 19 = .ok (.new 54, 3) := by decide +kernel
theorem dX7_requireRoom_22 : decode cX7_requireRoom 22 = .ok (.dup, 1) := by decide +kernel
theorem dX7_requireRoom_23 : decode cX7_requireRoom 23 = .ok (.ldc 222, 2) := by decide +kernel
theorem dX7_requireRoom_25 : decode cX7_requireRoom 25 = .ok (.invokespecial 58, 3) := by decide +kernel
theorem dX7_requireRoom_28 : decode cX7_requireRoom 28 = .ok (.athrow, 1) := by decide +kernel
theorem dX7_requireRoom_29 : decode cX7_requireRoom 29 = .ok (.aload_n 0, 1) := by decide +kernel
theorem dX7_requireRoom_30 : decode cX7_requireRoom 30 = .ok (.getfield 12, 3) := by decide +kernel
theorem dX7_requireRoom_33 : decode cX7_requireRoom 33 = .ok (.iload_n 1, 1) := by decide +kernel
theorem dX7_requireRoom_34 : decode cX7_requireRoom 34 = .ok (.iload_n 2, 1) := by decide +kernel
theorem dX7_requireRoom_35 : decode cX7_requireRoom 35 = .ok (.invokevirtual 171, 3) := by decide +kernel
theorem dX7_requireRoom_38 : decode cX7_requireRoom 38 = .ok (.ifCond .ne 13, 3) := by decide +kernel
theorem dX7_requireRoom_41 : decode cX7_requireRoom 41 = .ok (.new 54, 3) := by decide +kernel
theorem dX7_requireRoom_44 : decode cX7_requireRoom 44 = .ok (.dup, 1) := by decide +kernel
theorem dX7_requireRoom_45 : decode cX7_requireRoom 45 = .ok (.ldc 224, 2) := by decide +kernel
theorem dX7_requireRoom_47 : decode cX7_requireRoom 47 = .ok (.invokespecial 58, 3) := by decide +kernel
theorem dX7_requireRoom_50 : decode cX7_requireRoom 50 = .ok (.athrow, 1) := by decide +kernel
theorem dX7_requireRoom_51 : decode cX7_requireRoom 51 = .ok (.return_, 1) := by decide +kernel
theorem dX7_layLeast_0 : decode cX7_layLeast 0 = .ok (.aload_n 0, 1) := by decide +kernel
theorem dX7_layLeast_1 : decode cX7_layLeast 1 = .ok (.getfield 29, 3) := by decide +kernel
theorem dX7_layLeast_4 : decode cX7_layLeast 4 = .ok (.aload_n 0, 1) := by decide +kernel
theorem dX7_layLeast_5 : decode cX7_layLeast 5 = .ok (.getfield 12, 3) := by decide +kernel
theorem dX7_layLeast_8 : decode cX7_layLeast 8 = .ok (.iload_n 1, 1) := by decide +kernel
theorem dX7_layLeast_9 : decode cX7_layLeast 9 = .ok (.invokevirtual 195, 3) := by decide +kernel
theorem dX7_layLeast_12 : decode cX7_layLeast 12 = .ok (.istore_n 2, 1) := by decide +kernel
theorem dX7_layLeast_13 : decode cX7_layLeast 13 = .ok (.iload_n 2, 1) := by decide +kernel
theorem dX7_layLeast_14 : decode cX7_layLeast 14 = .ok (.iconst (-1), 1) := by decide +kernel
theorem dX7_layLeast_15 : decode cX7_layLeast 15 = .ok (.if_icmp .ne 13, 3) := by decide +kernel
theorem dX7_layLeast_18 : decode cX7_layLeast 18 = .ok (.new 54, 3) := by decide +kernel
theorem dX7_layLeast_21 : decode cX7_layLeast 21 = .ok (.dup, 1) := by decide +kernel
theorem dX7_layLeast_22 : decode cX7_layLeast 22 = .ok (.ldc 226, 2) := by decide +kernel
theorem dX7_layLeast_24 : decode cX7_layLeast 24 = .ok (.invokespecial 58, 3) := by decide +kernel
theorem dX7_layLeast_27 : decode cX7_layLeast 27 = .ok (.athrow, 1) := by decide +kernel
theorem dX7_layLeast_28 : decode cX7_layLeast 28 = .ok (.aload_n 0, 1) := by decide +kernel
theorem dX7_layLeast_29 : decode cX7_layLeast 29 = .ok (.getfield 19, 3) := by decide +kernel
theorem dX7_layLeast_32 : decode cX7_layLeast 32 = .ok (.aload_n 0, 1) := by decide +kernel
theorem dX7_layLeast_33 : decode cX7_layLeast 33 = .ok (.getfield 29, 3) := by decide +kernel
theorem dX7_layLeast_36 : decode cX7_layLeast 36 = .ok (.getfield 228, 3) := by decide +kernel
theorem dX7_layLeast_39 : decode cX7_layLeast 39 = .ok (.invokevirtual 167, 3) := by decide +kernel
theorem dX7_layLeast_42 : decode cX7_layLeast 42 = .ok (.iload_n 2, 1) := by decide +kernel
theorem dX7_layLeast_43 : decode cX7_layLeast 43 = .ok (.ireturn, 1) := by decide +kernel
theorem dX7_isLowestOfCircle_0 : decode cX7_isLowestOfCircle 0 = .ok (.aload_n 0, 1) := by decide +kernel
theorem dX7_isLowestOfCircle_1 : decode cX7_isLowestOfCircle 1 = .ok (.iload_n 1, 1) := by decide +kernel
theorem dX7_isLowestOfCircle_2 : decode cX7_isLowestOfCircle 2 = .ok (.invokevirtual 229, 3) := by decide +kernel
theorem dX7_isLowestOfCircle_5 : decode cX7_isLowestOfCircle 5 = .ok (.istore_n 2, 1) := by decide +kernel
theorem dX7_isLowestOfCircle_6 : decode cX7_isLowestOfCircle 6 = .ok (.iconst 1, 1) := by decide +kernel
theorem dX7_isLowestOfCircle_7 : decode cX7_isLowestOfCircle 7 = .ok (.istore_n 3, 1) := by decide +kernel
theorem dX7_isLowestOfCircle_8 : decode cX7_isLowestOfCircle 8 = .ok (.iload_n 3, 1) := by decide +kernel
theorem dX7_isLowestOfCircle_9 : decode cX7_isLowestOfCircle 9 = .ok (.bipush 7, 2) := by decide +kernel
theorem dX7_isLowestOfCircle_11 : decode cX7_isLowestOfCircle 11 = .ok (.if_icmp .gt 43, 3) := by decide +kernel
theorem dX7_isLowestOfCircle_14 : decode cX7_isLowestOfCircle 14 = .ok (.iload_n 2, 1) := by decide +kernel
theorem dX7_isLowestOfCircle_15 : decode cX7_isLowestOfCircle 15 = .ok (.iconst (-1), 1) := by decide +kernel
theorem dX7_isLowestOfCircle_16 : decode cX7_isLowestOfCircle 16 = .ok (.if_icmp .eq 8, 3) := by decide +kernel
theorem dX7_isLowestOfCircle_19 : decode cX7_isLowestOfCircle 19 = .ok (.iload_n 2, 1) := by decide +kernel
theorem dX7_isLowestOfCircle_20 : decode cX7_isLowestOfCircle 20 = .ok (.iload_n 1, 1) := by decide +kernel
theorem dX7_isLowestOfCircle_21 : decode cX7_isLowestOfCircle 21 = .ok (.if_icmp .ge 5, 3) := by decide +kernel
theorem dX7_isLowestOfCircle_24 : decode cX7_isLowestOfCircle 24 = .ok (.iconst 0, 1) := by decide +kernel
theorem dX7_isLowestOfCircle_25 : decode cX7_isLowestOfCircle 25 = .ok (.ireturn, 1) := by decide +kernel
theorem dX7_isLowestOfCircle_26 : decode cX7_isLowestOfCircle 26 = .ok (.iload_n 2, 1) := by decide +kernel
theorem dX7_isLowestOfCircle_27 : decode cX7_isLowestOfCircle 27 = .ok (.iload_n 1, 1) := by decide +kernel
theorem dX7_isLowestOfCircle_28 : decode cX7_isLowestOfCircle 28 = .ok (.if_icmp .ne 14, 3) := by decide +kernel
theorem dX7_isLowestOfCircle_31 : decode cX7_isLowestOfCircle 31 = .ok (.iload_n 3, 1) := by decide +kernel
theorem dX7_isLowestOfCircle_32 : decode cX7_isLowestOfCircle 32 = .ok (.iconst 1, 1) := by decide +kernel
theorem dX7_isLowestOfCircle_33 : decode cX7_isLowestOfCircle 33 = .ok (.if_icmp .le 7, 3) := by decide +kernel
theorem dX7_isLowestOfCircle_36 : decode cX7_isLowestOfCircle 36 = .ok (.iconst 1, 1) := by decide +kernel
theorem dX7_isLowestOfCircle_37 : decode cX7_isLowestOfCircle 37 = .ok (.goto 4, 3) := by decide +kernel
theorem dX7_isLowestOfCircle_40 : decode cX7_isLowestOfCircle 40 = .ok (.iconst 0, 1) := by decide +kernel
theorem dX7_isLowestOfCircle_41 : decode cX7_isLowestOfCircle 41 = .ok (.ireturn, 1) := by decide +kernel
theorem dX7_isLowestOfCircle_42 : decode cX7_isLowestOfCircle 42 = .ok (.aload_n 0, 1) := by decide +kernel
theorem dX7_isLowestOfCircle_43 : decode cX7_isLowestOfCircle 43 = .ok (.iload_n 2, 1) := by decide +kernel
theorem dX7_isLowestOfCircle_44 : decode cX7_isLowestOfCircle 44 = .ok (.invokevirtual 229, 3) := by decide +kernel
theorem dX7_isLowestOfCircle_47 : decode cX7_isLowestOfCircle 47 = .ok (.istore_n 2, 1) := by decide +kernel
theorem dX7_isLowestOfCircle_48 : decode cX7_isLowestOfCircle 48 = .ok (.iinc 3 1, 3) := by decide +kernel
theorem dX7_isLowestOfCircle_51 : decode cX7_isLowestOfCircle 51 = .ok (.goto (-43), 3) := by decide +kernel
theorem dX7_isLowestOfCircle_54 : decode cX7_isLowestOfCircle 54 = .ok (.iconst 0, 1) := by decide +kernel
theorem dX7_isLowestOfCircle_55 : decode cX7_isLowestOfCircle 55 = .ok (.ireturn, 1) := by decide +kernel
theorem dX7_teamInTheWayOf_0 : decode cX7_teamInTheWayOf 0 = .ok (.aload_n 0, 1) := by decide +kernel
theorem dX7_teamInTheWayOf_1 : decode cX7_teamInTheWayOf 1 = .ok (.getfield 19, 3) := by decide +kernel
theorem dX7_teamInTheWayOf_4 : decode cX7_teamInTheWayOf 4 = .ok (.aload_n 0, 1) := by decide +kernel
theorem dX7_teamInTheWayOf_5 : decode cX7_teamInTheWayOf 5 = .ok (.getfield 23, 3) := by decide +kernel
theorem dX7_teamInTheWayOf_8 : decode cX7_teamInTheWayOf 8 = .ok (.iload_n 1, 1) := by decide +kernel
theorem dX7_teamInTheWayOf_9 : decode cX7_teamInTheWayOf 9 = .ok (.invokevirtual 122, 3) := by decide +kernel
theorem dX7_teamInTheWayOf_12 : decode cX7_teamInTheWayOf 12 = .ok (.invokevirtual 88, 3) := by decide +kernel
theorem dX7_teamInTheWayOf_15 : decode cX7_teamInTheWayOf 15 = .ok (.ireturn, 1) := by decide +kernel
end
section
theorem dX8_init_0 : decode cX8_init 0 = .ok (.aload_n 0, 1) := by decide +kernel
theorem dX8_init_1 : decode cX8_init 1 = .ok (.invokespecial 1, 3) := by decide +kernel
theorem dX8_init_4 : decode cX8_init 4 = .ok (.aload_n 0, 1) := by decide +kernel
theorem dX8_init_5 : decode cX8_init 5 = .ok (.bipush 64, 2) := by decide +kernel
theorem dX8_init_7 : decode cX8_init 7 = .ok (.newarray .boolean, 2) := by decide +kernel
theorem dX8_init_9 : decode cX8_init 9 = .ok (.putfield 7, 3) := by decide +kernel
theorem dX8_init_12 : decode cX8_init 12 = .ok (.aload_n 0, 1) := by decide +kernel
theorem dX8_init_13 : decode cX8_init 13 = .ok (.bipush 7, 2) := by decide +kernel
theorem dX8_init_15 : decode cX8_init 15 = .ok (.newarray .int, 2) := by decide +kernel
theorem dX8_init_17 : decode cX8_init 17 = .ok (.putfield 13, 3) := by decide +kernel
theorem dX8_init_20 : decode cX8_init 20 = .ok (.aload_n 0, 1) := by decide +kernel
theorem dX8_init_21 : decode cX8_init 21 = .ok (.bipush 7, 2) := by decide +kernel
theorem dX8_init_23 : decode cX8_init 23 = .ok (.newarray .int, 2) := by decide +kernel
theorem dX8_init_25 : decode cX8_init 25 = .ok (.putfield 17, 3) := by decide +kernel
theorem dX8_init_28 : decode cX8_init 28 = .ok (.aload_n 0, 1) := by decide +kernel
theorem dX8_init_29 : decode cX8_init 29 = .ok (.bipush 35, 2) := by decide +kernel
theorem dX8_init_31 : decode cX8_init 31 = .ok (.newarray .int, 2) := by decide +kernel
theorem dX8_init_33 : decode cX8_init 33 = .ok (.putfield 20, 3) := by decide +kernel
theorem dX8_init_36 : decode cX8_init 36 = .ok (.aload_n 0, 1) := by decide +kernel
theorem dX8_init_37 : decode cX8_init 37 = .ok (.bipush 49, 2) := by decide +kernel
theorem dX8_init_39 : decode cX8_init 39 = .ok (.newarray .int, 2) := by decide +kernel
theorem dX8_init_41 : decode cX8_init 41 = .ok (.putfield 23, 3) := by decide +kernel
theorem dX8_init_44 : decode cX8_init 44 = .ok (.aload_n 0, 1) := by decide +kernel
theorem dX8_init_45 : decode cX8_init 45 = .ok (.bipush 49, 2) := by decide +kernel
theorem dX8_init_47 : decode cX8_init 47 = .ok (.newarray .int, 2) := by decide +kernel
theorem dX8_init_49 : decode cX8_init 49 = .ok (.putfield 26, 3) := by decide +kernel
theorem dX8_init_52 : decode cX8_init 52 = .ok (.aload_n 0, 1) := by decide +kernel
theorem dX8_init_53 : decode cX8_init 53 = .ok (.bipush 7, 2) := by decide +kernel
theorem dX8_init_55 : decode cX8_init 55 = .ok (.newarray .int, 2) := by decide +kernel
theorem dX8_init_57 : decode cX8_init 57 = .ok (.putfield 29, 3) := by decide +kernel
theorem dX8_init_60 : decode cX8_init 60 = .ok (.aload_n 0, 1) := by decide +kernel
theorem dX8_init_61 : decode cX8_init 61 = .ok (.bipush 7, 2) := by decide +kernel
theorem dX8_init_63 : decode cX8_init 63 = .ok (.newarray .int, 2) := by decide +kernel
theorem dX8_init_65 : decode cX8_init 65 = .ok (.putfield 32, 3) := by decide +kernel
theorem dX8_init_68 : decode cX8_init 68 = .ok (.aload_n 0, 1) := by decide +kernel
theorem dX8_init_69 : decode cX8_init 69 = .ok (.bipush 49, 2) := by decide +kernel
theorem dX8_init_71 : decode cX8_init 71 = .ok (.newarray .int, 2) := by decide +kernel
theorem dX8_init_73 : decode cX8_init 73 = .ok (.putfield 35, 3) := by decide +kernel
theorem dX8_init_76 : decode cX8_init 76 = .ok (.aload_n 0, 1) := by decide +kernel
theorem dX8_init_77 : decode cX8_init 77 = .ok (.bipush 64, 2) := by decide +kernel
theorem dX8_init_79 : decode cX8_init 79 = .ok (.newarray .int, 2) := by decide +kernel
theorem dX8_init_81 : decode cX8_init 81 = .ok (.putfield 38, 3) := by decide +kernel
theorem dX8_init_84 : decode cX8_init 84 = .ok (.aload_n 0, 1) := by decide +kernel
theorem dX8_init_85 : decode cX8_init 85 = .ok (.bipush 7, 2) := by decide +kernel
theorem dX8_init_87 : decode cX8_init 87 = .ok (.newarray .int, 2) := by decide +kernel
theorem dX8_init_89 : decode cX8_init 89 = .ok (.putfield 41, 3) := by decide +kernel
theorem dX8_init_92 : decode cX8_init 92 = .ok (.aload_n 0, 1) := by decide +kernel
theorem dX8_init_93 : decode cX8_init 93 = .ok (.bipush 7, 2) := by decide +kernel
theorem dX8_init_95 : decode cX8_init 95 = .ok (.newarray .int, 2) := by decide +kernel
theorem dX8_init_97 : decode cX8_init 97 = .ok (.putfield 44, 3) := by decide +kernel
theorem dX8_init_100 : decode cX8_init 100 = .ok (.aload_n 0, 1) := by decide +kernel
theorem dX8_init_101 : decode cX8_init 101 = .ok (.bipush 7, 2) := by decide +kernel
theorem dX8_init_103 : decode cX8_init 103 = .ok (.newarray .int, 2) := by decide +kernel
theorem dX8_init_105 : decode cX8_init 105 = .ok (.putfield 47, 3) := by decide +kernel
theorem dX8_init_108 : decode cX8_init 108 = .ok (.iconst 0, 1) := by decide +kernel
theorem dX8_init_109 : decode cX8_init 109 = .ok (.istore_n 1, 1) := by decide +kernel
theorem dX8_init_110 : decode cX8_init 110 = .ok (.iload_n 1, 1) := by decide +kernel
theorem dX8_init_111 : decode cX8_init 111 = .ok (.bipush 7, 2) := by decide +kernel
theorem dX8_init_113 : decode cX8_init 113 = .ok (.if_icmp .ge 16, 3) := by decide +kernel
theorem dX8_init_116 : decode cX8_init 116 = .ok (.aload_n 0, 1) := by decide +kernel
theorem dX8_init_117 : decode cX8_init 117 = .ok (.getfield 32, 3) := by decide +kernel
theorem dX8_init_120 : decode cX8_init 120 = .ok (.iload_n 1, 1) := by decide +kernel
theorem dX8_init_121 : decode cX8_init 121 = .ok (.iconst (-1), 1) := by decide +kernel
theorem dX8_init_122 : decode cX8_init 122 = .ok (.iastore, 1) := by decide +kernel
theorem dX8_init_123 : decode cX8_init 123 = .ok (.iinc 1 1, 3) := by decide +kernel
theorem dX8_init_126 : decode cX8_init 126 = .ok (.goto (-16), 3) := by decide +kernel
theorem dX8_init_129 : decode cX8_init 129 = .ok (.return_, 1) := by decide +kernel
theorem dX8_thrown_0 : decode cX8_thrown 0 = .ok (.aload_n 0, 1) := by decide +kernel
theorem dX8_thrown_1 : decode cX8_thrown 1 = .ok (.getfield 50, 3) := by decide +kernel
theorem dX8_thrown_4 : decode cX8_thrown 4 = .ok (.ireturn, 1) := by decide +kernel
theorem dX8_in_0 : decode cX8_in 0 = .ok (.iload_n 0, 1) := by decide +kernel
theorem dX8_in_1 : decode cX8_in 1 = .ok (.iload_n 1, 1) := by decide +kernel
theorem dX8_in_2 : decode cX8_in 2 = .ok (.if_icmp .lt 12, 3) := by decide +kernel
theorem dX8_in_5 : decode cX8_in 5 = .ok (.iload_n 0, 1) := by decide +kernel
theorem dX8_in_6 : decode cX8_in 6 = .ok (.iload_n 2, 1) := by decide +kernel
theorem dX8_in_7 : decode cX8_in 7 = .ok (.if_icmp .gt 7, 3) := by decide +kernel
theorem dX8_in_10 : decode cX8_in 10 = .ok (.iconst 1, 1) := by decide +kernel
theorem dX8_in_11 : decode cX8_in 11 = .ok (.goto 4, 3) := by decide +kernel
theorem dX8_in_14 : decode cX8_in 14 = .ok (.iconst 0, 1) := by decide +kernel
theorem dX8_in_15 : decode cX8_in 15 = .ok (.ireturn, 1) := by decide +kernel
theorem dX8_asked_0 : decode cX8_asked 0 = .ok (.aload_n 0, 1) := by decide +kernel
theorem dX8_asked_1 : decode cX8_asked 1 = .ok (.iload_n 1, 1) := by decide +kernel
theorem dX8_asked_2 : decode cX8_asked 2 = .ok (.ifCond .eq 7, 3) := by decide +kernel
theorem dX8_asked_5 : decode cX8_asked 5 = .ok (.iconst 0, 1) := by decide +kernel
theorem dX8_asked_6 : decode cX8_asked 6 = .ok (.goto 4, 3) := by decide +kernel
theorem dX8_asked_9 : decode cX8_asked 9 = .ok (.iconst 1, 1) := by decide +kernel
theorem dX8_asked_10 : decode cX8_asked 10 = .ok (.putfield 50, 3) := by decide +kernel
theorem dX8_asked_13 : decode cX8_asked 13 = .ok (.iload_n 1, 1) := by decide +kernel
theorem dX8_asked_14 : decode cX8_asked 14 = .ok (.ireturn, 1) := by decide +kernel
theorem dX8_asked__0 : decode cX8_asked_ 0 = .ok (.aload_n 0, 1) := by decide +kernel
theorem dX8_asked__1 : decode cX8_asked_ 1 = .ok (.iload_n 1, 1) := by decide +kernel
theorem dX8_asked__2 : decode cX8_asked_ 2 = .ok (.ifCond .ne 7, 3) := by decide +kernel
theorem dX8_asked__5 : decode cX8_asked_ 5 = .ok (.iconst 1, 1) := by decide +kernel
theorem dX8_asked__6 : decode cX8_asked_ 6 = .ok (.goto 12, 3) := by decide +kernel
theorem dX8_asked__9 : decode cX8_asked_ 9 = .ok (.iload_n 2, 1) := by decide +kernel
theorem dX8_asked__10 : decode cX8_asked_ 10 = .ok (.ifCond .eq 7, 3) := by decide +kernel
theorem dX8_asked__13 : decode cX8_asked_ 13 = .ok (.iconst 0, 1) := by decide +kernel
theorem dX8_asked__14 : decode cX8_asked_ 14 = .ok (.goto 4, 3) := by decide +kernel
theorem dX8_asked__17 : decode cX8_asked_ 17 = .ok (.iconst 2, 1) := by decide +kernel
theorem dX8_asked__18 : decode cX8_asked_ 18 = .ok (.putfield 50, 3) := by decide +kernel
theorem dX8_asked__21 : decode cX8_asked_ 21 = .ok (.aload_n 0, 1) := by decide +kernel
theorem dX8_asked__22 : decode cX8_asked_ 22 = .ok (.getfield 50, 3) := by decide +kernel
theorem dX8_asked__25 : decode cX8_asked_ 25 = .ok (.ifCond .ne 7, 3) := by decide +kernel
theorem dX8_asked__28 : decode cX8_asked_ 28 = .ok (.iconst 1, 1) := by decide +kernel
theorem dX8_asked__29 : decode cX8_asked_ 29 = .ok (.goto 4, 3) := by decide +kernel
theorem dX8_asked__32 : decode cX8_asked_ 32 = .ok (.iconst 0, 1) := by decide +kernel
theorem dX8_asked__33 : decode cX8_asked_ 33 = .ok (.ireturn, 1) := by decide +kernel
theorem dX8_asked___0 : decode cX8_asked__ 0 = .ok (.aload_n 0, 1) := by decide +kernel
theorem dX8_asked___1 : decode cX8_asked__ 1 = .ok (.iload_n 1, 1) := by decide +kernel
theorem dX8_asked___2 : decode cX8_asked__ 2 = .ok (.ifCond .ne 7, 3) := by decide +kernel
theorem dX8_asked___5 : decode cX8_asked__ 5 = .ok (.iconst 1, 1) := by decide +kernel
theorem dX8_asked___6 : decode cX8_asked__ 6 = .ok (.goto 20, 3) := by decide +kernel
theorem dX8_asked___9 : decode cX8_asked__ 9 = .ok (.iload_n 2, 1) := by decide +kernel
theorem dX8_asked___10 : decode cX8_asked__ 10 = .ok (.ifCond .ne 7, 3) := by decide +kernel
theorem dX8_asked___13 : decode cX8_asked__ 13 = .ok (.iconst 2, 1) := by decide +kernel
theorem dX8_asked___14 : decode cX8_asked__ 14 = .ok (.goto 12, 3) := by decide +kernel
theorem dX8_asked___17 : decode cX8_asked__ 17 = .ok (.iload_n 3, 1) := by decide +kernel
theorem dX8_asked___18 : decode cX8_asked__ 18 = .ok (.ifCond .eq 7, 3) := by decide +kernel
theorem dX8_asked___21 : decode cX8_asked__ 21 = .ok (.iconst 0, 1) := by decide +kernel
theorem dX8_asked___22 : decode cX8_asked__ 22 = .ok (.goto 4, 3) := by decide +kernel
theorem dX8_asked___25 : decode cX8_asked__ 25 = .ok (.iconst 3, 1) := by decide +kernel
theorem dX8_asked___26 : decode cX8_asked__ 26 = .ok (.putfield 50, 3) := by decide +kernel
theorem dX8_asked___29 : decode cX8_asked__ 29 = .ok (.aload_n 0, 1) := by decide +kernel
theorem dX8_asked___30 : decode cX8_asked__ 30 = .ok (.getfield 50, 3) := by decide +kernel
theorem dX8_asked___33 : decode cX8_asked__ 33 = .ok (.ifCond .ne 7, 3) := by decide +kernel
theorem dX8_asked___36 : decode cX8_asked__ 36 = .ok (.iconst 1, 1) := by decide +kernel
theorem dX8_asked___37 : decode cX8_asked__ 37 = .ok (.goto 4, 3) := by decide +kernel
theorem dX8_asked___40 : decode cX8_asked__ 40 = .ok (.iconst 0, 1) := by decide +kernel
theorem dX8_asked___41 : decode cX8_asked__ 41 = .ok (.ireturn, 1) := by decide +kernel
theorem dX8_told_0 : decode cX8_told 0 = .ok (.aload_n 0, 1) := by decide +kernel
theorem dX8_told_1 : decode cX8_told 1 = .ok (.iconst 0, 1) := by decide +kernel
theorem dX8_told_2 : decode cX8_told 2 = .ok (.putfield 50, 3) := by decide +kernel
theorem dX8_told_5 : decode cX8_told 5 = .ok (.iload_n 1, 1) := by decide +kernel
theorem dX8_told_6 : decode cX8_told 6 = .ok (.ireturn, 1) := by decide +kernel
theorem dX8_isSquare_0 : decode cX8_isSquare 0 = .ok (.iload_n 0, 1) := by decide +kernel
theorem dX8_isSquare_1 : decode cX8_isSquare 1 = .ok (.iconst 0, 1) := by decide +kernel
theorem dX8_isSquare_2 : decode cX8_isSquare 2 = .ok (.bipush 7, 2) := by decide +kernel
theorem dX8_isSquare_4 : decode cX8_isSquare 4 = .ok (.invokestatic 54, 3) := by decide +kernel
theorem dX8_isSquare_7 : decode cX8_isSquare 7 = .ok (.ifCond .eq 17, 3) := by decide +kernel
theorem dX8_isSquare_10 : decode cX8_isSquare 10 = .ok (.iload_n 1, 1) := by decide +kernel
theorem dX8_isSquare_11 : decode cX8_isSquare 11 = .ok (.iconst 0, 1) := by decide +kernel
theorem dX8_isSquare_12 : decode cX8_isSquare 12 = .ok (.bipush 7, 2) := by decide +kernel
theorem dX8_isSquare_14 : decode cX8_isSquare 14 = .ok (.invokestatic 54, 3) := by decide +kernel
theorem dX8_isSquare_17 : decode cX8_isSquare 17 = .ok (.ifCond .eq 7, 3) := by decide +kernel
theorem dX8_isSquare_20 : decode cX8_isSquare 20 = .ok (.iconst 1, 1) := by decide +kernel
theorem dX8_isSquare_21 : decode cX8_isSquare 21 = .ok (.goto 4, 3) := by decide +kernel
theorem dX8_isSquare_24 : decode cX8_isSquare 24 = .ok (.iconst 0, 1) := by decide +kernel
theorem dX8_isSquare_25 : decode cX8_isSquare 25 = .ok (.ireturn, 1) := by decide +kernel
theorem dX8_isZone_0 : decode cX8_isZone 0 = .ok (.iload_n 1, 1) := by decide +kernel
theorem dX8_isZone_1 : decode cX8_isZone 1 = .ok (.iconst 0, 1) := by decide +kernel
theorem dX8_isZone_2 : decode cX8_isZone 2 = .ok (.aload_n 0, 1) := by decide +kernel
theorem dX8_isZone_3 : decode cX8_isZone 3 = .ok (.getfield 58, 3) := by decide +kernel
theorem dX8_isZone_6 : decode cX8_isZone 6 = .ok (.iconst 1, 1) := by decide +kernel
theorem dX8_isZone_7 : decode cX8_isZone 7 = .ok (.isub, 1) := by decide +kernel
theorem dX8_isZone_8 : decode cX8_isZone 8 = .ok (.invokestatic 54, 3) := by decide +kernel
theorem dX8_isZone_11 : decode cX8_isZone 11 = .ok (.ireturn, 1) := by decide +kernel
theorem dX8_isTeam_0 : decode cX8_isTeam 0 = .ok (.iload_n 1, 1) := by decide +kernel
theorem dX8_isTeam_1 : decode cX8_isTeam 1 = .ok (.iconst 0, 1) := by decide +kernel
theorem dX8_isTeam_2 : decode cX8_isTeam 2 = .ok (.aload_n 0, 1) := by decide +kernel
theorem dX8_isTeam_3 : decode cX8_isTeam 3 = .ok (.getfield 61, 3) := by decide +kernel
theorem dX8_isTeam_6 : decode cX8_isTeam 6 = .ok (.iconst 1, 1) := by decide +kernel
theorem dX8_isTeam_7 : decode cX8_isTeam 7 = .ok (.isub, 1) := by decide +kernel
theorem dX8_isTeam_8 : decode cX8_isTeam 8 = .ok (.invokestatic 54, 3) := by decide +kernel
theorem dX8_isTeam_11 : decode cX8_isTeam 11 = .ok (.ireturn, 1) := by decide +kernel
theorem dX8_hasZone_0 : decode cX8_hasZone 0 = .ok (.iconst 0, 1) := by decide +kernel
theorem dX8_hasZone_1 : decode cX8_hasZone 1 = .ok (.istore_n 2, 1) := by decide +kernel
theorem dX8_hasZone_2 : decode cX8_hasZone 2 = .ok (.iconst 0, 1) := by decide +kernel
theorem dX8_hasZone_3 : decode cX8_hasZone 3 = .ok (.istore_n 3, 1) := by decide +kernel
theorem dX8_hasZone_4 : decode cX8_hasZone 4 = .ok (.iload_n 3, 1) := by decide +kernel
theorem dX8_hasZone_5 : decode cX8_hasZone 5 = .ok (.aload_n 0, 1) := by decide +kernel
theorem dX8_hasZone_6 : decode cX8_hasZone 6 = .ok (.getfield 58, 3) := by decide +kernel
theorem dX8_hasZone_9 : decode cX8_hasZone 9 = .ok (.if_icmp .ge 29, 3) := by decide +kernel
theorem dX8_hasZone_12 : decode cX8_hasZone 12 = .ok (.iload_n 2, 1) := by decide +kernel
theorem dX8_hasZone_13 : decode cX8_hasZone 13 = .ok (.ifCond .ne 13, 3) := by decide +kernel
theorem dX8_hasZone_16 : decode cX8_hasZone 16 = .ok (.aload_n 0, 1) := by decide +kernel
theorem dX8_hasZone_17 : decode cX8_hasZone 17 = .ok (.getfield 13, 3) := by decide +kernel
theorem dX8_hasZone_20 : decode cX8_hasZone 20 = .ok (.iload_n 3, 1) := by decide +kernel
theorem dX8_hasZone_21 : decode cX8_hasZone 21 = .ok (.iaload, 1) := by decide +kernel
theorem dX8_hasZone_22 : decode cX8_hasZone 22 = .ok (.iload_n 1, 1) := by decide +kernel
theorem dX8_hasZone_23 : decode cX8_hasZone 23 = .ok (.if_icmp .ne 7, 3) := by decide +kernel
theorem dX8_hasZone_26 : decode cX8_hasZone 26 = .ok (.iconst 1, 1) := by decide +kernel
theorem dX8_hasZone_27 : decode cX8_hasZone 27 = .ok (.goto 4, 3) := by decide +kernel
theorem dX8_hasZone_30 : decode cX8_hasZone 30 = .ok (.iconst 0, 1) := by decide +kernel
theorem dX8_hasZone_31 : decode cX8_hasZone 31 = .ok (.istore_n 2, 1) := by decide +kernel
theorem dX8_hasZone_32 : decode cX8_hasZone 32 = .ok (.iinc 3 1, 3) := by decide +kernel
theorem dX8_hasZone_35 : decode cX8_hasZone 35 = .ok (.goto (-31), 3) := by decide +kernel
theorem dX8_hasZone_38 : decode cX8_hasZone 38 = .ok (.iload_n 2, 1) := by decide +kernel
theorem dX8_hasZone_39 : decode cX8_hasZone 39 = .ok (.ireturn, 1) := by decide +kernel
theorem dX8_inZone_0 : decode cX8_inZone 0 = .ok (.iconst (-1), 1) := by decide +kernel
theorem dX8_inZone_1 : decode cX8_inZone 1 = .ok (.istore_n 2, 1) := by decide +kernel
theorem dX8_inZone_2 : decode cX8_inZone 2 = .ok (.iconst 0, 1) := by decide +kernel
theorem dX8_inZone_3 : decode cX8_inZone 3 = .ok (.istore_n 3, 1) := by decide +kernel
theorem dX8_inZone_4 : decode cX8_inZone 4 = .ok (.iload_n 3, 1) := by decide +kernel
theorem dX8_inZone_5 : decode cX8_inZone 5 = .ok (.aload_n 0, 1) := by decide +kernel
theorem dX8_inZone_6 : decode cX8_inZone 6 = .ok (.getfield 61, 3) := by decide +kernel
theorem dX8_inZone_9 : decode cX8_inZone 9 = .ok (.if_icmp .ge 25, 3) := by decide +kernel
theorem dX8_inZone_12 : decode cX8_inZone 12 = .ok (.aload_n 0, 1) := by decide +kernel
theorem dX8_inZone_13 : decode cX8_inZone 13 = .ok (.getfield 29, 3) := by decide +kernel
theorem dX8_inZone_16 : decode cX8_inZone 16 = .ok (.iload_n 3, 1) := by decide +kernel
theorem dX8_inZone_17 : decode cX8_inZone 17 = .ok (.iaload, 1) := by decide +kernel
theorem dX8_inZone_18 : decode cX8_inZone 18 = .ok (.iload_n 1, 1) := by decide +kernel
theorem dX8_inZone_19 : decode cX8_inZone 19 = .ok (.if_icmp .ne 7, 3) := by decide +kernel
theorem dX8_inZone_22 : decode cX8_inZone 22 = .ok (.iload_n 3, 1) := by decide +kernel
theorem dX8_inZone_23 : decode cX8_inZone 23 = .ok (.goto 4, 3) := by decide +kernel
theorem dX8_inZone_26 : decode cX8_inZone 26 = .ok (.iload_n 2, 1) := by decide +kernel
theorem dX8_inZone_27 : decode cX8_inZone 27 = .ok (.istore_n 2, 1) := by decide +kernel
theorem dX8_inZone_28 : decode cX8_inZone 28 = .ok (.iinc 3 1, 3) := by decide +kernel
theorem dX8_inZone_31 : decode cX8_inZone 31 = .ok (.goto (-27), 3) := by decide +kernel
theorem dX8_inZone_34 : decode cX8_inZone 34 = .ok (.iload_n 2, 1) := by decide +kernel
theorem dX8_inZone_35 : decode cX8_inZone 35 = .ok (.ireturn, 1) := by decide +kernel
theorem dX8_needOf_0 : decode cX8_needOf 0 = .ok (.iconst 0, 1) := by decide +kernel
theorem dX8_needOf_1 : decode cX8_needOf 1 = .ok (.istore_n 2, 1) := by decide +kernel
theorem dX8_needOf_2 : decode cX8_needOf 2 = .ok (.iconst 0, 1) := by decide +kernel
theorem dX8_needOf_3 : decode cX8_needOf 3 = .ok (.istore_n 3, 1) := by decide +kernel
theorem dX8_needOf_4 : decode cX8_needOf 4 = .ok (.iload_n 3, 1) := by decide +kernel
theorem dX8_needOf_5 : decode cX8_needOf 5 = .ok (.iconst 5, 1) := by decide +kernel
theorem dX8_needOf_6 : decode cX8_needOf 6 = .ok (.if_icmp .ge 38, 3) := by decide +kernel
theorem dX8_needOf_9 : decode cX8_needOf 9 = .ok (.aload_n 0, 1) := by decide +kernel
theorem dX8_needOf_10 : decode cX8_needOf 10 = .ok (.getfield 20, 3) := by decide +kernel
theorem dX8_needOf_13 : decode cX8_needOf 13 = .ok (.iconst 5, 1) := by decide +kernel
theorem dX8_needOf_14 : decode cX8_needOf 14 = .ok (.iload_n 1, 1) := by decide +kernel
theorem dX8_needOf_15 : decode cX8_needOf 15 = .ok (.imul, 1) := by decide +kernel
theorem dX8_needOf_16 : decode cX8_needOf 16 = .ok (.iload_n 3, 1) := by decide +kernel
theorem dX8_needOf_17 : decode cX8_needOf 17 = .ok (.iadd, 1) := by decide +kernel
theorem dX8_needOf_18 : decode cX8_needOf 18 = .ok (.iaload, 1) := by decide +kernel
theorem dX8_needOf_19 : decode cX8_needOf 19 = .ok (.iload_n 2, 1) := by decide +kernel
theorem dX8_needOf_20 : decode cX8_needOf 20 = .ok (.if_icmp .le 16, 3) := by decide +kernel
theorem dX8_needOf_23 : decode cX8_needOf 23 = .ok (.aload_n 0, 1) := by decide +kernel
theorem dX8_needOf_24 : decode cX8_needOf 24 = .ok (.getfield 20, 3) := by decide +kernel
theorem dX8_needOf_27 : decode cX8_needOf 27 = .ok (.iconst 5, 1) := by decide +kernel
theorem dX8_needOf_28 : decode cX8_needOf 28 = .ok (.iload_n 1, 1) := by decide +kernel
theorem dX8_needOf_29 : decode cX8_needOf 29 = .ok (.imul, 1) := by decide +kernel
theorem dX8_needOf_30 : decode cX8_needOf 30 = .ok (.iload_n 3, 1) := by decide +kernel
theorem dX8_needOf_31 : decode cX8_needOf 31 = .ok (.iadd, 1) := by decide +kernel
theorem dX8_needOf_32 : decode cX8_needOf 32 = .ok (.iaload, 1) := by decide +kernel
theorem dX8_needOf_33 : decode cX8_needOf 33 = .ok (.goto 4, 3) := by decide +kernel
theorem dX8_needOf_36 : decode cX8_needOf 36 = .ok (.iload_n 2, 1) := by decide +kernel
theorem dX8_needOf_37 : decode cX8_needOf 37 = .ok (.istore_n 2, 1) := by decide +kernel
theorem dX8_needOf_38 : decode cX8_needOf 38 = .ok (.iinc 3 1, 3) := by decide +kernel
theorem dX8_needOf_41 : decode cX8_needOf 41 = .ok (.goto (-37), 3) := by decide +kernel
theorem dX8_needOf_44 : decode cX8_needOf 44 = .ok (.iload_n 2, 1) := by decide +kernel
theorem dX8_needOf_45 : decode cX8_needOf 45 = .ok (.ireturn, 1) := by decide +kernel
theorem dX8_fits_0 : decode cX8_fits 0 = .ok (.aload_n 0, 1) := by decide +kernel
theorem dX8_fits_1 : decode cX8_fits 1 = .ok (.getfield 17, 3) := by decide +kernel
theorem dX8_fits_4 : decode cX8_fits 4 = .ok (.iload_n 2, 1) := by decide +kernel
theorem dX8_fits_5 : decode cX8_fits 5 = .ok (.iaload, 1) := by decide +kernel
theorem dX8_fits_6 : decode cX8_fits 6 = .ok (.aload_n 0, 1) := by decide +kernel
theorem dX8_fits_7 : decode cX8_fits 7 = .ok (.iload_n 1, 1) := by decide +kernel
theorem dX8_fits_8 : decode cX8_fits 8 = .ok (.invokevirtual 64, 3) := by decide +kernel
theorem dX8_fits_11 : decode cX8_fits 11 = .ok (.if_icmp .lt 7, 3) := by decide +kernel
theorem dX8_fits_14 : decode cX8_fits 14 = .ok (.iconst 1, 1) := by decide +kernel
theorem dX8_fits_15 : decode cX8_fits 15 = .ok (.goto 4, 3) := by decide +kernel
theorem dX8_fits_18 : decode cX8_fits 18 = .ok (.iconst 0, 1) := by decide +kernel
theorem dX8_fits_19 : decode cX8_fits 19 = .ok (.ireturn, 1) := by decide +kernel
theorem dX8_setWall_0 : decode cX8_setWall 0 = .ok (.iload_n 1, 1) := by decide +kernel
theorem dX8_setWall_1 : decode cX8_setWall 1 = .ok (.iload_n 2, 1) := by decide +kernel
theorem dX8_setWall_2 : decode cX8_setWall 2 = .ok (.invokestatic 68, 3) := by decide +kernel
theorem dX8_setWall_5 : decode cX8_setWall 5 = .ok (.istore 4, 2) := by decide +kernel
theorem dX8_setWall_7 : decode cX8_setWall 7 = .ok (.aload_n 0, 1) := by decide +kernel
theorem dX8_setWall_8 : decode cX8_setWall 8 = .ok (.iload 4, 2) := by decide +kernel
theorem dX8_setWall_10 : decode cX8_setWall 10 = .ok (.iload 4, 2) := by decide +kernel
theorem dX8_setWall_12 : decode cX8_setWall 12 = .ok (.ifCond .eq 20, 3) := by decide +kernel
theorem dX8_setWall_15 : decode cX8_setWall 15 = .ok (.aload_n 0, 1) := by decide +kernel
theorem dX8_setWall_16 : decode cX8_setWall 16 = .ok (.bipush 8, 2) := by decide +kernel
theorem dX8_setWall_18 : decode cX8_setWall 18 = .ok (.iload_n 2, 1) := by decide +kernel
theorem dX8_setWall_19 : decode cX8_setWall 19 = .ok (.imul, 1) := by decide +kernel
theorem dX8_setWall_20 : decode cX8_setWall 20 = .ok (.iload_n 1, 1) := by decide +kernel
theorem dX8_setWall_21 : decode cX8_setWall 21 = .ok (.iadd, 1) := by decide +kernel
theorem dX8_setWall_22 : decode cX8_setWall 22 = .ok (.invokevirtual 72, 3) := by decide +kernel
theorem dX8_setWall_25 : decode cX8_setWall 25 = .ok (.ifCond .ne 7, 3) := by decide +kernel
theorem dX8_setWall_28 : decode cX8_setWall 28 = .ok (.iconst 1, 1) := by decide +kernel
theorem dX8_setWall_29 : decode cX8_setWall 29 = .ok (.goto 4, 3) := by decide +kernel
theorem dX8_setWall_32 : decode cX8_setWall 32 = .ok (.iconst 0, 1) := by decide +kernel
theorem dX8_setWall_33 : decode cX8_setWall 33 = .ok (.invokevirtual 76, 3) := by decide +kernel
theorem dX8_setWall_36 : decode cX8_setWall 36 = .ok (.ifCond .ne 5, 3) := by decide +kernel
theorem dX8_setWall_39 : decode cX8_setWall 39 = .ok (.iconst 0, 1) := by decide +kernel
theorem dX8_setWall_40 : decode cX8_setWall 40 = .ok (.ireturn, 1) := by decide +kernel
theorem dX8_setWall_41 : decode cX8_setWall 41 = .ok (.aload_n 0, 1) := by decide +kernel
theorem dX8_setWall_42 : decode cX8_setWall 42 = .ok (.getfield 7, 3) := by decide +kernel
theorem dX8_setWall_45 : decode cX8_setWall 45 = .ok (.bipush 8, 2) := by decide +kernel
theorem dX8_setWall_47 : decode cX8_setWall 47 = .ok (.iload_n 2, 1) := by decide +kernel
theorem dX8_setWall_48 : decode cX8_setWall 48 = .ok (.imul, 1) := by decide +kernel
theorem dX8_setWall_49 : decode cX8_setWall 49 = .ok (.iload_n 1, 1) := by decide +kernel
theorem dX8_setWall_50 : decode cX8_setWall 50 = .ok (.iadd, 1) := by decide +kernel
theorem dX8_setWall_51 : decode cX8_setWall 51 = .ok (.baload, 1) := by decide +kernel
theorem dX8_setWall_52 : decode cX8_setWall 52 = .ok (.istore 5, 2) := by decide +kernel
theorem dX8_setWall_54 : decode cX8_setWall 54 = .ok (.aload_n 0, 1) := by decide +kernel
theorem dX8_setWall_55 : decode cX8_setWall 55 = .ok (.getfield 7, 3) := by decide +kernel
theorem dX8_setWall_58 : decode cX8_setWall 58 = .ok (.bipush 8, 2) := by decide +kernel
theorem dX8_setWall_60 : decode cX8_setWall 60 = .ok (.iload_n 2, 1) := by decide +kernel
theorem dX8_setWall_61 : decode cX8_setWall 61 = .ok (.imul, 1) := by decide +kernel
theorem dX8_setWall_62 : decode cX8_setWall 62 = .ok (.iload_n 1, 1) := by decide +kernel
theorem dX8_setWall_63 : decode cX8_setWall 63 = .ok (.iadd, 1) := by decide +kernel
theorem dX8_setWall_64 : decode cX8_setWall 64 = .ok (.iload_n 3, 1) := by decide +kernel
theorem dX8_setWall_65 : decode cX8_setWall 65 = .ok (.bastore, 1) := by decide +kernel
theorem dX8_setWall_66 : decode cX8_setWall 66 = .ok (.iload 5, 2) := by decide +kernel
theorem dX8_setWall_68 : decode cX8_setWall 68 = .ok (.ireturn, 1) := by decide +kernel
theorem dX8_addZone_0 : decode cX8_addZone 0 = .ok (.iload_n 1, 1) := by decide +kernel
theorem dX8_addZone_1 : decode cX8_addZone 1 = .ok (.iload_n 2, 1) := by decide +kernel
theorem dX8_addZone_2 : decode cX8_addZone 2 = .ok (.invokestatic 68, 3) := by decide +kernel
theorem dX8_addZone_5 : decode cX8_addZone 5 = .ok (.istore 4, 2) := by decide +kernel
theorem dX8_addZone_7 : decode cX8_addZone 7 = .ok (.iload 4, 2) := by decide +kernel
theorem dX8_addZone_9 : decode cX8_addZone 9 = .ok (.ifCond .eq 12, 3) := by decide +kernel
theorem dX8_addZone_12 : decode cX8_addZone 12 = .ok (.bipush 8, 2) := by decide +kernel
theorem dX8_addZone_14 : decode cX8_addZone 14 = .ok (.iload_n 2, 1) := by decide +kernel
theorem dX8_addZone_15 : decode cX8_addZone 15 = .ok (.imul, 1) := by decide +kernel
theorem dX8_addZone_16 : decode cX8_addZone 16 = .ok (.iload_n 1, 1) := by decide +kernel
theorem dX8_addZone_17 : decode cX8_addZone 17 = .ok (.iadd, 1) := by decide +kernel
theorem dX8_addZone_18 : decode cX8_addZone 18 = .ok (.goto 4, 3) := by decide +kernel
theorem dX8_addZone_21 : decode cX8_addZone 21 = .ok (.iconst 0, 1) := by decide +kernel
theorem dX8_addZone_22 : decode cX8_addZone 22 = .ok (.istore 5, 2) := by decide +kernel
theorem dX8_addZone_24 : decode cX8_addZone 24 = .ok (.aload_n 0, 1) := by decide +kernel
theorem dX8_addZone_25 : decode cX8_addZone 25 = .ok (.iload 4, 2) := by decide +kernel
theorem dX8_addZone_27 : decode cX8_addZone 27 = .ok (.iload_n 3, 1) := by decide +kernel
theorem dX8_addZone_28 : decode cX8_addZone 28 = .ok (.iconst 1, 1) := by decide +kernel
theorem dX8_addZone_29 : decode cX8_addZone 29 = .ok (.bipush 60, 2) := by decide +kernel
theorem dX8_addZone_31 : decode cX8_addZone 31 = .ok (.invokestatic 54, 3) := by decide +kernel
theorem dX8_addZone_34 : decode cX8_addZone 34 = .ok (.aload_n 0, 1) := by decide +kernel
theorem dX8_addZone_35 : decode cX8_addZone 35 = .ok (.getfield 58, 3) := by decide +kernel
theorem dX8_addZone_38 : decode cX8_addZone 38 = .ok (.bipush 7, 2) := by decide +kernel
theorem dX8_addZone_40 : decode cX8_addZone 40 = .ok (.if_icmp .ge 26, 3) := by decide +kernel
theorem dX8_addZone_43 : decode cX8_addZone 43 = .ok (.aload_n 0, 1) := by decide +kernel
theorem dX8_addZone_44 : decode cX8_addZone 44 = .ok (.getfield 7, 3) := by decide +kernel
theorem dX8_addZone_47 : decode cX8_addZone 47 = .ok (.iload 5, 2) := by decide +kernel
theorem dX8_addZone_49 : decode cX8_addZone 49 = .ok (.baload, 1) := by decide +kernel
theorem dX8_addZone_50 : decode cX8_addZone 50 = .ok (.ifCond .ne 16, 3) := by decide +kernel
theorem dX8_addZone_53 : decode cX8_addZone 53 = .ok (.aload_n 0, 1) := by decide +kernel
theorem dX8_addZone_54 : decode cX8_addZone 54 = .ok (.iload 5, 2) := by decide +kernel
theorem dX8_addZone_56 : decode cX8_addZone 56 = .ok (.invokevirtual 72, 3) := by decide +kernel
theorem dX8_addZone_59 : decode cX8_addZone 59 = .ok (.ifCond .ne 7, 3) := by decide +kernel
theorem dX8_addZone_62 : decode cX8_addZone 62 = .ok (.iconst 1, 1) := by decide +kernel
theorem dX8_addZone_63 : decode cX8_addZone 63 = .ok (.goto 4, 3) := by decide +kernel
theorem dX8_addZone_66 : decode cX8_addZone 66 = .ok (.iconst 0, 1) := by decide +kernel
theorem dX8_addZone_67 : decode cX8_addZone 67 = .ok (.invokevirtual 80, 3) := by decide +kernel
theorem dX8_addZone_70 : decode cX8_addZone 70 = .ok (.ifCond .ne 5, 3) := by decide +kernel
theorem dX8_addZone_73 : decode cX8_addZone 73 = .ok (.iconst 0, 1) := by decide +kernel
theorem dX8_addZone_74 : decode cX8_addZone 74 = .ok (.ireturn, 1) := by decide +kernel
theorem dX8_addZone_75 : decode cX8_addZone 75 = .ok (.aload_n 0, 1) := by decide +kernel
theorem dX8_addZone_76 : decode cX8_addZone 76 = .ok (.getfield 13, 3) := by decide +kernel
theorem dX8_addZone_79 : decode cX8_addZone 79 = .ok (.aload_n 0, 1) := by decide +kernel
theorem dX8_addZone_80 : decode cX8_addZone 80 = .ok (.getfield 58, 3) := by decide +kernel
theorem dX8_addZone_83 : decode cX8_addZone 83 = .ok (.iload 5, 2) := by decide +kernel
theorem dX8_addZone_85 : decode cX8_addZone 85 = .ok (.iastore, 1) := by decide +kernel
theorem dX8_addZone_86 : decode cX8_addZone 86 = .ok (.aload_n 0, 1) := by decide +kernel
theorem dX8_addZone_87 : decode cX8_addZone 87 = .ok (.getfield 17, 3) := by decide +kernel
theorem dX8_addZone_90 : decode cX8_addZone 90 = .ok (.aload_n 0, 1) := by decide +kernel
theorem dX8_addZone_91 : decode cX8_addZone 91 = .ok (.getfield 58, 3) := by decide +kernel
theorem dX8_addZone_94 : decode cX8_addZone 94 = .ok (.iload_n 3, 1) := by decide +kernel
theorem dX8_addZone_95 : decode cX8_addZone 95 = .ok (.iastore, 1) := by decide +kernel
theorem dX8_addZone_96 : decode cX8_addZone 96 = .ok (.aload_n 0, 1) := by decide +kernel
theorem dX8_addZone_97 : decode cX8_addZone 97 = .ok (.dup, 1) := by decide +kernel
theorem dX8_addZone_98 : decode cX8_addZone 98 = .ok (.getfield 58, 3) := by decide +kernel
theorem dX8_addZone_101 : decode cX8_addZone 101 = .ok (.iconst 1, 1) := by decide +kernel
theorem dX8_addZone_102 : decode cX8_addZone 102 = .ok (.iadd, 1) := by decide +kernel
theorem dX8_addZone_103 : decode cX8_addZone 103 = .ok (.putfield 58, 3) := by decide +kernel
theorem dX8_addZone_106 : decode cX8_addZone 106 = .ok (.aload_n 0, 1) := by decide +kernel
theorem dX8_addZone_107 : decode cX8_addZone 107 = .ok (.getfield 58, 3) := by decide +kernel
theorem dX8_addZone_110 : decode cX8_addZone 110 = .ok (.iconst 1, 1) := by decide +kernel
theorem dX8_addZone_111 : decode cX8_addZone 111 = .ok (.isub, 1) := by decide +kernel
theorem dX8_addZone_112 : decode cX8_addZone 112 = .ok (.ireturn, 1) := by decide +kernel
theorem dX8_setDesks_0 : decode cX8_setDesks 0 = .ok (.aload_n 0, 1) := by decide +kernel
theorem dX8_setDesks_1 : decode cX8_setDesks 1 = .ok (.iload_n 1, 1) := by decide +kernel
theorem dX8_setDesks_2 : decode cX8_setDesks 2 = .ok (.invokevirtual 83, 3) := by decide +kernel
theorem dX8_setDesks_5 : decode cX8_setDesks 5 = .ok (.istore_n 3, 1) := by decide +kernel
theorem dX8_setDesks_6 : decode cX8_setDesks 6 = .ok (.iload_n 3, 1) := by decide +kernel
theorem dX8_setDesks_7 : decode cX8_setDesks 7 = .ok (.ifCond .eq 11, 3) := by decide +kernel
theorem dX8_setDesks_10 : decode cX8_setDesks 10 = .ok (.aload_n 0, 1) := by decide +kernel
theorem dX8_setDesks_11 : decode cX8_setDesks 11 = .ok (.iload_n 1, 1) := by decide +kernel
theorem dX8_setDesks_12 : decode cX8_setDesks 12 = .ok (.invokevirtual 86, 3) := by decide +kernel
theorem dX8_setDesks_15 : decode cX8_setDesks 15 = .ok (.goto 4, 3) := by decide +kernel
theorem dX8_setDesks_18 : decode cX8_setDesks 18 = .ok (.iconst (-1), 1) := by decide +kernel
theorem dX8_setDesks_19 : decode cX8_setDesks 19 = .ok (.istore 4, 2) := by decide +kernel
theorem dX8_setDesks_21 : decode cX8_setDesks 21 = .ok (.aload_n 0, 1) := by decide +kernel
theorem dX8_setDesks_22 : decode cX8_setDesks 22 = .ok (.iload_n 3, 1) := by decide +kernel
theorem dX8_setDesks_23 : decode cX8_setDesks 23 = .ok (.iload_n 2, 1) := by decide +kernel
theorem dX8_setDesks_24 : decode cX8_setDesks 24 = .ok (.iconst 1, 1) := by decide +kernel
theorem dX8_setDesks_25 : decode cX8_setDesks 25 = .ok (.bipush 60, 2) := by decide +kernel
theorem dX8_setDesks_27 : decode cX8_setDesks 27 = .ok (.invokestatic 54, 3) := by decide +kernel
theorem dX8_setDesks_30 : decode cX8_setDesks 30 = .ok (.iload 4, 2) := by decide +kernel
theorem dX8_setDesks_32 : decode cX8_setDesks 32 = .ok (.iconst (-1), 1) := by decide +kernel
theorem dX8_setDesks_33 : decode cX8_setDesks 33 = .ok (.if_icmp .eq 13, 3) := by decide +kernel
theorem dX8_setDesks_36 : decode cX8_setDesks 36 = .ok (.aload_n 0, 1) := by decide +kernel
theorem dX8_setDesks_37 : decode cX8_setDesks 37 = .ok (.iload 4, 2) := by decide +kernel
theorem dX8_setDesks_39 : decode cX8_setDesks 39 = .ok (.invokevirtual 64, 3) := by decide +kernel
theorem dX8_setDesks_42 : decode cX8_setDesks 42 = .ok (.iload_n 2, 1) := by decide +kernel
theorem dX8_setDesks_43 : decode cX8_setDesks 43 = .ok (.if_icmp .gt 7, 3) := by decide +kernel
theorem dX8_setDesks_46 : decode cX8_setDesks 46 = .ok (.iconst 1, 1) := by decide +kernel
theorem dX8_setDesks_47 : decode cX8_setDesks 47 = .ok (.goto 4, 3) := by decide +kernel
theorem dX8_setDesks_50 : decode cX8_setDesks 50 = .ok (.iconst 0, 1) := by decide +kernel
theorem dX8_setDesks_51 : decode cX8_setDesks 51 = .ok (.invokevirtual 80, 3) := by decide +kernel
theorem dX8_setDesks_54 : decode cX8_setDesks 54 = .ok (.ifCond .ne 5, 3) := by decide +kernel
theorem dX8_setDesks_57 : decode cX8_setDesks 57 = .ok (.iconst 0, 1) := by decide +kernel
theorem dX8_setDesks_58 : decode cX8_setDesks 58 = .ok (.ireturn, 1) := by decide +kernel
theorem dX8_setDesks_59 : decode cX8_setDesks 59 = .ok (.aload_n 0, 1) := by decide +kernel
theorem dX8_setDesks_60 : decode cX8_setDesks 60 = .ok (.getfield 17, 3) := by decide +kernel
theorem dX8_setDesks_63 : decode cX8_setDesks 63 = .ok (.iload_n 1, 1) := by decide +kernel
theorem dX8_setDesks_64 : decode cX8_setDesks 64 = .ok (.iaload, 1) := by decide +kernel
theorem dX8_setDesks_65 : decode cX8_setDesks 65 = .ok (.istore 5, 2) := by decide +kernel
theorem dX8_setDesks_67 : decode cX8_setDesks 67 = .ok (.aload_n 0, 1) := by decide +kernel
theorem dX8_setDesks_68 : decode cX8_setDesks 68 = .ok (.getfield 17, 3) := by decide +kernel
theorem dX8_setDesks_71 : decode cX8_setDesks 71 = .ok (.iload_n 1, 1) := by decide +kernel
theorem dX8_setDesks_72 : decode cX8_setDesks 72 = .ok (.iload_n 2, 1) := by decide +kernel
theorem dX8_setDesks_73 : decode cX8_setDesks 73 = .ok (.iastore, 1) := by decide +kernel
theorem dX8_setDesks_74 : decode cX8_setDesks 74 = .ok (.iload 5, 2) := by decide +kernel
theorem dX8_setDesks_76 : decode cX8_setDesks 76 = .ok (.ireturn, 1) := by decide +kernel
theorem dX8_addTeam_0 : decode cX8_addTeam 0 = .ok (.aload_n 0, 1) := by decide +kernel
theorem dX8_addTeam_1 : decode cX8_addTeam 1 = .ok (.aload_n 0, 1) := by decide +kernel
theorem dX8_addTeam_2 : decode cX8_addTeam 2 = .ok (.getfield 61, 3) := by decide +kernel
theorem dX8_addTeam_5 : decode cX8_addTeam 5 = .ok (.bipush 7, 2) := by decide +kernel
theorem dX8_addTeam_7 : decode cX8_addTeam 7 = .ok (.if_icmp .ge 7, 3) := by decide +kernel
theorem dX8_addTeam_10 : decode cX8_addTeam 10 = .ok (.iconst 1, 1) := by decide +kernel
theorem dX8_addTeam_11 : decode cX8_addTeam 11 = .ok (.goto 4, 3) := by decide +kernel
theorem dX8_addTeam_14 : decode cX8_addTeam 14 = .ok (.iconst 0, 1) := by decide +kernel
theorem dX8_addTeam_15 : decode cX8_addTeam 15 = .ok (.invokevirtual 89, 3) := by decide +kernel
theorem dX8_addTeam_18 : decode cX8_addTeam 18 = .ok (.ifCond .ne 5, 3) := by decide +kernel
theorem dX8_addTeam_21 : decode cX8_addTeam 21 = .ok (.iconst 0, 1) := by decide +kernel
theorem dX8_addTeam_22 : decode cX8_addTeam 22 = .ok (.ireturn, 1) := by decide +kernel
theorem dX8_addTeam_23 : decode cX8_addTeam 23 = .ok (.iconst 0, 1) := by decide +kernel
theorem dX8_addTeam_24 : decode cX8_addTeam 24 = .ok (.istore_n 1, 1) := by decide +kernel
theorem dX8_addTeam_25 : decode cX8_addTeam 25 = .ok (.iload_n 1, 1) := by decide +kernel
theorem dX8_addTeam_26 : decode cX8_addTeam 26 = .ok (.iconst 5, 1) := by decide +kernel
theorem dX8_addTeam_27 : decode cX8_addTeam 27 = .ok (.if_icmp .ge 23, 3) := by decide +kernel
theorem dX8_addTeam_30 : decode cX8_addTeam 30 = .ok (.aload_n 0, 1) := by decide +kernel
theorem dX8_addTeam_31 : decode cX8_addTeam 31 = .ok (.getfield 20, 3) := by decide +kernel
theorem dX8_addTeam_34 : decode cX8_addTeam 34 = .ok (.iconst 5, 1) := by decide +kernel
theorem dX8_addTeam_35 : decode cX8_addTeam 35 = .ok (.aload_n 0, 1) := by decide +kernel
theorem dX8_addTeam_36 : decode cX8_addTeam 36 = .ok (.getfield 61, 3) := by decide +kernel
theorem dX8_addTeam_39 : decode cX8_addTeam 39 = .ok (.imul, 1) := by decide +kernel
theorem dX8_addTeam_40 : decode cX8_addTeam 40 = .ok (.iload_n 1, 1) := by decide +kernel
theorem dX8_addTeam_41 : decode cX8_addTeam 41 = .ok (.iadd, 1) := by decide +kernel
theorem dX8_addTeam_42 : decode cX8_addTeam 42 = .ok (.iconst 1, 1) := by decide +kernel
theorem dX8_addTeam_43 : decode cX8_addTeam 43 = .ok (.iastore, 1) := by decide +kernel
theorem dX8_addTeam_44 : decode cX8_addTeam 44 = .ok (.iinc 1 1, 3) := by decide +kernel
theorem dX8_addTeam_47 : decode cX8_addTeam 47 = .ok (.goto (-22), 3) := by decide +kernel
theorem dX8_addTeam_50 : decode cX8_addTeam 50 = .ok (.aload_n 0, 1) := by decide +kernel
theorem dX8_addTeam_51 : decode cX8_addTeam 51 = .ok (.getfield 29, 3) := by decide +kernel
theorem dX8_addTeam_54 : decode cX8_addTeam 54 = .ok (.aload_n 0, 1) := by decide +kernel
theorem dX8_addTeam_55 : decode cX8_addTeam 55 = .ok (.getfield 61, 3) := by decide +kernel
theorem dX8_addTeam_58 : decode cX8_addTeam 58 = .ok (.iconst (-1), 1) := by decide +kernel
theorem dX8_addTeam_59 : decode cX8_addTeam 59 = .ok (.iastore, 1) := by decide +kernel
theorem dX8_addTeam_60 : decode cX8_addTeam 60 = .ok (.aload_n 0, 1) := by decide +kernel
theorem dX8_addTeam_61 : decode cX8_addTeam 61 = .ok (.dup, 1) := by decide +kernel
theorem dX8_addTeam_62 : decode cX8_addTeam 62 = .ok (.getfield 61, 3) := by decide +kernel
theorem dX8_addTeam_65 : decode cX8_addTeam 65 = .ok (.iconst 1, 1) := by decide +kernel
theorem dX8_addTeam_66 : decode cX8_addTeam 66 = .ok (.iadd, 1) := by decide +kernel
theorem dX8_addTeam_67 : decode cX8_addTeam 67 = .ok (.putfield 61, 3) := by decide +kernel
theorem dX8_addTeam_70 : decode cX8_addTeam 70 = .ok (.aload_n 0, 1) := by decide +kernel
theorem dX8_addTeam_71 : decode cX8_addTeam 71 = .ok (.getfield 61, 3) := by decide +kernel
theorem dX8_addTeam_74 : decode cX8_addTeam 74 = .ok (.iconst 1, 1) := by decide +kernel
theorem dX8_addTeam_75 : decode cX8_addTeam 75 = .ok (.isub, 1) := by decide +kernel
theorem dX8_addTeam_76 : decode cX8_addTeam 76 = .ok (.ireturn, 1) := by decide +kernel
theorem dX8_setPresent_0 : decode cX8_setPresent 0 = .ok (.aload_n 0, 1) := by decide +kernel
theorem dX8_setPresent_1 : decode cX8_setPresent 1 = .ok (.iload_n 1, 1) := by decide +kernel
theorem dX8_setPresent_2 : decode cX8_setPresent 2 = .ok (.invokevirtual 92, 3) := by decide +kernel
theorem dX8_setPresent_5 : decode cX8_setPresent 5 = .ok (.ifCond .eq 16, 3) := by decide +kernel
theorem dX8_setPresent_8 : decode cX8_setPresent 8 = .ok (.iload_n 2, 1) := by decide +kernel
theorem dX8_setPresent_9 : decode cX8_setPresent 9 = .ok (.iconst 0, 1) := by decide +kernel
theorem dX8_setPresent_10 : decode cX8_setPresent 10 = .ok (.iconst 4, 1) := by decide +kernel
theorem dX8_setPresent_11 : decode cX8_setPresent 11 = .ok (.invokestatic 54, 3) := by decide +kernel
theorem dX8_setPresent_14 : decode cX8_setPresent 14 = .ok (.ifCond .eq 7, 3) := by decide +kernel
theorem dX8_setPresent_17 : decode cX8_setPresent 17 = .ok (.iconst 1, 1) := by decide +kernel
theorem dX8_setPresent_18 : decode cX8_setPresent 18 = .ok (.goto 4, 3) := by decide +kernel
theorem dX8_setPresent_21 : decode cX8_setPresent 21 = .ok (.iconst 0, 1) := by decide +kernel
theorem dX8_setPresent_22 : decode cX8_setPresent 22 = .ok (.istore 4, 2) := by decide +kernel
theorem dX8_setPresent_24 : decode cX8_setPresent 24 = .ok (.iload_n 3, 1) := by decide +kernel
theorem dX8_setPresent_25 : decode cX8_setPresent 25 = .ok (.iconst 0, 1) := by decide +kernel
theorem dX8_setPresent_26 : decode cX8_setPresent 26 = .ok (.bipush 60, 2) := by decide +kernel
theorem dX8_setPresent_28 : decode cX8_setPresent 28 = .ok (.invokestatic 54, 3) := by decide +kernel
theorem dX8_setPresent_31 : decode cX8_setPresent 31 = .ok (.istore 5, 2) := by decide +kernel
theorem dX8_setPresent_33 : decode cX8_setPresent 33 = .ok (.iload 4, 2) := by decide +kernel
theorem dX8_setPresent_35 : decode cX8_setPresent 35 = .ok (.ifCond .eq 16, 3) := by decide +kernel
theorem dX8_setPresent_38 : decode cX8_setPresent 38 = .ok (.aload_n 0, 1) := by decide +kernel
theorem dX8_setPresent_39 : decode cX8_setPresent 39 = .ok (.getfield 20, 3) := by decide +kernel
theorem dX8_setPresent_42 : decode cX8_setPresent 42 = .ok (.iconst 5, 1) := by decide +kernel
theorem dX8_setPresent_43 : decode cX8_setPresent 43 = .ok (.iload_n 1, 1) := by decide +kernel
theorem dX8_setPresent_44 : decode cX8_setPresent 44 = .ok (.imul, 1) := by decide +kernel
theorem dX8_setPresent_45 : decode cX8_setPresent 45 = .ok (.iload_n 2, 1) := by decide +kernel
theorem dX8_setPresent_46 : decode cX8_setPresent 46 = .ok (.iadd, 1) := by decide +kernel
theorem dX8_setPresent_47 : decode cX8_setPresent 47 = .ok (.iaload, 1) := by decide +kernel
theorem dX8_setPresent_48 : decode cX8_setPresent 48 = .ok (.goto 4, 3) := by decide +kernel
theorem dX8_setPresent_51 : decode cX8_setPresent 51 = .ok (.iconst 0, 1) := by decide +kernel
theorem dX8_setPresent_52 : decode cX8_setPresent 52 = .ok (.istore 6, 2) := by decide +kernel
theorem dX8_setPresent_54 : decode cX8_setPresent 54 = .ok (.iload 4, 2) := by decide +kernel
theorem dX8_setPresent_56 : decode cX8_setPresent 56 = .ok (.ifCond .eq 33, 3) := by decide +kernel
theorem dX8_setPresent_59 : decode cX8_setPresent 59 = .ok (.iload 5, 2) := by decide +kernel
theorem dX8_setPresent_61 : decode cX8_setPresent 61 = .ok (.ifCond .eq 28, 3) := by decide +kernel
theorem dX8_setPresent_64 : decode cX8_setPresent 64 = .ok (.aload_n 0, 1) := by decide +kernel
theorem dX8_setPresent_65 : decode cX8_setPresent 65 = .ok (.getfield 29, 3) := by decide +kernel
theorem dX8_setPresent_68 : decode cX8_setPresent 68 = .ok (.iload_n 1, 1) := by decide +kernel
theorem dX8_setPresent_69 : decode cX8_setPresent 69 = .ok (.iaload, 1) := by decide +kernel
theorem dX8_setPresent_70 : decode cX8_setPresent 70 = .ok (.iconst (-1), 1) := by decide +kernel
theorem dX8_setPresent_71 : decode cX8_setPresent 71 = .ok (.if_icmp .eq 18, 3) := by decide +kernel
theorem dX8_setPresent_74 : decode cX8_setPresent 74 = .ok (.iload_n 3, 1) := by decide +kernel
theorem dX8_setPresent_75 : decode cX8_setPresent 75 = .ok (.aload_n 0, 1) := by decide +kernel
theorem dX8_setPresent_76 : decode cX8_setPresent 76 = .ok (.getfield 17, 3) := by decide +kernel
theorem dX8_setPresent_79 : decode cX8_setPresent 79 = .ok (.aload_n 0, 1) := by decide +kernel
theorem dX8_setPresent_80 : decode cX8_setPresent 80 = .ok (.getfield 29, 3) := by decide +kernel
theorem dX8_setPresent_83 : decode cX8_setPresent 83 = .ok (.iload_n 1, 1) := by decide +kernel
theorem dX8_setPresent_84 : decode cX8_setPresent 84 = .ok (.iaload, 1) := by decide +kernel
theorem dX8_setPresent_85 : decode cX8_setPresent 85 = .ok (.iaload, 1) := by decide +kernel
theorem dX8_setPresent_86 : decode cX8_setPresent 86 = .ok (.if_icmp .gt 7, 3) := by decide +kernel
theorem dX8_setPresent_89 : decode cX8_setPresent 89 = .ok (.iconst 1, 1) := by decide +kernel
theorem dX8_setPresent_90 : decode cX8_setPresent 90 = .ok (.goto 4, 3) := by decide +kernel
theorem dX8_setPresent_93 : decode cX8_setPresent 93 = .ok (.iconst 0, 1) := by decide +kernel
theorem dX8_setPresent_94 : decode cX8_setPresent 94 = .ok (.istore 7, 2) := by decide +kernel
theorem dX8_setPresent_96 : decode cX8_setPresent 96 = .ok (.aload_n 0, 1) := by decide +kernel
theorem dX8_setPresent_97 : decode cX8_setPresent 97 = .ok (.iload 4, 2) := by decide +kernel
theorem dX8_setPresent_99 : decode cX8_setPresent 99 = .ok (.iload 5, 2) := by decide +kernel
theorem dX8_setPresent_101 : decode cX8_setPresent 101 = .ok (.iload 7, 2) := by decide +kernel
theorem dX8_setPresent_103 : decode cX8_setPresent 103 = .ok (.invokevirtual 80, 3) := by decide +kernel
theorem dX8_setPresent_106 : decode cX8_setPresent 106 = .ok (.ifCond .ne 5, 3) := by decide +kernel
theorem dX8_setPresent_109 : decode cX8_setPresent 109 = .ok (.iconst 0, 1) := by decide +kernel
theorem dX8_setPresent_110 : decode cX8_setPresent 110 = .ok (.ireturn, 1) := by decide +kernel
theorem dX8_setPresent_111 : decode cX8_setPresent 111 = .ok (.aload_n 0, 1) := by decide +kernel
theorem dX8_setPresent_112 : decode cX8_setPresent 112 = .ok (.getfield 20, 3) := by decide +kernel
theorem dX8_setPresent_115 : decode cX8_setPresent 115 = .ok (.iconst 5, 1) := by decide +kernel
theorem dX8_setPresent_116 : decode cX8_setPresent 116 = .ok (.iload_n 1, 1) := by decide +kernel
theorem dX8_setPresent_117 : decode cX8_setPresent 117 = .ok (.imul, 1) := by decide +kernel
theorem dX8_setPresent_118 : decode cX8_setPresent 118 = .ok (.iload_n 2, 1) := by decide +kernel
theorem dX8_setPresent_119 : decode cX8_setPresent 119 = .ok (.iadd, 1) := by decide +kernel
theorem dX8_setPresent_120 : decode cX8_setPresent 120 = .ok (.iload_n 3, 1) := by decide +kernel
theorem dX8_setPresent_121 : decode cX8_setPresent 121 = .ok (.iastore, 1) := by decide +kernel
theorem dX8_setPresent_122 : decode cX8_setPresent 122 = .ok (.iload 6, 2) := by decide +kernel
theorem dX8_setPresent_124 : decode cX8_setPresent 124 = .ok (.ireturn, 1) := by decide +kernel
theorem dX8_setWish_0 : decode cX8_setWish 0 = .ok (.aload_n 0, 1) := by decide +kernel
theorem dX8_setWish_1 : decode cX8_setWish 1 = .ok (.aload_n 0, 1) := by decide +kernel
theorem dX8_setWish_2 : decode cX8_setWish 2 = .ok (.iload_n 1, 1) := by decide +kernel
theorem dX8_setWish_3 : decode cX8_setWish 3 = .ok (.invokevirtual 92, 3) := by decide +kernel
theorem dX8_setWish_6 : decode cX8_setWish 6 = .ok (.ifCond .eq 15, 3) := by decide +kernel
theorem dX8_setWish_9 : decode cX8_setWish 9 = .ok (.aload_n 0, 1) := by decide +kernel
theorem dX8_setWish_10 : decode cX8_setWish 10 = .ok (.iload_n 2, 1) := by decide +kernel
theorem dX8_setWish_11 : decode cX8_setWish 11 = .ok (.invokevirtual 83, 3) := by decide +kernel
theorem dX8_setWish_14 : decode cX8_setWish 14 = .ok (.ifCond .eq 7, 3) := by decide +kernel
theorem dX8_setWish_17 : decode cX8_setWish 17 = .ok (.iconst 1, 1) := by decide +kernel
theorem dX8_setWish_18 : decode cX8_setWish 18 = .ok (.goto 4, 3) := by decide +kernel
theorem dX8_setWish_21 : decode cX8_setWish 21 = .ok (.iconst 0, 1) := by decide +kernel
theorem dX8_setWish_22 : decode cX8_setWish 22 = .ok (.iload_n 3, 1) := by decide +kernel
theorem dX8_setWish_23 : decode cX8_setWish 23 = .ok (.iconst 0, 1) := by decide +kernel
theorem dX8_setWish_24 : decode cX8_setWish 24 = .ok (.bipush 99, 2) := by decide +kernel
theorem dX8_setWish_26 : decode cX8_setWish 26 = .ok (.invokestatic 54, 3) := by decide +kernel
theorem dX8_setWish_29 : decode cX8_setWish 29 = .ok (.invokevirtual 76, 3) := by decide +kernel
theorem dX8_setWish_32 : decode cX8_setWish 32 = .ok (.ifCond .ne 5, 3) := by decide +kernel
theorem dX8_setWish_35 : decode cX8_setWish 35 = .ok (.iconst 0, 1) := by decide +kernel
theorem dX8_setWish_36 : decode cX8_setWish 36 = .ok (.ireturn, 1) := by decide +kernel
theorem dX8_setWish_37 : decode cX8_setWish 37 = .ok (.aload_n 0, 1) := by decide +kernel
theorem dX8_setWish_38 : decode cX8_setWish 38 = .ok (.getfield 23, 3) := by decide +kernel
theorem dX8_setWish_41 : decode cX8_setWish 41 = .ok (.bipush 7, 2) := by decide +kernel
theorem dX8_setWish_43 : decode cX8_setWish 43 = .ok (.iload_n 1, 1) := by decide +kernel
theorem dX8_setWish_44 : decode cX8_setWish 44 = .ok (.imul, 1) := by decide +kernel
theorem dX8_setWish_45 : decode cX8_setWish 45 = .ok (.iload_n 2, 1) := by decide +kernel
theorem dX8_setWish_46 : decode cX8_setWish 46 = .ok (.iadd, 1) := by decide +kernel
theorem dX8_setWish_47 : decode cX8_setWish 47 = .ok (.iaload, 1) := by decide +kernel
theorem dX8_setWish_48 : decode cX8_setWish 48 = .ok (.istore 4, 2) := by decide +kernel
theorem dX8_setWish_50 : decode cX8_setWish 50 = .ok (.aload_n 0, 1) := by decide +kernel
theorem dX8_setWish_51 : decode cX8_setWish 51 = .ok (.getfield 23, 3) := by decide +kernel
theorem dX8_setWish_54 : decode cX8_setWish 54 = .ok (.bipush 7, 2) := by decide +kernel
theorem dX8_setWish_56 : decode cX8_setWish 56 = .ok (.iload_n 1, 1) := by decide +kernel
theorem dX8_setWish_57 : decode cX8_setWish 57 = .ok (.imul, 1) := by decide +kernel
theorem dX8_setWish_58 : decode cX8_setWish 58 = .ok (.iload_n 2, 1) := by decide +kernel
theorem dX8_setWish_59 : decode cX8_setWish 59 = .ok (.iadd, 1) := by decide +kernel
theorem dX8_setWish_60 : decode cX8_setWish 60 = .ok (.iload_n 3, 1) := by decide +kernel
theorem dX8_setWish_61 : decode cX8_setWish 61 = .ok (.iastore, 1) := by decide +kernel
theorem dX8_setWish_62 : decode cX8_setWish 62 = .ok (.iload 4, 2) := by decide +kernel
theorem dX8_setWish_64 : decode cX8_setWish 64 = .ok (.ireturn, 1) := by decide +kernel
theorem dX8_setTie_0 : decode cX8_setTie 0 = .ok (.aload_n 0, 1) := by decide +kernel
theorem dX8_setTie_1 : decode cX8_setTie 1 = .ok (.aload_n 0, 1) := by decide +kernel
theorem dX8_setTie_2 : decode cX8_setTie 2 = .ok (.iload_n 1, 1) := by decide +kernel
theorem dX8_setTie_3 : decode cX8_setTie 3 = .ok (.invokevirtual 92, 3) := by decide +kernel
theorem dX8_setTie_6 : decode cX8_setTie 6 = .ok (.ifCond .eq 15, 3) := by decide +kernel
theorem dX8_setTie_9 : decode cX8_setTie 9 = .ok (.aload_n 0, 1) := by decide +kernel
theorem dX8_setTie_10 : decode cX8_setTie 10 = .ok (.iload_n 2, 1) := by decide +kernel
theorem dX8_setTie_11 : decode cX8_setTie 11 = .ok (.invokevirtual 92, 3) := by decide +kernel
theorem dX8_setTie_14 : decode cX8_setTie 14 = .ok (.ifCond .eq 7, 3) := by decide +kernel
theorem dX8_setTie_17 : decode cX8_setTie 17 = .ok (.iconst 1, 1) := by decide +kernel
theorem dX8_setTie_18 : decode cX8_setTie 18 = .ok (.goto 4, 3) := by decide +kernel
theorem dX8_setTie_21 : decode cX8_setTie 21 = .ok (.iconst 0, 1) := by decide +kernel
theorem dX8_setTie_22 : decode cX8_setTie 22 = .ok (.iload_n 3, 1) := by decide +kernel
theorem dX8_setTie_23 : decode cX8_setTie 23 = .ok (.iconst 0, 1) := by decide +kernel
theorem dX8_setTie_24 : decode cX8_setTie 24 = .ok (.bipush 9, 2) := by decide +kernel
theorem dX8_setTie_26 : decode cX8_setTie 26 = .ok (.invokestatic 54, 3) := by decide +kernel
theorem dX8_setTie_29 : decode cX8_setTie 29 = .ok (.ifCond .eq 12, 3) := by decide +kernel
theorem dX8_setTie_32 : decode cX8_setTie 32 = .ok (.iload_n 1, 1) := by decide +kernel
theorem dX8_setTie_33 : decode cX8_setTie 33 = .ok (.iload_n 2, 1) := by decide +kernel
theorem dX8_setTie_34 : decode cX8_setTie 34 = .ok (.if_icmp .eq 7, 3) := by decide +kernel
theorem dX8_setTie_37 : decode cX8_setTie 37 = .ok (.iconst 1, 1) := by decide +kernel
theorem dX8_setTie_38 : decode cX8_setTie 38 = .ok (.goto 4, 3) := by decide +kernel
theorem dX8_setTie_41 : decode cX8_setTie 41 = .ok (.iconst 0, 1) := by decide +kernel
theorem dX8_setTie_42 : decode cX8_setTie 42 = .ok (.invokevirtual 76, 3) := by decide +kernel
theorem dX8_setTie_45 : decode cX8_setTie 45 = .ok (.ifCond .ne 5, 3) := by decide +kernel
theorem dX8_setTie_48 : decode cX8_setTie 48 = .ok (.iconst 0, 1) := by decide +kernel
theorem dX8_setTie_49 : decode cX8_setTie 49 = .ok (.ireturn, 1) := by decide +kernel
theorem dX8_setTie_50 : decode cX8_setTie 50 = .ok (.aload_n 0, 1) := by decide +kernel
theorem dX8_setTie_51 : decode cX8_setTie 51 = .ok (.getfield 26, 3) := by decide +kernel
theorem dX8_setTie_54 : decode cX8_setTie 54 = .ok (.bipush 7, 2) := by decide +kernel
theorem dX8_setTie_56 : decode cX8_setTie 56 = .ok (.iload_n 1, 1) := by decide +kernel
theorem dX8_setTie_57 : decode cX8_setTie 57 = .ok (.imul, 1) := by decide +kernel
theorem dX8_setTie_58 : decode cX8_setTie 58 = .ok (.iload_n 2, 1) := by decide +kernel
theorem dX8_setTie_59 : decode cX8_setTie 59 = .ok (.iadd, 1) := by decide +kernel
theorem dX8_setTie_60 : decode cX8_setTie 60 = .ok (.iaload, 1) := by decide +kernel
theorem dX8_setTie_61 : decode cX8_setTie 61 = .ok (.istore 4, 2) := by decide +kernel
theorem dX8_setTie_63 : decode cX8_setTie 63 = .ok (.aload_n 0, 1) := by decide +kernel
theorem dX8_setTie_64 : decode cX8_setTie 64 = .ok (.getfield 26, 3) := by decide +kernel
theorem dX8_setTie_67 : decode cX8_setTie 67 = .ok (.bipush 7, 2) := by decide +kernel
theorem dX8_setTie_69 : decode cX8_setTie 69 = .ok (.iload_n 1, 1) := by decide +kernel
theorem dX8_setTie_70 : decode cX8_setTie 70 = .ok (.imul, 1) := by decide +kernel
theorem dX8_setTie_71 : decode cX8_setTie 71 = .ok (.iload_n 2, 1) := by decide +kernel
theorem dX8_setTie_72 : decode cX8_setTie 72 = .ok (.iadd, 1) := by decide +kernel
theorem dX8_setTie_73 : decode cX8_setTie 73 = .ok (.iload_n 3, 1) := by decide +kernel
theorem dX8_setTie_74 : decode cX8_setTie 74 = .ok (.iastore, 1) := by decide +kernel
theorem dX8_setTie_75 : decode cX8_setTie 75 = .ok (.aload_n 0, 1) := by decide +kernel
theorem dX8_setTie_76 : decode cX8_setTie 76 = .ok (.getfield 26, 3) := by decide +kernel
theorem dX8_setTie_79 : decode cX8_setTie 79 = .ok (.bipush 7, 2) := by decide +kernel
theorem dX8_setTie_81 : decode cX8_setTie 81 = .ok (.iload_n 2, 1) := by decide +kernel
theorem dX8_setTie_82 : decode cX8_setTie 82 = .ok (.imul, 1) := by decide +kernel
theorem dX8_setTie_83 : decode cX8_setTie 83 = .ok (.iload_n 1, 1) := by decide +kernel
theorem dX8_setTie_84 : decode cX8_setTie 84 = .ok (.iadd, 1) := by decide +kernel
theorem dX8_setTie_85 : decode cX8_setTie 85 = .ok (.iload_n 3, 1) := by decide +kernel
theorem dX8_setTie_86 : decode cX8_setTie 86 = .ok (.iastore, 1) := by decide +kernel
theorem dX8_setTie_87 : decode cX8_setTie 87 = .ok (.iload 4, 2) := by decide +kernel
theorem dX8_setTie_89 : decode cX8_setTie 89 = .ok (.ireturn, 1) := by decide +kernel
theorem dX8_walks_0 : decode cX8_walks 0 = .ok (.iconst 0, 1) := by decide +kernel
theorem dX8_walks_1 : decode cX8_walks 1 = .ok (.istore_n 2, 1) := by decide +kernel
theorem dX8_walks_2 : decode cX8_walks 2 = .ok (.iload_n 2, 1) := by decide +kernel
theorem dX8_walks_3 : decode cX8_walks 3 = .ok (.bipush 64, 2) := by decide +kernel
theorem dX8_walks_5 : decode cX8_walks 5 = .ok (.if_icmp .ge 25, 3) := by decide +kernel
theorem dX8_walks_8 : decode cX8_walks 8 = .ok (.aload_n 0, 1) := by decide +kernel
theorem dX8_walks_9 : decode cX8_walks 9 = .ok (.getfield 38, 3) := by decide +kernel
theorem dX8_walks_12 : decode cX8_walks 12 = .ok (.iload_n 2, 1) := by decide +kernel
theorem dX8_walks_13 : decode cX8_walks 13 = .ok (.iload_n 2, 1) := by decide +kernel
theorem dX8_walks_14 : decode cX8_walks 14 = .ok (.iload_n 1, 1) := by decide +kernel
theorem dX8_walks_15 : decode cX8_walks 15 = .ok (.if_icmp .ne 7, 3) := by decide +kernel
theorem dX8_walks_18 : decode cX8_walks 18 = .ok (.iconst 0, 1) := by decide +kernel
theorem dX8_walks_19 : decode cX8_walks 19 = .ok (.goto 4, 3) := by decide +kernel
theorem dX8_walks_22 : decode cX8_walks 22 = .ok (.iconst (-1), 1) := by decide +kernel
theorem dX8_walks_23 : decode cX8_walks 23 = .ok (.iastore, 1) := by decide +kernel
theorem dX8_walks_24 : decode cX8_walks 24 = .ok (.iinc 2 1, 3) := by decide +kernel
theorem dX8_walks_27 : decode cX8_walks 27 = .ok (.goto (-25), 3) := by decide +kernel
theorem dX8_walks_30 : decode cX8_walks 30 = .ok (.iconst 0, 1) := by decide +kernel
theorem dX8_walks_31 : decode cX8_walks 31 = .ok (.istore_n 2, 1) := by decide +kernel
theorem dX8_walks_32 : decode cX8_walks 32 = .ok (.iload_n 2, 1) := by decide +kernel
theorem dX8_walks_33 : decode cX8_walks 33 = .ok (.bipush 64, 2) := by decide +kernel
theorem dX8_walks_35 : decode cX8_walks 35 = .ok (.if_icmp .ge 101, 3) := by decide +kernel
theorem dX8_walks_38 : decode cX8_walks 38 = .ok (.iconst 0, 1) := by decide +kernel
theorem dX8_walks_39 : decode cX8_walks 39 = .ok (.istore_n 3, 1) := by decide +kernel
theorem dX8_walks_40 : decode cX8_walks 40 = .ok (.iload_n 3, 1) := by decide +kernel
theorem dX8_walks_41 : decode cX8_walks 41 = .ok (.bipush 64, 2) := by decide +kernel
theorem dX8_walks_43 : decode cX8_walks 43 = .ok (.if_icmp .ge 87, 3) := by decide +kernel
theorem dX8_walks_46 : decode cX8_walks 46 = .ok (.aload_n 0, 1) := by decide +kernel
theorem dX8_walks_47 : decode cX8_walks 47 = .ok (.getfield 38, 3) := by decide +kernel
theorem dX8_walks_50 : decode cX8_walks 50 = .ok (.iload_n 3, 1) := by decide +kernel
theorem dX8_walks_51 : decode cX8_walks 51 = .ok (.iaload, 1) := by decide +kernel
theorem dX8_walks_52 : decode cX8_walks 52 = .ok (.iload_n 2, 1) := by decide +kernel
theorem dX8_walks_53 : decode cX8_walks 53 = .ok (.if_icmp .ne 71, 3) := by decide +kernel
theorem dX8_walks_56 : decode cX8_walks 56 = .ok (.aload_n 0, 1) := by decide +kernel
theorem dX8_walks_57 : decode cX8_walks 57 = .ok (.iload_n 3, 1) := by decide +kernel
theorem dX8_walks_58 : decode cX8_walks 58 = .ok (.bipush 8, 2) := by decide +kernel
theorem dX8_walks_60 : decode cX8_walks 60 = .ok (.irem, 1) := by decide +kernel
theorem dX8_walks_61 : decode cX8_walks 61 = .ok (.iconst 1, 1) := by decide +kernel
theorem dX8_walks_62 : decode cX8_walks 62 = .ok (.isub, 1) := by decide +kernel
theorem dX8_walks_63 : decode cX8_walks 63 = .ok (.iload_n 3, 1) := by decide +kernel
theorem dX8_walks_64 : decode cX8_walks 64 = .ok (.bipush 8, 2) := by decide +kernel
theorem dX8_walks_66 : decode cX8_walks 66 = .ok (.idiv, 1) := by decide +kernel
theorem dX8_walks_67 : decode cX8_walks 67 = .ok (.iload_n 2, 1) := by decide +kernel
theorem dX8_walks_68 : decode cX8_walks 68 = .ok (.iconst 1, 1) := by decide +kernel
theorem dX8_walks_69 : decode cX8_walks 69 = .ok (.iadd, 1) := by decide +kernel
theorem dX8_walks_70 : decode cX8_walks 70 = .ok (.invokevirtual 95, 3) := by decide +kernel
theorem dX8_walks_73 : decode cX8_walks 73 = .ok (.aload_n 0, 1) := by decide +kernel
theorem dX8_walks_74 : decode cX8_walks 74 = .ok (.iload_n 3, 1) := by decide +kernel
theorem dX8_walks_75 : decode cX8_walks 75 = .ok (.bipush 8, 2) := by decide +kernel
theorem dX8_walks_77 : decode cX8_walks 77 = .ok (.irem, 1) := by decide +kernel
theorem dX8_walks_78 : decode cX8_walks 78 = .ok (.iconst 1, 1) := by decide +kernel
theorem dX8_walks_79 : decode cX8_walks 79 = .ok (.iadd, 1) := by decide +kernel
theorem dX8_walks_80 : decode cX8_walks 80 = .ok (.iload_n 3, 1) := by decide +kernel
theorem dX8_walks_81 : decode cX8_walks 81 = .ok (.bipush 8, 2) := by decide +kernel
theorem dX8_walks_83 : decode cX8_walks 83 = .ok (.idiv, 1) := by decide +kernel
theorem dX8_walks_84 : decode cX8_walks 84 = .ok (.iload_n 2, 1) := by decide +kernel
theorem dX8_walks_85 : decode cX8_walks 85 = .ok (.iconst 1, 1) := by decide +kernel
theorem dX8_walks_86 : decode cX8_walks 86 = .ok (.iadd, 1) := by decide +kernel
theorem dX8_walks_87 : decode cX8_walks 87 = .ok (.invokevirtual 95, 3) := by decide +kernel
theorem dX8_walks_90 : decode cX8_walks 90 = .ok (.aload_n 0, 1) := by decide +kernel
theorem dX8_walks_91 : decode cX8_walks 91 = .ok (.iload_n 3, 1) := by decide +kernel
theorem dX8_walks_92 : decode cX8_walks 92 = .ok (.bipush 8, 2) := by decide +kernel
theorem dX8_walks_94 : decode cX8_walks 94 = .ok (.irem, 1) := by decide +kernel
theorem dX8_walks_95 : decode cX8_walks 95 = .ok (.iload_n 3, 1) := by decide +kernel
theorem dX8_walks_96 : decode cX8_walks 96 = .ok (.bipush 8, 2) := by decide +kernel
theorem dX8_walks_98 : decode cX8_walks 98 = .ok (.idiv, 1) := by decide +kernel
theorem dX8_walks_99 : decode cX8_walks 99 = .ok (.iconst 1, 1) := by decide +kernel
theorem dX8_walks_100 : decode cX8_walks 100 = .ok (.isub, 1) := by decide +kernel
theorem dX8_walks_101 : decode cX8_walks 101 = .ok (.iload_n 2, 1) := by decide +kernel
theorem dX8_walks_102 : decode cX8_walks 102 = .ok (.iconst 1, 1) := by decide +kernel
theorem dX8_walks_103 : decode cX8_walks 103 = .ok (.iadd, 1) := by decide +kernel
theorem dX8_walks_104 : decode cX8_walks 104 = .ok (.invokevirtual 95, 3) := by decide +kernel
theorem dX8_walks_107 : decode cX8_walks 107 = .ok (.aload_n 0, 1) := by decide +kernel
theorem dX8_walks_108 : decode cX8_walks 108 = .ok (.iload_n 3, 1) := by decide +kernel
theorem dX8_walks_109 : decode cX8_walks 109 = .ok (.bipush 8, 2) := by decide +kernel
theorem dX8_walks_111 : decode cX8_walks 111 = .ok (.irem, 1) := by decide +kernel
theorem dX8_walks_112 : decode cX8_walks 112 = .ok (.iload_n 3, 1) := by decide +kernel
theorem dX8_walks_113 : decode cX8_walks 113 = .ok (.bipush 8, 2) := by decide +kernel
theorem dX8_walks_115 : decode cX8_walks 115 = .ok (.idiv, 1) := by decide +kernel
theorem dX8_walks_116 : decode cX8_walks 116 = .ok (.iconst 1, 1) := by decide +kernel
end
section
theorem dX8_walks_117 : decode cX8_walks 117 = .ok (.iadd, 1) := by decide +kernel
theorem dX8_walks_118 : decode cX8_walks 118 = .ok (.iload_n 2, 1) := by decide +kernel
theorem dX8_walks_119 : decode cX8_walks 119 = .ok (.iconst 1, 1) := by decide +kernel
theorem dX8_walks_120 : decode cX8_walks 120 = .ok (.iadd, 1) := by decide +kernel
theorem dX8_walks_121 : decode cX8_walks 121 = .ok (.invokevirtual 95, 3) := by decide +kernel
theorem dX8_walks_124 : decode cX8_walks 124 = .ok (.iinc 3 1, 3) := by decide +kernel
theorem dX8_walks_127 : decode cX8_walks 127 = .ok (.goto (-87), 3) := by decide +kernel
theorem dX8_walks_130 : decode cX8_walks 130 = .ok (.iinc 2 1, 3) := by decide +kernel
theorem dX8_walks_133 : decode cX8_walks 133 = .ok (.goto (-101), 3) := by decide +kernel
theorem dX8_walks_136 : decode cX8_walks 136 = .ok (.return_, 1) := by decide +kernel
theorem dX8_goes_0 : decode cX8_goes 0 = .ok (.iload_n 1, 1) := by decide +kernel
theorem dX8_goes_1 : decode cX8_goes 1 = .ok (.iload_n 2, 1) := by decide +kernel
theorem dX8_goes_2 : decode cX8_goes 2 = .ok (.invokestatic 68, 3) := by decide +kernel
theorem dX8_goes_5 : decode cX8_goes 5 = .ok (.ifCond .eq 44, 3) := by decide +kernel
theorem dX8_goes_8 : decode cX8_goes 8 = .ok (.aload_n 0, 1) := by decide +kernel
theorem dX8_goes_9 : decode cX8_goes 9 = .ok (.getfield 7, 3) := by decide +kernel
theorem dX8_goes_12 : decode cX8_goes 12 = .ok (.bipush 8, 2) := by decide +kernel
theorem dX8_goes_14 : decode cX8_goes 14 = .ok (.iload_n 2, 1) := by decide +kernel
theorem dX8_goes_15 : decode cX8_goes 15 = .ok (.imul, 1) := by decide +kernel
theorem dX8_goes_16 : decode cX8_goes 16 = .ok (.iload_n 1, 1) := by decide +kernel
theorem dX8_goes_17 : decode cX8_goes 17 = .ok (.iadd, 1) := by decide +kernel
theorem dX8_goes_18 : decode cX8_goes 18 = .ok (.baload, 1) := by decide +kernel
theorem dX8_goes_19 : decode cX8_goes 19 = .ok (.ifCond .ne 30, 3) := by decide +kernel
theorem dX8_goes_22 : decode cX8_goes 22 = .ok (.aload_n 0, 1) := by decide +kernel
theorem dX8_goes_23 : decode cX8_goes 23 = .ok (.getfield 38, 3) := by decide +kernel
theorem dX8_goes_26 : decode cX8_goes 26 = .ok (.bipush 8, 2) := by decide +kernel
theorem dX8_goes_28 : decode cX8_goes 28 = .ok (.iload_n 2, 1) := by decide +kernel
theorem dX8_goes_29 : decode cX8_goes 29 = .ok (.imul, 1) := by decide +kernel
theorem dX8_goes_30 : decode cX8_goes 30 = .ok (.iload_n 1, 1) := by decide +kernel
theorem dX8_goes_31 : decode cX8_goes 31 = .ok (.iadd, 1) := by decide +kernel
theorem dX8_goes_32 : decode cX8_goes 32 = .ok (.iaload, 1) := by decide +kernel
theorem dX8_goes_33 : decode cX8_goes 33 = .ok (.iconst (-1), 1) := by decide +kernel
theorem dX8_goes_34 : decode cX8_goes 34 = .ok (.if_icmp .ne 15, 3) := by decide +kernel
theorem dX8_goes_37 : decode cX8_goes 37 = .ok (.aload_n 0, 1) := by decide +kernel
theorem dX8_goes_38 : decode cX8_goes 38 = .ok (.getfield 38, 3) := by decide +kernel
theorem dX8_goes_41 : decode cX8_goes 41 = .ok (.bipush 8, 2) := by decide +kernel
theorem dX8_goes_43 : decode cX8_goes 43 = .ok (.iload_n 2, 1) := by decide +kernel
theorem dX8_goes_44 : decode cX8_goes 44 = .ok (.imul, 1) := by decide +kernel
theorem dX8_goes_45 : decode cX8_goes 45 = .ok (.iload_n 1, 1) := by decide +kernel
theorem dX8_goes_46 : decode cX8_goes 46 = .ok (.iadd, 1) := by decide +kernel
theorem dX8_goes_47 : decode cX8_goes 47 = .ok (.iload_n 3, 1) := by decide +kernel
theorem dX8_goes_48 : decode cX8_goes 48 = .ok (.iastore, 1) := by decide +kernel
theorem dX8_goes_49 : decode cX8_goes 49 = .ok (.return_, 1) := by decide +kernel
theorem dX8_findsWays_0 : decode cX8_findsWays 0 = .ok (.iconst 0, 1) := by decide +kernel
theorem dX8_findsWays_1 : decode cX8_findsWays 1 = .ok (.istore_n 1, 1) := by decide +kernel
theorem dX8_findsWays_2 : decode cX8_findsWays 2 = .ok (.iload_n 1, 1) := by decide +kernel
theorem dX8_findsWays_3 : decode cX8_findsWays 3 = .ok (.aload_n 0, 1) := by decide +kernel
theorem dX8_findsWays_4 : decode cX8_findsWays 4 = .ok (.getfield 58, 3) := by decide +kernel
theorem dX8_findsWays_7 : decode cX8_findsWays 7 = .ok (.if_icmp .ge 69, 3) := by decide +kernel
theorem dX8_findsWays_10 : decode cX8_findsWays 10 = .ok (.aload_n 0, 1) := by decide +kernel
theorem dX8_findsWays_11 : decode cX8_findsWays 11 = .ok (.aload_n 0, 1) := by decide +kernel
theorem dX8_findsWays_12 : decode cX8_findsWays 12 = .ok (.getfield 13, 3) := by decide +kernel
theorem dX8_findsWays_15 : decode cX8_findsWays 15 = .ok (.iload_n 1, 1) := by decide +kernel
theorem dX8_findsWays_16 : decode cX8_findsWays 16 = .ok (.iaload, 1) := by decide +kernel
theorem dX8_findsWays_17 : decode cX8_findsWays 17 = .ok (.invokevirtual 99, 3) := by decide +kernel
theorem dX8_findsWays_20 : decode cX8_findsWays 20 = .ok (.iconst 0, 1) := by decide +kernel
theorem dX8_findsWays_21 : decode cX8_findsWays 21 = .ok (.istore_n 2, 1) := by decide +kernel
theorem dX8_findsWays_22 : decode cX8_findsWays 22 = .ok (.iload_n 2, 1) := by decide +kernel
theorem dX8_findsWays_23 : decode cX8_findsWays 23 = .ok (.aload_n 0, 1) := by decide +kernel
theorem dX8_findsWays_24 : decode cX8_findsWays 24 = .ok (.getfield 58, 3) := by decide +kernel
theorem dX8_findsWays_27 : decode cX8_findsWays 27 = .ok (.if_icmp .ge 43, 3) := by decide +kernel
theorem dX8_findsWays_30 : decode cX8_findsWays 30 = .ok (.aload_n 0, 1) := by decide +kernel
theorem dX8_findsWays_31 : decode cX8_findsWays 31 = .ok (.getfield 38, 3) := by decide +kernel
theorem dX8_findsWays_34 : decode cX8_findsWays 34 = .ok (.aload_n 0, 1) := by decide +kernel
theorem dX8_findsWays_35 : decode cX8_findsWays 35 = .ok (.getfield 13, 3) := by decide +kernel
theorem dX8_findsWays_38 : decode cX8_findsWays 38 = .ok (.iload_n 2, 1) := by decide +kernel
theorem dX8_findsWays_39 : decode cX8_findsWays 39 = .ok (.iaload, 1) := by decide +kernel
theorem dX8_findsWays_40 : decode cX8_findsWays 40 = .ok (.iaload, 1) := by decide +kernel
theorem dX8_findsWays_41 : decode cX8_findsWays 41 = .ok (.istore_n 3, 1) := by decide +kernel
theorem dX8_findsWays_42 : decode cX8_findsWays 42 = .ok (.aload_n 0, 1) := by decide +kernel
theorem dX8_findsWays_43 : decode cX8_findsWays 43 = .ok (.getfield 35, 3) := by decide +kernel
theorem dX8_findsWays_46 : decode cX8_findsWays 46 = .ok (.bipush 7, 2) := by decide +kernel
theorem dX8_findsWays_48 : decode cX8_findsWays 48 = .ok (.iload_n 1, 1) := by decide +kernel
theorem dX8_findsWays_49 : decode cX8_findsWays 49 = .ok (.imul, 1) := by decide +kernel
theorem dX8_findsWays_50 : decode cX8_findsWays 50 = .ok (.iload_n 2, 1) := by decide +kernel
theorem dX8_findsWays_51 : decode cX8_findsWays 51 = .ok (.iadd, 1) := by decide +kernel
theorem dX8_findsWays_52 : decode cX8_findsWays 52 = .ok (.iload_n 3, 1) := by decide +kernel
theorem dX8_findsWays_53 : decode cX8_findsWays 53 = .ok (.iconst (-1), 1) := by decide +kernel
theorem dX8_findsWays_54 : decode cX8_findsWays 54 = .ok (.if_icmp .ne 8, 3) := by decide +kernel
theorem dX8_findsWays_57 : decode cX8_findsWays 57 = .ok (.bipush 100, 2) := by decide +kernel
theorem dX8_findsWays_59 : decode cX8_findsWays 59 = .ok (.goto 4, 3) := by decide +kernel
theorem dX8_findsWays_62 : decode cX8_findsWays 62 = .ok (.iload_n 3, 1) := by decide +kernel
theorem dX8_findsWays_63 : decode cX8_findsWays 63 = .ok (.iastore, 1) := by decide +kernel
theorem dX8_findsWays_64 : decode cX8_findsWays 64 = .ok (.iinc 2 1, 3) := by decide +kernel
theorem dX8_findsWays_67 : decode cX8_findsWays 67 = .ok (.goto (-45), 3) := by decide +kernel
theorem dX8_findsWays_70 : decode cX8_findsWays 70 = .ok (.iinc 1 1, 3) := by decide +kernel
theorem dX8_findsWays_73 : decode cX8_findsWays 73 = .ok (.goto (-71), 3) := by decide +kernel
theorem dX8_findsWays_76 : decode cX8_findsWays 76 = .ok (.return_, 1) := by decide +kernel
theorem dX8_wishOf_0 : decode cX8_wishOf 0 = .ok (.iconst 0, 1) := by decide +kernel
theorem dX8_wishOf_1 : decode cX8_wishOf 1 = .ok (.istore_n 2, 1) := by decide +kernel
theorem dX8_wishOf_2 : decode cX8_wishOf 2 = .ok (.iconst 0, 1) := by decide +kernel
theorem dX8_wishOf_3 : decode cX8_wishOf 3 = .ok (.istore_n 3, 1) := by decide +kernel
theorem dX8_wishOf_4 : decode cX8_wishOf 4 = .ok (.iload_n 3, 1) := by decide +kernel
theorem dX8_wishOf_5 : decode cX8_wishOf 5 = .ok (.aload_n 0, 1) := by decide +kernel
theorem dX8_wishOf_6 : decode cX8_wishOf 6 = .ok (.getfield 61, 3) := by decide +kernel
theorem dX8_wishOf_9 : decode cX8_wishOf 9 = .ok (.if_icmp .ge 36, 3) := by decide +kernel
theorem dX8_wishOf_12 : decode cX8_wishOf 12 = .ok (.iload_n 2, 1) := by decide +kernel
theorem dX8_wishOf_13 : decode cX8_wishOf 13 = .ok (.aload_n 1, 1) := by decide +kernel
theorem dX8_wishOf_14 : decode cX8_wishOf 14 = .ok (.iload_n 3, 1) := by decide +kernel
theorem dX8_wishOf_15 : decode cX8_wishOf 15 = .ok (.iaload, 1) := by decide +kernel
theorem dX8_wishOf_16 : decode cX8_wishOf 16 = .ok (.iconst (-1), 1) := by decide +kernel
theorem dX8_wishOf_17 : decode cX8_wishOf 17 = .ok (.if_icmp .ne 7, 3) := by decide +kernel
theorem dX8_wishOf_20 : decode cX8_wishOf 20 = .ok (.iconst 0, 1) := by decide +kernel
theorem dX8_wishOf_21 : decode cX8_wishOf 21 = .ok (.goto 16, 3) := by decide +kernel
theorem dX8_wishOf_24 : decode cX8_wishOf 24 = .ok (.aload_n 0, 1) := by decide +kernel
theorem dX8_wishOf_25 : decode cX8_wishOf 25 = .ok (.getfield 23, 3) := by decide +kernel
theorem dX8_wishOf_28 : decode cX8_wishOf 28 = .ok (.bipush 7, 2) := by decide +kernel
theorem dX8_wishOf_30 : decode cX8_wishOf 30 = .ok (.iload_n 3, 1) := by decide +kernel
theorem dX8_wishOf_31 : decode cX8_wishOf 31 = .ok (.imul, 1) := by decide +kernel
theorem dX8_wishOf_32 : decode cX8_wishOf 32 = .ok (.aload_n 1, 1) := by decide +kernel
theorem dX8_wishOf_33 : decode cX8_wishOf 33 = .ok (.iload_n 3, 1) := by decide +kernel
theorem dX8_wishOf_34 : decode cX8_wishOf 34 = .ok (.iaload, 1) := by decide +kernel
theorem dX8_wishOf_35 : decode cX8_wishOf 35 = .ok (.iadd, 1) := by decide +kernel
theorem dX8_wishOf_36 : decode cX8_wishOf 36 = .ok (.iaload, 1) := by decide +kernel
theorem dX8_wishOf_37 : decode cX8_wishOf 37 = .ok (.iadd, 1) := by decide +kernel
theorem dX8_wishOf_38 : decode cX8_wishOf 38 = .ok (.istore_n 2, 1) := by decide +kernel
theorem dX8_wishOf_39 : decode cX8_wishOf 39 = .ok (.iinc 3 1, 3) := by decide +kernel
theorem dX8_wishOf_42 : decode cX8_wishOf 42 = .ok (.goto (-38), 3) := by decide +kernel
theorem dX8_wishOf_45 : decode cX8_wishOf 45 = .ok (.iload_n 2, 1) := by decide +kernel
theorem dX8_wishOf_46 : decode cX8_wishOf 46 = .ok (.ireturn, 1) := by decide +kernel
theorem dX8_costOf_0 : decode cX8_costOf 0 = .ok (.aload_n 0, 1) := by decide +kernel
theorem dX8_costOf_1 : decode cX8_costOf 1 = .ok (.aload_n 1, 1) := by decide +kernel
theorem dX8_costOf_2 : decode cX8_costOf 2 = .ok (.invokevirtual 103, 3) := by decide +kernel
theorem dX8_costOf_5 : decode cX8_costOf 5 = .ok (.istore_n 2, 1) := by decide +kernel
theorem dX8_costOf_6 : decode cX8_costOf 6 = .ok (.iconst 0, 1) := by decide +kernel
theorem dX8_costOf_7 : decode cX8_costOf 7 = .ok (.istore_n 3, 1) := by decide +kernel
theorem dX8_costOf_8 : decode cX8_costOf 8 = .ok (.iload_n 3, 1) := by decide +kernel
theorem dX8_costOf_9 : decode cX8_costOf 9 = .ok (.aload_n 0, 1) := by decide +kernel
theorem dX8_costOf_10 : decode cX8_costOf 10 = .ok (.getfield 61, 3) := by decide +kernel
theorem dX8_costOf_13 : decode cX8_costOf 13 = .ok (.if_icmp .ge 75, 3) := by decide +kernel
theorem dX8_costOf_16 : decode cX8_costOf 16 = .ok (.iconst 0, 1) := by decide +kernel
theorem dX8_costOf_17 : decode cX8_costOf 17 = .ok (.istore 4, 2) := by decide +kernel
theorem dX8_costOf_19 : decode cX8_costOf 19 = .ok (.iload 4, 2) := by decide +kernel
theorem dX8_costOf_21 : decode cX8_costOf 21 = .ok (.iload_n 3, 1) := by decide +kernel
theorem dX8_costOf_22 : decode cX8_costOf 22 = .ok (.if_icmp .ge 60, 3) := by decide +kernel
theorem dX8_costOf_25 : decode cX8_costOf 25 = .ok (.iload_n 2, 1) := by decide +kernel
theorem dX8_costOf_26 : decode cX8_costOf 26 = .ok (.aload_n 1, 1) := by decide +kernel
theorem dX8_costOf_27 : decode cX8_costOf 27 = .ok (.iload_n 3, 1) := by decide +kernel
theorem dX8_costOf_28 : decode cX8_costOf 28 = .ok (.iaload, 1) := by decide +kernel
theorem dX8_costOf_29 : decode cX8_costOf 29 = .ok (.iconst (-1), 1) := by decide +kernel
theorem dX8_costOf_30 : decode cX8_costOf 30 = .ok (.if_icmp .eq 11, 3) := by decide +kernel
theorem dX8_costOf_33 : decode cX8_costOf 33 = .ok (.aload_n 1, 1) := by decide +kernel
theorem dX8_costOf_34 : decode cX8_costOf 34 = .ok (.iload 4, 2) := by decide +kernel
theorem dX8_costOf_36 : decode cX8_costOf 36 = .ok (.iaload, 1) := by decide +kernel
theorem dX8_costOf_37 : decode cX8_costOf 37 = .ok (.iconst (-1), 1) := by decide +kernel
theorem dX8_costOf_38 : decode cX8_costOf 38 = .ok (.if_icmp .ne 7, 3) := by decide +kernel
theorem dX8_costOf_41 : decode cX8_costOf 41 = .ok (.iconst 0, 1) := by decide +kernel
theorem dX8_costOf_42 : decode cX8_costOf 42 = .ok (.goto 32, 3) := by decide +kernel
theorem dX8_costOf_45 : decode cX8_costOf 45 = .ok (.aload_n 0, 1) := by decide +kernel
theorem dX8_costOf_46 : decode cX8_costOf 46 = .ok (.getfield 26, 3) := by decide +kernel
theorem dX8_costOf_49 : decode cX8_costOf 49 = .ok (.bipush 7, 2) := by decide +kernel
theorem dX8_costOf_51 : decode cX8_costOf 51 = .ok (.iload_n 3, 1) := by decide +kernel
theorem dX8_costOf_52 : decode cX8_costOf 52 = .ok (.imul, 1) := by decide +kernel
theorem dX8_costOf_53 : decode cX8_costOf 53 = .ok (.iload 4, 2) := by decide +kernel
theorem dX8_costOf_55 : decode cX8_costOf 55 = .ok (.iadd, 1) := by decide +kernel
theorem dX8_costOf_56 : decode cX8_costOf 56 = .ok (.iaload, 1) := by decide +kernel
theorem dX8_costOf_57 : decode cX8_costOf 57 = .ok (.aload_n 0, 1) := by decide +kernel
theorem dX8_costOf_58 : decode cX8_costOf 58 = .ok (.getfield 35, 3) := by decide +kernel
theorem dX8_costOf_61 : decode cX8_costOf 61 = .ok (.bipush 7, 2) := by decide +kernel
theorem dX8_costOf_63 : decode cX8_costOf 63 = .ok (.aload_n 1, 1) := by decide +kernel
theorem dX8_costOf_64 : decode cX8_costOf 64 = .ok (.iload_n 3, 1) := by decide +kernel
theorem dX8_costOf_65 : decode cX8_costOf 65 = .ok (.iaload, 1) := by decide +kernel
theorem dX8_costOf_66 : decode cX8_costOf 66 = .ok (.imul, 1) := by decide +kernel
theorem dX8_costOf_67 : decode cX8_costOf 67 = .ok (.aload_n 1, 1) := by decide +kernel
theorem dX8_costOf_68 : decode cX8_costOf 68 = .ok (.iload 4, 2) := by decide +kernel
theorem dX8_costOf_70 : decode cX8_costOf 70 = .ok (.iaload, 1) := by decide +kernel
theorem dX8_costOf_71 : decode cX8_costOf 71 = .ok (.iadd, 1) := by decide +kernel
theorem dX8_costOf_72 : decode cX8_costOf 72 = .ok (.iaload, 1) := by decide +kernel
theorem dX8_costOf_73 : decode cX8_costOf 73 = .ok (.imul, 1) := by decide +kernel
theorem dX8_costOf_74 : decode cX8_costOf 74 = .ok (.iadd, 1) := by decide +kernel
theorem dX8_costOf_75 : decode cX8_costOf 75 = .ok (.istore_n 2, 1) := by decide +kernel
theorem dX8_costOf_76 : decode cX8_costOf 76 = .ok (.iinc 4 1, 3) := by decide +kernel
theorem dX8_costOf_79 : decode cX8_costOf 79 = .ok (.goto (-60), 3) := by decide +kernel
theorem dX8_costOf_82 : decode cX8_costOf 82 = .ok (.iinc 3 1, 3) := by decide +kernel
theorem dX8_costOf_85 : decode cX8_costOf 85 = .ok (.goto (-77), 3) := by decide +kernel
theorem dX8_costOf_88 : decode cX8_costOf 88 = .ok (.iload_n 2, 1) := by decide +kernel
theorem dX8_costOf_89 : decode cX8_costOf 89 = .ok (.ireturn, 1) := by decide +kernel
theorem dX8_nextZone_0 : decode cX8_nextZone 0 = .ok (.aload_n 0, 1) := by decide +kernel
theorem dX8_nextZone_1 : decode cX8_nextZone 1 = .ok (.getfield 41, 3) := by decide +kernel
theorem dX8_nextZone_4 : decode cX8_nextZone 4 = .ok (.iload_n 1, 1) := by decide +kernel
theorem dX8_nextZone_5 : decode cX8_nextZone 5 = .ok (.iaload, 1) := by decide +kernel
theorem dX8_nextZone_6 : decode cX8_nextZone 6 = .ok (.iconst 1, 1) := by decide +kernel
theorem dX8_nextZone_7 : decode cX8_nextZone 7 = .ok (.iadd, 1) := by decide +kernel
theorem dX8_nextZone_8 : decode cX8_nextZone 8 = .ok (.istore_n 2, 1) := by decide +kernel
theorem dX8_nextZone_9 : decode cX8_nextZone 9 = .ok (.iload_n 2, 1) := by decide +kernel
theorem dX8_nextZone_10 : decode cX8_nextZone 10 = .ok (.aload_n 0, 1) := by decide +kernel
theorem dX8_nextZone_11 : decode cX8_nextZone 11 = .ok (.getfield 58, 3) := by decide +kernel
theorem dX8_nextZone_14 : decode cX8_nextZone 14 = .ok (.if_icmp .ge 58, 3) := by decide +kernel
theorem dX8_nextZone_17 : decode cX8_nextZone 17 = .ok (.aload_n 0, 1) := by decide +kernel
theorem dX8_nextZone_18 : decode cX8_nextZone 18 = .ok (.iload_n 1, 1) := by decide +kernel
theorem dX8_nextZone_19 : decode cX8_nextZone 19 = .ok (.iload_n 2, 1) := by decide +kernel
theorem dX8_nextZone_20 : decode cX8_nextZone 20 = .ok (.invokevirtual 107, 3) := by decide +kernel
theorem dX8_nextZone_23 : decode cX8_nextZone 23 = .ok (.istore_n 3, 1) := by decide +kernel
theorem dX8_nextZone_24 : decode cX8_nextZone 24 = .ok (.iconst 0, 1) := by decide +kernel
theorem dX8_nextZone_25 : decode cX8_nextZone 25 = .ok (.istore 4, 2) := by decide +kernel
theorem dX8_nextZone_27 : decode cX8_nextZone 27 = .ok (.iload 4, 2) := by decide +kernel
theorem dX8_nextZone_29 : decode cX8_nextZone 29 = .ok (.iload_n 1, 1) := by decide +kernel
theorem dX8_nextZone_30 : decode cX8_nextZone 30 = .ok (.if_icmp .ge 30, 3) := by decide +kernel
theorem dX8_nextZone_33 : decode cX8_nextZone 33 = .ok (.iload_n 3, 1) := by decide +kernel
theorem dX8_nextZone_34 : decode cX8_nextZone 34 = .ok (.ifCond .eq 18, 3) := by decide +kernel
theorem dX8_nextZone_37 : decode cX8_nextZone 37 = .ok (.aload_n 0, 1) := by decide +kernel
theorem dX8_nextZone_38 : decode cX8_nextZone 38 = .ok (.getfield 41, 3) := by decide +kernel
theorem dX8_nextZone_41 : decode cX8_nextZone 41 = .ok (.iload 4, 2) := by decide +kernel
theorem dX8_nextZone_43 : decode cX8_nextZone 43 = .ok (.iaload, 1) := by decide +kernel
theorem dX8_nextZone_44 : decode cX8_nextZone 44 = .ok (.iload_n 2, 1) := by decide +kernel
theorem dX8_nextZone_45 : decode cX8_nextZone 45 = .ok (.if_icmp .eq 7, 3) := by decide +kernel
theorem dX8_nextZone_48 : decode cX8_nextZone 48 = .ok (.iconst 1, 1) := by decide +kernel
theorem dX8_nextZone_49 : decode cX8_nextZone 49 = .ok (.goto 4, 3) := by decide +kernel
theorem dX8_nextZone_52 : decode cX8_nextZone 52 = .ok (.iconst 0, 1) := by decide +kernel
theorem dX8_nextZone_53 : decode cX8_nextZone 53 = .ok (.istore_n 3, 1) := by decide +kernel
theorem dX8_nextZone_54 : decode cX8_nextZone 54 = .ok (.iinc 4 1, 3) := by decide +kernel
theorem dX8_nextZone_57 : decode cX8_nextZone 57 = .ok (.goto (-30), 3) := by decide +kernel
theorem dX8_nextZone_60 : decode cX8_nextZone 60 = .ok (.iload_n 3, 1) := by decide +kernel
theorem dX8_nextZone_61 : decode cX8_nextZone 61 = .ok (.ifCond .eq 5, 3) := by decide +kernel
theorem dX8_nextZone_64 : decode cX8_nextZone 64 = .ok (.iload_n 2, 1) := by decide +kernel
theorem dX8_nextZone_65 : decode cX8_nextZone 65 = .ok (.ireturn, 1) := by decide +kernel
theorem dX8_nextZone_66 : decode cX8_nextZone 66 = .ok (.iinc 2 1, 3) := by decide +kernel
theorem dX8_nextZone_69 : decode cX8_nextZone 69 = .ok (.goto (-60), 3) := by decide +kernel
theorem dX8_nextZone_72 : decode cX8_nextZone 72 = .ok (.iconst (-1), 1) := by decide +kernel
theorem dX8_nextZone_73 : decode cX8_nextZone 73 = .ok (.ireturn, 1) := by decide +kernel
theorem dX8_tries_0 : decode cX8_tries 0 = .ok (.iconst (-1), 1) := by decide +kernel
theorem dX8_tries_1 : decode cX8_tries 1 = .ok (.istore_n 2, 1) := by decide +kernel
theorem dX8_tries_2 : decode cX8_tries 2 = .ok (.iconst 0, 1) := by decide +kernel
theorem dX8_tries_3 : decode cX8_tries 3 = .ok (.istore_n 3, 1) := by decide +kernel
theorem dX8_tries_4 : decode cX8_tries 4 = .ok (.aload_n 0, 1) := by decide +kernel
theorem dX8_tries_5 : decode cX8_tries 5 = .ok (.invokevirtual 110, 3) := by decide +kernel
theorem dX8_tries_8 : decode cX8_tries 8 = .ok (.aload_n 0, 1) := by decide +kernel
theorem dX8_tries_9 : decode cX8_tries 9 = .ok (.getfield 41, 3) := by decide +kernel
theorem dX8_tries_12 : decode cX8_tries 12 = .ok (.iconst 0, 1) := by decide +kernel
theorem dX8_tries_13 : decode cX8_tries 13 = .ok (.iconst (-1), 1) := by decide +kernel
theorem dX8_tries_14 : decode cX8_tries 14 = .ok (.iastore, 1) := by decide +kernel
theorem dX8_tries_15 : decode cX8_tries 15 = .ok (.iload_n 3, 1) := by decide +kernel
theorem dX8_tries_16 : decode cX8_tries 16 = .ok (.ifCond .lt 136, 3) := by decide +kernel
theorem dX8_tries_19 : decode cX8_tries 19 = .ok (.iload_n 3, 1) := by decide +kernel
theorem dX8_tries_20 : decode cX8_tries 20 = .ok (.aload_n 0, 1) := by decide +kernel
theorem dX8_tries_21 : decode cX8_tries 21 = .ok (.getfield 61, 3) := by decide +kernel
theorem dX8_tries_24 : decode cX8_tries 24 = .ok (.if_icmp .ne 80, 3) := by decide +kernel
theorem dX8_tries_27 : decode cX8_tries 27 = .ok (.iload_n 1, 1) := by decide +kernel
theorem dX8_tries_28 : decode cX8_tries 28 = .ok (.ifCond .eq 14, 3) := by decide +kernel
theorem dX8_tries_31 : decode cX8_tries 31 = .ok (.aload_n 0, 1) := by decide +kernel
theorem dX8_tries_32 : decode cX8_tries 32 = .ok (.aload_n 0, 1) := by decide +kernel
theorem dX8_tries_33 : decode cX8_tries 33 = .ok (.getfield 41, 3) := by decide +kernel
theorem dX8_tries_36 : decode cX8_tries 36 = .ok (.invokevirtual 113, 3) := by decide +kernel
theorem dX8_tries_39 : decode cX8_tries 39 = .ok (.goto 11, 3) := by decide +kernel
theorem dX8_tries_42 : decode cX8_tries 42 = .ok (.aload_n 0, 1) := by decide +kernel
theorem dX8_tries_43 : decode cX8_tries 43 = .ok (.aload_n 0, 1) := by decide +kernel
theorem dX8_tries_44 : decode cX8_tries 44 = .ok (.getfield 41, 3) := by decide +kernel
theorem dX8_tries_47 : decode cX8_tries 47 = .ok (.invokevirtual 103, 3) := by decide +kernel
theorem dX8_tries_50 : decode cX8_tries 50 = .ok (.istore 4, 2) := by decide +kernel
theorem dX8_tries_52 : decode cX8_tries 52 = .ok (.iload_n 2, 1) := by decide +kernel
theorem dX8_tries_53 : decode cX8_tries 53 = .ok (.iconst (-1), 1) := by decide +kernel
theorem dX8_tries_54 : decode cX8_tries 54 = .ok (.if_icmp .eq 9, 3) := by decide +kernel
theorem dX8_tries_57 : decode cX8_tries 57 = .ok (.iload 4, 2) := by decide +kernel
theorem dX8_tries_59 : decode cX8_tries 59 = .ok (.iload_n 2, 1) := by decide +kernel
theorem dX8_tries_60 : decode cX8_tries 60 = .ok (.if_icmp .ge 38, 3) := by decide +kernel
theorem dX8_tries_63 : decode cX8_tries 63 = .ok (.iload 4, 2) := by decide +kernel
theorem dX8_tries_65 : decode cX8_tries 65 = .ok (.istore_n 2, 1) := by decide +kernel
theorem dX8_tries_66 : decode cX8_tries 66 = .ok (.iconst 0, 1) := by decide +kernel
theorem dX8_tries_67 : decode cX8_tries 67 = .ok (.istore 5, 2) := by decide +kernel
theorem dX8_tries_69 : decode cX8_tries 69 = .ok (.iload 5, 2) := by decide +kernel
theorem dX8_tries_71 : decode cX8_tries 71 = .ok (.aload_n 0, 1) := by decide +kernel
theorem dX8_tries_72 : decode cX8_tries 72 = .ok (.getfield 61, 3) := by decide +kernel
theorem dX8_tries_75 : decode cX8_tries 75 = .ok (.if_icmp .ge 23, 3) := by decide +kernel
theorem dX8_tries_78 : decode cX8_tries 78 = .ok (.aload_n 0, 1) := by decide +kernel
theorem dX8_tries_79 : decode cX8_tries 79 = .ok (.getfield 44, 3) := by decide +kernel
theorem dX8_tries_82 : decode cX8_tries 82 = .ok (.iload 5, 2) := by decide +kernel
theorem dX8_tries_84 : decode cX8_tries 84 = .ok (.aload_n 0, 1) := by decide +kernel
theorem dX8_tries_85 : decode cX8_tries 85 = .ok (.getfield 41, 3) := by decide +kernel
theorem dX8_tries_88 : decode cX8_tries 88 = .ok (.iload 5, 2) := by decide +kernel
theorem dX8_tries_90 : decode cX8_tries 90 = .ok (.iaload, 1) := by decide +kernel
theorem dX8_tries_91 : decode cX8_tries 91 = .ok (.iastore, 1) := by decide +kernel
theorem dX8_tries_92 : decode cX8_tries 92 = .ok (.iinc 5 1, 3) := by decide +kernel
theorem dX8_tries_95 : decode cX8_tries 95 = .ok (.goto (-26), 3) := by decide +kernel
theorem dX8_tries_98 : decode cX8_tries 98 = .ok (.iinc 3 (-1), 3) := by decide +kernel
theorem dX8_tries_101 : decode cX8_tries 101 = .ok (.goto (-86), 3) := by decide +kernel
theorem dX8_tries_104 : decode cX8_tries 104 = .ok (.aload_n 0, 1) := by decide +kernel
theorem dX8_tries_105 : decode cX8_tries 105 = .ok (.iload_n 3, 1) := by decide +kernel
theorem dX8_tries_106 : decode cX8_tries 106 = .ok (.invokevirtual 116, 3) := by decide +kernel
theorem dX8_tries_109 : decode cX8_tries 109 = .ok (.istore 4, 2) := by decide +kernel
theorem dX8_tries_111 : decode cX8_tries 111 = .ok (.aload_n 0, 1) := by decide +kernel
theorem dX8_tries_112 : decode cX8_tries 112 = .ok (.getfield 41, 3) := by decide +kernel
theorem dX8_tries_115 : decode cX8_tries 115 = .ok (.iload_n 3, 1) := by decide +kernel
theorem dX8_tries_116 : decode cX8_tries 116 = .ok (.iload 4, 2) := by decide +kernel
theorem dX8_tries_118 : decode cX8_tries 118 = .ok (.iastore, 1) := by decide +kernel
theorem dX8_tries_119 : decode cX8_tries 119 = .ok (.iload 4, 2) := by decide +kernel
theorem dX8_tries_121 : decode cX8_tries 121 = .ok (.iconst (-1), 1) := by decide +kernel
theorem dX8_tries_122 : decode cX8_tries 122 = .ok (.if_icmp .ne 9, 3) := by decide +kernel
theorem dX8_tries_125 : decode cX8_tries 125 = .ok (.iinc 3 (-1), 3) := by decide +kernel
theorem dX8_tries_128 : decode cX8_tries 128 = .ok (.goto 21, 3) := by decide +kernel
theorem dX8_tries_131 : decode cX8_tries 131 = .ok (.iinc 3 1, 3) := by decide +kernel
theorem dX8_tries_134 : decode cX8_tries 134 = .ok (.iload_n 3, 1) := by decide +kernel
theorem dX8_tries_135 : decode cX8_tries 135 = .ok (.aload_n 0, 1) := by decide +kernel
theorem dX8_tries_136 : decode cX8_tries 136 = .ok (.getfield 61, 3) := by decide +kernel
theorem dX8_tries_139 : decode cX8_tries 139 = .ok (.if_icmp .ge 10, 3) := by decide +kernel
theorem dX8_tries_142 : decode cX8_tries 142 = .ok (.aload_n 0, 1) := by decide +kernel
theorem dX8_tries_143 : decode cX8_tries 143 = .ok (.getfield 41, 3) := by decide +kernel
theorem dX8_tries_146 : decode cX8_tries 146 = .ok (.iload_n 3, 1) := by decide +kernel
theorem dX8_tries_147 : decode cX8_tries 147 = .ok (.iconst (-1), 1) := by decide +kernel
theorem dX8_tries_148 : decode cX8_tries 148 = .ok (.iastore, 1) := by decide +kernel
theorem dX8_tries_149 : decode cX8_tries 149 = .ok (.goto (-134), 3) := by decide +kernel
theorem dX8_tries_152 : decode cX8_tries 152 = .ok (.iload_n 2, 1) := by decide +kernel
theorem dX8_tries_153 : decode cX8_tries 153 = .ok (.ireturn, 1) := by decide +kernel
theorem dX8_place_0 : decode cX8_place 0 = .ok (.aload_n 0, 1) := by decide +kernel
theorem dX8_place_1 : decode cX8_place 1 = .ok (.iload_n 1, 1) := by decide +kernel
theorem dX8_place_2 : decode cX8_place 2 = .ok (.invokevirtual 92, 3) := by decide +kernel
theorem dX8_place_5 : decode cX8_place 5 = .ok (.ifCond .eq 20, 3) := by decide +kernel
theorem dX8_place_8 : decode cX8_place 8 = .ok (.iload_n 2, 1) := by decide +kernel
theorem dX8_place_9 : decode cX8_place 9 = .ok (.iconst (-1), 1) := by decide +kernel
theorem dX8_place_10 : decode cX8_place 10 = .ok (.if_icmp .eq 11, 3) := by decide +kernel
theorem dX8_place_13 : decode cX8_place 13 = .ok (.aload_n 0, 1) := by decide +kernel
theorem dX8_place_14 : decode cX8_place 14 = .ok (.iload_n 2, 1) := by decide +kernel
theorem dX8_place_15 : decode cX8_place 15 = .ok (.invokevirtual 83, 3) := by decide +kernel
theorem dX8_place_18 : decode cX8_place 18 = .ok (.ifCond .eq 7, 3) := by decide +kernel
theorem dX8_place_21 : decode cX8_place 21 = .ok (.iconst 1, 1) := by decide +kernel
theorem dX8_place_22 : decode cX8_place 22 = .ok (.goto 4, 3) := by decide +kernel
theorem dX8_place_25 : decode cX8_place 25 = .ok (.iconst 0, 1) := by decide +kernel
theorem dX8_place_26 : decode cX8_place 26 = .ok (.istore_n 3, 1) := by decide +kernel
theorem dX8_place_27 : decode cX8_place 27 = .ok (.iload_n 3, 1) := by decide +kernel
theorem dX8_place_28 : decode cX8_place 28 = .ok (.ifCond .eq 16, 3) := by decide +kernel
theorem dX8_place_31 : decode cX8_place 31 = .ok (.iload_n 2, 1) := by decide +kernel
theorem dX8_place_32 : decode cX8_place 32 = .ok (.iconst (-1), 1) := by decide +kernel
theorem dX8_place_33 : decode cX8_place 33 = .ok (.if_icmp .eq 11, 3) := by decide +kernel
theorem dX8_place_36 : decode cX8_place 36 = .ok (.aload_n 0, 1) := by decide +kernel
theorem dX8_place_37 : decode cX8_place 37 = .ok (.iload_n 2, 1) := by decide +kernel
theorem dX8_place_38 : decode cX8_place 38 = .ok (.invokevirtual 86, 3) := by decide +kernel
theorem dX8_place_41 : decode cX8_place 41 = .ok (.goto 4, 3) := by decide +kernel
theorem dX8_place_44 : decode cX8_place 44 = .ok (.iconst (-1), 1) := by decide +kernel
theorem dX8_place_45 : decode cX8_place 45 = .ok (.istore 4, 2) := by decide +kernel
theorem dX8_place_47 : decode cX8_place 47 = .ok (.aload_n 0, 1) := by decide +kernel
theorem dX8_place_48 : decode cX8_place 48 = .ok (.iload_n 3, 1) := by decide +kernel
theorem dX8_place_49 : decode cX8_place 49 = .ok (.iload_n 3, 1) := by decide +kernel
theorem dX8_place_50 : decode cX8_place 50 = .ok (.ifCond .eq 33, 3) := by decide +kernel
theorem dX8_place_53 : decode cX8_place 53 = .ok (.iload_n 2, 1) := by decide +kernel
theorem dX8_place_54 : decode cX8_place 54 = .ok (.iconst (-1), 1) := by decide +kernel
theorem dX8_place_55 : decode cX8_place 55 = .ok (.if_icmp .eq 24, 3) := by decide +kernel
theorem dX8_place_58 : decode cX8_place 58 = .ok (.iload 4, 2) := by decide +kernel
theorem dX8_place_60 : decode cX8_place 60 = .ok (.iconst (-1), 1) := by decide +kernel
theorem dX8_place_61 : decode cX8_place 61 = .ok (.if_icmp .eq 9, 3) := by decide +kernel
theorem dX8_place_64 : decode cX8_place 64 = .ok (.iload 4, 2) := by decide +kernel
theorem dX8_place_66 : decode cX8_place 66 = .ok (.iload_n 1, 1) := by decide +kernel
theorem dX8_place_67 : decode cX8_place 67 = .ok (.if_icmp .ne 16, 3) := by decide +kernel
theorem dX8_place_70 : decode cX8_place 70 = .ok (.aload_n 0, 1) := by decide +kernel
theorem dX8_place_71 : decode cX8_place 71 = .ok (.iload_n 1, 1) := by decide +kernel
theorem dX8_place_72 : decode cX8_place 72 = .ok (.iload_n 2, 1) := by decide +kernel
theorem dX8_place_73 : decode cX8_place 73 = .ok (.invokevirtual 107, 3) := by decide +kernel
theorem dX8_place_76 : decode cX8_place 76 = .ok (.ifCond .eq 7, 3) := by decide +kernel
theorem dX8_place_79 : decode cX8_place 79 = .ok (.iconst 1, 1) := by decide +kernel
theorem dX8_place_80 : decode cX8_place 80 = .ok (.goto 4, 3) := by decide +kernel
theorem dX8_place_83 : decode cX8_place 83 = .ok (.iconst 0, 1) := by decide +kernel
theorem dX8_place_84 : decode cX8_place 84 = .ok (.invokevirtual 76, 3) := by decide +kernel
theorem dX8_place_87 : decode cX8_place 87 = .ok (.ifCond .ne 5, 3) := by decide +kernel
theorem dX8_place_90 : decode cX8_place 90 = .ok (.iconst 0, 1) := by decide +kernel
theorem dX8_place_91 : decode cX8_place 91 = .ok (.ireturn, 1) := by decide +kernel
theorem dX8_place_92 : decode cX8_place 92 = .ok (.aload_n 0, 1) := by decide +kernel
theorem dX8_place_93 : decode cX8_place 93 = .ok (.getfield 29, 3) := by decide +kernel
theorem dX8_place_96 : decode cX8_place 96 = .ok (.iload_n 1, 1) := by decide +kernel
theorem dX8_place_97 : decode cX8_place 97 = .ok (.iaload, 1) := by decide +kernel
theorem dX8_place_98 : decode cX8_place 98 = .ok (.istore 5, 2) := by decide +kernel
theorem dX8_place_100 : decode cX8_place 100 = .ok (.aload_n 0, 1) := by decide +kernel
theorem dX8_place_101 : decode cX8_place 101 = .ok (.getfield 29, 3) := by decide +kernel
theorem dX8_place_104 : decode cX8_place 104 = .ok (.iload_n 1, 1) := by decide +kernel
theorem dX8_place_105 : decode cX8_place 105 = .ok (.iload_n 2, 1) := by decide +kernel
theorem dX8_place_106 : decode cX8_place 106 = .ok (.iastore, 1) := by decide +kernel
theorem dX8_place_107 : decode cX8_place 107 = .ok (.iload 5, 2) := by decide +kernel
theorem dX8_place_109 : decode cX8_place 109 = .ok (.ireturn, 1) := by decide +kernel
theorem dX8_lays_0 : decode cX8_lays 0 = .ok (.aload_n 0, 1) := by decide +kernel
theorem dX8_lays_1 : decode cX8_lays 1 = .ok (.iload_n 1, 1) := by decide +kernel
theorem dX8_lays_2 : decode cX8_lays 2 = .ok (.invokevirtual 119, 3) := by decide +kernel
theorem dX8_lays_5 : decode cX8_lays 5 = .ok (.istore_n 2, 1) := by decide +kernel
theorem dX8_lays_6 : decode cX8_lays 6 = .ok (.aload_n 0, 1) := by decide +kernel
theorem dX8_lays_7 : decode cX8_lays 7 = .ok (.iload_n 2, 1) := by decide +kernel
theorem dX8_lays_8 : decode cX8_lays 8 = .ok (.iconst (-1), 1) := by decide +kernel
theorem dX8_lays_9 : decode cX8_lays 9 = .ok (.if_icmp .eq 7, 3) := by decide +kernel
theorem dX8_lays_12 : decode cX8_lays 12 = .ok (.iconst 1, 1) := by decide +kernel
theorem dX8_lays_13 : decode cX8_lays 13 = .ok (.goto 4, 3) := by decide +kernel
theorem dX8_lays_16 : decode cX8_lays 16 = .ok (.iconst 0, 1) := by decide +kernel
theorem dX8_lays_17 : decode cX8_lays 17 = .ok (.invokevirtual 89, 3) := by decide +kernel
theorem dX8_lays_20 : decode cX8_lays 20 = .ok (.ifCond .ne 5, 3) := by decide +kernel
theorem dX8_lays_23 : decode cX8_lays 23 = .ok (.iconst 0, 1) := by decide +kernel
theorem dX8_lays_24 : decode cX8_lays 24 = .ok (.ireturn, 1) := by decide +kernel
theorem dX8_lays_25 : decode cX8_lays 25 = .ok (.iconst 0, 1) := by decide +kernel
theorem dX8_lays_26 : decode cX8_lays 26 = .ok (.istore_n 3, 1) := by decide +kernel
theorem dX8_lays_27 : decode cX8_lays 27 = .ok (.iload_n 3, 1) := by decide +kernel
theorem dX8_lays_28 : decode cX8_lays 28 = .ok (.aload_n 0, 1) := by decide +kernel
theorem dX8_lays_29 : decode cX8_lays 29 = .ok (.getfield 61, 3) := by decide +kernel
theorem dX8_lays_32 : decode cX8_lays 32 = .ok (.if_icmp .ge 21, 3) := by decide +kernel
theorem dX8_lays_35 : decode cX8_lays 35 = .ok (.aload_n 0, 1) := by decide +kernel
theorem dX8_lays_36 : decode cX8_lays 36 = .ok (.getfield 29, 3) := by decide +kernel
theorem dX8_lays_39 : decode cX8_lays 39 = .ok (.iload_n 3, 1) := by decide +kernel
theorem dX8_lays_40 : decode cX8_lays 40 = .ok (.aload_n 0, 1) := by decide +kernel
theorem dX8_lays_41 : decode cX8_lays 41 = .ok (.getfield 44, 3) := by decide +kernel
theorem dX8_lays_44 : decode cX8_lays 44 = .ok (.iload_n 3, 1) := by decide +kernel
theorem dX8_lays_45 : decode cX8_lays 45 = .ok (.iaload, 1) := by decide +kernel
theorem dX8_lays_46 : decode cX8_lays 46 = .ok (.iastore, 1) := by decide +kernel
theorem dX8_lays_47 : decode cX8_lays 47 = .ok (.iinc 3 1, 3) := by decide +kernel
theorem dX8_lays_50 : decode cX8_lays 50 = .ok (.goto (-23), 3) := by decide +kernel
theorem dX8_lays_53 : decode cX8_lays 53 = .ok (.iload_n 2, 1) := by decide +kernel
theorem dX8_lays_54 : decode cX8_lays 54 = .ok (.ireturn, 1) := by decide +kernel
theorem dX8_placeByWishes_0 : decode cX8_placeByWishes 0 = .ok (.aload_n 0, 1) := by decide +kernel
theorem dX8_placeByWishes_1 : decode cX8_placeByWishes 1 = .ok (.iconst 0, 1) := by decide +kernel
theorem dX8_placeByWishes_2 : decode cX8_placeByWishes 2 = .ok (.invokevirtual 123, 3) := by decide +kernel
theorem dX8_placeByWishes_5 : decode cX8_placeByWishes 5 = .ok (.ireturn, 1) := by decide +kernel
theorem dX8_placeBest_0 : decode cX8_placeBest 0 = .ok (.aload_n 0, 1) := by decide +kernel
theorem dX8_placeBest_1 : decode cX8_placeBest 1 = .ok (.iconst 1, 1) := by decide +kernel
theorem dX8_placeBest_2 : decode cX8_placeBest 2 = .ok (.invokevirtual 123, 3) := by decide +kernel
theorem dX8_placeBest_5 : decode cX8_placeBest 5 = .ok (.ireturn, 1) := by decide +kernel
theorem dX8_isPlaced_0 : decode cX8_isPlaced 0 = .ok (.iconst 1, 1) := by decide +kernel
theorem dX8_isPlaced_1 : decode cX8_isPlaced 1 = .ok (.istore_n 1, 1) := by decide +kernel
theorem dX8_isPlaced_2 : decode cX8_isPlaced 2 = .ok (.iconst 0, 1) := by decide +kernel
theorem dX8_isPlaced_3 : decode cX8_isPlaced 3 = .ok (.istore_n 2, 1) := by decide +kernel
theorem dX8_isPlaced_4 : decode cX8_isPlaced 4 = .ok (.iload_n 2, 1) := by decide +kernel
theorem dX8_isPlaced_5 : decode cX8_isPlaced 5 = .ok (.aload_n 0, 1) := by decide +kernel
theorem dX8_isPlaced_6 : decode cX8_isPlaced 6 = .ok (.getfield 61, 3) := by decide +kernel
theorem dX8_isPlaced_9 : decode cX8_isPlaced 9 = .ok (.if_icmp .ge 29, 3) := by decide +kernel
theorem dX8_isPlaced_12 : decode cX8_isPlaced 12 = .ok (.iload_n 1, 1) := by decide +kernel
theorem dX8_isPlaced_13 : decode cX8_isPlaced 13 = .ok (.ifCond .eq 17, 3) := by decide +kernel
theorem dX8_isPlaced_16 : decode cX8_isPlaced 16 = .ok (.aload_n 0, 1) := by decide +kernel
theorem dX8_isPlaced_17 : decode cX8_isPlaced 17 = .ok (.getfield 29, 3) := by decide +kernel
theorem dX8_isPlaced_20 : decode cX8_isPlaced 20 = .ok (.iload_n 2, 1) := by decide +kernel
theorem dX8_isPlaced_21 : decode cX8_isPlaced 21 = .ok (.iaload, 1) := by decide +kernel
theorem dX8_isPlaced_22 : decode cX8_isPlaced 22 = .ok (.iconst (-1), 1) := by decide +kernel
theorem dX8_isPlaced_23 : decode cX8_isPlaced 23 = .ok (.if_icmp .eq 7, 3) := by decide +kernel
theorem dX8_isPlaced_26 : decode cX8_isPlaced 26 = .ok (.iconst 1, 1) := by decide +kernel
theorem dX8_isPlaced_27 : decode cX8_isPlaced 27 = .ok (.goto 4, 3) := by decide +kernel
theorem dX8_isPlaced_30 : decode cX8_isPlaced 30 = .ok (.iconst 0, 1) := by decide +kernel
theorem dX8_isPlaced_31 : decode cX8_isPlaced 31 = .ok (.istore_n 1, 1) := by decide +kernel
theorem dX8_isPlaced_32 : decode cX8_isPlaced 32 = .ok (.iinc 2 1, 3) := by decide +kernel
theorem dX8_isPlaced_35 : decode cX8_isPlaced 35 = .ok (.goto (-31), 3) := by decide +kernel
theorem dX8_isPlaced_38 : decode cX8_isPlaced 38 = .ok (.iload_n 1, 1) := by decide +kernel
theorem dX8_isPlaced_39 : decode cX8_isPlaced 39 = .ok (.ireturn, 1) := by decide +kernel
theorem dX8_costBehind_0 : decode cX8_costBehind 0 = .ok (.iload 4, 2) := by decide +kernel
theorem dX8_costBehind_2 : decode cX8_costBehind 2 = .ok (.aload_n 0, 1) := by decide +kernel
theorem dX8_costBehind_3 : decode cX8_costBehind 3 = .ok (.getfield 47, 3) := by decide +kernel
theorem dX8_costBehind_6 : decode cX8_costBehind 6 = .ok (.iload_n 1, 1) := by decide +kernel
theorem dX8_costBehind_7 : decode cX8_costBehind 7 = .ok (.iaload, 1) := by decide +kernel
theorem dX8_costBehind_8 : decode cX8_costBehind 8 = .ok (.isub, 1) := by decide +kernel
theorem dX8_costBehind_9 : decode cX8_costBehind 9 = .ok (.iload 5, 2) := by decide +kernel
theorem dX8_costBehind_11 : decode cX8_costBehind 11 = .ok (.if_icmp .le 7, 3) := by decide +kernel
theorem dX8_costBehind_14 : decode cX8_costBehind 14 = .ok (.iconst 1, 1) := by decide +kernel
theorem dX8_costBehind_15 : decode cX8_costBehind 15 = .ok (.goto 4, 3) := by decide +kernel
theorem dX8_costBehind_18 : decode cX8_costBehind 18 = .ok (.iconst 0, 1) := by decide +kernel
theorem dX8_costBehind_19 : decode cX8_costBehind 19 = .ok (.istore 6, 2) := by decide +kernel
theorem dX8_costBehind_21 : decode cX8_costBehind 21 = .ok (.iload_n 2, 1) := by decide +kernel
theorem dX8_costBehind_22 : decode cX8_costBehind 22 = .ok (.iconst (-1), 1) := by decide +kernel
theorem dX8_costBehind_23 : decode cX8_costBehind 23 = .ok (.if_icmp .eq 46, 3) := by decide +kernel
theorem dX8_costBehind_26 : decode cX8_costBehind 26 = .ok (.iload 6, 2) := by decide +kernel
theorem dX8_costBehind_28 : decode cX8_costBehind 28 = .ok (.ifCond .eq 35, 3) := by decide +kernel
theorem dX8_costBehind_31 : decode cX8_costBehind 31 = .ok (.iload 4, 2) := by decide +kernel
theorem dX8_costBehind_33 : decode cX8_costBehind 33 = .ok (.aload_n 0, 1) := by decide +kernel
theorem dX8_costBehind_34 : decode cX8_costBehind 34 = .ok (.getfield 47, 3) := by decide +kernel
theorem dX8_costBehind_37 : decode cX8_costBehind 37 = .ok (.iload_n 2, 1) := by decide +kernel
theorem dX8_costBehind_38 : decode cX8_costBehind 38 = .ok (.iaload, 1) := by decide +kernel
theorem dX8_costBehind_39 : decode cX8_costBehind 39 = .ok (.isub, 1) := by decide +kernel
theorem dX8_costBehind_40 : decode cX8_costBehind 40 = .ok (.iload 5, 2) := by decide +kernel
theorem dX8_costBehind_42 : decode cX8_costBehind 42 = .ok (.if_icmp .le 21, 3) := by decide +kernel
theorem dX8_costBehind_45 : decode cX8_costBehind 45 = .ok (.aload_n 0, 1) := by decide +kernel
theorem dX8_costBehind_46 : decode cX8_costBehind 46 = .ok (.iload_n 2, 1) := by decide +kernel
theorem dX8_costBehind_47 : decode cX8_costBehind 47 = .ok (.aload_n 0, 1) := by decide +kernel
theorem dX8_costBehind_48 : decode cX8_costBehind 48 = .ok (.getfield 29, 3) := by decide +kernel
theorem dX8_costBehind_51 : decode cX8_costBehind 51 = .ok (.iload_n 1, 1) := by decide +kernel
theorem dX8_costBehind_52 : decode cX8_costBehind 52 = .ok (.iaload, 1) := by decide +kernel
theorem dX8_costBehind_53 : decode cX8_costBehind 53 = .ok (.invokevirtual 107, 3) := by decide +kernel
theorem dX8_costBehind_56 : decode cX8_costBehind 56 = .ok (.ifCond .eq 7, 3) := by decide +kernel
theorem dX8_costBehind_59 : decode cX8_costBehind 59 = .ok (.iconst 1, 1) := by decide +kernel
theorem dX8_costBehind_60 : decode cX8_costBehind 60 = .ok (.goto 4, 3) := by decide +kernel
theorem dX8_costBehind_63 : decode cX8_costBehind 63 = .ok (.iconst 0, 1) := by decide +kernel
theorem dX8_costBehind_64 : decode cX8_costBehind 64 = .ok (.istore 6, 2) := by decide +kernel
theorem dX8_costBehind_66 : decode cX8_costBehind 66 = .ok (.goto 24, 3) := by decide +kernel
theorem dX8_costBehind_69 : decode cX8_costBehind 69 = .ok (.iload 6, 2) := by decide +kernel
theorem dX8_costBehind_71 : decode cX8_costBehind 71 = .ok (.ifCond .eq 16, 3) := by decide +kernel
theorem dX8_costBehind_74 : decode cX8_costBehind 74 = .ok (.aload_n 0, 1) := by decide +kernel
theorem dX8_costBehind_75 : decode cX8_costBehind 75 = .ok (.iload_n 3, 1) := by decide +kernel
theorem dX8_costBehind_76 : decode cX8_costBehind 76 = .ok (.invokevirtual 86, 3) := by decide +kernel
theorem dX8_costBehind_79 : decode cX8_costBehind 79 = .ok (.iconst (-1), 1) := by decide +kernel
theorem dX8_costBehind_80 : decode cX8_costBehind 80 = .ok (.if_icmp .ne 7, 3) := by decide +kernel
theorem dX8_costBehind_83 : decode cX8_costBehind 83 = .ok (.iconst 1, 1) := by decide +kernel
theorem dX8_costBehind_84 : decode cX8_costBehind 84 = .ok (.goto 4, 3) := by decide +kernel
theorem dX8_costBehind_87 : decode cX8_costBehind 87 = .ok (.iconst 0, 1) := by decide +kernel
theorem dX8_costBehind_88 : decode cX8_costBehind 88 = .ok (.istore 6, 2) := by decide +kernel
theorem dX8_costBehind_90 : decode cX8_costBehind 90 = .ok (.iload 6, 2) := by decide +kernel
theorem dX8_costBehind_92 : decode cX8_costBehind 92 = .ok (.ifCond .eq 12, 3) := by decide +kernel
theorem dX8_costBehind_95 : decode cX8_costBehind 95 = .ok (.aload_n 0, 1) := by decide +kernel
theorem dX8_costBehind_96 : decode cX8_costBehind 96 = .ok (.iload_n 1, 1) := by decide +kernel
theorem dX8_costBehind_97 : decode cX8_costBehind 97 = .ok (.iload_n 3, 1) := by decide +kernel
theorem dX8_costBehind_98 : decode cX8_costBehind 98 = .ok (.invokevirtual 107, 3) := by decide +kernel
theorem dX8_costBehind_101 : decode cX8_costBehind 101 = .ok (.ifCond .ne 5, 3) := by decide +kernel
theorem dX8_costBehind_104 : decode cX8_costBehind 104 = .ok (.iconst (-1), 1) := by decide +kernel
theorem dX8_costBehind_105 : decode cX8_costBehind 105 = .ok (.ireturn, 1) := by decide +kernel
theorem dX8_costBehind_106 : decode cX8_costBehind 106 = .ok (.iconst 0, 1) := by decide +kernel
theorem dX8_costBehind_107 : decode cX8_costBehind 107 = .ok (.istore 7, 2) := by decide +kernel
theorem dX8_costBehind_109 : decode cX8_costBehind 109 = .ok (.iload 7, 2) := by decide +kernel
theorem dX8_costBehind_111 : decode cX8_costBehind 111 = .ok (.aload_n 0, 1) := by decide +kernel
theorem dX8_costBehind_112 : decode cX8_costBehind 112 = .ok (.getfield 61, 3) := by decide +kernel
theorem dX8_costBehind_115 : decode cX8_costBehind 115 = .ok (.if_icmp .ge 48, 3) := by decide +kernel
theorem dX8_costBehind_118 : decode cX8_costBehind 118 = .ok (.aload_n 0, 1) := by decide +kernel
theorem dX8_costBehind_119 : decode cX8_costBehind 119 = .ok (.getfield 41, 3) := by decide +kernel
theorem dX8_costBehind_122 : decode cX8_costBehind 122 = .ok (.iload 7, 2) := by decide +kernel
theorem dX8_costBehind_124 : decode cX8_costBehind 124 = .ok (.iload 7, 2) := by decide +kernel
theorem dX8_costBehind_126 : decode cX8_costBehind 126 = .ok (.iload_n 1, 1) := by decide +kernel
theorem dX8_costBehind_127 : decode cX8_costBehind 127 = .ok (.if_icmp .ne 7, 3) := by decide +kernel
theorem dX8_costBehind_130 : decode cX8_costBehind 130 = .ok (.iload_n 3, 1) := by decide +kernel
theorem dX8_costBehind_131 : decode cX8_costBehind 131 = .ok (.goto 25, 3) := by decide +kernel
theorem dX8_costBehind_134 : decode cX8_costBehind 134 = .ok (.iload 7, 2) := by decide +kernel
theorem dX8_costBehind_136 : decode cX8_costBehind 136 = .ok (.iload_n 2, 1) := by decide +kernel
theorem dX8_costBehind_137 : decode cX8_costBehind 137 = .ok (.if_icmp .ne 12, 3) := by decide +kernel
theorem dX8_costBehind_140 : decode cX8_costBehind 140 = .ok (.aload_n 0, 1) := by decide +kernel
theorem dX8_costBehind_141 : decode cX8_costBehind 141 = .ok (.getfield 29, 3) := by decide +kernel
theorem dX8_costBehind_144 : decode cX8_costBehind 144 = .ok (.iload_n 1, 1) := by decide +kernel
theorem dX8_costBehind_145 : decode cX8_costBehind 145 = .ok (.iaload, 1) := by decide +kernel
theorem dX8_costBehind_146 : decode cX8_costBehind 146 = .ok (.goto 10, 3) := by decide +kernel
theorem dX8_costBehind_149 : decode cX8_costBehind 149 = .ok (.aload_n 0, 1) := by decide +kernel
theorem dX8_costBehind_150 : decode cX8_costBehind 150 = .ok (.getfield 29, 3) := by decide +kernel
theorem dX8_costBehind_153 : decode cX8_costBehind 153 = .ok (.iload 7, 2) := by decide +kernel
theorem dX8_costBehind_155 : decode cX8_costBehind 155 = .ok (.iaload, 1) := by decide +kernel
theorem dX8_costBehind_156 : decode cX8_costBehind 156 = .ok (.iastore, 1) := by decide +kernel
theorem dX8_costBehind_157 : decode cX8_costBehind 157 = .ok (.iinc 7 1, 3) := by decide +kernel
theorem dX8_costBehind_160 : decode cX8_costBehind 160 = .ok (.goto (-51), 3) := by decide +kernel
theorem dX8_costBehind_163 : decode cX8_costBehind 163 = .ok (.aload_n 0, 1) := by decide +kernel
theorem dX8_costBehind_164 : decode cX8_costBehind 164 = .ok (.aload_n 0, 1) := by decide +kernel
theorem dX8_costBehind_165 : decode cX8_costBehind 165 = .ok (.getfield 41, 3) := by decide +kernel
theorem dX8_costBehind_168 : decode cX8_costBehind 168 = .ok (.invokevirtual 113, 3) := by decide +kernel
theorem dX8_costBehind_171 : decode cX8_costBehind 171 = .ok (.ireturn, 1) := by decide +kernel
theorem dX8_search_0 : decode cX8_search 0 = .ok (.aload_n 0, 1) := by decide +kernel
theorem dX8_search_1 : decode cX8_search 1 = .ok (.iload_n 1, 1) := by decide +kernel
theorem dX8_search_2 : decode cX8_search 2 = .ok (.iconst 1, 1) := by decide +kernel
theorem dX8_search_3 : decode cX8_search 3 = .ok (.bipush 40, 2) := by decide +kernel
theorem dX8_search_5 : decode cX8_search 5 = .ok (.invokestatic 54, 3) := by decide +kernel
theorem dX8_search_8 : decode cX8_search 8 = .ok (.ifCond .eq 16, 3) := by decide +kernel
theorem dX8_search_11 : decode cX8_search 11 = .ok (.iload_n 2, 1) := by decide +kernel
theorem dX8_search_12 : decode cX8_search 12 = .ok (.iconst 0, 1) := by decide +kernel
theorem dX8_search_13 : decode cX8_search 13 = .ok (.iconst 5, 1) := by decide +kernel
theorem dX8_search_14 : decode cX8_search 14 = .ok (.invokestatic 54, 3) := by decide +kernel
theorem dX8_search_17 : decode cX8_search 17 = .ok (.ifCond .eq 7, 3) := by decide +kernel
theorem dX8_search_20 : decode cX8_search 20 = .ok (.iconst 1, 1) := by decide +kernel
theorem dX8_search_21 : decode cX8_search 21 = .ok (.goto 4, 3) := by decide +kernel
theorem dX8_search_24 : decode cX8_search 24 = .ok (.iconst 0, 1) := by decide +kernel
theorem dX8_search_25 : decode cX8_search 25 = .ok (.aload_n 0, 1) := by decide +kernel
theorem dX8_search_26 : decode cX8_search 26 = .ok (.invokevirtual 126, 3) := by decide +kernel
theorem dX8_search_29 : decode cX8_search 29 = .ok (.invokevirtual 76, 3) := by decide +kernel
theorem dX8_search_32 : decode cX8_search 32 = .ok (.ifCond .ne 5, 3) := by decide +kernel
theorem dX8_search_35 : decode cX8_search 35 = .ok (.iconst 0, 1) := by decide +kernel
theorem dX8_search_36 : decode cX8_search 36 = .ok (.ireturn, 1) := by decide +kernel
theorem dX8_search_37 : decode cX8_search 37 = .ok (.aload_n 0, 1) := by decide +kernel
theorem dX8_search_38 : decode cX8_search 38 = .ok (.invokevirtual 110, 3) := by decide +kernel
theorem dX8_search_41 : decode cX8_search 41 = .ok (.aload_n 0, 1) := by decide +kernel
theorem dX8_search_42 : decode cX8_search 42 = .ok (.aload_n 0, 1) := by decide +kernel
theorem dX8_search_43 : decode cX8_search 43 = .ok (.getfield 29, 3) := by decide +kernel
theorem dX8_search_46 : decode cX8_search 46 = .ok (.invokevirtual 113, 3) := by decide +kernel
theorem dX8_search_49 : decode cX8_search 49 = .ok (.istore_n 3, 1) := by decide +kernel
theorem dX8_search_50 : decode cX8_search 50 = .ok (.iconst 0, 1) := by decide +kernel
theorem dX8_search_51 : decode cX8_search 51 = .ok (.istore 4, 2) := by decide +kernel
theorem dX8_search_53 : decode cX8_search 53 = .ok (.iload 4, 2) := by decide +kernel
theorem dX8_search_55 : decode cX8_search 55 = .ok (.aload_n 0, 1) := by decide +kernel
theorem dX8_search_56 : decode cX8_search 56 = .ok (.getfield 61, 3) := by decide +kernel
theorem dX8_search_59 : decode cX8_search 59 = .ok (.if_icmp .ge 32, 3) := by decide +kernel
theorem dX8_search_62 : decode cX8_search 62 = .ok (.aload_n 0, 1) := by decide +kernel
theorem dX8_search_63 : decode cX8_search 63 = .ok (.getfield 44, 3) := by decide +kernel
theorem dX8_search_66 : decode cX8_search 66 = .ok (.iload 4, 2) := by decide +kernel
theorem dX8_search_68 : decode cX8_search 68 = .ok (.aload_n 0, 1) := by decide +kernel
theorem dX8_search_69 : decode cX8_search 69 = .ok (.getfield 29, 3) := by decide +kernel
theorem dX8_search_72 : decode cX8_search 72 = .ok (.iload 4, 2) := by decide +kernel
theorem dX8_search_74 : decode cX8_search 74 = .ok (.iaload, 1) := by decide +kernel
theorem dX8_search_75 : decode cX8_search 75 = .ok (.iastore, 1) := by decide +kernel
theorem dX8_search_76 : decode cX8_search 76 = .ok (.aload_n 0, 1) := by decide +kernel
theorem dX8_search_77 : decode cX8_search 77 = .ok (.getfield 47, 3) := by decide +kernel
theorem dX8_search_80 : decode cX8_search 80 = .ok (.iload 4, 2) := by decide +kernel
theorem dX8_search_82 : decode cX8_search 82 = .ok (.bipush (-10), 2) := by decide +kernel
theorem dX8_search_84 : decode cX8_search 84 = .ok (.iastore, 1) := by decide +kernel
theorem dX8_search_85 : decode cX8_search 85 = .ok (.iinc 4 1, 3) := by decide +kernel
theorem dX8_search_88 : decode cX8_search 88 = .ok (.goto (-35), 3) := by decide +kernel
theorem dX8_search_91 : decode cX8_search 91 = .ok (.iconst 1, 1) := by decide +kernel
theorem dX8_search_92 : decode cX8_search 92 = .ok (.istore 4, 2) := by decide +kernel
theorem dX8_search_94 : decode cX8_search 94 = .ok (.iconst 1, 1) := by decide +kernel
theorem dX8_search_95 : decode cX8_search 95 = .ok (.istore 5, 2) := by decide +kernel
theorem dX8_search_97 : decode cX8_search 97 = .ok (.iload 5, 2) := by decide +kernel
theorem dX8_search_99 : decode cX8_search 99 = .ok (.iload_n 1, 1) := by decide +kernel
theorem dX8_search_100 : decode cX8_search 100 = .ok (.if_icmp .gt 329, 3) := by decide +kernel
theorem dX8_search_103 : decode cX8_search 103 = .ok (.iload 4, 2) := by decide +kernel
theorem dX8_search_105 : decode cX8_search 105 = .ok (.ifCond .eq 324, 3) := by decide +kernel
theorem dX8_search_108 : decode cX8_search 108 = .ok (.iconst (-1), 1) := by decide +kernel
theorem dX8_search_109 : decode cX8_search 109 = .ok (.istore 6, 2) := by decide +kernel
theorem dX8_search_111 : decode cX8_search 111 = .ok (.iconst (-1), 1) := by decide +kernel
theorem dX8_search_112 : decode cX8_search 112 = .ok (.istore 7, 2) := by decide +kernel
theorem dX8_search_114 : decode cX8_search 114 = .ok (.iconst (-1), 1) := by decide +kernel
theorem dX8_search_115 : decode cX8_search 115 = .ok (.istore 8, 2) := by decide +kernel
theorem dX8_search_117 : decode cX8_search 117 = .ok (.iconst (-1), 1) := by decide +kernel
theorem dX8_search_118 : decode cX8_search 118 = .ok (.istore 9, 2) := by decide +kernel
theorem dX8_search_120 : decode cX8_search 120 = .ok (.iconst 0, 1) := by decide +kernel
theorem dX8_search_121 : decode cX8_search 121 = .ok (.istore 10, 2) := by decide +kernel
theorem dX8_search_123 : decode cX8_search 123 = .ok (.iload 10, 2) := by decide +kernel
theorem dX8_search_125 : decode cX8_search 125 = .ok (.aload_n 0, 1) := by decide +kernel
theorem dX8_search_126 : decode cX8_search 126 = .ok (.getfield 61, 3) := by decide +kernel
theorem dX8_search_129 : decode cX8_search 129 = .ok (.if_icmp .ge 90, 3) := by decide +kernel
theorem dX8_search_132 : decode cX8_search 132 = .ok (.iload 10, 2) := by decide +kernel
theorem dX8_search_134 : decode cX8_search 134 = .ok (.iconst 1, 1) := by decide +kernel
theorem dX8_search_135 : decode cX8_search 135 = .ok (.iadd, 1) := by decide +kernel
theorem dX8_search_136 : decode cX8_search 136 = .ok (.istore 11, 2) := by decide +kernel
theorem dX8_search_138 : decode cX8_search 138 = .ok (.iload 11, 2) := by decide +kernel
theorem dX8_search_140 : decode cX8_search 140 = .ok (.aload_n 0, 1) := by decide +kernel
theorem dX8_search_141 : decode cX8_search 141 = .ok (.getfield 61, 3) := by decide +kernel
theorem dX8_search_144 : decode cX8_search 144 = .ok (.if_icmp .ge 69, 3) := by decide +kernel
theorem dX8_search_147 : decode cX8_search 147 = .ok (.aload_n 0, 1) := by decide +kernel
theorem dX8_search_148 : decode cX8_search 148 = .ok (.iload 10, 2) := by decide +kernel
theorem dX8_search_150 : decode cX8_search 150 = .ok (.iload 11, 2) := by decide +kernel
theorem dX8_search_152 : decode cX8_search 152 = .ok (.aload_n 0, 1) := by decide +kernel
theorem dX8_search_153 : decode cX8_search 153 = .ok (.getfield 29, 3) := by decide +kernel
theorem dX8_search_156 : decode cX8_search 156 = .ok (.iload 11, 2) := by decide +kernel
theorem dX8_search_158 : decode cX8_search 158 = .ok (.iaload, 1) := by decide +kernel
theorem dX8_search_159 : decode cX8_search 159 = .ok (.iload 5, 2) := by decide +kernel
theorem dX8_search_161 : decode cX8_search 161 = .ok (.iload_n 2, 1) := by decide +kernel
theorem dX8_search_162 : decode cX8_search 162 = .ok (.invokevirtual 130, 3) := by decide +kernel
theorem dX8_search_165 : decode cX8_search 165 = .ok (.istore 12, 2) := by decide +kernel
theorem dX8_search_167 : decode cX8_search 167 = .ok (.iload 12, 2) := by decide +kernel
theorem dX8_search_169 : decode cX8_search 169 = .ok (.iconst (-1), 1) := by decide +kernel
theorem dX8_search_170 : decode cX8_search 170 = .ok (.if_icmp .eq 37, 3) := by decide +kernel
theorem dX8_search_173 : decode cX8_search 173 = .ok (.iload 6, 2) := by decide +kernel
theorem dX8_search_175 : decode cX8_search 175 = .ok (.iconst (-1), 1) := by decide +kernel
theorem dX8_search_176 : decode cX8_search 176 = .ok (.if_icmp .eq 10, 3) := by decide +kernel
theorem dX8_search_179 : decode cX8_search 179 = .ok (.iload 12, 2) := by decide +kernel
theorem dX8_search_181 : decode cX8_search 181 = .ok (.iload 6, 2) := by decide +kernel
theorem dX8_search_183 : decode cX8_search 183 = .ok (.if_icmp .ge 24, 3) := by decide +kernel
theorem dX8_search_186 : decode cX8_search 186 = .ok (.iload 12, 2) := by decide +kernel
theorem dX8_search_188 : decode cX8_search 188 = .ok (.istore 6, 2) := by decide +kernel
theorem dX8_search_190 : decode cX8_search 190 = .ok (.iload 10, 2) := by decide +kernel
theorem dX8_search_192 : decode cX8_search 192 = .ok (.istore 7, 2) := by decide +kernel
theorem dX8_search_194 : decode cX8_search 194 = .ok (.iload 11, 2) := by decide +kernel
theorem dX8_search_196 : decode cX8_search 196 = .ok (.istore 8, 2) := by decide +kernel
theorem dX8_search_198 : decode cX8_search 198 = .ok (.aload_n 0, 1) := by decide +kernel
theorem dX8_search_199 : decode cX8_search 199 = .ok (.getfield 29, 3) := by decide +kernel
theorem dX8_search_202 : decode cX8_search 202 = .ok (.iload 11, 2) := by decide +kernel
theorem dX8_search_204 : decode cX8_search 204 = .ok (.iaload, 1) := by decide +kernel
theorem dX8_search_205 : decode cX8_search 205 = .ok (.istore 9, 2) := by decide +kernel
theorem dX8_search_207 : decode cX8_search 207 = .ok (.iinc 11 1, 3) := by decide +kernel
theorem dX8_search_210 : decode cX8_search 210 = .ok (.goto (-72), 3) := by decide +kernel
theorem dX8_search_213 : decode cX8_search 213 = .ok (.iinc 10 1, 3) := by decide +kernel
theorem dX8_search_216 : decode cX8_search 216 = .ok (.goto (-93), 3) := by decide +kernel
theorem dX8_search_219 : decode cX8_search 219 = .ok (.iconst 0, 1) := by decide +kernel
theorem dX8_search_220 : decode cX8_search 220 = .ok (.istore 10, 2) := by decide +kernel
theorem dX8_search_222 : decode cX8_search 222 = .ok (.iload 10, 2) := by decide +kernel
theorem dX8_search_224 : decode cX8_search 224 = .ok (.aload_n 0, 1) := by decide +kernel
theorem dX8_search_225 : decode cX8_search 225 = .ok (.getfield 61, 3) := by decide +kernel
theorem dX8_search_228 : decode cX8_search 228 = .ok (.if_icmp .ge 75, 3) := by decide +kernel
theorem dX8_search_231 : decode cX8_search 231 = .ok (.iconst 0, 1) := by decide +kernel
theorem dX8_search_232 : decode cX8_search 232 = .ok (.istore 11, 2) := by decide +kernel
theorem dX8_search_234 : decode cX8_search 234 = .ok (.iload 11, 2) := by decide +kernel
theorem dX8_search_236 : decode cX8_search 236 = .ok (.aload_n 0, 1) := by decide +kernel
theorem dX8_search_237 : decode cX8_search 237 = .ok (.getfield 58, 3) := by decide +kernel
theorem dX8_search_240 : decode cX8_search 240 = .ok (.if_icmp .ge 57, 3) := by decide +kernel
theorem dX8_search_243 : decode cX8_search 243 = .ok (.aload_n 0, 1) := by decide +kernel
theorem dX8_search_244 : decode cX8_search 244 = .ok (.iload 10, 2) := by decide +kernel
theorem dX8_search_246 : decode cX8_search 246 = .ok (.iconst (-1), 1) := by decide +kernel
theorem dX8_search_247 : decode cX8_search 247 = .ok (.iload 11, 2) := by decide +kernel
theorem dX8_search_249 : decode cX8_search 249 = .ok (.iload 5, 2) := by decide +kernel
theorem dX8_search_251 : decode cX8_search 251 = .ok (.iload_n 2, 1) := by decide +kernel
theorem dX8_search_252 : decode cX8_search 252 = .ok (.invokevirtual 130, 3) := by decide +kernel
theorem dX8_search_255 : decode cX8_search 255 = .ok (.istore 12, 2) := by decide +kernel
theorem dX8_search_257 : decode cX8_search 257 = .ok (.iload 12, 2) := by decide +kernel
theorem dX8_search_259 : decode cX8_search 259 = .ok (.iconst (-1), 1) := by decide +kernel
theorem dX8_search_260 : decode cX8_search 260 = .ok (.if_icmp .eq 31, 3) := by decide +kernel
theorem dX8_search_263 : decode cX8_search 263 = .ok (.iload 6, 2) := by decide +kernel
theorem dX8_search_265 : decode cX8_search 265 = .ok (.iconst (-1), 1) := by decide +kernel
theorem dX8_search_266 : decode cX8_search 266 = .ok (.if_icmp .eq 10, 3) := by decide +kernel
theorem dX8_search_269 : decode cX8_search 269 = .ok (.iload 12, 2) := by decide +kernel
theorem dX8_search_271 : decode cX8_search 271 = .ok (.iload 6, 2) := by decide +kernel
theorem dX8_search_273 : decode cX8_search 273 = .ok (.if_icmp .ge 18, 3) := by decide +kernel
theorem dX8_search_276 : decode cX8_search 276 = .ok (.iload 12, 2) := by decide +kernel
theorem dX8_search_278 : decode cX8_search 278 = .ok (.istore 6, 2) := by decide +kernel
theorem dX8_search_280 : decode cX8_search 280 = .ok (.iload 10, 2) := by decide +kernel
theorem dX8_search_282 : decode cX8_search 282 = .ok (.istore 7, 2) := by decide +kernel
theorem dX8_search_284 : decode cX8_search 284 = .ok (.iconst (-1), 1) := by decide +kernel
theorem dX8_search_285 : decode cX8_search 285 = .ok (.istore 8, 2) := by decide +kernel
theorem dX8_search_287 : decode cX8_search 287 = .ok (.iload 11, 2) := by decide +kernel
theorem dX8_search_289 : decode cX8_search 289 = .ok (.istore 9, 2) := by decide +kernel
theorem dX8_search_291 : decode cX8_search 291 = .ok (.iinc 11 1, 3) := by decide +kernel
theorem dX8_search_294 : decode cX8_search 294 = .ok (.goto (-60), 3) := by decide +kernel
theorem dX8_search_297 : decode cX8_search 297 = .ok (.iinc 10 1, 3) := by decide +kernel
theorem dX8_search_300 : decode cX8_search 300 = .ok (.goto (-78), 3) := by decide +kernel
theorem dX8_search_303 : decode cX8_search 303 = .ok (.iload 6, 2) := by decide +kernel
theorem dX8_search_305 : decode cX8_search 305 = .ok (.iconst (-1), 1) := by decide +kernel
theorem dX8_search_306 : decode cX8_search 306 = .ok (.if_icmp .eq 7, 3) := by decide +kernel
theorem dX8_search_309 : decode cX8_search 309 = .ok (.iconst 1, 1) := by decide +kernel
theorem dX8_search_310 : decode cX8_search 310 = .ok (.goto 4, 3) := by decide +kernel
theorem dX8_search_313 : decode cX8_search 313 = .ok (.iconst 0, 1) := by decide +kernel
theorem dX8_search_314 : decode cX8_search 314 = .ok (.istore 4, 2) := by decide +kernel
theorem dX8_search_316 : decode cX8_search 316 = .ok (.iload 4, 2) := by decide +kernel
theorem dX8_search_318 : decode cX8_search 318 = .ok (.ifCond .eq 105, 3) := by decide +kernel
theorem dX8_search_321 : decode cX8_search 321 = .ok (.aload_n 0, 1) := by decide +kernel
theorem dX8_search_322 : decode cX8_search 322 = .ok (.getfield 29, 3) := by decide +kernel
theorem dX8_search_325 : decode cX8_search 325 = .ok (.iload 7, 2) := by decide +kernel
theorem dX8_search_327 : decode cX8_search 327 = .ok (.iaload, 1) := by decide +kernel
theorem dX8_search_328 : decode cX8_search 328 = .ok (.istore 10, 2) := by decide +kernel
theorem dX8_search_330 : decode cX8_search 330 = .ok (.aload_n 0, 1) := by decide +kernel
theorem dX8_search_331 : decode cX8_search 331 = .ok (.getfield 29, 3) := by decide +kernel
theorem dX8_search_334 : decode cX8_search 334 = .ok (.iload 7, 2) := by decide +kernel
theorem dX8_search_336 : decode cX8_search 336 = .ok (.iload 9, 2) := by decide +kernel
theorem dX8_search_338 : decode cX8_search 338 = .ok (.iastore, 1) := by decide +kernel
theorem dX8_search_339 : decode cX8_search 339 = .ok (.aload_n 0, 1) := by decide +kernel
theorem dX8_search_340 : decode cX8_search 340 = .ok (.getfield 47, 3) := by decide +kernel
theorem dX8_search_343 : decode cX8_search 343 = .ok (.iload 7, 2) := by decide +kernel
theorem dX8_search_345 : decode cX8_search 345 = .ok (.iload 5, 2) := by decide +kernel
end
section
theorem dX8_search_347 : decode cX8_search 347 = .ok (.iastore, 1) := by decide +kernel
theorem dX8_search_348 : decode cX8_search 348 = .ok (.iload 8, 2) := by decide +kernel
theorem dX8_search_350 : decode cX8_search 350 = .ok (.iconst (-1), 1) := by decide +kernel
theorem dX8_search_351 : decode cX8_search 351 = .ok (.if_icmp .eq 21, 3) := by decide +kernel
theorem dX8_search_354 : decode cX8_search 354 = .ok (.aload_n 0, 1) := by decide +kernel
theorem dX8_search_355 : decode cX8_search 355 = .ok (.getfield 29, 3) := by decide +kernel
theorem dX8_search_358 : decode cX8_search 358 = .ok (.iload 8, 2) := by decide +kernel
theorem dX8_search_360 : decode cX8_search 360 = .ok (.iload 10, 2) := by decide +kernel
theorem dX8_search_362 : decode cX8_search 362 = .ok (.iastore, 1) := by decide +kernel
theorem dX8_search_363 : decode cX8_search 363 = .ok (.aload_n 0, 1) := by decide +kernel
theorem dX8_search_364 : decode cX8_search 364 = .ok (.getfield 47, 3) := by decide +kernel
theorem dX8_search_367 : decode cX8_search 367 = .ok (.iload 8, 2) := by decide +kernel
theorem dX8_search_369 : decode cX8_search 369 = .ok (.iload 5, 2) := by decide +kernel
theorem dX8_search_371 : decode cX8_search 371 = .ok (.iastore, 1) := by decide +kernel
theorem dX8_search_372 : decode cX8_search 372 = .ok (.iconst 0, 1) := by decide +kernel
theorem dX8_search_373 : decode cX8_search 373 = .ok (.istore 11, 2) := by decide +kernel
theorem dX8_search_375 : decode cX8_search 375 = .ok (.iload 11, 2) := by decide +kernel
theorem dX8_search_377 : decode cX8_search 377 = .ok (.aload_n 0, 1) := by decide +kernel
theorem dX8_search_378 : decode cX8_search 378 = .ok (.getfield 61, 3) := by decide +kernel
theorem dX8_search_381 : decode cX8_search 381 = .ok (.if_icmp .ge 29, 3) := by decide +kernel
theorem dX8_search_384 : decode cX8_search 384 = .ok (.iload 6, 2) := by decide +kernel
theorem dX8_search_386 : decode cX8_search 386 = .ok (.iload_n 3, 1) := by decide +kernel
theorem dX8_search_387 : decode cX8_search 387 = .ok (.if_icmp .ge 23, 3) := by decide +kernel
theorem dX8_search_390 : decode cX8_search 390 = .ok (.aload_n 0, 1) := by decide +kernel
theorem dX8_search_391 : decode cX8_search 391 = .ok (.getfield 44, 3) := by decide +kernel
theorem dX8_search_394 : decode cX8_search 394 = .ok (.iload 11, 2) := by decide +kernel
theorem dX8_search_396 : decode cX8_search 396 = .ok (.aload_n 0, 1) := by decide +kernel
theorem dX8_search_397 : decode cX8_search 397 = .ok (.getfield 29, 3) := by decide +kernel
theorem dX8_search_400 : decode cX8_search 400 = .ok (.iload 11, 2) := by decide +kernel
theorem dX8_search_402 : decode cX8_search 402 = .ok (.iaload, 1) := by decide +kernel
theorem dX8_search_403 : decode cX8_search 403 = .ok (.iastore, 1) := by decide +kernel
theorem dX8_search_404 : decode cX8_search 404 = .ok (.iinc 11 1, 3) := by decide +kernel
theorem dX8_search_407 : decode cX8_search 407 = .ok (.goto (-32), 3) := by decide +kernel
theorem dX8_search_410 : decode cX8_search 410 = .ok (.iload 6, 2) := by decide +kernel
theorem dX8_search_412 : decode cX8_search 412 = .ok (.iload_n 3, 1) := by decide +kernel
theorem dX8_search_413 : decode cX8_search 413 = .ok (.if_icmp .ge 8, 3) := by decide +kernel
theorem dX8_search_416 : decode cX8_search 416 = .ok (.iload 6, 2) := by decide +kernel
theorem dX8_search_418 : decode cX8_search 418 = .ok (.goto 4, 3) := by decide +kernel
theorem dX8_search_421 : decode cX8_search 421 = .ok (.iload_n 3, 1) := by decide +kernel
theorem dX8_search_422 : decode cX8_search 422 = .ok (.istore_n 3, 1) := by decide +kernel
theorem dX8_search_423 : decode cX8_search 423 = .ok (.iinc 5 1, 3) := by decide +kernel
theorem dX8_search_426 : decode cX8_search 426 = .ok (.goto (-329), 3) := by decide +kernel
theorem dX8_search_429 : decode cX8_search 429 = .ok (.iconst 0, 1) := by decide +kernel
theorem dX8_search_430 : decode cX8_search 430 = .ok (.istore 5, 2) := by decide +kernel
theorem dX8_search_432 : decode cX8_search 432 = .ok (.iload 5, 2) := by decide +kernel
theorem dX8_search_434 : decode cX8_search 434 = .ok (.aload_n 0, 1) := by decide +kernel
theorem dX8_search_435 : decode cX8_search 435 = .ok (.getfield 61, 3) := by decide +kernel
theorem dX8_search_438 : decode cX8_search 438 = .ok (.if_icmp .ge 23, 3) := by decide +kernel
theorem dX8_search_441 : decode cX8_search 441 = .ok (.aload_n 0, 1) := by decide +kernel
theorem dX8_search_442 : decode cX8_search 442 = .ok (.getfield 29, 3) := by decide +kernel
theorem dX8_search_445 : decode cX8_search 445 = .ok (.iload 5, 2) := by decide +kernel
theorem dX8_search_447 : decode cX8_search 447 = .ok (.aload_n 0, 1) := by decide +kernel
theorem dX8_search_448 : decode cX8_search 448 = .ok (.getfield 44, 3) := by decide +kernel
theorem dX8_search_451 : decode cX8_search 451 = .ok (.iload 5, 2) := by decide +kernel
theorem dX8_search_453 : decode cX8_search 453 = .ok (.iaload, 1) := by decide +kernel
theorem dX8_search_454 : decode cX8_search 454 = .ok (.iastore, 1) := by decide +kernel
theorem dX8_search_455 : decode cX8_search 455 = .ok (.iinc 5 1, 3) := by decide +kernel
theorem dX8_search_458 : decode cX8_search 458 = .ok (.goto (-26), 3) := by decide +kernel
theorem dX8_search_461 : decode cX8_search 461 = .ok (.iload_n 3, 1) := by decide +kernel
theorem dX8_search_462 : decode cX8_search 462 = .ok (.ireturn, 1) := by decide +kernel
theorem dX8_remember_0 : decode cX8_remember 0 = .ok (.iconst 0, 1) := by decide +kernel
theorem dX8_remember_1 : decode cX8_remember 1 = .ok (.istore_n 1, 1) := by decide +kernel
theorem dX8_remember_2 : decode cX8_remember 2 = .ok (.iconst 0, 1) := by decide +kernel
theorem dX8_remember_3 : decode cX8_remember 3 = .ok (.istore_n 2, 1) := by decide +kernel
theorem dX8_remember_4 : decode cX8_remember 4 = .ok (.iload_n 2, 1) := by decide +kernel
theorem dX8_remember_5 : decode cX8_remember 5 = .ok (.aload_n 0, 1) := by decide +kernel
theorem dX8_remember_6 : decode cX8_remember 6 = .ok (.getfield 61, 3) := by decide +kernel
theorem dX8_remember_9 : decode cX8_remember 9 = .ok (.if_icmp .ge 39, 3) := by decide +kernel
theorem dX8_remember_12 : decode cX8_remember 12 = .ok (.aload_n 0, 1) := by decide +kernel
theorem dX8_remember_13 : decode cX8_remember 13 = .ok (.getfield 32, 3) := by decide +kernel
theorem dX8_remember_16 : decode cX8_remember 16 = .ok (.iload_n 2, 1) := by decide +kernel
theorem dX8_remember_17 : decode cX8_remember 17 = .ok (.aload_n 0, 1) := by decide +kernel
theorem dX8_remember_18 : decode cX8_remember 18 = .ok (.getfield 29, 3) := by decide +kernel
theorem dX8_remember_21 : decode cX8_remember 21 = .ok (.iload_n 2, 1) := by decide +kernel
theorem dX8_remember_22 : decode cX8_remember 22 = .ok (.iaload, 1) := by decide +kernel
theorem dX8_remember_23 : decode cX8_remember 23 = .ok (.iastore, 1) := by decide +kernel
theorem dX8_remember_24 : decode cX8_remember 24 = .ok (.iload_n 1, 1) := by decide +kernel
theorem dX8_remember_25 : decode cX8_remember 25 = .ok (.aload_n 0, 1) := by decide +kernel
theorem dX8_remember_26 : decode cX8_remember 26 = .ok (.getfield 29, 3) := by decide +kernel
theorem dX8_remember_29 : decode cX8_remember 29 = .ok (.iload_n 2, 1) := by decide +kernel
theorem dX8_remember_30 : decode cX8_remember 30 = .ok (.iaload, 1) := by decide +kernel
theorem dX8_remember_31 : decode cX8_remember 31 = .ok (.iconst (-1), 1) := by decide +kernel
theorem dX8_remember_32 : decode cX8_remember 32 = .ok (.if_icmp .ne 7, 3) := by decide +kernel
theorem dX8_remember_35 : decode cX8_remember 35 = .ok (.iconst 0, 1) := by decide +kernel
theorem dX8_remember_36 : decode cX8_remember 36 = .ok (.goto 4, 3) := by decide +kernel
theorem dX8_remember_39 : decode cX8_remember 39 = .ok (.iconst 1, 1) := by decide +kernel
theorem dX8_remember_40 : decode cX8_remember 40 = .ok (.iadd, 1) := by decide +kernel
theorem dX8_remember_41 : decode cX8_remember 41 = .ok (.istore_n 1, 1) := by decide +kernel
theorem dX8_remember_42 : decode cX8_remember 42 = .ok (.iinc 2 1, 3) := by decide +kernel
theorem dX8_remember_45 : decode cX8_remember 45 = .ok (.goto (-41), 3) := by decide +kernel
theorem dX8_remember_48 : decode cX8_remember 48 = .ok (.aload_n 0, 1) := by decide +kernel
theorem dX8_remember_49 : decode cX8_remember 49 = .ok (.iload_n 1, 1) := by decide +kernel
theorem dX8_remember_50 : decode cX8_remember 50 = .ok (.invokevirtual 134, 3) := by decide +kernel
theorem dX8_remember_53 : decode cX8_remember 53 = .ok (.ireturn, 1) := by decide +kernel
theorem dX8_recall_0 : decode cX8_recall 0 = .ok (.iconst 1, 1) := by decide +kernel
theorem dX8_recall_1 : decode cX8_recall 1 = .ok (.istore_n 1, 1) := by decide +kernel
theorem dX8_recall_2 : decode cX8_recall 2 = .ok (.iconst 0, 1) := by decide +kernel
theorem dX8_recall_3 : decode cX8_recall 3 = .ok (.istore_n 2, 1) := by decide +kernel
theorem dX8_recall_4 : decode cX8_recall 4 = .ok (.iload_n 2, 1) := by decide +kernel
theorem dX8_recall_5 : decode cX8_recall 5 = .ok (.aload_n 0, 1) := by decide +kernel
theorem dX8_recall_6 : decode cX8_recall 6 = .ok (.getfield 61, 3) := by decide +kernel
theorem dX8_recall_9 : decode cX8_recall 9 = .ok (.if_icmp .ge 43, 3) := by decide +kernel
theorem dX8_recall_12 : decode cX8_recall 12 = .ok (.iload_n 1, 1) := by decide +kernel
theorem dX8_recall_13 : decode cX8_recall 13 = .ok (.ifCond .eq 31, 3) := by decide +kernel
theorem dX8_recall_16 : decode cX8_recall 16 = .ok (.aload_n 0, 1) := by decide +kernel
theorem dX8_recall_17 : decode cX8_recall 17 = .ok (.getfield 32, 3) := by decide +kernel
theorem dX8_recall_20 : decode cX8_recall 20 = .ok (.iload_n 2, 1) := by decide +kernel
theorem dX8_recall_21 : decode cX8_recall 21 = .ok (.iaload, 1) := by decide +kernel
theorem dX8_recall_22 : decode cX8_recall 22 = .ok (.iconst (-1), 1) := by decide +kernel
theorem dX8_recall_23 : decode cX8_recall 23 = .ok (.if_icmp .eq 17, 3) := by decide +kernel
theorem dX8_recall_26 : decode cX8_recall 26 = .ok (.aload_n 0, 1) := by decide +kernel
theorem dX8_recall_27 : decode cX8_recall 27 = .ok (.iload_n 2, 1) := by decide +kernel
theorem dX8_recall_28 : decode cX8_recall 28 = .ok (.aload_n 0, 1) := by decide +kernel
theorem dX8_recall_29 : decode cX8_recall 29 = .ok (.getfield 32, 3) := by decide +kernel
theorem dX8_recall_32 : decode cX8_recall 32 = .ok (.iload_n 2, 1) := by decide +kernel
theorem dX8_recall_33 : decode cX8_recall 33 = .ok (.iaload, 1) := by decide +kernel
theorem dX8_recall_34 : decode cX8_recall 34 = .ok (.invokevirtual 107, 3) := by decide +kernel
theorem dX8_recall_37 : decode cX8_recall 37 = .ok (.ifCond .eq 7, 3) := by decide +kernel
theorem dX8_recall_40 : decode cX8_recall 40 = .ok (.iconst 1, 1) := by decide +kernel
theorem dX8_recall_41 : decode cX8_recall 41 = .ok (.goto 4, 3) := by decide +kernel
theorem dX8_recall_44 : decode cX8_recall 44 = .ok (.iconst 0, 1) := by decide +kernel
theorem dX8_recall_45 : decode cX8_recall 45 = .ok (.istore_n 1, 1) := by decide +kernel
theorem dX8_recall_46 : decode cX8_recall 46 = .ok (.iinc 2 1, 3) := by decide +kernel
theorem dX8_recall_49 : decode cX8_recall 49 = .ok (.goto (-45), 3) := by decide +kernel
theorem dX8_recall_52 : decode cX8_recall 52 = .ok (.aload_n 0, 1) := by decide +kernel
theorem dX8_recall_53 : decode cX8_recall 53 = .ok (.iload_n 1, 1) := by decide +kernel
theorem dX8_recall_54 : decode cX8_recall 54 = .ok (.invokevirtual 89, 3) := by decide +kernel
theorem dX8_recall_57 : decode cX8_recall 57 = .ok (.ifCond .ne 5, 3) := by decide +kernel
theorem dX8_recall_60 : decode cX8_recall 60 = .ok (.iconst 0, 1) := by decide +kernel
theorem dX8_recall_61 : decode cX8_recall 61 = .ok (.ireturn, 1) := by decide +kernel
theorem dX8_recall_62 : decode cX8_recall 62 = .ok (.iconst 0, 1) := by decide +kernel
theorem dX8_recall_63 : decode cX8_recall 63 = .ok (.istore_n 2, 1) := by decide +kernel
theorem dX8_recall_64 : decode cX8_recall 64 = .ok (.iconst 0, 1) := by decide +kernel
theorem dX8_recall_65 : decode cX8_recall 65 = .ok (.istore_n 3, 1) := by decide +kernel
theorem dX8_recall_66 : decode cX8_recall 66 = .ok (.iload_n 3, 1) := by decide +kernel
theorem dX8_recall_67 : decode cX8_recall 67 = .ok (.aload_n 0, 1) := by decide +kernel
theorem dX8_recall_68 : decode cX8_recall 68 = .ok (.getfield 61, 3) := by decide +kernel
theorem dX8_recall_71 : decode cX8_recall 71 = .ok (.if_icmp .ge 44, 3) := by decide +kernel
theorem dX8_recall_74 : decode cX8_recall 74 = .ok (.iload_n 2, 1) := by decide +kernel
theorem dX8_recall_75 : decode cX8_recall 75 = .ok (.aload_n 0, 1) := by decide +kernel
theorem dX8_recall_76 : decode cX8_recall 76 = .ok (.getfield 29, 3) := by decide +kernel
theorem dX8_recall_79 : decode cX8_recall 79 = .ok (.iload_n 3, 1) := by decide +kernel
theorem dX8_recall_80 : decode cX8_recall 80 = .ok (.iaload, 1) := by decide +kernel
theorem dX8_recall_81 : decode cX8_recall 81 = .ok (.aload_n 0, 1) := by decide +kernel
theorem dX8_recall_82 : decode cX8_recall 82 = .ok (.getfield 32, 3) := by decide +kernel
theorem dX8_recall_85 : decode cX8_recall 85 = .ok (.iload_n 3, 1) := by decide +kernel
theorem dX8_recall_86 : decode cX8_recall 86 = .ok (.iaload, 1) := by decide +kernel
theorem dX8_recall_87 : decode cX8_recall 87 = .ok (.if_icmp .ne 7, 3) := by decide +kernel
theorem dX8_recall_90 : decode cX8_recall 90 = .ok (.iconst 0, 1) := by decide +kernel
theorem dX8_recall_91 : decode cX8_recall 91 = .ok (.goto 4, 3) := by decide +kernel
theorem dX8_recall_94 : decode cX8_recall 94 = .ok (.iconst 1, 1) := by decide +kernel
theorem dX8_recall_95 : decode cX8_recall 95 = .ok (.iadd, 1) := by decide +kernel
theorem dX8_recall_96 : decode cX8_recall 96 = .ok (.istore_n 2, 1) := by decide +kernel
theorem dX8_recall_97 : decode cX8_recall 97 = .ok (.aload_n 0, 1) := by decide +kernel
theorem dX8_recall_98 : decode cX8_recall 98 = .ok (.getfield 29, 3) := by decide +kernel
theorem dX8_recall_101 : decode cX8_recall 101 = .ok (.iload_n 3, 1) := by decide +kernel
theorem dX8_recall_102 : decode cX8_recall 102 = .ok (.aload_n 0, 1) := by decide +kernel
theorem dX8_recall_103 : decode cX8_recall 103 = .ok (.getfield 32, 3) := by decide +kernel
theorem dX8_recall_106 : decode cX8_recall 106 = .ok (.iload_n 3, 1) := by decide +kernel
theorem dX8_recall_107 : decode cX8_recall 107 = .ok (.iaload, 1) := by decide +kernel
theorem dX8_recall_108 : decode cX8_recall 108 = .ok (.iastore, 1) := by decide +kernel
theorem dX8_recall_109 : decode cX8_recall 109 = .ok (.iinc 3 1, 3) := by decide +kernel
theorem dX8_recall_112 : decode cX8_recall 112 = .ok (.goto (-46), 3) := by decide +kernel
theorem dX8_recall_115 : decode cX8_recall 115 = .ok (.iload_n 2, 1) := by decide +kernel
theorem dX8_recall_116 : decode cX8_recall 116 = .ok (.ireturn, 1) := by decide +kernel
theorem dX8_zones_0 : decode cX8_zones 0 = .ok (.aload_n 0, 1) := by decide +kernel
theorem dX8_zones_1 : decode cX8_zones 1 = .ok (.aload_n 0, 1) := by decide +kernel
theorem dX8_zones_2 : decode cX8_zones 2 = .ok (.getfield 58, 3) := by decide +kernel
theorem dX8_zones_5 : decode cX8_zones 5 = .ok (.invokevirtual 134, 3) := by decide +kernel
theorem dX8_zones_8 : decode cX8_zones 8 = .ok (.ireturn, 1) := by decide +kernel
theorem dX8_teams_0 : decode cX8_teams 0 = .ok (.aload_n 0, 1) := by decide +kernel
theorem dX8_teams_1 : decode cX8_teams 1 = .ok (.aload_n 0, 1) := by decide +kernel
theorem dX8_teams_2 : decode cX8_teams 2 = .ok (.getfield 61, 3) := by decide +kernel
theorem dX8_teams_5 : decode cX8_teams 5 = .ok (.invokevirtual 134, 3) := by decide +kernel
theorem dX8_teams_8 : decode cX8_teams 8 = .ok (.ireturn, 1) := by decide +kernel
theorem dX8_need_0 : decode cX8_need 0 = .ok (.aload_n 0, 1) := by decide +kernel
theorem dX8_need_1 : decode cX8_need 1 = .ok (.aload_n 0, 1) := by decide +kernel
theorem dX8_need_2 : decode cX8_need 2 = .ok (.iload_n 1, 1) := by decide +kernel
theorem dX8_need_3 : decode cX8_need 3 = .ok (.invokevirtual 92, 3) := by decide +kernel
theorem dX8_need_6 : decode cX8_need 6 = .ok (.invokevirtual 89, 3) := by decide +kernel
theorem dX8_need_9 : decode cX8_need 9 = .ok (.ifCond .eq 11, 3) := by decide +kernel
theorem dX8_need_12 : decode cX8_need 12 = .ok (.aload_n 0, 1) := by decide +kernel
theorem dX8_need_13 : decode cX8_need 13 = .ok (.iload_n 1, 1) := by decide +kernel
theorem dX8_need_14 : decode cX8_need 14 = .ok (.invokevirtual 64, 3) := by decide +kernel
theorem dX8_need_17 : decode cX8_need 17 = .ok (.goto 4, 3) := by decide +kernel
theorem dX8_need_20 : decode cX8_need 20 = .ok (.iconst 0, 1) := by decide +kernel
theorem dX8_need_21 : decode cX8_need 21 = .ok (.ireturn, 1) := by decide +kernel
theorem dX8_share_0 : decode cX8_share 0 = .ok (.aload_n 0, 1) := by decide +kernel
theorem dX8_share_1 : decode cX8_share 1 = .ok (.aload_n 0, 1) := by decide +kernel
theorem dX8_share_2 : decode cX8_share 2 = .ok (.iload_n 1, 1) := by decide +kernel
theorem dX8_share_3 : decode cX8_share 3 = .ok (.invokevirtual 92, 3) := by decide +kernel
theorem dX8_share_6 : decode cX8_share 6 = .ok (.invokevirtual 89, 3) := by decide +kernel
theorem dX8_share_9 : decode cX8_share 9 = .ok (.ifCond .ne 5, 3) := by decide +kernel
theorem dX8_share_12 : decode cX8_share 12 = .ok (.iconst 0, 1) := by decide +kernel
theorem dX8_share_13 : decode cX8_share 13 = .ok (.ireturn, 1) := by decide +kernel
theorem dX8_share_14 : decode cX8_share 14 = .ok (.iconst 0, 1) := by decide +kernel
theorem dX8_share_15 : decode cX8_share 15 = .ok (.istore_n 2, 1) := by decide +kernel
theorem dX8_share_16 : decode cX8_share 16 = .ok (.iconst 0, 1) := by decide +kernel
theorem dX8_share_17 : decode cX8_share 17 = .ok (.istore_n 3, 1) := by decide +kernel
theorem dX8_share_18 : decode cX8_share 18 = .ok (.iload_n 3, 1) := by decide +kernel
theorem dX8_share_19 : decode cX8_share 19 = .ok (.iconst 5, 1) := by decide +kernel
theorem dX8_share_20 : decode cX8_share 20 = .ok (.if_icmp .ge 22, 3) := by decide +kernel
theorem dX8_share_23 : decode cX8_share 23 = .ok (.iload_n 2, 1) := by decide +kernel
theorem dX8_share_24 : decode cX8_share 24 = .ok (.aload_n 0, 1) := by decide +kernel
theorem dX8_share_25 : decode cX8_share 25 = .ok (.getfield 20, 3) := by decide +kernel
theorem dX8_share_28 : decode cX8_share 28 = .ok (.iconst 5, 1) := by decide +kernel
theorem dX8_share_29 : decode cX8_share 29 = .ok (.iload_n 1, 1) := by decide +kernel
theorem dX8_share_30 : decode cX8_share 30 = .ok (.imul, 1) := by decide +kernel
theorem dX8_share_31 : decode cX8_share 31 = .ok (.iload_n 3, 1) := by decide +kernel
theorem dX8_share_32 : decode cX8_share 32 = .ok (.iadd, 1) := by decide +kernel
theorem dX8_share_33 : decode cX8_share 33 = .ok (.iaload, 1) := by decide +kernel
theorem dX8_share_34 : decode cX8_share 34 = .ok (.iadd, 1) := by decide +kernel
theorem dX8_share_35 : decode cX8_share 35 = .ok (.istore_n 2, 1) := by decide +kernel
theorem dX8_share_36 : decode cX8_share 36 = .ok (.iinc 3 1, 3) := by decide +kernel
theorem dX8_share_39 : decode cX8_share 39 = .ok (.goto (-21), 3) := by decide +kernel
theorem dX8_share_42 : decode cX8_share 42 = .ok (.aload_n 0, 1) := by decide +kernel
theorem dX8_share_43 : decode cX8_share 43 = .ok (.iload_n 1, 1) := by decide +kernel
theorem dX8_share_44 : decode cX8_share 44 = .ok (.invokevirtual 64, 3) := by decide +kernel
theorem dX8_share_47 : decode cX8_share 47 = .ok (.istore_n 3, 1) := by decide +kernel
theorem dX8_share_48 : decode cX8_share 48 = .ok (.iload_n 3, 1) := by decide +kernel
theorem dX8_share_49 : decode cX8_share 49 = .ok (.ifCond .ne 8, 3) := by decide +kernel
theorem dX8_share_52 : decode cX8_share 52 = .ok (.bipush 100, 2) := by decide +kernel
theorem dX8_share_54 : decode cX8_share 54 = .ok (.goto 11, 3) := by decide +kernel
theorem dX8_share_57 : decode cX8_share 57 = .ok (.bipush 100, 2) := by decide +kernel
theorem dX8_share_59 : decode cX8_share 59 = .ok (.iload_n 2, 1) := by decide +kernel
theorem dX8_share_60 : decode cX8_share 60 = .ok (.imul, 1) := by decide +kernel
theorem dX8_share_61 : decode cX8_share 61 = .ok (.iconst 5, 1) := by decide +kernel
theorem dX8_share_62 : decode cX8_share 62 = .ok (.iload_n 3, 1) := by decide +kernel
theorem dX8_share_63 : decode cX8_share 63 = .ok (.imul, 1) := by decide +kernel
theorem dX8_share_64 : decode cX8_share 64 = .ok (.idiv, 1) := by decide +kernel
theorem dX8_share_65 : decode cX8_share 65 = .ok (.ireturn, 1) := by decide +kernel
theorem dX8_zoneOf_0 : decode cX8_zoneOf 0 = .ok (.aload_n 0, 1) := by decide +kernel
theorem dX8_zoneOf_1 : decode cX8_zoneOf 1 = .ok (.aload_n 0, 1) := by decide +kernel
theorem dX8_zoneOf_2 : decode cX8_zoneOf 2 = .ok (.iload_n 1, 1) := by decide +kernel
theorem dX8_zoneOf_3 : decode cX8_zoneOf 3 = .ok (.invokevirtual 92, 3) := by decide +kernel
theorem dX8_zoneOf_6 : decode cX8_zoneOf 6 = .ok (.invokevirtual 89, 3) := by decide +kernel
theorem dX8_zoneOf_9 : decode cX8_zoneOf 9 = .ok (.ifCond .eq 12, 3) := by decide +kernel
theorem dX8_zoneOf_12 : decode cX8_zoneOf 12 = .ok (.aload_n 0, 1) := by decide +kernel
theorem dX8_zoneOf_13 : decode cX8_zoneOf 13 = .ok (.getfield 29, 3) := by decide +kernel
theorem dX8_zoneOf_16 : decode cX8_zoneOf 16 = .ok (.iload_n 1, 1) := by decide +kernel
theorem dX8_zoneOf_17 : decode cX8_zoneOf 17 = .ok (.iaload, 1) := by decide +kernel
theorem dX8_zoneOf_18 : decode cX8_zoneOf 18 = .ok (.goto 4, 3) := by decide +kernel
theorem dX8_zoneOf_21 : decode cX8_zoneOf 21 = .ok (.iconst 0, 1) := by decide +kernel
theorem dX8_zoneOf_22 : decode cX8_zoneOf 22 = .ok (.ireturn, 1) := by decide +kernel
theorem dX8_teamIn_0 : decode cX8_teamIn 0 = .ok (.aload_n 0, 1) := by decide +kernel
theorem dX8_teamIn_1 : decode cX8_teamIn 1 = .ok (.aload_n 0, 1) := by decide +kernel
theorem dX8_teamIn_2 : decode cX8_teamIn 2 = .ok (.iload_n 1, 1) := by decide +kernel
theorem dX8_teamIn_3 : decode cX8_teamIn 3 = .ok (.invokevirtual 83, 3) := by decide +kernel
theorem dX8_teamIn_6 : decode cX8_teamIn 6 = .ok (.invokevirtual 89, 3) := by decide +kernel
theorem dX8_teamIn_9 : decode cX8_teamIn 9 = .ok (.ifCond .eq 11, 3) := by decide +kernel
theorem dX8_teamIn_12 : decode cX8_teamIn 12 = .ok (.aload_n 0, 1) := by decide +kernel
theorem dX8_teamIn_13 : decode cX8_teamIn 13 = .ok (.iload_n 1, 1) := by decide +kernel
theorem dX8_teamIn_14 : decode cX8_teamIn 14 = .ok (.invokevirtual 86, 3) := by decide +kernel
theorem dX8_teamIn_17 : decode cX8_teamIn 17 = .ok (.goto 4, 3) := by decide +kernel
theorem dX8_teamIn_20 : decode cX8_teamIn 20 = .ok (.iconst 0, 1) := by decide +kernel
theorem dX8_teamIn_21 : decode cX8_teamIn 21 = .ok (.ireturn, 1) := by decide +kernel
theorem dX8_free_0 : decode cX8_free 0 = .ok (.aload_n 0, 1) := by decide +kernel
theorem dX8_free_1 : decode cX8_free 1 = .ok (.aload_n 0, 1) := by decide +kernel
theorem dX8_free_2 : decode cX8_free 2 = .ok (.iload_n 1, 1) := by decide +kernel
theorem dX8_free_3 : decode cX8_free 3 = .ok (.invokevirtual 83, 3) := by decide +kernel
theorem dX8_free_6 : decode cX8_free 6 = .ok (.ifCond .eq 16, 3) := by decide +kernel
theorem dX8_free_9 : decode cX8_free 9 = .ok (.iload_n 2, 1) := by decide +kernel
theorem dX8_free_10 : decode cX8_free 10 = .ok (.iconst 0, 1) := by decide +kernel
theorem dX8_free_11 : decode cX8_free 11 = .ok (.iconst 4, 1) := by decide +kernel
theorem dX8_free_12 : decode cX8_free 12 = .ok (.invokestatic 54, 3) := by decide +kernel
theorem dX8_free_15 : decode cX8_free 15 = .ok (.ifCond .eq 7, 3) := by decide +kernel
theorem dX8_free_18 : decode cX8_free 18 = .ok (.iconst 1, 1) := by decide +kernel
theorem dX8_free_19 : decode cX8_free 19 = .ok (.goto 4, 3) := by decide +kernel
theorem dX8_free_22 : decode cX8_free 22 = .ok (.iconst 0, 1) := by decide +kernel
theorem dX8_free_23 : decode cX8_free 23 = .ok (.invokevirtual 89, 3) := by decide +kernel
theorem dX8_free_26 : decode cX8_free 26 = .ok (.ifCond .ne 5, 3) := by decide +kernel
theorem dX8_free_29 : decode cX8_free 29 = .ok (.iconst 0, 1) := by decide +kernel
theorem dX8_free_30 : decode cX8_free 30 = .ok (.ireturn, 1) := by decide +kernel
theorem dX8_free_31 : decode cX8_free 31 = .ok (.aload_n 0, 1) := by decide +kernel
theorem dX8_free_32 : decode cX8_free 32 = .ok (.iload_n 1, 1) := by decide +kernel
theorem dX8_free_33 : decode cX8_free 33 = .ok (.invokevirtual 86, 3) := by decide +kernel
theorem dX8_free_36 : decode cX8_free 36 = .ok (.istore_n 3, 1) := by decide +kernel
theorem dX8_free_37 : decode cX8_free 37 = .ok (.aload_n 0, 1) := by decide +kernel
theorem dX8_free_38 : decode cX8_free 38 = .ok (.getfield 17, 3) := by decide +kernel
theorem dX8_free_41 : decode cX8_free 41 = .ok (.iload_n 1, 1) := by decide +kernel
theorem dX8_free_42 : decode cX8_free 42 = .ok (.iaload, 1) := by decide +kernel
theorem dX8_free_43 : decode cX8_free 43 = .ok (.iload_n 3, 1) := by decide +kernel
theorem dX8_free_44 : decode cX8_free 44 = .ok (.iconst (-1), 1) := by decide +kernel
theorem dX8_free_45 : decode cX8_free 45 = .ok (.if_icmp .ne 7, 3) := by decide +kernel
theorem dX8_free_48 : decode cX8_free 48 = .ok (.iconst 0, 1) := by decide +kernel
theorem dX8_free_49 : decode cX8_free 49 = .ok (.goto 13, 3) := by decide +kernel
theorem dX8_free_52 : decode cX8_free 52 = .ok (.aload_n 0, 1) := by decide +kernel
theorem dX8_free_53 : decode cX8_free 53 = .ok (.getfield 20, 3) := by decide +kernel
theorem dX8_free_56 : decode cX8_free 56 = .ok (.iconst 5, 1) := by decide +kernel
theorem dX8_free_57 : decode cX8_free 57 = .ok (.iload_n 3, 1) := by decide +kernel
theorem dX8_free_58 : decode cX8_free 58 = .ok (.imul, 1) := by decide +kernel
theorem dX8_free_59 : decode cX8_free 59 = .ok (.iload_n 2, 1) := by decide +kernel
theorem dX8_free_60 : decode cX8_free 60 = .ok (.iadd, 1) := by decide +kernel
theorem dX8_free_61 : decode cX8_free 61 = .ok (.iaload, 1) := by decide +kernel
theorem dX8_free_62 : decode cX8_free 62 = .ok (.isub, 1) := by decide +kernel
theorem dX8_free_63 : decode cX8_free 63 = .ok (.ireturn, 1) := by decide +kernel
theorem dX8_distance_0 : decode cX8_distance 0 = .ok (.aload_n 0, 1) := by decide +kernel
theorem dX8_distance_1 : decode cX8_distance 1 = .ok (.aload_n 0, 1) := by decide +kernel
theorem dX8_distance_2 : decode cX8_distance 2 = .ok (.iload_n 1, 1) := by decide +kernel
theorem dX8_distance_3 : decode cX8_distance 3 = .ok (.invokevirtual 83, 3) := by decide +kernel
theorem dX8_distance_6 : decode cX8_distance 6 = .ok (.ifCond .eq 15, 3) := by decide +kernel
theorem dX8_distance_9 : decode cX8_distance 9 = .ok (.aload_n 0, 1) := by decide +kernel
theorem dX8_distance_10 : decode cX8_distance 10 = .ok (.iload_n 2, 1) := by decide +kernel
theorem dX8_distance_11 : decode cX8_distance 11 = .ok (.invokevirtual 83, 3) := by decide +kernel
theorem dX8_distance_14 : decode cX8_distance 14 = .ok (.ifCond .eq 7, 3) := by decide +kernel
theorem dX8_distance_17 : decode cX8_distance 17 = .ok (.iconst 1, 1) := by decide +kernel
theorem dX8_distance_18 : decode cX8_distance 18 = .ok (.goto 4, 3) := by decide +kernel
theorem dX8_distance_21 : decode cX8_distance 21 = .ok (.iconst 0, 1) := by decide +kernel
theorem dX8_distance_22 : decode cX8_distance 22 = .ok (.invokevirtual 89, 3) := by decide +kernel
theorem dX8_distance_25 : decode cX8_distance 25 = .ok (.ifCond .ne 5, 3) := by decide +kernel
theorem dX8_distance_28 : decode cX8_distance 28 = .ok (.iconst 0, 1) := by decide +kernel
theorem dX8_distance_29 : decode cX8_distance 29 = .ok (.ireturn, 1) := by decide +kernel
theorem dX8_distance_30 : decode cX8_distance 30 = .ok (.aload_n 0, 1) := by decide +kernel
theorem dX8_distance_31 : decode cX8_distance 31 = .ok (.invokevirtual 110, 3) := by decide +kernel
theorem dX8_distance_34 : decode cX8_distance 34 = .ok (.aload_n 0, 1) := by decide +kernel
theorem dX8_distance_35 : decode cX8_distance 35 = .ok (.getfield 35, 3) := by decide +kernel
theorem dX8_distance_38 : decode cX8_distance 38 = .ok (.bipush 7, 2) := by decide +kernel
theorem dX8_distance_40 : decode cX8_distance 40 = .ok (.iload_n 1, 1) := by decide +kernel
theorem dX8_distance_41 : decode cX8_distance 41 = .ok (.imul, 1) := by decide +kernel
theorem dX8_distance_42 : decode cX8_distance 42 = .ok (.iload_n 2, 1) := by decide +kernel
theorem dX8_distance_43 : decode cX8_distance 43 = .ok (.iadd, 1) := by decide +kernel
theorem dX8_distance_44 : decode cX8_distance 44 = .ok (.iaload, 1) := by decide +kernel
theorem dX8_distance_45 : decode cX8_distance 45 = .ok (.ireturn, 1) := by decide +kernel
theorem dX8_wishCost_0 : decode cX8_wishCost 0 = .ok (.aload_n 0, 1) := by decide +kernel
theorem dX8_wishCost_1 : decode cX8_wishCost 1 = .ok (.aload_n 0, 1) := by decide +kernel
theorem dX8_wishCost_2 : decode cX8_wishCost 2 = .ok (.aload_n 0, 1) := by decide +kernel
theorem dX8_wishCost_3 : decode cX8_wishCost 3 = .ok (.getfield 29, 3) := by decide +kernel
theorem dX8_wishCost_6 : decode cX8_wishCost 6 = .ok (.invokevirtual 103, 3) := by decide +kernel
theorem dX8_wishCost_9 : decode cX8_wishCost 9 = .ok (.invokevirtual 134, 3) := by decide +kernel
theorem dX8_wishCost_12 : decode cX8_wishCost 12 = .ok (.ireturn, 1) := by decide +kernel
theorem dX8_cost_0 : decode cX8_cost 0 = .ok (.aload_n 0, 1) := by decide +kernel
theorem dX8_cost_1 : decode cX8_cost 1 = .ok (.invokevirtual 110, 3) := by decide +kernel
theorem dX8_cost_4 : decode cX8_cost 4 = .ok (.aload_n 0, 1) := by decide +kernel
theorem dX8_cost_5 : decode cX8_cost 5 = .ok (.aload_n 0, 1) := by decide +kernel
theorem dX8_cost_6 : decode cX8_cost 6 = .ok (.aload_n 0, 1) := by decide +kernel
theorem dX8_cost_7 : decode cX8_cost 7 = .ok (.getfield 29, 3) := by decide +kernel
theorem dX8_cost_10 : decode cX8_cost 10 = .ok (.invokevirtual 113, 3) := by decide +kernel
theorem dX8_cost_13 : decode cX8_cost 13 = .ok (.invokevirtual 134, 3) := by decide +kernel
theorem dX8_cost_16 : decode cX8_cost 16 = .ok (.ireturn, 1) := by decide +kernel
theorem dX8_leastWishCost_0 : decode cX8_leastWishCost 0 = .ok (.aload_n 0, 1) := by decide +kernel
theorem dX8_leastWishCost_1 : decode cX8_leastWishCost 1 = .ok (.aload_n 0, 1) := by decide +kernel
theorem dX8_leastWishCost_2 : decode cX8_leastWishCost 2 = .ok (.iconst 0, 1) := by decide +kernel
theorem dX8_leastWishCost_3 : decode cX8_leastWishCost 3 = .ok (.invokevirtual 119, 3) := by decide +kernel
theorem dX8_leastWishCost_6 : decode cX8_leastWishCost 6 = .ok (.invokevirtual 134, 3) := by decide +kernel
theorem dX8_leastWishCost_9 : decode cX8_leastWishCost 9 = .ok (.ireturn, 1) := by decide +kernel
theorem dX8_circlesNow_0 : decode cX8_circlesNow 0 = .ok (.iconst 0, 1) := by decide +kernel
theorem dX8_circlesNow_1 : decode cX8_circlesNow 1 = .ok (.istore_n 1, 1) := by decide +kernel
theorem dX8_circlesNow_2 : decode cX8_circlesNow 2 = .ok (.iconst 0, 1) := by decide +kernel
theorem dX8_circlesNow_3 : decode cX8_circlesNow 3 = .ok (.istore_n 2, 1) := by decide +kernel
theorem dX8_circlesNow_4 : decode cX8_circlesNow 4 = .ok (.iload_n 2, 1) := by decide +kernel
theorem dX8_circlesNow_5 : decode cX8_circlesNow 5 = .ok (.aload_n 0, 1) := by decide +kernel
theorem dX8_circlesNow_6 : decode cX8_circlesNow 6 = .ok (.getfield 61, 3) := by decide +kernel
theorem dX8_circlesNow_9 : decode cX8_circlesNow 9 = .ok (.if_icmp .ge 127, 3) := by decide +kernel
theorem dX8_circlesNow_12 : decode cX8_circlesNow 12 = .ok (.iload_n 2, 1) := by decide +kernel
theorem dX8_circlesNow_13 : decode cX8_circlesNow 13 = .ok (.istore_n 3, 1) := by decide +kernel
theorem dX8_circlesNow_14 : decode cX8_circlesNow 14 = .ok (.iconst 1, 1) := by decide +kernel
theorem dX8_circlesNow_15 : decode cX8_circlesNow 15 = .ok (.istore 4, 2) := by decide +kernel
theorem dX8_circlesNow_17 : decode cX8_circlesNow 17 = .ok (.iconst 0, 1) := by decide +kernel
theorem dX8_circlesNow_18 : decode cX8_circlesNow 18 = .ok (.istore 5, 2) := by decide +kernel
theorem dX8_circlesNow_20 : decode cX8_circlesNow 20 = .ok (.iload 5, 2) := by decide +kernel
theorem dX8_circlesNow_22 : decode cX8_circlesNow 22 = .ok (.aload_n 0, 1) := by decide +kernel
theorem dX8_circlesNow_23 : decode cX8_circlesNow 23 = .ok (.getfield 61, 3) := by decide +kernel
theorem dX8_circlesNow_26 : decode cX8_circlesNow 26 = .ok (.if_icmp .ge 104, 3) := by decide +kernel
theorem dX8_circlesNow_29 : decode cX8_circlesNow 29 = .ok (.iload_n 3, 1) := by decide +kernel
theorem dX8_circlesNow_30 : decode cX8_circlesNow 30 = .ok (.iconst (-1), 1) := by decide +kernel
theorem dX8_circlesNow_31 : decode cX8_circlesNow 31 = .ok (.if_icmp .eq 99, 3) := by decide +kernel
theorem dX8_circlesNow_34 : decode cX8_circlesNow 34 = .ok (.iload 4, 2) := by decide +kernel
theorem dX8_circlesNow_36 : decode cX8_circlesNow 36 = .ok (.ifCond .eq 94, 3) := by decide +kernel
theorem dX8_circlesNow_39 : decode cX8_circlesNow 39 = .ok (.aload_n 0, 1) := by decide +kernel
theorem dX8_circlesNow_40 : decode cX8_circlesNow 40 = .ok (.getfield 32, 3) := by decide +kernel
theorem dX8_circlesNow_43 : decode cX8_circlesNow 43 = .ok (.iload_n 3, 1) := by decide +kernel
theorem dX8_circlesNow_44 : decode cX8_circlesNow 44 = .ok (.iaload, 1) := by decide +kernel
theorem dX8_circlesNow_45 : decode cX8_circlesNow 45 = .ok (.iconst (-1), 1) := by decide +kernel
theorem dX8_circlesNow_46 : decode cX8_circlesNow 46 = .ok (.if_icmp .eq 28, 3) := by decide +kernel
theorem dX8_circlesNow_49 : decode cX8_circlesNow 49 = .ok (.aload_n 0, 1) := by decide +kernel
theorem dX8_circlesNow_50 : decode cX8_circlesNow 50 = .ok (.getfield 29, 3) := by decide +kernel
theorem dX8_circlesNow_53 : decode cX8_circlesNow 53 = .ok (.iload_n 3, 1) := by decide +kernel
theorem dX8_circlesNow_54 : decode cX8_circlesNow 54 = .ok (.iaload, 1) := by decide +kernel
theorem dX8_circlesNow_55 : decode cX8_circlesNow 55 = .ok (.iconst (-1), 1) := by decide +kernel
theorem dX8_circlesNow_56 : decode cX8_circlesNow 56 = .ok (.if_icmp .eq 18, 3) := by decide +kernel
theorem dX8_circlesNow_59 : decode cX8_circlesNow 59 = .ok (.aload_n 0, 1) := by decide +kernel
theorem dX8_circlesNow_60 : decode cX8_circlesNow 60 = .ok (.getfield 32, 3) := by decide +kernel
theorem dX8_circlesNow_63 : decode cX8_circlesNow 63 = .ok (.iload_n 3, 1) := by decide +kernel
theorem dX8_circlesNow_64 : decode cX8_circlesNow 64 = .ok (.iaload, 1) := by decide +kernel
theorem dX8_circlesNow_65 : decode cX8_circlesNow 65 = .ok (.aload_n 0, 1) := by decide +kernel
theorem dX8_circlesNow_66 : decode cX8_circlesNow 66 = .ok (.getfield 29, 3) := by decide +kernel
theorem dX8_circlesNow_69 : decode cX8_circlesNow 69 = .ok (.iload_n 3, 1) := by decide +kernel
theorem dX8_circlesNow_70 : decode cX8_circlesNow 70 = .ok (.iaload, 1) := by decide +kernel
theorem dX8_circlesNow_71 : decode cX8_circlesNow 71 = .ok (.if_icmp .ne 7, 3) := by decide +kernel
theorem dX8_circlesNow_74 : decode cX8_circlesNow 74 = .ok (.iconst (-1), 1) := by decide +kernel
theorem dX8_circlesNow_75 : decode cX8_circlesNow 75 = .ok (.goto 13, 3) := by decide +kernel
theorem dX8_circlesNow_78 : decode cX8_circlesNow 78 = .ok (.aload_n 0, 1) := by decide +kernel
theorem dX8_circlesNow_79 : decode cX8_circlesNow 79 = .ok (.aload_n 0, 1) := by decide +kernel
theorem dX8_circlesNow_80 : decode cX8_circlesNow 80 = .ok (.getfield 32, 3) := by decide +kernel
theorem dX8_circlesNow_83 : decode cX8_circlesNow 83 = .ok (.iload_n 3, 1) := by decide +kernel
theorem dX8_circlesNow_84 : decode cX8_circlesNow 84 = .ok (.iaload, 1) := by decide +kernel
theorem dX8_circlesNow_85 : decode cX8_circlesNow 85 = .ok (.invokevirtual 86, 3) := by decide +kernel
theorem dX8_circlesNow_88 : decode cX8_circlesNow 88 = .ok (.istore 6, 2) := by decide +kernel
theorem dX8_circlesNow_90 : decode cX8_circlesNow 90 = .ok (.iload 6, 2) := by decide +kernel
theorem dX8_circlesNow_92 : decode cX8_circlesNow 92 = .ok (.iconst (-1), 1) := by decide +kernel
theorem dX8_circlesNow_93 : decode cX8_circlesNow 93 = .ok (.if_icmp .eq 9, 3) := by decide +kernel
theorem dX8_circlesNow_96 : decode cX8_circlesNow 96 = .ok (.iload 6, 2) := by decide +kernel
theorem dX8_circlesNow_98 : decode cX8_circlesNow 98 = .ok (.iload_n 2, 1) := by decide +kernel
theorem dX8_circlesNow_99 : decode cX8_circlesNow 99 = .ok (.if_icmp .lt 7, 3) := by decide +kernel
theorem dX8_circlesNow_102 : decode cX8_circlesNow 102 = .ok (.iconst 1, 1) := by decide +kernel
theorem dX8_circlesNow_103 : decode cX8_circlesNow 103 = .ok (.goto 4, 3) := by decide +kernel
theorem dX8_circlesNow_106 : decode cX8_circlesNow 106 = .ok (.iconst 0, 1) := by decide +kernel
theorem dX8_circlesNow_107 : decode cX8_circlesNow 107 = .ok (.istore 4, 2) := by decide +kernel
theorem dX8_circlesNow_109 : decode cX8_circlesNow 109 = .ok (.iload 6, 2) := by decide +kernel
theorem dX8_circlesNow_111 : decode cX8_circlesNow 111 = .ok (.iload_n 2, 1) := by decide +kernel
theorem dX8_circlesNow_112 : decode cX8_circlesNow 112 = .ok (.if_icmp .ne 9, 3) := by decide +kernel
theorem dX8_circlesNow_115 : decode cX8_circlesNow 115 = .ok (.iinc 1 1, 3) := by decide +kernel
theorem dX8_circlesNow_118 : decode cX8_circlesNow 118 = .ok (.iconst (-1), 1) := by decide +kernel
theorem dX8_circlesNow_119 : decode cX8_circlesNow 119 = .ok (.istore 6, 2) := by decide +kernel
theorem dX8_circlesNow_121 : decode cX8_circlesNow 121 = .ok (.iload 6, 2) := by decide +kernel
theorem dX8_circlesNow_123 : decode cX8_circlesNow 123 = .ok (.istore_n 3, 1) := by decide +kernel
theorem dX8_circlesNow_124 : decode cX8_circlesNow 124 = .ok (.iinc 5 1, 3) := by decide +kernel
theorem dX8_circlesNow_127 : decode cX8_circlesNow 127 = .ok (.goto (-107), 3) := by decide +kernel
theorem dX8_circlesNow_130 : decode cX8_circlesNow 130 = .ok (.iinc 2 1, 3) := by decide +kernel
theorem dX8_circlesNow_133 : decode cX8_circlesNow 133 = .ok (.goto (-129), 3) := by decide +kernel
theorem dX8_circlesNow_136 : decode cX8_circlesNow 136 = .ok (.iload_n 1, 1) := by decide +kernel
theorem dX8_circlesNow_137 : decode cX8_circlesNow 137 = .ok (.ireturn, 1) := by decide +kernel
theorem dX8_circles_0 : decode cX8_circles 0 = .ok (.aload_n 0, 1) := by decide +kernel
theorem dX8_circles_1 : decode cX8_circles 1 = .ok (.aload_n 0, 1) := by decide +kernel
theorem dX8_circles_2 : decode cX8_circles 2 = .ok (.invokevirtual 137, 3) := by decide +kernel
theorem dX8_circles_5 : decode cX8_circles 5 = .ok (.invokevirtual 134, 3) := by decide +kernel
theorem dX8_circles_8 : decode cX8_circles 8 = .ok (.ireturn, 1) := by decide +kernel
theorem dX8_moves_0 : decode cX8_moves 0 = .ok (.aload_n 0, 1) := by decide +kernel
theorem dX8_moves_1 : decode cX8_moves 1 = .ok (.invokevirtual 137, 3) := by decide +kernel
theorem dX8_moves_4 : decode cX8_moves 4 = .ok (.istore_n 1, 1) := by decide +kernel
theorem dX8_moves_5 : decode cX8_moves 5 = .ok (.iconst 0, 1) := by decide +kernel
theorem dX8_moves_6 : decode cX8_moves 6 = .ok (.istore_n 2, 1) := by decide +kernel
theorem dX8_moves_7 : decode cX8_moves 7 = .ok (.iload_n 2, 1) := by decide +kernel
theorem dX8_moves_8 : decode cX8_moves 8 = .ok (.aload_n 0, 1) := by decide +kernel
theorem dX8_moves_9 : decode cX8_moves 9 = .ok (.getfield 61, 3) := by decide +kernel
theorem dX8_moves_12 : decode cX8_moves 12 = .ok (.if_icmp .ge 32, 3) := by decide +kernel
theorem dX8_moves_15 : decode cX8_moves 15 = .ok (.iload_n 1, 1) := by decide +kernel
theorem dX8_moves_16 : decode cX8_moves 16 = .ok (.aload_n 0, 1) := by decide +kernel
theorem dX8_moves_17 : decode cX8_moves 17 = .ok (.getfield 32, 3) := by decide +kernel
theorem dX8_moves_20 : decode cX8_moves 20 = .ok (.iload_n 2, 1) := by decide +kernel
theorem dX8_moves_21 : decode cX8_moves 21 = .ok (.iaload, 1) := by decide +kernel
theorem dX8_moves_22 : decode cX8_moves 22 = .ok (.aload_n 0, 1) := by decide +kernel
theorem dX8_moves_23 : decode cX8_moves 23 = .ok (.getfield 29, 3) := by decide +kernel
theorem dX8_moves_26 : decode cX8_moves 26 = .ok (.iload_n 2, 1) := by decide +kernel
theorem dX8_moves_27 : decode cX8_moves 27 = .ok (.iaload, 1) := by decide +kernel
theorem dX8_moves_28 : decode cX8_moves 28 = .ok (.if_icmp .ne 7, 3) := by decide +kernel
theorem dX8_moves_31 : decode cX8_moves 31 = .ok (.iconst 0, 1) := by decide +kernel
theorem dX8_moves_32 : decode cX8_moves 32 = .ok (.goto 4, 3) := by decide +kernel
theorem dX8_moves_35 : decode cX8_moves 35 = .ok (.iconst 1, 1) := by decide +kernel
theorem dX8_moves_36 : decode cX8_moves 36 = .ok (.iadd, 1) := by decide +kernel
theorem dX8_moves_37 : decode cX8_moves 37 = .ok (.istore_n 1, 1) := by decide +kernel
theorem dX8_moves_38 : decode cX8_moves 38 = .ok (.iinc 2 1, 3) := by decide +kernel
theorem dX8_moves_41 : decode cX8_moves 41 = .ok (.goto (-34), 3) := by decide +kernel
theorem dX8_moves_44 : decode cX8_moves 44 = .ok (.aload_n 0, 1) := by decide +kernel
theorem dX8_moves_45 : decode cX8_moves 45 = .ok (.iload_n 1, 1) := by decide +kernel
theorem dX8_moves_46 : decode cX8_moves 46 = .ok (.invokevirtual 134, 3) := by decide +kernel
theorem dX8_moves_49 : decode cX8_moves 49 = .ok (.ireturn, 1) := by decide +kernel
end
section
theorem dL_setWall_0 : decode cL_setWall 0 = .ok (.aload 4, 2) := by decide +kernel
theorem dL_setWall_2 : decode cL_setWall 2 = .ok (.iconst 0, 1) := by decide +kernel
theorem dL_setWall_3 : decode cL_setWall 3 = .ok (.aload_n 0, 1) := by decide +kernel
theorem dL_setWall_4 : decode cL_setWall 4 = .ok (.iload_n 1, 1) := by decide +kernel
theorem dL_setWall_5 : decode cL_setWall 5 = .ok (.iload_n 2, 1) := by decide +kernel
theorem dL_setWall_6 : decode cL_setWall 6 = .ok (.iload_n 3, 1) := by decide +kernel
theorem dL_setWall_7 : decode cL_setWall 7 = .ok (.invokevirtual 7, 3) := by decide +kernel
theorem dL_setWall_10 : decode cL_setWall 10 = .ok (.ifCond .eq 7, 3) := by decide +kernel
theorem dL_setWall_13 : decode cL_setWall 13 = .ok (.lconst 1, 1) := by decide +kernel
theorem dL_setWall_14 : decode cL_setWall 14 = .ok (.goto 4, 3) := by decide +kernel
theorem dL_setWall_17 : decode cL_setWall 17 = .ok (.lconst 0, 1) := by decide +kernel
theorem dL_setWall_18 : decode cL_setWall 18 = .ok (.lastore, 1) := by decide +kernel
theorem dL_setWall_19 : decode cL_setWall 19 = .ok (.goto 11, 3) := by decide +kernel
theorem dL_setWall_22 : decode cL_setWall 22 = .ok (.astore 5, 2) := by decide +kernel
theorem dL_setWall_24 : decode cL_setWall 24 = .ok (.iconst 1, 1) := by decide +kernel
theorem dL_setWall_25 : decode cL_setWall 25 = .ok (.ireturn, 1) := by decide +kernel
theorem dL_setWall_26 : decode cL_setWall 26 = .ok (.astore 5, 2) := by decide +kernel
theorem dL_setWall_28 : decode cL_setWall 28 = .ok (.iconst 2, 1) := by decide +kernel
theorem dL_setWall_29 : decode cL_setWall 29 = .ok (.ireturn, 1) := by decide +kernel
theorem dL_setWall_30 : decode cL_setWall 30 = .ok (.iconst 0, 1) := by decide +kernel
theorem dL_setWall_31 : decode cL_setWall 31 = .ok (.ireturn, 1) := by decide +kernel
theorem dL_addZone_0 : decode cL_addZone 0 = .ok (.aload 4, 2) := by decide +kernel
theorem dL_addZone_2 : decode cL_addZone 2 = .ok (.iconst 0, 1) := by decide +kernel
theorem dL_addZone_3 : decode cL_addZone 3 = .ok (.aload_n 0, 1) := by decide +kernel
theorem dL_addZone_4 : decode cL_addZone 4 = .ok (.iload_n 1, 1) := by decide +kernel
theorem dL_addZone_5 : decode cL_addZone 5 = .ok (.iload_n 2, 1) := by decide +kernel
theorem dL_addZone_6 : decode cL_addZone 6 = .ok (.iload_n 3, 1) := by decide +kernel
theorem dL_addZone_7 : decode cL_addZone 7 = .ok (.invokevirtual 17, 3) := by decide +kernel
theorem dL_addZone_10 : decode cL_addZone 10 = .ok (.i2l, 1) := by decide +kernel
theorem dL_addZone_11 : decode cL_addZone 11 = .ok (.lastore, 1) := by decide +kernel
theorem dL_addZone_12 : decode cL_addZone 12 = .ok (.goto 15, 3) := by decide +kernel
theorem dL_addZone_15 : decode cL_addZone 15 = .ok (.astore 5, 2) := by decide +kernel
theorem dL_addZone_17 : decode cL_addZone 17 = .ok (.iconst 1, 1) := by decide +kernel
theorem dL_addZone_18 : decode cL_addZone 18 = .ok (.ireturn, 1) := by decide +kernel
theorem dL_addZone_19 : decode cL_addZone 19 = .ok (.astore 5, 2) := by decide +kernel
theorem dL_addZone_21 : decode cL_addZone 21 = .ok (.iconst 2, 1) := by decide +kernel
theorem dL_addZone_22 : decode cL_addZone 22 = .ok (.ireturn, 1) := by decide +kernel
theorem dL_addZone_23 : decode cL_addZone 23 = .ok (.astore 5, 2) := by decide +kernel
theorem dL_addZone_25 : decode cL_addZone 25 = .ok (.iconst 3, 1) := by decide +kernel
theorem dL_addZone_26 : decode cL_addZone 26 = .ok (.ireturn, 1) := by decide +kernel
theorem dL_addZone_27 : decode cL_addZone 27 = .ok (.iconst 0, 1) := by decide +kernel
theorem dL_addZone_28 : decode cL_addZone 28 = .ok (.ireturn, 1) := by decide +kernel
theorem dL_setDesks_0 : decode cL_setDesks 0 = .ok (.aload_n 3, 1) := by decide +kernel
theorem dL_setDesks_1 : decode cL_setDesks 1 = .ok (.iconst 0, 1) := by decide +kernel
theorem dL_setDesks_2 : decode cL_setDesks 2 = .ok (.aload_n 0, 1) := by decide +kernel
theorem dL_setDesks_3 : decode cL_setDesks 3 = .ok (.iload_n 1, 1) := by decide +kernel
theorem dL_setDesks_4 : decode cL_setDesks 4 = .ok (.iload_n 2, 1) := by decide +kernel
theorem dL_setDesks_5 : decode cL_setDesks 5 = .ok (.invokevirtual 23, 3) := by decide +kernel
theorem dL_setDesks_8 : decode cL_setDesks 8 = .ok (.i2l, 1) := by decide +kernel
theorem dL_setDesks_9 : decode cL_setDesks 9 = .ok (.lastore, 1) := by decide +kernel
theorem dL_setDesks_10 : decode cL_setDesks 10 = .ok (.goto 15, 3) := by decide +kernel
theorem dL_setDesks_13 : decode cL_setDesks 13 = .ok (.astore 4, 2) := by decide +kernel
theorem dL_setDesks_15 : decode cL_setDesks 15 = .ok (.iconst 1, 1) := by decide +kernel
theorem dL_setDesks_16 : decode cL_setDesks 16 = .ok (.ireturn, 1) := by decide +kernel
theorem dL_setDesks_17 : decode cL_setDesks 17 = .ok (.astore 4, 2) := by decide +kernel
theorem dL_setDesks_19 : decode cL_setDesks 19 = .ok (.iconst 2, 1) := by decide +kernel
theorem dL_setDesks_20 : decode cL_setDesks 20 = .ok (.ireturn, 1) := by decide +kernel
theorem dL_setDesks_21 : decode cL_setDesks 21 = .ok (.astore 4, 2) := by decide +kernel
theorem dL_setDesks_23 : decode cL_setDesks 23 = .ok (.iconst 3, 1) := by decide +kernel
theorem dL_setDesks_24 : decode cL_setDesks 24 = .ok (.ireturn, 1) := by decide +kernel
theorem dL_setDesks_25 : decode cL_setDesks 25 = .ok (.iconst 0, 1) := by decide +kernel
theorem dL_setDesks_26 : decode cL_setDesks 26 = .ok (.ireturn, 1) := by decide +kernel
theorem dL_addTeam_0 : decode cL_addTeam 0 = .ok (.aload_n 1, 1) := by decide +kernel
theorem dL_addTeam_1 : decode cL_addTeam 1 = .ok (.iconst 0, 1) := by decide +kernel
theorem dL_addTeam_2 : decode cL_addTeam 2 = .ok (.aload_n 0, 1) := by decide +kernel
theorem dL_addTeam_3 : decode cL_addTeam 3 = .ok (.invokevirtual 27, 3) := by decide +kernel
theorem dL_addTeam_6 : decode cL_addTeam 6 = .ok (.i2l, 1) := by decide +kernel
theorem dL_addTeam_7 : decode cL_addTeam 7 = .ok (.lastore, 1) := by decide +kernel
theorem dL_addTeam_8 : decode cL_addTeam 8 = .ok (.goto 6, 3) := by decide +kernel
theorem dL_addTeam_11 : decode cL_addTeam 11 = .ok (.astore_n 2, 1) := by decide +kernel
theorem dL_addTeam_12 : decode cL_addTeam 12 = .ok (.iconst 1, 1) := by decide +kernel
theorem dL_addTeam_13 : decode cL_addTeam 13 = .ok (.ireturn, 1) := by decide +kernel
theorem dL_addTeam_14 : decode cL_addTeam 14 = .ok (.iconst 0, 1) := by decide +kernel
theorem dL_addTeam_15 : decode cL_addTeam 15 = .ok (.ireturn, 1) := by decide +kernel
theorem dL_setPresent_0 : decode cL_setPresent 0 = .ok (.aload 4, 2) := by decide +kernel
theorem dL_setPresent_2 : decode cL_setPresent 2 = .ok (.iconst 0, 1) := by decide +kernel
theorem dL_setPresent_3 : decode cL_setPresent 3 = .ok (.aload_n 0, 1) := by decide +kernel
theorem dL_setPresent_4 : decode cL_setPresent 4 = .ok (.iload_n 1, 1) := by decide +kernel
theorem dL_setPresent_5 : decode cL_setPresent 5 = .ok (.iload_n 2, 1) := by decide +kernel
theorem dL_setPresent_6 : decode cL_setPresent 6 = .ok (.iload_n 3, 1) := by decide +kernel
theorem dL_setPresent_7 : decode cL_setPresent 7 = .ok (.invokevirtual 31, 3) := by decide +kernel
theorem dL_setPresent_10 : decode cL_setPresent 10 = .ok (.i2l, 1) := by decide +kernel
theorem dL_setPresent_11 : decode cL_setPresent 11 = .ok (.lastore, 1) := by decide +kernel
theorem dL_setPresent_12 : decode cL_setPresent 12 = .ok (.goto 15, 3) := by decide +kernel
theorem dL_setPresent_15 : decode cL_setPresent 15 = .ok (.astore 5, 2) := by decide +kernel
theorem dL_setPresent_17 : decode cL_setPresent 17 = .ok (.iconst 1, 1) := by decide +kernel
theorem dL_setPresent_18 : decode cL_setPresent 18 = .ok (.ireturn, 1) := by decide +kernel
theorem dL_setPresent_19 : decode cL_setPresent 19 = .ok (.astore 5, 2) := by decide +kernel
theorem dL_setPresent_21 : decode cL_setPresent 21 = .ok (.iconst 2, 1) := by decide +kernel
theorem dL_setPresent_22 : decode cL_setPresent 22 = .ok (.ireturn, 1) := by decide +kernel
theorem dL_setPresent_23 : decode cL_setPresent 23 = .ok (.astore 5, 2) := by decide +kernel
theorem dL_setPresent_25 : decode cL_setPresent 25 = .ok (.iconst 3, 1) := by decide +kernel
theorem dL_setPresent_26 : decode cL_setPresent 26 = .ok (.ireturn, 1) := by decide +kernel
theorem dL_setPresent_27 : decode cL_setPresent 27 = .ok (.iconst 0, 1) := by decide +kernel
theorem dL_setPresent_28 : decode cL_setPresent 28 = .ok (.ireturn, 1) := by decide +kernel
theorem dL_setWish_0 : decode cL_setWish 0 = .ok (.aload 4, 2) := by decide +kernel
theorem dL_setWish_2 : decode cL_setWish 2 = .ok (.iconst 0, 1) := by decide +kernel
theorem dL_setWish_3 : decode cL_setWish 3 = .ok (.aload_n 0, 1) := by decide +kernel
theorem dL_setWish_4 : decode cL_setWish 4 = .ok (.iload_n 1, 1) := by decide +kernel
theorem dL_setWish_5 : decode cL_setWish 5 = .ok (.iload_n 2, 1) := by decide +kernel
theorem dL_setWish_6 : decode cL_setWish 6 = .ok (.iload_n 3, 1) := by decide +kernel
theorem dL_setWish_7 : decode cL_setWish 7 = .ok (.invokevirtual 34, 3) := by decide +kernel
theorem dL_setWish_10 : decode cL_setWish 10 = .ok (.i2l, 1) := by decide +kernel
theorem dL_setWish_11 : decode cL_setWish 11 = .ok (.lastore, 1) := by decide +kernel
theorem dL_setWish_12 : decode cL_setWish 12 = .ok (.goto 11, 3) := by decide +kernel
theorem dL_setWish_15 : decode cL_setWish 15 = .ok (.astore 5, 2) := by decide +kernel
theorem dL_setWish_17 : decode cL_setWish 17 = .ok (.iconst 1, 1) := by decide +kernel
theorem dL_setWish_18 : decode cL_setWish 18 = .ok (.ireturn, 1) := by decide +kernel
theorem dL_setWish_19 : decode cL_setWish 19 = .ok (.astore 5, 2) := by decide +kernel
theorem dL_setWish_21 : decode cL_setWish 21 = .ok (.iconst 2, 1) := by decide +kernel
theorem dL_setWish_22 : decode cL_setWish 22 = .ok (.ireturn, 1) := by decide +kernel
theorem dL_setWish_23 : decode cL_setWish 23 = .ok (.iconst 0, 1) := by decide +kernel
theorem dL_setWish_24 : decode cL_setWish 24 = .ok (.ireturn, 1) := by decide +kernel
theorem dL_setTie_0 : decode cL_setTie 0 = .ok (.aload 4, 2) := by decide +kernel
theorem dL_setTie_2 : decode cL_setTie 2 = .ok (.iconst 0, 1) := by decide +kernel
theorem dL_setTie_3 : decode cL_setTie 3 = .ok (.aload_n 0, 1) := by decide +kernel
theorem dL_setTie_4 : decode cL_setTie 4 = .ok (.iload_n 1, 1) := by decide +kernel
theorem dL_setTie_5 : decode cL_setTie 5 = .ok (.iload_n 2, 1) := by decide +kernel
theorem dL_setTie_6 : decode cL_setTie 6 = .ok (.iload_n 3, 1) := by decide +kernel
theorem dL_setTie_7 : decode cL_setTie 7 = .ok (.invokevirtual 37, 3) := by decide +kernel
theorem dL_setTie_10 : decode cL_setTie 10 = .ok (.i2l, 1) := by decide +kernel
theorem dL_setTie_11 : decode cL_setTie 11 = .ok (.lastore, 1) := by decide +kernel
theorem dL_setTie_12 : decode cL_setTie 12 = .ok (.goto 11, 3) := by decide +kernel
theorem dL_setTie_15 : decode cL_setTie 15 = .ok (.astore 5, 2) := by decide +kernel
theorem dL_setTie_17 : decode cL_setTie 17 = .ok (.iconst 1, 1) := by decide +kernel
theorem dL_setTie_18 : decode cL_setTie 18 = .ok (.ireturn, 1) := by decide +kernel
theorem dL_setTie_19 : decode cL_setTie 19 = .ok (.astore 5, 2) := by decide +kernel
theorem dL_setTie_21 : decode cL_setTie 21 = .ok (.iconst 2, 1) := by decide +kernel
theorem dL_setTie_22 : decode cL_setTie 22 = .ok (.ireturn, 1) := by decide +kernel
theorem dL_setTie_23 : decode cL_setTie 23 = .ok (.iconst 0, 1) := by decide +kernel
theorem dL_setTie_24 : decode cL_setTie 24 = .ok (.ireturn, 1) := by decide +kernel
theorem dL_place_0 : decode cL_place 0 = .ok (.aload_n 3, 1) := by decide +kernel
theorem dL_place_1 : decode cL_place 1 = .ok (.iconst 0, 1) := by decide +kernel
theorem dL_place_2 : decode cL_place 2 = .ok (.aload_n 0, 1) := by decide +kernel
theorem dL_place_3 : decode cL_place 3 = .ok (.iload_n 1, 1) := by decide +kernel
theorem dL_place_4 : decode cL_place 4 = .ok (.iload_n 2, 1) := by decide +kernel
theorem dL_place_5 : decode cL_place 5 = .ok (.invokevirtual 40, 3) := by decide +kernel
theorem dL_place_8 : decode cL_place 8 = .ok (.i2l, 1) := by decide +kernel
theorem dL_place_9 : decode cL_place 9 = .ok (.lastore, 1) := by decide +kernel
theorem dL_place_10 : decode cL_place 10 = .ok (.goto 11, 3) := by decide +kernel
theorem dL_place_13 : decode cL_place 13 = .ok (.astore 4, 2) := by decide +kernel
theorem dL_place_15 : decode cL_place 15 = .ok (.iconst 1, 1) := by decide +kernel
theorem dL_place_16 : decode cL_place 16 = .ok (.ireturn, 1) := by decide +kernel
theorem dL_place_17 : decode cL_place 17 = .ok (.astore 4, 2) := by decide +kernel
theorem dL_place_19 : decode cL_place 19 = .ok (.iconst 2, 1) := by decide +kernel
theorem dL_place_20 : decode cL_place 20 = .ok (.ireturn, 1) := by decide +kernel
theorem dL_place_21 : decode cL_place 21 = .ok (.iconst 0, 1) := by decide +kernel
theorem dL_place_22 : decode cL_place 22 = .ok (.ireturn, 1) := by decide +kernel
theorem dL_placeByWishes_0 : decode cL_placeByWishes 0 = .ok (.aload_n 1, 1) := by decide +kernel
theorem dL_placeByWishes_1 : decode cL_placeByWishes 1 = .ok (.iconst 0, 1) := by decide +kernel
theorem dL_placeByWishes_2 : decode cL_placeByWishes 2 = .ok (.aload_n 0, 1) := by decide +kernel
theorem dL_placeByWishes_3 : decode cL_placeByWishes 3 = .ok (.invokevirtual 43, 3) := by decide +kernel
theorem dL_placeByWishes_6 : decode cL_placeByWishes 6 = .ok (.i2l, 1) := by decide +kernel
theorem dL_placeByWishes_7 : decode cL_placeByWishes 7 = .ok (.lastore, 1) := by decide +kernel
theorem dL_placeByWishes_8 : decode cL_placeByWishes 8 = .ok (.goto 6, 3) := by decide +kernel
theorem dL_placeByWishes_11 : decode cL_placeByWishes 11 = .ok (.astore_n 2, 1) := by decide +kernel
theorem dL_placeByWishes_12 : decode cL_placeByWishes 12 = .ok (.iconst 1, 1) := by decide +kernel
theorem dL_placeByWishes_13 : decode cL_placeByWishes 13 = .ok (.ireturn, 1) := by decide +kernel
theorem dL_placeByWishes_14 : decode cL_placeByWishes 14 = .ok (.iconst 0, 1) := by decide +kernel
theorem dL_placeByWishes_15 : decode cL_placeByWishes 15 = .ok (.ireturn, 1) := by decide +kernel
theorem dL_placeBest_0 : decode cL_placeBest 0 = .ok (.aload_n 1, 1) := by decide +kernel
theorem dL_placeBest_1 : decode cL_placeBest 1 = .ok (.iconst 0, 1) := by decide +kernel
theorem dL_placeBest_2 : decode cL_placeBest 2 = .ok (.aload_n 0, 1) := by decide +kernel
theorem dL_placeBest_3 : decode cL_placeBest 3 = .ok (.invokevirtual 46, 3) := by decide +kernel
theorem dL_placeBest_6 : decode cL_placeBest 6 = .ok (.i2l, 1) := by decide +kernel
theorem dL_placeBest_7 : decode cL_placeBest 7 = .ok (.lastore, 1) := by decide +kernel
theorem dL_placeBest_8 : decode cL_placeBest 8 = .ok (.goto 6, 3) := by decide +kernel
theorem dL_placeBest_11 : decode cL_placeBest 11 = .ok (.astore_n 2, 1) := by decide +kernel
theorem dL_placeBest_12 : decode cL_placeBest 12 = .ok (.iconst 1, 1) := by decide +kernel
theorem dL_placeBest_13 : decode cL_placeBest 13 = .ok (.ireturn, 1) := by decide +kernel
theorem dL_placeBest_14 : decode cL_placeBest 14 = .ok (.iconst 0, 1) := by decide +kernel
theorem dL_placeBest_15 : decode cL_placeBest 15 = .ok (.ireturn, 1) := by decide +kernel
theorem dL_search_0 : decode cL_search 0 = .ok (.aload_n 3, 1) := by decide +kernel
theorem dL_search_1 : decode cL_search 1 = .ok (.iconst 0, 1) := by decide +kernel
theorem dL_search_2 : decode cL_search 2 = .ok (.aload_n 0, 1) := by decide +kernel
theorem dL_search_3 : decode cL_search 3 = .ok (.iload_n 1, 1) := by decide +kernel
theorem dL_search_4 : decode cL_search 4 = .ok (.iload_n 2, 1) := by decide +kernel
theorem dL_search_5 : decode cL_search 5 = .ok (.invokevirtual 49, 3) := by decide +kernel
theorem dL_search_8 : decode cL_search 8 = .ok (.i2l, 1) := by decide +kernel
theorem dL_search_9 : decode cL_search 9 = .ok (.lastore, 1) := by decide +kernel
theorem dL_search_10 : decode cL_search 10 = .ok (.goto 11, 3) := by decide +kernel
theorem dL_search_13 : decode cL_search 13 = .ok (.astore 4, 2) := by decide +kernel
theorem dL_search_15 : decode cL_search 15 = .ok (.iconst 1, 1) := by decide +kernel
theorem dL_search_16 : decode cL_search 16 = .ok (.ireturn, 1) := by decide +kernel
theorem dL_search_17 : decode cL_search 17 = .ok (.astore 4, 2) := by decide +kernel
theorem dL_search_19 : decode cL_search 19 = .ok (.iconst 2, 1) := by decide +kernel
theorem dL_search_20 : decode cL_search 20 = .ok (.ireturn, 1) := by decide +kernel
theorem dL_search_21 : decode cL_search 21 = .ok (.iconst 0, 1) := by decide +kernel
theorem dL_search_22 : decode cL_search 22 = .ok (.ireturn, 1) := by decide +kernel
theorem dL_recall_0 : decode cL_recall 0 = .ok (.aload_n 1, 1) := by decide +kernel
theorem dL_recall_1 : decode cL_recall 1 = .ok (.iconst 0, 1) := by decide +kernel
theorem dL_recall_2 : decode cL_recall 2 = .ok (.aload_n 0, 1) := by decide +kernel
theorem dL_recall_3 : decode cL_recall 3 = .ok (.invokevirtual 52, 3) := by decide +kernel
theorem dL_recall_6 : decode cL_recall 6 = .ok (.i2l, 1) := by decide +kernel
theorem dL_recall_7 : decode cL_recall 7 = .ok (.lastore, 1) := by decide +kernel
theorem dL_recall_8 : decode cL_recall 8 = .ok (.goto 6, 3) := by decide +kernel
theorem dL_recall_11 : decode cL_recall 11 = .ok (.astore_n 2, 1) := by decide +kernel
theorem dL_recall_12 : decode cL_recall 12 = .ok (.iconst 1, 1) := by decide +kernel
theorem dL_recall_13 : decode cL_recall 13 = .ok (.ireturn, 1) := by decide +kernel
theorem dL_recall_14 : decode cL_recall 14 = .ok (.iconst 0, 1) := by decide +kernel
theorem dL_recall_15 : decode cL_recall 15 = .ok (.ireturn, 1) := by decide +kernel
theorem dL_need_0 : decode cL_need 0 = .ok (.aload_n 2, 1) := by decide +kernel
theorem dL_need_1 : decode cL_need 1 = .ok (.iconst 0, 1) := by decide +kernel
theorem dL_need_2 : decode cL_need 2 = .ok (.aload_n 0, 1) := by decide +kernel
theorem dL_need_3 : decode cL_need 3 = .ok (.iload_n 1, 1) := by decide +kernel
theorem dL_need_4 : decode cL_need 4 = .ok (.invokevirtual 55, 3) := by decide +kernel
theorem dL_need_7 : decode cL_need 7 = .ok (.i2l, 1) := by decide +kernel
theorem dL_need_8 : decode cL_need 8 = .ok (.lastore, 1) := by decide +kernel
theorem dL_need_9 : decode cL_need 9 = .ok (.goto 6, 3) := by decide +kernel
theorem dL_need_12 : decode cL_need 12 = .ok (.astore_n 3, 1) := by decide +kernel
theorem dL_need_13 : decode cL_need 13 = .ok (.iconst 1, 1) := by decide +kernel
theorem dL_need_14 : decode cL_need 14 = .ok (.ireturn, 1) := by decide +kernel
theorem dL_need_15 : decode cL_need 15 = .ok (.iconst 0, 1) := by decide +kernel
theorem dL_need_16 : decode cL_need 16 = .ok (.ireturn, 1) := by decide +kernel
theorem dL_share_0 : decode cL_share 0 = .ok (.aload_n 2, 1) := by decide +kernel
theorem dL_share_1 : decode cL_share 1 = .ok (.iconst 0, 1) := by decide +kernel
theorem dL_share_2 : decode cL_share 2 = .ok (.aload_n 0, 1) := by decide +kernel
theorem dL_share_3 : decode cL_share 3 = .ok (.iload_n 1, 1) := by decide +kernel
theorem dL_share_4 : decode cL_share 4 = .ok (.invokevirtual 59, 3) := by decide +kernel
theorem dL_share_7 : decode cL_share 7 = .ok (.i2l, 1) := by decide +kernel
theorem dL_share_8 : decode cL_share 8 = .ok (.lastore, 1) := by decide +kernel
theorem dL_share_9 : decode cL_share 9 = .ok (.goto 6, 3) := by decide +kernel
theorem dL_share_12 : decode cL_share 12 = .ok (.astore_n 3, 1) := by decide +kernel
theorem dL_share_13 : decode cL_share 13 = .ok (.iconst 1, 1) := by decide +kernel
theorem dL_share_14 : decode cL_share 14 = .ok (.ireturn, 1) := by decide +kernel
theorem dL_share_15 : decode cL_share 15 = .ok (.iconst 0, 1) := by decide +kernel
theorem dL_share_16 : decode cL_share 16 = .ok (.ireturn, 1) := by decide +kernel
theorem dL_zoneOf_0 : decode cL_zoneOf 0 = .ok (.aload_n 2, 1) := by decide +kernel
theorem dL_zoneOf_1 : decode cL_zoneOf 1 = .ok (.iconst 0, 1) := by decide +kernel
theorem dL_zoneOf_2 : decode cL_zoneOf 2 = .ok (.aload_n 0, 1) := by decide +kernel
theorem dL_zoneOf_3 : decode cL_zoneOf 3 = .ok (.iload_n 1, 1) := by decide +kernel
theorem dL_zoneOf_4 : decode cL_zoneOf 4 = .ok (.invokevirtual 62, 3) := by decide +kernel
theorem dL_zoneOf_7 : decode cL_zoneOf 7 = .ok (.i2l, 1) := by decide +kernel
theorem dL_zoneOf_8 : decode cL_zoneOf 8 = .ok (.lastore, 1) := by decide +kernel
theorem dL_zoneOf_9 : decode cL_zoneOf 9 = .ok (.goto 6, 3) := by decide +kernel
theorem dL_zoneOf_12 : decode cL_zoneOf 12 = .ok (.astore_n 3, 1) := by decide +kernel
theorem dL_zoneOf_13 : decode cL_zoneOf 13 = .ok (.iconst 1, 1) := by decide +kernel
theorem dL_zoneOf_14 : decode cL_zoneOf 14 = .ok (.ireturn, 1) := by decide +kernel
theorem dL_zoneOf_15 : decode cL_zoneOf 15 = .ok (.iconst 0, 1) := by decide +kernel
theorem dL_zoneOf_16 : decode cL_zoneOf 16 = .ok (.ireturn, 1) := by decide +kernel
theorem dL_teamIn_0 : decode cL_teamIn 0 = .ok (.aload_n 2, 1) := by decide +kernel
theorem dL_teamIn_1 : decode cL_teamIn 1 = .ok (.iconst 0, 1) := by decide +kernel
theorem dL_teamIn_2 : decode cL_teamIn 2 = .ok (.aload_n 0, 1) := by decide +kernel
theorem dL_teamIn_3 : decode cL_teamIn 3 = .ok (.iload_n 1, 1) := by decide +kernel
theorem dL_teamIn_4 : decode cL_teamIn 4 = .ok (.invokevirtual 65, 3) := by decide +kernel
theorem dL_teamIn_7 : decode cL_teamIn 7 = .ok (.i2l, 1) := by decide +kernel
theorem dL_teamIn_8 : decode cL_teamIn 8 = .ok (.lastore, 1) := by decide +kernel
theorem dL_teamIn_9 : decode cL_teamIn 9 = .ok (.goto 6, 3) := by decide +kernel
theorem dL_teamIn_12 : decode cL_teamIn 12 = .ok (.astore_n 3, 1) := by decide +kernel
theorem dL_teamIn_13 : decode cL_teamIn 13 = .ok (.iconst 1, 1) := by decide +kernel
theorem dL_teamIn_14 : decode cL_teamIn 14 = .ok (.ireturn, 1) := by decide +kernel
theorem dL_teamIn_15 : decode cL_teamIn 15 = .ok (.iconst 0, 1) := by decide +kernel
theorem dL_teamIn_16 : decode cL_teamIn 16 = .ok (.ireturn, 1) := by decide +kernel
theorem dL_free_0 : decode cL_free 0 = .ok (.aload_n 3, 1) := by decide +kernel
theorem dL_free_1 : decode cL_free 1 = .ok (.iconst 0, 1) := by decide +kernel
theorem dL_free_2 : decode cL_free 2 = .ok (.aload_n 0, 1) := by decide +kernel
theorem dL_free_3 : decode cL_free 3 = .ok (.iload_n 1, 1) := by decide +kernel
theorem dL_free_4 : decode cL_free 4 = .ok (.iload_n 2, 1) := by decide +kernel
theorem dL_free_5 : decode cL_free 5 = .ok (.invokevirtual 68, 3) := by decide +kernel
theorem dL_free_8 : decode cL_free 8 = .ok (.i2l, 1) := by decide +kernel
theorem dL_free_9 : decode cL_free 9 = .ok (.lastore, 1) := by decide +kernel
theorem dL_free_10 : decode cL_free 10 = .ok (.goto 7, 3) := by decide +kernel
theorem dL_free_13 : decode cL_free 13 = .ok (.astore 4, 2) := by decide +kernel
theorem dL_free_15 : decode cL_free 15 = .ok (.iconst 1, 1) := by decide +kernel
theorem dL_free_16 : decode cL_free 16 = .ok (.ireturn, 1) := by decide +kernel
theorem dL_free_17 : decode cL_free 17 = .ok (.iconst 0, 1) := by decide +kernel
theorem dL_free_18 : decode cL_free 18 = .ok (.ireturn, 1) := by decide +kernel
theorem dL_distance_0 : decode cL_distance 0 = .ok (.aload_n 3, 1) := by decide +kernel
theorem dL_distance_1 : decode cL_distance 1 = .ok (.iconst 0, 1) := by decide +kernel
theorem dL_distance_2 : decode cL_distance 2 = .ok (.aload_n 0, 1) := by decide +kernel
theorem dL_distance_3 : decode cL_distance 3 = .ok (.iload_n 1, 1) := by decide +kernel
theorem dL_distance_4 : decode cL_distance 4 = .ok (.iload_n 2, 1) := by decide +kernel
theorem dL_distance_5 : decode cL_distance 5 = .ok (.invokevirtual 71, 3) := by decide +kernel
theorem dL_distance_8 : decode cL_distance 8 = .ok (.i2l, 1) := by decide +kernel
theorem dL_distance_9 : decode cL_distance 9 = .ok (.lastore, 1) := by decide +kernel
theorem dL_distance_10 : decode cL_distance 10 = .ok (.goto 7, 3) := by decide +kernel
theorem dL_distance_13 : decode cL_distance 13 = .ok (.astore 4, 2) := by decide +kernel
theorem dL_distance_15 : decode cL_distance 15 = .ok (.iconst 1, 1) := by decide +kernel
theorem dL_distance_16 : decode cL_distance 16 = .ok (.ireturn, 1) := by decide +kernel
theorem dL_distance_17 : decode cL_distance 17 = .ok (.iconst 0, 1) := by decide +kernel
theorem dL_distance_18 : decode cL_distance 18 = .ok (.ireturn, 1) := by decide +kernel
theorem dL_law_0 : decode cL_law 0 = .ok (.new 8, 3) := by decide +kernel
theorem dL_law_3 : decode cL_law 3 = .ok (.dup, 1) := by decide +kernel
theorem dL_law_4 : decode cL_law 4 = .ok (.invokespecial 74, 3) := by decide +kernel
theorem dL_law_7 : decode cL_law 7 = .ok (.astore_n 1, 1) := by decide +kernel
theorem dL_law_8 : decode cL_law 8 = .ok (.new 75, 3) := by decide +kernel
theorem dL_law_11 : decode cL_law 11 = .ok (.dup, 1) := by decide +kernel
theorem dL_law_12 : decode cL_law 12 = .ok (.invokespecial 77, 3) := by decide +kernel
theorem dL_law_15 : decode cL_law 15 = .ok (.astore_n 2, 1) := by decide +kernel
theorem dL_law_16 : decode cL_law 16 = .ok (.iconst 1, 1) := by decide +kernel
theorem dL_law_17 : decode cL_law 17 = .ok (.newarray .long, 2) := by decide +kernel
theorem dL_law_19 : decode cL_law 19 = .ok (.astore_n 3, 1) := by decide +kernel
theorem dL_law_20 : decode cL_law 20 = .ok (.iconst 0, 1) := by decide +kernel
theorem dL_law_21 : decode cL_law 21 = .ok (.istore 4, 2) := by decide +kernel
theorem dL_law_23 : decode cL_law 23 = .ok (.iload 4, 2) := by decide +kernel
theorem dL_law_25 : decode cL_law 25 = .ok (.aload_n 0, 1) := by decide +kernel
theorem dL_law_26 : decode cL_law 26 = .ok (.arraylength, 1) := by decide +kernel
theorem dL_law_27 : decode cL_law 27 = .ok (.iconst 4, 1) := by decide +kernel
theorem dL_law_28 : decode cL_law 28 = .ok (.isub, 1) := by decide +kernel
theorem dL_law_29 : decode cL_law 29 = .ok (.if_icmp .gt 1400, 3) := by decide +kernel
theorem dL_law_32 : decode cL_law 32 = .ok (.aload_n 0, 1) := by decide +kernel
theorem dL_law_33 : decode cL_law 33 = .ok (.iload 4, 2) := by decide +kernel
theorem dL_law_35 : decode cL_law 35 = .ok (.iaload, 1) := by decide +kernel
theorem dL_law_36 : decode cL_law 36 = .ok (.bipush 31, 2) := by decide +kernel
theorem dL_law_38 : decode cL_law 38 = .ok (.iand, 1) := by decide +kernel
theorem dL_law_39 : decode cL_law 39 = .ok (.tableswitch 1384 0 25 #[117, 220, 300, 368, 412, 492, 572, 652, 720, 764, 808, 876, 889, 933, 946, 959, 1015, 1071, 1127, 1183, 1251, 1319, 1332, 1345, 1358, 1371], 117) := by decide +kernel
theorem dL_law_156 : decode cL_law 156 = .ok (.aload_n 1, 1) := by decide +kernel
theorem dL_law_157 : decode cL_law 157 = .ok (.aload_n 0, 1) := by decide +kernel
theorem dL_law_158 : decode cL_law 158 = .ok (.iload 4, 2) := by decide +kernel
theorem dL_law_160 : decode cL_law 160 = .ok (.iconst 1, 1) := by decide +kernel
theorem dL_law_161 : decode cL_law 161 = .ok (.iadd, 1) := by decide +kernel
theorem dL_law_162 : decode cL_law 162 = .ok (.iaload, 1) := by decide +kernel
theorem dL_law_163 : decode cL_law 163 = .ok (.aload_n 0, 1) := by decide +kernel
theorem dL_law_164 : decode cL_law 164 = .ok (.iload 4, 2) := by decide +kernel
theorem dL_law_166 : decode cL_law 166 = .ok (.iconst 2, 1) := by decide +kernel
theorem dL_law_167 : decode cL_law 167 = .ok (.iadd, 1) := by decide +kernel
theorem dL_law_168 : decode cL_law 168 = .ok (.iaload, 1) := by decide +kernel
theorem dL_law_169 : decode cL_law 169 = .ok (.aload_n 0, 1) := by decide +kernel
theorem dL_law_170 : decode cL_law 170 = .ok (.iload 4, 2) := by decide +kernel
theorem dL_law_172 : decode cL_law 172 = .ok (.iconst 3, 1) := by decide +kernel
theorem dL_law_173 : decode cL_law 173 = .ok (.iadd, 1) := by decide +kernel
theorem dL_law_174 : decode cL_law 174 = .ok (.iaload, 1) := by decide +kernel
theorem dL_law_175 : decode cL_law 175 = .ok (.ifCond .eq 7, 3) := by decide +kernel
theorem dL_law_178 : decode cL_law 178 = .ok (.iconst 1, 1) := by decide +kernel
theorem dL_law_179 : decode cL_law 179 = .ok (.goto 4, 3) := by decide +kernel
theorem dL_law_182 : decode cL_law 182 = .ok (.iconst 0, 1) := by decide +kernel
theorem dL_law_183 : decode cL_law 183 = .ok (.aload_n 3, 1) := by decide +kernel
theorem dL_law_184 : decode cL_law 184 = .ok (.invokestatic 78, 3) := by decide +kernel
theorem dL_law_187 : decode cL_law 187 = .ok (.istore 5, 2) := by decide +kernel
theorem dL_law_189 : decode cL_law 189 = .ok (.aload_n 2, 1) := by decide +kernel
theorem dL_law_190 : decode cL_law 190 = .ok (.aload_n 0, 1) := by decide +kernel
theorem dL_law_191 : decode cL_law 191 = .ok (.iload 4, 2) := by decide +kernel
theorem dL_law_193 : decode cL_law 193 = .ok (.iconst 1, 1) := by decide +kernel
theorem dL_law_194 : decode cL_law 194 = .ok (.iadd, 1) := by decide +kernel
theorem dL_law_195 : decode cL_law 195 = .ok (.iaload, 1) := by decide +kernel
theorem dL_law_196 : decode cL_law 196 = .ok (.aload_n 0, 1) := by decide +kernel
theorem dL_law_197 : decode cL_law 197 = .ok (.iload 4, 2) := by decide +kernel
theorem dL_law_199 : decode cL_law 199 = .ok (.iconst 2, 1) := by decide +kernel
theorem dL_law_200 : decode cL_law 200 = .ok (.iadd, 1) := by decide +kernel
theorem dL_law_201 : decode cL_law 201 = .ok (.iaload, 1) := by decide +kernel
theorem dL_law_202 : decode cL_law 202 = .ok (.aload_n 0, 1) := by decide +kernel
theorem dL_law_203 : decode cL_law 203 = .ok (.iload 4, 2) := by decide +kernel
theorem dL_law_205 : decode cL_law 205 = .ok (.iconst 3, 1) := by decide +kernel
theorem dL_law_206 : decode cL_law 206 = .ok (.iadd, 1) := by decide +kernel
theorem dL_law_207 : decode cL_law 207 = .ok (.iaload, 1) := by decide +kernel
theorem dL_law_208 : decode cL_law 208 = .ok (.ifCond .eq 7, 3) := by decide +kernel
theorem dL_law_211 : decode cL_law 211 = .ok (.iconst 1, 1) := by decide +kernel
theorem dL_law_212 : decode cL_law 212 = .ok (.goto 4, 3) := by decide +kernel
theorem dL_law_215 : decode cL_law 215 = .ok (.iconst 0, 1) := by decide +kernel
theorem dL_law_216 : decode cL_law 216 = .ok (.invokevirtual 83, 3) := by decide +kernel
theorem dL_law_219 : decode cL_law 219 = .ok (.istore 6, 2) := by decide +kernel
theorem dL_law_221 : decode cL_law 221 = .ok (.aload_n 2, 1) := by decide +kernel
theorem dL_law_222 : decode cL_law 222 = .ok (.invokevirtual 84, 3) := by decide +kernel
theorem dL_law_225 : decode cL_law 225 = .ok (.iload 5, 2) := by decide +kernel
theorem dL_law_227 : decode cL_law 227 = .ok (.if_icmp .eq 5, 3) := by decide +kernel
theorem dL_law_230 : decode cL_law 230 = .ok (.iconst 0, 1) := by decide +kernel
theorem dL_law_231 : decode cL_law 231 = .ok (.ireturn, 1) := by decide +kernel
theorem dL_law_232 : decode cL_law 232 = .ok (.iload 5, 2) := by decide +kernel
theorem dL_law_234 : decode cL_law 234 = .ok (.ifCond .ne 22, 3) := by decide +kernel
theorem dL_law_237 : decode cL_law 237 = .ok (.aload_n 3, 1) := by decide +kernel
theorem dL_law_238 : decode cL_law 238 = .ok (.iconst 0, 1) := by decide +kernel
theorem dL_law_239 : decode cL_law 239 = .ok (.laload, 1) := by decide +kernel
theorem dL_law_240 : decode cL_law 240 = .ok (.iload 6, 2) := by decide +kernel
theorem dL_law_242 : decode cL_law 242 = .ok (.ifCond .eq 7, 3) := by decide +kernel
theorem dL_law_245 : decode cL_law 245 = .ok (.lconst 1, 1) := by decide +kernel
theorem dL_law_246 : decode cL_law 246 = .ok (.goto 4, 3) := by decide +kernel
theorem dL_law_249 : decode cL_law 249 = .ok (.lconst 0, 1) := by decide +kernel
theorem dL_law_250 : decode cL_law 250 = .ok (.lcmp, 1) := by decide +kernel
theorem dL_law_251 : decode cL_law 251 = .ok (.ifCond .eq 5, 3) := by decide +kernel
theorem dL_law_254 : decode cL_law 254 = .ok (.iconst 0, 1) := by decide +kernel
theorem dL_law_255 : decode cL_law 255 = .ok (.ireturn, 1) := by decide +kernel
theorem dL_law_256 : decode cL_law 256 = .ok (.goto 1167, 3) := by decide +kernel
theorem dL_law_259 : decode cL_law 259 = .ok (.aload_n 1, 1) := by decide +kernel
theorem dL_law_260 : decode cL_law 260 = .ok (.aload_n 0, 1) := by decide +kernel
theorem dL_law_261 : decode cL_law 261 = .ok (.iload 4, 2) := by decide +kernel
theorem dL_law_263 : decode cL_law 263 = .ok (.iconst 1, 1) := by decide +kernel
theorem dL_law_264 : decode cL_law 264 = .ok (.iadd, 1) := by decide +kernel
theorem dL_law_265 : decode cL_law 265 = .ok (.iaload, 1) := by decide +kernel
theorem dL_law_266 : decode cL_law 266 = .ok (.aload_n 0, 1) := by decide +kernel
theorem dL_law_267 : decode cL_law 267 = .ok (.iload 4, 2) := by decide +kernel
theorem dL_law_269 : decode cL_law 269 = .ok (.iconst 2, 1) := by decide +kernel
theorem dL_law_270 : decode cL_law 270 = .ok (.iadd, 1) := by decide +kernel
theorem dL_law_271 : decode cL_law 271 = .ok (.iaload, 1) := by decide +kernel
theorem dL_law_272 : decode cL_law 272 = .ok (.aload_n 0, 1) := by decide +kernel
theorem dL_law_273 : decode cL_law 273 = .ok (.iload 4, 2) := by decide +kernel
theorem dL_law_275 : decode cL_law 275 = .ok (.iconst 3, 1) := by decide +kernel
theorem dL_law_276 : decode cL_law 276 = .ok (.iadd, 1) := by decide +kernel
theorem dL_law_277 : decode cL_law 277 = .ok (.iaload, 1) := by decide +kernel
theorem dL_law_278 : decode cL_law 278 = .ok (.aload_n 3, 1) := by decide +kernel
theorem dL_law_279 : decode cL_law 279 = .ok (.invokestatic 87, 3) := by decide +kernel
theorem dL_law_282 : decode cL_law 282 = .ok (.istore 5, 2) := by decide +kernel
theorem dL_law_284 : decode cL_law 284 = .ok (.aload_n 2, 1) := by decide +kernel
theorem dL_law_285 : decode cL_law 285 = .ok (.aload_n 0, 1) := by decide +kernel
theorem dL_law_286 : decode cL_law 286 = .ok (.iload 4, 2) := by decide +kernel
theorem dL_law_288 : decode cL_law 288 = .ok (.iconst 1, 1) := by decide +kernel
theorem dL_law_289 : decode cL_law 289 = .ok (.iadd, 1) := by decide +kernel
theorem dL_law_290 : decode cL_law 290 = .ok (.iaload, 1) := by decide +kernel
theorem dL_law_291 : decode cL_law 291 = .ok (.aload_n 0, 1) := by decide +kernel
theorem dL_law_292 : decode cL_law 292 = .ok (.iload 4, 2) := by decide +kernel
theorem dL_law_294 : decode cL_law 294 = .ok (.iconst 2, 1) := by decide +kernel
theorem dL_law_295 : decode cL_law 295 = .ok (.iadd, 1) := by decide +kernel
theorem dL_law_296 : decode cL_law 296 = .ok (.iaload, 1) := by decide +kernel
theorem dL_law_297 : decode cL_law 297 = .ok (.aload_n 0, 1) := by decide +kernel
theorem dL_law_298 : decode cL_law 298 = .ok (.iload 4, 2) := by decide +kernel
theorem dL_law_300 : decode cL_law 300 = .ok (.iconst 3, 1) := by decide +kernel
theorem dL_law_301 : decode cL_law 301 = .ok (.iadd, 1) := by decide +kernel
theorem dL_law_302 : decode cL_law 302 = .ok (.iaload, 1) := by decide +kernel
theorem dL_law_303 : decode cL_law 303 = .ok (.invokevirtual 90, 3) := by decide +kernel
theorem dL_law_306 : decode cL_law 306 = .ok (.istore 6, 2) := by decide +kernel
theorem dL_law_308 : decode cL_law 308 = .ok (.aload_n 2, 1) := by decide +kernel
theorem dL_law_309 : decode cL_law 309 = .ok (.invokevirtual 84, 3) := by decide +kernel
theorem dL_law_312 : decode cL_law 312 = .ok (.iload 5, 2) := by decide +kernel
theorem dL_law_314 : decode cL_law 314 = .ok (.if_icmp .eq 5, 3) := by decide +kernel
theorem dL_law_317 : decode cL_law 317 = .ok (.iconst 0, 1) := by decide +kernel
theorem dL_law_318 : decode cL_law 318 = .ok (.ireturn, 1) := by decide +kernel
theorem dL_law_319 : decode cL_law 319 = .ok (.iload 5, 2) := by decide +kernel
theorem dL_law_321 : decode cL_law 321 = .ok (.ifCond .ne 15, 3) := by decide +kernel
theorem dL_law_324 : decode cL_law 324 = .ok (.aload_n 3, 1) := by decide +kernel
theorem dL_law_325 : decode cL_law 325 = .ok (.iconst 0, 1) := by decide +kernel
theorem dL_law_326 : decode cL_law 326 = .ok (.laload, 1) := by decide +kernel
theorem dL_law_327 : decode cL_law 327 = .ok (.iload 6, 2) := by decide +kernel
theorem dL_law_329 : decode cL_law 329 = .ok (.i2l, 1) := by decide +kernel
theorem dL_law_330 : decode cL_law 330 = .ok (.lcmp, 1) := by decide +kernel
theorem dL_law_331 : decode cL_law 331 = .ok (.ifCond .eq 5, 3) := by decide +kernel
theorem dL_law_334 : decode cL_law 334 = .ok (.iconst 0, 1) := by decide +kernel
theorem dL_law_335 : decode cL_law 335 = .ok (.ireturn, 1) := by decide +kernel
theorem dL_law_336 : decode cL_law 336 = .ok (.goto 1087, 3) := by decide +kernel
theorem dL_law_339 : decode cL_law 339 = .ok (.aload_n 1, 1) := by decide +kernel
theorem dL_law_340 : decode cL_law 340 = .ok (.aload_n 0, 1) := by decide +kernel
theorem dL_law_341 : decode cL_law 341 = .ok (.iload 4, 2) := by decide +kernel
theorem dL_law_343 : decode cL_law 343 = .ok (.iconst 1, 1) := by decide +kernel
theorem dL_law_344 : decode cL_law 344 = .ok (.iadd, 1) := by decide +kernel
theorem dL_law_345 : decode cL_law 345 = .ok (.iaload, 1) := by decide +kernel
theorem dL_law_346 : decode cL_law 346 = .ok (.aload_n 0, 1) := by decide +kernel
theorem dL_law_347 : decode cL_law 347 = .ok (.iload 4, 2) := by decide +kernel
theorem dL_law_349 : decode cL_law 349 = .ok (.iconst 2, 1) := by decide +kernel
theorem dL_law_350 : decode cL_law 350 = .ok (.iadd, 1) := by decide +kernel
theorem dL_law_351 : decode cL_law 351 = .ok (.iaload, 1) := by decide +kernel
theorem dL_law_352 : decode cL_law 352 = .ok (.aload_n 3, 1) := by decide +kernel
theorem dL_law_353 : decode cL_law 353 = .ok (.invokestatic 91, 3) := by decide +kernel
theorem dL_law_356 : decode cL_law 356 = .ok (.istore 5, 2) := by decide +kernel
theorem dL_law_358 : decode cL_law 358 = .ok (.aload_n 2, 1) := by decide +kernel
theorem dL_law_359 : decode cL_law 359 = .ok (.aload_n 0, 1) := by decide +kernel
theorem dL_law_360 : decode cL_law 360 = .ok (.iload 4, 2) := by decide +kernel
theorem dL_law_362 : decode cL_law 362 = .ok (.iconst 1, 1) := by decide +kernel
theorem dL_law_363 : decode cL_law 363 = .ok (.iadd, 1) := by decide +kernel
theorem dL_law_364 : decode cL_law 364 = .ok (.iaload, 1) := by decide +kernel
theorem dL_law_365 : decode cL_law 365 = .ok (.aload_n 0, 1) := by decide +kernel
theorem dL_law_366 : decode cL_law 366 = .ok (.iload 4, 2) := by decide +kernel
theorem dL_law_368 : decode cL_law 368 = .ok (.iconst 2, 1) := by decide +kernel
theorem dL_law_369 : decode cL_law 369 = .ok (.iadd, 1) := by decide +kernel
theorem dL_law_370 : decode cL_law 370 = .ok (.iaload, 1) := by decide +kernel
theorem dL_law_371 : decode cL_law 371 = .ok (.invokevirtual 94, 3) := by decide +kernel
theorem dL_law_374 : decode cL_law 374 = .ok (.istore 6, 2) := by decide +kernel
theorem dL_law_376 : decode cL_law 376 = .ok (.aload_n 2, 1) := by decide +kernel
theorem dL_law_377 : decode cL_law 377 = .ok (.invokevirtual 84, 3) := by decide +kernel
theorem dL_law_380 : decode cL_law 380 = .ok (.iload 5, 2) := by decide +kernel
theorem dL_law_382 : decode cL_law 382 = .ok (.if_icmp .eq 5, 3) := by decide +kernel
theorem dL_law_385 : decode cL_law 385 = .ok (.iconst 0, 1) := by decide +kernel
theorem dL_law_386 : decode cL_law 386 = .ok (.ireturn, 1) := by decide +kernel
theorem dL_law_387 : decode cL_law 387 = .ok (.iload 5, 2) := by decide +kernel
theorem dL_law_389 : decode cL_law 389 = .ok (.ifCond .ne 15, 3) := by decide +kernel
theorem dL_law_392 : decode cL_law 392 = .ok (.aload_n 3, 1) := by decide +kernel
theorem dL_law_393 : decode cL_law 393 = .ok (.iconst 0, 1) := by decide +kernel
theorem dL_law_394 : decode cL_law 394 = .ok (.laload, 1) := by decide +kernel
theorem dL_law_395 : decode cL_law 395 = .ok (.iload 6, 2) := by decide +kernel
theorem dL_law_397 : decode cL_law 397 = .ok (.i2l, 1) := by decide +kernel
theorem dL_law_398 : decode cL_law 398 = .ok (.lcmp, 1) := by decide +kernel
theorem dL_law_399 : decode cL_law 399 = .ok (.ifCond .eq 5, 3) := by decide +kernel
theorem dL_law_402 : decode cL_law 402 = .ok (.iconst 0, 1) := by decide +kernel
theorem dL_law_403 : decode cL_law 403 = .ok (.ireturn, 1) := by decide +kernel
theorem dL_law_404 : decode cL_law 404 = .ok (.goto 1019, 3) := by decide +kernel
theorem dL_law_407 : decode cL_law 407 = .ok (.aload_n 1, 1) := by decide +kernel
theorem dL_law_408 : decode cL_law 408 = .ok (.aload_n 3, 1) := by decide +kernel
theorem dL_law_409 : decode cL_law 409 = .ok (.invokestatic 95, 3) := by decide +kernel
theorem dL_law_412 : decode cL_law 412 = .ok (.istore 5, 2) := by decide +kernel
theorem dL_law_414 : decode cL_law 414 = .ok (.aload_n 2, 1) := by decide +kernel
theorem dL_law_415 : decode cL_law 415 = .ok (.invokevirtual 98, 3) := by decide +kernel
theorem dL_law_418 : decode cL_law 418 = .ok (.istore 6, 2) := by decide +kernel
theorem dL_law_420 : decode cL_law 420 = .ok (.aload_n 2, 1) := by decide +kernel
theorem dL_law_421 : decode cL_law 421 = .ok (.invokevirtual 84, 3) := by decide +kernel
theorem dL_law_424 : decode cL_law 424 = .ok (.iload 5, 2) := by decide +kernel
theorem dL_law_426 : decode cL_law 426 = .ok (.if_icmp .eq 5, 3) := by decide +kernel
theorem dL_law_429 : decode cL_law 429 = .ok (.iconst 0, 1) := by decide +kernel
theorem dL_law_430 : decode cL_law 430 = .ok (.ireturn, 1) := by decide +kernel
theorem dL_law_431 : decode cL_law 431 = .ok (.iload 5, 2) := by decide +kernel
theorem dL_law_433 : decode cL_law 433 = .ok (.ifCond .ne 15, 3) := by decide +kernel
theorem dL_law_436 : decode cL_law 436 = .ok (.aload_n 3, 1) := by decide +kernel
theorem dL_law_437 : decode cL_law 437 = .ok (.iconst 0, 1) := by decide +kernel
theorem dL_law_438 : decode cL_law 438 = .ok (.laload, 1) := by decide +kernel
theorem dL_law_439 : decode cL_law 439 = .ok (.iload 6, 2) := by decide +kernel
theorem dL_law_441 : decode cL_law 441 = .ok (.i2l, 1) := by decide +kernel
theorem dL_law_442 : decode cL_law 442 = .ok (.lcmp, 1) := by decide +kernel
theorem dL_law_443 : decode cL_law 443 = .ok (.ifCond .eq 5, 3) := by decide +kernel
theorem dL_law_446 : decode cL_law 446 = .ok (.iconst 0, 1) := by decide +kernel
theorem dL_law_447 : decode cL_law 447 = .ok (.ireturn, 1) := by decide +kernel
theorem dL_law_448 : decode cL_law 448 = .ok (.goto 975, 3) := by decide +kernel
theorem dL_law_451 : decode cL_law 451 = .ok (.aload_n 1, 1) := by decide +kernel
theorem dL_law_452 : decode cL_law 452 = .ok (.aload_n 0, 1) := by decide +kernel
theorem dL_law_453 : decode cL_law 453 = .ok (.iload 4, 2) := by decide +kernel
theorem dL_law_455 : decode cL_law 455 = .ok (.iconst 1, 1) := by decide +kernel
theorem dL_law_456 : decode cL_law 456 = .ok (.iadd, 1) := by decide +kernel
theorem dL_law_457 : decode cL_law 457 = .ok (.iaload, 1) := by decide +kernel
theorem dL_law_458 : decode cL_law 458 = .ok (.aload_n 0, 1) := by decide +kernel
theorem dL_law_459 : decode cL_law 459 = .ok (.iload 4, 2) := by decide +kernel
theorem dL_law_461 : decode cL_law 461 = .ok (.iconst 2, 1) := by decide +kernel
theorem dL_law_462 : decode cL_law 462 = .ok (.iadd, 1) := by decide +kernel
theorem dL_law_463 : decode cL_law 463 = .ok (.iaload, 1) := by decide +kernel
theorem dL_law_464 : decode cL_law 464 = .ok (.aload_n 0, 1) := by decide +kernel
theorem dL_law_465 : decode cL_law 465 = .ok (.iload 4, 2) := by decide +kernel
theorem dL_law_467 : decode cL_law 467 = .ok (.iconst 3, 1) := by decide +kernel
theorem dL_law_468 : decode cL_law 468 = .ok (.iadd, 1) := by decide +kernel
theorem dL_law_469 : decode cL_law 469 = .ok (.iaload, 1) := by decide +kernel
theorem dL_law_470 : decode cL_law 470 = .ok (.aload_n 3, 1) := by decide +kernel
theorem dL_law_471 : decode cL_law 471 = .ok (.invokestatic 99, 3) := by decide +kernel
theorem dL_law_474 : decode cL_law 474 = .ok (.istore 5, 2) := by decide +kernel
theorem dL_law_476 : decode cL_law 476 = .ok (.aload_n 2, 1) := by decide +kernel
theorem dL_law_477 : decode cL_law 477 = .ok (.aload_n 0, 1) := by decide +kernel
theorem dL_law_478 : decode cL_law 478 = .ok (.iload 4, 2) := by decide +kernel
theorem dL_law_480 : decode cL_law 480 = .ok (.iconst 1, 1) := by decide +kernel
theorem dL_law_481 : decode cL_law 481 = .ok (.iadd, 1) := by decide +kernel
theorem dL_law_482 : decode cL_law 482 = .ok (.iaload, 1) := by decide +kernel
theorem dL_law_483 : decode cL_law 483 = .ok (.aload_n 0, 1) := by decide +kernel
theorem dL_law_484 : decode cL_law 484 = .ok (.iload 4, 2) := by decide +kernel
theorem dL_law_486 : decode cL_law 486 = .ok (.iconst 2, 1) := by decide +kernel
theorem dL_law_487 : decode cL_law 487 = .ok (.iadd, 1) := by decide +kernel
theorem dL_law_488 : decode cL_law 488 = .ok (.iaload, 1) := by decide +kernel
theorem dL_law_489 : decode cL_law 489 = .ok (.aload_n 0, 1) := by decide +kernel
theorem dL_law_490 : decode cL_law 490 = .ok (.iload 4, 2) := by decide +kernel
theorem dL_law_492 : decode cL_law 492 = .ok (.iconst 3, 1) := by decide +kernel
theorem dL_law_493 : decode cL_law 493 = .ok (.iadd, 1) := by decide +kernel
theorem dL_law_494 : decode cL_law 494 = .ok (.iaload, 1) := by decide +kernel
theorem dL_law_495 : decode cL_law 495 = .ok (.invokevirtual 101, 3) := by decide +kernel
theorem dL_law_498 : decode cL_law 498 = .ok (.istore 6, 2) := by decide +kernel
theorem dL_law_500 : decode cL_law 500 = .ok (.aload_n 2, 1) := by decide +kernel
theorem dL_law_501 : decode cL_law 501 = .ok (.invokevirtual 84, 3) := by decide +kernel
theorem dL_law_504 : decode cL_law 504 = .ok (.iload 5, 2) := by decide +kernel
theorem dL_law_506 : decode cL_law 506 = .ok (.if_icmp .eq 5, 3) := by decide +kernel
theorem dL_law_509 : decode cL_law 509 = .ok (.iconst 0, 1) := by decide +kernel
theorem dL_law_510 : decode cL_law 510 = .ok (.ireturn, 1) := by decide +kernel
theorem dL_law_511 : decode cL_law 511 = .ok (.iload 5, 2) := by decide +kernel
theorem dL_law_513 : decode cL_law 513 = .ok (.ifCond .ne 15, 3) := by decide +kernel
theorem dL_law_516 : decode cL_law 516 = .ok (.aload_n 3, 1) := by decide +kernel
theorem dL_law_517 : decode cL_law 517 = .ok (.iconst 0, 1) := by decide +kernel
theorem dL_law_518 : decode cL_law 518 = .ok (.laload, 1) := by decide +kernel
theorem dL_law_519 : decode cL_law 519 = .ok (.iload 6, 2) := by decide +kernel
theorem dL_law_521 : decode cL_law 521 = .ok (.i2l, 1) := by decide +kernel
theorem dL_law_522 : decode cL_law 522 = .ok (.lcmp, 1) := by decide +kernel
theorem dL_law_523 : decode cL_law 523 = .ok (.ifCond .eq 5, 3) := by decide +kernel
theorem dL_law_526 : decode cL_law 526 = .ok (.iconst 0, 1) := by decide +kernel
theorem dL_law_527 : decode cL_law 527 = .ok (.ireturn, 1) := by decide +kernel
theorem dL_law_528 : decode cL_law 528 = .ok (.goto 895, 3) := by decide +kernel
theorem dL_law_531 : decode cL_law 531 = .ok (.aload_n 1, 1) := by decide +kernel
theorem dL_law_532 : decode cL_law 532 = .ok (.aload_n 0, 1) := by decide +kernel
theorem dL_law_533 : decode cL_law 533 = .ok (.iload 4, 2) := by decide +kernel
theorem dL_law_535 : decode cL_law 535 = .ok (.iconst 1, 1) := by decide +kernel
theorem dL_law_536 : decode cL_law 536 = .ok (.iadd, 1) := by decide +kernel
theorem dL_law_537 : decode cL_law 537 = .ok (.iaload, 1) := by decide +kernel
theorem dL_law_538 : decode cL_law 538 = .ok (.aload_n 0, 1) := by decide +kernel
theorem dL_law_539 : decode cL_law 539 = .ok (.iload 4, 2) := by decide +kernel
theorem dL_law_541 : decode cL_law 541 = .ok (.iconst 2, 1) := by decide +kernel
theorem dL_law_542 : decode cL_law 542 = .ok (.iadd, 1) := by decide +kernel
theorem dL_law_543 : decode cL_law 543 = .ok (.iaload, 1) := by decide +kernel
theorem dL_law_544 : decode cL_law 544 = .ok (.aload_n 0, 1) := by decide +kernel
theorem dL_law_545 : decode cL_law 545 = .ok (.iload 4, 2) := by decide +kernel
theorem dL_law_547 : decode cL_law 547 = .ok (.iconst 3, 1) := by decide +kernel
theorem dL_law_548 : decode cL_law 548 = .ok (.iadd, 1) := by decide +kernel
theorem dL_law_549 : decode cL_law 549 = .ok (.iaload, 1) := by decide +kernel
theorem dL_law_550 : decode cL_law 550 = .ok (.aload_n 3, 1) := by decide +kernel
theorem dL_law_551 : decode cL_law 551 = .ok (.invokestatic 102, 3) := by decide +kernel
theorem dL_law_554 : decode cL_law 554 = .ok (.istore 5, 2) := by decide +kernel
theorem dL_law_556 : decode cL_law 556 = .ok (.aload_n 2, 1) := by decide +kernel
theorem dL_law_557 : decode cL_law 557 = .ok (.aload_n 0, 1) := by decide +kernel
theorem dL_law_558 : decode cL_law 558 = .ok (.iload 4, 2) := by decide +kernel
theorem dL_law_560 : decode cL_law 560 = .ok (.iconst 1, 1) := by decide +kernel
theorem dL_law_561 : decode cL_law 561 = .ok (.iadd, 1) := by decide +kernel
theorem dL_law_562 : decode cL_law 562 = .ok (.iaload, 1) := by decide +kernel
theorem dL_law_563 : decode cL_law 563 = .ok (.aload_n 0, 1) := by decide +kernel
theorem dL_law_564 : decode cL_law 564 = .ok (.iload 4, 2) := by decide +kernel
theorem dL_law_566 : decode cL_law 566 = .ok (.iconst 2, 1) := by decide +kernel
theorem dL_law_567 : decode cL_law 567 = .ok (.iadd, 1) := by decide +kernel
theorem dL_law_568 : decode cL_law 568 = .ok (.iaload, 1) := by decide +kernel
theorem dL_law_569 : decode cL_law 569 = .ok (.aload_n 0, 1) := by decide +kernel
theorem dL_law_570 : decode cL_law 570 = .ok (.iload 4, 2) := by decide +kernel
theorem dL_law_572 : decode cL_law 572 = .ok (.iconst 3, 1) := by decide +kernel
theorem dL_law_573 : decode cL_law 573 = .ok (.iadd, 1) := by decide +kernel
theorem dL_law_574 : decode cL_law 574 = .ok (.iaload, 1) := by decide +kernel
theorem dL_law_575 : decode cL_law 575 = .ok (.invokevirtual 104, 3) := by decide +kernel
theorem dL_law_578 : decode cL_law 578 = .ok (.istore 6, 2) := by decide +kernel
theorem dL_law_580 : decode cL_law 580 = .ok (.aload_n 2, 1) := by decide +kernel
theorem dL_law_581 : decode cL_law 581 = .ok (.invokevirtual 84, 3) := by decide +kernel
theorem dL_law_584 : decode cL_law 584 = .ok (.iload 5, 2) := by decide +kernel
theorem dL_law_586 : decode cL_law 586 = .ok (.if_icmp .eq 5, 3) := by decide +kernel
theorem dL_law_589 : decode cL_law 589 = .ok (.iconst 0, 1) := by decide +kernel
theorem dL_law_590 : decode cL_law 590 = .ok (.ireturn, 1) := by decide +kernel
theorem dL_law_591 : decode cL_law 591 = .ok (.iload 5, 2) := by decide +kernel
theorem dL_law_593 : decode cL_law 593 = .ok (.ifCond .ne 15, 3) := by decide +kernel
theorem dL_law_596 : decode cL_law 596 = .ok (.aload_n 3, 1) := by decide +kernel
theorem dL_law_597 : decode cL_law 597 = .ok (.iconst 0, 1) := by decide +kernel
theorem dL_law_598 : decode cL_law 598 = .ok (.laload, 1) := by decide +kernel
theorem dL_law_599 : decode cL_law 599 = .ok (.iload 6, 2) := by decide +kernel
theorem dL_law_601 : decode cL_law 601 = .ok (.i2l, 1) := by decide +kernel
theorem dL_law_602 : decode cL_law 602 = .ok (.lcmp, 1) := by decide +kernel
theorem dL_law_603 : decode cL_law 603 = .ok (.ifCond .eq 5, 3) := by decide +kernel
theorem dL_law_606 : decode cL_law 606 = .ok (.iconst 0, 1) := by decide +kernel
theorem dL_law_607 : decode cL_law 607 = .ok (.ireturn, 1) := by decide +kernel
theorem dL_law_608 : decode cL_law 608 = .ok (.goto 815, 3) := by decide +kernel
theorem dL_law_611 : decode cL_law 611 = .ok (.aload_n 1, 1) := by decide +kernel
theorem dL_law_612 : decode cL_law 612 = .ok (.aload_n 0, 1) := by decide +kernel
theorem dL_law_613 : decode cL_law 613 = .ok (.iload 4, 2) := by decide +kernel
theorem dL_law_615 : decode cL_law 615 = .ok (.iconst 1, 1) := by decide +kernel
theorem dL_law_616 : decode cL_law 616 = .ok (.iadd, 1) := by decide +kernel
theorem dL_law_617 : decode cL_law 617 = .ok (.iaload, 1) := by decide +kernel
theorem dL_law_618 : decode cL_law 618 = .ok (.aload_n 0, 1) := by decide +kernel
theorem dL_law_619 : decode cL_law 619 = .ok (.iload 4, 2) := by decide +kernel
theorem dL_law_621 : decode cL_law 621 = .ok (.iconst 2, 1) := by decide +kernel
theorem dL_law_622 : decode cL_law 622 = .ok (.iadd, 1) := by decide +kernel
theorem dL_law_623 : decode cL_law 623 = .ok (.iaload, 1) := by decide +kernel
theorem dL_law_624 : decode cL_law 624 = .ok (.aload_n 0, 1) := by decide +kernel
theorem dL_law_625 : decode cL_law 625 = .ok (.iload 4, 2) := by decide +kernel
theorem dL_law_627 : decode cL_law 627 = .ok (.iconst 3, 1) := by decide +kernel
theorem dL_law_628 : decode cL_law 628 = .ok (.iadd, 1) := by decide +kernel
theorem dL_law_629 : decode cL_law 629 = .ok (.iaload, 1) := by decide +kernel
theorem dL_law_630 : decode cL_law 630 = .ok (.aload_n 3, 1) := by decide +kernel
theorem dL_law_631 : decode cL_law 631 = .ok (.invokestatic 105, 3) := by decide +kernel
theorem dL_law_634 : decode cL_law 634 = .ok (.istore 5, 2) := by decide +kernel
theorem dL_law_636 : decode cL_law 636 = .ok (.aload_n 2, 1) := by decide +kernel
theorem dL_law_637 : decode cL_law 637 = .ok (.aload_n 0, 1) := by decide +kernel
theorem dL_law_638 : decode cL_law 638 = .ok (.iload 4, 2) := by decide +kernel
theorem dL_law_640 : decode cL_law 640 = .ok (.iconst 1, 1) := by decide +kernel
theorem dL_law_641 : decode cL_law 641 = .ok (.iadd, 1) := by decide +kernel
theorem dL_law_642 : decode cL_law 642 = .ok (.iaload, 1) := by decide +kernel
theorem dL_law_643 : decode cL_law 643 = .ok (.aload_n 0, 1) := by decide +kernel
theorem dL_law_644 : decode cL_law 644 = .ok (.iload 4, 2) := by decide +kernel
theorem dL_law_646 : decode cL_law 646 = .ok (.iconst 2, 1) := by decide +kernel
theorem dL_law_647 : decode cL_law 647 = .ok (.iadd, 1) := by decide +kernel
theorem dL_law_648 : decode cL_law 648 = .ok (.iaload, 1) := by decide +kernel
theorem dL_law_649 : decode cL_law 649 = .ok (.aload_n 0, 1) := by decide +kernel
theorem dL_law_650 : decode cL_law 650 = .ok (.iload 4, 2) := by decide +kernel
theorem dL_law_652 : decode cL_law 652 = .ok (.iconst 3, 1) := by decide +kernel
theorem dL_law_653 : decode cL_law 653 = .ok (.iadd, 1) := by decide +kernel
theorem dL_law_654 : decode cL_law 654 = .ok (.iaload, 1) := by decide +kernel
theorem dL_law_655 : decode cL_law 655 = .ok (.invokevirtual 107, 3) := by decide +kernel
theorem dL_law_658 : decode cL_law 658 = .ok (.istore 6, 2) := by decide +kernel
theorem dL_law_660 : decode cL_law 660 = .ok (.aload_n 2, 1) := by decide +kernel
theorem dL_law_661 : decode cL_law 661 = .ok (.invokevirtual 84, 3) := by decide +kernel
theorem dL_law_664 : decode cL_law 664 = .ok (.iload 5, 2) := by decide +kernel
theorem dL_law_666 : decode cL_law 666 = .ok (.if_icmp .eq 5, 3) := by decide +kernel
theorem dL_law_669 : decode cL_law 669 = .ok (.iconst 0, 1) := by decide +kernel
theorem dL_law_670 : decode cL_law 670 = .ok (.ireturn, 1) := by decide +kernel
theorem dL_law_671 : decode cL_law 671 = .ok (.iload 5, 2) := by decide +kernel
theorem dL_law_673 : decode cL_law 673 = .ok (.ifCond .ne 15, 3) := by decide +kernel
theorem dL_law_676 : decode cL_law 676 = .ok (.aload_n 3, 1) := by decide +kernel
theorem dL_law_677 : decode cL_law 677 = .ok (.iconst 0, 1) := by decide +kernel
theorem dL_law_678 : decode cL_law 678 = .ok (.laload, 1) := by decide +kernel
theorem dL_law_679 : decode cL_law 679 = .ok (.iload 6, 2) := by decide +kernel
theorem dL_law_681 : decode cL_law 681 = .ok (.i2l, 1) := by decide +kernel
theorem dL_law_682 : decode cL_law 682 = .ok (.lcmp, 1) := by decide +kernel
theorem dL_law_683 : decode cL_law 683 = .ok (.ifCond .eq 5, 3) := by decide +kernel
theorem dL_law_686 : decode cL_law 686 = .ok (.iconst 0, 1) := by decide +kernel
theorem dL_law_687 : decode cL_law 687 = .ok (.ireturn, 1) := by decide +kernel
theorem dL_law_688 : decode cL_law 688 = .ok (.goto 735, 3) := by decide +kernel
theorem dL_law_691 : decode cL_law 691 = .ok (.aload_n 1, 1) := by decide +kernel
theorem dL_law_692 : decode cL_law 692 = .ok (.aload_n 0, 1) := by decide +kernel
theorem dL_law_693 : decode cL_law 693 = .ok (.iload 4, 2) := by decide +kernel
theorem dL_law_695 : decode cL_law 695 = .ok (.iconst 1, 1) := by decide +kernel
theorem dL_law_696 : decode cL_law 696 = .ok (.iadd, 1) := by decide +kernel
theorem dL_law_697 : decode cL_law 697 = .ok (.iaload, 1) := by decide +kernel
theorem dL_law_698 : decode cL_law 698 = .ok (.aload_n 0, 1) := by decide +kernel
theorem dL_law_699 : decode cL_law 699 = .ok (.iload 4, 2) := by decide +kernel
theorem dL_law_701 : decode cL_law 701 = .ok (.iconst 2, 1) := by decide +kernel
theorem dL_law_702 : decode cL_law 702 = .ok (.iadd, 1) := by decide +kernel
theorem dL_law_703 : decode cL_law 703 = .ok (.iaload, 1) := by decide +kernel
theorem dL_law_704 : decode cL_law 704 = .ok (.aload_n 3, 1) := by decide +kernel
theorem dL_law_705 : decode cL_law 705 = .ok (.invokestatic 108, 3) := by decide +kernel
theorem dL_law_708 : decode cL_law 708 = .ok (.istore 5, 2) := by decide +kernel
theorem dL_law_710 : decode cL_law 710 = .ok (.aload_n 2, 1) := by decide +kernel
theorem dL_law_711 : decode cL_law 711 = .ok (.aload_n 0, 1) := by decide +kernel
theorem dL_law_712 : decode cL_law 712 = .ok (.iload 4, 2) := by decide +kernel
theorem dL_law_714 : decode cL_law 714 = .ok (.iconst 1, 1) := by decide +kernel
theorem dL_law_715 : decode cL_law 715 = .ok (.iadd, 1) := by decide +kernel
theorem dL_law_716 : decode cL_law 716 = .ok (.iaload, 1) := by decide +kernel
theorem dL_law_717 : decode cL_law 717 = .ok (.aload_n 0, 1) := by decide +kernel
theorem dL_law_718 : decode cL_law 718 = .ok (.iload 4, 2) := by decide +kernel
theorem dL_law_720 : decode cL_law 720 = .ok (.iconst 2, 1) := by decide +kernel
theorem dL_law_721 : decode cL_law 721 = .ok (.iadd, 1) := by decide +kernel
theorem dL_law_722 : decode cL_law 722 = .ok (.iaload, 1) := by decide +kernel
theorem dL_law_723 : decode cL_law 723 = .ok (.invokevirtual 110, 3) := by decide +kernel
theorem dL_law_726 : decode cL_law 726 = .ok (.istore 6, 2) := by decide +kernel
theorem dL_law_728 : decode cL_law 728 = .ok (.aload_n 2, 1) := by decide +kernel
theorem dL_law_729 : decode cL_law 729 = .ok (.invokevirtual 84, 3) := by decide +kernel
theorem dL_law_732 : decode cL_law 732 = .ok (.iload 5, 2) := by decide +kernel
theorem dL_law_734 : decode cL_law 734 = .ok (.if_icmp .eq 5, 3) := by decide +kernel
theorem dL_law_737 : decode cL_law 737 = .ok (.iconst 0, 1) := by decide +kernel
theorem dL_law_738 : decode cL_law 738 = .ok (.ireturn, 1) := by decide +kernel
theorem dL_law_739 : decode cL_law 739 = .ok (.iload 5, 2) := by decide +kernel
theorem dL_law_741 : decode cL_law 741 = .ok (.ifCond .ne 15, 3) := by decide +kernel
theorem dL_law_744 : decode cL_law 744 = .ok (.aload_n 3, 1) := by decide +kernel
theorem dL_law_745 : decode cL_law 745 = .ok (.iconst 0, 1) := by decide +kernel
theorem dL_law_746 : decode cL_law 746 = .ok (.laload, 1) := by decide +kernel
end
section
theorem dL_law_747 : decode cL_law 747 = .ok (.iload 6, 2) := by decide +kernel
theorem dL_law_749 : decode cL_law 749 = .ok (.i2l, 1) := by decide +kernel
theorem dL_law_750 : decode cL_law 750 = .ok (.lcmp, 1) := by decide +kernel
theorem dL_law_751 : decode cL_law 751 = .ok (.ifCond .eq 5, 3) := by decide +kernel
theorem dL_law_754 : decode cL_law 754 = .ok (.iconst 0, 1) := by decide +kernel
theorem dL_law_755 : decode cL_law 755 = .ok (.ireturn, 1) := by decide +kernel
theorem dL_law_756 : decode cL_law 756 = .ok (.goto 667, 3) := by decide +kernel
theorem dL_law_759 : decode cL_law 759 = .ok (.aload_n 1, 1) := by decide +kernel
theorem dL_law_760 : decode cL_law 760 = .ok (.aload_n 3, 1) := by decide +kernel
theorem dL_law_761 : decode cL_law 761 = .ok (.invokestatic 111, 3) := by decide +kernel
theorem dL_law_764 : decode cL_law 764 = .ok (.istore 5, 2) := by decide +kernel
theorem dL_law_766 : decode cL_law 766 = .ok (.aload_n 2, 1) := by decide +kernel
theorem dL_law_767 : decode cL_law 767 = .ok (.invokevirtual 113, 3) := by decide +kernel
theorem dL_law_770 : decode cL_law 770 = .ok (.istore 6, 2) := by decide +kernel
theorem dL_law_772 : decode cL_law 772 = .ok (.aload_n 2, 1) := by decide +kernel
theorem dL_law_773 : decode cL_law 773 = .ok (.invokevirtual 84, 3) := by decide +kernel
theorem dL_law_776 : decode cL_law 776 = .ok (.iload 5, 2) := by decide +kernel
theorem dL_law_778 : decode cL_law 778 = .ok (.if_icmp .eq 5, 3) := by decide +kernel
theorem dL_law_781 : decode cL_law 781 = .ok (.iconst 0, 1) := by decide +kernel
theorem dL_law_782 : decode cL_law 782 = .ok (.ireturn, 1) := by decide +kernel
theorem dL_law_783 : decode cL_law 783 = .ok (.iload 5, 2) := by decide +kernel
theorem dL_law_785 : decode cL_law 785 = .ok (.ifCond .ne 15, 3) := by decide +kernel
theorem dL_law_788 : decode cL_law 788 = .ok (.aload_n 3, 1) := by decide +kernel
theorem dL_law_789 : decode cL_law 789 = .ok (.iconst 0, 1) := by decide +kernel
theorem dL_law_790 : decode cL_law 790 = .ok (.laload, 1) := by decide +kernel
theorem dL_law_791 : decode cL_law 791 = .ok (.iload 6, 2) := by decide +kernel
theorem dL_law_793 : decode cL_law 793 = .ok (.i2l, 1) := by decide +kernel
theorem dL_law_794 : decode cL_law 794 = .ok (.lcmp, 1) := by decide +kernel
theorem dL_law_795 : decode cL_law 795 = .ok (.ifCond .eq 5, 3) := by decide +kernel
theorem dL_law_798 : decode cL_law 798 = .ok (.iconst 0, 1) := by decide +kernel
theorem dL_law_799 : decode cL_law 799 = .ok (.ireturn, 1) := by decide +kernel
theorem dL_law_800 : decode cL_law 800 = .ok (.goto 623, 3) := by decide +kernel
theorem dL_law_803 : decode cL_law 803 = .ok (.aload_n 1, 1) := by decide +kernel
theorem dL_law_804 : decode cL_law 804 = .ok (.aload_n 3, 1) := by decide +kernel
theorem dL_law_805 : decode cL_law 805 = .ok (.invokestatic 114, 3) := by decide +kernel
theorem dL_law_808 : decode cL_law 808 = .ok (.istore 5, 2) := by decide +kernel
theorem dL_law_810 : decode cL_law 810 = .ok (.aload_n 2, 1) := by decide +kernel
theorem dL_law_811 : decode cL_law 811 = .ok (.invokevirtual 116, 3) := by decide +kernel
theorem dL_law_814 : decode cL_law 814 = .ok (.istore 6, 2) := by decide +kernel
theorem dL_law_816 : decode cL_law 816 = .ok (.aload_n 2, 1) := by decide +kernel
theorem dL_law_817 : decode cL_law 817 = .ok (.invokevirtual 84, 3) := by decide +kernel
theorem dL_law_820 : decode cL_law 820 = .ok (.iload 5, 2) := by decide +kernel
theorem dL_law_822 : decode cL_law 822 = .ok (.if_icmp .eq 5, 3) := by decide +kernel
theorem dL_law_825 : decode cL_law 825 = .ok (.iconst 0, 1) := by decide +kernel
theorem dL_law_826 : decode cL_law 826 = .ok (.ireturn, 1) := by decide +kernel
theorem dL_law_827 : decode cL_law 827 = .ok (.iload 5, 2) := by decide +kernel
theorem dL_law_829 : decode cL_law 829 = .ok (.ifCond .ne 15, 3) := by decide +kernel
theorem dL_law_832 : decode cL_law 832 = .ok (.aload_n 3, 1) := by decide +kernel
theorem dL_law_833 : decode cL_law 833 = .ok (.iconst 0, 1) := by decide +kernel
theorem dL_law_834 : decode cL_law 834 = .ok (.laload, 1) := by decide +kernel
theorem dL_law_835 : decode cL_law 835 = .ok (.iload 6, 2) := by decide +kernel
theorem dL_law_837 : decode cL_law 837 = .ok (.i2l, 1) := by decide +kernel
theorem dL_law_838 : decode cL_law 838 = .ok (.lcmp, 1) := by decide +kernel
theorem dL_law_839 : decode cL_law 839 = .ok (.ifCond .eq 5, 3) := by decide +kernel
theorem dL_law_842 : decode cL_law 842 = .ok (.iconst 0, 1) := by decide +kernel
theorem dL_law_843 : decode cL_law 843 = .ok (.ireturn, 1) := by decide +kernel
theorem dL_law_844 : decode cL_law 844 = .ok (.goto 579, 3) := by decide +kernel
theorem dL_law_847 : decode cL_law 847 = .ok (.aload_n 1, 1) := by decide +kernel
theorem dL_law_848 : decode cL_law 848 = .ok (.aload_n 0, 1) := by decide +kernel
theorem dL_law_849 : decode cL_law 849 = .ok (.iload 4, 2) := by decide +kernel
theorem dL_law_851 : decode cL_law 851 = .ok (.iconst 1, 1) := by decide +kernel
theorem dL_law_852 : decode cL_law 852 = .ok (.iadd, 1) := by decide +kernel
theorem dL_law_853 : decode cL_law 853 = .ok (.iaload, 1) := by decide +kernel
theorem dL_law_854 : decode cL_law 854 = .ok (.aload_n 0, 1) := by decide +kernel
theorem dL_law_855 : decode cL_law 855 = .ok (.iload 4, 2) := by decide +kernel
theorem dL_law_857 : decode cL_law 857 = .ok (.iconst 2, 1) := by decide +kernel
theorem dL_law_858 : decode cL_law 858 = .ok (.iadd, 1) := by decide +kernel
theorem dL_law_859 : decode cL_law 859 = .ok (.iaload, 1) := by decide +kernel
theorem dL_law_860 : decode cL_law 860 = .ok (.aload_n 3, 1) := by decide +kernel
theorem dL_law_861 : decode cL_law 861 = .ok (.invokestatic 117, 3) := by decide +kernel
theorem dL_law_864 : decode cL_law 864 = .ok (.istore 5, 2) := by decide +kernel
theorem dL_law_866 : decode cL_law 866 = .ok (.aload_n 2, 1) := by decide +kernel
theorem dL_law_867 : decode cL_law 867 = .ok (.aload_n 0, 1) := by decide +kernel
theorem dL_law_868 : decode cL_law 868 = .ok (.iload 4, 2) := by decide +kernel
theorem dL_law_870 : decode cL_law 870 = .ok (.iconst 1, 1) := by decide +kernel
theorem dL_law_871 : decode cL_law 871 = .ok (.iadd, 1) := by decide +kernel
theorem dL_law_872 : decode cL_law 872 = .ok (.iaload, 1) := by decide +kernel
theorem dL_law_873 : decode cL_law 873 = .ok (.aload_n 0, 1) := by decide +kernel
theorem dL_law_874 : decode cL_law 874 = .ok (.iload 4, 2) := by decide +kernel
theorem dL_law_876 : decode cL_law 876 = .ok (.iconst 2, 1) := by decide +kernel
theorem dL_law_877 : decode cL_law 877 = .ok (.iadd, 1) := by decide +kernel
theorem dL_law_878 : decode cL_law 878 = .ok (.iaload, 1) := by decide +kernel
theorem dL_law_879 : decode cL_law 879 = .ok (.invokevirtual 119, 3) := by decide +kernel
theorem dL_law_882 : decode cL_law 882 = .ok (.istore 6, 2) := by decide +kernel
theorem dL_law_884 : decode cL_law 884 = .ok (.aload_n 2, 1) := by decide +kernel
theorem dL_law_885 : decode cL_law 885 = .ok (.invokevirtual 84, 3) := by decide +kernel
theorem dL_law_888 : decode cL_law 888 = .ok (.iload 5, 2) := by decide +kernel
theorem dL_law_890 : decode cL_law 890 = .ok (.if_icmp .eq 5, 3) := by decide +kernel
theorem dL_law_893 : decode cL_law 893 = .ok (.iconst 0, 1) := by decide +kernel
theorem dL_law_894 : decode cL_law 894 = .ok (.ireturn, 1) := by decide +kernel
theorem dL_law_895 : decode cL_law 895 = .ok (.iload 5, 2) := by decide +kernel
theorem dL_law_897 : decode cL_law 897 = .ok (.ifCond .ne 15, 3) := by decide +kernel
theorem dL_law_900 : decode cL_law 900 = .ok (.aload_n 3, 1) := by decide +kernel
theorem dL_law_901 : decode cL_law 901 = .ok (.iconst 0, 1) := by decide +kernel
theorem dL_law_902 : decode cL_law 902 = .ok (.laload, 1) := by decide +kernel
theorem dL_law_903 : decode cL_law 903 = .ok (.iload 6, 2) := by decide +kernel
theorem dL_law_905 : decode cL_law 905 = .ok (.i2l, 1) := by decide +kernel
theorem dL_law_906 : decode cL_law 906 = .ok (.lcmp, 1) := by decide +kernel
theorem dL_law_907 : decode cL_law 907 = .ok (.ifCond .eq 5, 3) := by decide +kernel
theorem dL_law_910 : decode cL_law 910 = .ok (.iconst 0, 1) := by decide +kernel
theorem dL_law_911 : decode cL_law 911 = .ok (.ireturn, 1) := by decide +kernel
theorem dL_law_912 : decode cL_law 912 = .ok (.goto 511, 3) := by decide +kernel
theorem dL_law_915 : decode cL_law 915 = .ok (.aload_n 1, 1) := by decide +kernel
theorem dL_law_916 : decode cL_law 916 = .ok (.invokevirtual 120, 3) := by decide +kernel
theorem dL_law_919 : decode cL_law 919 = .ok (.aload_n 2, 1) := by decide +kernel
theorem dL_law_920 : decode cL_law 920 = .ok (.invokevirtual 123, 3) := by decide +kernel
theorem dL_law_923 : decode cL_law 923 = .ok (.if_icmp .eq 500, 3) := by decide +kernel
theorem dL_law_926 : decode cL_law 926 = .ok (.iconst 0, 1) := by decide +kernel
theorem dL_law_927 : decode cL_law 927 = .ok (.ireturn, 1) := by decide +kernel
theorem dL_law_928 : decode cL_law 928 = .ok (.aload_n 1, 1) := by decide +kernel
theorem dL_law_929 : decode cL_law 929 = .ok (.aload_n 3, 1) := by decide +kernel
theorem dL_law_930 : decode cL_law 930 = .ok (.invokestatic 124, 3) := by decide +kernel
theorem dL_law_933 : decode cL_law 933 = .ok (.istore 5, 2) := by decide +kernel
theorem dL_law_935 : decode cL_law 935 = .ok (.aload_n 2, 1) := by decide +kernel
theorem dL_law_936 : decode cL_law 936 = .ok (.invokevirtual 126, 3) := by decide +kernel
theorem dL_law_939 : decode cL_law 939 = .ok (.istore 6, 2) := by decide +kernel
theorem dL_law_941 : decode cL_law 941 = .ok (.aload_n 2, 1) := by decide +kernel
theorem dL_law_942 : decode cL_law 942 = .ok (.invokevirtual 84, 3) := by decide +kernel
theorem dL_law_945 : decode cL_law 945 = .ok (.iload 5, 2) := by decide +kernel
theorem dL_law_947 : decode cL_law 947 = .ok (.if_icmp .eq 5, 3) := by decide +kernel
theorem dL_law_950 : decode cL_law 950 = .ok (.iconst 0, 1) := by decide +kernel
theorem dL_law_951 : decode cL_law 951 = .ok (.ireturn, 1) := by decide +kernel
theorem dL_law_952 : decode cL_law 952 = .ok (.iload 5, 2) := by decide +kernel
theorem dL_law_954 : decode cL_law 954 = .ok (.ifCond .ne 15, 3) := by decide +kernel
theorem dL_law_957 : decode cL_law 957 = .ok (.aload_n 3, 1) := by decide +kernel
theorem dL_law_958 : decode cL_law 958 = .ok (.iconst 0, 1) := by decide +kernel
theorem dL_law_959 : decode cL_law 959 = .ok (.laload, 1) := by decide +kernel
theorem dL_law_960 : decode cL_law 960 = .ok (.iload 6, 2) := by decide +kernel
theorem dL_law_962 : decode cL_law 962 = .ok (.i2l, 1) := by decide +kernel
theorem dL_law_963 : decode cL_law 963 = .ok (.lcmp, 1) := by decide +kernel
theorem dL_law_964 : decode cL_law 964 = .ok (.ifCond .eq 5, 3) := by decide +kernel
theorem dL_law_967 : decode cL_law 967 = .ok (.iconst 0, 1) := by decide +kernel
theorem dL_law_968 : decode cL_law 968 = .ok (.ireturn, 1) := by decide +kernel
theorem dL_law_969 : decode cL_law 969 = .ok (.goto 454, 3) := by decide +kernel
theorem dL_law_972 : decode cL_law 972 = .ok (.aload_n 1, 1) := by decide +kernel
theorem dL_law_973 : decode cL_law 973 = .ok (.invokevirtual 127, 3) := by decide +kernel
theorem dL_law_976 : decode cL_law 976 = .ok (.aload_n 2, 1) := by decide +kernel
theorem dL_law_977 : decode cL_law 977 = .ok (.invokevirtual 130, 3) := by decide +kernel
theorem dL_law_980 : decode cL_law 980 = .ok (.if_icmp .eq 443, 3) := by decide +kernel
theorem dL_law_983 : decode cL_law 983 = .ok (.iconst 0, 1) := by decide +kernel
theorem dL_law_984 : decode cL_law 984 = .ok (.ireturn, 1) := by decide +kernel
theorem dL_law_985 : decode cL_law 985 = .ok (.aload_n 1, 1) := by decide +kernel
theorem dL_law_986 : decode cL_law 986 = .ok (.invokevirtual 131, 3) := by decide +kernel
theorem dL_law_989 : decode cL_law 989 = .ok (.aload_n 2, 1) := by decide +kernel
theorem dL_law_990 : decode cL_law 990 = .ok (.invokevirtual 134, 3) := by decide +kernel
theorem dL_law_993 : decode cL_law 993 = .ok (.if_icmp .eq 430, 3) := by decide +kernel
theorem dL_law_996 : decode cL_law 996 = .ok (.iconst 0, 1) := by decide +kernel
theorem dL_law_997 : decode cL_law 997 = .ok (.ireturn, 1) := by decide +kernel
theorem dL_law_998 : decode cL_law 998 = .ok (.aload_n 1, 1) := by decide +kernel
theorem dL_law_999 : decode cL_law 999 = .ok (.aload_n 0, 1) := by decide +kernel
theorem dL_law_1000 : decode cL_law 1000 = .ok (.iload 4, 2) := by decide +kernel
theorem dL_law_1002 : decode cL_law 1002 = .ok (.iconst 1, 1) := by decide +kernel
theorem dL_law_1003 : decode cL_law 1003 = .ok (.iadd, 1) := by decide +kernel
theorem dL_law_1004 : decode cL_law 1004 = .ok (.iaload, 1) := by decide +kernel
theorem dL_law_1005 : decode cL_law 1005 = .ok (.aload_n 3, 1) := by decide +kernel
theorem dL_law_1006 : decode cL_law 1006 = .ok (.invokestatic 135, 3) := by decide +kernel
theorem dL_law_1009 : decode cL_law 1009 = .ok (.istore 5, 2) := by decide +kernel
theorem dL_law_1011 : decode cL_law 1011 = .ok (.aload_n 2, 1) := by decide +kernel
theorem dL_law_1012 : decode cL_law 1012 = .ok (.aload_n 0, 1) := by decide +kernel
theorem dL_law_1013 : decode cL_law 1013 = .ok (.iload 4, 2) := by decide +kernel
theorem dL_law_1015 : decode cL_law 1015 = .ok (.iconst 1, 1) := by decide +kernel
theorem dL_law_1016 : decode cL_law 1016 = .ok (.iadd, 1) := by decide +kernel
theorem dL_law_1017 : decode cL_law 1017 = .ok (.iaload, 1) := by decide +kernel
theorem dL_law_1018 : decode cL_law 1018 = .ok (.invokevirtual 138, 3) := by decide +kernel
theorem dL_law_1021 : decode cL_law 1021 = .ok (.istore 6, 2) := by decide +kernel
theorem dL_law_1023 : decode cL_law 1023 = .ok (.aload_n 2, 1) := by decide +kernel
theorem dL_law_1024 : decode cL_law 1024 = .ok (.invokevirtual 84, 3) := by decide +kernel
theorem dL_law_1027 : decode cL_law 1027 = .ok (.iload 5, 2) := by decide +kernel
theorem dL_law_1029 : decode cL_law 1029 = .ok (.if_icmp .eq 5, 3) := by decide +kernel
theorem dL_law_1032 : decode cL_law 1032 = .ok (.iconst 0, 1) := by decide +kernel
theorem dL_law_1033 : decode cL_law 1033 = .ok (.ireturn, 1) := by decide +kernel
theorem dL_law_1034 : decode cL_law 1034 = .ok (.iload 5, 2) := by decide +kernel
theorem dL_law_1036 : decode cL_law 1036 = .ok (.ifCond .ne 15, 3) := by decide +kernel
theorem dL_law_1039 : decode cL_law 1039 = .ok (.aload_n 3, 1) := by decide +kernel
theorem dL_law_1040 : decode cL_law 1040 = .ok (.iconst 0, 1) := by decide +kernel
theorem dL_law_1041 : decode cL_law 1041 = .ok (.laload, 1) := by decide +kernel
theorem dL_law_1042 : decode cL_law 1042 = .ok (.iload 6, 2) := by decide +kernel
theorem dL_law_1044 : decode cL_law 1044 = .ok (.i2l, 1) := by decide +kernel
theorem dL_law_1045 : decode cL_law 1045 = .ok (.lcmp, 1) := by decide +kernel
theorem dL_law_1046 : decode cL_law 1046 = .ok (.ifCond .eq 5, 3) := by decide +kernel
theorem dL_law_1049 : decode cL_law 1049 = .ok (.iconst 0, 1) := by decide +kernel
theorem dL_law_1050 : decode cL_law 1050 = .ok (.ireturn, 1) := by decide +kernel
theorem dL_law_1051 : decode cL_law 1051 = .ok (.goto 372, 3) := by decide +kernel
theorem dL_law_1054 : decode cL_law 1054 = .ok (.aload_n 1, 1) := by decide +kernel
theorem dL_law_1055 : decode cL_law 1055 = .ok (.aload_n 0, 1) := by decide +kernel
theorem dL_law_1056 : decode cL_law 1056 = .ok (.iload 4, 2) := by decide +kernel
theorem dL_law_1058 : decode cL_law 1058 = .ok (.iconst 1, 1) := by decide +kernel
theorem dL_law_1059 : decode cL_law 1059 = .ok (.iadd, 1) := by decide +kernel
theorem dL_law_1060 : decode cL_law 1060 = .ok (.iaload, 1) := by decide +kernel
theorem dL_law_1061 : decode cL_law 1061 = .ok (.aload_n 3, 1) := by decide +kernel
theorem dL_law_1062 : decode cL_law 1062 = .ok (.invokestatic 139, 3) := by decide +kernel
theorem dL_law_1065 : decode cL_law 1065 = .ok (.istore 5, 2) := by decide +kernel
theorem dL_law_1067 : decode cL_law 1067 = .ok (.aload_n 2, 1) := by decide +kernel
theorem dL_law_1068 : decode cL_law 1068 = .ok (.aload_n 0, 1) := by decide +kernel
theorem dL_law_1069 : decode cL_law 1069 = .ok (.iload 4, 2) := by decide +kernel
theorem dL_law_1071 : decode cL_law 1071 = .ok (.iconst 1, 1) := by decide +kernel
theorem dL_law_1072 : decode cL_law 1072 = .ok (.iadd, 1) := by decide +kernel
theorem dL_law_1073 : decode cL_law 1073 = .ok (.iaload, 1) := by decide +kernel
theorem dL_law_1074 : decode cL_law 1074 = .ok (.invokevirtual 141, 3) := by decide +kernel
theorem dL_law_1077 : decode cL_law 1077 = .ok (.istore 6, 2) := by decide +kernel
theorem dL_law_1079 : decode cL_law 1079 = .ok (.aload_n 2, 1) := by decide +kernel
theorem dL_law_1080 : decode cL_law 1080 = .ok (.invokevirtual 84, 3) := by decide +kernel
theorem dL_law_1083 : decode cL_law 1083 = .ok (.iload 5, 2) := by decide +kernel
theorem dL_law_1085 : decode cL_law 1085 = .ok (.if_icmp .eq 5, 3) := by decide +kernel
theorem dL_law_1088 : decode cL_law 1088 = .ok (.iconst 0, 1) := by decide +kernel
theorem dL_law_1089 : decode cL_law 1089 = .ok (.ireturn, 1) := by decide +kernel
theorem dL_law_1090 : decode cL_law 1090 = .ok (.iload 5, 2) := by decide +kernel
theorem dL_law_1092 : decode cL_law 1092 = .ok (.ifCond .ne 15, 3) := by decide +kernel
theorem dL_law_1095 : decode cL_law 1095 = .ok (.aload_n 3, 1) := by decide +kernel
theorem dL_law_1096 : decode cL_law 1096 = .ok (.iconst 0, 1) := by decide +kernel
theorem dL_law_1097 : decode cL_law 1097 = .ok (.laload, 1) := by decide +kernel
theorem dL_law_1098 : decode cL_law 1098 = .ok (.iload 6, 2) := by decide +kernel
theorem dL_law_1100 : decode cL_law 1100 = .ok (.i2l, 1) := by decide +kernel
theorem dL_law_1101 : decode cL_law 1101 = .ok (.lcmp, 1) := by decide +kernel
theorem dL_law_1102 : decode cL_law 1102 = .ok (.ifCond .eq 5, 3) := by decide +kernel
theorem dL_law_1105 : decode cL_law 1105 = .ok (.iconst 0, 1) := by decide +kernel
theorem dL_law_1106 : decode cL_law 1106 = .ok (.ireturn, 1) := by decide +kernel
theorem dL_law_1107 : decode cL_law 1107 = .ok (.goto 316, 3) := by decide +kernel
theorem dL_law_1110 : decode cL_law 1110 = .ok (.aload_n 1, 1) := by decide +kernel
theorem dL_law_1111 : decode cL_law 1111 = .ok (.aload_n 0, 1) := by decide +kernel
theorem dL_law_1112 : decode cL_law 1112 = .ok (.iload 4, 2) := by decide +kernel
theorem dL_law_1114 : decode cL_law 1114 = .ok (.iconst 1, 1) := by decide +kernel
theorem dL_law_1115 : decode cL_law 1115 = .ok (.iadd, 1) := by decide +kernel
theorem dL_law_1116 : decode cL_law 1116 = .ok (.iaload, 1) := by decide +kernel
theorem dL_law_1117 : decode cL_law 1117 = .ok (.aload_n 3, 1) := by decide +kernel
theorem dL_law_1118 : decode cL_law 1118 = .ok (.invokestatic 142, 3) := by decide +kernel
theorem dL_law_1121 : decode cL_law 1121 = .ok (.istore 5, 2) := by decide +kernel
theorem dL_law_1123 : decode cL_law 1123 = .ok (.aload_n 2, 1) := by decide +kernel
theorem dL_law_1124 : decode cL_law 1124 = .ok (.aload_n 0, 1) := by decide +kernel
theorem dL_law_1125 : decode cL_law 1125 = .ok (.iload 4, 2) := by decide +kernel
theorem dL_law_1127 : decode cL_law 1127 = .ok (.iconst 1, 1) := by decide +kernel
theorem dL_law_1128 : decode cL_law 1128 = .ok (.iadd, 1) := by decide +kernel
theorem dL_law_1129 : decode cL_law 1129 = .ok (.iaload, 1) := by decide +kernel
theorem dL_law_1130 : decode cL_law 1130 = .ok (.invokevirtual 144, 3) := by decide +kernel
theorem dL_law_1133 : decode cL_law 1133 = .ok (.istore 6, 2) := by decide +kernel
theorem dL_law_1135 : decode cL_law 1135 = .ok (.aload_n 2, 1) := by decide +kernel
theorem dL_law_1136 : decode cL_law 1136 = .ok (.invokevirtual 84, 3) := by decide +kernel
theorem dL_law_1139 : decode cL_law 1139 = .ok (.iload 5, 2) := by decide +kernel
theorem dL_law_1141 : decode cL_law 1141 = .ok (.if_icmp .eq 5, 3) := by decide +kernel
theorem dL_law_1144 : decode cL_law 1144 = .ok (.iconst 0, 1) := by decide +kernel
theorem dL_law_1145 : decode cL_law 1145 = .ok (.ireturn, 1) := by decide +kernel
theorem dL_law_1146 : decode cL_law 1146 = .ok (.iload 5, 2) := by decide +kernel
theorem dL_law_1148 : decode cL_law 1148 = .ok (.ifCond .ne 15, 3) := by decide +kernel
theorem dL_law_1151 : decode cL_law 1151 = .ok (.aload_n 3, 1) := by decide +kernel
theorem dL_law_1152 : decode cL_law 1152 = .ok (.iconst 0, 1) := by decide +kernel
theorem dL_law_1153 : decode cL_law 1153 = .ok (.laload, 1) := by decide +kernel
theorem dL_law_1154 : decode cL_law 1154 = .ok (.iload 6, 2) := by decide +kernel
theorem dL_law_1156 : decode cL_law 1156 = .ok (.i2l, 1) := by decide +kernel
theorem dL_law_1157 : decode cL_law 1157 = .ok (.lcmp, 1) := by decide +kernel
theorem dL_law_1158 : decode cL_law 1158 = .ok (.ifCond .eq 5, 3) := by decide +kernel
theorem dL_law_1161 : decode cL_law 1161 = .ok (.iconst 0, 1) := by decide +kernel
theorem dL_law_1162 : decode cL_law 1162 = .ok (.ireturn, 1) := by decide +kernel
theorem dL_law_1163 : decode cL_law 1163 = .ok (.goto 260, 3) := by decide +kernel
theorem dL_law_1166 : decode cL_law 1166 = .ok (.aload_n 1, 1) := by decide +kernel
theorem dL_law_1167 : decode cL_law 1167 = .ok (.aload_n 0, 1) := by decide +kernel
theorem dL_law_1168 : decode cL_law 1168 = .ok (.iload 4, 2) := by decide +kernel
theorem dL_law_1170 : decode cL_law 1170 = .ok (.iconst 1, 1) := by decide +kernel
theorem dL_law_1171 : decode cL_law 1171 = .ok (.iadd, 1) := by decide +kernel
theorem dL_law_1172 : decode cL_law 1172 = .ok (.iaload, 1) := by decide +kernel
theorem dL_law_1173 : decode cL_law 1173 = .ok (.aload_n 3, 1) := by decide +kernel
theorem dL_law_1174 : decode cL_law 1174 = .ok (.invokestatic 145, 3) := by decide +kernel
theorem dL_law_1177 : decode cL_law 1177 = .ok (.istore 5, 2) := by decide +kernel
theorem dL_law_1179 : decode cL_law 1179 = .ok (.aload_n 2, 1) := by decide +kernel
theorem dL_law_1180 : decode cL_law 1180 = .ok (.aload_n 0, 1) := by decide +kernel
theorem dL_law_1181 : decode cL_law 1181 = .ok (.iload 4, 2) := by decide +kernel
theorem dL_law_1183 : decode cL_law 1183 = .ok (.iconst 1, 1) := by decide +kernel
theorem dL_law_1184 : decode cL_law 1184 = .ok (.iadd, 1) := by decide +kernel
theorem dL_law_1185 : decode cL_law 1185 = .ok (.iaload, 1) := by decide +kernel
theorem dL_law_1186 : decode cL_law 1186 = .ok (.invokevirtual 147, 3) := by decide +kernel
theorem dL_law_1189 : decode cL_law 1189 = .ok (.istore 6, 2) := by decide +kernel
theorem dL_law_1191 : decode cL_law 1191 = .ok (.aload_n 2, 1) := by decide +kernel
theorem dL_law_1192 : decode cL_law 1192 = .ok (.invokevirtual 84, 3) := by decide +kernel
theorem dL_law_1195 : decode cL_law 1195 = .ok (.iload 5, 2) := by decide +kernel
theorem dL_law_1197 : decode cL_law 1197 = .ok (.if_icmp .eq 5, 3) := by decide +kernel
theorem dL_law_1200 : decode cL_law 1200 = .ok (.iconst 0, 1) := by decide +kernel
theorem dL_law_1201 : decode cL_law 1201 = .ok (.ireturn, 1) := by decide +kernel
theorem dL_law_1202 : decode cL_law 1202 = .ok (.iload 5, 2) := by decide +kernel
theorem dL_law_1204 : decode cL_law 1204 = .ok (.ifCond .ne 15, 3) := by decide +kernel
theorem dL_law_1207 : decode cL_law 1207 = .ok (.aload_n 3, 1) := by decide +kernel
theorem dL_law_1208 : decode cL_law 1208 = .ok (.iconst 0, 1) := by decide +kernel
theorem dL_law_1209 : decode cL_law 1209 = .ok (.laload, 1) := by decide +kernel
theorem dL_law_1210 : decode cL_law 1210 = .ok (.iload 6, 2) := by decide +kernel
theorem dL_law_1212 : decode cL_law 1212 = .ok (.i2l, 1) := by decide +kernel
theorem dL_law_1213 : decode cL_law 1213 = .ok (.lcmp, 1) := by decide +kernel
theorem dL_law_1214 : decode cL_law 1214 = .ok (.ifCond .eq 5, 3) := by decide +kernel
theorem dL_law_1217 : decode cL_law 1217 = .ok (.iconst 0, 1) := by decide +kernel
theorem dL_law_1218 : decode cL_law 1218 = .ok (.ireturn, 1) := by decide +kernel
theorem dL_law_1219 : decode cL_law 1219 = .ok (.goto 204, 3) := by decide +kernel
theorem dL_law_1222 : decode cL_law 1222 = .ok (.aload_n 1, 1) := by decide +kernel
theorem dL_law_1223 : decode cL_law 1223 = .ok (.aload_n 0, 1) := by decide +kernel
theorem dL_law_1224 : decode cL_law 1224 = .ok (.iload 4, 2) := by decide +kernel
theorem dL_law_1226 : decode cL_law 1226 = .ok (.iconst 1, 1) := by decide +kernel
theorem dL_law_1227 : decode cL_law 1227 = .ok (.iadd, 1) := by decide +kernel
theorem dL_law_1228 : decode cL_law 1228 = .ok (.iaload, 1) := by decide +kernel
theorem dL_law_1229 : decode cL_law 1229 = .ok (.aload_n 0, 1) := by decide +kernel
theorem dL_law_1230 : decode cL_law 1230 = .ok (.iload 4, 2) := by decide +kernel
theorem dL_law_1232 : decode cL_law 1232 = .ok (.iconst 2, 1) := by decide +kernel
theorem dL_law_1233 : decode cL_law 1233 = .ok (.iadd, 1) := by decide +kernel
theorem dL_law_1234 : decode cL_law 1234 = .ok (.iaload, 1) := by decide +kernel
theorem dL_law_1235 : decode cL_law 1235 = .ok (.aload_n 3, 1) := by decide +kernel
theorem dL_law_1236 : decode cL_law 1236 = .ok (.invokestatic 148, 3) := by decide +kernel
theorem dL_law_1239 : decode cL_law 1239 = .ok (.istore 5, 2) := by decide +kernel
theorem dL_law_1241 : decode cL_law 1241 = .ok (.aload_n 2, 1) := by decide +kernel
theorem dL_law_1242 : decode cL_law 1242 = .ok (.aload_n 0, 1) := by decide +kernel
theorem dL_law_1243 : decode cL_law 1243 = .ok (.iload 4, 2) := by decide +kernel
theorem dL_law_1245 : decode cL_law 1245 = .ok (.iconst 1, 1) := by decide +kernel
theorem dL_law_1246 : decode cL_law 1246 = .ok (.iadd, 1) := by decide +kernel
theorem dL_law_1247 : decode cL_law 1247 = .ok (.iaload, 1) := by decide +kernel
theorem dL_law_1248 : decode cL_law 1248 = .ok (.aload_n 0, 1) := by decide +kernel
theorem dL_law_1249 : decode cL_law 1249 = .ok (.iload 4, 2) := by decide +kernel
theorem dL_law_1251 : decode cL_law 1251 = .ok (.iconst 2, 1) := by decide +kernel
theorem dL_law_1252 : decode cL_law 1252 = .ok (.iadd, 1) := by decide +kernel
theorem dL_law_1253 : decode cL_law 1253 = .ok (.iaload, 1) := by decide +kernel
theorem dL_law_1254 : decode cL_law 1254 = .ok (.invokevirtual 150, 3) := by decide +kernel
theorem dL_law_1257 : decode cL_law 1257 = .ok (.istore 6, 2) := by decide +kernel
theorem dL_law_1259 : decode cL_law 1259 = .ok (.aload_n 2, 1) := by decide +kernel
theorem dL_law_1260 : decode cL_law 1260 = .ok (.invokevirtual 84, 3) := by decide +kernel
theorem dL_law_1263 : decode cL_law 1263 = .ok (.iload 5, 2) := by decide +kernel
theorem dL_law_1265 : decode cL_law 1265 = .ok (.if_icmp .eq 5, 3) := by decide +kernel
theorem dL_law_1268 : decode cL_law 1268 = .ok (.iconst 0, 1) := by decide +kernel
theorem dL_law_1269 : decode cL_law 1269 = .ok (.ireturn, 1) := by decide +kernel
theorem dL_law_1270 : decode cL_law 1270 = .ok (.iload 5, 2) := by decide +kernel
theorem dL_law_1272 : decode cL_law 1272 = .ok (.ifCond .ne 15, 3) := by decide +kernel
theorem dL_law_1275 : decode cL_law 1275 = .ok (.aload_n 3, 1) := by decide +kernel
theorem dL_law_1276 : decode cL_law 1276 = .ok (.iconst 0, 1) := by decide +kernel
theorem dL_law_1277 : decode cL_law 1277 = .ok (.laload, 1) := by decide +kernel
theorem dL_law_1278 : decode cL_law 1278 = .ok (.iload 6, 2) := by decide +kernel
theorem dL_law_1280 : decode cL_law 1280 = .ok (.i2l, 1) := by decide +kernel
theorem dL_law_1281 : decode cL_law 1281 = .ok (.lcmp, 1) := by decide +kernel
theorem dL_law_1282 : decode cL_law 1282 = .ok (.ifCond .eq 5, 3) := by decide +kernel
theorem dL_law_1285 : decode cL_law 1285 = .ok (.iconst 0, 1) := by decide +kernel
theorem dL_law_1286 : decode cL_law 1286 = .ok (.ireturn, 1) := by decide +kernel
theorem dL_law_1287 : decode cL_law 1287 = .ok (.goto 136, 3) := by decide +kernel
theorem dL_law_1290 : decode cL_law 1290 = .ok (.aload_n 1, 1) := by decide +kernel
theorem dL_law_1291 : decode cL_law 1291 = .ok (.aload_n 0, 1) := by decide +kernel
theorem dL_law_1292 : decode cL_law 1292 = .ok (.iload 4, 2) := by decide +kernel
theorem dL_law_1294 : decode cL_law 1294 = .ok (.iconst 1, 1) := by decide +kernel
theorem dL_law_1295 : decode cL_law 1295 = .ok (.iadd, 1) := by decide +kernel
theorem dL_law_1296 : decode cL_law 1296 = .ok (.iaload, 1) := by decide +kernel
theorem dL_law_1297 : decode cL_law 1297 = .ok (.aload_n 0, 1) := by decide +kernel
theorem dL_law_1298 : decode cL_law 1298 = .ok (.iload 4, 2) := by decide +kernel
theorem dL_law_1300 : decode cL_law 1300 = .ok (.iconst 2, 1) := by decide +kernel
theorem dL_law_1301 : decode cL_law 1301 = .ok (.iadd, 1) := by decide +kernel
theorem dL_law_1302 : decode cL_law 1302 = .ok (.iaload, 1) := by decide +kernel
theorem dL_law_1303 : decode cL_law 1303 = .ok (.aload_n 3, 1) := by decide +kernel
theorem dL_law_1304 : decode cL_law 1304 = .ok (.invokestatic 151, 3) := by decide +kernel
theorem dL_law_1307 : decode cL_law 1307 = .ok (.istore 5, 2) := by decide +kernel
theorem dL_law_1309 : decode cL_law 1309 = .ok (.aload_n 2, 1) := by decide +kernel
theorem dL_law_1310 : decode cL_law 1310 = .ok (.aload_n 0, 1) := by decide +kernel
theorem dL_law_1311 : decode cL_law 1311 = .ok (.iload 4, 2) := by decide +kernel
theorem dL_law_1313 : decode cL_law 1313 = .ok (.iconst 1, 1) := by decide +kernel
theorem dL_law_1314 : decode cL_law 1314 = .ok (.iadd, 1) := by decide +kernel
theorem dL_law_1315 : decode cL_law 1315 = .ok (.iaload, 1) := by decide +kernel
theorem dL_law_1316 : decode cL_law 1316 = .ok (.aload_n 0, 1) := by decide +kernel
theorem dL_law_1317 : decode cL_law 1317 = .ok (.iload 4, 2) := by decide +kernel
theorem dL_law_1319 : decode cL_law 1319 = .ok (.iconst 2, 1) := by decide +kernel
theorem dL_law_1320 : decode cL_law 1320 = .ok (.iadd, 1) := by decide +kernel
theorem dL_law_1321 : decode cL_law 1321 = .ok (.iaload, 1) := by decide +kernel
theorem dL_law_1322 : decode cL_law 1322 = .ok (.invokevirtual 153, 3) := by decide +kernel
theorem dL_law_1325 : decode cL_law 1325 = .ok (.istore 6, 2) := by decide +kernel
theorem dL_law_1327 : decode cL_law 1327 = .ok (.aload_n 2, 1) := by decide +kernel
theorem dL_law_1328 : decode cL_law 1328 = .ok (.invokevirtual 84, 3) := by decide +kernel
theorem dL_law_1331 : decode cL_law 1331 = .ok (.iload 5, 2) := by decide +kernel
theorem dL_law_1333 : decode cL_law 1333 = .ok (.if_icmp .eq 5, 3) := by decide +kernel
theorem dL_law_1336 : decode cL_law 1336 = .ok (.iconst 0, 1) := by decide +kernel
theorem dL_law_1337 : decode cL_law 1337 = .ok (.ireturn, 1) := by decide +kernel
theorem dL_law_1338 : decode cL_law 1338 = .ok (.iload 5, 2) := by decide +kernel
theorem dL_law_1340 : decode cL_law 1340 = .ok (.ifCond .ne 15, 3) := by decide +kernel
theorem dL_law_1343 : decode cL_law 1343 = .ok (.aload_n 3, 1) := by decide +kernel
theorem dL_law_1344 : decode cL_law 1344 = .ok (.iconst 0, 1) := by decide +kernel
theorem dL_law_1345 : decode cL_law 1345 = .ok (.laload, 1) := by decide +kernel
theorem dL_law_1346 : decode cL_law 1346 = .ok (.iload 6, 2) := by decide +kernel
theorem dL_law_1348 : decode cL_law 1348 = .ok (.i2l, 1) := by decide +kernel
theorem dL_law_1349 : decode cL_law 1349 = .ok (.lcmp, 1) := by decide +kernel
theorem dL_law_1350 : decode cL_law 1350 = .ok (.ifCond .eq 5, 3) := by decide +kernel
theorem dL_law_1353 : decode cL_law 1353 = .ok (.iconst 0, 1) := by decide +kernel
theorem dL_law_1354 : decode cL_law 1354 = .ok (.ireturn, 1) := by decide +kernel
theorem dL_law_1355 : decode cL_law 1355 = .ok (.goto 68, 3) := by decide +kernel
theorem dL_law_1358 : decode cL_law 1358 = .ok (.aload_n 1, 1) := by decide +kernel
theorem dL_law_1359 : decode cL_law 1359 = .ok (.invokevirtual 154, 3) := by decide +kernel
theorem dL_law_1362 : decode cL_law 1362 = .ok (.aload_n 2, 1) := by decide +kernel
theorem dL_law_1363 : decode cL_law 1363 = .ok (.invokevirtual 157, 3) := by decide +kernel
theorem dL_law_1366 : decode cL_law 1366 = .ok (.if_icmp .eq 57, 3) := by decide +kernel
theorem dL_law_1369 : decode cL_law 1369 = .ok (.iconst 0, 1) := by decide +kernel
theorem dL_law_1370 : decode cL_law 1370 = .ok (.ireturn, 1) := by decide +kernel
theorem dL_law_1371 : decode cL_law 1371 = .ok (.aload_n 1, 1) := by decide +kernel
theorem dL_law_1372 : decode cL_law 1372 = .ok (.invokevirtual 158, 3) := by decide +kernel
theorem dL_law_1375 : decode cL_law 1375 = .ok (.aload_n 2, 1) := by decide +kernel
theorem dL_law_1376 : decode cL_law 1376 = .ok (.invokevirtual 161, 3) := by decide +kernel
theorem dL_law_1379 : decode cL_law 1379 = .ok (.if_icmp .eq 44, 3) := by decide +kernel
theorem dL_law_1382 : decode cL_law 1382 = .ok (.iconst 0, 1) := by decide +kernel
theorem dL_law_1383 : decode cL_law 1383 = .ok (.ireturn, 1) := by decide +kernel
theorem dL_law_1384 : decode cL_law 1384 = .ok (.aload_n 1, 1) := by decide +kernel
theorem dL_law_1385 : decode cL_law 1385 = .ok (.invokevirtual 162, 3) := by decide +kernel
theorem dL_law_1388 : decode cL_law 1388 = .ok (.aload_n 2, 1) := by decide +kernel
theorem dL_law_1389 : decode cL_law 1389 = .ok (.invokevirtual 165, 3) := by decide +kernel
theorem dL_law_1392 : decode cL_law 1392 = .ok (.if_icmp .eq 31, 3) := by decide +kernel
theorem dL_law_1395 : decode cL_law 1395 = .ok (.iconst 0, 1) := by decide +kernel
theorem dL_law_1396 : decode cL_law 1396 = .ok (.ireturn, 1) := by decide +kernel
theorem dL_law_1397 : decode cL_law 1397 = .ok (.aload_n 1, 1) := by decide +kernel
theorem dL_law_1398 : decode cL_law 1398 = .ok (.invokevirtual 166, 3) := by decide +kernel
theorem dL_law_1401 : decode cL_law 1401 = .ok (.aload_n 2, 1) := by decide +kernel
theorem dL_law_1402 : decode cL_law 1402 = .ok (.invokevirtual 169, 3) := by decide +kernel
theorem dL_law_1405 : decode cL_law 1405 = .ok (.if_icmp .eq 18, 3) := by decide +kernel
theorem dL_law_1408 : decode cL_law 1408 = .ok (.iconst 0, 1) := by decide +kernel
theorem dL_law_1409 : decode cL_law 1409 = .ok (.ireturn, 1) := by decide +kernel
theorem dL_law_1410 : decode cL_law 1410 = .ok (.aload_n 1, 1) := by decide +kernel
theorem dL_law_1411 : decode cL_law 1411 = .ok (.invokevirtual 170, 3) := by decide +kernel
theorem dL_law_1414 : decode cL_law 1414 = .ok (.aload_n 2, 1) := by decide +kernel
theorem dL_law_1415 : decode cL_law 1415 = .ok (.invokevirtual 173, 3) := by decide +kernel
theorem dL_law_1418 : decode cL_law 1418 = .ok (.if_icmp .eq 5, 3) := by decide +kernel
theorem dL_law_1421 : decode cL_law 1421 = .ok (.iconst 0, 1) := by decide +kernel
theorem dL_law_1422 : decode cL_law 1422 = .ok (.ireturn, 1) := by decide +kernel
theorem dL_law_1423 : decode cL_law 1423 = .ok (.iinc 4 4, 3) := by decide +kernel
theorem dL_law_1426 : decode cL_law 1426 = .ok (.goto (-1403), 3) := by decide +kernel
theorem dL_law_1429 : decode cL_law 1429 = .ok (.iconst 1, 1) := by decide +kernel
theorem dL_law_1430 : decode cL_law 1430 = .ok (.ireturn, 1) := by decide +kernel
end
section
/-- all good words of the tables: every method's own words, behind its code -/
def ALL : List Cond := lw_tbl.filter goodWord
theorem ALL_good {w : Cond} (h : w ∈ ALL) : (w.onTables && w.keeps) = true ∨ ∃ ty, w = .arrayClass ty := good_of_word (List.mem_filter.mp h).2
theorem ALL_tbl {w : Cond} (h : w ∈ ALL) : w ∈ lw_tbl := (List.mem_filter.mp h).1
theorem ALL_0 (i : Nat) {w : Cond} (h : (k2_sels lw_privs)[i]? = some w) (g : goodWord w = true) : w ∈ ALL := List.mem_filter.mpr ⟨List.mem_append_left _ (List.mem_of_getElem? h), g⟩
theorem ALL_1 (i : Nat) {w : Cond} (h : tables_1_1[i]? = some w) (g : goodWord w = true) : w ∈ ALL := List.mem_filter.mpr ⟨List.mem_append_right _ (List.mem_append_left _ (List.mem_of_getElem? h)), g⟩
theorem ALL_2 (i : Nat) {w : Cond} (h : tables_1_2[i]? = some w) (g : goodWord w = true) : w ∈ ALL := List.mem_filter.mpr ⟨List.mem_append_right _ (List.mem_append_right _ (List.mem_append_left _ (List.mem_of_getElem? h))), g⟩
theorem ALL_3 (i : Nat) {w : Cond} (h : tables_1_3[i]? = some w) (g : goodWord w = true) : w ∈ ALL := List.mem_filter.mpr ⟨List.mem_append_right _ (List.mem_append_right _ (List.mem_append_right _ (List.mem_append_left _ (List.mem_of_getElem? h)))), g⟩
theorem ALL_4 (i : Nat) {w : Cond} (h : tables_1_4[i]? = some w) (g : goodWord w = true) : w ∈ ALL := List.mem_filter.mpr ⟨List.mem_append_right _ (List.mem_append_right _ (List.mem_append_right _ (List.mem_append_right _ (List.mem_of_getElem? h)))), g⟩
theorem t1_0 : (.initialized RL : Cond) ∈ ALL := ALL_1 0 rfl rfl
theorem t1_1 : (.initialized RX7 : Cond) ∈ ALL := ALL_1 1 rfl rfl
theorem t1_2 : (.initialized RX3 : Cond) ∈ ALL := ALL_1 2 rfl rfl
theorem t1_3 : (.initialized RX1 : Cond) ∈ ALL := ALL_1 3 rfl rfl
theorem t1_4 : (.initialized RX5 : Cond) ∈ ALL := ALL_1 4 rfl rfl
theorem t1_5 : (.initialized RX4 : Cond) ∈ ALL := ALL_1 5 rfl rfl
theorem t1_6 : (.initialized RJ7 : Cond) ∈ ALL := ALL_1 6 rfl rfl
theorem t1_7 : (.initialized RX2 : Cond) ∈ ALL := ALL_1 7 rfl rfl
theorem t1_8 : (.initialized RX6 : Cond) ∈ ALL := ALL_1 8 rfl rfl
theorem t1_9 : (.initialized RX0 : Cond) ∈ ALL := ALL_1 9 rfl rfl
theorem t1_10 : (.initialized RX8 : Cond) ∈ ALL := ALL_1 10 rfl rfl
theorem t1_11 : (.initialized "java/lang/Throwable" : Cond) ∈ ALL := ALL_1 11 rfl rfl
theorem t1_12 : (.initialized "java/lang/Exception" : Cond) ∈ ALL := ALL_1 12 rfl rfl
theorem t1_13 : (.initialized "java/lang/RuntimeException" : Cond) ∈ ALL := ALL_1 13 rfl rfl
theorem t1_14 : (.initialized "java/lang/IndexOutOfBoundsException" : Cond) ∈ ALL := ALL_1 14 rfl rfl
theorem t1_15 : (.initialized "java/lang/IllegalStateException" : Cond) ∈ ALL := ALL_1 15 rfl rfl
theorem t1_16 : (.initialized "java/lang/IllegalArgumentException" : Cond) ∈ ALL := ALL_1 16 rfl rfl
theorem t1_17 : (.initialized RJ9 : Cond) ∈ ALL := ALL_1 17 rfl rfl
theorem t1_18 : (.initialized RJ10 : Cond) ∈ ALL := ALL_1 18 rfl rfl
theorem t1_19 : (.classLink RL 8 "DeskPlanner" : Cond) ∈ ALL := ALL_1 19 rfl rfl
theorem t1_20 : (.instantiable RX7 5 : Cond) ∈ ALL := ALL_1 20 rfl rfl
theorem t1_21 : (.methodLink RL 74 yX7_init : Cond) ∈ ALL := ALL_1 21 rfl rfl
theorem t1_22 : (.instanceMethod yX7_init : Cond) ∈ ALL := ALL_1 22 rfl rfl
theorem t1_23 : (.code yX7_init cX7_init 1 none : Cond) ∈ ALL := ALL_1 23 rfl rfl
theorem t1_24 : (.methodLink RX7 3 objectInit : Cond) ∈ ALL := ALL_1 24 rfl rfl
theorem t1_25 : (.instanceMethod objectInit : Cond) ∈ ALL := ALL_1 25 rfl rfl
theorem t1_26 : (.code objectInit object_method_1_code 1 none : Cond) ∈ ALL := ALL_1 26 rfl rfl
theorem t1_27 : (.classLink RX7 9 "DeskPlanner$Office" : Cond) ∈ ALL := ALL_1 27 rfl rfl
theorem t1_28 : (.instantiable RX3 2 : Cond) ∈ ALL := ALL_1 28 rfl rfl
theorem t1_30 : (.instanceMethod yX3_init : Cond) ∈ ALL := ALL_1 30 rfl rfl
theorem t1_31 : (.code yX3_init cX3_init 1 none : Cond) ∈ ALL := ALL_1 31 rfl rfl
theorem t1_32 : (.methodLink RX3 3 objectInit : Cond) ∈ ALL := ALL_1 32 rfl rfl
theorem t1_33 : (.classLink RX3 9 "DeskPlanner$Floor" : Cond) ∈ ALL := ALL_1 33 rfl rfl
theorem t1_34 : (.instantiable RX1 8 : Cond) ∈ ALL := ALL_1 34 rfl rfl
theorem t1_36 : (.instanceMethod yX1_init : Cond) ∈ ALL := ALL_1 36 rfl rfl
theorem t1_37 : (.code yX1_init cX1_init 1 none : Cond) ∈ ALL := ALL_1 37 rfl rfl
theorem t1_38 : (.methodLink RX1 3 objectInit : Cond) ∈ ALL := ALL_1 38 rfl rfl
theorem t1_39 : (.classLink RX1 22 "[[I" : Cond) ∈ ALL := ALL_1 39 rfl rfl
theorem t1_41 : (.fieldLink RX1 9 "DeskPlanner$Floor" "walls" "[Z" : Cond) ∈ ALL := ALL_1 41 rfl rfl
theorem t1_42 : (.fieldLink RX1 15 "DeskPlanner$Floor" "zoneSquares" "[I" : Cond) ∈ ALL := ALL_1 42 rfl rfl
theorem t1_43 : (.fieldLink RX1 19 "DeskPlanner$Floor" "desks" "[I" : Cond) ∈ ALL := ALL_1 43 rfl rfl
theorem t1_46 : (.fieldLink RX1 24 "DeskPlanner$Floor" "distances" "[[I" : Cond) ∈ ALL := ALL_1 46 rfl rfl
theorem t1_49 : (.fieldLink RX1 27 "DeskPlanner$Floor" "steps" "[I" : Cond) ∈ ALL := ALL_1 49 rfl rfl
theorem t1_50 : (.fieldLink RX1 30 "DeskPlanner$Floor" "reached" "[I" : Cond) ∈ ALL := ALL_1 50 rfl rfl
theorem t1_51 : (.fieldLink RX1 33 "DeskPlanner$Floor" "reachedCount" "I" : Cond) ∈ ALL := ALL_1 51 rfl rfl
theorem t1_52 : (.fieldLink RX1 37 "DeskPlanner$Floor" "zoneCount" "I" : Cond) ∈ ALL := ALL_1 52 rfl rfl
theorem t1_56 : (.laysFinal RX1 "DeskPlanner$Floor" "walls" "[Z" : Cond) ∈ ALL := ALL_1 56 rfl rfl
theorem t1_57 : (.soleField RX1 "walls" : Cond) ∈ ALL := ALL_1 57 rfl rfl
theorem t1_58 : (.laysFinal RX1 "DeskPlanner$Floor" "zoneSquares" "[I" : Cond) ∈ ALL := ALL_1 58 rfl rfl
theorem t1_59 : (.soleField RX1 "zoneSquares" : Cond) ∈ ALL := ALL_1 59 rfl rfl
theorem t1_60 : (.laysFinal RX1 "DeskPlanner$Floor" "desks" "[I" : Cond) ∈ ALL := ALL_1 60 rfl rfl
theorem t1_61 : (.soleField RX1 "desks" : Cond) ∈ ALL := ALL_1 61 rfl rfl
theorem t1_62 : (.laysFinal RX1 "DeskPlanner$Floor" "distances" "[[I" : Cond) ∈ ALL := ALL_1 62 rfl rfl
theorem t1_63 : (.soleField RX1 "distances" : Cond) ∈ ALL := ALL_1 63 rfl rfl
theorem t1_64 : (.laysFinal RX1 "DeskPlanner$Floor" "steps" "[I" : Cond) ∈ ALL := ALL_1 64 rfl rfl
theorem t1_65 : (.soleField RX1 "steps" : Cond) ∈ ALL := ALL_1 65 rfl rfl
theorem t1_66 : (.laysFinal RX1 "DeskPlanner$Floor" "reached" "[I" : Cond) ∈ ALL := ALL_1 66 rfl rfl
theorem t1_67 : (.soleField RX1 "reached" : Cond) ∈ ALL := ALL_1 67 rfl rfl
theorem t1_68 : (.lays RX1 "DeskPlanner$Floor" "reachedCount" "I" : Cond) ∈ ALL := ALL_1 68 rfl rfl
theorem t1_69 : (.soleField RX1 "reachedCount" : Cond) ∈ ALL := ALL_1 69 rfl rfl
theorem t1_70 : (.lays RX1 "DeskPlanner$Floor" "zoneCount" "I" : Cond) ∈ ALL := ALL_1 70 rfl rfl
theorem t1_71 : (.soleField RX1 "zoneCount" : Cond) ∈ ALL := ALL_1 71 rfl rfl
theorem t1_72 : (.superclass RX1 "java/lang/Object" : Cond) ∈ ALL := ALL_1 72 rfl rfl
theorem t1_73 : (.arrayClass .boolean : Cond) ∈ ALL := ALL_1 73 rfl rfl
theorem t1_74 : (.arrayClass .int : Cond) ∈ ALL := ALL_1 74 rfl rfl
theorem t1_75 : (.classLink RX3 18 "DeskPlanner$Staff" : Cond) ∈ ALL := ALL_1 75 rfl rfl
theorem t1_76 : (.instantiable RX5 5 : Cond) ∈ ALL := ALL_1 76 rfl rfl
theorem t1_78 : (.instanceMethod yX5_init : Cond) ∈ ALL := ALL_1 78 rfl rfl
theorem t1_79 : (.code yX5_init cX5_init 1 none : Cond) ∈ ALL := ALL_1 79 rfl rfl
theorem t1_80 : (.methodLink RX5 3 objectInit : Cond) ∈ ALL := ALL_1 80 rfl rfl
theorem t1_81 : (.classLink RX5 9 "[[I" : Cond) ∈ ALL := ALL_1 81 rfl rfl
theorem t1_82 : (.fieldLink RX5 11 "DeskPlanner$Staff" "present" "[[I" : Cond) ∈ ALL := ALL_1 82 rfl rfl
theorem t1_84 : (.fieldLink RX5 16 "DeskPlanner$Staff" "needs" "[I" : Cond) ∈ ALL := ALL_1 84 rfl rfl
theorem t1_87 : (.fieldLink RX5 20 "DeskPlanner$Staff" "wishes" "[[I" : Cond) ∈ ALL := ALL_1 87 rfl rfl
theorem t1_91 : (.fieldLink RX5 23 "DeskPlanner$Staff" "ties" "[[I" : Cond) ∈ ALL := ALL_1 91 rfl rfl
theorem t1_93 : (.fieldLink RX5 26 "DeskPlanner$Staff" "teamCount" "I" : Cond) ∈ ALL := ALL_1 93 rfl rfl
theorem t1_98 : (.laysFinal RX5 "DeskPlanner$Staff" "present" "[[I" : Cond) ∈ ALL := ALL_1 98 rfl rfl
theorem t1_99 : (.soleField RX5 "present" : Cond) ∈ ALL := ALL_1 99 rfl rfl
theorem t1_100 : (.laysFinal RX5 "DeskPlanner$Staff" "needs" "[I" : Cond) ∈ ALL := ALL_1 100 rfl rfl
theorem t1_101 : (.soleField RX5 "needs" : Cond) ∈ ALL := ALL_1 101 rfl rfl
theorem t1_102 : (.laysFinal RX5 "DeskPlanner$Staff" "wishes" "[[I" : Cond) ∈ ALL := ALL_1 102 rfl rfl
theorem t1_103 : (.soleField RX5 "wishes" : Cond) ∈ ALL := ALL_1 103 rfl rfl
theorem t1_104 : (.laysFinal RX5 "DeskPlanner$Staff" "ties" "[[I" : Cond) ∈ ALL := ALL_1 104 rfl rfl
theorem t1_105 : (.soleField RX5 "ties" : Cond) ∈ ALL := ALL_1 105 rfl rfl
theorem t1_106 : (.lays RX5 "DeskPlanner$Staff" "teamCount" "I" : Cond) ∈ ALL := ALL_1 106 rfl rfl
theorem t1_107 : (.soleField RX5 "teamCount" : Cond) ∈ ALL := ALL_1 107 rfl rfl
theorem t1_108 : (.superclass RX5 "java/lang/Object" : Cond) ∈ ALL := ALL_1 108 rfl rfl
theorem t1_109 : (.fieldLink RX3 12 "DeskPlanner$Office" "floor" "LDeskPlanner$Floor;" : Cond) ∈ ALL := ALL_1 109 rfl rfl
theorem t1_113 : (.fieldLink RX3 21 "DeskPlanner$Office" "staff" "LDeskPlanner$Staff;" : Cond) ∈ ALL := ALL_1 113 rfl rfl
theorem t1_117 : (.laysFinal RX3 "DeskPlanner$Office" "floor" "LDeskPlanner$Floor;" : Cond) ∈ ALL := ALL_1 117 rfl rfl
theorem t1_118 : (.soleField RX3 "floor" : Cond) ∈ ALL := ALL_1 118 rfl rfl
theorem t1_119 : (.laysFinal RX3 "DeskPlanner$Office" "staff" "LDeskPlanner$Staff;" : Cond) ∈ ALL := ALL_1 119 rfl rfl
theorem t1_120 : (.soleField RX3 "staff" : Cond) ∈ ALL := ALL_1 120 rfl rfl
theorem t1_121 : (.superclass RX3 "java/lang/Object" : Cond) ∈ ALL := ALL_1 121 rfl rfl
theorem t1_122 : (.classLink RX7 16 "DeskPlanner$Placement" : Cond) ∈ ALL := ALL_1 122 rfl rfl
theorem t1_123 : (.instantiable RX4 1 : Cond) ∈ ALL := ALL_1 123 rfl rfl
theorem t1_124 : (.methodLink RX7 18 yX4_init : Cond) ∈ ALL := ALL_1 124 rfl rfl
theorem t1_125 : (.instanceMethod yX4_init : Cond) ∈ ALL := ALL_1 125 rfl rfl
theorem t1_126 : (.code yX4_init cX4_init 1 none : Cond) ∈ ALL := ALL_1 126 rfl rfl
theorem t1_127 : (.methodLink RX4 3 objectInit : Cond) ∈ ALL := ALL_1 127 rfl rfl
theorem t1_128 : (.methodLink RX4 15 yJ7_fill_53178 : Cond) ∈ ALL := ALL_1 128 rfl rfl
theorem t1_129 : (.static yJ7_fill_53178 : Cond) ∈ ALL := ALL_1 129 rfl rfl
theorem t1_130 : (.code yJ7_fill_53178 cJ7_fill_53178 4 none : Cond) ∈ ALL := ALL_1 130 rfl rfl
theorem t1_131 : (.fieldLink RX4 9 "DeskPlanner$Placement" "zoneByTeam" "[I" : Cond) ∈ ALL := ALL_1 131 rfl rfl
theorem t1_132 : (.laysFinal RX4 "DeskPlanner$Placement" "zoneByTeam" "[I" : Cond) ∈ ALL := ALL_1 132 rfl rfl
theorem t1_133 : (.soleField RX4 "zoneByTeam" : Cond) ∈ ALL := ALL_1 133 rfl rfl
theorem t1_134 : (.superclass RX4 "java/lang/Object" : Cond) ∈ ALL := ALL_1 134 rfl rfl
theorem t1_135 : (.classLink RX7 26 "DeskPlanner$FullSearch" : Cond) ∈ ALL := ALL_1 135 rfl rfl
theorem t1_136 : (.instantiable RX2 5 : Cond) ∈ ALL := ALL_1 136 rfl rfl
theorem t1_138 : (.instanceMethod yX2_init : Cond) ∈ ALL := ALL_1 138 rfl rfl
theorem t1_139 : (.code yX2_init cX2_init 1 none : Cond) ∈ ALL := ALL_1 139 rfl rfl
theorem t1_140 : (.methodLink RX2 3 objectInit : Cond) ∈ ALL := ALL_1 140 rfl rfl
theorem t1_141 : (.classLink RX2 9 "DeskPlanner$Placement" : Cond) ∈ ALL := ALL_1 141 rfl rfl
theorem t1_142 : (.methodLink RX2 11 yX4_init : Cond) ∈ ALL := ALL_1 142 rfl rfl
theorem t1_143 : (.fieldLink RX2 12 "DeskPlanner$FullSearch" "trial" "LDeskPlanner$Placement;" : Cond) ∈ ALL := ALL_1 143 rfl rfl
theorem t1_144 : (.fieldLink RX2 18 "DeskPlanner$FullSearch" "best" "LDeskPlanner$Placement;" : Cond) ∈ ALL := ALL_1 144 rfl rfl
theorem t1_146 : (.fieldLink RX2 21 "DeskPlanner$FullSearch" "taken" "[Z" : Cond) ∈ ALL := ALL_1 146 rfl rfl
theorem t1_147 : (.fieldLink RX2 25 "DeskPlanner$FullSearch" "withTies" "Z" : Cond) ∈ ALL := ALL_1 147 rfl rfl
theorem t1_148 : (.fieldLink RX2 29 "DeskPlanner$FullSearch" "least" "I" : Cond) ∈ ALL := ALL_1 148 rfl rfl
theorem t1_149 : (.laysFinal RX2 "DeskPlanner$FullSearch" "trial" "LDeskPlanner$Placement;" : Cond) ∈ ALL := ALL_1 149 rfl rfl
theorem t1_150 : (.soleField RX2 "trial" : Cond) ∈ ALL := ALL_1 150 rfl rfl
theorem t1_151 : (.laysFinal RX2 "DeskPlanner$FullSearch" "best" "LDeskPlanner$Placement;" : Cond) ∈ ALL := ALL_1 151 rfl rfl
theorem t1_152 : (.soleField RX2 "best" : Cond) ∈ ALL := ALL_1 152 rfl rfl
theorem t1_153 : (.laysFinal RX2 "DeskPlanner$FullSearch" "taken" "[Z" : Cond) ∈ ALL := ALL_1 153 rfl rfl
theorem t1_154 : (.soleField RX2 "taken" : Cond) ∈ ALL := ALL_1 154 rfl rfl
theorem t1_155 : (.lays RX2 "DeskPlanner$FullSearch" "withTies" "Z" : Cond) ∈ ALL := ALL_1 155 rfl rfl
theorem t1_156 : (.soleField RX2 "withTies" : Cond) ∈ ALL := ALL_1 156 rfl rfl
theorem t1_157 : (.lays RX2 "DeskPlanner$FullSearch" "least" "I" : Cond) ∈ ALL := ALL_1 157 rfl rfl
theorem t1_158 : (.soleField RX2 "least" : Cond) ∈ ALL := ALL_1 158 rfl rfl
theorem t1_159 : (.superclass RX2 "java/lang/Object" : Cond) ∈ ALL := ALL_1 159 rfl rfl
theorem t1_160 : (.classLink RX7 33 "DeskPlanner$StepSearch" : Cond) ∈ ALL := ALL_1 160 rfl rfl
theorem t1_161 : (.instantiable RX6 4 : Cond) ∈ ALL := ALL_1 161 rfl rfl
theorem t1_163 : (.instanceMethod yX6_init : Cond) ∈ ALL := ALL_1 163 rfl rfl
theorem t1_164 : (.code yX6_init cX6_init 1 none : Cond) ∈ ALL := ALL_1 164 rfl rfl
theorem t1_165 : (.methodLink RX6 3 objectInit : Cond) ∈ ALL := ALL_1 165 rfl rfl
theorem t1_166 : (.classLink RX6 9 "DeskPlanner$Placement" : Cond) ∈ ALL := ALL_1 166 rfl rfl
theorem t1_167 : (.methodLink RX6 11 yX4_init : Cond) ∈ ALL := ALL_1 167 rfl rfl
theorem t1_168 : (.classLink RX6 25 "DeskPlanner$Change" : Cond) ∈ ALL := ALL_1 168 rfl rfl
theorem t1_169 : (.instantiable RX0 5 : Cond) ∈ ALL := ALL_1 169 rfl rfl
theorem t1_171 : (.instanceMethod yX0_init : Cond) ∈ ALL := ALL_1 171 rfl rfl
theorem t1_172 : (.code yX0_init cX0_init 1 none : Cond) ∈ ALL := ALL_1 172 rfl rfl
theorem t1_173 : (.methodLink RX0 3 objectInit : Cond) ∈ ALL := ALL_1 173 rfl rfl
theorem t1_174 : (.fieldLink RX0 9 "DeskPlanner$Change" "found" "Z" : Cond) ∈ ALL := ALL_1 174 rfl rfl
theorem t1_176 : (.fieldLink RX0 15 "DeskPlanner$Change" "team" "I" : Cond) ∈ ALL := ALL_1 176 rfl rfl
theorem t1_178 : (.fieldLink RX0 19 "DeskPlanner$Change" "other" "I" : Cond) ∈ ALL := ALL_1 178 rfl rfl
theorem t1_180 : (.fieldLink RX0 22 "DeskPlanner$Change" "zone" "I" : Cond) ∈ ALL := ALL_1 180 rfl rfl
theorem t1_182 : (.fieldLink RX0 25 "DeskPlanner$Change" "cost" "I" : Cond) ∈ ALL := ALL_1 182 rfl rfl
theorem t1_184 : (.lays RX0 "DeskPlanner$Change" "found" "Z" : Cond) ∈ ALL := ALL_1 184 rfl rfl
theorem t1_185 : (.soleField RX0 "found" : Cond) ∈ ALL := ALL_1 185 rfl rfl
theorem t1_186 : (.lays RX0 "DeskPlanner$Change" "team" "I" : Cond) ∈ ALL := ALL_1 186 rfl rfl
theorem t1_187 : (.soleField RX0 "team" : Cond) ∈ ALL := ALL_1 187 rfl rfl
theorem t1_188 : (.lays RX0 "DeskPlanner$Change" "other" "I" : Cond) ∈ ALL := ALL_1 188 rfl rfl
theorem t1_189 : (.soleField RX0 "other" : Cond) ∈ ALL := ALL_1 189 rfl rfl
theorem t1_190 : (.lays RX0 "DeskPlanner$Change" "zone" "I" : Cond) ∈ ALL := ALL_1 190 rfl rfl
theorem t1_191 : (.soleField RX0 "zone" : Cond) ∈ ALL := ALL_1 191 rfl rfl
theorem t1_192 : (.lays RX0 "DeskPlanner$Change" "cost" "I" : Cond) ∈ ALL := ALL_1 192 rfl rfl
theorem t1_193 : (.soleField RX0 "cost" : Cond) ∈ ALL := ALL_1 193 rfl rfl
theorem t1_194 : (.superclass RX0 "java/lang/Object" : Cond) ∈ ALL := ALL_1 194 rfl rfl
theorem t1_195 : (.fieldLink RX6 12 "DeskPlanner$StepSearch" "trial" "LDeskPlanner$Placement;" : Cond) ∈ ALL := ALL_1 195 rfl rfl
theorem t1_196 : (.fieldLink RX6 18 "DeskPlanner$StepSearch" "best" "LDeskPlanner$Placement;" : Cond) ∈ ALL := ALL_1 196 rfl rfl
theorem t1_198 : (.fieldLink RX6 21 "DeskPlanner$StepSearch" "restedAt" "[I" : Cond) ∈ ALL := ALL_1 198 rfl rfl
theorem t1_199 : (.fieldLink RX6 28 "DeskPlanner$StepSearch" "change" "LDeskPlanner$Change;" : Cond) ∈ ALL := ALL_1 199 rfl rfl
theorem t1_200 : (.laysFinal RX6 "DeskPlanner$StepSearch" "trial" "LDeskPlanner$Placement;" : Cond) ∈ ALL := ALL_1 200 rfl rfl
theorem t1_201 : (.soleField RX6 "trial" : Cond) ∈ ALL := ALL_1 201 rfl rfl
theorem t1_202 : (.laysFinal RX6 "DeskPlanner$StepSearch" "best" "LDeskPlanner$Placement;" : Cond) ∈ ALL := ALL_1 202 rfl rfl
theorem t1_203 : (.soleField RX6 "best" : Cond) ∈ ALL := ALL_1 203 rfl rfl
theorem t1_204 : (.laysFinal RX6 "DeskPlanner$StepSearch" "restedAt" "[I" : Cond) ∈ ALL := ALL_1 204 rfl rfl
theorem t1_205 : (.soleField RX6 "restedAt" : Cond) ∈ ALL := ALL_1 205 rfl rfl
theorem t1_206 : (.laysFinal RX6 "DeskPlanner$StepSearch" "change" "LDeskPlanner$Change;" : Cond) ∈ ALL := ALL_1 206 rfl rfl
theorem t1_207 : (.soleField RX6 "change" : Cond) ∈ ALL := ALL_1 207 rfl rfl
theorem t1_208 : (.superclass RX6 "java/lang/Object" : Cond) ∈ ALL := ALL_1 208 rfl rfl
theorem t1_209 : (.fieldLink RX7 12 "DeskPlanner" "office" "LDeskPlanner$Office;" : Cond) ∈ ALL := ALL_1 209 rfl rfl
theorem t1_210 : (.fieldLink RX7 19 "DeskPlanner" "placed" "LDeskPlanner$Placement;" : Cond) ∈ ALL := ALL_1 210 rfl rfl
theorem t1_211 : (.fieldLink RX7 23 "DeskPlanner" "remembered" "LDeskPlanner$Placement;" : Cond) ∈ ALL := ALL_1 211 rfl rfl
theorem t1_212 : (.fieldLink RX7 29 "DeskPlanner" "fullSearch" "LDeskPlanner$FullSearch;" : Cond) ∈ ALL := ALL_1 212 rfl rfl
theorem t1_213 : (.fieldLink RX7 36 "DeskPlanner" "stepSearch" "LDeskPlanner$StepSearch;" : Cond) ∈ ALL := ALL_1 213 rfl rfl
theorem t1_214 : (.laysFinal RX7 "DeskPlanner" "office" "LDeskPlanner$Office;" : Cond) ∈ ALL := ALL_1 214 rfl rfl
theorem t1_215 : (.soleField RX7 "office" : Cond) ∈ ALL := ALL_1 215 rfl rfl
theorem t1_216 : (.laysFinal RX7 "DeskPlanner" "placed" "LDeskPlanner$Placement;" : Cond) ∈ ALL := ALL_1 216 rfl rfl
theorem t1_217 : (.soleField RX7 "placed" : Cond) ∈ ALL := ALL_1 217 rfl rfl
theorem t1_218 : (.laysFinal RX7 "DeskPlanner" "remembered" "LDeskPlanner$Placement;" : Cond) ∈ ALL := ALL_1 218 rfl rfl
theorem t1_219 : (.soleField RX7 "remembered" : Cond) ∈ ALL := ALL_1 219 rfl rfl
theorem t1_220 : (.laysFinal RX7 "DeskPlanner" "fullSearch" "LDeskPlanner$FullSearch;" : Cond) ∈ ALL := ALL_1 220 rfl rfl
theorem t1_221 : (.soleField RX7 "fullSearch" : Cond) ∈ ALL := ALL_1 221 rfl rfl
theorem t1_222 : (.laysFinal RX7 "DeskPlanner" "stepSearch" "LDeskPlanner$StepSearch;" : Cond) ∈ ALL := ALL_1 222 rfl rfl
theorem t1_223 : (.soleField RX7 "stepSearch" : Cond) ∈ ALL := ALL_1 223 rfl rfl
theorem t1_224 : (.superclass RX7 "java/lang/Object" : Cond) ∈ ALL := ALL_1 224 rfl rfl
theorem t1_225 : (.methodLink RL 120 yX7_remember : Cond) ∈ ALL := ALL_1 225 rfl rfl
theorem t1_226 : (.instanceMethod yX7_remember : Cond) ∈ ALL := ALL_1 226 rfl rfl
theorem t1_227 : (.selects RX7 yX7_remember yX7_remember : Cond) ∈ ALL := ALL_1 227 rfl rfl
theorem t1_228 : (.code yX7_remember cX7_remember 1 (some .int) : Cond) ∈ ALL := ALL_1 228 rfl rfl
theorem t1_229 : (.methodLink RX7 167 yX4_layLike : Cond) ∈ ALL := ALL_1 229 rfl rfl
theorem t1_230 : (.instanceMethod yX4_layLike : Cond) ∈ ALL := ALL_1 230 rfl rfl
theorem t1_231 : (.selects RX4 yX4_layLike yX4_layLike : Cond) ∈ ALL := ALL_1 231 rfl rfl
theorem t1_232 : (.code yX4_layLike cX4_layLike 2 none : Cond) ∈ ALL := ALL_1 232 rfl rfl
theorem t1_233 : (.methodLink RX4 21 arraycopyName : Cond) ∈ ALL := ALL_1 233 rfl rfl
theorem t1_234 : (.static arraycopyName : Cond) ∈ ALL := ALL_1 234 rfl rfl
theorem t1_235 : (.native arraycopyName : Cond) ∈ ALL := ALL_1 235 rfl rfl
theorem t1_236 : (.methodLink RX7 155 yX4_countPlaced : Cond) ∈ ALL := ALL_1 236 rfl rfl
theorem t1_237 : (.instanceMethod yX4_countPlaced : Cond) ∈ ALL := ALL_1 237 rfl rfl
theorem t1_238 : (.selects RX4 yX4_countPlaced yX4_countPlaced : Cond) ∈ ALL := ALL_1 238 rfl rfl
theorem t1_239 : (.code yX4_countPlaced cX4_countPlaced 3 (some .int) : Cond) ∈ ALL := ALL_1 239 rfl rfl
theorem t2_0 : (.methodLink RL 127 yX7_zones : Cond) ∈ ALL := ALL_2 0 rfl rfl
theorem t2_1 : (.instanceMethod yX7_zones : Cond) ∈ ALL := ALL_2 1 rfl rfl
theorem t2_2 : (.selects RX7 yX7_zones yX7_zones : Cond) ∈ ALL := ALL_2 2 rfl rfl
theorem t2_3 : (.code yX7_zones cX7_zones 1 (some .int) : Cond) ∈ ALL := ALL_2 3 rfl rfl
theorem t2_4 : (.methodLink RL 131 yX7_teams : Cond) ∈ ALL := ALL_2 4 rfl rfl
theorem t2_5 : (.instanceMethod yX7_teams : Cond) ∈ ALL := ALL_2 5 rfl rfl
theorem t2_6 : (.selects RX7 yX7_teams yX7_teams : Cond) ∈ ALL := ALL_2 6 rfl rfl
theorem t2_7 : (.code yX7_teams cX7_teams 1 (some .int) : Cond) ∈ ALL := ALL_2 7 rfl rfl
theorem t2_8 : (.methodLink RL 154 yX7_wishCost : Cond) ∈ ALL := ALL_2 8 rfl rfl
theorem t2_9 : (.instanceMethod yX7_wishCost : Cond) ∈ ALL := ALL_2 9 rfl rfl
theorem t2_10 : (.selects RX7 yX7_wishCost yX7_wishCost : Cond) ∈ ALL := ALL_2 10 rfl rfl
theorem t2_11 : (.code yX7_wishCost cX7_wishCost 1 (some .int) : Cond) ∈ ALL := ALL_2 11 rfl rfl
theorem t2_12 : (.methodLink RX7 189 yX3_wishCostOf : Cond) ∈ ALL := ALL_2 12 rfl rfl
theorem t2_13 : (.instanceMethod yX3_wishCostOf : Cond) ∈ ALL := ALL_2 13 rfl rfl
theorem t2_14 : (.selects RX3 yX3_wishCostOf yX3_wishCostOf : Cond) ∈ ALL := ALL_2 14 rfl rfl
theorem t2_15 : (.code yX3_wishCostOf cX3_wishCostOf 5 (some .int) : Cond) ∈ ALL := ALL_2 15 rfl rfl
theorem t2_16 : (.methodLink RX3 44 yX4_zoneWith : Cond) ∈ ALL := ALL_2 16 rfl rfl
theorem t2_17 : (.instanceMethod yX4_zoneWith : Cond) ∈ ALL := ALL_2 17 rfl rfl
theorem t2_18 : (.selects RX4 yX4_zoneWith yX4_zoneWith : Cond) ∈ ALL := ALL_2 18 rfl rfl
theorem t2_19 : (.code yX4_zoneWith cX4_zoneWith 2 (some .int) : Cond) ∈ ALL := ALL_2 19 rfl rfl
theorem t2_20 : (.methodLink RL 158 yX7_cost : Cond) ∈ ALL := ALL_2 20 rfl rfl
theorem t2_21 : (.instanceMethod yX7_cost : Cond) ∈ ALL := ALL_2 21 rfl rfl
theorem t2_22 : (.selects RX7 yX7_cost yX7_cost : Cond) ∈ ALL := ALL_2 22 rfl rfl
theorem t2_23 : (.code yX7_cost cX7_cost 1 (some .int) : Cond) ∈ ALL := ALL_2 23 rfl rfl
theorem t2_24 : (.methodLink RX7 192 yX3_costOf : Cond) ∈ ALL := ALL_2 24 rfl rfl
theorem t2_25 : (.instanceMethod yX3_costOf : Cond) ∈ ALL := ALL_2 25 rfl rfl
theorem t2_26 : (.selects RX3 yX3_costOf yX3_costOf : Cond) ∈ ALL := ALL_2 26 rfl rfl
theorem t2_27 : (.code yX3_costOf cX3_costOf 4 (some .int) : Cond) ∈ ALL := ALL_2 27 rfl rfl
theorem t2_28 : (.methodLink RX3 32 yX3_wishCostOf : Cond) ∈ ALL := ALL_2 28 rfl rfl
theorem t2_29 : (.methodLink RX3 40 yX3_tieCostToLower : Cond) ∈ ALL := ALL_2 29 rfl rfl
theorem t2_30 : (.instanceMethod yX3_tieCostToLower : Cond) ∈ ALL := ALL_2 30 rfl rfl
theorem t2_31 : (.selects RX3 yX3_tieCostToLower yX3_tieCostToLower : Cond) ∈ ALL := ALL_2 31 rfl rfl
theorem t2_32 : (.code yX3_tieCostToLower cX3_tieCostToLower 7 (some .int) : Cond) ∈ ALL := ALL_2 32 rfl rfl
theorem t2_33 : (.methodLink RL 162 yX7_leastWishCost : Cond) ∈ ALL := ALL_2 33 rfl rfl
theorem t2_34 : (.instanceMethod yX7_leastWishCost : Cond) ∈ ALL := ALL_2 34 rfl rfl
theorem t2_35 : (.selects RX7 yX7_leastWishCost yX7_leastWishCost : Cond) ∈ ALL := ALL_2 35 rfl rfl
theorem t2_36 : (.code yX7_leastWishCost cX7_leastWishCost 1 (some .int) : Cond) ∈ ALL := ALL_2 36 rfl rfl
theorem t2_37 : (.methodLink RX7 195 yX2_findLeast : Cond) ∈ ALL := ALL_2 37 rfl rfl
theorem t2_38 : (.instanceMethod yX2_findLeast : Cond) ∈ ALL := ALL_2 38 rfl rfl
theorem t2_39 : (.selects RX2 yX2_findLeast yX2_findLeast : Cond) ∈ ALL := ALL_2 39 rfl rfl
theorem t2_40 : (.code yX2_findLeast cX2_findLeast 3 (some .int) : Cond) ∈ ALL := ALL_2 40 rfl rfl
theorem t2_41 : (.methodLink RX2 33 yX2_tryFrom : Cond) ∈ ALL := ALL_2 41 rfl rfl
theorem t2_43 : (.instanceMethod yX2_tryFrom : Cond) ∈ ALL := ALL_2 43 rfl rfl
theorem t2_44 : (.code yX2_tryFrom cX2_tryFrom 5 none : Cond) ∈ ALL := ALL_2 44 rfl rfl
theorem t2_45 : (.methodLink RX2 48 yX4_layLike : Cond) ∈ ALL := ALL_2 45 rfl rfl
theorem t2_46 : (.methodLink RX2 61 yX3_fits : Cond) ∈ ALL := ALL_2 46 rfl rfl
theorem t2_47 : (.instanceMethod yX3_fits : Cond) ∈ ALL := ALL_2 47 rfl rfl
theorem t2_48 : (.selects RX3 yX3_fits yX3_fits : Cond) ∈ ALL := ALL_2 48 rfl rfl
theorem t2_49 : (.code yX3_fits cX3_fits 3 (some .boolean) : Cond) ∈ ALL := ALL_2 49 rfl rfl
theorem t2_50 : (.methodLink RX2 65 yX2_tryAt : Cond) ∈ ALL := ALL_2 50 rfl rfl
theorem t2_52 : (.instanceMethod yX2_tryAt : Cond) ∈ ALL := ALL_2 52 rfl rfl
theorem t2_53 : (.code yX2_tryAt cX2_tryAt 6 none : Cond) ∈ ALL := ALL_2 53 rfl rfl
theorem t2_54 : (.methodLink RX2 69 yX4_lay : Cond) ∈ ALL := ALL_2 54 rfl rfl
theorem t2_55 : (.instanceMethod yX4_lay : Cond) ∈ ALL := ALL_2 55 rfl rfl
theorem t2_56 : (.selects RX4 yX4_lay yX4_lay : Cond) ∈ ALL := ALL_2 56 rfl rfl
theorem t2_57 : (.code yX4_lay cX4_lay 3 none : Cond) ∈ ALL := ALL_2 57 rfl rfl
theorem t2_58 : (.methodLink RX2 77 yX3_tieCostToLower : Cond) ∈ ALL := ALL_2 58 rfl rfl
theorem t2_59 : (.methodLink RL 166 yX7_circles : Cond) ∈ ALL := ALL_2 59 rfl rfl
theorem t2_60 : (.instanceMethod yX7_circles : Cond) ∈ ALL := ALL_2 60 rfl rfl
theorem t2_61 : (.selects RX7 yX7_circles yX7_circles : Cond) ∈ ALL := ALL_2 61 rfl rfl
theorem t2_62 : (.code yX7_circles cX7_circles 3 (some .int) : Cond) ∈ ALL := ALL_2 62 rfl rfl
theorem t2_63 : (.methodLink RX7 199 yX7_isLowestOfCircle : Cond) ∈ ALL := ALL_2 63 rfl rfl
theorem t2_65 : (.instanceMethod yX7_isLowestOfCircle : Cond) ∈ ALL := ALL_2 65 rfl rfl
theorem t2_66 : (.code yX7_isLowestOfCircle cX7_isLowestOfCircle 4 (some .boolean) : Cond) ∈ ALL := ALL_2 66 rfl rfl
theorem t2_67 : (.methodLink RX7 229 yX7_teamInTheWayOf : Cond) ∈ ALL := ALL_2 67 rfl rfl
theorem t2_69 : (.instanceMethod yX7_teamInTheWayOf : Cond) ∈ ALL := ALL_2 69 rfl rfl
theorem t2_70 : (.code yX7_teamInTheWayOf cX7_teamInTheWayOf 2 (some .int) : Cond) ∈ ALL := ALL_2 70 rfl rfl
theorem t2_71 : (.methodLink RX7 122 yX4_zoneWith : Cond) ∈ ALL := ALL_2 71 rfl rfl
theorem t2_72 : (.methodLink RX7 88 yX4_teamAt : Cond) ∈ ALL := ALL_2 72 rfl rfl
theorem t2_73 : (.instanceMethod yX4_teamAt : Cond) ∈ ALL := ALL_2 73 rfl rfl
theorem t2_74 : (.selects RX4 yX4_teamAt yX4_teamAt : Cond) ∈ ALL := ALL_2 74 rfl rfl
theorem t2_75 : (.code yX4_teamAt cX4_teamAt 3 (some .int) : Cond) ∈ ALL := ALL_2 75 rfl rfl
theorem t2_76 : (.methodLink RL 170 yX7_moves : Cond) ∈ ALL := ALL_2 76 rfl rfl
theorem t2_77 : (.instanceMethod yX7_moves : Cond) ∈ ALL := ALL_2 77 rfl rfl
theorem t2_78 : (.selects RX7 yX7_moves yX7_moves : Cond) ∈ ALL := ALL_2 78 rfl rfl
theorem t2_79 : (.code yX7_moves cX7_moves 1 (some .int) : Cond) ∈ ALL := ALL_2 79 rfl rfl
theorem t2_80 : (.methodLink RX7 176 yX4_countOtherwise : Cond) ∈ ALL := ALL_2 80 rfl rfl
theorem t2_81 : (.instanceMethod yX4_countOtherwise : Cond) ∈ ALL := ALL_2 81 rfl rfl
theorem t2_82 : (.selects RX4 yX4_countOtherwise yX4_countOtherwise : Cond) ∈ ALL := ALL_2 82 rfl rfl
theorem t2_83 : (.code yX4_countOtherwise cX4_countOtherwise 4 (some .int) : Cond) ∈ ALL := ALL_2 83 rfl rfl
theorem t2_84 : (.methodLink RX7 203 yX7_circles : Cond) ∈ ALL := ALL_2 84 rfl rfl
theorem t2_85 : (.methodLink RL 78 yL_setWall : Cond) ∈ ALL := ALL_2 85 rfl rfl
theorem t2_86 : (.static yL_setWall : Cond) ∈ ALL := ALL_2 86 rfl rfl
theorem t2_87 : (.codeWith yL_setWall cL_setWall 6 (some .int) [(0, 19, 22, 13), (0, 19, 26, 15)] : Cond) ∈ ALL := ALL_2 87 rfl rfl
theorem t2_88 : (.classLink RL 13 "java/lang/IndexOutOfBoundsException" : Cond) ∈ ALL := ALL_2 88 rfl rfl
theorem t2_89 : (.classLink RL 15 "java/lang/IllegalStateException" : Cond) ∈ ALL := ALL_2 89 rfl rfl
theorem t2_90 : (.methodLink RL 7 yX7_setWall : Cond) ∈ ALL := ALL_2 90 rfl rfl
theorem t2_91 : (.instanceMethod yX7_setWall : Cond) ∈ ALL := ALL_2 91 rfl rfl
theorem t2_92 : (.selects RX7 yX7_setWall yX7_setWall : Cond) ∈ ALL := ALL_2 92 rfl rfl
theorem t2_93 : (.code yX7_setWall cX7_setWall 4 (some .boolean) : Cond) ∈ ALL := ALL_2 93 rfl rfl
theorem t2_94 : (.methodLink RX7 40 yX7_requireSquare : Cond) ∈ ALL := ALL_2 94 rfl rfl
theorem t2_96 : (.instanceMethod yX7_requireSquare : Cond) ∈ ALL := ALL_2 96 rfl rfl
theorem t2_97 : (.code yX7_requireSquare cX7_requireSquare 3 none : Cond) ∈ ALL := ALL_2 97 rfl rfl
theorem t2_98 : (.methodLink RX7 206 yX1_isSquare : Cond) ∈ ALL := ALL_2 98 rfl rfl
theorem t2_99 : (.static yX1_isSquare : Cond) ∈ ALL := ALL_2 99 rfl rfl
theorem t2_100 : (.code yX1_isSquare cX1_isSquare 2 (some .boolean) : Cond) ∈ ALL := ALL_2 100 rfl rfl
theorem t2_101 : (.classLink RX7 209 "java/lang/IndexOutOfBoundsException" : Cond) ∈ ALL := ALL_2 101 rfl rfl
theorem t2_102 : (.instantiable "java/lang/IndexOutOfBoundsException" 6 : Cond) ∈ ALL := ALL_2 102 rfl rfl
theorem t2_110 : (.selects "java/lang/IndexOutOfBoundsException" ⟨"java/lang/Throwable", "fillInStackTrace", "(I)Ljava/lang/Throwable;"⟩ ⟨"java/lang/Throwable", "fillInStackTrace", "(I)Ljava/lang/Throwable;"⟩ : Cond) ∈ ALL := ALL_2 110 rfl rfl
theorem t2_111 : (.selects "java/lang/IndexOutOfBoundsException" ⟨"java/lang/Throwable", "fillInStackTrace", "()Ljava/lang/Throwable;"⟩ ⟨"java/lang/Throwable", "fillInStackTrace", "()Ljava/lang/Throwable;"⟩ : Cond) ∈ ALL := ALL_2 111 rfl rfl
theorem t2_112 : (.lays "java/lang/IndexOutOfBoundsException" "java/lang/Throwable" "cause" "Ljava/lang/Throwable;" : Cond) ∈ ALL := ALL_2 112 rfl rfl
theorem t2_113 : (.lays "java/lang/Throwable" "java/lang/Throwable" "cause" "Ljava/lang/Throwable;" : Cond) ∈ ALL := ALL_2 113 rfl rfl
theorem t2_114 : (.lays "java/lang/IndexOutOfBoundsException" "java/lang/Throwable" "stackTrace" "[Ljava/lang/StackTraceElement;" : Cond) ∈ ALL := ALL_2 114 rfl rfl
theorem t2_115 : (.lays "java/lang/Throwable" "java/lang/Throwable" "stackTrace" "[Ljava/lang/StackTraceElement;" : Cond) ∈ ALL := ALL_2 115 rfl rfl
theorem t2_116 : (.lays "java/lang/IndexOutOfBoundsException" "java/lang/Throwable" "suppressedExceptions" "Ljava/util/List;" : Cond) ∈ ALL := ALL_2 116 rfl rfl
theorem t2_117 : (.lays "java/lang/Throwable" "java/lang/Throwable" "suppressedExceptions" "Ljava/util/List;" : Cond) ∈ ALL := ALL_2 117 rfl rfl
theorem t2_118 : (.lays "java/lang/IndexOutOfBoundsException" "java/lang/Throwable" "detailMessage" "Ljava/lang/String;" : Cond) ∈ ALL := ALL_2 118 rfl rfl
theorem t2_119 : (.lays "java/lang/Throwable" "java/lang/Throwable" "detailMessage" "Ljava/lang/String;" : Cond) ∈ ALL := ALL_2 119 rfl rfl
theorem t2_120 : (.lays "java/lang/IndexOutOfBoundsException" "java/lang/Throwable" "backtrace" "Ljava/lang/Object;" : Cond) ∈ ALL := ALL_2 120 rfl rfl
theorem t2_121 : (.lays "java/lang/Throwable" "java/lang/Throwable" "backtrace" "Ljava/lang/Object;" : Cond) ∈ ALL := ALL_2 121 rfl rfl
theorem t2_122 : (.fieldLink "java/lang/Throwable" 198 "java/lang/Throwable" "backtrace" "Ljava/lang/Object;" : Cond) ∈ ALL := ALL_2 122 rfl rfl
theorem t2_123 : (.superclass "java/lang/Throwable" "java/lang/Object" : Cond) ∈ ALL := ALL_2 123 rfl rfl
theorem t2_124 : (.instanceMethod ⟨"java/lang/Throwable", "<init>", "()V"⟩ : Cond) ∈ ALL := ALL_2 124 rfl rfl
theorem t2_125 : (.code ⟨"java/lang/Throwable", "<init>", "()V"⟩ prog_19_method_1_code 1 none : Cond) ∈ ALL := ALL_2 125 rfl rfl
theorem t2_126 : (.methodLink "java/lang/Throwable" 1 objectInit : Cond) ∈ ALL := ALL_2 126 rfl rfl
theorem t2_127 : (.fieldLink "java/lang/Throwable" 13 "java/lang/Throwable" "UNASSIGNED_STACK" "[Ljava/lang/StackTraceElement;" : Cond) ∈ ALL := ALL_2 127 rfl rfl
theorem t2_129 : (.fieldLink "java/lang/Throwable" 20 "java/lang/Throwable" "SUPPRESSED_SENTINEL" "Ljava/util/List;" : Cond) ∈ ALL := ALL_2 129 rfl rfl
theorem t2_131 : (.methodLink "java/lang/Throwable" 27 ⟨"java/lang/Throwable", "fillInStackTrace", "()Ljava/lang/Throwable;"⟩ : Cond) ∈ ALL := ALL_2 131 rfl rfl
theorem t2_132 : (.instanceMethod ⟨"java/lang/Throwable", "fillInStackTrace", "()Ljava/lang/Throwable;"⟩ : Cond) ∈ ALL := ALL_2 132 rfl rfl
theorem t2_133 : (.sameMethod "java/lang/Throwable" "java/lang/Throwable" "fillInStackTrace" "()Ljava/lang/Throwable;" : Cond) ∈ ALL := ALL_2 133 rfl rfl
theorem t2_134 : (.selects "java/lang/IllegalArgumentException" ⟨"java/lang/Throwable", "fillInStackTrace", "()Ljava/lang/Throwable;"⟩ ⟨"java/lang/Throwable", "fillInStackTrace", "()Ljava/lang/Throwable;"⟩ : Cond) ∈ ALL := ALL_2 134 rfl rfl
theorem t2_135 : (.selects "java/lang/IllegalStateException" ⟨"java/lang/Throwable", "fillInStackTrace", "()Ljava/lang/Throwable;"⟩ ⟨"java/lang/Throwable", "fillInStackTrace", "()Ljava/lang/Throwable;"⟩ : Cond) ∈ ALL := ALL_2 135 rfl rfl
theorem t2_136 : (.codeSync ⟨"java/lang/Throwable", "fillInStackTrace", "()Ljava/lang/Throwable;"⟩ prog_19_method_18_code 1 (some (.object "java/lang/Throwable")) : Cond) ∈ ALL := ALL_2 136 rfl rfl
theorem t2_137 : (.methodLink "java/lang/Throwable" 202 ⟨"java/lang/Throwable", "fillInStackTrace", "(I)Ljava/lang/Throwable;"⟩ : Cond) ∈ ALL := ALL_2 137 rfl rfl
theorem t2_139 : (.instanceMethod ⟨"java/lang/Throwable", "fillInStackTrace", "(I)Ljava/lang/Throwable;"⟩ : Cond) ∈ ALL := ALL_2 139 rfl rfl
theorem t2_140 : (.instantiable "java/lang/Throwable" 6 : Cond) ∈ ALL := ALL_2 140 rfl rfl
theorem t2_141 : (.native ⟨"java/lang/Throwable", "fillInStackTrace", "(I)Ljava/lang/Throwable;"⟩ : Cond) ∈ ALL := ALL_2 141 rfl rfl
theorem t2_143 : (.methodLink RX7 213 ⟨"java/lang/IndexOutOfBoundsException", "<init>", "(Ljava/lang/String;)V"⟩ : Cond) ∈ ALL := ALL_2 143 rfl rfl
theorem t2_144 : (.instanceMethod ⟨"java/lang/IndexOutOfBoundsException", "<init>", "(Ljava/lang/String;)V"⟩ : Cond) ∈ ALL := ALL_2 144 rfl rfl
theorem t2_145 : (.code ⟨"java/lang/IndexOutOfBoundsException", "<init>", "(Ljava/lang/String;)V"⟩ prog_14_method_2_code 2 none : Cond) ∈ ALL := ALL_2 145 rfl rfl
theorem t2_146 : (.methodLink "java/lang/IndexOutOfBoundsException" 7 ⟨"java/lang/RuntimeException", "<init>", "(Ljava/lang/String;)V"⟩ : Cond) ∈ ALL := ALL_2 146 rfl rfl
theorem t2_147 : (.instanceMethod ⟨"java/lang/RuntimeException", "<init>", "(Ljava/lang/String;)V"⟩ : Cond) ∈ ALL := ALL_2 147 rfl rfl
theorem t2_148 : (.code ⟨"java/lang/RuntimeException", "<init>", "(Ljava/lang/String;)V"⟩ prog_16_method_2_code 2 none : Cond) ∈ ALL := ALL_2 148 rfl rfl
theorem t2_149 : (.methodLink "java/lang/RuntimeException" 7 ⟨"java/lang/Exception", "<init>", "(Ljava/lang/String;)V"⟩ : Cond) ∈ ALL := ALL_2 149 rfl rfl
theorem t2_150 : (.instanceMethod ⟨"java/lang/Exception", "<init>", "(Ljava/lang/String;)V"⟩ : Cond) ∈ ALL := ALL_2 150 rfl rfl
theorem t2_151 : (.code ⟨"java/lang/Exception", "<init>", "(Ljava/lang/String;)V"⟩ prog_11_method_2_code 2 none : Cond) ∈ ALL := ALL_2 151 rfl rfl
theorem t2_152 : (.methodLink "java/lang/Exception" 7 ⟨"java/lang/Throwable", "<init>", "(Ljava/lang/String;)V"⟩ : Cond) ∈ ALL := ALL_2 152 rfl rfl
theorem t2_153 : (.instanceMethod ⟨"java/lang/Throwable", "<init>", "(Ljava/lang/String;)V"⟩ : Cond) ∈ ALL := ALL_2 153 rfl rfl
theorem t2_154 : (.code ⟨"java/lang/Throwable", "<init>", "(Ljava/lang/String;)V"⟩ prog_19_method_2_code 2 none : Cond) ∈ ALL := ALL_2 154 rfl rfl
theorem t2_156 : (.fieldLink "java/lang/Throwable" 31 "java/lang/Throwable" "detailMessage" "Ljava/lang/String;" : Cond) ∈ ALL := ALL_2 156 rfl rfl
theorem t2_157 : (.fieldLink "java/lang/Throwable" 7 "java/lang/Throwable" "cause" "Ljava/lang/Throwable;" : Cond) ∈ ALL := ALL_2 157 rfl rfl
theorem t2_158 : (.fieldLink "java/lang/Throwable" 17 "java/lang/Throwable" "stackTrace" "[Ljava/lang/StackTraceElement;" : Cond) ∈ ALL := ALL_2 158 rfl rfl
theorem t2_159 : (.fieldLink "java/lang/Throwable" 24 "java/lang/Throwable" "suppressedExceptions" "Ljava/util/List;" : Cond) ∈ ALL := ALL_2 159 rfl rfl
theorem t2_160 : (.soleField "java/lang/Throwable" "backtrace" : Cond) ∈ ALL := ALL_2 160 rfl rfl
theorem t2_161 : (.soleField "java/lang/Throwable" "detailMessage" : Cond) ∈ ALL := ALL_2 161 rfl rfl
theorem t2_162 : (.soleField "java/lang/Throwable" "cause" : Cond) ∈ ALL := ALL_2 162 rfl rfl
theorem t2_163 : (.soleField "java/lang/Throwable" "stackTrace" : Cond) ∈ ALL := ALL_2 163 rfl rfl
theorem t2_164 : (.lays "java/lang/IndexOutOfBoundsException" "java/lang/Throwable" "depth" "I" : Cond) ∈ ALL := ALL_2 164 rfl rfl
theorem t2_165 : (.soleField "java/lang/Throwable" "depth" : Cond) ∈ ALL := ALL_2 165 rfl rfl
theorem t2_166 : (.soleField "java/lang/Throwable" "suppressedExceptions" : Cond) ∈ ALL := ALL_2 166 rfl rfl
theorem t2_167 : (.superclass "java/lang/IndexOutOfBoundsException" "java/lang/RuntimeException" : Cond) ∈ ALL := ALL_2 167 rfl rfl
theorem t2_168 : (.arrayClass .byte : Cond) ∈ ALL := ALL_2 168 rfl rfl
theorem t2_169 : (.methodLink RX7 48 yX1_hasZone : Cond) ∈ ALL := ALL_2 169 rfl rfl
theorem t2_170 : (.instanceMethod yX1_hasZone : Cond) ∈ ALL := ALL_2 170 rfl rfl
theorem t2_171 : (.selects RX1 yX1_hasZone yX1_hasZone : Cond) ∈ ALL := ALL_2 171 rfl rfl
theorem t2_172 : (.code yX1_hasZone cX1_hasZone 5 (some .boolean) : Cond) ∈ ALL := ALL_2 172 rfl rfl
theorem t2_173 : (.methodLink RX1 40 yX1_squareAt : Cond) ∈ ALL := ALL_2 173 rfl rfl
theorem t2_174 : (.static yX1_squareAt : Cond) ∈ ALL := ALL_2 174 rfl rfl
theorem t2_175 : (.code yX1_squareAt cX1_squareAt 2 (some .int) : Cond) ∈ ALL := ALL_2 175 rfl rfl
theorem t2_176 : (.classLink RX7 54 "java/lang/IllegalStateException" : Cond) ∈ ALL := ALL_2 176 rfl rfl
theorem t2_177 : (.instantiable "java/lang/IllegalStateException" 6 : Cond) ∈ ALL := ALL_2 177 rfl rfl
theorem t2_179 : (.selects "java/lang/IllegalStateException" ⟨"java/lang/Throwable", "fillInStackTrace", "(I)Ljava/lang/Throwable;"⟩ ⟨"java/lang/Throwable", "fillInStackTrace", "(I)Ljava/lang/Throwable;"⟩ : Cond) ∈ ALL := ALL_2 179 rfl rfl
theorem t2_180 : (.lays "java/lang/IllegalStateException" "java/lang/Throwable" "cause" "Ljava/lang/Throwable;" : Cond) ∈ ALL := ALL_2 180 rfl rfl
theorem t2_181 : (.lays "java/lang/IllegalStateException" "java/lang/Throwable" "stackTrace" "[Ljava/lang/StackTraceElement;" : Cond) ∈ ALL := ALL_2 181 rfl rfl
theorem t2_182 : (.lays "java/lang/IllegalStateException" "java/lang/Throwable" "suppressedExceptions" "Ljava/util/List;" : Cond) ∈ ALL := ALL_2 182 rfl rfl
theorem t2_183 : (.lays "java/lang/IllegalStateException" "java/lang/Throwable" "detailMessage" "Ljava/lang/String;" : Cond) ∈ ALL := ALL_2 183 rfl rfl
theorem t2_184 : (.lays "java/lang/IllegalStateException" "java/lang/Throwable" "backtrace" "Ljava/lang/Object;" : Cond) ∈ ALL := ALL_2 184 rfl rfl
theorem t2_186 : (.methodLink RX7 58 ⟨"java/lang/IllegalStateException", "<init>", "(Ljava/lang/String;)V"⟩ : Cond) ∈ ALL := ALL_2 186 rfl rfl
theorem t2_187 : (.instanceMethod ⟨"java/lang/IllegalStateException", "<init>", "(Ljava/lang/String;)V"⟩ : Cond) ∈ ALL := ALL_2 187 rfl rfl
theorem t2_188 : (.code ⟨"java/lang/IllegalStateException", "<init>", "(Ljava/lang/String;)V"⟩ prog_13_method_2_code 2 none : Cond) ∈ ALL := ALL_2 188 rfl rfl
theorem t2_189 : (.methodLink "java/lang/IllegalStateException" 7 ⟨"java/lang/RuntimeException", "<init>", "(Ljava/lang/String;)V"⟩ : Cond) ∈ ALL := ALL_2 189 rfl rfl
theorem t2_190 : (.lays "java/lang/IllegalStateException" "java/lang/Throwable" "depth" "I" : Cond) ∈ ALL := ALL_2 190 rfl rfl
theorem t2_191 : (.superclass "java/lang/IllegalStateException" "java/lang/RuntimeException" : Cond) ∈ ALL := ALL_2 191 rfl rfl
theorem t2_192 : (.methodLink RX7 61 yX1_buildWall : Cond) ∈ ALL := ALL_2 192 rfl rfl
theorem t2_193 : (.instanceMethod yX1_buildWall : Cond) ∈ ALL := ALL_2 193 rfl rfl
theorem t2_194 : (.selects RX1 yX1_buildWall yX1_buildWall : Cond) ∈ ALL := ALL_2 194 rfl rfl
theorem t2_195 : (.code yX1_buildWall cX1_buildWall 6 (some .boolean) : Cond) ∈ ALL := ALL_2 195 rfl rfl
theorem t2_196 : (.methodLink RX1 44 yX1_measureAll : Cond) ∈ ALL := ALL_2 196 rfl rfl
theorem t2_198 : (.instanceMethod yX1_measureAll : Cond) ∈ ALL := ALL_2 198 rfl rfl
theorem t2_199 : (.code yX1_measureAll cX1_measureAll 2 none : Cond) ∈ ALL := ALL_2 199 rfl rfl
theorem t2_200 : (.methodLink RX1 47 yX1_measureFrom : Cond) ∈ ALL := ALL_2 200 rfl rfl
theorem t2_202 : (.instanceMethod yX1_measureFrom : Cond) ∈ ALL := ALL_2 202 rfl rfl
theorem t2_203 : (.code yX1_measureFrom cX1_measureFrom 6 none : Cond) ∈ ALL := ALL_2 203 rfl rfl
theorem t2_204 : (.methodLink RX1 51 yJ7_fill_53178 : Cond) ∈ ALL := ALL_2 204 rfl rfl
theorem t2_205 : (.methodLink RX1 57 yX1_reach : Cond) ∈ ALL := ALL_2 205 rfl rfl
theorem t2_207 : (.instanceMethod yX1_reach : Cond) ∈ ALL := ALL_2 207 rfl rfl
theorem t2_208 : (.code yX1_reach cX1_reach 5 none : Cond) ∈ ALL := ALL_2 208 rfl rfl
theorem t2_209 : (.methodLink RX1 61 yX1_isSquare : Cond) ∈ ALL := ALL_2 209 rfl rfl
theorem t2_210 : (.methodLink RL 87 yL_addZone : Cond) ∈ ALL := ALL_2 210 rfl rfl
theorem t2_211 : (.static yL_addZone : Cond) ∈ ALL := ALL_2 211 rfl rfl
theorem t2_212 : (.codeWith yL_addZone cL_addZone 6 (some .int) [(0, 12, 15, 13), (0, 12, 19, 21), (0, 12, 23, 15)] : Cond) ∈ ALL := ALL_2 212 rfl rfl
theorem t2_213 : (.classLink RL 21 "java/lang/IllegalArgumentException" : Cond) ∈ ALL := ALL_2 213 rfl rfl
theorem t2_214 : (.methodLink RL 17 yX7_addZone : Cond) ∈ ALL := ALL_2 214 rfl rfl
theorem t2_215 : (.instanceMethod yX7_addZone : Cond) ∈ ALL := ALL_2 215 rfl rfl
theorem t2_216 : (.selects RX7 yX7_addZone yX7_addZone : Cond) ∈ ALL := ALL_2 216 rfl rfl
theorem t2_217 : (.code yX7_addZone cX7_addZone 4 (some .int) : Cond) ∈ ALL := ALL_2 217 rfl rfl
theorem t2_218 : (.methodLink RX7 65 yX7_requireRange : Cond) ∈ ALL := ALL_2 218 rfl rfl
theorem t2_220 : (.instanceMethod yX7_requireRange : Cond) ∈ ALL := ALL_2 220 rfl rfl
theorem t2_221 : (.code yX7_requireRange cX7_requireRange 4 none : Cond) ∈ ALL := ALL_2 221 rfl rfl
theorem t2_222 : (.classLink RX7 137 "java/lang/IllegalArgumentException" : Cond) ∈ ALL := ALL_2 222 rfl rfl
theorem t2_223 : (.instantiable "java/lang/IllegalArgumentException" 6 : Cond) ∈ ALL := ALL_2 223 rfl rfl
theorem t2_225 : (.selects "java/lang/IllegalArgumentException" ⟨"java/lang/Throwable", "fillInStackTrace", "(I)Ljava/lang/Throwable;"⟩ ⟨"java/lang/Throwable", "fillInStackTrace", "(I)Ljava/lang/Throwable;"⟩ : Cond) ∈ ALL := ALL_2 225 rfl rfl
theorem t2_226 : (.lays "java/lang/IllegalArgumentException" "java/lang/Throwable" "cause" "Ljava/lang/Throwable;" : Cond) ∈ ALL := ALL_2 226 rfl rfl
theorem t2_227 : (.lays "java/lang/IllegalArgumentException" "java/lang/Throwable" "stackTrace" "[Ljava/lang/StackTraceElement;" : Cond) ∈ ALL := ALL_2 227 rfl rfl
theorem t2_228 : (.lays "java/lang/IllegalArgumentException" "java/lang/Throwable" "suppressedExceptions" "Ljava/util/List;" : Cond) ∈ ALL := ALL_2 228 rfl rfl
theorem t2_229 : (.lays "java/lang/IllegalArgumentException" "java/lang/Throwable" "detailMessage" "Ljava/lang/String;" : Cond) ∈ ALL := ALL_2 229 rfl rfl
theorem t2_230 : (.lays "java/lang/IllegalArgumentException" "java/lang/Throwable" "backtrace" "Ljava/lang/Object;" : Cond) ∈ ALL := ALL_2 230 rfl rfl
theorem t2_232 : (.methodLink RX7 141 ⟨"java/lang/IllegalArgumentException", "<init>", "(Ljava/lang/String;)V"⟩ : Cond) ∈ ALL := ALL_2 232 rfl rfl
theorem t2_233 : (.instanceMethod ⟨"java/lang/IllegalArgumentException", "<init>", "(Ljava/lang/String;)V"⟩ : Cond) ∈ ALL := ALL_2 233 rfl rfl
theorem t2_234 : (.code ⟨"java/lang/IllegalArgumentException", "<init>", "(Ljava/lang/String;)V"⟩ prog_12_method_2_code 2 none : Cond) ∈ ALL := ALL_2 234 rfl rfl
theorem t2_235 : (.methodLink "java/lang/IllegalArgumentException" 7 ⟨"java/lang/RuntimeException", "<init>", "(Ljava/lang/String;)V"⟩ : Cond) ∈ ALL := ALL_2 235 rfl rfl
theorem t2_236 : (.lays "java/lang/IllegalArgumentException" "java/lang/Throwable" "depth" "I" : Cond) ∈ ALL := ALL_2 236 rfl rfl
theorem t2_237 : (.superclass "java/lang/IllegalArgumentException" "java/lang/RuntimeException" : Cond) ∈ ALL := ALL_2 237 rfl rfl
theorem t2_239 : (.methodLink RX7 75 yX1_hasWall : Cond) ∈ ALL := ALL_2 239 rfl rfl
theorem t3_0 : (.instanceMethod yX1_hasWall : Cond) ∈ ALL := ALL_3 0 rfl rfl
theorem t3_1 : (.selects RX1 yX1_hasWall yX1_hasWall : Cond) ∈ ALL := ALL_3 1 rfl rfl
theorem t3_2 : (.code yX1_hasWall cX1_hasWall 3 (some .boolean) : Cond) ∈ ALL := ALL_3 2 rfl rfl
theorem t3_4 : (.methodLink RX7 80 yX1_openZone : Cond) ∈ ALL := ALL_3 4 rfl rfl
theorem t3_5 : (.instanceMethod yX1_openZone : Cond) ∈ ALL := ALL_3 5 rfl rfl
theorem t3_6 : (.selects RX1 yX1_openZone yX1_openZone : Cond) ∈ ALL := ALL_3 6 rfl rfl
theorem t3_7 : (.code yX1_openZone cX1_openZone 5 (some .int) : Cond) ∈ ALL := ALL_3 7 rfl rfl
theorem t3_8 : (.methodLink RL 91 yL_setDesks : Cond) ∈ ALL := ALL_3 8 rfl rfl
theorem t3_9 : (.static yL_setDesks : Cond) ∈ ALL := ALL_3 9 rfl rfl
theorem t3_10 : (.codeWith yL_setDesks cL_setDesks 5 (some .int) [(0, 10, 13, 13), (0, 10, 17, 21), (0, 10, 21, 15)] : Cond) ∈ ALL := ALL_3 10 rfl rfl
theorem t3_11 : (.methodLink RL 23 yX7_setDesks : Cond) ∈ ALL := ALL_3 11 rfl rfl
theorem t3_12 : (.instanceMethod yX7_setDesks : Cond) ∈ ALL := ALL_3 12 rfl rfl
theorem t3_13 : (.selects RX7 yX7_setDesks yX7_setDesks : Cond) ∈ ALL := ALL_3 13 rfl rfl
theorem t3_14 : (.code yX7_setDesks cX7_setDesks 5 (some .int) : Cond) ∈ ALL := ALL_3 14 rfl rfl
theorem t3_15 : (.methodLink RX7 84 yX7_requireZone : Cond) ∈ ALL := ALL_3 15 rfl rfl
theorem t3_17 : (.instanceMethod yX7_requireZone : Cond) ∈ ALL := ALL_3 17 rfl rfl
theorem t3_18 : (.code yX7_requireZone cX7_requireZone 2 none : Cond) ∈ ALL := ALL_3 18 rfl rfl
theorem t3_21 : (.methodLink RL 95 yL_addTeam : Cond) ∈ ALL := ALL_3 21 rfl rfl
theorem t3_22 : (.static yL_addTeam : Cond) ∈ ALL := ALL_3 22 rfl rfl
theorem t3_23 : (.codeWith yL_addTeam cL_addTeam 3 (some .int) [(0, 8, 11, 15)] : Cond) ∈ ALL := ALL_3 23 rfl rfl
theorem t3_24 : (.methodLink RL 27 yX7_addTeam : Cond) ∈ ALL := ALL_3 24 rfl rfl
theorem t3_25 : (.instanceMethod yX7_addTeam : Cond) ∈ ALL := ALL_3 25 rfl rfl
theorem t3_26 : (.selects RX7 yX7_addTeam yX7_addTeam : Cond) ∈ ALL := ALL_3 26 rfl rfl
theorem t3_27 : (.code yX7_addTeam cX7_addTeam 1 (some .int) : Cond) ∈ ALL := ALL_3 27 rfl rfl
theorem t3_29 : (.methodLink RX7 112 yX5_enter : Cond) ∈ ALL := ALL_3 29 rfl rfl
theorem t3_30 : (.instanceMethod yX5_enter : Cond) ∈ ALL := ALL_3 30 rfl rfl
theorem t3_31 : (.selects RX5 yX5_enter yX5_enter : Cond) ∈ ALL := ALL_3 31 rfl rfl
theorem t3_32 : (.code yX5_enter cX5_enter 2 (some .int) : Cond) ∈ ALL := ALL_3 32 rfl rfl
theorem t3_33 : (.methodLink RX5 30 yJ7_fill_53178 : Cond) ∈ ALL := ALL_3 33 rfl rfl
theorem t3_34 : (.methodLink RL 99 yL_setPresent : Cond) ∈ ALL := ALL_3 34 rfl rfl
theorem t3_35 : (.static yL_setPresent : Cond) ∈ ALL := ALL_3 35 rfl rfl
theorem t3_36 : (.codeWith yL_setPresent cL_setPresent 6 (some .int) [(0, 12, 15, 13), (0, 12, 19, 21), (0, 12, 23, 15)] : Cond) ∈ ALL := ALL_3 36 rfl rfl
theorem t3_37 : (.methodLink RL 31 yX7_setPresent : Cond) ∈ ALL := ALL_3 37 rfl rfl
theorem t3_38 : (.instanceMethod yX7_setPresent : Cond) ∈ ALL := ALL_3 38 rfl rfl
theorem t3_39 : (.selects RX7 yX7_setPresent yX7_setPresent : Cond) ∈ ALL := ALL_3 39 rfl rfl
theorem t3_40 : (.code yX7_setPresent cX7_setPresent 5 (some .int) : Cond) ∈ ALL := ALL_3 40 rfl rfl
theorem t3_41 : (.methodLink RX7 116 yX7_requireTeam : Cond) ∈ ALL := ALL_3 41 rfl rfl
theorem t3_43 : (.instanceMethod yX7_requireTeam : Cond) ∈ ALL := ALL_3 43 rfl rfl
theorem t3_44 : (.code yX7_requireTeam cX7_requireTeam 2 none : Cond) ∈ ALL := ALL_3 44 rfl rfl
theorem t3_46 : (.methodLink RX7 119 yX7_requireDay : Cond) ∈ ALL := ALL_3 46 rfl rfl
theorem t3_48 : (.instanceMethod yX7_requireDay : Cond) ∈ ALL := ALL_3 48 rfl rfl
theorem t3_49 : (.code yX7_requireDay cX7_requireDay 2 none : Cond) ∈ ALL := ALL_3 49 rfl rfl
theorem t3_51 : (.methodLink RX7 125 yX5_needWith : Cond) ∈ ALL := ALL_3 51 rfl rfl
theorem t3_52 : (.instanceMethod yX5_needWith : Cond) ∈ ALL := ALL_3 52 rfl rfl
theorem t3_53 : (.selects RX5 yX5_needWith yX5_needWith : Cond) ∈ ALL := ALL_3 53 rfl rfl
theorem t3_54 : (.code yX5_needWith cX5_needWith 6 (some .int) : Cond) ∈ ALL := ALL_3 54 rfl rfl
theorem t3_55 : (.methodLink RX5 36 yJ9_max_7cf53 : Cond) ∈ ALL := ALL_3 55 rfl rfl
theorem t3_56 : (.static yJ9_max_7cf53 : Cond) ∈ ALL := ALL_3 56 rfl rfl
theorem t3_57 : (.code yJ9_max_7cf53 cJ9_max_7cf53 2 (some .int) : Cond) ∈ ALL := ALL_3 57 rfl rfl
theorem t3_59 : (.methodLink RX7 130 yX5_changePresent : Cond) ∈ ALL := ALL_3 59 rfl rfl
theorem t3_60 : (.instanceMethod yX5_changePresent : Cond) ∈ ALL := ALL_3 60 rfl rfl
theorem t3_61 : (.selects RX5 yX5_changePresent yX5_changePresent : Cond) ∈ ALL := ALL_3 61 rfl rfl
theorem t3_62 : (.code yX5_changePresent cX5_changePresent 5 (some .int) : Cond) ∈ ALL := ALL_3 62 rfl rfl
theorem t3_63 : (.methodLink RX5 42 yX5_needWith : Cond) ∈ ALL := ALL_3 63 rfl rfl
theorem t3_64 : (.methodLink RL 102 yL_setWish : Cond) ∈ ALL := ALL_3 64 rfl rfl
theorem t3_65 : (.static yL_setWish : Cond) ∈ ALL := ALL_3 65 rfl rfl
theorem t3_66 : (.codeWith yL_setWish cL_setWish 6 (some .int) [(0, 12, 15, 13), (0, 12, 19, 21)] : Cond) ∈ ALL := ALL_3 66 rfl rfl
theorem t3_67 : (.methodLink RL 34 yX7_setWish : Cond) ∈ ALL := ALL_3 67 rfl rfl
theorem t3_68 : (.instanceMethod yX7_setWish : Cond) ∈ ALL := ALL_3 68 rfl rfl
theorem t3_69 : (.selects RX7 yX7_setWish yX7_setWish : Cond) ∈ ALL := ALL_3 69 rfl rfl
theorem t3_70 : (.code yX7_setWish cX7_setWish 5 (some .int) : Cond) ∈ ALL := ALL_3 70 rfl rfl
theorem t3_71 : (.methodLink RL 105 yL_setTie : Cond) ∈ ALL := ALL_3 71 rfl rfl
theorem t3_72 : (.static yL_setTie : Cond) ∈ ALL := ALL_3 72 rfl rfl
theorem t3_73 : (.codeWith yL_setTie cL_setTie 6 (some .int) [(0, 12, 15, 13), (0, 12, 19, 21)] : Cond) ∈ ALL := ALL_3 73 rfl rfl
theorem t3_74 : (.methodLink RL 37 yX7_setTie : Cond) ∈ ALL := ALL_3 74 rfl rfl
theorem t3_75 : (.instanceMethod yX7_setTie : Cond) ∈ ALL := ALL_3 75 rfl rfl
theorem t3_76 : (.selects RX7 yX7_setTie yX7_setTie : Cond) ∈ ALL := ALL_3 76 rfl rfl
theorem t3_77 : (.code yX7_setTie cX7_setTie 4 (some .int) : Cond) ∈ ALL := ALL_3 77 rfl rfl
theorem t3_79 : (.methodLink RX7 142 yX5_changeTie : Cond) ∈ ALL := ALL_3 79 rfl rfl
theorem t3_80 : (.instanceMethod yX5_changeTie : Cond) ∈ ALL := ALL_3 80 rfl rfl
theorem t3_81 : (.selects RX5 yX5_changeTie yX5_changeTie : Cond) ∈ ALL := ALL_3 81 rfl rfl
theorem t3_82 : (.code yX5_changeTie cX5_changeTie 5 (some .int) : Cond) ∈ ALL := ALL_3 82 rfl rfl
theorem t3_83 : (.methodLink RL 108 yL_place : Cond) ∈ ALL := ALL_3 83 rfl rfl
theorem t3_84 : (.static yL_place : Cond) ∈ ALL := ALL_3 84 rfl rfl
theorem t3_85 : (.codeWith yL_place cL_place 5 (some .int) [(0, 10, 13, 13), (0, 10, 17, 15)] : Cond) ∈ ALL := ALL_3 85 rfl rfl
theorem t3_86 : (.methodLink RL 40 yX7_place : Cond) ∈ ALL := ALL_3 86 rfl rfl
theorem t3_87 : (.instanceMethod yX7_place : Cond) ∈ ALL := ALL_3 87 rfl rfl
theorem t3_88 : (.selects RX7 yX7_place yX7_place : Cond) ∈ ALL := ALL_3 88 rfl rfl
theorem t3_89 : (.code yX7_place cX7_place 4 (some .int) : Cond) ∈ ALL := ALL_3 89 rfl rfl
theorem t3_90 : (.methodLink RX7 145 yX7_requireRoom : Cond) ∈ ALL := ALL_3 90 rfl rfl
theorem t3_92 : (.instanceMethod yX7_requireRoom : Cond) ∈ ALL := ALL_3 92 rfl rfl
theorem t3_93 : (.code yX7_requireRoom cX7_requireRoom 4 none : Cond) ∈ ALL := ALL_3 93 rfl rfl
theorem t3_95 : (.methodLink RX7 171 yX3_fits : Cond) ∈ ALL := ALL_3 95 rfl rfl
theorem t3_97 : (.methodLink RX7 148 yX4_lay : Cond) ∈ ALL := ALL_3 97 rfl rfl
theorem t3_98 : (.methodLink RL 111 yL_placeByWishes : Cond) ∈ ALL := ALL_3 98 rfl rfl
theorem t3_99 : (.static yL_placeByWishes : Cond) ∈ ALL := ALL_3 99 rfl rfl
theorem t3_100 : (.codeWith yL_placeByWishes cL_placeByWishes 3 (some .int) [(0, 8, 11, 15)] : Cond) ∈ ALL := ALL_3 100 rfl rfl
theorem t3_101 : (.methodLink RL 43 yX7_placeByWishes : Cond) ∈ ALL := ALL_3 101 rfl rfl
theorem t3_102 : (.instanceMethod yX7_placeByWishes : Cond) ∈ ALL := ALL_3 102 rfl rfl
theorem t3_103 : (.selects RX7 yX7_placeByWishes yX7_placeByWishes : Cond) ∈ ALL := ALL_3 103 rfl rfl
theorem t3_104 : (.code yX7_placeByWishes cX7_placeByWishes 1 (some .int) : Cond) ∈ ALL := ALL_3 104 rfl rfl
theorem t3_105 : (.methodLink RX7 151 yX7_layLeast : Cond) ∈ ALL := ALL_3 105 rfl rfl
theorem t3_107 : (.instanceMethod yX7_layLeast : Cond) ∈ ALL := ALL_3 107 rfl rfl
theorem t3_108 : (.code yX7_layLeast cX7_layLeast 3 (some .int) : Cond) ∈ ALL := ALL_3 108 rfl rfl
theorem t3_110 : (.methodLink RL 114 yL_placeBest : Cond) ∈ ALL := ALL_3 110 rfl rfl
theorem t3_111 : (.static yL_placeBest : Cond) ∈ ALL := ALL_3 111 rfl rfl
theorem t3_112 : (.codeWith yL_placeBest cL_placeBest 3 (some .int) [(0, 8, 11, 15)] : Cond) ∈ ALL := ALL_3 112 rfl rfl
theorem t3_113 : (.methodLink RL 46 yX7_placeBest : Cond) ∈ ALL := ALL_3 113 rfl rfl
theorem t3_114 : (.instanceMethod yX7_placeBest : Cond) ∈ ALL := ALL_3 114 rfl rfl
theorem t3_115 : (.selects RX7 yX7_placeBest yX7_placeBest : Cond) ∈ ALL := ALL_3 115 rfl rfl
theorem t3_116 : (.code yX7_placeBest cX7_placeBest 1 (some .int) : Cond) ∈ ALL := ALL_3 116 rfl rfl
theorem t3_117 : (.methodLink RL 117 yL_search : Cond) ∈ ALL := ALL_3 117 rfl rfl
theorem t3_118 : (.static yL_search : Cond) ∈ ALL := ALL_3 118 rfl rfl
theorem t3_119 : (.codeWith yL_search cL_search 5 (some .int) [(0, 10, 13, 21), (0, 10, 17, 15)] : Cond) ∈ ALL := ALL_3 119 rfl rfl
theorem t3_120 : (.methodLink RL 49 yX7_search : Cond) ∈ ALL := ALL_3 120 rfl rfl
theorem t3_121 : (.instanceMethod yX7_search : Cond) ∈ ALL := ALL_3 121 rfl rfl
theorem t3_122 : (.selects RX7 yX7_search yX7_search : Cond) ∈ ALL := ALL_3 122 rfl rfl
theorem t3_123 : (.code yX7_search cX7_search 4 (some .int) : Cond) ∈ ALL := ALL_3 123 rfl rfl
theorem t3_125 : (.methodLink RX7 160 yX6_run : Cond) ∈ ALL := ALL_3 125 rfl rfl
theorem t3_126 : (.instanceMethod yX6_run : Cond) ∈ ALL := ALL_3 126 rfl rfl
theorem t3_127 : (.selects RX6 yX6_run yX6_run : Cond) ∈ ALL := ALL_3 127 rfl rfl
theorem t3_128 : (.code yX6_run cX6_run 7 (some .int) : Cond) ∈ ALL := ALL_3 128 rfl rfl
theorem t3_129 : (.methodLink RX6 32 yX4_layLike : Cond) ∈ ALL := ALL_3 129 rfl rfl
theorem t3_130 : (.methodLink RX6 36 yJ7_fill_53178 : Cond) ∈ ALL := ALL_3 130 rfl rfl
theorem t3_131 : (.methodLink RX6 42 yX3_costOf : Cond) ∈ ALL := ALL_3 131 rfl rfl
theorem t3_132 : (.methodLink RX6 48 yX6_chooseChange : Cond) ∈ ALL := ALL_3 132 rfl rfl
theorem t3_134 : (.instanceMethod yX6_chooseChange : Cond) ∈ ALL := ALL_3 134 rfl rfl
theorem t3_135 : (.code yX6_chooseChange cX6_chooseChange 6 none : Cond) ∈ ALL := ALL_3 135 rfl rfl
theorem t3_136 : (.methodLink RX6 73 yX6_weighExchange : Cond) ∈ ALL := ALL_3 136 rfl rfl
theorem t3_138 : (.instanceMethod yX6_weighExchange : Cond) ∈ ALL := ALL_3 138 rfl rfl
theorem t3_139 : (.code yX6_weighExchange cX6_weighExchange 6 none : Cond) ∈ ALL := ALL_3 139 rfl rfl
theorem t3_140 : (.methodLink RX6 93 yX4_zoneWith : Cond) ∈ ALL := ALL_3 140 rfl rfl
theorem t3_141 : (.methodLink RX6 96 yX3_fits : Cond) ∈ ALL := ALL_3 141 rfl rfl
theorem t3_142 : (.methodLink RX6 100 yX4_exchange : Cond) ∈ ALL := ALL_3 142 rfl rfl
theorem t3_143 : (.instanceMethod yX4_exchange : Cond) ∈ ALL := ALL_3 143 rfl rfl
theorem t3_144 : (.selects RX4 yX4_exchange yX4_exchange : Cond) ∈ ALL := ALL_3 144 rfl rfl
theorem t3_145 : (.code yX4_exchange cX4_exchange 4 none : Cond) ∈ ALL := ALL_3 145 rfl rfl
theorem t3_146 : (.methodLink RX6 104 yX0_keepIfLess : Cond) ∈ ALL := ALL_3 146 rfl rfl
theorem t3_147 : (.instanceMethod yX0_keepIfLess : Cond) ∈ ALL := ALL_3 147 rfl rfl
theorem t3_148 : (.selects RX0 yX0_keepIfLess yX0_keepIfLess : Cond) ∈ ALL := ALL_3 148 rfl rfl
theorem t3_149 : (.code yX0_keepIfLess cX0_keepIfLess 5 none : Cond) ∈ ALL := ALL_3 149 rfl rfl
theorem t3_150 : (.methodLink RX6 86 yX4_teamAt : Cond) ∈ ALL := ALL_3 150 rfl rfl
theorem t3_151 : (.methodLink RX6 90 yX6_weighMove : Cond) ∈ ALL := ALL_3 151 rfl rfl
theorem t3_153 : (.instanceMethod yX6_weighMove : Cond) ∈ ALL := ALL_3 153 rfl rfl
theorem t3_154 : (.code yX6_weighMove cX6_weighMove 5 none : Cond) ∈ ALL := ALL_3 154 rfl rfl
theorem t3_155 : (.methodLink RX6 108 yX4_lay : Cond) ∈ ALL := ALL_3 155 rfl rfl
theorem t3_156 : (.methodLink RX6 56 yX6_makeChange : Cond) ∈ ALL := ALL_3 156 rfl rfl
theorem t3_158 : (.instanceMethod yX6_makeChange : Cond) ∈ ALL := ALL_3 158 rfl rfl
theorem t3_159 : (.code yX6_makeChange cX6_makeChange 2 none : Cond) ∈ ALL := ALL_3 159 rfl rfl
theorem t3_160 : (.methodLink RL 124 yL_recall : Cond) ∈ ALL := ALL_3 160 rfl rfl
theorem t3_161 : (.static yL_recall : Cond) ∈ ALL := ALL_3 161 rfl rfl
theorem t3_162 : (.codeWith yL_recall cL_recall 3 (some .int) [(0, 8, 11, 15)] : Cond) ∈ ALL := ALL_3 162 rfl rfl
theorem t3_163 : (.methodLink RL 52 yX7_recall : Cond) ∈ ALL := ALL_3 163 rfl rfl
theorem t3_164 : (.instanceMethod yX7_recall : Cond) ∈ ALL := ALL_3 164 rfl rfl
theorem t3_165 : (.selects RX7 yX7_recall yX7_recall : Cond) ∈ ALL := ALL_3 165 rfl rfl
theorem t3_166 : (.code yX7_recall cX7_recall 3 (some .int) : Cond) ∈ ALL := ALL_3 166 rfl rfl
theorem t3_168 : (.methodLink RL 135 yL_need : Cond) ∈ ALL := ALL_3 168 rfl rfl
theorem t3_169 : (.static yL_need : Cond) ∈ ALL := ALL_3 169 rfl rfl
theorem t3_170 : (.codeWith yL_need cL_need 4 (some .int) [(0, 9, 12, 13)] : Cond) ∈ ALL := ALL_3 170 rfl rfl
theorem t3_171 : (.methodLink RL 55 yX7_need : Cond) ∈ ALL := ALL_3 171 rfl rfl
theorem t3_172 : (.instanceMethod yX7_need : Cond) ∈ ALL := ALL_3 172 rfl rfl
theorem t3_173 : (.selects RX7 yX7_need yX7_need : Cond) ∈ ALL := ALL_3 173 rfl rfl
theorem t3_174 : (.code yX7_need cX7_need 2 (some .int) : Cond) ∈ ALL := ALL_3 174 rfl rfl
theorem t3_175 : (.methodLink RL 139 yL_share : Cond) ∈ ALL := ALL_3 175 rfl rfl
theorem t3_176 : (.static yL_share : Cond) ∈ ALL := ALL_3 176 rfl rfl
theorem t3_177 : (.codeWith yL_share cL_share 4 (some .int) [(0, 9, 12, 13)] : Cond) ∈ ALL := ALL_3 177 rfl rfl
theorem t3_178 : (.methodLink RL 59 yX7_share : Cond) ∈ ALL := ALL_3 178 rfl rfl
theorem t3_179 : (.instanceMethod yX7_share : Cond) ∈ ALL := ALL_3 179 rfl rfl
theorem t3_180 : (.selects RX7 yX7_share yX7_share : Cond) ∈ ALL := ALL_3 180 rfl rfl
theorem t3_181 : (.code yX7_share cX7_share 2 (some .int) : Cond) ∈ ALL := ALL_3 181 rfl rfl
theorem t3_182 : (.methodLink RX7 180 yX5_shareOf : Cond) ∈ ALL := ALL_3 182 rfl rfl
theorem t3_183 : (.instanceMethod yX5_shareOf : Cond) ∈ ALL := ALL_3 183 rfl rfl
theorem t3_184 : (.selects RX5 yX5_shareOf yX5_shareOf : Cond) ∈ ALL := ALL_3 184 rfl rfl
theorem t3_185 : (.code yX5_shareOf cX5_shareOf 5 (some .int) : Cond) ∈ ALL := ALL_3 185 rfl rfl
theorem t3_186 : (.methodLink RL 142 yL_zoneOf : Cond) ∈ ALL := ALL_3 186 rfl rfl
theorem t3_187 : (.static yL_zoneOf : Cond) ∈ ALL := ALL_3 187 rfl rfl
theorem t3_188 : (.codeWith yL_zoneOf cL_zoneOf 4 (some .int) [(0, 9, 12, 13)] : Cond) ∈ ALL := ALL_3 188 rfl rfl
theorem t3_189 : (.methodLink RL 62 yX7_zoneOf : Cond) ∈ ALL := ALL_3 189 rfl rfl
theorem t3_190 : (.instanceMethod yX7_zoneOf : Cond) ∈ ALL := ALL_3 190 rfl rfl
theorem t3_191 : (.selects RX7 yX7_zoneOf yX7_zoneOf : Cond) ∈ ALL := ALL_3 191 rfl rfl
theorem t3_192 : (.code yX7_zoneOf cX7_zoneOf 2 (some .int) : Cond) ∈ ALL := ALL_3 192 rfl rfl
theorem t3_193 : (.methodLink RL 145 yL_teamIn : Cond) ∈ ALL := ALL_3 193 rfl rfl
theorem t3_194 : (.static yL_teamIn : Cond) ∈ ALL := ALL_3 194 rfl rfl
theorem t3_195 : (.codeWith yL_teamIn cL_teamIn 4 (some .int) [(0, 9, 12, 13)] : Cond) ∈ ALL := ALL_3 195 rfl rfl
theorem t3_196 : (.methodLink RL 65 yX7_teamIn : Cond) ∈ ALL := ALL_3 196 rfl rfl
theorem t3_197 : (.instanceMethod yX7_teamIn : Cond) ∈ ALL := ALL_3 197 rfl rfl
theorem t3_198 : (.selects RX7 yX7_teamIn yX7_teamIn : Cond) ∈ ALL := ALL_3 198 rfl rfl
theorem t3_199 : (.code yX7_teamIn cX7_teamIn 2 (some .int) : Cond) ∈ ALL := ALL_3 199 rfl rfl
theorem t3_200 : (.methodLink RL 148 yL_free : Cond) ∈ ALL := ALL_3 200 rfl rfl
theorem t3_201 : (.static yL_free : Cond) ∈ ALL := ALL_3 201 rfl rfl
theorem t3_202 : (.codeWith yL_free cL_free 5 (some .int) [(0, 10, 13, 13)] : Cond) ∈ ALL := ALL_3 202 rfl rfl
theorem t3_203 : (.methodLink RL 68 yX7_free : Cond) ∈ ALL := ALL_3 203 rfl rfl
theorem t3_204 : (.instanceMethod yX7_free : Cond) ∈ ALL := ALL_3 204 rfl rfl
theorem t3_205 : (.selects RX7 yX7_free yX7_free : Cond) ∈ ALL := ALL_3 205 rfl rfl
theorem t3_206 : (.code yX7_free cX7_free 5 (some .int) : Cond) ∈ ALL := ALL_3 206 rfl rfl
theorem t3_207 : (.methodLink RL 151 yL_distance : Cond) ∈ ALL := ALL_3 207 rfl rfl
theorem t3_208 : (.static yL_distance : Cond) ∈ ALL := ALL_3 208 rfl rfl
theorem t3_209 : (.codeWith yL_distance cL_distance 5 (some .int) [(0, 10, 13, 13)] : Cond) ∈ ALL := ALL_3 209 rfl rfl
theorem t3_210 : (.methodLink RL 71 yX7_distance : Cond) ∈ ALL := ALL_3 210 rfl rfl
theorem t3_211 : (.instanceMethod yX7_distance : Cond) ∈ ALL := ALL_3 211 rfl rfl
theorem t3_212 : (.selects RX7 yX7_distance yX7_distance : Cond) ∈ ALL := ALL_3 212 rfl rfl
theorem t3_213 : (.code yX7_distance cX7_distance 3 (some .int) : Cond) ∈ ALL := ALL_3 213 rfl rfl
theorem t3_214 : (.classLink RL 75 "DeskPlannerModel" : Cond) ∈ ALL := ALL_3 214 rfl rfl
theorem t3_215 : (.instantiable RX8 16 : Cond) ∈ ALL := ALL_3 215 rfl rfl
theorem t3_216 : (.methodLink RL 77 yX8_init : Cond) ∈ ALL := ALL_3 216 rfl rfl
theorem t3_217 : (.instanceMethod yX8_init : Cond) ∈ ALL := ALL_3 217 rfl rfl
theorem t3_218 : (.code yX8_init cX8_init 2 none : Cond) ∈ ALL := ALL_3 218 rfl rfl
theorem t3_219 : (.methodLink RX8 1 objectInit : Cond) ∈ ALL := ALL_3 219 rfl rfl
theorem t3_220 : (.fieldLink RX8 7 "DeskPlannerModel" "wall" "[Z" : Cond) ∈ ALL := ALL_3 220 rfl rfl
theorem t3_221 : (.fieldLink RX8 58 "DeskPlannerModel" "zones" "I" : Cond) ∈ ALL := ALL_3 221 rfl rfl
theorem t3_222 : (.fieldLink RX8 13 "DeskPlannerModel" "square" "[I" : Cond) ∈ ALL := ALL_3 222 rfl rfl
theorem t3_223 : (.fieldLink RX8 17 "DeskPlannerModel" "desks" "[I" : Cond) ∈ ALL := ALL_3 223 rfl rfl
theorem t3_224 : (.fieldLink RX8 61 "DeskPlannerModel" "teams" "I" : Cond) ∈ ALL := ALL_3 224 rfl rfl
theorem t3_225 : (.fieldLink RX8 20 "DeskPlannerModel" "present" "[I" : Cond) ∈ ALL := ALL_3 225 rfl rfl
theorem t3_226 : (.fieldLink RX8 23 "DeskPlannerModel" "wish" "[I" : Cond) ∈ ALL := ALL_3 226 rfl rfl
theorem t3_227 : (.fieldLink RX8 26 "DeskPlannerModel" "tie" "[I" : Cond) ∈ ALL := ALL_3 227 rfl rfl
theorem t3_228 : (.fieldLink RX8 29 "DeskPlannerModel" "zone" "[I" : Cond) ∈ ALL := ALL_3 228 rfl rfl
theorem t3_229 : (.fieldLink RX8 32 "DeskPlannerModel" "kept" "[I" : Cond) ∈ ALL := ALL_3 229 rfl rfl
theorem t3_230 : (.fieldLink RX8 35 "DeskPlannerModel" "ways" "[I" : Cond) ∈ ALL := ALL_3 230 rfl rfl
theorem t3_231 : (.fieldLink RX8 38 "DeskPlannerModel" "steps" "[I" : Cond) ∈ ALL := ALL_3 231 rfl rfl
theorem t3_232 : (.fieldLink RX8 41 "DeskPlannerModel" "trial" "[I" : Cond) ∈ ALL := ALL_3 232 rfl rfl
theorem t3_233 : (.fieldLink RX8 44 "DeskPlannerModel" "best" "[I" : Cond) ∈ ALL := ALL_3 233 rfl rfl
theorem t3_234 : (.fieldLink RX8 47 "DeskPlannerModel" "changed" "[I" : Cond) ∈ ALL := ALL_3 234 rfl rfl
theorem t3_235 : (.fieldLink RX8 50 "DeskPlannerModel" "thrown" "I" : Cond) ∈ ALL := ALL_3 235 rfl rfl
theorem t3_236 : (.laysFinal RX8 "DeskPlannerModel" "wall" "[Z" : Cond) ∈ ALL := ALL_3 236 rfl rfl
theorem t3_237 : (.soleField RX8 "wall" : Cond) ∈ ALL := ALL_3 237 rfl rfl
theorem t3_238 : (.lays RX8 "DeskPlannerModel" "zones" "I" : Cond) ∈ ALL := ALL_3 238 rfl rfl
theorem t3_239 : (.soleField RX8 "zones" : Cond) ∈ ALL := ALL_3 239 rfl rfl
theorem t4_0 : (.laysFinal RX8 "DeskPlannerModel" "square" "[I" : Cond) ∈ ALL := ALL_4 0 rfl rfl
theorem t4_1 : (.soleField RX8 "square" : Cond) ∈ ALL := ALL_4 1 rfl rfl
theorem t4_2 : (.laysFinal RX8 "DeskPlannerModel" "desks" "[I" : Cond) ∈ ALL := ALL_4 2 rfl rfl
theorem t4_3 : (.soleField RX8 "desks" : Cond) ∈ ALL := ALL_4 3 rfl rfl
theorem t4_4 : (.lays RX8 "DeskPlannerModel" "teams" "I" : Cond) ∈ ALL := ALL_4 4 rfl rfl
theorem t4_5 : (.soleField RX8 "teams" : Cond) ∈ ALL := ALL_4 5 rfl rfl
theorem t4_6 : (.laysFinal RX8 "DeskPlannerModel" "present" "[I" : Cond) ∈ ALL := ALL_4 6 rfl rfl
theorem t4_7 : (.soleField RX8 "present" : Cond) ∈ ALL := ALL_4 7 rfl rfl
theorem t4_8 : (.laysFinal RX8 "DeskPlannerModel" "wish" "[I" : Cond) ∈ ALL := ALL_4 8 rfl rfl
theorem t4_9 : (.soleField RX8 "wish" : Cond) ∈ ALL := ALL_4 9 rfl rfl
theorem t4_10 : (.laysFinal RX8 "DeskPlannerModel" "tie" "[I" : Cond) ∈ ALL := ALL_4 10 rfl rfl
theorem t4_11 : (.soleField RX8 "tie" : Cond) ∈ ALL := ALL_4 11 rfl rfl
theorem t4_12 : (.laysFinal RX8 "DeskPlannerModel" "zone" "[I" : Cond) ∈ ALL := ALL_4 12 rfl rfl
theorem t4_13 : (.soleField RX8 "zone" : Cond) ∈ ALL := ALL_4 13 rfl rfl
theorem t4_14 : (.laysFinal RX8 "DeskPlannerModel" "kept" "[I" : Cond) ∈ ALL := ALL_4 14 rfl rfl
theorem t4_15 : (.soleField RX8 "kept" : Cond) ∈ ALL := ALL_4 15 rfl rfl
theorem t4_16 : (.laysFinal RX8 "DeskPlannerModel" "ways" "[I" : Cond) ∈ ALL := ALL_4 16 rfl rfl
theorem t4_17 : (.soleField RX8 "ways" : Cond) ∈ ALL := ALL_4 17 rfl rfl
theorem t4_18 : (.laysFinal RX8 "DeskPlannerModel" "steps" "[I" : Cond) ∈ ALL := ALL_4 18 rfl rfl
theorem t4_19 : (.soleField RX8 "steps" : Cond) ∈ ALL := ALL_4 19 rfl rfl
theorem t4_20 : (.laysFinal RX8 "DeskPlannerModel" "trial" "[I" : Cond) ∈ ALL := ALL_4 20 rfl rfl
theorem t4_21 : (.soleField RX8 "trial" : Cond) ∈ ALL := ALL_4 21 rfl rfl
theorem t4_22 : (.laysFinal RX8 "DeskPlannerModel" "best" "[I" : Cond) ∈ ALL := ALL_4 22 rfl rfl
theorem t4_23 : (.soleField RX8 "best" : Cond) ∈ ALL := ALL_4 23 rfl rfl
theorem t4_24 : (.laysFinal RX8 "DeskPlannerModel" "changed" "[I" : Cond) ∈ ALL := ALL_4 24 rfl rfl
theorem t4_25 : (.soleField RX8 "changed" : Cond) ∈ ALL := ALL_4 25 rfl rfl
theorem t4_26 : (.lays RX8 "DeskPlannerModel" "thrown" "I" : Cond) ∈ ALL := ALL_4 26 rfl rfl
theorem t4_27 : (.soleField RX8 "thrown" : Cond) ∈ ALL := ALL_4 27 rfl rfl
theorem t4_28 : (.superclass RX8 "java/lang/Object" : Cond) ∈ ALL := ALL_4 28 rfl rfl
theorem t4_29 : (.methodLink RL 84 yX8_thrown : Cond) ∈ ALL := ALL_4 29 rfl rfl
theorem t4_30 : (.instanceMethod yX8_thrown : Cond) ∈ ALL := ALL_4 30 rfl rfl
theorem t4_31 : (.selects RX8 yX8_thrown yX8_thrown : Cond) ∈ ALL := ALL_4 31 rfl rfl
theorem t4_32 : (.code yX8_thrown cX8_thrown 1 (some .int) : Cond) ∈ ALL := ALL_4 32 rfl rfl
theorem t4_33 : (.methodLink RL 83 yX8_setWall : Cond) ∈ ALL := ALL_4 33 rfl rfl
theorem t4_34 : (.instanceMethod yX8_setWall : Cond) ∈ ALL := ALL_4 34 rfl rfl
theorem t4_35 : (.selects RX8 yX8_setWall yX8_setWall : Cond) ∈ ALL := ALL_4 35 rfl rfl
theorem t4_36 : (.code yX8_setWall cX8_setWall 6 (some .boolean) : Cond) ∈ ALL := ALL_4 36 rfl rfl
theorem t4_37 : (.methodLink RX8 68 yX8_isSquare : Cond) ∈ ALL := ALL_4 37 rfl rfl
theorem t4_38 : (.static yX8_isSquare : Cond) ∈ ALL := ALL_4 38 rfl rfl
theorem t4_39 : (.code yX8_isSquare cX8_isSquare 2 (some .boolean) : Cond) ∈ ALL := ALL_4 39 rfl rfl
theorem t4_40 : (.methodLink RX8 54 yX8_in : Cond) ∈ ALL := ALL_4 40 rfl rfl
theorem t4_41 : (.static yX8_in : Cond) ∈ ALL := ALL_4 41 rfl rfl
theorem t4_42 : (.code yX8_in cX8_in 3 (some .boolean) : Cond) ∈ ALL := ALL_4 42 rfl rfl
theorem t4_43 : (.methodLink RX8 72 yX8_hasZone : Cond) ∈ ALL := ALL_4 43 rfl rfl
theorem t4_45 : (.instanceMethod yX8_hasZone : Cond) ∈ ALL := ALL_4 45 rfl rfl
theorem t4_46 : (.code yX8_hasZone cX8_hasZone 4 (some .boolean) : Cond) ∈ ALL := ALL_4 46 rfl rfl
theorem t4_47 : (.methodLink RX8 76 yX8_asked_ : Cond) ∈ ALL := ALL_4 47 rfl rfl
theorem t4_49 : (.instanceMethod yX8_asked_ : Cond) ∈ ALL := ALL_4 49 rfl rfl
theorem t4_50 : (.code yX8_asked_ cX8_asked_ 3 (some .boolean) : Cond) ∈ ALL := ALL_4 50 rfl rfl
theorem t4_51 : (.methodLink RL 90 yX8_addZone : Cond) ∈ ALL := ALL_4 51 rfl rfl
theorem t4_52 : (.instanceMethod yX8_addZone : Cond) ∈ ALL := ALL_4 52 rfl rfl
theorem t4_53 : (.selects RX8 yX8_addZone yX8_addZone : Cond) ∈ ALL := ALL_4 53 rfl rfl
theorem t4_54 : (.code yX8_addZone cX8_addZone 6 (some .int) : Cond) ∈ ALL := ALL_4 54 rfl rfl
theorem t4_55 : (.methodLink RX8 80 yX8_asked__ : Cond) ∈ ALL := ALL_4 55 rfl rfl
theorem t4_57 : (.instanceMethod yX8_asked__ : Cond) ∈ ALL := ALL_4 57 rfl rfl
theorem t4_58 : (.code yX8_asked__ cX8_asked__ 4 (some .boolean) : Cond) ∈ ALL := ALL_4 58 rfl rfl
theorem t4_59 : (.methodLink RL 94 yX8_setDesks : Cond) ∈ ALL := ALL_4 59 rfl rfl
theorem t4_60 : (.instanceMethod yX8_setDesks : Cond) ∈ ALL := ALL_4 60 rfl rfl
theorem t4_61 : (.selects RX8 yX8_setDesks yX8_setDesks : Cond) ∈ ALL := ALL_4 61 rfl rfl
theorem t4_62 : (.code yX8_setDesks cX8_setDesks 6 (some .int) : Cond) ∈ ALL := ALL_4 62 rfl rfl
theorem t4_63 : (.methodLink RX8 83 yX8_isZone : Cond) ∈ ALL := ALL_4 63 rfl rfl
theorem t4_65 : (.instanceMethod yX8_isZone : Cond) ∈ ALL := ALL_4 65 rfl rfl
theorem t4_66 : (.code yX8_isZone cX8_isZone 2 (some .boolean) : Cond) ∈ ALL := ALL_4 66 rfl rfl
theorem t4_67 : (.methodLink RX8 86 yX8_inZone : Cond) ∈ ALL := ALL_4 67 rfl rfl
theorem t4_69 : (.instanceMethod yX8_inZone : Cond) ∈ ALL := ALL_4 69 rfl rfl
theorem t4_70 : (.code yX8_inZone cX8_inZone 4 (some .int) : Cond) ∈ ALL := ALL_4 70 rfl rfl
theorem t4_71 : (.methodLink RX8 64 yX8_needOf : Cond) ∈ ALL := ALL_4 71 rfl rfl
theorem t4_73 : (.instanceMethod yX8_needOf : Cond) ∈ ALL := ALL_4 73 rfl rfl
theorem t4_74 : (.code yX8_needOf cX8_needOf 4 (some .int) : Cond) ∈ ALL := ALL_4 74 rfl rfl
theorem t4_75 : (.methodLink RL 98 yX8_addTeam : Cond) ∈ ALL := ALL_4 75 rfl rfl
theorem t4_76 : (.instanceMethod yX8_addTeam : Cond) ∈ ALL := ALL_4 76 rfl rfl
theorem t4_77 : (.selects RX8 yX8_addTeam yX8_addTeam : Cond) ∈ ALL := ALL_4 77 rfl rfl
theorem t4_78 : (.code yX8_addTeam cX8_addTeam 2 (some .int) : Cond) ∈ ALL := ALL_4 78 rfl rfl
theorem t4_79 : (.methodLink RX8 89 yX8_asked : Cond) ∈ ALL := ALL_4 79 rfl rfl
theorem t4_81 : (.instanceMethod yX8_asked : Cond) ∈ ALL := ALL_4 81 rfl rfl
theorem t4_82 : (.code yX8_asked cX8_asked 2 (some .boolean) : Cond) ∈ ALL := ALL_4 82 rfl rfl
theorem t4_83 : (.methodLink RL 101 yX8_setPresent : Cond) ∈ ALL := ALL_4 83 rfl rfl
theorem t4_84 : (.instanceMethod yX8_setPresent : Cond) ∈ ALL := ALL_4 84 rfl rfl
theorem t4_85 : (.selects RX8 yX8_setPresent yX8_setPresent : Cond) ∈ ALL := ALL_4 85 rfl rfl
theorem t4_86 : (.code yX8_setPresent cX8_setPresent 8 (some .int) : Cond) ∈ ALL := ALL_4 86 rfl rfl
theorem t4_87 : (.methodLink RX8 92 yX8_isTeam : Cond) ∈ ALL := ALL_4 87 rfl rfl
theorem t4_89 : (.instanceMethod yX8_isTeam : Cond) ∈ ALL := ALL_4 89 rfl rfl
theorem t4_90 : (.code yX8_isTeam cX8_isTeam 2 (some .boolean) : Cond) ∈ ALL := ALL_4 90 rfl rfl
theorem t4_91 : (.methodLink RL 104 yX8_setWish : Cond) ∈ ALL := ALL_4 91 rfl rfl
theorem t4_92 : (.instanceMethod yX8_setWish : Cond) ∈ ALL := ALL_4 92 rfl rfl
theorem t4_93 : (.selects RX8 yX8_setWish yX8_setWish : Cond) ∈ ALL := ALL_4 93 rfl rfl
theorem t4_94 : (.code yX8_setWish cX8_setWish 5 (some .int) : Cond) ∈ ALL := ALL_4 94 rfl rfl
theorem t4_95 : (.methodLink RL 107 yX8_setTie : Cond) ∈ ALL := ALL_4 95 rfl rfl
theorem t4_96 : (.instanceMethod yX8_setTie : Cond) ∈ ALL := ALL_4 96 rfl rfl
theorem t4_97 : (.selects RX8 yX8_setTie yX8_setTie : Cond) ∈ ALL := ALL_4 97 rfl rfl
theorem t4_98 : (.code yX8_setTie cX8_setTie 5 (some .int) : Cond) ∈ ALL := ALL_4 98 rfl rfl
theorem t4_99 : (.methodLink RL 110 yX8_place : Cond) ∈ ALL := ALL_4 99 rfl rfl
theorem t4_100 : (.instanceMethod yX8_place : Cond) ∈ ALL := ALL_4 100 rfl rfl
theorem t4_101 : (.selects RX8 yX8_place yX8_place : Cond) ∈ ALL := ALL_4 101 rfl rfl
theorem t4_102 : (.code yX8_place cX8_place 6 (some .int) : Cond) ∈ ALL := ALL_4 102 rfl rfl
theorem t4_103 : (.methodLink RX8 107 yX8_fits : Cond) ∈ ALL := ALL_4 103 rfl rfl
theorem t4_105 : (.instanceMethod yX8_fits : Cond) ∈ ALL := ALL_4 105 rfl rfl
theorem t4_106 : (.code yX8_fits cX8_fits 3 (some .boolean) : Cond) ∈ ALL := ALL_4 106 rfl rfl
theorem t4_107 : (.methodLink RL 113 yX8_placeByWishes : Cond) ∈ ALL := ALL_4 107 rfl rfl
theorem t4_108 : (.instanceMethod yX8_placeByWishes : Cond) ∈ ALL := ALL_4 108 rfl rfl
theorem t4_109 : (.selects RX8 yX8_placeByWishes yX8_placeByWishes : Cond) ∈ ALL := ALL_4 109 rfl rfl
theorem t4_110 : (.code yX8_placeByWishes cX8_placeByWishes 1 (some .int) : Cond) ∈ ALL := ALL_4 110 rfl rfl
theorem t4_111 : (.methodLink RX8 123 yX8_lays : Cond) ∈ ALL := ALL_4 111 rfl rfl
theorem t4_113 : (.instanceMethod yX8_lays : Cond) ∈ ALL := ALL_4 113 rfl rfl
theorem t4_114 : (.code yX8_lays cX8_lays 4 (some .int) : Cond) ∈ ALL := ALL_4 114 rfl rfl
theorem t4_115 : (.methodLink RX8 119 yX8_tries : Cond) ∈ ALL := ALL_4 115 rfl rfl
theorem t4_117 : (.instanceMethod yX8_tries : Cond) ∈ ALL := ALL_4 117 rfl rfl
theorem t4_118 : (.code yX8_tries cX8_tries 6 (some .int) : Cond) ∈ ALL := ALL_4 118 rfl rfl
theorem t4_119 : (.methodLink RX8 110 yX8_findsWays : Cond) ∈ ALL := ALL_4 119 rfl rfl
theorem t4_121 : (.instanceMethod yX8_findsWays : Cond) ∈ ALL := ALL_4 121 rfl rfl
theorem t4_122 : (.code yX8_findsWays cX8_findsWays 4 none : Cond) ∈ ALL := ALL_4 122 rfl rfl
theorem t4_123 : (.methodLink RX8 99 yX8_walks : Cond) ∈ ALL := ALL_4 123 rfl rfl
theorem t4_125 : (.instanceMethod yX8_walks : Cond) ∈ ALL := ALL_4 125 rfl rfl
theorem t4_126 : (.code yX8_walks cX8_walks 4 none : Cond) ∈ ALL := ALL_4 126 rfl rfl
theorem t4_127 : (.methodLink RX8 95 yX8_goes : Cond) ∈ ALL := ALL_4 127 rfl rfl
theorem t4_129 : (.instanceMethod yX8_goes : Cond) ∈ ALL := ALL_4 129 rfl rfl
theorem t4_130 : (.code yX8_goes cX8_goes 4 none : Cond) ∈ ALL := ALL_4 130 rfl rfl
theorem t4_131 : (.methodLink RX8 113 yX8_costOf : Cond) ∈ ALL := ALL_4 131 rfl rfl
theorem t4_133 : (.instanceMethod yX8_costOf : Cond) ∈ ALL := ALL_4 133 rfl rfl
theorem t4_134 : (.code yX8_costOf cX8_costOf 5 (some .int) : Cond) ∈ ALL := ALL_4 134 rfl rfl
theorem t4_135 : (.methodLink RX8 103 yX8_wishOf : Cond) ∈ ALL := ALL_4 135 rfl rfl
theorem t4_137 : (.instanceMethod yX8_wishOf : Cond) ∈ ALL := ALL_4 137 rfl rfl
theorem t4_138 : (.code yX8_wishOf cX8_wishOf 4 (some .int) : Cond) ∈ ALL := ALL_4 138 rfl rfl
theorem t4_139 : (.methodLink RX8 116 yX8_nextZone : Cond) ∈ ALL := ALL_4 139 rfl rfl
theorem t4_141 : (.instanceMethod yX8_nextZone : Cond) ∈ ALL := ALL_4 141 rfl rfl
theorem t4_142 : (.code yX8_nextZone cX8_nextZone 5 (some .int) : Cond) ∈ ALL := ALL_4 142 rfl rfl
theorem t4_143 : (.methodLink RL 116 yX8_placeBest : Cond) ∈ ALL := ALL_4 143 rfl rfl
theorem t4_144 : (.instanceMethod yX8_placeBest : Cond) ∈ ALL := ALL_4 144 rfl rfl
theorem t4_145 : (.selects RX8 yX8_placeBest yX8_placeBest : Cond) ∈ ALL := ALL_4 145 rfl rfl
theorem t4_146 : (.code yX8_placeBest cX8_placeBest 1 (some .int) : Cond) ∈ ALL := ALL_4 146 rfl rfl
theorem t4_147 : (.methodLink RL 119 yX8_search : Cond) ∈ ALL := ALL_4 147 rfl rfl
theorem t4_148 : (.instanceMethod yX8_search : Cond) ∈ ALL := ALL_4 148 rfl rfl
theorem t4_149 : (.selects RX8 yX8_search yX8_search : Cond) ∈ ALL := ALL_4 149 rfl rfl
theorem t4_150 : (.code yX8_search cX8_search 13 (some .int) : Cond) ∈ ALL := ALL_4 150 rfl rfl
theorem t4_151 : (.methodLink RX8 126 yX8_isPlaced : Cond) ∈ ALL := ALL_4 151 rfl rfl
theorem t4_153 : (.instanceMethod yX8_isPlaced : Cond) ∈ ALL := ALL_4 153 rfl rfl
theorem t4_154 : (.code yX8_isPlaced cX8_isPlaced 3 (some .boolean) : Cond) ∈ ALL := ALL_4 154 rfl rfl
theorem t4_155 : (.methodLink RX8 130 yX8_costBehind : Cond) ∈ ALL := ALL_4 155 rfl rfl
theorem t4_157 : (.instanceMethod yX8_costBehind : Cond) ∈ ALL := ALL_4 157 rfl rfl
theorem t4_158 : (.code yX8_costBehind cX8_costBehind 8 (some .int) : Cond) ∈ ALL := ALL_4 158 rfl rfl
theorem t4_159 : (.methodLink RL 123 yX8_remember : Cond) ∈ ALL := ALL_4 159 rfl rfl
theorem t4_160 : (.instanceMethod yX8_remember : Cond) ∈ ALL := ALL_4 160 rfl rfl
theorem t4_161 : (.selects RX8 yX8_remember yX8_remember : Cond) ∈ ALL := ALL_4 161 rfl rfl
theorem t4_162 : (.code yX8_remember cX8_remember 3 (some .int) : Cond) ∈ ALL := ALL_4 162 rfl rfl
theorem t4_163 : (.methodLink RX8 134 yX8_told : Cond) ∈ ALL := ALL_4 163 rfl rfl
theorem t4_165 : (.instanceMethod yX8_told : Cond) ∈ ALL := ALL_4 165 rfl rfl
theorem t4_166 : (.code yX8_told cX8_told 2 (some .int) : Cond) ∈ ALL := ALL_4 166 rfl rfl
theorem t4_167 : (.methodLink RL 126 yX8_recall : Cond) ∈ ALL := ALL_4 167 rfl rfl
theorem t4_168 : (.instanceMethod yX8_recall : Cond) ∈ ALL := ALL_4 168 rfl rfl
theorem t4_169 : (.selects RX8 yX8_recall yX8_recall : Cond) ∈ ALL := ALL_4 169 rfl rfl
theorem t4_170 : (.code yX8_recall cX8_recall 4 (some .int) : Cond) ∈ ALL := ALL_4 170 rfl rfl
theorem t4_171 : (.methodLink RL 130 yX8_zones : Cond) ∈ ALL := ALL_4 171 rfl rfl
theorem t4_172 : (.instanceMethod yX8_zones : Cond) ∈ ALL := ALL_4 172 rfl rfl
theorem t4_173 : (.selects RX8 yX8_zones yX8_zones : Cond) ∈ ALL := ALL_4 173 rfl rfl
theorem t4_174 : (.code yX8_zones cX8_zones 1 (some .int) : Cond) ∈ ALL := ALL_4 174 rfl rfl
theorem t4_175 : (.methodLink RL 134 yX8_teams : Cond) ∈ ALL := ALL_4 175 rfl rfl
theorem t4_176 : (.instanceMethod yX8_teams : Cond) ∈ ALL := ALL_4 176 rfl rfl
theorem t4_177 : (.selects RX8 yX8_teams yX8_teams : Cond) ∈ ALL := ALL_4 177 rfl rfl
theorem t4_178 : (.code yX8_teams cX8_teams 1 (some .int) : Cond) ∈ ALL := ALL_4 178 rfl rfl
theorem t4_179 : (.methodLink RL 138 yX8_need : Cond) ∈ ALL := ALL_4 179 rfl rfl
theorem t4_180 : (.instanceMethod yX8_need : Cond) ∈ ALL := ALL_4 180 rfl rfl
theorem t4_181 : (.selects RX8 yX8_need yX8_need : Cond) ∈ ALL := ALL_4 181 rfl rfl
theorem t4_182 : (.code yX8_need cX8_need 2 (some .int) : Cond) ∈ ALL := ALL_4 182 rfl rfl
theorem t4_183 : (.methodLink RL 141 yX8_share : Cond) ∈ ALL := ALL_4 183 rfl rfl
theorem t4_184 : (.instanceMethod yX8_share : Cond) ∈ ALL := ALL_4 184 rfl rfl
theorem t4_185 : (.selects RX8 yX8_share yX8_share : Cond) ∈ ALL := ALL_4 185 rfl rfl
theorem t4_186 : (.code yX8_share cX8_share 4 (some .int) : Cond) ∈ ALL := ALL_4 186 rfl rfl
theorem t4_187 : (.methodLink RL 144 yX8_zoneOf : Cond) ∈ ALL := ALL_4 187 rfl rfl
theorem t4_188 : (.instanceMethod yX8_zoneOf : Cond) ∈ ALL := ALL_4 188 rfl rfl
theorem t4_189 : (.selects RX8 yX8_zoneOf yX8_zoneOf : Cond) ∈ ALL := ALL_4 189 rfl rfl
theorem t4_190 : (.code yX8_zoneOf cX8_zoneOf 2 (some .int) : Cond) ∈ ALL := ALL_4 190 rfl rfl
theorem t4_191 : (.methodLink RL 147 yX8_teamIn : Cond) ∈ ALL := ALL_4 191 rfl rfl
theorem t4_192 : (.instanceMethod yX8_teamIn : Cond) ∈ ALL := ALL_4 192 rfl rfl
theorem t4_193 : (.selects RX8 yX8_teamIn yX8_teamIn : Cond) ∈ ALL := ALL_4 193 rfl rfl
theorem t4_194 : (.code yX8_teamIn cX8_teamIn 2 (some .int) : Cond) ∈ ALL := ALL_4 194 rfl rfl
theorem t4_195 : (.methodLink RL 150 yX8_free : Cond) ∈ ALL := ALL_4 195 rfl rfl
theorem t4_196 : (.instanceMethod yX8_free : Cond) ∈ ALL := ALL_4 196 rfl rfl
theorem t4_197 : (.selects RX8 yX8_free yX8_free : Cond) ∈ ALL := ALL_4 197 rfl rfl
theorem t4_198 : (.code yX8_free cX8_free 4 (some .int) : Cond) ∈ ALL := ALL_4 198 rfl rfl
theorem t4_199 : (.methodLink RL 153 yX8_distance : Cond) ∈ ALL := ALL_4 199 rfl rfl
theorem t4_200 : (.instanceMethod yX8_distance : Cond) ∈ ALL := ALL_4 200 rfl rfl
theorem t4_201 : (.selects RX8 yX8_distance yX8_distance : Cond) ∈ ALL := ALL_4 201 rfl rfl
theorem t4_202 : (.code yX8_distance cX8_distance 3 (some .int) : Cond) ∈ ALL := ALL_4 202 rfl rfl
theorem t4_203 : (.methodLink RL 157 yX8_wishCost : Cond) ∈ ALL := ALL_4 203 rfl rfl
theorem t4_204 : (.instanceMethod yX8_wishCost : Cond) ∈ ALL := ALL_4 204 rfl rfl
theorem t4_205 : (.selects RX8 yX8_wishCost yX8_wishCost : Cond) ∈ ALL := ALL_4 205 rfl rfl
theorem t4_206 : (.code yX8_wishCost cX8_wishCost 1 (some .int) : Cond) ∈ ALL := ALL_4 206 rfl rfl
theorem t4_207 : (.methodLink RL 161 yX8_cost : Cond) ∈ ALL := ALL_4 207 rfl rfl
theorem t4_208 : (.instanceMethod yX8_cost : Cond) ∈ ALL := ALL_4 208 rfl rfl
theorem t4_209 : (.selects RX8 yX8_cost yX8_cost : Cond) ∈ ALL := ALL_4 209 rfl rfl
theorem t4_210 : (.code yX8_cost cX8_cost 1 (some .int) : Cond) ∈ ALL := ALL_4 210 rfl rfl
theorem t4_211 : (.methodLink RL 165 yX8_leastWishCost : Cond) ∈ ALL := ALL_4 211 rfl rfl
theorem t4_212 : (.instanceMethod yX8_leastWishCost : Cond) ∈ ALL := ALL_4 212 rfl rfl
theorem t4_213 : (.selects RX8 yX8_leastWishCost yX8_leastWishCost : Cond) ∈ ALL := ALL_4 213 rfl rfl
theorem t4_214 : (.code yX8_leastWishCost cX8_leastWishCost 1 (some .int) : Cond) ∈ ALL := ALL_4 214 rfl rfl
theorem t4_215 : (.methodLink RL 169 yX8_circles : Cond) ∈ ALL := ALL_4 215 rfl rfl
theorem t4_216 : (.instanceMethod yX8_circles : Cond) ∈ ALL := ALL_4 216 rfl rfl
theorem t4_217 : (.selects RX8 yX8_circles yX8_circles : Cond) ∈ ALL := ALL_4 217 rfl rfl
theorem t4_218 : (.code yX8_circles cX8_circles 1 (some .int) : Cond) ∈ ALL := ALL_4 218 rfl rfl
theorem t4_219 : (.methodLink RX8 137 yX8_circlesNow : Cond) ∈ ALL := ALL_4 219 rfl rfl
theorem t4_221 : (.instanceMethod yX8_circlesNow : Cond) ∈ ALL := ALL_4 221 rfl rfl
theorem t4_222 : (.code yX8_circlesNow cX8_circlesNow 7 (some .int) : Cond) ∈ ALL := ALL_4 222 rfl rfl
theorem t4_223 : (.methodLink RL 173 yX8_moves : Cond) ∈ ALL := ALL_4 223 rfl rfl
theorem t4_224 : (.instanceMethod yX8_moves : Cond) ∈ ALL := ALL_4 224 rfl rfl
theorem t4_225 : (.selects RX8 yX8_moves yX8_moves : Cond) ∈ ALL := ALL_4 225 rfl rfl
theorem t4_226 : (.code yX8_moves cX8_moves 3 (some .int) : Cond) ∈ ALL := ALL_4 226 rfl rfl
theorem t4_227 : (.arrayClass .long : Cond) ∈ ALL := ALL_4 227 rfl rfl
theorem t4_228 : (.sameMethod "java/lang/Throwable" "java/lang/Throwable" "fillInStackTrace" "(I)Ljava/lang/Throwable;" : Cond) ∈ ALL := ALL_4 228 rfl rfl
theorem t0_0 : (.selects RX2 yX2_tryFrom yX2_tryFrom : Cond) ∈ ALL := ALL_0 0 rfl rfl
theorem t0_1 : (.selects RX2 yX2_tryAt yX2_tryAt : Cond) ∈ ALL := ALL_0 1 rfl rfl
theorem t0_2 : (.selects RX7 yX7_isLowestOfCircle yX7_isLowestOfCircle : Cond) ∈ ALL := ALL_0 2 rfl rfl
theorem t0_3 : (.selects RX7 yX7_teamInTheWayOf yX7_teamInTheWayOf : Cond) ∈ ALL := ALL_0 3 rfl rfl
theorem t0_4 : (.selects RX7 yX7_requireSquare yX7_requireSquare : Cond) ∈ ALL := ALL_0 4 rfl rfl
theorem t0_5 : (.selects "java/lang/Throwable" ⟨"java/lang/Throwable", "fillInStackTrace", "(I)Ljava/lang/Throwable;"⟩ ⟨"java/lang/Throwable", "fillInStackTrace", "(I)Ljava/lang/Throwable;"⟩ : Cond) ∈ ALL := ALL_0 5 rfl rfl
theorem t0_6 : (.selects RX1 yX1_measureAll yX1_measureAll : Cond) ∈ ALL := ALL_0 6 rfl rfl
theorem t0_7 : (.selects RX1 yX1_measureFrom yX1_measureFrom : Cond) ∈ ALL := ALL_0 7 rfl rfl
theorem t0_8 : (.selects RX1 yX1_reach yX1_reach : Cond) ∈ ALL := ALL_0 8 rfl rfl
theorem t0_9 : (.selects RX7 yX7_requireRange yX7_requireRange : Cond) ∈ ALL := ALL_0 9 rfl rfl
theorem t0_10 : (.selects RX7 yX7_requireZone yX7_requireZone : Cond) ∈ ALL := ALL_0 10 rfl rfl
theorem t0_11 : (.selects RX7 yX7_requireTeam yX7_requireTeam : Cond) ∈ ALL := ALL_0 11 rfl rfl
theorem t0_12 : (.selects RX7 yX7_requireDay yX7_requireDay : Cond) ∈ ALL := ALL_0 12 rfl rfl
theorem t0_13 : (.selects RX7 yX7_requireRoom yX7_requireRoom : Cond) ∈ ALL := ALL_0 13 rfl rfl
theorem t0_14 : (.selects RX7 yX7_layLeast yX7_layLeast : Cond) ∈ ALL := ALL_0 14 rfl rfl
theorem t0_15 : (.selects RX6 yX6_chooseChange yX6_chooseChange : Cond) ∈ ALL := ALL_0 15 rfl rfl
theorem t0_16 : (.selects RX6 yX6_weighExchange yX6_weighExchange : Cond) ∈ ALL := ALL_0 16 rfl rfl
theorem t0_17 : (.selects RX6 yX6_weighMove yX6_weighMove : Cond) ∈ ALL := ALL_0 17 rfl rfl
theorem t0_18 : (.selects RX6 yX6_makeChange yX6_makeChange : Cond) ∈ ALL := ALL_0 18 rfl rfl
theorem t0_19 : (.selects RX8 yX8_hasZone yX8_hasZone : Cond) ∈ ALL := ALL_0 19 rfl rfl
theorem t0_20 : (.selects RX8 yX8_asked_ yX8_asked_ : Cond) ∈ ALL := ALL_0 20 rfl rfl
theorem t0_21 : (.selects RX8 yX8_asked__ yX8_asked__ : Cond) ∈ ALL := ALL_0 21 rfl rfl
theorem t0_22 : (.selects RX8 yX8_isZone yX8_isZone : Cond) ∈ ALL := ALL_0 22 rfl rfl
theorem t0_23 : (.selects RX8 yX8_inZone yX8_inZone : Cond) ∈ ALL := ALL_0 23 rfl rfl
theorem t0_24 : (.selects RX8 yX8_needOf yX8_needOf : Cond) ∈ ALL := ALL_0 24 rfl rfl
theorem t0_25 : (.selects RX8 yX8_asked yX8_asked : Cond) ∈ ALL := ALL_0 25 rfl rfl
theorem t0_26 : (.selects RX8 yX8_isTeam yX8_isTeam : Cond) ∈ ALL := ALL_0 26 rfl rfl
theorem t0_27 : (.selects RX8 yX8_fits yX8_fits : Cond) ∈ ALL := ALL_0 27 rfl rfl
theorem t0_28 : (.selects RX8 yX8_lays yX8_lays : Cond) ∈ ALL := ALL_0 28 rfl rfl
theorem t0_29 : (.selects RX8 yX8_tries yX8_tries : Cond) ∈ ALL := ALL_0 29 rfl rfl
theorem t0_30 : (.selects RX8 yX8_findsWays yX8_findsWays : Cond) ∈ ALL := ALL_0 30 rfl rfl
theorem t0_31 : (.selects RX8 yX8_walks yX8_walks : Cond) ∈ ALL := ALL_0 31 rfl rfl
theorem t0_32 : (.selects RX8 yX8_goes yX8_goes : Cond) ∈ ALL := ALL_0 32 rfl rfl
theorem t0_33 : (.selects RX8 yX8_costOf yX8_costOf : Cond) ∈ ALL := ALL_0 33 rfl rfl
theorem t0_34 : (.selects RX8 yX8_wishOf yX8_wishOf : Cond) ∈ ALL := ALL_0 34 rfl rfl
theorem t0_35 : (.selects RX8 yX8_nextZone yX8_nextZone : Cond) ∈ ALL := ALL_0 35 rfl rfl
theorem t0_36 : (.selects RX8 yX8_isPlaced yX8_isPlaced : Cond) ∈ ALL := ALL_0 36 rfl rfl
theorem t0_37 : (.selects RX8 yX8_costBehind yX8_costBehind : Cond) ∈ ALL := ALL_0 37 rfl rfl
theorem t0_38 : (.selects RX8 yX8_told yX8_told : Cond) ∈ ALL := ALL_0 38 rfl rfl
theorem t0_39 : (.selects RX8 yX8_circlesNow yX8_circlesNow : Cond) ∈ ALL := ALL_0 39 rfl rfl
theorem tu_X0 : ∀ w ∈ wsX00, w ∈ ALL := List.forall_mem_cons.mpr ⟨t1_184, List.forall_mem_cons.mpr ⟨t1_186, List.forall_mem_cons.mpr ⟨t1_188, List.forall_mem_cons.mpr ⟨t1_190, List.forall_mem_cons.mpr ⟨t1_192, fun _ h => nomatch h⟩⟩⟩⟩⟩
theorem tu_X1 : ∀ w ∈ wsX10, w ∈ ALL := List.forall_mem_cons.mpr ⟨t1_56, List.forall_mem_cons.mpr ⟨t1_58, List.forall_mem_cons.mpr ⟨t1_60, List.forall_mem_cons.mpr ⟨t1_62, List.forall_mem_cons.mpr ⟨t1_64, List.forall_mem_cons.mpr ⟨t1_66, List.forall_mem_cons.mpr ⟨t1_68, List.forall_mem_cons.mpr ⟨t1_70, fun _ h => nomatch h⟩⟩⟩⟩⟩⟩⟩⟩
theorem tu_X2 : ∀ w ∈ wsX20, w ∈ ALL := List.forall_mem_cons.mpr ⟨t1_149, List.forall_mem_cons.mpr ⟨t1_151, List.forall_mem_cons.mpr ⟨t1_153, List.forall_mem_cons.mpr ⟨t1_155, List.forall_mem_cons.mpr ⟨t1_157, fun _ h => nomatch h⟩⟩⟩⟩⟩
theorem tu_X3 : ∀ w ∈ wsX30, w ∈ ALL := List.forall_mem_cons.mpr ⟨t1_117, List.forall_mem_cons.mpr ⟨t1_119, fun _ h => nomatch h⟩⟩
theorem tu_X4 : ∀ w ∈ wsX40, w ∈ ALL := List.forall_mem_cons.mpr ⟨t1_132, fun _ h => nomatch h⟩
theorem tu_X5 : ∀ w ∈ wsX50, w ∈ ALL := List.forall_mem_cons.mpr ⟨t1_98, List.forall_mem_cons.mpr ⟨t1_100, List.forall_mem_cons.mpr ⟨t1_102, List.forall_mem_cons.mpr ⟨t1_104, List.forall_mem_cons.mpr ⟨t1_106, fun _ h => nomatch h⟩⟩⟩⟩⟩
theorem tu_X6 : ∀ w ∈ wsX60, w ∈ ALL := List.forall_mem_cons.mpr ⟨t1_200, List.forall_mem_cons.mpr ⟨t1_202, List.forall_mem_cons.mpr ⟨t1_204, List.forall_mem_cons.mpr ⟨t1_206, fun _ h => nomatch h⟩⟩⟩⟩
theorem tu_X7 : ∀ w ∈ wsX70, w ∈ ALL := List.forall_mem_cons.mpr ⟨t1_214, List.forall_mem_cons.mpr ⟨t1_216, List.forall_mem_cons.mpr ⟨t1_218, List.forall_mem_cons.mpr ⟨t1_220, List.forall_mem_cons.mpr ⟨t1_222, fun _ h => nomatch h⟩⟩⟩⟩⟩
theorem tu_X8 : ∀ w ∈ wsX80, w ∈ ALL := List.forall_mem_cons.mpr ⟨t3_236, List.forall_mem_cons.mpr ⟨t3_238, List.forall_mem_cons.mpr ⟨t4_0, List.forall_mem_cons.mpr ⟨t4_2, List.forall_mem_cons.mpr ⟨t4_4, List.forall_mem_cons.mpr ⟨t4_6, List.forall_mem_cons.mpr ⟨t4_8, List.forall_mem_cons.mpr ⟨t4_10, List.forall_mem_cons.mpr ⟨t4_12, List.forall_mem_cons.mpr ⟨t4_14, List.forall_mem_cons.mpr ⟨t4_16, List.forall_mem_cons.mpr ⟨t4_18, List.forall_mem_cons.mpr ⟨t4_20, List.forall_mem_cons.mpr ⟨t4_22, List.forall_mem_cons.mpr ⟨t4_24, List.forall_mem_cons.mpr ⟨t4_26, fun _ h => nomatch h⟩⟩⟩⟩⟩⟩⟩⟩⟩⟩⟩⟩⟩⟩⟩⟩
end
section
/-! What every contract of this claim stands on: the words on nest mates, the tables' facts in one word (St), the worlds of the classes as lists of cells, rows of arrays of arrays, calls that only read -/
-- ===== nest mates =====
def nl_F : List (String × Nat × String × String × String) := [("DeskPlanner", 104, "DeskPlanner$Floor", "desks", "[I"), ("DeskPlanner", 107, "DeskPlanner$Staff", "teamCount", "I"), ("DeskPlanner", 133, "DeskPlanner$Staff", "wishes", "[[I"), ("DeskPlanner", 164, "DeskPlanner$StepSearch", "best", "LDeskPlanner$Placement;"), ("DeskPlanner", 183, "DeskPlanner$Staff", "present", "[[I"), ("DeskPlanner", 186, "DeskPlanner$Floor", "distances", "[[I"), ("DeskPlanner", 228, "DeskPlanner$FullSearch", "best", "LDeskPlanner$Placement;"), ("DeskPlanner", 44, "DeskPlanner$Office", "floor", "LDeskPlanner$Floor;"), ("DeskPlanner", 69, "DeskPlanner$Floor", "zoneCount", "I"), ("DeskPlanner", 92, "DeskPlanner$Office", "staff", "LDeskPlanner$Staff;"), ("DeskPlanner", 96, "DeskPlanner$Staff", "needs", "[I"), ("DeskPlanner$FullSearch", 37, "DeskPlanner$Office", "staff", "LDeskPlanner$Staff;"), ("DeskPlanner$FullSearch", 43, "DeskPlanner$Staff", "teamCount", "I"), ("DeskPlanner$FullSearch", 52, "DeskPlanner$Office", "floor", "LDeskPlanner$Floor;"), ("DeskPlanner$FullSearch", 56, "DeskPlanner$Floor", "zoneCount", "I"), ("DeskPlanner$FullSearch", 73, "DeskPlanner$Staff", "wishes", "[[I"), ("DeskPlanner$Office", 25, "DeskPlanner$Floor", "desks", "[I"), ("DeskPlanner$Office", 29, "DeskPlanner$Staff", "needs", "[I"), ("DeskPlanner$Office", 36, "DeskPlanner$Staff", "teamCount", "I"), ("DeskPlanner$Office", 50, "DeskPlanner$Staff", "wishes", "[[I"), ("DeskPlanner$Office", 54, "DeskPlanner$Staff", "ties", "[[I"), ("DeskPlanner$Office", 57, "DeskPlanner$Floor", "distances", "[[I"), ("DeskPlanner$StepSearch", 111, "DeskPlanner$Change", "other", "I"), ("DeskPlanner$StepSearch", 114, "DeskPlanner$Change", "team", "I"), ("DeskPlanner$StepSearch", 117, "DeskPlanner$Change", "zone", "I"), ("DeskPlanner$StepSearch", 52, "DeskPlanner$Change", "found", "Z"), ("DeskPlanner$StepSearch", 60, "DeskPlanner$Change", "cost", "I"), ("DeskPlanner$StepSearch", 64, "DeskPlanner$Office", "staff", "LDeskPlanner$Staff;"), ("DeskPlanner$StepSearch", 68, "DeskPlanner$Staff", "teamCount", "I"), ("DeskPlanner$StepSearch", 77, "DeskPlanner$Office", "floor", "LDeskPlanner$Floor;"), ("DeskPlanner$StepSearch", 81, "DeskPlanner$Floor", "zoneCount", "I")]
def nl_M : List (String × Nat × MethodName) := [("DeskPlanner", 11, yX3_init), ("DeskPlanner$Office", 11, yX1_init), ("DeskPlanner$Office", 20, yX5_init), ("DeskPlanner", 28, yX2_init), ("DeskPlanner", 35, yX6_init), ("DeskPlanner$StepSearch", 27, yX0_init)]
def nl_f (q : String × Nat × String × String × String) : Cond := .fieldLinkNest q.1 q.2.1 q.2.2.1 q.2.2.2.1 q.2.2.2.2 "DeskPlanner"
def nl_m (q : String × Nat × MethodName) : Cond := .methodLinkNest q.1 q.2.1 q.2.2 "DeskPlanner"
def nl_E : List String := ["java/lang/IndexOutOfBoundsException", "java/lang/IllegalArgumentException", "java/lang/IllegalStateException"]
def nl_P : List (String × String) := [("java/lang/IllegalStateException", "java/lang/IndexOutOfBoundsException"), ("java/lang/IllegalArgumentException", "java/lang/IndexOutOfBoundsException"), ("java/lang/IndexOutOfBoundsException", "java/lang/IllegalStateException"), ("java/lang/IllegalArgumentException", "java/lang/IllegalStateException"), ("java/lang/IndexOutOfBoundsException", "java/lang/IllegalArgumentException"), ("java/lang/IllegalStateException", "java/lang/IllegalArgumentException")]
def nl_S : List (Nat × String) := [(211, "there is no such square"), (56, "there is a zone at the square"), (220, "a number is out of range"), (73, "there are as many zones as there may be"), (78, "the square has a wall or a zone"), (214, "there is no such zone"), (102, "the team in the zone would not fit any more"), (110, "there are as many teams as there may be"), (216, "there is no such team"), (218, "there is no such day"), (128, "the team would not fit into its zone any more"), (139, "a team has no tie to itself"), (222, "another team is in the zone"), (224, "the team does not fit into the zone"), (226, "there is no placement of all teams"), (158, "some team is in no zone"), (174, "some team would not fit")]
/-- what the tables say beside the good words: fields and constructors of nest mates, which class is which other's, the class of rows of rows, the texts -/
def nl_K (U : State) : Prop := (∀ q ∈ nl_F, va_Nw (nl_f q) U) ∧ (∀ q ∈ nl_M, va_Nw (nl_m q) U) ∧ (∀ E ∈ nl_E, va_Nw (.castable E E) U) ∧ (∀ q ∈ nl_P, va_Nc q.1 q.2 U) ∧ va_AOA .int U ∧ ∀ q ∈ nl_S, ∃ sa, vk_R "DeskPlanner" q.1 q.2 sa U
theorem va_Nc.alike {C T : String} {s U : State} (h : s.vm.Alike U.vm) (hZ : va_Nc C T s) : va_Nc C T U := by
  obtain ⟨c, t, h1, h2, h3⟩ := hZ
  exact ⟨c, t, by rw [h.findClass]; exact h1, by rw [h.findClass]; exact h2, by rw [h.assignable]; exact h3⟩
theorem nl_K.warm {s U : State} (hW : s.WarmedH U.vm) (h : nl_K s) : nl_K U := by
  obtain ⟨h1, h2, h3, h4, h5, h6⟩ := h
  exact ⟨fun q hq => va_Nw.warmF hW (h1 q hq), fun q hq => va_Nw.warmM hW (h2 q hq), fun q hq => va_Nw.warmC hW (h3 q hq), fun q hq => (h4 q hq).alike hW.alike, arrayOver_alikeB hW.alike h5, fun q hq => (h6 q hq).elim fun sa h => ⟨sa, vk_R.warm hW h⟩⟩
theorem nl_K.same {u U : State} (hv : u.vm = U.vm) (h : nl_K u) : nl_K U := by
  obtain ⟨h1, h2, h3, h4, h5, h6⟩ := h
  have hal : u.vm.Alike U.vm := by rw [hv]; exact Vm.Alike.refl U.vm
  exact ⟨fun q hq => va_Nw.same rfl hv (h1 q hq), fun q hq => va_Nw.same rfl hv (h2 q hq), fun q hq => va_Nw.same rfl hv (h3 q hq), fun q hq => (h4 q hq).alike hal, arrayOver_alikeB hal h5, fun q hq => (h6 q hq).elim fun sa h => ⟨sa, vk_R.same hv.symm h⟩⟩
/-- a field of a nest mate: its word, by its place -/
theorem nl_K.f {s : State} {args : Array Value} (h : nl_K s) (k : Nat) {q : String × Nat × String × String × String} (hk : nl_F[k]? = some q) : (Cond.fieldLinkNest q.1 q.2.1 q.2.2.1 q.2.2.2.1 q.2.2.2.2 "DeskPlanner").before args s = true := va_Nw.use rfl (h.1 q (List.mem_of_getElem? hk))
theorem nl_K.m {s : State} (h : nl_K s) (k : Nat) {q : String × Nat × MethodName} (hk : nl_M[k]? = some q) : va_Nw (.methodLinkNest q.1 q.2.1 q.2.2 "DeskPlanner") s := h.2.1 q (List.mem_of_getElem? hk)
theorem nl_K.e {s : State} {args : Array Value} (h : nl_K s) (k : Nat) {E : String} (hk : nl_E[k]? = some E) : (Cond.castable E E).before args s = true := va_Nw.use rfl (h.2.2.1 E (List.mem_of_getElem? hk))
theorem nl_K.p {s : State} (h : nl_K s) (k : Nat) {C T : String} (hk : nl_P[k]? = some (C, T)) : va_Nc C T s := h.2.2.2.1 (C, T) (List.mem_of_getElem? hk)
theorem nl_K.a {s : State} (h : nl_K s) : va_AOA .int s := h.2.2.2.2.1
theorem nl_K.s {s : State} (h : nl_K s) (k : Nat) {i : Nat} {tx : String} (hk : nl_S[k]? = some (i, tx)) : ∃ sa, vk_R "DeskPlanner" i tx sa s := h.2.2.2.2.2 (i, tx) (List.mem_of_getElem? hk)
-- ===== the tables' facts in one word =====
def St (D : va_G) (cI cZ cQ cJ : ClassId) (U : State) : Prop := va_K D vwCl [(cI, .int), (cZ, .boolean), (cQ, .array .int), (cJ, .long)] U ∧ nl_K U
theorem St.warm {D : va_G} {cI cZ cQ cJ : ClassId} {s U : State} (hW : s.WarmedH U.vm) (h : St D cI cZ cQ cJ s) : St D cI cZ cQ cJ U := ⟨va_K.moved hW.alike h.1, nl_K.warm hW h.2⟩
theorem St.same {D : va_G} {cI cZ cQ cJ : ClassId} {u U : State} (hv : u.vm = U.vm) (h : St D cI cZ cQ cJ u) : St D cI cZ cQ cJ U := ⟨va_K.moved (by rw [hv]; exact Vm.Alike.refl U.vm) h.1, nl_K.same hv h.2⟩
-- ===== rows of arrays of arrays =====
/-- n rows of m ints each, at r 0, r 1, .. -/
def rb (r : Nat → Nat) (cI : ClassId) (m : Nat) (F : Nat → Nat → Int32) (n : Nat) : va_W := (List.range n).map fun i => (r i, .inl (cI, m, .inl (F i)))
/-- F, but v at j of row i -/
def u2 (F : Nat → Nat → Int32) (i j : Nat) (v : Int32) : Nat → Nat → Int32 := fun a => if a = i then upd (F i) j v else F a
theorem rb_len (r : Nat → Nat) (cI : ClassId) (m : Nat) (F : Nat → Nat → Int32) (n : Nat) : (rb r cI m F n).length = n := by simp [rb]
theorem rb_get {X Y : va_W} {r : Nat → Nat} {cI : ClassId} {m n : Nat} {F : Nat → Nat → Int32} {i x : Nat} (hx : X.length = x) (hi : i < n) : (X ++ (rb r cI m F n ++ Y))[x + i]? = some (r i, .inl (cI, m, .inl (F i))) := by
  subst hx
  rw [List.getElem?_append_right (by omega), Nat.add_sub_cancel_left, List.getElem?_append_left (by rw [rb_len]; exact hi)]
  simp [rb, hi]
theorem rb_set {X Y : va_W} {r : Nat → Nat} {cI : ClassId} {m n : Nat} {F : Nat → Nat → Int32} {i x : Nat} {j : Nat} {v : Int32} (hx : X.length = x) (hi : i < n) : (X ++ (rb r cI m F n ++ Y)).set (x + i) (r i, .inl (cI, m, .inl (upd (F i) j v))) = X ++ (rb r cI m (u2 F i j v) n ++ Y) := by
  subst hx
  rw [List.set_append_right _ _ (by omega), Nat.add_sub_cancel_left, List.set_append_left _ _ (by rw [rb_len]; exact hi)]
  congr 2
  apply List.ext_getElem?
  intro k
  rw [List.getElem?_set]
  by_cases hk : k < n
  · by_cases e : i = k
    · subst e
      simp [rb, hk, u2]
    · simp [rb, hk, u2, e]
      exact fun h => absurd h.symm e
  · have e : ¬ i = k := by omega
    simp [rb, hk, e]
/-- the outer array of a block -/
abbrev rq (a : Nat) (cQ : ClassId) (r : Nat → Nat) : Nat × va_E := (a, .inl (cQ, 7, .inr (.inr (.inr (.inr (fun i => if i < 7 then some (r i) else none))))))
-- ===== one array, said by another function =====
theorem arrV_ext (c : ClassId) {N : Nat} {f g : Nat → Value} (h : ∀ j, j < N → f j = g j) : arrV c N f = arrV c N g := by
  unfold arrV
  congr 1
  apply Array.ext
  · simp
  · intro j h1 h2
    simp only [Array.getElem_ofFn]
    exact h j (by simpa using h1)
theorem P_fi {D : va_G} {cl : List vw_C} {A : Nat → Prop} {ws : va_W} {H : Heap} (hP : va_P D cl ws H) (hD : va_D A ws) (q0 : Nat) {a : Nat} {cA : ClassId} {n : Nat} {f : Nat → Int32} (g : Nat → Int32) (he : ws[q0]? = some (a, .inl (cA, n, .inl f))) (h : ∀ j, j < n → f j = g j) :
    va_P D cl (ws.set q0 (a, .inl (cA, n, .inl g))) H ∧ va_D A (ws.set q0 (a, .inl (cA, n, .inl g))) := by
  refine ⟨hP.set hD he ?_ (fun _ _ => rfl), hD.set he⟩
  have h1 := hP q0 _ he
  show H[a]? = some (vp_cell cA (n, .inl g))
  have h2 : H[a]? = some (vp_cell cA (n, .inl f)) := h1
  rw [h2, vp_cell_i, vp_cell_i, arrV_ext cA (fun j hj => by rw [h j hj])]
theorem rb_ext {r : Nat → Nat} {cI : ClassId} {m n : Nat} {F G : Nat → Nat → Int32} {D : va_G} {cl : List vw_C} {X Y : va_W} {H : Heap} (hP : va_P D cl (X ++ (rb r cI m F n ++ Y)) H) (h : ∀ i j, i < n → j < m → F i j = G i j) : va_P D cl (X ++ (rb r cI m G n ++ Y)) H := by
  intro k q hk
  by_cases h1 : k < X.length
  · rw [List.getElem?_append_left h1] at hk
    exact hP k q (by rw [List.getElem?_append_left h1]; exact hk)
  · rw [List.getElem?_append_right (by omega)] at hk
    by_cases h2 : k - X.length < n
    · rw [List.getElem?_append_left (by rw [rb_len]; exact h2)] at hk
      have h3 : q = (r (k - X.length), .inl (cI, m, .inl (G (k - X.length)))) := by
        simp [rb, h2] at hk
        exact hk.symm
      have h4 := hP k (r (k - X.length), .inl (cI, m, .inl (F (k - X.length)))) (by
        rw [List.getElem?_append_right (by omega), List.getElem?_append_left (by rw [rb_len]; exact h2)]
        simp [rb, h2])
      subst h3
      show H[_]? = some (vp_cell cI (m, .inl (G (k - X.length))))
      have h5 : H[r (k - X.length)]? = some (vp_cell cI (m, .inl (F (k - X.length)))) := h4
      rw [h5, vp_cell_i, vp_cell_i, arrV_ext cI (fun j hj => by rw [h _ j h2 hj])]
    · rw [List.getElem?_append_right (by rw [rb_len]; omega)] at hk
      exact hP k q (by rw [List.getElem?_append_right (by omega), List.getElem?_append_right (by rw [rb_len]; omega)]; rw [rb_len] at hk ⊢; exact hk)
-- ===== the worlds =====
def wPl (a b : Nat) (cI : ClassId) (f : Nat → Int32) : va_W := [(a, .inr (4, [.ref b])), (b, .inl (cI, 7, .inl f))]
def wCh (a : Nat) (fo te ot zo co : Int32) : va_W := [(a, .inr (0, [.int fo, .int te, .int ot, .int zo, .int co]))]
def wFl (x : Nat → Nat) (r : Nat → Nat) (cI cZ cQ : ClassId) (w q d : Nat → Int32) (T : Nat → Nat → Int32) (st re : Nat → Int32) (rc nz : Int32) : va_W := [(x 0, .inr (1, [.ref (x 1), .ref (x 2), .ref (x 3), .ref (x 4), .ref (x 5), .ref (x 6), .int rc, .int nz])), (x 1, .inl (cZ, 64, .inl w)), (x 2, .inl (cI, 7, .inl q)), (x 3, .inl (cI, 7, .inl d)), rq (x 4) cQ r, (x 5, .inl (cI, 64, .inl st)), (x 6, .inl (cI, 64, .inl re))] ++ (rb r cI 7 T 7 ++ [])
def wSt (x : Nat → Nat) (rp rw rt : Nat → Nat) (cI cQ : ClassId) (P : Nat → Nat → Int32) (n : Nat → Int32) (Wi Ti : Nat → Nat → Int32) (nt : Int32) : va_W := [(x 0, .inr (5, [.ref (x 1), .ref (x 2), .ref (x 3), .ref (x 4), .int nt])), rq (x 1) cQ rp, (x 2, .inl (cI, 7, .inl n)), rq (x 3) cQ rw, rq (x 4) cQ rt] ++ (rb rp cI 5 P 7 ++ (rb rw cI 7 Wi 7 ++ (rb rt cI 7 Ti 7 ++ [])))
def wOf (a fl st : Nat) : va_W := [(a, .inr (3, [.ref fl, .ref st]))]
/-- the search over all placements: itself, its two placements, what is taken -/
def wFs (x : Nat → Nat) (cI cZ : ClassId) (f g tk : Nat → Int32) (wt le : Int32) : va_W := [(x 0, .inr (2, [.ref (x 1), .ref (x 3), .ref (x 5), .int wt, .int le])), (x 1, .inr (4, [.ref (x 2)])), (x 2, .inl (cI, 7, .inl f)), (x 3, .inr (4, [.ref (x 4)])), (x 4, .inl (cI, 7, .inl g)), (x 5, .inl (cZ, 7, .inl tk))]
/-- the search by steps: itself, its two placements, when teams have rested, the change -/
def wSs (x : Nat → Nat) (cI : ClassId) (f g ra : Nat → Int32) (fo te ot zo co : Int32) : va_W := [(x 0, .inr (6, [.ref (x 1), .ref (x 3), .ref (x 5), .ref (x 6)])), (x 1, .inr (4, [.ref (x 2)])), (x 2, .inl (cI, 7, .inl f)), (x 3, .inr (4, [.ref (x 4)])), (x 4, .inl (cI, 7, .inl g)), (x 5, .inl (cI, 7, .inl ra)), (x 6, .inr (0, [.int fo, .int te, .int ot, .int zo, .int co]))]
def wDp (a o p k f t : Nat) : va_W := [(a, .inr (7, [.ref o, .ref p, .ref k, .ref f, .ref t]))]
/-- the reference -/
def wMo (x : Nat → Nat) (cI cZ : ClassId) (w : Nat → Int32) (nz : Int32) (q d : Nat → Int32) (nt : Int32) (pr wi ti zo ke wy st tr be ch : Nat → Int32) (th : Int32) : va_W := [(x 0, .inr (8, [.ref (x 1), .int nz, .ref (x 2), .ref (x 3), .int nt, .ref (x 4), .ref (x 5), .ref (x 6), .ref (x 7), .ref (x 8), .ref (x 9), .ref (x 10), .ref (x 11), .ref (x 12), .ref (x 13), .int th])), (x 1, .inl (cZ, 64, .inl w)), (x 2, .inl (cI, 7, .inl q)), (x 3, .inl (cI, 7, .inl d)), (x 4, .inl (cI, 35, .inl pr)), (x 5, .inl (cI, 49, .inl wi)), (x 6, .inl (cI, 49, .inl ti)), (x 7, .inl (cI, 7, .inl zo)), (x 8, .inl (cI, 7, .inl ke)), (x 9, .inl (cI, 49, .inl wy)), (x 10, .inl (cI, 64, .inl st)), (x 11, .inl (cI, 7, .inl tr)), (x 12, .inl (cI, 7, .inl be)), (x 13, .inl (cI, 7, .inl ch))]
def wOu (a : Nat) (cJ : ClassId) (f : Nat → Int64) : va_W := [(a, .inl (cJ, 1, .inr (.inl f)))]
-- ===== numbers =====
theorem z_lt {a b : Nat} (ha : a < 2 ^ 31) (hb : b < 2 ^ 31) (h : nI a < nI b) : a < b := (nI_ltI ha hb).mp h
theorem z_nlt {a b : Nat} (ha : a < 2 ^ 31) (hb : b < 2 ^ 31) (h : ¬ nI a < nI b) : b ≤ a := Nat.not_lt.mp fun q => h ((nI_ltI ha hb).mpr q)
theorem z_le {a b : Nat} (ha : a < 2 ^ 31) (hb : b < 2 ^ 31) (h : nI a ≤ nI b) : a ≤ b := (nI_leI ha hb).mp h
theorem z_nle {a b : Nat} (ha : a < 2 ^ 31) (hb : b < 2 ^ 31) (h : ¬ nI a ≤ nI b) : b < a := Nat.not_le.mp fun q => h ((nI_leI ha hb).mpr q)
theorem z_eq {a b : Nat} (ha : a < 2 ^ 31) (hb : b < 2 ^ 31) (h : nI a = nI b) : a = b := (nI_eq ha hb).mp h
theorem z_ne {a b : Nat} (ha : a < 2 ^ 31) (hb : b < 2 ^ 31) (h : ¬ nI a = nI b) : ¬ a = b := fun q => h (by rw [q])
theorem z_inc (a : Nat) : nI a + Int32.ofInt 1 = nI (a + 1) := (nI_succ a).symm
theorem z_m1 {a : Nat} (ha : a < 2 ^ 31) : ¬ nI a = -1 := fun h => by
  have h2 := congrArg Int32.toInt h
  rw [nI_toInt ha] at h2
  have h3 : (-1 : Int32).toInt = -1 := by decide
  omega
theorem z_in {a N : Nat} (h : a < N) (hN : N < 2 ^ 31) : vp_in (nI a) N := vp_in_nI h hN
-- ===== entry =====
theorem Q_si {args : Array Value} {s t : State} {v w : Int32} (h : v = w) (ht : t.heap = s.heap) : vp_Si (fun r => r = w) args s (.returned (some (.int v))) t := ⟨v, rfl, h, ht⟩
-- ===== a truth value as the machine has it =====
def bI (P : Prop) [Decidable P] : Int32 := if P then nI 1 else nI 0
theorem bI_t {P : Prop} [Decidable P] (h : P) : bI P = nI 1 := if_pos h
theorem bI_f {P : Prop} [Decidable P] (h : ¬ P) : bI P = nI 0 := if_neg h
theorem bI_0 {P : Prop} [Decidable P] : bI P = 0 ↔ ¬ P := by
  unfold bI
  by_cases h : P
  · rw [if_pos h]
    exact ⟨fun e => absurd e (by decide), fun e => absurd h e⟩
  · rw [if_neg h]
    exact ⟨fun _ => h, fun _ => rfl⟩
theorem bI_n0 {P : Prop} [Decidable P] : ¬ bI P = 0 ↔ P := by rw [bI_0]; exact Decidable.not_not
theorem bI_c {P Q : Prop} [Decidable P] [Decidable Q] (h : P ↔ Q) : bI P = bI Q := by
  unfold bI
  by_cases e : P
  · rw [if_pos e, if_pos (h.mp e)]
  · rw [if_neg e, if_neg (fun q => e (h.mpr q))]
theorem bI_nar (P : Prop) [Decidable P] : narrow .boolean (.int (bI P)) = .int (bI P) := by
  unfold bI
  by_cases h : P
  · rw [if_pos h]; rfl
  · rw [if_neg h]; rfl
theorem b01_nar {x : Int32} (h : x = 0 ∨ x = 1) : vp_nar .boolean x = x := by
  rcases h with rfl | rfl <;> rfl
theorem b01_nar' {x : Int32} (h : x = 0 ∨ x = 1) : narrow .boolean (.int x) = .int x := by
  rcases h with rfl | rfl <;> rfl
theorem bI_01 (P : Prop) [Decidable P] : bI P = 0 ∨ bI P = 1 := by
  unfold bI
  by_cases h : P
  · rw [if_pos h]; exact Or.inr rfl
  · rw [if_neg h]; exact Or.inl rfl
-- ===== words of a call =====
theorem gV {own C : String} {idx : Nat} {y : MethodName} {cc : ByteArray} {n : Nat} {r : Option FieldType} (h1 : Cond.methodLink own idx y ∈ ALL) (h2 : Cond.instanceMethod y ∈ ALL) (h3 : Cond.selects C y y ∈ ALL) (h4 : Cond.initialized C ∈ ALL) (h5 : Cond.code y cc n r ∈ ALL) : GoodIn ALL (wsV own idx C y (Cond.code y cc n r :: ALL)) := by
  intro w hw
  rcases List.mem_append.mp hw with h | h
  · simp only [List.mem_cons, List.not_mem_nil, or_false] at h
    rcases h with rfl | rfl | rfl | rfl
    · exact ⟨h1, ALL_good h1⟩
    · exact ⟨h2, ALL_good h2⟩
    · exact ⟨h3, ALL_good h3⟩
    · exact ⟨h4, ALL_good h4⟩
  · rcases List.mem_cons.mp h with rfl | h
    · exact ⟨h5, ALL_good h5⟩
    · exact ⟨h, ALL_good h⟩
theorem gC {y : MethodName} {cc : ByteArray} {n : Nat} {r : Option FieldType} (h5 : Cond.code y cc n r ∈ ALL) : GoodIn ALL (Cond.code y cc n r :: ALL) := by
  intro w hw
  rcases List.mem_cons.mp hw with rfl | h
  · exact ⟨h5, ALL_good h5⟩
  · exact ⟨h, ALL_good h⟩
section RR
variable {p : Program} {l : Launch} {e : Env} {R : Room} {s : State} {m : MethodId} {args : Array Value} {below : List Frame} {meth : Method} {c : Code} {H : Heap} {locs : List Loc} {cells slots : Nat} {Q : State → Prop}
variable {cc : ByteArray} {pc : Nat} {ls : Array Slot} {rest st0 : List Value} {D : va_G} {cl : List vw_C} {A : Nat → Prop} {a : Nat} {tys : List (ClassId × FieldType)} {ws : va_W} {H0 : Heap}
variable {cI cZ cQ cJ : ClassId}
/-- the top value by another of its names -/
theorem lv_as {x y : Int32} (h : x = y) (k : W p l e R s m args below meth c H locs cells slots Q (F0 m pc ls (.int y :: rest))) : W p l e R s m args below meth c H locs cells slots Q (F0 m pc ls (.int x :: rest)) := by rw [h]; exact k
theorem r_addn (hexec : p.tables.exec = Jvm.exec) (hb : c.code = cc) {x y : Nat} (hdg : decode cc pc = .ok (.iadd, 1)) (k : W p l e R s m args below meth c H locs cells slots Q (F0 m (pc + 1) ls (.int (nI (x + y)) :: rest))) : W p l e R s m args below meth c H locs cells slots Q (F0 m pc ls (.int (nI y) :: .int (nI x) :: rest)) := lv_iadd hexec hb hdg (by rw [nI_add]; exact k)
theorem r_muln (hexec : p.tables.exec = Jvm.exec) (hb : c.code = cc) {x y : Nat} (hdg : decode cc pc = .ok (.imul, 1)) (k : W p l e R s m args below meth c H locs cells slots Q (F0 m (pc + 1) ls (.int (nI (x * y)) :: rest))) : W p l e R s m args below meth c H locs cells slots Q (F0 m pc ls (.int (nI y) :: .int (nI x) :: rest)) := lv_imul hexec hb hdg (by rw [pk_mul]; exact k)
theorem r_subn (hexec : p.tables.exec = Jvm.exec) (hb : c.code = cc) {x y : Nat} (h : y ≤ x) (hdg : decode cc pc = .ok (.isub, 1)) (k : W p l e R s m args below meth c H locs cells slots Q (F0 m (pc + 1) ls (.int (nI (x - y)) :: rest))) : W p l e R s m args below meth c H locs cells slots Q (F0 m pc ls (.int (nI y) :: .int (nI x) :: rest)) := lv_isub hexec hb hdg (by rw [pk_sub h]; exact k)
theorem r_iald (hexec : p.tables.exec = Jvm.exec) (hb : c.code = cc) (hK : va_K D cl tys s) (hP : va_P D cl ws H) (q0 t0 : Nat) {cA : ClassId} {n : Nat} {f : Nat → Int32} (ha : ws[q0]? = some (a, .inl (cA, n, .inl f))) (ht : tys[t0]? = some (cA, .int)) {k : Nat} (hk : k < n) (hn : n < 2 ^ 31) (hdg : decode cc pc = .ok (.iaload, 1))
    (kk : W p l e R s m args below meth c H locs cells slots Q (F0 m (pc + 1) ls (.int (f k) :: rest))) : W p l e R s m args below meth c H locs cells slots Q (F0 m pc ls (.int (nI k) :: .ref a :: rest)) :=
  va_iald hexec hb hK hP q0 t0 ha ht (vp_in_nI hk hn) hdg (by rw [nI_clamp (by omega)]; exact kk)
theorem r_zald (hexec : p.tables.exec = Jvm.exec) (hb : c.code = cc) (hK : va_K D cl tys s) (hP : va_P D cl ws H) (q0 t0 : Nat) {cA : ClassId} {n : Nat} {f : Nat → Int32} (ha : ws[q0]? = some (a, .inl (cA, n, .inl f))) (ht : tys[t0]? = some (cA, .boolean)) {k : Nat} (hk : k < n) (hn : n < 2 ^ 31) (hdg : decode cc pc = .ok (.baload, 1))
    (kk : W p l e R s m args below meth c H locs cells slots Q (F0 m (pc + 1) ls (.int (f k) :: rest))) : W p l e R s m args below meth c H locs cells slots Q (F0 m pc ls (.int (nI k) :: .ref a :: rest)) :=
  va_zald hexec hb hK hP q0 t0 ha ht (vp_in_nI hk hn) hdg (by rw [nI_clamp (by omega)]; exact kk)
theorem r_lald (hexec : p.tables.exec = Jvm.exec) (hb : c.code = cc) (hK : va_K D cl tys s) (hP : va_P D cl ws H) (q0 t0 : Nat) {cA : ClassId} {n : Nat} {f : Nat → Int64} (ha : ws[q0]? = some (a, .inl (cA, n, .inr (.inl f)))) (ht : tys[t0]? = some (cA, .long)) {k : Nat} (hk : k < n) (hn : n < 2 ^ 31) (hdg : decode cc pc = .ok (.laload, 1))
    (kk : W p l e R s m args below meth c H locs cells slots Q (F0 m (pc + 1) ls (.long (f k) :: rest))) : W p l e R s m args below meth c H locs cells slots Q (F0 m pc ls (.int (nI k) :: .ref a :: rest)) :=
  va_lald hexec hb hK hP q0 t0 ha ht (vp_in_nI hk hn) hdg (by rw [nI_clamp (by omega)]; exact kk)
theorem r_aald (hexec : p.tables.exec = Jvm.exec) (hb : c.code = cc) (hK : va_K D cl tys s) (hP : va_P D cl ws H) (q0 t0 : Nat) {cA : ClassId} {r : Nat → Nat} (ha : ws[q0]? = some (rq a cA r)) (ht : tys[t0]? = some (cA, .array .int)) {k : Nat} (hk : k < 7) (hdg : decode cc pc = .ok (.aaload, 1))
    (kk : W p l e R s m args below meth c H locs cells slots Q (F0 m (pc + 1) ls (.ref (r k) :: rest))) : W p l e R s m args below meth c H locs cells slots Q (F0 m pc ls (.int (nI k) :: .ref a :: rest)) := by
  have hin : vp_in (nI k) 7 := vp_in_nI hk (by omega)
  have hc : (nI k).toNatClampNeg = k := nI_clamp (by omega)
  have hv : va_rf ((fun i => if i < 7 then some (r i) else none) k) = .ref (r k) := by simp [va_rf, hk]
  exact W.aald (v := .ref (r k)) (ty := .array .int) hexec hb (hP q0 _ ha) ((hK.2 t0 _ ht).1 7 (fun j => va_rf ((fun i => if i < 7 then some (r i) else none) j))) rfl (fun q => by cases q) (by show ¬ (nI k < 0 ∨ (arrV _ _ _).slots.size ≤ _); rw [arrV_size]; exact hin) (by show (arrV _ _ _).slots[_]? = _; rw [hc, arrV_read _ _ hk, hv]) rfl rfl hdg kk
theorem r_iast (hexec : p.tables.exec = Jvm.exec) (hb : c.code = cc) (hK : va_K D cl tys s) (hP : va_P D cl ws H) (hD : va_D A ws) (hS : va_S A H0 H locs) (q0 t0 : Nat) {cA : ClassId} {n : Nat} {f : Nat → Int32} (ha : ws[q0]? = some (a, .inl (cA, n, .inl f))) (ht : tys[t0]? = some (cA, .int)) {k : Nat} {x : Int32} (hk : k < n) (hn : n < 2 ^ 31) (hdg : decode cc pc = .ok (.iastore, 1))
    (kk : ∀ (H1 : Heap) (locs1 : List Loc), va_P D cl (ws.set q0 (a, .inl (cA, n, .inl (upd f k x)))) H1 → va_D A (ws.set q0 (a, .inl (cA, n, .inl (upd f k x)))) → va_S A H0 H1 locs1 → W p l e R s m args below meth c H1 locs1 cells slots Q (F0 m (pc + 1) ls rest)) : W p l e R s m args below meth c H locs cells slots Q (F0 m pc ls (.int x :: .int (nI k) :: .ref a :: rest)) :=
  va_iast hexec hb hK hP hD hS q0 t0 ha ht (vp_in_nI hk hn) hdg (by rw [nI_clamp (by omega)]; exact kk)
theorem r_zast (hexec : p.tables.exec = Jvm.exec) (hb : c.code = cc) (hK : va_K D cl tys s) (hP : va_P D cl ws H) (hD : va_D A ws) (hS : va_S A H0 H locs) (q0 t0 : Nat) {cA : ClassId} {n : Nat} {f : Nat → Int32} (ha : ws[q0]? = some (a, .inl (cA, n, .inl f))) (ht : tys[t0]? = some (cA, .boolean)) {k : Nat} {x : Int32} (hx : vp_nar .boolean x = x) (hk : k < n) (hn : n < 2 ^ 31) (hdg : decode cc pc = .ok (.bastore, 1))
    (kk : ∀ (H1 : Heap) (locs1 : List Loc), va_P D cl (ws.set q0 (a, .inl (cA, n, .inl (upd f k x)))) H1 → va_D A (ws.set q0 (a, .inl (cA, n, .inl (upd f k x)))) → va_S A H0 H1 locs1 → W p l e R s m args below meth c H1 locs1 cells slots Q (F0 m (pc + 1) ls rest)) : W p l e R s m args below meth c H locs cells slots Q (F0 m pc ls (.int x :: .int (nI k) :: .ref a :: rest)) :=
  va_zast hexec hb hK hP hD hS q0 t0 ha ht (vp_in_nI hk hn) hdg (by rw [nI_clamp (by omega), hx]; exact kk)
theorem r_last (hexec : p.tables.exec = Jvm.exec) (hb : c.code = cc) (hK : va_K D cl tys s) (hP : va_P D cl ws H) (hD : va_D A ws) (hS : va_S A H0 H locs) (q0 t0 : Nat) {cA : ClassId} {n : Nat} {f : Nat → Int64} (ha : ws[q0]? = some (a, .inl (cA, n, .inr (.inl f)))) (ht : tys[t0]? = some (cA, .long)) {k : Nat} {x : Int64} (hk : k < n) (hn : n < 2 ^ 31) (hdg : decode cc pc = .ok (.lastore, 1))
    (kk : ∀ (H1 : Heap) (locs1 : List Loc), va_P D cl (ws.set q0 (a, .inl (cA, n, .inr (.inl (vp_updL f k x))))) H1 → va_D A (ws.set q0 (a, .inl (cA, n, .inr (.inl (vp_updL f k x))))) → va_S A H0 H1 locs1 → W p l e R s m args below meth c H1 locs1 cells slots Q (F0 m (pc + 1) ls rest)) : W p l e R s m args below meth c H locs cells slots Q (F0 m pc ls (.long x :: .int (nI k) :: .ref a :: rest)) :=
  va_last hexec hb hK hP hD hS q0 t0 ha ht (vp_in_nI hk hn) hdg (by rw [nI_clamp (by omega)]; exact kk)
-- ===== calls of methods that only read =====
abbrev ro_P (D : va_G) (cI cZ cQ cJ : ClassId) (wc : va_W) : State → Prop := fun U => va_P D vwCl wc U.heap ∧ St D cI cZ cQ cJ U
theorem ro_blind {D : va_G} {cI cZ cQ cJ : ClassId} {wc : va_W} {av : List Value} : FrameBlind (va_Pc av (ro_P D cI cZ cQ cJ wc)) := fun a U g mk q => ⟨q.1, q.2.1, St.same (u := U) (U := U.calling g mk a) rfl q.2.2⟩
theorem ro_V {own C : String} {idx nL maxL n : Nat} {y : MethodName} {bytes : ByteArray} {ret : Option FieldType} {rm : Room} {wc : va_W} {b : Addr} {As : List Value} {v : Int32}
    (S : CallFix p m c cc nL s args ALL own) (hM : Met l y (Cond.code y bytes maxL ret :: ALL) rm (va_Pc (.ref b :: As) (ro_P D cI cZ cQ cJ wc)) (vp_Si (fun r => r = v)) 0 0 (fun _ => False))
    (hG : GoodIn ALL (wsV own idx C y (Cond.code y bytes maxL ret :: ALL))) (hrc : rm.cells = 0) (hrs : rm.slots = 0)
    (hd : y.cls = C ∧ y.cls ≠ "java/lang/invoke/MethodHandle" ∧ y.cls ≠ "java/lang/invoke/VarHandle" ∧ (parseMethodDescriptor y.desc).map (fun d => d.parameters.length) = some n) (hR : rm.frames + 1 ≤ R.frames ∧ 8 + (maxL + 11) + rm.locals ≤ R.locals)
    (hP : va_P D vwCl wc H) (hSt : St D cI cZ cQ cJ s) (hv : ∃ cell : Cell, H[b]? = some cell ∧ cell.vm.isStatics = false ∧ s.vm.findClass C = some cell.cls)
    (hn : As.length = n) (hsize : ls.size = nL) (hstack : st0 = As.reverse ++ .ref b :: rest) (hW : (rest.map fun v => v.category).sum ≤ 8) (hdg : decode cc pc = .ok (.invokevirtual idx, 3)) (hc : cells ≤ R.cells) (hs : slots ≤ R.slots)
    (kk : W p l e R s m args below meth c H locs cells slots Q (F0 m (pc + 3) ls (.int v :: rest))) : W p l e R s m args below meth c H locs cells slots Q (F0 m pc ls st0) := by
  obtain ⟨hx, hb, hml, hown, hts⟩ := id S
  refine vp_callSi (W.runV (As := As) (rest := rest) S hM (cwV n hts hG rfl hrc hrs hd hR) ⟨ro_blind, hv, fun U hU hW => ⟨rfl, by rw [hU]; exact hP, St.warm hW hSt⟩⟩ rfl hn hsize hstack (lv_room hW) hdg ⟨hc, hs⟩) (fun r hr => ?_)
  subst hr
  exact kk
theorem ro_S {own : String} {idx nL maxL n : Nat} {y : MethodName} {bytes : ByteArray} {ret : Option FieldType} {rm : Room} {wc : va_W} {As : List Value} {v : Int32}
    (S : CallFix p m c cc nL s args ALL own) (hM : Met l y (Cond.code y bytes maxL ret :: ALL) rm (va_Pc As (ro_P D cI cZ cQ cJ wc)) (vp_Si (fun r => r = v)) 0 0 (fun _ => False))
    (hG : GoodIn ALL (wsS own idx y (Cond.code y bytes maxL ret :: ALL))) (hrc : rm.cells = 0) (hrs : rm.slots = 0)
    (hd : y.cls = own ∧ y.cls ≠ "java/lang/invoke/MethodHandle" ∧ y.cls ≠ "java/lang/invoke/VarHandle" ∧ (parseMethodDescriptor y.desc).map (fun d => d.parameters.length) = some n) (hR : rm.frames + 1 ≤ R.frames ∧ 8 + (maxL + 11) + rm.locals ≤ R.locals)
    (hP : va_P D vwCl wc H) (hSt : St D cI cZ cQ cJ s)
    (hn : As.length = n) (hsize : ls.size = nL) (hstack : st0 = As.reverse ++ rest) (hW : (rest.map fun v => v.category).sum ≤ 8) (hdg : decode cc pc = .ok (.invokestatic idx, 3)) (hc : cells ≤ R.cells) (hs : slots ≤ R.slots)
    (kk : W p l e R s m args below meth c H locs cells slots Q (F0 m (pc + 3) ls (.int v :: rest))) : W p l e R s m args below meth c H locs cells slots Q (F0 m pc ls st0) := by
  obtain ⟨hx, hb, hml, hown, hts⟩ := id S
  refine vp_callSi (W.runS (As := As) (rest := rest) S hM (cwS n hts hG rfl hrc hrs hd hR) ⟨ro_blind, fun U hU hW => ⟨rfl, by rw [hU]; exact hP, St.warm hW hSt⟩⟩ rfl hn hsize hstack (lv_room hW) hdg ⟨hc, hs⟩) (fun r hr => ?_)
  subst hr
  exact kk
-- ===== calls of methods that write =====
abbrev rw_P (D : va_G) (cI cZ cQ cJ : ClassId) (wc : va_W) (sz : Nat) : State → Prop := fun U => U.heap.size = sz ∧ va_P D vwCl wc U.heap ∧ St D cI cZ cQ cJ U ∧ va_D (fun _ => True) wc
/-- behind a method that writes: its world anew -/
abbrev rw_B {T : Type} (D : va_G) (A : Nat → Prop) (B : T → va_W) : T → State → Prop := fun u t => va_P D vwCl (B u) t.heap ∧ va_D A (B u)
theorem rw_blind {D : va_G} {cI cZ cQ cJ : ClassId} {wc : va_W} {sz : Nat} {av : List Value} : FrameBlind (va_Pc av (rw_P D cI cZ cQ cJ wc sz)) := fun a U g mk q => ⟨q.1, q.2.1, q.2.2.1, St.same (u := U) (U := U.calling g mk a) rfl q.2.2.2.1, q.2.2.2.2⟩
theorem rw_i {T : Type} {mc ms : Nat} {wc wr : va_W} {av : Array Value} {post : Int32 → T → Prop} {B : T → va_W}
    (hr : va_Run p l e R s m args below meth c H locs cells slots mc ms (F0 m pc ls st0) rest (va_Qi post (rw_B D (va_A wc H.size) B) (va_A wc H.size) av) (va_A wc H.size))
    (hP : va_P D vwCl ws H) (hD : va_D A ws) (hS : va_S A H0 H locs) (hA : ∀ q, H0.size ≤ q → A q) (isC isR : List Nat) (hC : isC.map (fun i => ws[i]?) = wc.map some) (hR : isR.map (fun i => ws[i]?) = wr.map some) (hn : va_nd isR = true) (hdis : ∀ i ∈ isR, i ∉ isC)
    (kk : ∀ (r : Int32) (u : T) (H : Heap) (locs : List Loc), post r u → va_P D vwCl (wr ++ B u) H → va_D A (wr ++ B u) → va_S A H0 H locs → W p l e R s m args below meth c H locs (cells + mc) (slots + ms) Q (F0 m (pc + 3) ls (.int r :: rest))) : W p l e R s m args below meth c H locs cells slots Q (F0 m pc ls st0) := by
  have hF := va_free (wc := wc) hD hS hA isC hC
  refine va_calli hr hS (fun q _ h => hF q h) hF (fun r u t H1 locs1 ht hvm hw hB hz1 hk1 hS1 => ?_)
  obtain ⟨hP1, hD1⟩ := hB
  rw [ht] at hP1
  obtain ⟨hP2, hD2⟩ := va_join (wr := wr) (w1 := B u) hP hD isC isR hC hR hn hdis hk1 hF hP1 hD1
  exact kk r u H1 locs1 hw hP2 hD2 hS1
theorem rw_v {T : Type} {mc ms : Nat} {wc wr : va_W} {av : Array Value} {post : T → Prop} {B : T → va_W}
    (hr : va_Run p l e R s m args below meth c H locs cells slots mc ms (F0 m pc ls st0) rest (va_Qv post (rw_B D (va_A wc H.size) B) (va_A wc H.size) av) (va_A wc H.size))
    (hP : va_P D vwCl ws H) (hD : va_D A ws) (hS : va_S A H0 H locs) (hA : ∀ q, H0.size ≤ q → A q) (isC isR : List Nat) (hC : isC.map (fun i => ws[i]?) = wc.map some) (hR : isR.map (fun i => ws[i]?) = wr.map some) (hn : va_nd isR = true) (hdis : ∀ i ∈ isR, i ∉ isC)
    (kk : ∀ (u : T) (H : Heap) (locs : List Loc), post u → va_P D vwCl (wr ++ B u) H → va_D A (wr ++ B u) → va_S A H0 H locs → W p l e R s m args below meth c H locs (cells + mc) (slots + ms) Q (F0 m (pc + 3) ls rest)) : W p l e R s m args below meth c H locs cells slots Q (F0 m pc ls st0) := by
  have hF := va_free (wc := wc) hD hS hA isC hC
  refine va_callv hr hS (fun q _ h => hF q h) hF (fun u t H1 locs1 ht hvm hw hB hz1 hk1 hS1 => ?_)
  obtain ⟨hP1, hD1⟩ := hB
  rw [ht] at hP1
  obtain ⟨hP2, hD2⟩ := va_join (wr := wr) (w1 := B u) hP hD isC isR hC hR hn hdis hk1 hF hP1 hD1
  exact kk u H1 locs1 hw hP2 hD2 hS1
theorem rw_pre {wc : va_W} {As : List Value} (hP : va_P D vwCl ws H) (hD : va_D A ws) (hSt : St D cI cZ cQ cJ s) (isC : List Nat) (hC : isC.map (fun i => ws[i]?) = wc.map some) (hnd : va_nd isC = true) : ∀ U : State, U.heap = H → s.WarmedH U.vm → va_Pc As (rw_P D cI cZ cQ cJ wc H.size) As.toArray U := by
  intro U hU hW
  refine ⟨rfl, by rw [hU], ?_, St.warm hW hSt, (hD.sub isC hnd hC).weaken (fun _ _ _ _ => trivial)⟩
  rw [hU]
  refine hP.sub isC ?_
  have h1 : isC.filterMap (fun i => ws[i]?) = (isC.map (fun i => ws[i]?)).filterMap id := by rw [List.filterMap_map]; rfl
  rw [h1, hC, List.filterMap_map]
  exact List.filterMap_some
end RR
end
section
/-! the words on fields of nest mates, one by one -/
theorem nf_0 {s : State} {args : Array Value} (h : nl_K s) : (Cond.fieldLinkNest "DeskPlanner" 104 "DeskPlanner$Floor" "desks" "[I" "DeskPlanner").before args s = true := va_Nw.use (w := .fieldLinkNest "DeskPlanner" 104 "DeskPlanner$Floor" "desks" "[I" "DeskPlanner") rfl (h.1 ("DeskPlanner", 104, "DeskPlanner$Floor", "desks", "[I") (List.mem_of_getElem? (i := 0) rfl))
theorem nf_1 {s : State} {args : Array Value} (h : nl_K s) : (Cond.fieldLinkNest "DeskPlanner" 107 "DeskPlanner$Staff" "teamCount" "I" "DeskPlanner").before args s = true := va_Nw.use (w := .fieldLinkNest "DeskPlanner" 107 "DeskPlanner$Staff" "teamCount" "I" "DeskPlanner") rfl (h.1 ("DeskPlanner", 107, "DeskPlanner$Staff", "teamCount", "I") (List.mem_of_getElem? (i := 1) rfl))
theorem nf_2 {s : State} {args : Array Value} (h : nl_K s) : (Cond.fieldLinkNest "DeskPlanner" 133 "DeskPlanner$Staff" "wishes" "[[I" "DeskPlanner").before args s = true := va_Nw.use (w := .fieldLinkNest "DeskPlanner" 133 "DeskPlanner$Staff" "wishes" "[[I" "DeskPlanner") rfl (h.1 ("DeskPlanner", 133, "DeskPlanner$Staff", "wishes", "[[I") (List.mem_of_getElem? (i := 2) rfl))
theorem nf_3 {s : State} {args : Array Value} (h : nl_K s) : (Cond.fieldLinkNest "DeskPlanner" 164 "DeskPlanner$StepSearch" "best" "LDeskPlanner$Placement;" "DeskPlanner").before args s = true := va_Nw.use (w := .fieldLinkNest "DeskPlanner" 164 "DeskPlanner$StepSearch" "best" "LDeskPlanner$Placement;" "DeskPlanner") rfl (h.1 ("DeskPlanner", 164, "DeskPlanner$StepSearch", "best", "LDeskPlanner$Placement;") (List.mem_of_getElem? (i := 3) rfl))
theorem nf_4 {s : State} {args : Array Value} (h : nl_K s) : (Cond.fieldLinkNest "DeskPlanner" 183 "DeskPlanner$Staff" "present" "[[I" "DeskPlanner").before args s = true := va_Nw.use (w := .fieldLinkNest "DeskPlanner" 183 "DeskPlanner$Staff" "present" "[[I" "DeskPlanner") rfl (h.1 ("DeskPlanner", 183, "DeskPlanner$Staff", "present", "[[I") (List.mem_of_getElem? (i := 4) rfl))
theorem nf_5 {s : State} {args : Array Value} (h : nl_K s) : (Cond.fieldLinkNest "DeskPlanner" 186 "DeskPlanner$Floor" "distances" "[[I" "DeskPlanner").before args s = true := va_Nw.use (w := .fieldLinkNest "DeskPlanner" 186 "DeskPlanner$Floor" "distances" "[[I" "DeskPlanner") rfl (h.1 ("DeskPlanner", 186, "DeskPlanner$Floor", "distances", "[[I") (List.mem_of_getElem? (i := 5) rfl))
theorem nf_6 {s : State} {args : Array Value} (h : nl_K s) : (Cond.fieldLinkNest "DeskPlanner" 228 "DeskPlanner$FullSearch" "best" "LDeskPlanner$Placement;" "DeskPlanner").before args s = true := va_Nw.use (w := .fieldLinkNest "DeskPlanner" 228 "DeskPlanner$FullSearch" "best" "LDeskPlanner$Placement;" "DeskPlanner") rfl (h.1 ("DeskPlanner", 228, "DeskPlanner$FullSearch", "best", "LDeskPlanner$Placement;") (List.mem_of_getElem? (i := 6) rfl))
theorem nf_7 {s : State} {args : Array Value} (h : nl_K s) : (Cond.fieldLinkNest "DeskPlanner" 44 "DeskPlanner$Office" "floor" "LDeskPlanner$Floor;" "DeskPlanner").before args s = true := va_Nw.use (w := .fieldLinkNest "DeskPlanner" 44 "DeskPlanner$Office" "floor" "LDeskPlanner$Floor;" "DeskPlanner") rfl (h.1 ("DeskPlanner", 44, "DeskPlanner$Office", "floor", "LDeskPlanner$Floor;") (List.mem_of_getElem? (i := 7) rfl))
theorem nf_8 {s : State} {args : Array Value} (h : nl_K s) : (Cond.fieldLinkNest "DeskPlanner" 69 "DeskPlanner$Floor" "zoneCount" "I" "DeskPlanner").before args s = true := va_Nw.use (w := .fieldLinkNest "DeskPlanner" 69 "DeskPlanner$Floor" "zoneCount" "I" "DeskPlanner") rfl (h.1 ("DeskPlanner", 69, "DeskPlanner$Floor", "zoneCount", "I") (List.mem_of_getElem? (i := 8) rfl))
theorem nf_9 {s : State} {args : Array Value} (h : nl_K s) : (Cond.fieldLinkNest "DeskPlanner" 92 "DeskPlanner$Office" "staff" "LDeskPlanner$Staff;" "DeskPlanner").before args s = true := va_Nw.use (w := .fieldLinkNest "DeskPlanner" 92 "DeskPlanner$Office" "staff" "LDeskPlanner$Staff;" "DeskPlanner") rfl (h.1 ("DeskPlanner", 92, "DeskPlanner$Office", "staff", "LDeskPlanner$Staff;") (List.mem_of_getElem? (i := 9) rfl))
theorem nf_10 {s : State} {args : Array Value} (h : nl_K s) : (Cond.fieldLinkNest "DeskPlanner" 96 "DeskPlanner$Staff" "needs" "[I" "DeskPlanner").before args s = true := va_Nw.use (w := .fieldLinkNest "DeskPlanner" 96 "DeskPlanner$Staff" "needs" "[I" "DeskPlanner") rfl (h.1 ("DeskPlanner", 96, "DeskPlanner$Staff", "needs", "[I") (List.mem_of_getElem? (i := 10) rfl))
theorem nf_11 {s : State} {args : Array Value} (h : nl_K s) : (Cond.fieldLinkNest "DeskPlanner$FullSearch" 37 "DeskPlanner$Office" "staff" "LDeskPlanner$Staff;" "DeskPlanner").before args s = true := va_Nw.use (w := .fieldLinkNest "DeskPlanner$FullSearch" 37 "DeskPlanner$Office" "staff" "LDeskPlanner$Staff;" "DeskPlanner") rfl (h.1 ("DeskPlanner$FullSearch", 37, "DeskPlanner$Office", "staff", "LDeskPlanner$Staff;") (List.mem_of_getElem? (i := 11) rfl))
theorem nf_12 {s : State} {args : Array Value} (h : nl_K s) : (Cond.fieldLinkNest "DeskPlanner$FullSearch" 43 "DeskPlanner$Staff" "teamCount" "I" "DeskPlanner").before args s = true := va_Nw.use (w := .fieldLinkNest "DeskPlanner$FullSearch" 43 "DeskPlanner$Staff" "teamCount" "I" "DeskPlanner") rfl (h.1 ("DeskPlanner$FullSearch", 43, "DeskPlanner$Staff", "teamCount", "I") (List.mem_of_getElem? (i := 12) rfl))
theorem nf_13 {s : State} {args : Array Value} (h : nl_K s) : (Cond.fieldLinkNest "DeskPlanner$FullSearch" 52 "DeskPlanner$Office" "floor" "LDeskPlanner$Floor;" "DeskPlanner").before args s = true := va_Nw.use (w := .fieldLinkNest "DeskPlanner$FullSearch" 52 "DeskPlanner$Office" "floor" "LDeskPlanner$Floor;" "DeskPlanner") rfl (h.1 ("DeskPlanner$FullSearch", 52, "DeskPlanner$Office", "floor", "LDeskPlanner$Floor;") (List.mem_of_getElem? (i := 13) rfl))
theorem nf_14 {s : State} {args : Array Value} (h : nl_K s) : (Cond.fieldLinkNest "DeskPlanner$FullSearch" 56 "DeskPlanner$Floor" "zoneCount" "I" "DeskPlanner").before args s = true := va_Nw.use (w := .fieldLinkNest "DeskPlanner$FullSearch" 56 "DeskPlanner$Floor" "zoneCount" "I" "DeskPlanner") rfl (h.1 ("DeskPlanner$FullSearch", 56, "DeskPlanner$Floor", "zoneCount", "I") (List.mem_of_getElem? (i := 14) rfl))
theorem nf_15 {s : State} {args : Array Value} (h : nl_K s) : (Cond.fieldLinkNest "DeskPlanner$FullSearch" 73 "DeskPlanner$Staff" "wishes" "[[I" "DeskPlanner").before args s = true := va_Nw.use (w := .fieldLinkNest "DeskPlanner$FullSearch" 73 "DeskPlanner$Staff" "wishes" "[[I" "DeskPlanner") rfl (h.1 ("DeskPlanner$FullSearch", 73, "DeskPlanner$Staff", "wishes", "[[I") (List.mem_of_getElem? (i := 15) rfl))
theorem nf_16 {s : State} {args : Array Value} (h : nl_K s) : (Cond.fieldLinkNest "DeskPlanner$Office" 25 "DeskPlanner$Floor" "desks" "[I" "DeskPlanner").before args s = true := va_Nw.use (w := .fieldLinkNest "DeskPlanner$Office" 25 "DeskPlanner$Floor" "desks" "[I" "DeskPlanner") rfl (h.1 ("DeskPlanner$Office", 25, "DeskPlanner$Floor", "desks", "[I") (List.mem_of_getElem? (i := 16) rfl))
theorem nf_17 {s : State} {args : Array Value} (h : nl_K s) : (Cond.fieldLinkNest "DeskPlanner$Office" 29 "DeskPlanner$Staff" "needs" "[I" "DeskPlanner").before args s = true := va_Nw.use (w := .fieldLinkNest "DeskPlanner$Office" 29 "DeskPlanner$Staff" "needs" "[I" "DeskPlanner") rfl (h.1 ("DeskPlanner$Office", 29, "DeskPlanner$Staff", "needs", "[I") (List.mem_of_getElem? (i := 17) rfl))
theorem nf_18 {s : State} {args : Array Value} (h : nl_K s) : (Cond.fieldLinkNest "DeskPlanner$Office" 36 "DeskPlanner$Staff" "teamCount" "I" "DeskPlanner").before args s = true := va_Nw.use (w := .fieldLinkNest "DeskPlanner$Office" 36 "DeskPlanner$Staff" "teamCount" "I" "DeskPlanner") rfl (h.1 ("DeskPlanner$Office", 36, "DeskPlanner$Staff", "teamCount", "I") (List.mem_of_getElem? (i := 18) rfl))
theorem nf_19 {s : State} {args : Array Value} (h : nl_K s) : (Cond.fieldLinkNest "DeskPlanner$Office" 50 "DeskPlanner$Staff" "wishes" "[[I" "DeskPlanner").before args s = true := va_Nw.use (w := .fieldLinkNest "DeskPlanner$Office" 50 "DeskPlanner$Staff" "wishes" "[[I" "DeskPlanner") rfl (h.1 ("DeskPlanner$Office", 50, "DeskPlanner$Staff", "wishes", "[[I") (List.mem_of_getElem? (i := 19) rfl))
theorem nf_20 {s : State} {args : Array Value} (h : nl_K s) : (Cond.fieldLinkNest "DeskPlanner$Office" 54 "DeskPlanner$Staff" "ties" "[[I" "DeskPlanner").before args s = true := va_Nw.use (w := .fieldLinkNest "DeskPlanner$Office" 54 "DeskPlanner$Staff" "ties" "[[I" "DeskPlanner") rfl (h.1 ("DeskPlanner$Office", 54, "DeskPlanner$Staff", "ties", "[[I") (List.mem_of_getElem? (i := 20) rfl))
theorem nf_21 {s : State} {args : Array Value} (h : nl_K s) : (Cond.fieldLinkNest "DeskPlanner$Office" 57 "DeskPlanner$Floor" "distances" "[[I" "DeskPlanner").before args s = true := va_Nw.use (w := .fieldLinkNest "DeskPlanner$Office" 57 "DeskPlanner$Floor" "distances" "[[I" "DeskPlanner") rfl (h.1 ("DeskPlanner$Office", 57, "DeskPlanner$Floor", "distances", "[[I") (List.mem_of_getElem? (i := 21) rfl))
theorem nf_22 {s : State} {args : Array Value} (h : nl_K s) : (Cond.fieldLinkNest "DeskPlanner$StepSearch" 111 "DeskPlanner$Change" "other" "I" "DeskPlanner").before args s = true := va_Nw.use (w := .fieldLinkNest "DeskPlanner$StepSearch" 111 "DeskPlanner$Change" "other" "I" "DeskPlanner") rfl (h.1 ("DeskPlanner$StepSearch", 111, "DeskPlanner$Change", "other", "I") (List.mem_of_getElem? (i := 22) rfl))
theorem nf_23 {s : State} {args : Array Value} (h : nl_K s) : (Cond.fieldLinkNest "DeskPlanner$StepSearch" 114 "DeskPlanner$Change" "team" "I" "DeskPlanner").before args s = true := va_Nw.use (w := .fieldLinkNest "DeskPlanner$StepSearch" 114 "DeskPlanner$Change" "team" "I" "DeskPlanner") rfl (h.1 ("DeskPlanner$StepSearch", 114, "DeskPlanner$Change", "team", "I") (List.mem_of_getElem? (i := 23) rfl))
theorem nf_24 {s : State} {args : Array Value} (h : nl_K s) : (Cond.fieldLinkNest "DeskPlanner$StepSearch" 117 "DeskPlanner$Change" "zone" "I" "DeskPlanner").before args s = true := va_Nw.use (w := .fieldLinkNest "DeskPlanner$StepSearch" 117 "DeskPlanner$Change" "zone" "I" "DeskPlanner") rfl (h.1 ("DeskPlanner$StepSearch", 117, "DeskPlanner$Change", "zone", "I") (List.mem_of_getElem? (i := 24) rfl))
theorem nf_25 {s : State} {args : Array Value} (h : nl_K s) : (Cond.fieldLinkNest "DeskPlanner$StepSearch" 52 "DeskPlanner$Change" "found" "Z" "DeskPlanner").before args s = true := va_Nw.use (w := .fieldLinkNest "DeskPlanner$StepSearch" 52 "DeskPlanner$Change" "found" "Z" "DeskPlanner") rfl (h.1 ("DeskPlanner$StepSearch", 52, "DeskPlanner$Change", "found", "Z") (List.mem_of_getElem? (i := 25) rfl))
theorem nf_26 {s : State} {args : Array Value} (h : nl_K s) : (Cond.fieldLinkNest "DeskPlanner$StepSearch" 60 "DeskPlanner$Change" "cost" "I" "DeskPlanner").before args s = true := va_Nw.use (w := .fieldLinkNest "DeskPlanner$StepSearch" 60 "DeskPlanner$Change" "cost" "I" "DeskPlanner") rfl (h.1 ("DeskPlanner$StepSearch", 60, "DeskPlanner$Change", "cost", "I") (List.mem_of_getElem? (i := 26) rfl))
theorem nf_27 {s : State} {args : Array Value} (h : nl_K s) : (Cond.fieldLinkNest "DeskPlanner$StepSearch" 64 "DeskPlanner$Office" "staff" "LDeskPlanner$Staff;" "DeskPlanner").before args s = true := va_Nw.use (w := .fieldLinkNest "DeskPlanner$StepSearch" 64 "DeskPlanner$Office" "staff" "LDeskPlanner$Staff;" "DeskPlanner") rfl (h.1 ("DeskPlanner$StepSearch", 64, "DeskPlanner$Office", "staff", "LDeskPlanner$Staff;") (List.mem_of_getElem? (i := 27) rfl))
theorem nf_28 {s : State} {args : Array Value} (h : nl_K s) : (Cond.fieldLinkNest "DeskPlanner$StepSearch" 68 "DeskPlanner$Staff" "teamCount" "I" "DeskPlanner").before args s = true := va_Nw.use (w := .fieldLinkNest "DeskPlanner$StepSearch" 68 "DeskPlanner$Staff" "teamCount" "I" "DeskPlanner") rfl (h.1 ("DeskPlanner$StepSearch", 68, "DeskPlanner$Staff", "teamCount", "I") (List.mem_of_getElem? (i := 28) rfl))
theorem nf_29 {s : State} {args : Array Value} (h : nl_K s) : (Cond.fieldLinkNest "DeskPlanner$StepSearch" 77 "DeskPlanner$Office" "floor" "LDeskPlanner$Floor;" "DeskPlanner").before args s = true := va_Nw.use (w := .fieldLinkNest "DeskPlanner$StepSearch" 77 "DeskPlanner$Office" "floor" "LDeskPlanner$Floor;" "DeskPlanner") rfl (h.1 ("DeskPlanner$StepSearch", 77, "DeskPlanner$Office", "floor", "LDeskPlanner$Floor;") (List.mem_of_getElem? (i := 29) rfl))
theorem nf_30 {s : State} {args : Array Value} (h : nl_K s) : (Cond.fieldLinkNest "DeskPlanner$StepSearch" 81 "DeskPlanner$Floor" "zoneCount" "I" "DeskPlanner").before args s = true := va_Nw.use (w := .fieldLinkNest "DeskPlanner$StepSearch" 81 "DeskPlanner$Floor" "zoneCount" "I" "DeskPlanner") rfl (h.1 ("DeskPlanner$StepSearch", 81, "DeskPlanner$Floor", "zoneCount", "I") (List.mem_of_getElem? (i := 30) rfl))
end
section
theorem va_P_nil {D : va_G} {cl : List vw_C} {H : Heap} : va_P D cl [] H := fun k q h => by simp at h
theorem z_inck (k a : Nat) : nI a + Int32.ofInt (k : Int) = nI (a + k) := by
  rw [show Int32.ofInt (k : Int) = nI k from rfl, nI_add]
theorem at_l {a b : va_W} {i : Nat} {q : Nat × va_E} (h : a[i]? = some q) : (a ++ b)[i]? = some q := by
  rw [List.getElem?_append_left (List.getElem?_eq_some_iff.mp h).1]
  exact h
theorem at_r {a b : va_W} {i : Nat} {q : Nat × va_E} (h : b[i]? = some q) : (a ++ b)[a.length + i]? = some q := by
  rw [List.getElem?_append_right (Nat.le_add_right _ _), Nat.add_sub_cancel_left]
  exact h
theorem set_l {a b a' : va_W} {i : Nat} {q x : Nat × va_E} (h : a[i]? = some q) (e : a.set i x = a') : (a ++ b).set i x = a' ++ b := by
  rw [List.set_append_left _ _ (List.getElem?_eq_some_iff.mp h).1, e]
theorem set_r {a b b' : va_W} {i : Nat} {x : Nat × va_E} (e : b.set i x = b') : (a ++ b).set (a.length + i) x = a ++ b' := by
  rw [List.set_append_right _ _ (Nat.le_add_right _ _), Nat.add_sub_cancel_left, e]
theorem wFl_T {x r : Nat → Nat} {cI cZ cQ : ClassId} {w q d : Nat → Int32} {T : Nat → Nat → Int32} {st re : Nat → Int32} {rc nz : Int32} {k : Nat} (hk : k < 7) : (wFl x r cI cZ cQ w q d T st re rc nz)[7 + k]? = some (r k, .inl (cI, 7, .inl (T k))) := rb_get rfl hk
theorem wFl_Ts {x r : Nat → Nat} {cI cZ cQ : ClassId} {w q d : Nat → Int32} {T : Nat → Nat → Int32} {st re : Nat → Int32} {rc nz : Int32} {k j : Nat} {v : Int32} (hk : k < 7) : (wFl x r cI cZ cQ w q d T st re rc nz).set (7 + k) (r k, .inl (cI, 7, .inl (upd (T k) j v))) = wFl x r cI cZ cQ w q d (u2 T k j v) st re rc nz := rb_set rfl hk
theorem wSt_P {x rp rw rt : Nat → Nat} {cI cQ : ClassId} {P : Nat → Nat → Int32} {n : Nat → Int32} {Wi Ti : Nat → Nat → Int32} {nt : Int32} {k : Nat} (hk : k < 7) : (wSt x rp rw rt cI cQ P n Wi Ti nt)[5 + k]? = some (rp k, .inl (cI, 5, .inl (P k))) := rb_get rfl hk
theorem wSt_Ps {x rp rw rt : Nat → Nat} {cI cQ : ClassId} {P : Nat → Nat → Int32} {n : Nat → Int32} {Wi Ti : Nat → Nat → Int32} {nt : Int32} {k j : Nat} {v : Int32} (hk : k < 7) : (wSt x rp rw rt cI cQ P n Wi Ti nt).set (5 + k) (rp k, .inl (cI, 5, .inl (upd (P k) j v))) = wSt x rp rw rt cI cQ (u2 P k j v) n Wi Ti nt := rb_set rfl hk
theorem wSt_W {x rp rw rt : Nat → Nat} {cI cQ : ClassId} {P : Nat → Nat → Int32} {n : Nat → Int32} {Wi Ti : Nat → Nat → Int32} {nt : Int32} {k : Nat} (hk : k < 7) : (wSt x rp rw rt cI cQ P n Wi Ti nt)[5 + (7 + k)]? = some (rw k, .inl (cI, 7, .inl (Wi k))) := by
  have h := at_r (a := [(x 0, .inr (5, [.ref (x 1), .ref (x 2), .ref (x 3), .ref (x 4), .int nt])), rq (x 1) cQ rp, (x 2, .inl (cI, 7, .inl n)), rq (x 3) cQ rw, rq (x 4) cQ rt]) (rb_get (X := rb rp cI 5 P 7) (Y := rb rt cI 7 Ti 7 ++ []) (r := rw) (cI := cI) (m := 7) (F := Wi) (x := 7) (rb_len _ _ _ _ _) hk)
  exact h
theorem wSt_Ws {x rp rw rt : Nat → Nat} {cI cQ : ClassId} {P : Nat → Nat → Int32} {n : Nat → Int32} {Wi Ti : Nat → Nat → Int32} {nt : Int32} {k j : Nat} {v : Int32} (hk : k < 7) : (wSt x rp rw rt cI cQ P n Wi Ti nt).set (5 + (7 + k)) (rw k, .inl (cI, 7, .inl (upd (Wi k) j v))) = wSt x rp rw rt cI cQ P n (u2 Wi k j v) Ti nt := by
  have h := set_r (a := [(x 0, .inr (5, [.ref (x 1), .ref (x 2), .ref (x 3), .ref (x 4), .int nt])), rq (x 1) cQ rp, (x 2, .inl (cI, 7, .inl n)), rq (x 3) cQ rw, rq (x 4) cQ rt]) (rb_set (X := rb rp cI 5 P 7) (Y := rb rt cI 7 Ti 7 ++ []) (r := rw) (cI := cI) (m := 7) (F := Wi) (x := 7) (j := j) (v := v) (rb_len _ _ _ _ _) hk)
  exact h
theorem wSt_T {x rp rw rt : Nat → Nat} {cI cQ : ClassId} {P : Nat → Nat → Int32} {n : Nat → Int32} {Wi Ti : Nat → Nat → Int32} {nt : Int32} {k : Nat} (hk : k < 7) : (wSt x rp rw rt cI cQ P n Wi Ti nt)[5 + (7 + (7 + k))]? = some (rt k, .inl (cI, 7, .inl (Ti k))) := by
  have h0 := at_r (a := rb rp cI 5 P 7) (rb_get (X := rb rw cI 7 Wi 7) (Y := []) (r := rt) (cI := cI) (m := 7) (F := Ti) (x := 7) (rb_len _ _ _ _ _) hk)
  rw [rb_len] at h0
  have h := at_r (a := [(x 0, .inr (5, [.ref (x 1), .ref (x 2), .ref (x 3), .ref (x 4), .int nt])), rq (x 1) cQ rp, (x 2, .inl (cI, 7, .inl n)), rq (x 3) cQ rw, rq (x 4) cQ rt]) h0
  exact h
theorem wSt_Ts {x rp rw rt : Nat → Nat} {cI cQ : ClassId} {P : Nat → Nat → Int32} {n : Nat → Int32} {Wi Ti : Nat → Nat → Int32} {nt : Int32} {k j : Nat} {v : Int32} (hk : k < 7) : (wSt x rp rw rt cI cQ P n Wi Ti nt).set (5 + (7 + (7 + k))) (rt k, .inl (cI, 7, .inl (upd (Ti k) j v))) = wSt x rp rw rt cI cQ P n Wi (u2 Ti k j v) nt := by
  have h0 := set_r (a := rb rp cI 5 P 7) (rb_set (X := rb rw cI 7 Wi 7) (Y := []) (r := rt) (cI := cI) (m := 7) (F := Ti) (x := 7) (j := j) (v := v) (rb_len _ _ _ _ _) hk)
  rw [rb_len] at h0
  have h := set_r (a := [(x 0, .inr (5, [.ref (x 1), .ref (x 2), .ref (x 3), .ref (x 4), .int nt])), rq (x 1) cQ rp, (x 2, .inl (cI, 7, .inl n)), rq (x 3) cQ rw, rq (x 4) cQ rt]) h0
  exact h
theorem P_eq {D : va_G} {cl : List vw_C} {a b : va_W} {H : Heap} (e : a = b) (h : va_P D cl a H) : va_P D cl b H := e ▸ h
theorem D_eq {A : Nat → Prop} {a b : va_W} (e : a = b) (h : va_D A a) : va_D A b := e ▸ h
theorem gS {own : String} {idx : Nat} {y : MethodName} {cc : ByteArray} {n : Nat} {r : Option FieldType} (h1 : Cond.methodLink own idx y ∈ ALL) (h2 : Cond.static y ∈ ALL) (h3 : Cond.initialized own ∈ ALL) (h5 : Cond.code y cc n r ∈ ALL) : GoodIn ALL (wsS own idx y (Cond.code y cc n r :: ALL)) := by
  intro w hw
  rcases List.mem_append.mp hw with h | h
  · simp only [List.mem_cons, List.not_mem_nil, or_false] at h
    rcases h with rfl | rfl | rfl
    · exact ⟨h1, ALL_good h1⟩
    · exact ⟨h2, ALL_good h2⟩
    · exact ⟨h3, ALL_good h3⟩
  · rcases List.mem_cons.mp h with rfl | h
    · exact ⟨h5, ALL_good h5⟩
    · exact ⟨h, ALL_good h⟩
section RR2
variable {p : Program} {l : Launch} {e : Env} {R : Room} {s : State} {m : MethodId} {args : Array Value} {below : List Frame} {meth : Method} {c : Code} {H : Heap} {locs : List Loc} {cells slots : Nat} {Q : State → Prop}
variable {cc : ByteArray} {pc : Nat} {ls : Array Slot} {rest st0 : List Value} {D : va_G} {A : Nat → Prop} {a : Nat} {ws : va_W} {H0 : Heap}
variable {cI cZ cQ cJ : ClassId}
theorem W.eqHL {g : JFrame} {H1 : Heap} {L1 : List Loc} (h : H1 = H) (hL : L1 = locs) (k : W p l e R s m args below meth c H1 L1 cells slots Q g) : W p l e R s m args below meth c H locs cells slots Q g := by
  subst h
  subst hL
  exact k
theorem r_divn (hexec : p.tables.exec = Jvm.exec) (hb : c.code = cc) {x y : Nat} (hx : x < 2 ^ 31) (h0 : 0 < y) (hy : y < 2 ^ 31) (hdg : decode cc pc = .ok (.idiv, 1)) (k : W p l e R s m args below meth c H locs cells slots Q (F0 m (pc + 1) ls (.int (nI (x / y)) :: rest))) : W p l e R s m args below meth c H locs cells slots Q (F0 m pc ls (.int (nI y) :: .int (nI x) :: rest)) := lv_idiv hexec hb hdg (nI_ne0 h0 hy) (by rw [pk_div hx h0 hy]; exact k)
theorem r_remn (hexec : p.tables.exec = Jvm.exec) (hb : c.code = cc) {x y : Nat} (hx : x < 2 ^ 31) (h0 : 0 < y) (hy : y < 2 ^ 31) (hdg : decode cc pc = .ok (.irem, 1)) (k : W p l e R s m args below meth c H locs cells slots Q (F0 m (pc + 1) ls (.int (nI (x % y)) :: rest))) : W p l e R s m args below meth c H locs cells slots Q (F0 m pc ls (.int (nI y) :: .int (nI x) :: rest)) := lv_irem hexec hb hdg (nI_ne0 h0 hy) (by rw [pk_rem hx h0 hy]; exact k)
/-- a call of a method that writes, run -/
theorem w_V {own C : String} {idx nL maxL n mc ms : Nat} {y : MethodName} {bytes : ByteArray} {ret : Option FieldType} {rm : Room} {wc : va_W} {sz : Nat} {b : Addr} {As : List Value} {Qc : Array Value → State → Outcome → State → Prop} {free : Addr → Prop}
    (S : CallFix p m c cc nL s args ALL own) (hM : Met l y (Cond.code y bytes maxL ret :: ALL) rm (va_Pc (.ref b :: As) (rw_P D cI cZ cQ cJ wc sz)) Qc mc ms free)
    (hG : GoodIn ALL (wsV own idx C y (Cond.code y bytes maxL ret :: ALL))) (hrc : rm.cells = mc) (hrs : rm.slots = ms)
    (hd : y.cls = C ∧ y.cls ≠ "java/lang/invoke/MethodHandle" ∧ y.cls ≠ "java/lang/invoke/VarHandle" ∧ (parseMethodDescriptor y.desc).map (fun d => d.parameters.length) = some n) (hR : rm.frames + 1 ≤ R.frames ∧ 8 + (maxL + 11) + rm.locals ≤ R.locals)
    (hpre : ∀ U : State, U.heap = H → s.WarmedH U.vm → va_Pc (.ref b :: As) (rw_P D cI cZ cQ cJ wc sz) (.ref b :: As : List Value).toArray U) (hv : ∃ cell : Cell, H[b]? = some cell ∧ cell.vm.isStatics = false ∧ s.vm.findClass C = some cell.cls)
    (hn : As.length = n) (hsize : ls.size = nL) (hstack : st0 = As.reverse ++ .ref b :: rest) (hW : (rest.map fun v => v.category).sum ≤ 8) (hdg : decode cc pc = .ok (.invokevirtual idx, 3)) (hf : cells + mc ≤ R.cells ∧ slots + ms ≤ R.slots) :
    va_Run p l e R s m args below meth c H locs cells slots mc ms (F0 m pc ls st0) rest (Qc (.ref b :: As : List Value).toArray) free := by
  obtain ⟨hx, hb, hml, hown, hts⟩ := id S
  exact va_runV (As := As) (rest := rest) S hM (cwV n hts hG rfl hrc hrs hd hR) ⟨rw_blind, hv, hpre⟩ rfl hn hsize hstack (lv_room hW) hdg hf
theorem w_S {own : String} {idx nL maxL n mc ms : Nat} {y : MethodName} {bytes : ByteArray} {ret : Option FieldType} {rm : Room} {wc : va_W} {sz : Nat} {As : List Value} {Qc : Array Value → State → Outcome → State → Prop} {free : Addr → Prop}
    (S : CallFix p m c cc nL s args ALL own) (hM : Met l y (Cond.code y bytes maxL ret :: ALL) rm (va_Pc As (rw_P D cI cZ cQ cJ wc sz)) Qc mc ms free)
    (hG : GoodIn ALL (wsS own idx y (Cond.code y bytes maxL ret :: ALL))) (hrc : rm.cells = mc) (hrs : rm.slots = ms)
    (hd : y.cls = own ∧ y.cls ≠ "java/lang/invoke/MethodHandle" ∧ y.cls ≠ "java/lang/invoke/VarHandle" ∧ (parseMethodDescriptor y.desc).map (fun d => d.parameters.length) = some n) (hR : rm.frames + 1 ≤ R.frames ∧ 8 + (maxL + 11) + rm.locals ≤ R.locals)
    (hpre : ∀ U : State, U.heap = H → s.WarmedH U.vm → va_Pc As (rw_P D cI cZ cQ cJ wc sz) As.toArray U)
    (hn : As.length = n) (hsize : ls.size = nL) (hstack : st0 = As.reverse ++ rest) (hW : (rest.map fun v => v.category).sum ≤ 8) (hdg : decode cc pc = .ok (.invokestatic idx, 3)) (hf : cells + mc ≤ R.cells ∧ slots + ms ≤ R.slots) :
    va_Run p l e R s m args below meth c H locs cells slots mc ms (F0 m pc ls st0) rest (Qc As.toArray) free := by
  obtain ⟨hx, hb, hml, hown, hts⟩ := id S
  exact va_runS (As := As) (rest := rest) S hM (cwS n hts hG rfl hrc hrs hd hR) ⟨rw_blind, hpre⟩ rfl hn hsize hstack (lv_room hW) hdg hf
end RR2
def wAr (a : Nat) (cI : ClassId) (N : Nat) (f : Nat → Int32) : va_W := [(a, .inl (cI, N, .inl f))]
end
section
/-! rows that make: arrays, arrays of arrays; calls of constructors -/
/-- addresses, listed -/
def adl (l : List Nat) : Nat → Nat := fun k => l.getD k 0
theorem ar_I {D : va_G} {cI cZ cQ cJ cA : ClassId} {s : State} {tys : List (ClassId × FieldType)} (hSt : St D cI cZ cQ cJ s) (hK : va_K D vwCl tys s) (k : Nat) (h : tys[k]? = some (cA, .int)) : cI = cA := Option.some.inj ((hSt.1.2 0 _ rfl).2.symm.trans (hK.2 k _ h).2)
theorem ar_Z {D : va_G} {cI cZ cQ cJ cA : ClassId} {s : State} {tys : List (ClassId × FieldType)} (hSt : St D cI cZ cQ cJ s) (hK : va_K D vwCl tys s) (k : Nat) (h : tys[k]? = some (cA, .boolean)) : cZ = cA := Option.some.inj ((hSt.1.2 1 _ rfl).2.symm.trans (hK.2 k _ h).2)
theorem ar_Q {D : va_G} {cI cZ cQ cJ cA : ClassId} {s : State} {tys : List (ClassId × FieldType)} (hSt : St D cI cZ cQ cJ s) (hK : va_K D vwCl tys s) (k : Nat) (h : tys[k]? = some (cA, .array .int)) : cQ = cA := Option.some.inj ((hSt.1.2 2 _ rfl).2.symm.trans (hK.2 k _ h).2)
theorem ar_J {D : va_G} {cI cZ cQ cJ cA : ClassId} {s : State} {tys : List (ClassId × FieldType)} (hSt : St D cI cZ cQ cJ s) (hK : va_K D vwCl tys s) (k : Nat) (h : tys[k]? = some (cA, .long)) : cJ = cA := Option.some.inj ((hSt.1.2 3 _ rfl).2.symm.trans (hK.2 k _ h).2)
section NEW
variable {p : Program} {l : Launch} {e : Env} {R : Room} {s : State} {m : MethodId} {args : Array Value} {below : List Frame} {meth : Method} {c : Code} {H : Heap} {locs : List Loc} {cells slots : Nat} {Q : State → Prop}
variable {cc : ByteArray} {pc : Nat} {ls : Array Slot} {rest st0 : List Value} {D : va_G} {A : Nat → Prop} {a : Nat} {ws : va_W} {H0 : Heap}
variable {cI cZ cQ cJ : ClassId}
theorem r_newI (hexec : p.tables.exec = Jvm.exec) (hb : c.code = cc) (harr : (Cond.arrayClass .int).before args s = true) (hSt : St D cI cZ cQ cJ s) (hP : va_P D vwCl ws H) (hD : va_D A ws) (hS : va_S A H0 H locs) (hA : ∀ q, H0.size ≤ q → A q)
    {N : Nat} (hN : N < 2 ^ 20) (hcells : cells + 1 ≤ R.cells) (hslots : slots + N ≤ R.slots) (hdg : decode cc pc = .ok (.newarray .int, 2))
    (kk : ∀ (q : Nat) (H1 : Heap), va_P D vwCl (ws ++ [(q, .inl (cI, N, .inl (fun _ => nI 0)))]) H1 → va_D A (ws ++ [(q, .inl (cI, N, .inl (fun _ => nI 0)))]) → va_S A H0 H1 locs →
      W p l e R s m args below meth c H1 locs (cells + 1) (slots + N) Q (F0 m (pc + 2) ls (.ref q :: rest))) : W p l e R s m args below meth c H locs cells slots Q (F0 m pc ls (.int (nI N) :: rest)) := by
  refine va_newa (atype := .int) (ty := .int) (a0 := (N, .inl (fun _ => nI 0))) (N' := N) hexec hb harr rfl hSt.1 hP hD hS hA (fun _ => rfl) (nI_pos (by omega)) (nI_clamp (by omega)) (by show N * 4 ≤ _; omega) hcells hslots hdg (fun q cA H1 hK1 hP1 hD1 hS1 => ?_)
  obtain rfl : cI = cA := ar_I hSt hK1 4 rfl
  exact kk q H1 hP1 hD1 hS1
theorem r_newZ (hexec : p.tables.exec = Jvm.exec) (hb : c.code = cc) (harr : (Cond.arrayClass .boolean).before args s = true) (hSt : St D cI cZ cQ cJ s) (hP : va_P D vwCl ws H) (hD : va_D A ws) (hS : va_S A H0 H locs) (hA : ∀ q, H0.size ≤ q → A q)
    {N : Nat} (hN : N < 2 ^ 20) (hcells : cells + 1 ≤ R.cells) (hslots : slots + N ≤ R.slots) (hdg : decode cc pc = .ok (.newarray .boolean, 2))
    (kk : ∀ (q : Nat) (H1 : Heap), va_P D vwCl (ws ++ [(q, .inl (cZ, N, .inl (fun _ => nI 0)))]) H1 → va_D A (ws ++ [(q, .inl (cZ, N, .inl (fun _ => nI 0)))]) → va_S A H0 H1 locs →
      W p l e R s m args below meth c H1 locs (cells + 1) (slots + N) Q (F0 m (pc + 2) ls (.ref q :: rest))) : W p l e R s m args below meth c H locs cells slots Q (F0 m pc ls (.int (nI N) :: rest)) := by
  refine va_newa (atype := .boolean) (ty := .boolean) (a0 := (N, .inl (fun _ => nI 0))) (N' := N) hexec hb harr rfl hSt.1 hP hD hS hA (fun _ => rfl) (nI_pos (by omega)) (nI_clamp (by omega)) (by show N * 1 ≤ _; omega) hcells hslots hdg (fun q cA H1 hK1 hP1 hD1 hS1 => ?_)
  obtain rfl : cZ = cA := ar_Z hSt hK1 4 rfl
  exact kk q H1 hP1 hD1 hS1
theorem r_newJ (hexec : p.tables.exec = Jvm.exec) (hb : c.code = cc) (harr : (Cond.arrayClass .long).before args s = true) (hSt : St D cI cZ cQ cJ s) (hP : va_P D vwCl ws H) (hD : va_D A ws) (hS : va_S A H0 H locs) (hA : ∀ q, H0.size ≤ q → A q)
    {N : Nat} (hN : N < 2 ^ 20) (hcells : cells + 1 ≤ R.cells) (hslots : slots + N ≤ R.slots) (hdg : decode cc pc = .ok (.newarray .long, 2))
    (kk : ∀ (q : Nat) (H1 : Heap), va_P D vwCl (ws ++ [(q, .inl (cJ, N, .inr (.inl (fun _ => 0))))]) H1 → va_D A (ws ++ [(q, .inl (cJ, N, .inr (.inl (fun _ => 0))))]) → va_S A H0 H1 locs →
      W p l e R s m args below meth c H1 locs (cells + 1) (slots + N) Q (F0 m (pc + 2) ls (.ref q :: rest))) : W p l e R s m args below meth c H locs cells slots Q (F0 m pc ls (.int (nI N) :: rest)) := by
  refine va_newa (atype := .long) (ty := .long) (a0 := (N, .inr (.inl (fun _ => 0)))) (N' := N) hexec hb harr rfl hSt.1 hP hD hS hA (fun _ => rfl) (nI_pos (by omega)) (nI_clamp (by omega)) (by show N * 8 ≤ _; omega) hcells hslots hdg (fun q cA H1 hK1 hP1 hD1 hS1 => ?_)
  obtain rfl : cJ = cA := ar_J hSt hK1 4 rfl
  exact kk q H1 hP1 hD1 hS1
theorem rb_pl {r : Nat → Nat} {cI : ClassId} {M : Nat} {f : Nat → va_E} : va_pl ([] ++ (List.range 7).map r) (vr_up f ((List.range 7).map r) (.inl (cI, M, .inl (fun _ => nI 0)))) = rb r cI M (fun _ _ => nI 0) 7 := by
  rw [List.nil_append]
  unfold va_pl rb
  rw [List.map_map]
  apply List.map_congr_left
  intro i hi
  show (r i, vr_up f _ _ (r i)) = _
  rw [vr_up_in (List.mem_map.mpr ⟨i, hi, rfl⟩)]
/-- new int[7][M] -/
theorem r_mna (hexec : p.tables.exec = Jvm.exec) (hb : c.code = cc) {own : String} {idx : Nat} (hown : s.vm.findClass own = some m.cls) (hclink : (Cond.classLink own idx "[[I").before args s = true) (harr : (Cond.arrayClass .int).before args s = true) (hSt : St D cI cZ cQ cJ s) (hP : va_P D vwCl ws H) (hD : va_D A ws) (hS : va_S A H0 H locs) (hA : ∀ q, H0.size ≤ q → A q)
    {M : Nat} (hM : M < 2 ^ 20) (hcells : cells + 8 ≤ R.cells) (hslots : slots + (7 + 7 * M) ≤ R.slots) (hdg : decode cc pc = .ok (.multianewarray idx 2, 4))
    (kk : ∀ (q : Nat) (r : Nat → Nat) (H1 : Heap), va_P D vwCl ((ws ++ [rq q cQ r]) ++ rb r cI M (fun _ _ => nI 0) 7) H1 → va_D A ((ws ++ [rq q cQ r]) ++ rb r cI M (fun _ _ => nI 0) 7) → va_S A H0 H1 locs →
      W p l e R s m args below meth c H1 locs (cells + 8) (slots + (7 + 7 * M)) Q (F0 m (pc + 4) ls (.ref q :: rest))) : W p l e R s m args below meth c H locs cells slots Q (F0 m pc ls (.int (nI M) :: .int (nI 7) :: rest)) := by
  have hcy : s.vm.findClass (FieldType.array FieldType.int).toString = some cI := by
    have h := (hSt.1.2 0 _ rfl).2
    have h2 : s.vm.findClass ("[" ++ FieldType.int.toString) = some cI := h
    exact h2
  have e0 : ws ++ va_pl [] (fun _ => .inr (0, [])) = ws := List.append_nil ws
  refine va_mna (X := ws) (L := []) (f := fun _ => .inr (0, [])) (ty := .int) (N' := 7) (K' := M) (z := (M, .inl (fun _ => nI 0))) hexec hb hown hclink hSt.2.a harr hcy hSt.1 (by rw [e0]; exact hP) (by rw [e0]; exact hD) hS hA (nI_pos (by omega)) (nI_pos (by omega)) (nI_clamp (by omega)) (nI_clamp (by omega)) (by omega) (by show M * 4 ≤ _; omega) (by omega) rfl rfl (by omega) hslots (fun c => arrV_new c M _) hdg (fun q r cA H1 hr1 hr2 hK1 hP1 hD1 hS1 => ?_)
  obtain rfl : cQ = cA := ar_Q hSt hK1 4 rfl
  have h := kk q r H1 (by rw [← rb_pl]; exact hP1) (by rw [← rb_pl]; exact hD1) hS1
  rw [show cells + 1 + 7 = cells + 8 from rfl, show slots + 7 + 7 * M = slots + (7 + 7 * M) by omega]
  exact h
/-- a constructor of the class's own nest, called -/
theorem w_IN {own host : String} {idx nL maxL n mc ms : Nat} {y : MethodName} {bytes : ByteArray} {rm : Room} {wc : va_W} {sz : Nat} {b : Addr} {As : List Value} {Qc : Array Value → State → Outcome → State → Prop} {free : Addr → Prop}
    (S : CallFix p m c cc nL s args ALL own) (hM : Met l y (Cond.code y bytes maxL none :: ALL) rm (va_Pc (.ref b :: As) (rw_P D cI cZ cQ cJ wc sz)) Qc mc ms free)
    (hl : va_Nw (.methodLinkNest own idx y host) s) (h2 : Cond.instanceMethod y ∈ ALL) (h4 : Cond.initialized y.cls ∈ ALL) (h5 : Cond.code y bytes maxL none ∈ ALL) (hrc : rm.cells = mc) (hrs : rm.slots = ms)
    (hd : y.name = "<init>" ∧ y.cls ≠ "java/lang/invoke/MethodHandle" ∧ y.cls ≠ "java/lang/invoke/VarHandle" ∧ (parseMethodDescriptor y.desc).map (fun d => d.parameters.length) = some n) (hR : rm.frames + 1 ≤ R.frames ∧ 8 + (maxL + 11) + rm.locals ≤ R.locals)
    (hpre : ∀ U : State, U.heap = H → s.WarmedH U.vm → va_Pc (.ref b :: As) (rw_P D cI cZ cQ cJ wc sz) (.ref b :: As : List Value).toArray U)
    (hn : As.length = n) (hsize : ls.size = nL) (hstack : st0 = As.reverse ++ .ref b :: rest) (hW : (rest.map fun v => v.category).sum ≤ 8) (hdg : decode cc pc = .ok (.invokespecial idx, 3)) (hf : cells + mc ≤ R.cells ∧ slots + ms ≤ R.slots) :
    va_Run p l e R s m args below meth c H locs cells slots mc ms (F0 m pc ls st0) rest (Qc (.ref b :: As : List Value).toArray) free := by
  obtain ⟨hx, hb, hml, hown, hts⟩ := id S
  exact va_runIN (As := As) (rest := rest) S hM ⟨va_cnB n hts (gC h5) rfl hrc hrs hl (hts _ h4) hd.2 hR, hd.1, hts _ h2⟩ ⟨rw_blind, hpre⟩ rfl hn hsize hstack (lv_room hW) hdg hf
theorem w_I {own : String} {idx nL maxL n mc ms : Nat} {y : MethodName} {bytes : ByteArray} {rm : Room} {wc : va_W} {sz : Nat} {b : Addr} {As : List Value} {Qc : Array Value → State → Outcome → State → Prop} {free : Addr → Prop}
    (S : CallFix p m c cc nL s args ALL own) (hM : Met l y (Cond.code y bytes maxL none :: ALL) rm (va_Pc (.ref b :: As) (rw_P D cI cZ cQ cJ wc sz)) Qc mc ms free)
    (hl : Cond.methodLink own idx y ∈ ALL) (h2 : Cond.instanceMethod y ∈ ALL) (h4 : Cond.initialized y.cls ∈ ALL) (h5 : Cond.code y bytes maxL none ∈ ALL) (hrc : rm.cells = mc) (hrs : rm.slots = ms)
    (hd : y.name = "<init>" ∧ y.cls ≠ "java/lang/invoke/MethodHandle" ∧ y.cls ≠ "java/lang/invoke/VarHandle" ∧ (parseMethodDescriptor y.desc).map (fun d => d.parameters.length) = some n) (hR : rm.frames + 1 ≤ R.frames ∧ 8 + (maxL + 11) + rm.locals ≤ R.locals)
    (hpre : ∀ U : State, U.heap = H → s.WarmedH U.vm → va_Pc (.ref b :: As) (rw_P D cI cZ cQ cJ wc sz) (.ref b :: As : List Value).toArray U)
    (hn : As.length = n) (hsize : ls.size = nL) (hstack : st0 = As.reverse ++ .ref b :: rest) (hW : (rest.map fun v => v.category).sum ≤ 8) (hdg : decode cc pc = .ok (.invokespecial idx, 3)) (hf : cells + mc ≤ R.cells ∧ slots + ms ≤ R.slots) :
    va_Run p l e R s m args below meth c H locs cells slots mc ms (F0 m pc ls st0) rest (Qc (.ref b :: As : List Value).toArray) free := by
  obtain ⟨hx, hb, hml, hown, hts⟩ := id S
  exact va_runI (As := As) (rest := rest) S hM (cwI n hts (gC h5) rfl hrc hrs (hts _ h4) (hts _ hl) (hts _ h2) hd.1 hd.2 hR) ⟨rw_blind, hpre⟩ rfl hn hsize hstack (lv_room hW) hdg hf
/-- a static method of another class, called -/
theorem w_SX {own : String} {idx nL maxL n mc ms : Nat} {y : MethodName} {bytes : ByteArray} {ret : Option FieldType} {rm : Room} {wc : va_W} {sz : Nat} {As : List Value} {Qc : Array Value → State → Outcome → State → Prop} {free : Addr → Prop}
    (S : CallFix p m c cc nL s args ALL own) (hM : Met l y (Cond.code y bytes maxL ret :: ALL) rm (va_Pc As (rw_P D cI cZ cQ cJ wc sz)) Qc mc ms free)
    (hG : GoodIn ALL (va_wsS own idx y (Cond.code y bytes maxL ret :: ALL))) (hrc : rm.cells = mc) (hrs : rm.slots = ms)
    (hd : y.cls ≠ "java/lang/invoke/MethodHandle" ∧ y.cls ≠ "java/lang/invoke/VarHandle" ∧ (parseMethodDescriptor y.desc).map (fun d => d.parameters.length) = some n) (hR : rm.frames + 1 ≤ R.frames ∧ 8 + (maxL + 11) + rm.locals ≤ R.locals)
    (hpre : ∀ U : State, U.heap = H → s.WarmedH U.vm → va_Pc As (rw_P D cI cZ cQ cJ wc sz) As.toArray U)
    (hn : As.length = n) (hsize : ls.size = nL) (hstack : st0 = As.reverse ++ rest) (hW : (rest.map fun v => v.category).sum ≤ 8) (hdg : decode cc pc = .ok (.invokestatic idx, 3)) (hf : cells + mc ≤ R.cells ∧ slots + ms ≤ R.slots) :
    va_Run p l e R s m args below meth c H locs cells slots mc ms (F0 m pc ls st0) rest (Qc As.toArray) free := by
  obtain ⟨hx, hb, hml, hown, hts⟩ := id S
  exact va_runS (As := As) (rest := rest) S hM (va_cwS n hts hG rfl hrc hrs hd hR) ⟨rw_blind, hpre⟩ rfl hn hsize hstack (lv_room hW) hdg hf
end NEW
theorem gSX {own : String} {idx : Nat} {y : MethodName} {cc : ByteArray} {n : Nat} {r : Option FieldType} (h1 : Cond.methodLink own idx y ∈ ALL) (h2 : Cond.static y ∈ ALL) (h3 : Cond.initialized y.cls ∈ ALL) (h5 : Cond.code y cc n r ∈ ALL) : GoodIn ALL (va_wsS own idx y (Cond.code y cc n r :: ALL)) := by
  intro w hw
  rcases List.mem_append.mp hw with h | h
  · simp only [List.mem_cons, List.not_mem_nil, or_false] at h
    rcases h with rfl | rfl | rfl
    · exact ⟨h1, ALL_good h1⟩
    · exact ⟨h2, ALL_good h2⟩
    · exact ⟨h3, ALL_good h3⟩
  · rcases List.mem_cons.mp h with rfl | h
    · exact ⟨h5, ALL_good h5⟩
    · exact ⟨h, ALL_good h⟩
end
section
set_option maxHeartbeats 4000000 in
set_option maxRecDepth 100000 in
/-- Arrays.fill of an int row -/
theorem c_J7_fill_53178 (l : Launch) (D : va_G) (cI cZ cQ cJ : ClassId) (a : Nat) (N : Nat) (f : Nat → Int32) (v : Int32) (sz : Nat) (hN : N ≤ 64) : Met l yJ7_fill_53178 (.code yJ7_fill_53178 cJ7_fill_53178 4 none :: ALL) ({ frames := 0, cells := 0, slots := 0, locals := 0 } : Room) (va_Pc [.ref a, .int v] (rw_P D cI cZ cQ cJ (wAr a cI N f) sz)) (va_Qv (fun u9 : Unit => True) (rw_B D (va_A (wAr a cI N f) sz) (fun u9 : Unit => wAr a cI N (fun _ => v))) (va_A (wAr a cI N f) sz)) 0 0 (va_A (wAr a cI N f) sz) := by
  refine Met.ofW (cc := cJ7_fill_53178) (maxL := 4) (ret := none) (by decide) rfl ?_
  intro p e s m args below meth c s₁ B hml hv
  obtain ⟨rfl, hsz, hP, hSt, hD0⟩ := hv
  have hx := B.exec
  have hb := B.bytes
  have hr := B.returns
  have hts : ∀ w ∈ ALL, w.before ([.ref a, .int v] : List Value).toArray s = true := fun w h => atoms_spec (ws := (.code yJ7_fill_53178 cJ7_fill_53178 4 none :: ALL)) B.pre w (List.mem_cons_of_mem _ h)
  have hown : s.vm.findClass RJ7 = some m.cls := findClass_of_methodNamed B.named
  have hlocks := B.notSynchronized
  subst hsz
  have hD := hD0.self (sz := s.heap.size)
  clear hD0
  generalize hAe : va_A (wAr a cI N f) s.heap.size = A at hD ⊢
  have hA : ∀ q : Nat, s.heap.size ≤ q → A q := fun q h => by rw [← hAe]; exact Or.inr h
  have hS : va_S A s.heap s.heap [] := va_S.rf
  have hl := lv_entry ([.ref a, .int v]) (n := 4) (Nat.le_of_ble_eq_true rfl)
  rw [lg_entry_eq]
  generalize (lg_sl ([.ref a, .int v]) ++ List.replicate (4 - (lg_sl ([.ref a, .int v])).length) Slot.unset).toArray = ls at hl ⊢
  have hl : lv_has ls 4 [(0, .ref a), (1, .int v)] := hl
  obtain ⟨H, hHe⟩ : ∃ H : Heap, H = s.heap := ⟨_, rfl⟩
  obtain ⟨locs, hLe⟩ : ∃ L : List Loc, L = [] := ⟨_, rfl⟩
  have hP : va_P D vwCl (wAr a cI N f) H := by rw [hHe]; exact hP
  have hS : va_S A s.heap H locs := by rw [hHe, hLe]; exact hS
  refine W.eqHL hHe hLe ?_
  refine lv_iconst (v := nI 0) hx hb dJ7_fill_53178_0 (by decide) ?_
  refine lv_istore_n (lv' := [(2, .int (nI 0)), (0, .ref a), (1, .int v)]) hx hb dJ7_fill_53178_1 rfl hl (by decide) rfl (fun ls hl => ?_)
  refine lv_aload_n hx hb dJ7_fill_53178_2 rfl (lv_at hl 1 rfl) ?_
  refine va_alen hx hb hSt.1 hP 0 0 rfl rfl (v := nI N) rfl dJ7_fill_53178_3 ?_
  refine lv_istore_n (lv' := [(3, .int (nI N)), (2, .int (nI 0)), (0, .ref a), (1, .int v)]) hx hb dJ7_fill_53178_4 rfl hl (by decide) rfl (fun ls hl => ?_)
  have L5 : ∀ (n : Nat) (i : Nat) (g : Nat → Int32), (i ≤ N) → (∀ j, j < i → g j = v) → (N - i) < n → ∀ (H : Heap) (locs : List Loc), va_P D vwCl (wAr a cI N g) H → va_D A (wAr a cI N g) → va_S A s.heap H locs → ∀ (ls : Array Slot), lv_has ls 4 [(0, .ref a), (1, .int v), (2, .int (nI i)), (3, .int (nI N))] → W p l e ({ frames := 0, cells := 0, slots := 0, locals := 0 } : Room) s m ([.ref a, .int v] : List Value).toArray below meth c H locs 0 0 (MQ below (va_Qv (fun u9 : Unit => True) (rw_B D A (fun u9 : Unit => wAr a cI N (fun _ => v))) A) ([.ref a, .int v] : List Value).toArray s 0 0 A) (F0 m 5 ls []) := by
    intro n
    induction n with
    | zero =>
      intro i g hi hg hm
      exact absurd hm (by omega)
    | succ n ih =>
      intro i g hi hg hm H locs hP hD hS ls hl
      have ih_L5 := ih
      refine lv_iload_n hx hb dJ7_fill_53178_5 rfl (lv_at hl 2 rfl) ?_
      refine lv_iload_n hx hb dJ7_fill_53178_6 rfl (lv_at hl 3 rfl) ?_
      refine lv_icmp_ge (tgt := 20) hx hb dJ7_fill_53178_7 (by decide) (fun c_1 => ?_) (fun c_1 => ?_)
      · have c_1 := z_le (by omega) (by omega) c_1
        obtain ⟨hP, hD⟩ := P_fi hP hD 0 (fun _ => v) rfl (fun j hj => hg j (by omega))
        have hP : va_P D vwCl (wAr a cI N (fun _ => v)) H := hP
        have hD : va_D A (wAr a cI N (fun _ => v)) := hD
        have hP9 : va_P D vwCl (wAr a cI N (fun _ => v)) H := hP
        have hD9 : va_D A (wAr a cI N (fun _ => v)) := hD
        exact W.vret hx hb hr (fun t9 ht9 hW9 => ⟨⟨(), rfl, trivial, by rw [ht9]; exact hP9, hD9⟩, hS.F ht9⟩) hS.2.2 dJ7_fill_53178_20
      · have c_1 := z_nle (by omega) (by omega) c_1
        refine lv_aload_n hx hb dJ7_fill_53178_10 rfl (lv_at hl 0 rfl) ?_
        refine lv_iload_n hx hb dJ7_fill_53178_11 rfl (lv_at hl 2 rfl) ?_
        refine lv_iload_n hx hb dJ7_fill_53178_12 rfl (lv_at hl 1 rfl) ?_
        refine r_iast hx hb hSt.1 hP hD hS 0 0 rfl rfl (k := i) (by omega) (by omega) dJ7_fill_53178_13 (fun H locs hP hD hS => ?_)
        have hP : va_P D vwCl (wAr a cI N (upd g i v)) H := hP
        have hD : va_D A (wAr a cI N (upd g i v)) := hD
        refine lv_iinc (v := nI (i + 1)) (lv' := [(2, .int (nI (i + 1))), (0, .ref a), (1, .int v), (3, .int (nI N))]) hx hb dJ7_fill_53178_14 hl (k := 2) rfl (z_inc _) (by decide) rfl (fun ls hl => ?_)
        refine lv_goto (tgt := 5) hx hb dJ7_fill_53178_17 (by decide) ?_
        exact ih_L5 (i + 1) (upd g i v) (by omega) (fun j hj => by unfold upd; by_cases e : j = i <;> simp [e]; exact hg j (by omega)) (by omega) _ _ hP hD hS _ (lv_sub hl [1, 2, 0, 3] rfl)
  exact L5 _ 0 f (by omega) (fun j hj => absurd hj (by omega)) (Nat.lt_succ_self _) _ _ hP hD hS _ (lv_sub hl [2, 3, 1, 0] rfl)
theorem hd_J7_fill_53178 : yJ7_fill_53178.cls ≠ "java/lang/invoke/MethodHandle" ∧ yJ7_fill_53178.cls ≠ "java/lang/invoke/VarHandle" ∧ (parseMethodDescriptor yJ7_fill_53178.desc).map (fun d => d.parameters.length) = some 2 := by decide +kernel
set_option maxHeartbeats 4000000 in
set_option maxRecDepth 100000 in
/-- Placement(): no team is in a zone -/
theorem c_X4_init (l : Launch) (D : va_G) (cI cZ cQ cJ : ClassId) (a : Nat) (sz : Nat)  : Met l yX4_init (.code yX4_init cX4_init 1 none :: ALL) ({ frames := 1, cells := 1, slots := 7, locals := 23 } : Room) (va_Pc [.ref a] (rw_P D cI cZ cQ cJ ([(a, .inr (4, [.null]))] : va_W) sz)) (va_Qv (fun u9 : Nat => True) (rw_B D (va_A ([(a, .inr (4, [.null]))] : va_W) sz) (fun u9 : Nat => wPl a u9 cI (fun _ => (-1 : Int32)))) (va_A ([(a, .inr (4, [.null]))] : va_W) sz)) 1 7 (va_A ([(a, .inr (4, [.null]))] : va_W) sz) := by
  refine Met.ofW (cc := cX4_init) (maxL := 1) (ret := none) (by decide) rfl ?_
  intro p e s m args below meth c s₁ B hml hv
  obtain ⟨rfl, hsz, hP, hSt, hD0⟩ := hv
  have hx := B.exec
  have hb := B.bytes
  have hr := B.returns
  have hts : ∀ w ∈ ALL, w.before ([.ref a] : List Value).toArray s = true := fun w h => atoms_spec (ws := (.code yX4_init cX4_init 1 none :: ALL)) B.pre w (List.mem_cons_of_mem _ h)
  have hown : s.vm.findClass RX4 = some m.cls := findClass_of_methodNamed B.named
  have hlocks := B.notSynchronized
  have hin : meth.name = "<init>" := (name_of_methodNamed B.named B.method).1
  subst hsz
  have hD := hD0.self (sz := s.heap.size)
  clear hD0
  generalize hAe : va_A ([(a, .inr (4, [.null]))] : va_W) s.heap.size = A at hD ⊢
  have hA : ∀ q : Nat, s.heap.size ≤ q → A q := fun q h => by rw [← hAe]; exact Or.inr h
  have hS : va_S A s.heap s.heap [] := va_S.rf
  have hl := lv_entry ([.ref a]) (n := 1) (Nat.le_of_ble_eq_true rfl)
  rw [lg_entry_eq]
  generalize (lg_sl ([.ref a]) ++ List.replicate (1 - (lg_sl ([.ref a])).length) Slot.unset).toArray = ls at hl ⊢
  have hl : lv_has ls 1 [(0, .ref a)] := hl
  obtain ⟨H, hHe⟩ : ∃ H : Heap, H = s.heap := ⟨_, rfl⟩
  obtain ⟨locs, hLe⟩ : ∃ L : List Loc, L = [] := ⟨_, rfl⟩
  have hP : va_P D vwCl ([(a, .inr (4, [.null]))] : va_W) H := by rw [hHe]; exact hP
  have hS : va_S A s.heap H locs := by rw [hHe, hLe]; exact hS
  refine W.eqHL hHe hLe ?_
  refine lv_aload_n hx hb dX4_init_0 rfl (lv_at hl 0 rfl) ?_
  refine W.objInit hx hb hown (hts _ t1_127) (hts _ t1_25) (hts _ t1_26) rfl (by rw [hml]; exact hl.1) rfl dX4_init_1 (Nat.le_of_ble_eq_true rfl) (Nat.le_of_ble_eq_true rfl) ?_
  refine W.eq (g2 := F0 m 4 ls []) rfl ?_
  refine lv_aload_n hx hb dX4_init_4 rfl (lv_at hl 0 rfl) ?_
  refine lv_bipush (v := nI 7) hx hb dX4_init_5 (by decide) ?_
  refine r_newI hx hb (hts _ t1_74) hSt hP hD hS hA (N := 7) (by omega) (Nat.le_of_ble_eq_true rfl) (Nat.le_of_ble_eq_true rfl) dX4_init_7 (fun q_1 H hP hD hS => ?_)
  have hP : va_P D vwCl (([(a, .inr (4, [.null]))] : va_W) ++ ([(q_1, .inl (cI, 7, .inl (fun _ => nI 0)))] : va_W)) H := hP
  have hD : va_D A (([(a, .inr (4, [.null]))] : va_W) ++ ([(q_1, .inl (cI, 7, .inl (fun _ => nI 0)))] : va_W)) := hD
  refine va_putF (D := D) (ci := 4) (v := .ref q_1) (ty := (.array .int)) (C := RX4) (T := TX4) (N := 1) hx hb hts tu_X4 tyX4 tyX4_ok nmX4 hown hSt.1 hP hD hS 0 rfl rfl 0 (by decide) (hts _ t1_131) (fun _ h9 => h9) rfl hin rfl (by decide +kernel) rfl rfl (Nat.le_of_ble_eq_true rfl) dX4_init_9 (fun H locs hP hD hS => ?_)
  have hP : va_P D vwCl (([(a, .inr (4, [.ref q_1]))] : va_W) ++ ([(q_1, .inl (cI, 7, .inl (fun _ => nI 0)))] : va_W)) H := hP
  have hD : va_D A (([(a, .inr (4, [.ref q_1]))] : va_W) ++ ([(q_1, .inl (cI, 7, .inl (fun _ => nI 0)))] : va_W)) := hD
  refine lv_aload_n hx hb dX4_init_12 rfl (lv_at hl 0 rfl) ?_
  refine va_get (D := D) (ci := 4) (v := .ref q_1) (C := RX4) (T := TX4) (N := 1) hx hb hts tu_X4 hown hSt.1 hP 0 rfl rfl 0 (by decide) (hts _ t1_131) (fun _ h9 => h9) rfl dX4_init_13 ?_
  refine lv_iconst (v := (-1 : Int32)) hx hb dX4_init_16 (by decide) ?_
  refine rw_v (wr := ([(a, .inr (4, [.ref q_1]))] : va_W)) (w_SX (As := [.ref q_1, .int (-1 : Int32)]) ⟨hx, hb, hml, hown, hts⟩ (c_J7_fill_53178 l D cI cZ cQ cJ q_1 7 (fun _ => nI 0) (-1 : Int32) H.size (by first | assumption | omega)) (gSX t1_128 t1_129 t1_6 t1_130) rfl rfl hd_J7_fill_53178 ⟨Nat.le_of_ble_eq_true rfl, Nat.le_of_ble_eq_true rfl⟩ (rw_pre hP hD hSt [1] rfl (by decide)) rfl hl.1 (rest := []) rfl (Nat.le_of_ble_eq_true rfl) dX4_init_17 ⟨Nat.le_of_ble_eq_true rfl, Nat.le_of_ble_eq_true rfl⟩) hP hD hS hA [1] [0] rfl rfl (by decide) (by decide) (fun  u_2 H locs hw hP hD hS => ?_)
  have hP : va_P D vwCl (([(a, .inr (4, [.ref q_1]))] : va_W) ++ ([(q_1, .inl (cI, 7, .inl (fun _ => (-1 : Int32))))] : va_W)) H := hP.sub (ws' := ([(a, .inr (4, [.ref q_1]))] : va_W) ++ ([(q_1, .inl (cI, 7, .inl (fun _ => (-1 : Int32))))] : va_W)) [0, 1] rfl
  have hD : va_D A (([(a, .inr (4, [.ref q_1]))] : va_W) ++ ([(q_1, .inl (cI, 7, .inl (fun _ => (-1 : Int32))))] : va_W)) := hD.sub (ws' := ([(a, .inr (4, [.ref q_1]))] : va_W) ++ ([(q_1, .inl (cI, 7, .inl (fun _ => (-1 : Int32))))] : va_W)) [0, 1] (by decide) rfl
  have hP9 : va_P D vwCl (wPl a q_1 cI (fun _ => (-1 : Int32))) H := (show va_P D vwCl (wPl a q_1 cI (fun _ => (-1 : Int32))) H from hP)
  have hD9 : va_D A (wPl a q_1 cI (fun _ => (-1 : Int32))) := (show va_D A (wPl a q_1 cI (fun _ => (-1 : Int32))) from hD)
  refine W.widen (k := 1) (n := 7) (by omega) (by omega) ?_
  exact W.vret hx hb hr (fun t9 ht9 hW9 => ⟨⟨(q_1), rfl, trivial, by rw [ht9]; exact hP9, hD9⟩, hS.F ht9⟩) hS.2.2 dX4_init_20
set_option maxHeartbeats 4000000 in
set_option maxRecDepth 100000 in
/-- Change() -/
theorem c_X0_init (l : Launch) (D : va_G) (cI cZ cQ cJ : ClassId) (a : Nat) (sz : Nat)  : Met l yX0_init (.code yX0_init cX0_init 1 none :: ALL) ({ frames := 1, cells := 0, slots := 0, locals := 16 } : Room) (va_Pc [.ref a] (rw_P D cI cZ cQ cJ ([(a, .inr (0, [.int (nI 0), .int (nI 0), .int (nI 0), .int (nI 0), .int (nI 0)]))] : va_W) sz)) (va_Qv (fun u9 : Unit => True) (rw_B D (va_A ([(a, .inr (0, [.int (nI 0), .int (nI 0), .int (nI 0), .int (nI 0), .int (nI 0)]))] : va_W) sz) (fun u9 : Unit => wCh a (nI 0) (nI 0) (-1 : Int32) (nI 0) (nI 0))) (va_A ([(a, .inr (0, [.int (nI 0), .int (nI 0), .int (nI 0), .int (nI 0), .int (nI 0)]))] : va_W) sz)) 0 0 (va_A ([(a, .inr (0, [.int (nI 0), .int (nI 0), .int (nI 0), .int (nI 0), .int (nI 0)]))] : va_W) sz) := by
  refine Met.ofW (cc := cX0_init) (maxL := 1) (ret := none) (by decide) rfl ?_
  intro p e s m args below meth c s₁ B hml hv
  obtain ⟨rfl, hsz, hP, hSt, hD0⟩ := hv
  have hx := B.exec
  have hb := B.bytes
  have hr := B.returns
  have hts : ∀ w ∈ ALL, w.before ([.ref a] : List Value).toArray s = true := fun w h => atoms_spec (ws := (.code yX0_init cX0_init 1 none :: ALL)) B.pre w (List.mem_cons_of_mem _ h)
  have hown : s.vm.findClass RX0 = some m.cls := findClass_of_methodNamed B.named
  have hlocks := B.notSynchronized
  have hin : meth.name = "<init>" := (name_of_methodNamed B.named B.method).1
  subst hsz
  have hD := hD0.self (sz := s.heap.size)
  clear hD0
  generalize hAe : va_A ([(a, .inr (0, [.int (nI 0), .int (nI 0), .int (nI 0), .int (nI 0), .int (nI 0)]))] : va_W) s.heap.size = A at hD ⊢
  have hA : ∀ q : Nat, s.heap.size ≤ q → A q := fun q h => by rw [← hAe]; exact Or.inr h
  have hS : va_S A s.heap s.heap [] := va_S.rf
  have hl := lv_entry ([.ref a]) (n := 1) (Nat.le_of_ble_eq_true rfl)
  rw [lg_entry_eq]
  generalize (lg_sl ([.ref a]) ++ List.replicate (1 - (lg_sl ([.ref a])).length) Slot.unset).toArray = ls at hl ⊢
  have hl : lv_has ls 1 [(0, .ref a)] := hl
  obtain ⟨H, hHe⟩ : ∃ H : Heap, H = s.heap := ⟨_, rfl⟩
  obtain ⟨locs, hLe⟩ : ∃ L : List Loc, L = [] := ⟨_, rfl⟩
  have hP : va_P D vwCl ([(a, .inr (0, [.int (nI 0), .int (nI 0), .int (nI 0), .int (nI 0), .int (nI 0)]))] : va_W) H := by rw [hHe]; exact hP
  have hS : va_S A s.heap H locs := by rw [hHe, hLe]; exact hS
  refine W.eqHL hHe hLe ?_
  refine lv_aload_n hx hb dX0_init_0 rfl (lv_at hl 0 rfl) ?_
  refine W.objInit hx hb hown (hts _ t1_173) (hts _ t1_25) (hts _ t1_26) rfl (by rw [hml]; exact hl.1) rfl dX0_init_1 (Nat.le_of_ble_eq_true rfl) (Nat.le_of_ble_eq_true rfl) ?_
  refine W.eq (g2 := F0 m 4 ls []) rfl ?_
  refine lv_aload_n hx hb dX0_init_4 rfl (lv_at hl 0 rfl) ?_
  refine lv_iconst (v := nI 0) hx hb dX0_init_5 (by decide) ?_
  refine va_put (D := D) (ci := 0) (v := .int (nI 0)) (ty := .boolean) (C := RX0) (T := TX0) (N := 5) hx hb hts tu_X0 tyX0 tyX0_ok nmX0 hown hSt.1 hP hD hS 0 rfl rfl 0 (by decide) (hts _ t1_174) (fun _ h9 => h9) rfl (by decide +kernel) rfl rfl (Nat.le_of_ble_eq_true rfl) dX0_init_6 (fun H locs hP hD hS => ?_)
  have hP : va_P D vwCl ([(a, .inr (0, [.int (nI 0), .int (nI 0), .int (nI 0), .int (nI 0), .int (nI 0)]))] : va_W) H := hP
  have hD : va_D A ([(a, .inr (0, [.int (nI 0), .int (nI 0), .int (nI 0), .int (nI 0), .int (nI 0)]))] : va_W) := hD
  refine lv_aload_n hx hb dX0_init_9 rfl (lv_at hl 0 rfl) ?_
  refine lv_iconst (v := nI 0) hx hb dX0_init_10 (by decide) ?_
  refine va_put (D := D) (ci := 0) (v := .int (nI 0)) (ty := .int) (C := RX0) (T := TX0) (N := 5) hx hb hts tu_X0 tyX0 tyX0_ok nmX0 hown hSt.1 hP hD hS 0 rfl rfl 1 (by decide) (hts _ t1_176) (fun _ h9 => h9) rfl (by decide +kernel) rfl rfl (Nat.le_of_ble_eq_true rfl) dX0_init_11 (fun H locs hP hD hS => ?_)
  have hP : va_P D vwCl ([(a, .inr (0, [.int (nI 0), .int (nI 0), .int (nI 0), .int (nI 0), .int (nI 0)]))] : va_W) H := hP
  have hD : va_D A ([(a, .inr (0, [.int (nI 0), .int (nI 0), .int (nI 0), .int (nI 0), .int (nI 0)]))] : va_W) := hD
  refine lv_aload_n hx hb dX0_init_14 rfl (lv_at hl 0 rfl) ?_
  refine lv_iconst (v := (-1 : Int32)) hx hb dX0_init_15 (by decide) ?_
  refine va_put (D := D) (ci := 0) (v := .int (-1 : Int32)) (ty := .int) (C := RX0) (T := TX0) (N := 5) hx hb hts tu_X0 tyX0 tyX0_ok nmX0 hown hSt.1 hP hD hS 0 rfl rfl 2 (by decide) (hts _ t1_178) (fun _ h9 => h9) rfl (by decide +kernel) rfl rfl (Nat.le_of_ble_eq_true rfl) dX0_init_16 (fun H locs hP hD hS => ?_)
  have hP : va_P D vwCl ([(a, .inr (0, [.int (nI 0), .int (nI 0), .int (-1 : Int32), .int (nI 0), .int (nI 0)]))] : va_W) H := hP
  have hD : va_D A ([(a, .inr (0, [.int (nI 0), .int (nI 0), .int (-1 : Int32), .int (nI 0), .int (nI 0)]))] : va_W) := hD
  refine lv_aload_n hx hb dX0_init_19 rfl (lv_at hl 0 rfl) ?_
  refine lv_iconst (v := nI 0) hx hb dX0_init_20 (by decide) ?_
  refine va_put (D := D) (ci := 0) (v := .int (nI 0)) (ty := .int) (C := RX0) (T := TX0) (N := 5) hx hb hts tu_X0 tyX0 tyX0_ok nmX0 hown hSt.1 hP hD hS 0 rfl rfl 3 (by decide) (hts _ t1_180) (fun _ h9 => h9) rfl (by decide +kernel) rfl rfl (Nat.le_of_ble_eq_true rfl) dX0_init_21 (fun H locs hP hD hS => ?_)
  have hP : va_P D vwCl ([(a, .inr (0, [.int (nI 0), .int (nI 0), .int (-1 : Int32), .int (nI 0), .int (nI 0)]))] : va_W) H := hP
  have hD : va_D A ([(a, .inr (0, [.int (nI 0), .int (nI 0), .int (-1 : Int32), .int (nI 0), .int (nI 0)]))] : va_W) := hD
  refine lv_aload_n hx hb dX0_init_24 rfl (lv_at hl 0 rfl) ?_
  refine lv_iconst (v := nI 0) hx hb dX0_init_25 (by decide) ?_
  refine va_put (D := D) (ci := 0) (v := .int (nI 0)) (ty := .int) (C := RX0) (T := TX0) (N := 5) hx hb hts tu_X0 tyX0 tyX0_ok nmX0 hown hSt.1 hP hD hS 0 rfl rfl 4 (by decide) (hts _ t1_182) (fun _ h9 => h9) rfl (by decide +kernel) rfl rfl (Nat.le_of_ble_eq_true rfl) dX0_init_26 (fun H locs hP hD hS => ?_)
  have hP : va_P D vwCl ([(a, .inr (0, [.int (nI 0), .int (nI 0), .int (-1 : Int32), .int (nI 0), .int (nI 0)]))] : va_W) H := hP
  have hD : va_D A ([(a, .inr (0, [.int (nI 0), .int (nI 0), .int (-1 : Int32), .int (nI 0), .int (nI 0)]))] : va_W) := hD
  have hP9 : va_P D vwCl (wCh a (nI 0) (nI 0) (-1 : Int32) (nI 0) (nI 0)) H := (show va_P D vwCl (wCh a (nI 0) (nI 0) (-1 : Int32) (nI 0) (nI 0)) H from hP)
  have hD9 : va_D A (wCh a (nI 0) (nI 0) (-1 : Int32) (nI 0) (nI 0)) := (show va_D A (wCh a (nI 0) (nI 0) (-1 : Int32) (nI 0) (nI 0)) from hD)
  exact W.vret hx hb hr (fun t9 ht9 hW9 => ⟨⟨(), rfl, trivial, by rw [ht9]; exact hP9, hD9⟩, hS.F ht9⟩) hS.2.2 dX0_init_29
set_option maxHeartbeats 4000000 in
set_option maxRecDepth 100000 in
/-- Floor() -/
theorem c_X1_init (l : Launch) (D : va_G) (cI cZ cQ cJ : ClassId) (a : Nat) (sz : Nat)  : Met l yX1_init (.code yX1_init cX1_init 1 none :: ALL) ({ frames := 1, cells := 13, slots := 262, locals := 16 } : Room) (va_Pc [.ref a] (rw_P D cI cZ cQ cJ ([(a, .inr (1, [.null, .null, .null, .null, .null, .null, .int (nI 0), .int (nI 0)]))] : va_W) sz)) (va_Qv (fun u9 : (Nat → Nat) × (Nat → Nat) => u9.1 0 = a) (rw_B D (va_A ([(a, .inr (1, [.null, .null, .null, .null, .null, .null, .int (nI 0), .int (nI 0)]))] : va_W) sz) (fun u9 : (Nat → Nat) × (Nat → Nat) => wFl u9.1 u9.2 cI cZ cQ (fun _ => nI 0) (fun _ => nI 0) (fun _ => nI 0) (fun _ _ => nI 0) (fun _ => nI 0) (fun _ => nI 0) (nI 0) (nI 0))) (va_A ([(a, .inr (1, [.null, .null, .null, .null, .null, .null, .int (nI 0), .int (nI 0)]))] : va_W) sz)) 13 262 (va_A ([(a, .inr (1, [.null, .null, .null, .null, .null, .null, .int (nI 0), .int (nI 0)]))] : va_W) sz) := by
  refine Met.ofW (cc := cX1_init) (maxL := 1) (ret := none) (by decide) rfl ?_
  intro p e s m args below meth c s₁ B hml hv
  obtain ⟨rfl, hsz, hP, hSt, hD0⟩ := hv
  have hx := B.exec
  have hb := B.bytes
  have hr := B.returns
  have hts : ∀ w ∈ ALL, w.before ([.ref a] : List Value).toArray s = true := fun w h => atoms_spec (ws := (.code yX1_init cX1_init 1 none :: ALL)) B.pre w (List.mem_cons_of_mem _ h)
  have hown : s.vm.findClass RX1 = some m.cls := findClass_of_methodNamed B.named
  have hlocks := B.notSynchronized
  have hin : meth.name = "<init>" := (name_of_methodNamed B.named B.method).1
  subst hsz
  have hD := hD0.self (sz := s.heap.size)
  clear hD0
  generalize hAe : va_A ([(a, .inr (1, [.null, .null, .null, .null, .null, .null, .int (nI 0), .int (nI 0)]))] : va_W) s.heap.size = A at hD ⊢
  have hA : ∀ q : Nat, s.heap.size ≤ q → A q := fun q h => by rw [← hAe]; exact Or.inr h
  have hS : va_S A s.heap s.heap [] := va_S.rf
  have hl := lv_entry ([.ref a]) (n := 1) (Nat.le_of_ble_eq_true rfl)
  rw [lg_entry_eq]
  generalize (lg_sl ([.ref a]) ++ List.replicate (1 - (lg_sl ([.ref a])).length) Slot.unset).toArray = ls at hl ⊢
  have hl : lv_has ls 1 [(0, .ref a)] := hl
  obtain ⟨H, hHe⟩ : ∃ H : Heap, H = s.heap := ⟨_, rfl⟩
  obtain ⟨locs, hLe⟩ : ∃ L : List Loc, L = [] := ⟨_, rfl⟩
  have hP : va_P D vwCl ([(a, .inr (1, [.null, .null, .null, .null, .null, .null, .int (nI 0), .int (nI 0)]))] : va_W) H := by rw [hHe]; exact hP
  have hS : va_S A s.heap H locs := by rw [hHe, hLe]; exact hS
  refine W.eqHL hHe hLe ?_
  refine lv_aload_n hx hb dX1_init_0 rfl (lv_at hl 0 rfl) ?_
  refine W.objInit hx hb hown (hts _ t1_38) (hts _ t1_25) (hts _ t1_26) rfl (by rw [hml]; exact hl.1) rfl dX1_init_1 (Nat.le_of_ble_eq_true rfl) (Nat.le_of_ble_eq_true rfl) ?_
  refine W.eq (g2 := F0 m 4 ls []) rfl ?_
  refine lv_aload_n hx hb dX1_init_4 rfl (lv_at hl 0 rfl) ?_
  refine lv_bipush (v := nI 64) hx hb dX1_init_5 (by decide) ?_
  refine r_newZ hx hb (hts _ t1_73) hSt hP hD hS hA (N := 64) (by omega) (Nat.le_of_ble_eq_true rfl) (Nat.le_of_ble_eq_true rfl) dX1_init_7 (fun q_1 H hP hD hS => ?_)
  have hP : va_P D vwCl (([(a, .inr (1, [.null, .null, .null, .null, .null, .null, .int (nI 0), .int (nI 0)]))] : va_W) ++ ([(q_1, .inl (cZ, 64, .inl (fun _ => nI 0)))] : va_W)) H := hP
  have hD : va_D A (([(a, .inr (1, [.null, .null, .null, .null, .null, .null, .int (nI 0), .int (nI 0)]))] : va_W) ++ ([(q_1, .inl (cZ, 64, .inl (fun _ => nI 0)))] : va_W)) := hD
  refine va_putF (D := D) (ci := 1) (v := .ref q_1) (ty := (.array .boolean)) (C := RX1) (T := TX1) (N := 8) hx hb hts tu_X1 tyX1 tyX1_ok nmX1 hown hSt.1 hP hD hS 0 rfl rfl 0 (by decide) (hts _ t1_41) (fun _ h9 => h9) rfl hin rfl (by decide +kernel) rfl rfl (Nat.le_of_ble_eq_true rfl) dX1_init_9 (fun H locs hP hD hS => ?_)
  have hP : va_P D vwCl (([(a, .inr (1, [.ref q_1, .null, .null, .null, .null, .null, .int (nI 0), .int (nI 0)]))] : va_W) ++ ([(q_1, .inl (cZ, 64, .inl (fun _ => nI 0)))] : va_W)) H := hP
  have hD : va_D A (([(a, .inr (1, [.ref q_1, .null, .null, .null, .null, .null, .int (nI 0), .int (nI 0)]))] : va_W) ++ ([(q_1, .inl (cZ, 64, .inl (fun _ => nI 0)))] : va_W)) := hD
  refine lv_aload_n hx hb dX1_init_12 rfl (lv_at hl 0 rfl) ?_
  refine lv_bipush (v := nI 7) hx hb dX1_init_13 (by decide) ?_
  refine r_newI hx hb (hts _ t1_74) hSt hP hD hS hA (N := 7) (by omega) (Nat.le_of_ble_eq_true rfl) (Nat.le_of_ble_eq_true rfl) dX1_init_15 (fun q_2 H hP hD hS => ?_)
  have hP : va_P D vwCl ((([(a, .inr (1, [.ref q_1, .null, .null, .null, .null, .null, .int (nI 0), .int (nI 0)]))] : va_W) ++ ([(q_1, .inl (cZ, 64, .inl (fun _ => nI 0)))] : va_W)) ++ ([(q_2, .inl (cI, 7, .inl (fun _ => nI 0)))] : va_W)) H := hP
  have hD : va_D A ((([(a, .inr (1, [.ref q_1, .null, .null, .null, .null, .null, .int (nI 0), .int (nI 0)]))] : va_W) ++ ([(q_1, .inl (cZ, 64, .inl (fun _ => nI 0)))] : va_W)) ++ ([(q_2, .inl (cI, 7, .inl (fun _ => nI 0)))] : va_W)) := hD
  refine va_putF (D := D) (ci := 1) (v := .ref q_2) (ty := (.array .int)) (C := RX1) (T := TX1) (N := 8) hx hb hts tu_X1 tyX1 tyX1_ok nmX1 hown hSt.1 hP hD hS 0 rfl rfl 1 (by decide) (hts _ t1_42) (fun _ h9 => h9) rfl hin rfl (by decide +kernel) rfl rfl (Nat.le_of_ble_eq_true rfl) dX1_init_17 (fun H locs hP hD hS => ?_)
  have hP : va_P D vwCl ((([(a, .inr (1, [.ref q_1, .ref q_2, .null, .null, .null, .null, .int (nI 0), .int (nI 0)]))] : va_W) ++ ([(q_1, .inl (cZ, 64, .inl (fun _ => nI 0)))] : va_W)) ++ ([(q_2, .inl (cI, 7, .inl (fun _ => nI 0)))] : va_W)) H := hP
  have hD : va_D A ((([(a, .inr (1, [.ref q_1, .ref q_2, .null, .null, .null, .null, .int (nI 0), .int (nI 0)]))] : va_W) ++ ([(q_1, .inl (cZ, 64, .inl (fun _ => nI 0)))] : va_W)) ++ ([(q_2, .inl (cI, 7, .inl (fun _ => nI 0)))] : va_W)) := hD
  refine lv_aload_n hx hb dX1_init_20 rfl (lv_at hl 0 rfl) ?_
  refine lv_bipush (v := nI 7) hx hb dX1_init_21 (by decide) ?_
  refine r_newI hx hb (hts _ t1_74) hSt hP hD hS hA (N := 7) (by omega) (Nat.le_of_ble_eq_true rfl) (Nat.le_of_ble_eq_true rfl) dX1_init_23 (fun q_3 H hP hD hS => ?_)
  have hP : va_P D vwCl (((([(a, .inr (1, [.ref q_1, .ref q_2, .null, .null, .null, .null, .int (nI 0), .int (nI 0)]))] : va_W) ++ ([(q_1, .inl (cZ, 64, .inl (fun _ => nI 0)))] : va_W)) ++ ([(q_2, .inl (cI, 7, .inl (fun _ => nI 0)))] : va_W)) ++ ([(q_3, .inl (cI, 7, .inl (fun _ => nI 0)))] : va_W)) H := hP
  have hD : va_D A (((([(a, .inr (1, [.ref q_1, .ref q_2, .null, .null, .null, .null, .int (nI 0), .int (nI 0)]))] : va_W) ++ ([(q_1, .inl (cZ, 64, .inl (fun _ => nI 0)))] : va_W)) ++ ([(q_2, .inl (cI, 7, .inl (fun _ => nI 0)))] : va_W)) ++ ([(q_3, .inl (cI, 7, .inl (fun _ => nI 0)))] : va_W)) := hD
  refine va_putF (D := D) (ci := 1) (v := .ref q_3) (ty := (.array .int)) (C := RX1) (T := TX1) (N := 8) hx hb hts tu_X1 tyX1 tyX1_ok nmX1 hown hSt.1 hP hD hS 0 rfl rfl 2 (by decide) (hts _ t1_43) (fun _ h9 => h9) rfl hin rfl (by decide +kernel) rfl rfl (Nat.le_of_ble_eq_true rfl) dX1_init_25 (fun H locs hP hD hS => ?_)
  have hP : va_P D vwCl (((([(a, .inr (1, [.ref q_1, .ref q_2, .ref q_3, .null, .null, .null, .int (nI 0), .int (nI 0)]))] : va_W) ++ ([(q_1, .inl (cZ, 64, .inl (fun _ => nI 0)))] : va_W)) ++ ([(q_2, .inl (cI, 7, .inl (fun _ => nI 0)))] : va_W)) ++ ([(q_3, .inl (cI, 7, .inl (fun _ => nI 0)))] : va_W)) H := hP
  have hD : va_D A (((([(a, .inr (1, [.ref q_1, .ref q_2, .ref q_3, .null, .null, .null, .int (nI 0), .int (nI 0)]))] : va_W) ++ ([(q_1, .inl (cZ, 64, .inl (fun _ => nI 0)))] : va_W)) ++ ([(q_2, .inl (cI, 7, .inl (fun _ => nI 0)))] : va_W)) ++ ([(q_3, .inl (cI, 7, .inl (fun _ => nI 0)))] : va_W)) := hD
  refine lv_aload_n hx hb dX1_init_28 rfl (lv_at hl 0 rfl) ?_
  refine lv_bipush (v := nI 7) hx hb dX1_init_29 (by decide) ?_
  refine lv_bipush (v := nI 7) hx hb dX1_init_31 (by decide) ?_
  refine r_mna hx hb hown (hts _ t1_39) (hts _ t1_74) hSt hP hD hS hA (M := 7) (by omega) (Nat.le_of_ble_eq_true rfl) (Nat.le_of_ble_eq_true rfl) dX1_init_33 (fun q_4 r_5 H hP hD hS => ?_)
  have hP : va_P D vwCl (((((([(a, .inr (1, [.ref q_1, .ref q_2, .ref q_3, .null, .null, .null, .int (nI 0), .int (nI 0)]))] : va_W) ++ ([(q_1, .inl (cZ, 64, .inl (fun _ => nI 0)))] : va_W)) ++ ([(q_2, .inl (cI, 7, .inl (fun _ => nI 0)))] : va_W)) ++ ([(q_3, .inl (cI, 7, .inl (fun _ => nI 0)))] : va_W)) ++ ([rq q_4 cQ r_5] : va_W)) ++ (rb r_5 cI 7 (fun _ _ => nI 0) 7)) H := hP
  have hD : va_D A (((((([(a, .inr (1, [.ref q_1, .ref q_2, .ref q_3, .null, .null, .null, .int (nI 0), .int (nI 0)]))] : va_W) ++ ([(q_1, .inl (cZ, 64, .inl (fun _ => nI 0)))] : va_W)) ++ ([(q_2, .inl (cI, 7, .inl (fun _ => nI 0)))] : va_W)) ++ ([(q_3, .inl (cI, 7, .inl (fun _ => nI 0)))] : va_W)) ++ ([rq q_4 cQ r_5] : va_W)) ++ (rb r_5 cI 7 (fun _ _ => nI 0) 7)) := hD
  refine va_putF (D := D) (ci := 1) (v := .ref q_4) (ty := (.array (.array .int))) (C := RX1) (T := TX1) (N := 8) hx hb hts tu_X1 tyX1 tyX1_ok nmX1 hown hSt.1 hP hD hS 0 rfl rfl 3 (by decide) (hts _ t1_46) (fun _ h9 => h9) rfl hin rfl (by decide +kernel) rfl rfl (Nat.le_of_ble_eq_true rfl) dX1_init_37 (fun H locs hP hD hS => ?_)
  have hP : va_P D vwCl (((((([(a, .inr (1, [.ref q_1, .ref q_2, .ref q_3, .ref q_4, .null, .null, .int (nI 0), .int (nI 0)]))] : va_W) ++ ([(q_1, .inl (cZ, 64, .inl (fun _ => nI 0)))] : va_W)) ++ ([(q_2, .inl (cI, 7, .inl (fun _ => nI 0)))] : va_W)) ++ ([(q_3, .inl (cI, 7, .inl (fun _ => nI 0)))] : va_W)) ++ ([rq q_4 cQ r_5] : va_W)) ++ (rb r_5 cI 7 (fun _ _ => nI 0) 7)) H := hP
  have hD : va_D A (((((([(a, .inr (1, [.ref q_1, .ref q_2, .ref q_3, .ref q_4, .null, .null, .int (nI 0), .int (nI 0)]))] : va_W) ++ ([(q_1, .inl (cZ, 64, .inl (fun _ => nI 0)))] : va_W)) ++ ([(q_2, .inl (cI, 7, .inl (fun _ => nI 0)))] : va_W)) ++ ([(q_3, .inl (cI, 7, .inl (fun _ => nI 0)))] : va_W)) ++ ([rq q_4 cQ r_5] : va_W)) ++ (rb r_5 cI 7 (fun _ _ => nI 0) 7)) := hD
  refine lv_aload_n hx hb dX1_init_40 rfl (lv_at hl 0 rfl) ?_
  refine lv_bipush (v := nI 64) hx hb dX1_init_41 (by decide) ?_
  refine r_newI hx hb (hts _ t1_74) hSt hP hD hS hA (N := 64) (by omega) (Nat.le_of_ble_eq_true rfl) (Nat.le_of_ble_eq_true rfl) dX1_init_43 (fun q_6 H hP hD hS => ?_)
  have hP : va_P D vwCl ((((((([(a, .inr (1, [.ref q_1, .ref q_2, .ref q_3, .ref q_4, .null, .null, .int (nI 0), .int (nI 0)]))] : va_W) ++ ([(q_1, .inl (cZ, 64, .inl (fun _ => nI 0)))] : va_W)) ++ ([(q_2, .inl (cI, 7, .inl (fun _ => nI 0)))] : va_W)) ++ ([(q_3, .inl (cI, 7, .inl (fun _ => nI 0)))] : va_W)) ++ ([rq q_4 cQ r_5] : va_W)) ++ (rb r_5 cI 7 (fun _ _ => nI 0) 7)) ++ ([(q_6, .inl (cI, 64, .inl (fun _ => nI 0)))] : va_W)) H := hP
  have hD : va_D A ((((((([(a, .inr (1, [.ref q_1, .ref q_2, .ref q_3, .ref q_4, .null, .null, .int (nI 0), .int (nI 0)]))] : va_W) ++ ([(q_1, .inl (cZ, 64, .inl (fun _ => nI 0)))] : va_W)) ++ ([(q_2, .inl (cI, 7, .inl (fun _ => nI 0)))] : va_W)) ++ ([(q_3, .inl (cI, 7, .inl (fun _ => nI 0)))] : va_W)) ++ ([rq q_4 cQ r_5] : va_W)) ++ (rb r_5 cI 7 (fun _ _ => nI 0) 7)) ++ ([(q_6, .inl (cI, 64, .inl (fun _ => nI 0)))] : va_W)) := hD
  refine va_putF (D := D) (ci := 1) (v := .ref q_6) (ty := (.array .int)) (C := RX1) (T := TX1) (N := 8) hx hb hts tu_X1 tyX1 tyX1_ok nmX1 hown hSt.1 hP hD hS 0 rfl rfl 4 (by decide) (hts _ t1_49) (fun _ h9 => h9) rfl hin rfl (by decide +kernel) rfl rfl (Nat.le_of_ble_eq_true rfl) dX1_init_45 (fun H locs hP hD hS => ?_)
  have hP : va_P D vwCl ((((((([(a, .inr (1, [.ref q_1, .ref q_2, .ref q_3, .ref q_4, .ref q_6, .null, .int (nI 0), .int (nI 0)]))] : va_W) ++ ([(q_1, .inl (cZ, 64, .inl (fun _ => nI 0)))] : va_W)) ++ ([(q_2, .inl (cI, 7, .inl (fun _ => nI 0)))] : va_W)) ++ ([(q_3, .inl (cI, 7, .inl (fun _ => nI 0)))] : va_W)) ++ ([rq q_4 cQ r_5] : va_W)) ++ (rb r_5 cI 7 (fun _ _ => nI 0) 7)) ++ ([(q_6, .inl (cI, 64, .inl (fun _ => nI 0)))] : va_W)) H := hP
  have hD : va_D A ((((((([(a, .inr (1, [.ref q_1, .ref q_2, .ref q_3, .ref q_4, .ref q_6, .null, .int (nI 0), .int (nI 0)]))] : va_W) ++ ([(q_1, .inl (cZ, 64, .inl (fun _ => nI 0)))] : va_W)) ++ ([(q_2, .inl (cI, 7, .inl (fun _ => nI 0)))] : va_W)) ++ ([(q_3, .inl (cI, 7, .inl (fun _ => nI 0)))] : va_W)) ++ ([rq q_4 cQ r_5] : va_W)) ++ (rb r_5 cI 7 (fun _ _ => nI 0) 7)) ++ ([(q_6, .inl (cI, 64, .inl (fun _ => nI 0)))] : va_W)) := hD
  refine lv_aload_n hx hb dX1_init_48 rfl (lv_at hl 0 rfl) ?_
  refine lv_bipush (v := nI 64) hx hb dX1_init_49 (by decide) ?_
  refine r_newI hx hb (hts _ t1_74) hSt hP hD hS hA (N := 64) (by omega) (Nat.le_of_ble_eq_true rfl) (Nat.le_of_ble_eq_true rfl) dX1_init_51 (fun q_7 H hP hD hS => ?_)
  have hP : va_P D vwCl (((((((([(a, .inr (1, [.ref q_1, .ref q_2, .ref q_3, .ref q_4, .ref q_6, .null, .int (nI 0), .int (nI 0)]))] : va_W) ++ ([(q_1, .inl (cZ, 64, .inl (fun _ => nI 0)))] : va_W)) ++ ([(q_2, .inl (cI, 7, .inl (fun _ => nI 0)))] : va_W)) ++ ([(q_3, .inl (cI, 7, .inl (fun _ => nI 0)))] : va_W)) ++ ([rq q_4 cQ r_5] : va_W)) ++ (rb r_5 cI 7 (fun _ _ => nI 0) 7)) ++ ([(q_6, .inl (cI, 64, .inl (fun _ => nI 0)))] : va_W)) ++ ([(q_7, .inl (cI, 64, .inl (fun _ => nI 0)))] : va_W)) H := hP
  have hD : va_D A (((((((([(a, .inr (1, [.ref q_1, .ref q_2, .ref q_3, .ref q_4, .ref q_6, .null, .int (nI 0), .int (nI 0)]))] : va_W) ++ ([(q_1, .inl (cZ, 64, .inl (fun _ => nI 0)))] : va_W)) ++ ([(q_2, .inl (cI, 7, .inl (fun _ => nI 0)))] : va_W)) ++ ([(q_3, .inl (cI, 7, .inl (fun _ => nI 0)))] : va_W)) ++ ([rq q_4 cQ r_5] : va_W)) ++ (rb r_5 cI 7 (fun _ _ => nI 0) 7)) ++ ([(q_6, .inl (cI, 64, .inl (fun _ => nI 0)))] : va_W)) ++ ([(q_7, .inl (cI, 64, .inl (fun _ => nI 0)))] : va_W)) := hD
  refine va_putF (D := D) (ci := 1) (v := .ref q_7) (ty := (.array .int)) (C := RX1) (T := TX1) (N := 8) hx hb hts tu_X1 tyX1 tyX1_ok nmX1 hown hSt.1 hP hD hS 0 rfl rfl 5 (by decide) (hts _ t1_50) (fun _ h9 => h9) rfl hin rfl (by decide +kernel) rfl rfl (Nat.le_of_ble_eq_true rfl) dX1_init_53 (fun H locs hP hD hS => ?_)
  have hP : va_P D vwCl (((((((([(a, .inr (1, [.ref q_1, .ref q_2, .ref q_3, .ref q_4, .ref q_6, .ref q_7, .int (nI 0), .int (nI 0)]))] : va_W) ++ ([(q_1, .inl (cZ, 64, .inl (fun _ => nI 0)))] : va_W)) ++ ([(q_2, .inl (cI, 7, .inl (fun _ => nI 0)))] : va_W)) ++ ([(q_3, .inl (cI, 7, .inl (fun _ => nI 0)))] : va_W)) ++ ([rq q_4 cQ r_5] : va_W)) ++ (rb r_5 cI 7 (fun _ _ => nI 0) 7)) ++ ([(q_6, .inl (cI, 64, .inl (fun _ => nI 0)))] : va_W)) ++ ([(q_7, .inl (cI, 64, .inl (fun _ => nI 0)))] : va_W)) H := hP
  have hD : va_D A (((((((([(a, .inr (1, [.ref q_1, .ref q_2, .ref q_3, .ref q_4, .ref q_6, .ref q_7, .int (nI 0), .int (nI 0)]))] : va_W) ++ ([(q_1, .inl (cZ, 64, .inl (fun _ => nI 0)))] : va_W)) ++ ([(q_2, .inl (cI, 7, .inl (fun _ => nI 0)))] : va_W)) ++ ([(q_3, .inl (cI, 7, .inl (fun _ => nI 0)))] : va_W)) ++ ([rq q_4 cQ r_5] : va_W)) ++ (rb r_5 cI 7 (fun _ _ => nI 0) 7)) ++ ([(q_6, .inl (cI, 64, .inl (fun _ => nI 0)))] : va_W)) ++ ([(q_7, .inl (cI, 64, .inl (fun _ => nI 0)))] : va_W)) := hD
  refine lv_aload_n hx hb dX1_init_56 rfl (lv_at hl 0 rfl) ?_
  refine lv_iconst (v := nI 0) hx hb dX1_init_57 (by decide) ?_
  refine va_put (D := D) (ci := 1) (v := .int (nI 0)) (ty := .int) (C := RX1) (T := TX1) (N := 8) hx hb hts tu_X1 tyX1 tyX1_ok nmX1 hown hSt.1 hP hD hS 0 rfl rfl 6 (by decide) (hts _ t1_51) (fun _ h9 => h9) rfl (by decide +kernel) rfl rfl (Nat.le_of_ble_eq_true rfl) dX1_init_58 (fun H locs hP hD hS => ?_)
  have hP : va_P D vwCl (((((((([(a, .inr (1, [.ref q_1, .ref q_2, .ref q_3, .ref q_4, .ref q_6, .ref q_7, .int (nI 0), .int (nI 0)]))] : va_W) ++ ([(q_1, .inl (cZ, 64, .inl (fun _ => nI 0)))] : va_W)) ++ ([(q_2, .inl (cI, 7, .inl (fun _ => nI 0)))] : va_W)) ++ ([(q_3, .inl (cI, 7, .inl (fun _ => nI 0)))] : va_W)) ++ ([rq q_4 cQ r_5] : va_W)) ++ (rb r_5 cI 7 (fun _ _ => nI 0) 7)) ++ ([(q_6, .inl (cI, 64, .inl (fun _ => nI 0)))] : va_W)) ++ ([(q_7, .inl (cI, 64, .inl (fun _ => nI 0)))] : va_W)) H := hP
  have hD : va_D A (((((((([(a, .inr (1, [.ref q_1, .ref q_2, .ref q_3, .ref q_4, .ref q_6, .ref q_7, .int (nI 0), .int (nI 0)]))] : va_W) ++ ([(q_1, .inl (cZ, 64, .inl (fun _ => nI 0)))] : va_W)) ++ ([(q_2, .inl (cI, 7, .inl (fun _ => nI 0)))] : va_W)) ++ ([(q_3, .inl (cI, 7, .inl (fun _ => nI 0)))] : va_W)) ++ ([rq q_4 cQ r_5] : va_W)) ++ (rb r_5 cI 7 (fun _ _ => nI 0) 7)) ++ ([(q_6, .inl (cI, 64, .inl (fun _ => nI 0)))] : va_W)) ++ ([(q_7, .inl (cI, 64, .inl (fun _ => nI 0)))] : va_W)) := hD
  refine lv_aload_n hx hb dX1_init_61 rfl (lv_at hl 0 rfl) ?_
  refine lv_iconst (v := nI 0) hx hb dX1_init_62 (by decide) ?_
  refine va_put (D := D) (ci := 1) (v := .int (nI 0)) (ty := .int) (C := RX1) (T := TX1) (N := 8) hx hb hts tu_X1 tyX1 tyX1_ok nmX1 hown hSt.1 hP hD hS 0 rfl rfl 7 (by decide) (hts _ t1_52) (fun _ h9 => h9) rfl (by decide +kernel) rfl rfl (Nat.le_of_ble_eq_true rfl) dX1_init_63 (fun H locs hP hD hS => ?_)
  have hP : va_P D vwCl (((((((([(a, .inr (1, [.ref q_1, .ref q_2, .ref q_3, .ref q_4, .ref q_6, .ref q_7, .int (nI 0), .int (nI 0)]))] : va_W) ++ ([(q_1, .inl (cZ, 64, .inl (fun _ => nI 0)))] : va_W)) ++ ([(q_2, .inl (cI, 7, .inl (fun _ => nI 0)))] : va_W)) ++ ([(q_3, .inl (cI, 7, .inl (fun _ => nI 0)))] : va_W)) ++ ([rq q_4 cQ r_5] : va_W)) ++ (rb r_5 cI 7 (fun _ _ => nI 0) 7)) ++ ([(q_6, .inl (cI, 64, .inl (fun _ => nI 0)))] : va_W)) ++ ([(q_7, .inl (cI, 64, .inl (fun _ => nI 0)))] : va_W)) H := hP
  have hD : va_D A (((((((([(a, .inr (1, [.ref q_1, .ref q_2, .ref q_3, .ref q_4, .ref q_6, .ref q_7, .int (nI 0), .int (nI 0)]))] : va_W) ++ ([(q_1, .inl (cZ, 64, .inl (fun _ => nI 0)))] : va_W)) ++ ([(q_2, .inl (cI, 7, .inl (fun _ => nI 0)))] : va_W)) ++ ([(q_3, .inl (cI, 7, .inl (fun _ => nI 0)))] : va_W)) ++ ([rq q_4 cQ r_5] : va_W)) ++ (rb r_5 cI 7 (fun _ _ => nI 0) 7)) ++ ([(q_6, .inl (cI, 64, .inl (fun _ => nI 0)))] : va_W)) ++ ([(q_7, .inl (cI, 64, .inl (fun _ => nI 0)))] : va_W)) := hD
  have hP9 : va_P D vwCl (wFl (adl [a, q_1, q_2, q_3, q_4, q_6, q_7]) r_5 cI cZ cQ (fun _ => nI 0) (fun _ => nI 0) (fun _ => nI 0) (fun _ _ => nI 0) (fun _ => nI 0) (fun _ => nI 0) (nI 0) (nI 0)) H := (hP.sub (ws' := wFl (adl [a, q_1, q_2, q_3, q_4, q_6, q_7]) r_5 cI cZ cQ (fun _ => nI 0) (fun _ => nI 0) (fun _ => nI 0) (fun _ _ => nI 0) (fun _ => nI 0) (fun _ => nI 0) (nI 0) (nI 0)) [0, 1, 2, 3, 4, 12, 13, 5, 6, 7, 8, 9, 10, 11] rfl)
  have hD9 : va_D A (wFl (adl [a, q_1, q_2, q_3, q_4, q_6, q_7]) r_5 cI cZ cQ (fun _ => nI 0) (fun _ => nI 0) (fun _ => nI 0) (fun _ _ => nI 0) (fun _ => nI 0) (fun _ => nI 0) (nI 0) (nI 0)) := (hD.sub (ws' := wFl (adl [a, q_1, q_2, q_3, q_4, q_6, q_7]) r_5 cI cZ cQ (fun _ => nI 0) (fun _ => nI 0) (fun _ => nI 0) (fun _ _ => nI 0) (fun _ => nI 0) (fun _ => nI 0) (nI 0) (nI 0)) [0, 1, 2, 3, 4, 12, 13, 5, 6, 7, 8, 9, 10, 11] (by decide) rfl)
  refine W.widen (k := 13) (n := 262) (by omega) (by omega) ?_
  exact W.vret hx hb hr (fun t9 ht9 hW9 => ⟨⟨(adl [a, q_1, q_2, q_3, q_4, q_6, q_7], r_5), rfl, rfl, by rw [ht9]; exact hP9, hD9⟩, hS.F ht9⟩) hS.2.2 dX1_init_66
set_option maxHeartbeats 4000000 in
set_option maxRecDepth 100000 in
/-- Staff() -/
theorem c_X5_init (l : Launch) (D : va_G) (cI cZ cQ cJ : ClassId) (a : Nat) (sz : Nat)  : Met l yX5_init (.code yX5_init cX5_init 1 none :: ALL) ({ frames := 1, cells := 25, slots := 161, locals := 16 } : Room) (va_Pc [.ref a] (rw_P D cI cZ cQ cJ ([(a, .inr (5, [.null, .null, .null, .null, .int (nI 0)]))] : va_W) sz)) (va_Qv (fun u9 : (Nat → Nat) × (Nat → Nat) × (Nat → Nat) × (Nat → Nat) => u9.1 0 = a) (rw_B D (va_A ([(a, .inr (5, [.null, .null, .null, .null, .int (nI 0)]))] : va_W) sz) (fun u9 : (Nat → Nat) × (Nat → Nat) × (Nat → Nat) × (Nat → Nat) => wSt u9.1 u9.2.1 u9.2.2.1 u9.2.2.2 cI cQ (fun _ _ => nI 0) (fun _ => nI 0) (fun _ _ => nI 0) (fun _ _ => nI 0) (nI 0))) (va_A ([(a, .inr (5, [.null, .null, .null, .null, .int (nI 0)]))] : va_W) sz)) 25 161 (va_A ([(a, .inr (5, [.null, .null, .null, .null, .int (nI 0)]))] : va_W) sz) := by
  refine Met.ofW (cc := cX5_init) (maxL := 1) (ret := none) (by decide) rfl ?_
  intro p e s m args below meth c s₁ B hml hv
  obtain ⟨rfl, hsz, hP, hSt, hD0⟩ := hv
  have hx := B.exec
  have hb := B.bytes
  have hr := B.returns
  have hts : ∀ w ∈ ALL, w.before ([.ref a] : List Value).toArray s = true := fun w h => atoms_spec (ws := (.code yX5_init cX5_init 1 none :: ALL)) B.pre w (List.mem_cons_of_mem _ h)
  have hown : s.vm.findClass RX5 = some m.cls := findClass_of_methodNamed B.named
  have hlocks := B.notSynchronized
  have hin : meth.name = "<init>" := (name_of_methodNamed B.named B.method).1
  subst hsz
  have hD := hD0.self (sz := s.heap.size)
  clear hD0
  generalize hAe : va_A ([(a, .inr (5, [.null, .null, .null, .null, .int (nI 0)]))] : va_W) s.heap.size = A at hD ⊢
  have hA : ∀ q : Nat, s.heap.size ≤ q → A q := fun q h => by rw [← hAe]; exact Or.inr h
  have hS : va_S A s.heap s.heap [] := va_S.rf
  have hl := lv_entry ([.ref a]) (n := 1) (Nat.le_of_ble_eq_true rfl)
  rw [lg_entry_eq]
  generalize (lg_sl ([.ref a]) ++ List.replicate (1 - (lg_sl ([.ref a])).length) Slot.unset).toArray = ls at hl ⊢
  have hl : lv_has ls 1 [(0, .ref a)] := hl
  obtain ⟨H, hHe⟩ : ∃ H : Heap, H = s.heap := ⟨_, rfl⟩
  obtain ⟨locs, hLe⟩ : ∃ L : List Loc, L = [] := ⟨_, rfl⟩
  have hP : va_P D vwCl ([(a, .inr (5, [.null, .null, .null, .null, .int (nI 0)]))] : va_W) H := by rw [hHe]; exact hP
  have hS : va_S A s.heap H locs := by rw [hHe, hLe]; exact hS
  refine W.eqHL hHe hLe ?_
  refine lv_aload_n hx hb dX5_init_0 rfl (lv_at hl 0 rfl) ?_
  refine W.objInit hx hb hown (hts _ t1_80) (hts _ t1_25) (hts _ t1_26) rfl (by rw [hml]; exact hl.1) rfl dX5_init_1 (Nat.le_of_ble_eq_true rfl) (Nat.le_of_ble_eq_true rfl) ?_
  refine W.eq (g2 := F0 m 4 ls []) rfl ?_
  refine lv_aload_n hx hb dX5_init_4 rfl (lv_at hl 0 rfl) ?_
  refine lv_bipush (v := nI 7) hx hb dX5_init_5 (by decide) ?_
  refine lv_iconst (v := nI 5) hx hb dX5_init_7 (by decide) ?_
  refine r_mna hx hb hown (hts _ t1_81) (hts _ t1_74) hSt hP hD hS hA (M := 5) (by omega) (Nat.le_of_ble_eq_true rfl) (Nat.le_of_ble_eq_true rfl) dX5_init_8 (fun q_1 r_2 H hP hD hS => ?_)
  have hP : va_P D vwCl ((([(a, .inr (5, [.null, .null, .null, .null, .int (nI 0)]))] : va_W) ++ ([rq q_1 cQ r_2] : va_W)) ++ (rb r_2 cI 5 (fun _ _ => nI 0) 7)) H := hP
  have hD : va_D A ((([(a, .inr (5, [.null, .null, .null, .null, .int (nI 0)]))] : va_W) ++ ([rq q_1 cQ r_2] : va_W)) ++ (rb r_2 cI 5 (fun _ _ => nI 0) 7)) := hD
  refine va_putF (D := D) (ci := 5) (v := .ref q_1) (ty := (.array (.array .int))) (C := RX5) (T := TX5) (N := 5) hx hb hts tu_X5 tyX5 tyX5_ok nmX5 hown hSt.1 hP hD hS 0 rfl rfl 0 (by decide) (hts _ t1_82) (fun _ h9 => h9) rfl hin rfl (by decide +kernel) rfl rfl (Nat.le_of_ble_eq_true rfl) dX5_init_12 (fun H locs hP hD hS => ?_)
  have hP : va_P D vwCl ((([(a, .inr (5, [.ref q_1, .null, .null, .null, .int (nI 0)]))] : va_W) ++ ([rq q_1 cQ r_2] : va_W)) ++ (rb r_2 cI 5 (fun _ _ => nI 0) 7)) H := hP
  have hD : va_D A ((([(a, .inr (5, [.ref q_1, .null, .null, .null, .int (nI 0)]))] : va_W) ++ ([rq q_1 cQ r_2] : va_W)) ++ (rb r_2 cI 5 (fun _ _ => nI 0) 7)) := hD
  refine lv_aload_n hx hb dX5_init_15 rfl (lv_at hl 0 rfl) ?_
  refine lv_bipush (v := nI 7) hx hb dX5_init_16 (by decide) ?_
  refine r_newI hx hb (hts _ t1_74) hSt hP hD hS hA (N := 7) (by omega) (Nat.le_of_ble_eq_true rfl) (Nat.le_of_ble_eq_true rfl) dX5_init_18 (fun q_3 H hP hD hS => ?_)
  have hP : va_P D vwCl (((([(a, .inr (5, [.ref q_1, .null, .null, .null, .int (nI 0)]))] : va_W) ++ ([rq q_1 cQ r_2] : va_W)) ++ (rb r_2 cI 5 (fun _ _ => nI 0) 7)) ++ ([(q_3, .inl (cI, 7, .inl (fun _ => nI 0)))] : va_W)) H := hP
  have hD : va_D A (((([(a, .inr (5, [.ref q_1, .null, .null, .null, .int (nI 0)]))] : va_W) ++ ([rq q_1 cQ r_2] : va_W)) ++ (rb r_2 cI 5 (fun _ _ => nI 0) 7)) ++ ([(q_3, .inl (cI, 7, .inl (fun _ => nI 0)))] : va_W)) := hD
  refine va_putF (D := D) (ci := 5) (v := .ref q_3) (ty := (.array .int)) (C := RX5) (T := TX5) (N := 5) hx hb hts tu_X5 tyX5 tyX5_ok nmX5 hown hSt.1 hP hD hS 0 rfl rfl 1 (by decide) (hts _ t1_84) (fun _ h9 => h9) rfl hin rfl (by decide +kernel) rfl rfl (Nat.le_of_ble_eq_true rfl) dX5_init_20 (fun H locs hP hD hS => ?_)
  have hP : va_P D vwCl (((([(a, .inr (5, [.ref q_1, .ref q_3, .null, .null, .int (nI 0)]))] : va_W) ++ ([rq q_1 cQ r_2] : va_W)) ++ (rb r_2 cI 5 (fun _ _ => nI 0) 7)) ++ ([(q_3, .inl (cI, 7, .inl (fun _ => nI 0)))] : va_W)) H := hP
  have hD : va_D A (((([(a, .inr (5, [.ref q_1, .ref q_3, .null, .null, .int (nI 0)]))] : va_W) ++ ([rq q_1 cQ r_2] : va_W)) ++ (rb r_2 cI 5 (fun _ _ => nI 0) 7)) ++ ([(q_3, .inl (cI, 7, .inl (fun _ => nI 0)))] : va_W)) := hD
  refine lv_aload_n hx hb dX5_init_23 rfl (lv_at hl 0 rfl) ?_
  refine lv_bipush (v := nI 7) hx hb dX5_init_24 (by decide) ?_
  refine lv_bipush (v := nI 7) hx hb dX5_init_26 (by decide) ?_
  refine r_mna hx hb hown (hts _ t1_81) (hts _ t1_74) hSt hP hD hS hA (M := 7) (by omega) (Nat.le_of_ble_eq_true rfl) (Nat.le_of_ble_eq_true rfl) dX5_init_28 (fun q_4 r_5 H hP hD hS => ?_)
  have hP : va_P D vwCl (((((([(a, .inr (5, [.ref q_1, .ref q_3, .null, .null, .int (nI 0)]))] : va_W) ++ ([rq q_1 cQ r_2] : va_W)) ++ (rb r_2 cI 5 (fun _ _ => nI 0) 7)) ++ ([(q_3, .inl (cI, 7, .inl (fun _ => nI 0)))] : va_W)) ++ ([rq q_4 cQ r_5] : va_W)) ++ (rb r_5 cI 7 (fun _ _ => nI 0) 7)) H := hP
  have hD : va_D A (((((([(a, .inr (5, [.ref q_1, .ref q_3, .null, .null, .int (nI 0)]))] : va_W) ++ ([rq q_1 cQ r_2] : va_W)) ++ (rb r_2 cI 5 (fun _ _ => nI 0) 7)) ++ ([(q_3, .inl (cI, 7, .inl (fun _ => nI 0)))] : va_W)) ++ ([rq q_4 cQ r_5] : va_W)) ++ (rb r_5 cI 7 (fun _ _ => nI 0) 7)) := hD
  refine va_putF (D := D) (ci := 5) (v := .ref q_4) (ty := (.array (.array .int))) (C := RX5) (T := TX5) (N := 5) hx hb hts tu_X5 tyX5 tyX5_ok nmX5 hown hSt.1 hP hD hS 0 rfl rfl 2 (by decide) (hts _ t1_87) (fun _ h9 => h9) rfl hin rfl (by decide +kernel) rfl rfl (Nat.le_of_ble_eq_true rfl) dX5_init_32 (fun H locs hP hD hS => ?_)
  have hP : va_P D vwCl (((((([(a, .inr (5, [.ref q_1, .ref q_3, .ref q_4, .null, .int (nI 0)]))] : va_W) ++ ([rq q_1 cQ r_2] : va_W)) ++ (rb r_2 cI 5 (fun _ _ => nI 0) 7)) ++ ([(q_3, .inl (cI, 7, .inl (fun _ => nI 0)))] : va_W)) ++ ([rq q_4 cQ r_5] : va_W)) ++ (rb r_5 cI 7 (fun _ _ => nI 0) 7)) H := hP
  have hD : va_D A (((((([(a, .inr (5, [.ref q_1, .ref q_3, .ref q_4, .null, .int (nI 0)]))] : va_W) ++ ([rq q_1 cQ r_2] : va_W)) ++ (rb r_2 cI 5 (fun _ _ => nI 0) 7)) ++ ([(q_3, .inl (cI, 7, .inl (fun _ => nI 0)))] : va_W)) ++ ([rq q_4 cQ r_5] : va_W)) ++ (rb r_5 cI 7 (fun _ _ => nI 0) 7)) := hD
  refine lv_aload_n hx hb dX5_init_35 rfl (lv_at hl 0 rfl) ?_
  refine lv_bipush (v := nI 7) hx hb dX5_init_36 (by decide) ?_
  refine lv_bipush (v := nI 7) hx hb dX5_init_38 (by decide) ?_
  refine r_mna hx hb hown (hts _ t1_81) (hts _ t1_74) hSt hP hD hS hA (M := 7) (by omega) (Nat.le_of_ble_eq_true rfl) (Nat.le_of_ble_eq_true rfl) dX5_init_40 (fun q_6 r_7 H hP hD hS => ?_)
  have hP : va_P D vwCl (((((((([(a, .inr (5, [.ref q_1, .ref q_3, .ref q_4, .null, .int (nI 0)]))] : va_W) ++ ([rq q_1 cQ r_2] : va_W)) ++ (rb r_2 cI 5 (fun _ _ => nI 0) 7)) ++ ([(q_3, .inl (cI, 7, .inl (fun _ => nI 0)))] : va_W)) ++ ([rq q_4 cQ r_5] : va_W)) ++ (rb r_5 cI 7 (fun _ _ => nI 0) 7)) ++ ([rq q_6 cQ r_7] : va_W)) ++ (rb r_7 cI 7 (fun _ _ => nI 0) 7)) H := hP
  have hD : va_D A (((((((([(a, .inr (5, [.ref q_1, .ref q_3, .ref q_4, .null, .int (nI 0)]))] : va_W) ++ ([rq q_1 cQ r_2] : va_W)) ++ (rb r_2 cI 5 (fun _ _ => nI 0) 7)) ++ ([(q_3, .inl (cI, 7, .inl (fun _ => nI 0)))] : va_W)) ++ ([rq q_4 cQ r_5] : va_W)) ++ (rb r_5 cI 7 (fun _ _ => nI 0) 7)) ++ ([rq q_6 cQ r_7] : va_W)) ++ (rb r_7 cI 7 (fun _ _ => nI 0) 7)) := hD
  refine va_putF (D := D) (ci := 5) (v := .ref q_6) (ty := (.array (.array .int))) (C := RX5) (T := TX5) (N := 5) hx hb hts tu_X5 tyX5 tyX5_ok nmX5 hown hSt.1 hP hD hS 0 rfl rfl 3 (by decide) (hts _ t1_91) (fun _ h9 => h9) rfl hin rfl (by decide +kernel) rfl rfl (Nat.le_of_ble_eq_true rfl) dX5_init_44 (fun H locs hP hD hS => ?_)
  have hP : va_P D vwCl (((((((([(a, .inr (5, [.ref q_1, .ref q_3, .ref q_4, .ref q_6, .int (nI 0)]))] : va_W) ++ ([rq q_1 cQ r_2] : va_W)) ++ (rb r_2 cI 5 (fun _ _ => nI 0) 7)) ++ ([(q_3, .inl (cI, 7, .inl (fun _ => nI 0)))] : va_W)) ++ ([rq q_4 cQ r_5] : va_W)) ++ (rb r_5 cI 7 (fun _ _ => nI 0) 7)) ++ ([rq q_6 cQ r_7] : va_W)) ++ (rb r_7 cI 7 (fun _ _ => nI 0) 7)) H := hP
  have hD : va_D A (((((((([(a, .inr (5, [.ref q_1, .ref q_3, .ref q_4, .ref q_6, .int (nI 0)]))] : va_W) ++ ([rq q_1 cQ r_2] : va_W)) ++ (rb r_2 cI 5 (fun _ _ => nI 0) 7)) ++ ([(q_3, .inl (cI, 7, .inl (fun _ => nI 0)))] : va_W)) ++ ([rq q_4 cQ r_5] : va_W)) ++ (rb r_5 cI 7 (fun _ _ => nI 0) 7)) ++ ([rq q_6 cQ r_7] : va_W)) ++ (rb r_7 cI 7 (fun _ _ => nI 0) 7)) := hD
  refine lv_aload_n hx hb dX5_init_47 rfl (lv_at hl 0 rfl) ?_
  refine lv_iconst (v := nI 0) hx hb dX5_init_48 (by decide) ?_
  refine va_put (D := D) (ci := 5) (v := .int (nI 0)) (ty := .int) (C := RX5) (T := TX5) (N := 5) hx hb hts tu_X5 tyX5 tyX5_ok nmX5 hown hSt.1 hP hD hS 0 rfl rfl 4 (by decide) (hts _ t1_93) (fun _ h9 => h9) rfl (by decide +kernel) rfl rfl (Nat.le_of_ble_eq_true rfl) dX5_init_49 (fun H locs hP hD hS => ?_)
  have hP : va_P D vwCl (((((((([(a, .inr (5, [.ref q_1, .ref q_3, .ref q_4, .ref q_6, .int (nI 0)]))] : va_W) ++ ([rq q_1 cQ r_2] : va_W)) ++ (rb r_2 cI 5 (fun _ _ => nI 0) 7)) ++ ([(q_3, .inl (cI, 7, .inl (fun _ => nI 0)))] : va_W)) ++ ([rq q_4 cQ r_5] : va_W)) ++ (rb r_5 cI 7 (fun _ _ => nI 0) 7)) ++ ([rq q_6 cQ r_7] : va_W)) ++ (rb r_7 cI 7 (fun _ _ => nI 0) 7)) H := hP
  have hD : va_D A (((((((([(a, .inr (5, [.ref q_1, .ref q_3, .ref q_4, .ref q_6, .int (nI 0)]))] : va_W) ++ ([rq q_1 cQ r_2] : va_W)) ++ (rb r_2 cI 5 (fun _ _ => nI 0) 7)) ++ ([(q_3, .inl (cI, 7, .inl (fun _ => nI 0)))] : va_W)) ++ ([rq q_4 cQ r_5] : va_W)) ++ (rb r_5 cI 7 (fun _ _ => nI 0) 7)) ++ ([rq q_6 cQ r_7] : va_W)) ++ (rb r_7 cI 7 (fun _ _ => nI 0) 7)) := hD
  have hP9 : va_P D vwCl (wSt (adl [a, q_1, q_3, q_4, q_6]) r_2 r_5 r_7 cI cQ (fun _ _ => nI 0) (fun _ => nI 0) (fun _ _ => nI 0) (fun _ _ => nI 0) (nI 0)) H := (hP.sub (ws' := wSt (adl [a, q_1, q_3, q_4, q_6]) r_2 r_5 r_7 cI cQ (fun _ _ => nI 0) (fun _ => nI 0) (fun _ _ => nI 0) (fun _ _ => nI 0) (nI 0)) [0, 1, 9, 10, 18, 2, 3, 4, 5, 6, 7, 8, 11, 12, 13, 14, 15, 16, 17, 19, 20, 21, 22, 23, 24, 25] rfl)
  have hD9 : va_D A (wSt (adl [a, q_1, q_3, q_4, q_6]) r_2 r_5 r_7 cI cQ (fun _ _ => nI 0) (fun _ => nI 0) (fun _ _ => nI 0) (fun _ _ => nI 0) (nI 0)) := (hD.sub (ws' := wSt (adl [a, q_1, q_3, q_4, q_6]) r_2 r_5 r_7 cI cQ (fun _ _ => nI 0) (fun _ => nI 0) (fun _ _ => nI 0) (fun _ _ => nI 0) (nI 0)) [0, 1, 9, 10, 18, 2, 3, 4, 5, 6, 7, 8, 11, 12, 13, 14, 15, 16, 17, 19, 20, 21, 22, 23, 24, 25] (by decide) rfl)
  refine W.widen (k := 25) (n := 161) (by omega) (by omega) ?_
  exact W.vret hx hb hr (fun t9 ht9 hW9 => ⟨⟨(adl [a, q_1, q_3, q_4, q_6], r_2, r_5, r_7), rfl, rfl, by rw [ht9]; exact hP9, hD9⟩, hS.F ht9⟩) hS.2.2 dX5_init_52
theorem hd_X4_init : yX4_init.name = "<init>" ∧ yX4_init.cls ≠ "java/lang/invoke/MethodHandle" ∧ yX4_init.cls ≠ "java/lang/invoke/VarHandle" ∧ (parseMethodDescriptor yX4_init.desc).map (fun d => d.parameters.length) = some 0 := by decide +kernel
theorem hd_X0_init : yX0_init.name = "<init>" ∧ yX0_init.cls ≠ "java/lang/invoke/MethodHandle" ∧ yX0_init.cls ≠ "java/lang/invoke/VarHandle" ∧ (parseMethodDescriptor yX0_init.desc).map (fun d => d.parameters.length) = some 0 := by decide +kernel
theorem hd_X1_init : yX1_init.name = "<init>" ∧ yX1_init.cls ≠ "java/lang/invoke/MethodHandle" ∧ yX1_init.cls ≠ "java/lang/invoke/VarHandle" ∧ (parseMethodDescriptor yX1_init.desc).map (fun d => d.parameters.length) = some 0 := by decide +kernel
theorem hd_X5_init : yX5_init.name = "<init>" ∧ yX5_init.cls ≠ "java/lang/invoke/MethodHandle" ∧ yX5_init.cls ≠ "java/lang/invoke/VarHandle" ∧ (parseMethodDescriptor yX5_init.desc).map (fun d => d.parameters.length) = some 0 := by decide +kernel
end
section
/-- the first of the places n - k, .., n - 1 where f is z, the place as the machine has it; -1 if there is none -/
def fs (f : Nat → Int32) (z : Int32) (n : Nat) : Nat → Int32
  | 0 => -1
  | k + 1 => if f (n - (k + 1)) = z then nI (n - (k + 1)) else fs f z n k
/-- the team of a zone (-1 for none) -/
def tAt (f : Nat → Int32) (z : Int32) : Int32 := if z = -1 then -1 else fs f z 7 7
/-- how many of the first n are true -/
def cnt (g : Nat → Bool) : Nat → Nat
  | 0 => 0
  | n + 1 => cnt g n + (if g n then 1 else 0)
theorem cnt_le (g : Nat → Bool) : ∀ n, cnt g n ≤ n
  | 0 => Nat.le_refl 0
  | n + 1 => by
    have := cnt_le g n
    unfold cnt
    split <;> omega

set_option maxHeartbeats 4000000 in
set_option maxRecDepth 100000 in
/-- the zone of a team -/
theorem c_X4_zoneWith (l : Launch) (D : va_G) (cI cZ cQ cJ : ClassId) (a : Nat) (b : Nat) (f : Nat → Int32) (t : Nat) (ht : t < 7) : Met l yX4_zoneWith (.code yX4_zoneWith cX4_zoneWith 2 (some .int) :: ALL) ({ frames := 0, cells := 0, slots := 0, locals := 0 } : Room) (va_Pc [.ref a, .int (nI t)] (ro_P D cI cZ cQ cJ (wPl a b cI f))) (vp_Si (fun r9 => r9 = f t)) 0 0 (fun _ => False) := by
  refine Met.ofW (cc := cX4_zoneWith) (maxL := 2) (ret := (some .int)) (by decide) rfl ?_
  intro p e s m args below meth c s₁ B hml hv
  obtain ⟨rfl, hP, hSt⟩ := hv
  have hx := B.exec
  have hb := B.bytes
  have hr := B.returns
  have hts : ∀ w ∈ ALL, w.before ([.ref a, .int (nI t)] : List Value).toArray s = true := fun w h => atoms_spec (ws := (.code yX4_zoneWith cX4_zoneWith 2 (some .int) :: ALL)) B.pre w (List.mem_cons_of_mem _ h)
  have hown : s.vm.findClass RX4 = some m.cls := findClass_of_methodNamed B.named
  have hlocks := B.notSynchronized
  have hl := lv_entry ([.ref a, .int (nI t)]) (n := 2) (Nat.le_of_ble_eq_true rfl)
  rw [lg_entry_eq]
  generalize (lg_sl ([.ref a, .int (nI t)]) ++ List.replicate (2 - (lg_sl ([.ref a, .int (nI t)])).length) Slot.unset).toArray = ls at hl ⊢
  have hl : lv_has ls 2 [(0, .ref a), (1, .int (nI t))] := hl
  refine lv_aload_n hx hb dX4_zoneWith_0 rfl (lv_at hl 0 rfl) ?_
  refine va_get (D := D) (ci := 4) (v := .ref b) (C := RX4) (T := TX4) (N := 1) hx hb hts tu_X4 hown hSt.1 hP 0 rfl rfl 0 (by decide) (hts _ t1_131) (fun _ h9 => h9) rfl dX4_zoneWith_1 ?_
  refine lv_iload_n hx hb dX4_zoneWith_4 rfl (lv_at hl 1 rfl) ?_
  refine r_iald hx hb hSt.1 hP 1 0 rfl rfl (k := t) (by omega) (by omega) dX4_zoneWith_5 ?_
  exact W.iret (v := f t) hx hb hr (fun t9 ht9 hW9 => ⟨_, rfl, (rfl), ht9⟩) (fun q h => nomatch h) dX4_zoneWith_6
set_option maxHeartbeats 4000000 in
set_option maxRecDepth 100000 in
/-- the team of a zone -/
theorem c_X4_teamAt (l : Launch) (D : va_G) (cI cZ cQ cJ : ClassId) (a : Nat) (b : Nat) (f : Nat → Int32) (z : Int32)  : Met l yX4_teamAt (.code yX4_teamAt cX4_teamAt 3 (some .int) :: ALL) ({ frames := 0, cells := 0, slots := 0, locals := 0 } : Room) (va_Pc [.ref a, .int z] (ro_P D cI cZ cQ cJ (wPl a b cI f))) (vp_Si (fun r9 => r9 = tAt f z)) 0 0 (fun _ => False) := by
  refine Met.ofW (cc := cX4_teamAt) (maxL := 3) (ret := (some .int)) (by decide) rfl ?_
  intro p e s m args below meth c s₁ B hml hv
  obtain ⟨rfl, hP, hSt⟩ := hv
  have hx := B.exec
  have hb := B.bytes
  have hr := B.returns
  have hts : ∀ w ∈ ALL, w.before ([.ref a, .int z] : List Value).toArray s = true := fun w h => atoms_spec (ws := (.code yX4_teamAt cX4_teamAt 3 (some .int) :: ALL)) B.pre w (List.mem_cons_of_mem _ h)
  have hown : s.vm.findClass RX4 = some m.cls := findClass_of_methodNamed B.named
  have hlocks := B.notSynchronized
  have hl := lv_entry ([.ref a, .int z]) (n := 3) (Nat.le_of_ble_eq_true rfl)
  rw [lg_entry_eq]
  generalize (lg_sl ([.ref a, .int z]) ++ List.replicate (3 - (lg_sl ([.ref a, .int z])).length) Slot.unset).toArray = ls at hl ⊢
  have hl : lv_has ls 3 [(0, .ref a), (1, .int z)] := hl
  refine lv_iload_n hx hb dX4_teamAt_0 rfl (lv_at hl 1 rfl) ?_
  refine lv_iconst (v := (-1 : Int32)) hx hb dX4_teamAt_1 (by decide) ?_
  refine lv_icmp_ne (tgt := 7) hx hb dX4_teamAt_2 (by decide) (fun c_1 => ?_) (fun c_1 => ?_)
  · refine lv_iconst (v := nI 0) hx hb dX4_teamAt_7 (by decide) ?_
    refine lv_istore_n (lv' := [(2, .int (nI 0)), (0, .ref a), (1, .int z)]) hx hb dX4_teamAt_8 rfl hl (by decide) rfl (fun ls hl => ?_)
    have L9 : ∀ (n : Nat) (i : Nat), (i ≤ 7) → (tAt f z = fs f z 7 (7 - i)) → (7 - i) < n → ∀ (ls : Array Slot), lv_has ls 3 [(0, .ref a), (1, .int z), (2, .int (nI i))] → W p l e ({ frames := 0, cells := 0, slots := 0, locals := 0 } : Room) s m ([.ref a, .int z] : List Value).toArray below meth c s.heap [] 0 0 (MQ below (vp_Si (fun r9 => r9 = tAt f z)) ([.ref a, .int z] : List Value).toArray s 0 0 (fun _ => False)) (F0 m 9 ls []) := by
      intro n
      induction n with
      | zero =>
        intro i hi hq hm
        exact absurd hm (by omega)
      | succ n ih =>
        intro i hi hq hm ls hl
        have ih_L9 := ih
        refine lv_iload_n hx hb dX4_teamAt_9 rfl (lv_at hl 2 rfl) ?_
        refine lv_bipush (v := nI 7) hx hb dX4_teamAt_10 (by decide) ?_
        refine lv_icmp_ge (tgt := 33) hx hb dX4_teamAt_12 (by decide) (fun c_2 => ?_) (fun c_2 => ?_)
        · have c_2 := z_le (by omega) (by omega) c_2
          refine lv_iconst (v := (-1 : Int32)) hx hb dX4_teamAt_33 (by decide) ?_
          exact W.iret (v := (-1 : Int32)) hx hb hr (fun t9 ht9 hW9 => ⟨_, rfl, (by rw [hq, show 7 - i = 0 by omega]; rfl), ht9⟩) (fun q h => nomatch h) dX4_teamAt_34
        · have c_2 := z_nle (by omega) (by omega) c_2
          refine lv_aload_n hx hb dX4_teamAt_15 rfl (lv_at hl 0 rfl) ?_
          refine va_get (D := D) (ci := 4) (v := .ref b) (C := RX4) (T := TX4) (N := 1) hx hb hts tu_X4 hown hSt.1 hP 0 rfl rfl 0 (by decide) (hts _ t1_131) (fun _ h9 => h9) rfl dX4_teamAt_16 ?_
          refine lv_iload_n hx hb dX4_teamAt_19 rfl (lv_at hl 2 rfl) ?_
          refine r_iald hx hb hSt.1 hP 1 0 rfl rfl (k := i) (by omega) (by omega) dX4_teamAt_20 ?_
          refine lv_iload_n hx hb dX4_teamAt_21 rfl (lv_at hl 1 rfl) ?_
          refine lv_icmp_ne (tgt := 27) hx hb dX4_teamAt_22 (by decide) (fun c_3 => ?_) (fun c_3 => ?_)
          · refine lv_iinc (v := nI (i + 1)) (lv' := [(2, .int (nI (i + 1))), (0, .ref a), (1, .int z)]) hx hb dX4_teamAt_27 hl (k := 2) rfl (z_inc _) (by decide) rfl (fun ls hl => ?_)
            refine lv_goto (tgt := 9) hx hb dX4_teamAt_30 (by decide) ?_
            exact ih_L9 (i + 1) (by omega) (hq.trans (by rw [show 7 - i = (7 - (i + 1)) + 1 by omega, fs, if_neg (by rw [show 7 - (7 - (i + 1) + 1) = i by omega]; assumption)])) (by omega) _ (lv_sub hl [1, 2, 0] rfl)
          · refine lv_iload_n hx hb dX4_teamAt_25 rfl (lv_at hl 2 rfl) ?_
            exact W.iret (v := nI i) hx hb hr (fun t9 ht9 hW9 => ⟨_, rfl, (by rw [hq, show 7 - i = (7 - (i + 1)) + 1 by omega, fs, show 7 - (7 - (i + 1) + 1) = i by omega, if_pos (by assumption)]), ht9⟩) (fun q h => nomatch h) dX4_teamAt_26
    exact L9 _ 0 (by omega) (by rw [tAt, if_neg (by assumption)]) (Nat.lt_succ_self _) _ (lv_sub hl [1, 2, 0] rfl)
  · refine lv_iconst (v := (-1 : Int32)) hx hb dX4_teamAt_5 (by decide) ?_
    exact W.iret (v := (-1 : Int32)) hx hb hr (fun t9 ht9 hW9 => ⟨_, rfl, (by rw [tAt, if_pos (by assumption)]), ht9⟩) (fun q h => nomatch h) dX4_teamAt_6
set_option maxHeartbeats 4000000 in
set_option maxRecDepth 100000 in
/-- a team comes into a zone -/
theorem c_X4_lay (l : Launch) (D : va_G) (cI cZ cQ cJ : ClassId) (a : Nat) (b : Nat) (f : Nat → Int32) (t : Nat) (z : Int32) (sz : Nat) (ht : t < 7) : Met l yX4_lay (.code yX4_lay cX4_lay 3 none :: ALL) ({ frames := 0, cells := 0, slots := 0, locals := 0 } : Room) (va_Pc [.ref a, .int (nI t), .int z] (rw_P D cI cZ cQ cJ (wPl a b cI f) sz)) (va_Qv (fun u9 : Unit => True) (rw_B D (va_A (wPl a b cI f) sz) (fun u9 : Unit => wPl a b cI (upd f t z))) (va_A (wPl a b cI f) sz)) 0 0 (va_A (wPl a b cI f) sz) := by
  refine Met.ofW (cc := cX4_lay) (maxL := 3) (ret := none) (by decide) rfl ?_
  intro p e s m args below meth c s₁ B hml hv
  obtain ⟨rfl, hsz, hP, hSt, hD0⟩ := hv
  have hx := B.exec
  have hb := B.bytes
  have hr := B.returns
  have hts : ∀ w ∈ ALL, w.before ([.ref a, .int (nI t), .int z] : List Value).toArray s = true := fun w h => atoms_spec (ws := (.code yX4_lay cX4_lay 3 none :: ALL)) B.pre w (List.mem_cons_of_mem _ h)
  have hown : s.vm.findClass RX4 = some m.cls := findClass_of_methodNamed B.named
  have hlocks := B.notSynchronized
  subst hsz
  have hD := hD0.self (sz := s.heap.size)
  clear hD0
  generalize hAe : va_A (wPl a b cI f) s.heap.size = A at hD ⊢
  have hA : ∀ q : Nat, s.heap.size ≤ q → A q := fun q h => by rw [← hAe]; exact Or.inr h
  have hS : va_S A s.heap s.heap [] := va_S.rf
  have hl := lv_entry ([.ref a, .int (nI t), .int z]) (n := 3) (Nat.le_of_ble_eq_true rfl)
  rw [lg_entry_eq]
  generalize (lg_sl ([.ref a, .int (nI t), .int z]) ++ List.replicate (3 - (lg_sl ([.ref a, .int (nI t), .int z])).length) Slot.unset).toArray = ls at hl ⊢
  have hl : lv_has ls 3 [(0, .ref a), (1, .int (nI t)), (2, .int z)] := hl
  obtain ⟨H, hHe⟩ : ∃ H : Heap, H = s.heap := ⟨_, rfl⟩
  obtain ⟨locs, hLe⟩ : ∃ L : List Loc, L = [] := ⟨_, rfl⟩
  have hP : va_P D vwCl (wPl a b cI f) H := by rw [hHe]; exact hP
  have hS : va_S A s.heap H locs := by rw [hHe, hLe]; exact hS
  refine W.eqHL hHe hLe ?_
  refine lv_aload_n hx hb dX4_lay_0 rfl (lv_at hl 0 rfl) ?_
  refine va_get (D := D) (ci := 4) (v := .ref b) (C := RX4) (T := TX4) (N := 1) hx hb hts tu_X4 hown hSt.1 hP 0 rfl rfl 0 (by decide) (hts _ t1_131) (fun _ h9 => h9) rfl dX4_lay_1 ?_
  refine lv_iload_n hx hb dX4_lay_4 rfl (lv_at hl 1 rfl) ?_
  refine lv_iload_n hx hb dX4_lay_5 rfl (lv_at hl 2 rfl) ?_
  refine r_iast hx hb hSt.1 hP hD hS 1 0 rfl rfl (k := t) (by omega) (by omega) dX4_lay_6 (fun H locs hP hD hS => ?_)
  have hP : va_P D vwCl (wPl a b cI (upd f t z)) H := hP
  have hD : va_D A (wPl a b cI (upd f t z)) := hD
  have hP9 : va_P D vwCl (wPl a b cI (upd f t z)) H := hP
  have hD9 : va_D A (wPl a b cI (upd f t z)) := hD
  exact W.vret hx hb hr (fun t9 ht9 hW9 => ⟨⟨(), rfl, trivial, by rw [ht9]; exact hP9, hD9⟩, hS.F ht9⟩) hS.2.2 dX4_lay_7
set_option maxHeartbeats 4000000 in
set_option maxRecDepth 100000 in
/-- two teams exchange their zones -/
theorem c_X4_exchange (l : Launch) (D : va_G) (cI cZ cQ cJ : ClassId) (a : Nat) (b : Nat) (f : Nat → Int32) (t : Nat) (o : Nat) (sz : Nat) (ht : t < 7) (ho : o < 7) : Met l yX4_exchange (.code yX4_exchange cX4_exchange 4 none :: ALL) ({ frames := 0, cells := 0, slots := 0, locals := 0 } : Room) (va_Pc [.ref a, .int (nI t), .int (nI o)] (rw_P D cI cZ cQ cJ (wPl a b cI f) sz)) (va_Qv (fun u9 : Unit => True) (rw_B D (va_A (wPl a b cI f) sz) (fun u9 : Unit => wPl a b cI (upd (upd f t (f o)) o (f t)))) (va_A (wPl a b cI f) sz)) 0 0 (va_A (wPl a b cI f) sz) := by
  refine Met.ofW (cc := cX4_exchange) (maxL := 4) (ret := none) (by decide) rfl ?_
  intro p e s m args below meth c s₁ B hml hv
  obtain ⟨rfl, hsz, hP, hSt, hD0⟩ := hv
  have hx := B.exec
  have hb := B.bytes
  have hr := B.returns
  have hts : ∀ w ∈ ALL, w.before ([.ref a, .int (nI t), .int (nI o)] : List Value).toArray s = true := fun w h => atoms_spec (ws := (.code yX4_exchange cX4_exchange 4 none :: ALL)) B.pre w (List.mem_cons_of_mem _ h)
  have hown : s.vm.findClass RX4 = some m.cls := findClass_of_methodNamed B.named
  have hlocks := B.notSynchronized
  subst hsz
  have hD := hD0.self (sz := s.heap.size)
  clear hD0
  generalize hAe : va_A (wPl a b cI f) s.heap.size = A at hD ⊢
  have hA : ∀ q : Nat, s.heap.size ≤ q → A q := fun q h => by rw [← hAe]; exact Or.inr h
  have hS : va_S A s.heap s.heap [] := va_S.rf
  have hl := lv_entry ([.ref a, .int (nI t), .int (nI o)]) (n := 4) (Nat.le_of_ble_eq_true rfl)
  rw [lg_entry_eq]
  generalize (lg_sl ([.ref a, .int (nI t), .int (nI o)]) ++ List.replicate (4 - (lg_sl ([.ref a, .int (nI t), .int (nI o)])).length) Slot.unset).toArray = ls at hl ⊢
  have hl : lv_has ls 4 [(0, .ref a), (1, .int (nI t)), (2, .int (nI o))] := hl
  obtain ⟨H, hHe⟩ : ∃ H : Heap, H = s.heap := ⟨_, rfl⟩
  obtain ⟨locs, hLe⟩ : ∃ L : List Loc, L = [] := ⟨_, rfl⟩
  have hP : va_P D vwCl (wPl a b cI f) H := by rw [hHe]; exact hP
  have hS : va_S A s.heap H locs := by rw [hHe, hLe]; exact hS
  refine W.eqHL hHe hLe ?_
  refine lv_aload_n hx hb dX4_exchange_0 rfl (lv_at hl 0 rfl) ?_
  refine va_get (D := D) (ci := 4) (v := .ref b) (C := RX4) (T := TX4) (N := 1) hx hb hts tu_X4 hown hSt.1 hP 0 rfl rfl 0 (by decide) (hts _ t1_131) (fun _ h9 => h9) rfl dX4_exchange_1 ?_
  refine lv_iload_n hx hb dX4_exchange_4 rfl (lv_at hl 1 rfl) ?_
  refine r_iald hx hb hSt.1 hP 1 0 rfl rfl (k := t) (by omega) (by omega) dX4_exchange_5 ?_
  refine lv_istore_n (lv' := [(3, .int (f t)), (0, .ref a), (1, .int (nI t)), (2, .int (nI o))]) hx hb dX4_exchange_6 rfl hl (by decide) rfl (fun ls hl => ?_)
  refine lv_aload_n hx hb dX4_exchange_7 rfl (lv_at hl 1 rfl) ?_
  refine va_get (D := D) (ci := 4) (v := .ref b) (C := RX4) (T := TX4) (N := 1) hx hb hts tu_X4 hown hSt.1 hP 0 rfl rfl 0 (by decide) (hts _ t1_131) (fun _ h9 => h9) rfl dX4_exchange_8 ?_
  refine lv_iload_n hx hb dX4_exchange_11 rfl (lv_at hl 2 rfl) ?_
  refine lv_aload_n hx hb dX4_exchange_12 rfl (lv_at hl 1 rfl) ?_
  refine va_get (D := D) (ci := 4) (v := .ref b) (C := RX4) (T := TX4) (N := 1) hx hb hts tu_X4 hown hSt.1 hP 0 rfl rfl 0 (by decide) (hts _ t1_131) (fun _ h9 => h9) rfl dX4_exchange_13 ?_
  refine lv_iload_n hx hb dX4_exchange_16 rfl (lv_at hl 3 rfl) ?_
  refine r_iald hx hb hSt.1 hP 1 0 rfl rfl (k := o) (by omega) (by omega) dX4_exchange_17 ?_
  refine r_iast hx hb hSt.1 hP hD hS 1 0 rfl rfl (k := t) (by omega) (by omega) dX4_exchange_18 (fun H locs hP hD hS => ?_)
  have hP : va_P D vwCl (wPl a b cI (upd f t (f o))) H := hP
  have hD : va_D A (wPl a b cI (upd f t (f o))) := hD
  refine lv_aload_n hx hb dX4_exchange_19 rfl (lv_at hl 1 rfl) ?_
  refine va_get (D := D) (ci := 4) (v := .ref b) (C := RX4) (T := TX4) (N := 1) hx hb hts tu_X4 hown hSt.1 hP 0 rfl rfl 0 (by decide) (hts _ t1_131) (fun _ h9 => h9) rfl dX4_exchange_20 ?_
  refine lv_iload_n hx hb dX4_exchange_23 rfl (lv_at hl 3 rfl) ?_
  refine lv_iload_n hx hb dX4_exchange_24 rfl (lv_at hl 0 rfl) ?_
  refine r_iast hx hb hSt.1 hP hD hS 1 0 rfl rfl (k := o) (by omega) (by omega) dX4_exchange_25 (fun H locs hP hD hS => ?_)
  have hP : va_P D vwCl (wPl a b cI (upd (upd f t (f o)) o (f t))) H := hP
  have hD : va_D A (wPl a b cI (upd (upd f t (f o)) o (f t))) := hD
  have hP9 : va_P D vwCl (wPl a b cI (upd (upd f t (f o)) o (f t))) H := hP
  have hD9 : va_D A (wPl a b cI (upd (upd f t (f o)) o (f t))) := hD
  exact W.vret hx hb hr (fun t9 ht9 hW9 => ⟨⟨(), rfl, trivial, by rw [ht9]; exact hP9, hD9⟩, hS.F ht9⟩) hS.2.2 dX4_exchange_26
set_option maxHeartbeats 4000000 in
set_option maxRecDepth 100000 in
/-- how many teams are in a zone -/
theorem c_X4_countPlaced (l : Launch) (D : va_G) (cI cZ cQ cJ : ClassId) (a : Nat) (b : Nat) (f : Nat → Int32)  : Met l yX4_countPlaced (.code yX4_countPlaced cX4_countPlaced 3 (some .int) :: ALL) ({ frames := 0, cells := 0, slots := 0, locals := 0 } : Room) (va_Pc [.ref a] (ro_P D cI cZ cQ cJ (wPl a b cI f))) (vp_Si (fun r9 => r9 = nI (cnt (fun k => !decide (f k = -1)) 7))) 0 0 (fun _ => False) := by
  refine Met.ofW (cc := cX4_countPlaced) (maxL := 3) (ret := (some .int)) (by decide) rfl ?_
  intro p e s m args below meth c s₁ B hml hv
  obtain ⟨rfl, hP, hSt⟩ := hv
  have hx := B.exec
  have hb := B.bytes
  have hr := B.returns
  have hts : ∀ w ∈ ALL, w.before ([.ref a] : List Value).toArray s = true := fun w h => atoms_spec (ws := (.code yX4_countPlaced cX4_countPlaced 3 (some .int) :: ALL)) B.pre w (List.mem_cons_of_mem _ h)
  have hown : s.vm.findClass RX4 = some m.cls := findClass_of_methodNamed B.named
  have hlocks := B.notSynchronized
  have hl := lv_entry ([.ref a]) (n := 3) (Nat.le_of_ble_eq_true rfl)
  rw [lg_entry_eq]
  generalize (lg_sl ([.ref a]) ++ List.replicate (3 - (lg_sl ([.ref a])).length) Slot.unset).toArray = ls at hl ⊢
  have hl : lv_has ls 3 [(0, .ref a)] := hl
  refine lv_iconst (v := nI 0) hx hb dX4_countPlaced_0 (by decide) ?_
  refine lv_istore_n (lv' := [(1, .int (nI 0)), (0, .ref a)]) hx hb dX4_countPlaced_1 rfl hl (by decide) rfl (fun ls hl => ?_)
  refine lv_iconst (v := nI 0) hx hb dX4_countPlaced_2 (by decide) ?_
  refine lv_istore_n (lv' := [(2, .int (nI 0)), (1, .int (nI 0)), (0, .ref a)]) hx hb dX4_countPlaced_3 rfl hl (by decide) rfl (fun ls hl => ?_)
  have L4 : ∀ (n : Nat) (i : Nat) (n1 : Nat), (i ≤ 7) → (n1 = cnt (fun k => !decide (f k = -1)) i) → (7 - i) < n → ∀ (ls : Array Slot), lv_has ls 3 [(0, .ref a), (1, .int (nI n1)), (2, .int (nI i))] → W p l e ({ frames := 0, cells := 0, slots := 0, locals := 0 } : Room) s m ([.ref a] : List Value).toArray below meth c s.heap [] 0 0 (MQ below (vp_Si (fun r9 => r9 = nI (cnt (fun k => !decide (f k = -1)) 7))) ([.ref a] : List Value).toArray s 0 0 (fun _ => False)) (F0 m 4 ls []) := by
    intro n
    induction n with
    | zero =>
      intro i n1 hi hn hm
      exact absurd hm (by omega)
    | succ n ih =>
      intro i n1 hi hn hm ls hl
      have ih_L4 := ih
      refine lv_iload_n hx hb dX4_countPlaced_4 rfl (lv_at hl 2 rfl) ?_
      refine lv_bipush (v := nI 7) hx hb dX4_countPlaced_5 (by decide) ?_
      refine lv_icmp_ge (tgt := 29) hx hb dX4_countPlaced_7 (by decide) (fun c_1 => ?_) (fun c_1 => ?_)
      · have c_1 := z_le (by omega) (by omega) c_1
        refine lv_iload_n hx hb dX4_countPlaced_29 rfl (lv_at hl 1 rfl) ?_
        exact W.iret (v := nI n1) hx hb hr (fun t9 ht9 hW9 => ⟨_, rfl, (by rw [hn, show i = 7 by omega]), ht9⟩) (fun q h => nomatch h) dX4_countPlaced_30
      · have c_1 := z_nle (by omega) (by omega) c_1
        refine lv_aload_n hx hb dX4_countPlaced_10 rfl (lv_at hl 0 rfl) ?_
        refine va_get (D := D) (ci := 4) (v := .ref b) (C := RX4) (T := TX4) (N := 1) hx hb hts tu_X4 hown hSt.1 hP 0 rfl rfl 0 (by decide) (hts _ t1_131) (fun _ h9 => h9) rfl dX4_countPlaced_11 ?_
        refine lv_iload_n hx hb dX4_countPlaced_14 rfl (lv_at hl 2 rfl) ?_
        refine r_iald hx hb hSt.1 hP 1 0 rfl rfl (k := i) (by omega) (by omega) dX4_countPlaced_15 ?_
        refine lv_iconst (v := (-1 : Int32)) hx hb dX4_countPlaced_16 (by decide) ?_
        refine lv_icmp_eq (tgt := 23) hx hb dX4_countPlaced_17 (by decide) (fun c_2 => ?_) (fun c_2 => ?_)
        · refine lv_iinc (v := nI (i + 1)) (lv' := [(2, .int (nI (i + 1))), (0, .ref a), (1, .int (nI n1))]) hx hb dX4_countPlaced_23 hl (k := 2) rfl (z_inc _) (by decide) rfl (fun ls hl => ?_)
          refine lv_goto (tgt := 4) hx hb dX4_countPlaced_26 (by decide) ?_
          exact ih_L4 (i + 1) n1 (by omega) (by rw [cnt, ← hn]; simp [c_2]) (by omega) _ (lv_sub hl [1, 2, 0] rfl)
        · refine lv_iinc (v := nI (n1 + 1)) (lv' := [(1, .int (nI (n1 + 1))), (0, .ref a), (2, .int (nI i))]) hx hb dX4_countPlaced_20 hl (k := 1) rfl (z_inc _) (by decide) rfl (fun ls hl => ?_)
          refine lv_iinc (v := nI (i + 1)) (lv' := [(2, .int (nI (i + 1))), (1, .int (nI (n1 + 1))), (0, .ref a)]) hx hb dX4_countPlaced_23 hl (k := 2) rfl (z_inc _) (by decide) rfl (fun ls hl => ?_)
          refine lv_goto (tgt := 4) hx hb dX4_countPlaced_26 (by decide) ?_
          exact ih_L4 (i + 1) (n1 + 1) (by omega) (by rw [cnt, ← hn]; simp [c_2]) (by omega) _ (lv_sub hl [2, 1, 0] rfl)
  exact L4 _ 0 0 (by omega) rfl (Nat.lt_succ_self _) _ (lv_sub hl [2, 1, 0] rfl)
theorem hd_X4_zoneWith : yX4_zoneWith.cls = RX4 ∧ yX4_zoneWith.cls ≠ "java/lang/invoke/MethodHandle" ∧ yX4_zoneWith.cls ≠ "java/lang/invoke/VarHandle" ∧ (parseMethodDescriptor yX4_zoneWith.desc).map (fun d => d.parameters.length) = some 1 := by decide +kernel
theorem hd_X4_teamAt : yX4_teamAt.cls = RX4 ∧ yX4_teamAt.cls ≠ "java/lang/invoke/MethodHandle" ∧ yX4_teamAt.cls ≠ "java/lang/invoke/VarHandle" ∧ (parseMethodDescriptor yX4_teamAt.desc).map (fun d => d.parameters.length) = some 1 := by decide +kernel
theorem hd_X4_lay : yX4_lay.cls = RX4 ∧ yX4_lay.cls ≠ "java/lang/invoke/MethodHandle" ∧ yX4_lay.cls ≠ "java/lang/invoke/VarHandle" ∧ (parseMethodDescriptor yX4_lay.desc).map (fun d => d.parameters.length) = some 2 := by decide +kernel
theorem hd_X4_exchange : yX4_exchange.cls = RX4 ∧ yX4_exchange.cls ≠ "java/lang/invoke/MethodHandle" ∧ yX4_exchange.cls ≠ "java/lang/invoke/VarHandle" ∧ (parseMethodDescriptor yX4_exchange.desc).map (fun d => d.parameters.length) = some 2 := by decide +kernel
theorem hd_X4_countPlaced : yX4_countPlaced.cls = RX4 ∧ yX4_countPlaced.cls ≠ "java/lang/invoke/MethodHandle" ∧ yX4_countPlaced.cls ≠ "java/lang/invoke/VarHandle" ∧ (parseMethodDescriptor yX4_countPlaced.desc).map (fun d => d.parameters.length) = some 0 := by decide +kernel
end
section
set_option maxHeartbeats 4000000 in
set_option maxRecDepth 100000 in
/-- how many teams are in another zone than in the other placement -/
theorem c_X4_countOtherwise (l : Launch) (D : va_G) (cI cZ cQ cJ : ClassId) (a : Nat) (b : Nat) (f : Nat → Int32) (a2 : Nat) (b2 : Nat) (g : Nat → Int32)  : Met l yX4_countOtherwise (.code yX4_countOtherwise cX4_countOtherwise 4 (some .int) :: ALL) ({ frames := 0, cells := 0, slots := 0, locals := 0 } : Room) (va_Pc [.ref a, .ref a2] (ro_P D cI cZ cQ cJ ((wPl a b cI f) ++ (wPl a2 b2 cI g)))) (vp_Si (fun r9 => r9 = nI (cnt (fun k => !decide (f k = g k)) 7))) 0 0 (fun _ => False) := by
  refine Met.ofW (cc := cX4_countOtherwise) (maxL := 4) (ret := (some .int)) (by decide) rfl ?_
  intro p e s m args below meth c s₁ B hml hv
  obtain ⟨rfl, hP, hSt⟩ := hv
  have hx := B.exec
  have hb := B.bytes
  have hr := B.returns
  have hts : ∀ w ∈ ALL, w.before ([.ref a, .ref a2] : List Value).toArray s = true := fun w h => atoms_spec (ws := (.code yX4_countOtherwise cX4_countOtherwise 4 (some .int) :: ALL)) B.pre w (List.mem_cons_of_mem _ h)
  have hown : s.vm.findClass RX4 = some m.cls := findClass_of_methodNamed B.named
  have hlocks := B.notSynchronized
  have hl := lv_entry ([.ref a, .ref a2]) (n := 4) (Nat.le_of_ble_eq_true rfl)
  rw [lg_entry_eq]
  generalize (lg_sl ([.ref a, .ref a2]) ++ List.replicate (4 - (lg_sl ([.ref a, .ref a2])).length) Slot.unset).toArray = ls at hl ⊢
  have hl : lv_has ls 4 [(0, .ref a), (1, .ref a2)] := hl
  refine lv_iconst (v := nI 0) hx hb dX4_countOtherwise_0 (by decide) ?_
  refine lv_istore_n (lv' := [(2, .int (nI 0)), (0, .ref a), (1, .ref a2)]) hx hb dX4_countOtherwise_1 rfl hl (by decide) rfl (fun ls hl => ?_)
  refine lv_iconst (v := nI 0) hx hb dX4_countOtherwise_2 (by decide) ?_
  refine lv_istore_n (lv' := [(3, .int (nI 0)), (2, .int (nI 0)), (0, .ref a), (1, .ref a2)]) hx hb dX4_countOtherwise_3 rfl hl (by decide) rfl (fun ls hl => ?_)
  have L4 : ∀ (n : Nat) (i : Nat) (n1 : Nat), (i ≤ 7) → (n1 = cnt (fun k => !decide (f k = g k)) i) → (7 - i) < n → ∀ (ls : Array Slot), lv_has ls 4 [(0, .ref a), (1, .ref a2), (2, .int (nI n1)), (3, .int (nI i))] → W p l e ({ frames := 0, cells := 0, slots := 0, locals := 0 } : Room) s m ([.ref a, .ref a2] : List Value).toArray below meth c s.heap [] 0 0 (MQ below (vp_Si (fun r9 => r9 = nI (cnt (fun k => !decide (f k = g k)) 7))) ([.ref a, .ref a2] : List Value).toArray s 0 0 (fun _ => False)) (F0 m 4 ls []) := by
    intro n
    induction n with
    | zero =>
      intro i n1 hi hn hm
      exact absurd hm (by omega)
    | succ n ih =>
      intro i n1 hi hn hm ls hl
      have ih_L4 := ih
      refine lv_iload_n hx hb dX4_countOtherwise_4 rfl (lv_at hl 3 rfl) ?_
      refine lv_bipush (v := nI 7) hx hb dX4_countOtherwise_5 (by decide) ?_
      refine lv_icmp_ge (tgt := 34) hx hb dX4_countOtherwise_7 (by decide) (fun c_1 => ?_) (fun c_1 => ?_)
      · have c_1 := z_le (by omega) (by omega) c_1
        refine lv_iload_n hx hb dX4_countOtherwise_34 rfl (lv_at hl 2 rfl) ?_
        exact W.iret (v := nI n1) hx hb hr (fun t9 ht9 hW9 => ⟨_, rfl, (by rw [hn, show i = 7 by omega]), ht9⟩) (fun q h => nomatch h) dX4_countOtherwise_35
      · have c_1 := z_nle (by omega) (by omega) c_1
        refine lv_aload_n hx hb dX4_countOtherwise_10 rfl (lv_at hl 0 rfl) ?_
        refine va_get (D := D) (ci := 4) (v := .ref b) (C := RX4) (T := TX4) (N := 1) hx hb hts tu_X4 hown hSt.1 hP 0 rfl rfl 0 (by decide) (hts _ t1_131) (fun _ h9 => h9) rfl dX4_countOtherwise_11 ?_
        refine lv_iload_n hx hb dX4_countOtherwise_14 rfl (lv_at hl 3 rfl) ?_
        refine r_iald hx hb hSt.1 hP 1 0 rfl rfl (k := i) (by omega) (by omega) dX4_countOtherwise_15 ?_
        refine lv_aload_n hx hb dX4_countOtherwise_16 rfl (lv_at hl 1 rfl) ?_
        refine va_get (D := D) (ci := 4) (v := .ref b2) (C := RX4) (T := TX4) (N := 1) hx hb hts tu_X4 hown hSt.1 hP 2 rfl rfl 0 (by decide) (hts _ t1_131) (fun _ h9 => h9) rfl dX4_countOtherwise_17 ?_
        refine lv_iload_n hx hb dX4_countOtherwise_20 rfl (lv_at hl 3 rfl) ?_
        refine r_iald hx hb hSt.1 hP 3 0 rfl rfl (k := i) (by omega) (by omega) dX4_countOtherwise_21 ?_
        refine lv_icmp_eq (tgt := 28) hx hb dX4_countOtherwise_22 (by decide) (fun c_2 => ?_) (fun c_2 => ?_)
        · refine lv_iinc (v := nI (i + 1)) (lv' := [(3, .int (nI (i + 1))), (0, .ref a), (1, .ref a2), (2, .int (nI n1))]) hx hb dX4_countOtherwise_28 hl (k := 3) rfl (z_inc _) (by decide) rfl (fun ls hl => ?_)
          refine lv_goto (tgt := 4) hx hb dX4_countOtherwise_31 (by decide) ?_
          exact ih_L4 (i + 1) n1 (by omega) (by rw [cnt, ← hn]; simp [c_2]) (by omega) _ (lv_sub hl [1, 2, 3, 0] rfl)
        · refine lv_iinc (v := nI (n1 + 1)) (lv' := [(2, .int (nI (n1 + 1))), (0, .ref a), (1, .ref a2), (3, .int (nI i))]) hx hb dX4_countOtherwise_25 hl (k := 2) rfl (z_inc _) (by decide) rfl (fun ls hl => ?_)
          refine lv_iinc (v := nI (i + 1)) (lv' := [(3, .int (nI (i + 1))), (2, .int (nI (n1 + 1))), (0, .ref a), (1, .ref a2)]) hx hb dX4_countOtherwise_28 hl (k := 3) rfl (z_inc _) (by decide) rfl (fun ls hl => ?_)
          refine lv_goto (tgt := 4) hx hb dX4_countOtherwise_31 (by decide) ?_
          exact ih_L4 (i + 1) (n1 + 1) (by omega) (by rw [cnt, ← hn]; simp [c_2]) (by omega) _ (lv_sub hl [2, 3, 1, 0] rfl)
  exact L4 _ 0 0 (by omega) rfl (Nat.lt_succ_self _) _ (lv_sub hl [2, 3, 1, 0] rfl)
set_option maxHeartbeats 4000000 in
set_option maxRecDepth 100000 in
/-- the zones of the other placement -/
theorem c_X4_layLike (l : Launch) (D : va_G) (cI cZ cQ cJ : ClassId) (a : Nat) (b : Nat) (f : Nat → Int32) (a2 : Nat) (b2 : Nat) (g : Nat → Int32) (sz : Nat)  : Met l yX4_layLike (.code yX4_layLike cX4_layLike 2 none :: ALL) ({ frames := 1, cells := 0, slots := 0, locals := 60 } : Room) (va_Pc [.ref a, .ref a2] (rw_P D cI cZ cQ cJ ((wPl a b cI f) ++ (wPl a2 b2 cI g)) sz)) (va_Qv (fun u9 : Unit => True) (rw_B D (va_A ((wPl a b cI f) ++ (wPl a2 b2 cI g)) sz) (fun u9 : Unit => (wPl a b cI g) ++ (wPl a2 b2 cI g))) (va_A ((wPl a b cI f) ++ (wPl a2 b2 cI g)) sz)) 0 0 (va_A ((wPl a b cI f) ++ (wPl a2 b2 cI g)) sz) := by
  refine Met.ofW (cc := cX4_layLike) (maxL := 2) (ret := none) (by decide) rfl ?_
  intro p e s m args below meth c s₁ B hml hv
  obtain ⟨rfl, hsz, hP, hSt, hD0⟩ := hv
  have hx := B.exec
  have hb := B.bytes
  have hr := B.returns
  have hts : ∀ w ∈ ALL, w.before ([.ref a, .ref a2] : List Value).toArray s = true := fun w h => atoms_spec (ws := (.code yX4_layLike cX4_layLike 2 none :: ALL)) B.pre w (List.mem_cons_of_mem _ h)
  have hown : s.vm.findClass RX4 = some m.cls := findClass_of_methodNamed B.named
  have hlocks := B.notSynchronized
  subst hsz
  have hD := hD0.self (sz := s.heap.size)
  clear hD0
  generalize hAe : va_A ((wPl a b cI f) ++ (wPl a2 b2 cI g)) s.heap.size = A at hD ⊢
  have hA : ∀ q : Nat, s.heap.size ≤ q → A q := fun q h => by rw [← hAe]; exact Or.inr h
  have hS : va_S A s.heap s.heap [] := va_S.rf
  have hl := lv_entry ([.ref a, .ref a2]) (n := 2) (Nat.le_of_ble_eq_true rfl)
  rw [lg_entry_eq]
  generalize (lg_sl ([.ref a, .ref a2]) ++ List.replicate (2 - (lg_sl ([.ref a, .ref a2])).length) Slot.unset).toArray = ls at hl ⊢
  have hl : lv_has ls 2 [(0, .ref a), (1, .ref a2)] := hl
  obtain ⟨H, hHe⟩ : ∃ H : Heap, H = s.heap := ⟨_, rfl⟩
  obtain ⟨locs, hLe⟩ : ∃ L : List Loc, L = [] := ⟨_, rfl⟩
  have hP : va_P D vwCl ((wPl a b cI f) ++ (wPl a2 b2 cI g)) H := by rw [hHe]; exact hP
  have hS : va_S A s.heap H locs := by rw [hHe, hLe]; exact hS
  refine W.eqHL hHe hLe ?_
  refine lv_aload_n hx hb dX4_layLike_0 rfl (lv_at hl 1 rfl) ?_
  refine va_get (D := D) (ci := 4) (v := .ref b2) (C := RX4) (T := TX4) (N := 1) hx hb hts tu_X4 hown hSt.1 hP 2 rfl rfl 0 (by decide) (hts _ t1_131) (fun _ h9 => h9) rfl dX4_layLike_1 ?_
  refine lv_iconst (v := nI 0) hx hb dX4_layLike_4 (by decide) ?_
  refine lv_aload_n hx hb dX4_layLike_5 rfl (lv_at hl 0 rfl) ?_
  refine va_get (D := D) (ci := 4) (v := .ref b) (C := RX4) (T := TX4) (N := 1) hx hb hts tu_X4 hown hSt.1 hP 0 rfl rfl 0 (by decide) (hts _ t1_131) (fun _ h9 => h9) rfl dX4_layLike_6 ?_
  refine lv_iconst (v := nI 0) hx hb dX4_layLike_9 (by decide) ?_
  refine lv_bipush (v := nI 7) hx hb dX4_layLike_10 (by decide) ?_
  refine va_copyi (ty := .int) hx hb (by rw [hml]; exact hl.1.symm) hown (hts _ t1_233) (hts _ t1_235) (hts _ t1_234) (hts _ t1_18) hSt.1 hP hD hS 3 1 0 0 rfl rfl rfl rfl rfl (by decide) (by decide) (by decide) (by decide) (by decide) (fun _ _ => rfl) (Nat.le_of_ble_eq_true rfl) (Nat.le_of_ble_eq_true rfl) dX4_layLike_12 (fun H locs hP hD hS => ?_)
  have hP : va_P D vwCl ((wPl a b cI (va_cpy g f ((nI 0).toNatClampNeg) ((nI 0).toNatClampNeg) ((nI 7).toNatClampNeg))) ++ (wPl a2 b2 cI g)) H := hP
  have hD : va_D A ((wPl a b cI (va_cpy g f ((nI 0).toNatClampNeg) ((nI 0).toNatClampNeg) ((nI 7).toNatClampNeg))) ++ (wPl a2 b2 cI g)) := hD
  obtain ⟨hP, hD⟩ := P_fi hP hD 1 (g) rfl (fun j hj => by rw [va_cpy, if_pos ⟨by show (0 : Nat) ≤ j; omega, by show j < 0 + 7; omega⟩]; show g (0 + (j - 0)) = _; congr 1; omega)
  have hP : va_P D vwCl ((wPl a b cI g) ++ (wPl a2 b2 cI g)) H := hP
  have hD : va_D A ((wPl a b cI g) ++ (wPl a2 b2 cI g)) := hD
  have hP9 : va_P D vwCl ((wPl a b cI g) ++ (wPl a2 b2 cI g)) H := hP
  have hD9 : va_D A ((wPl a b cI g) ++ (wPl a2 b2 cI g)) := hD
  exact W.vret hx hb hr (fun t9 ht9 hW9 => ⟨⟨(), rfl, trivial, by rw [ht9]; exact hP9, hD9⟩, hS.F ht9⟩) hS.2.2 dX4_layLike_15
set_option maxHeartbeats 4000000 in
set_option maxRecDepth 100000 in
/-- the change, if it is the first one, or costs less -/
theorem c_X0_keepIfLess (l : Launch) (D : va_G) (cI cZ cQ cJ : ClassId) (a : Nat) (fo : Int32) (te : Int32) (ot : Int32) (zo : Int32) (co : Int32) (t2 : Int32) (o2 : Int32) (z2 : Int32) (c2 : Int32) (sz : Nat)  : Met l yX0_keepIfLess (.code yX0_keepIfLess cX0_keepIfLess 5 none :: ALL) ({ frames := 0, cells := 0, slots := 0, locals := 0 } : Room) (va_Pc [.ref a, .int t2, .int o2, .int z2, .int c2] (rw_P D cI cZ cQ cJ (wCh a fo te ot zo co) sz)) (va_Qv (fun u9 : Unit => True) (rw_B D (va_A (wCh a fo te ot zo co) sz) (fun u9 : Unit => wCh a (if (fo = 0 ∨ c2 < co) then nI 1 else fo) (if (fo = 0 ∨ c2 < co) then t2 else te) (if (fo = 0 ∨ c2 < co) then o2 else ot) (if (fo = 0 ∨ c2 < co) then z2 else zo) (if (fo = 0 ∨ c2 < co) then c2 else co))) (va_A (wCh a fo te ot zo co) sz)) 0 0 (va_A (wCh a fo te ot zo co) sz) := by
  refine Met.ofW (cc := cX0_keepIfLess) (maxL := 5) (ret := none) (by decide) rfl ?_
  intro p e s m args below meth c s₁ B hml hv
  obtain ⟨rfl, hsz, hP, hSt, hD0⟩ := hv
  have hx := B.exec
  have hb := B.bytes
  have hr := B.returns
  have hts : ∀ w ∈ ALL, w.before ([.ref a, .int t2, .int o2, .int z2, .int c2] : List Value).toArray s = true := fun w h => atoms_spec (ws := (.code yX0_keepIfLess cX0_keepIfLess 5 none :: ALL)) B.pre w (List.mem_cons_of_mem _ h)
  have hown : s.vm.findClass RX0 = some m.cls := findClass_of_methodNamed B.named
  have hlocks := B.notSynchronized
  subst hsz
  have hD := hD0.self (sz := s.heap.size)
  clear hD0
  generalize hAe : va_A (wCh a fo te ot zo co) s.heap.size = A at hD ⊢
  have hA : ∀ q : Nat, s.heap.size ≤ q → A q := fun q h => by rw [← hAe]; exact Or.inr h
  have hS : va_S A s.heap s.heap [] := va_S.rf
  have hl := lv_entry ([.ref a, .int t2, .int o2, .int z2, .int c2]) (n := 5) (Nat.le_of_ble_eq_true rfl)
  rw [lg_entry_eq]
  generalize (lg_sl ([.ref a, .int t2, .int o2, .int z2, .int c2]) ++ List.replicate (5 - (lg_sl ([.ref a, .int t2, .int o2, .int z2, .int c2])).length) Slot.unset).toArray = ls at hl ⊢
  have hl : lv_has ls 5 [(0, .ref a), (1, .int t2), (2, .int o2), (3, .int z2), (4, .int c2)] := hl
  obtain ⟨H, hHe⟩ : ∃ H : Heap, H = s.heap := ⟨_, rfl⟩
  obtain ⟨locs, hLe⟩ : ∃ L : List Loc, L = [] := ⟨_, rfl⟩
  have hP : va_P D vwCl (wCh a fo te ot zo co) H := by rw [hHe]; exact hP
  have hS : va_S A s.heap H locs := by rw [hHe, hLe]; exact hS
  refine W.eqHL hHe hLe ?_
  refine lv_aload_n hx hb dX0_keepIfLess_0 rfl (lv_at hl 0 rfl) ?_
  refine va_get (D := D) (ci := 0) (v := .int fo) (C := RX0) (T := TX0) (N := 5) hx hb hts tu_X0 hown hSt.1 hP 0 rfl rfl 0 (by decide) (hts _ t1_174) (fun _ h9 => h9) rfl dX0_keepIfLess_1 ?_
  refine lv_if_eq (tgt := 17) hx hb dX0_keepIfLess_4 (by decide) (fun c_1 => ?_) (fun c_1 => ?_)
  · refine lv_aload_n hx hb dX0_keepIfLess_17 rfl (lv_at hl 0 rfl) ?_
    refine lv_iconst (v := nI 1) hx hb dX0_keepIfLess_18 (by decide) ?_
    refine va_put (D := D) (ci := 0) (v := .int (nI 1)) (ty := .boolean) (C := RX0) (T := TX0) (N := 5) hx hb hts tu_X0 tyX0 tyX0_ok nmX0 hown hSt.1 hP hD hS 0 rfl rfl 0 (by decide) (hts _ t1_174) (fun _ h9 => h9) rfl (by decide +kernel) rfl rfl (Nat.le_of_ble_eq_true rfl) dX0_keepIfLess_19 (fun H locs hP hD hS => ?_)
    have hP : va_P D vwCl (wCh a (nI 1) te ot zo co) H := hP
    have hD : va_D A (wCh a (nI 1) te ot zo co) := hD
    refine lv_aload_n hx hb dX0_keepIfLess_22 rfl (lv_at hl 0 rfl) ?_
    refine lv_iload_n hx hb dX0_keepIfLess_23 rfl (lv_at hl 1 rfl) ?_
    refine va_put (D := D) (ci := 0) (v := .int t2) (ty := .int) (C := RX0) (T := TX0) (N := 5) hx hb hts tu_X0 tyX0 tyX0_ok nmX0 hown hSt.1 hP hD hS 0 rfl rfl 1 (by decide) (hts _ t1_176) (fun _ h9 => h9) rfl (by decide +kernel) rfl rfl (Nat.le_of_ble_eq_true rfl) dX0_keepIfLess_24 (fun H locs hP hD hS => ?_)
    have hP : va_P D vwCl (wCh a (nI 1) t2 ot zo co) H := hP
    have hD : va_D A (wCh a (nI 1) t2 ot zo co) := hD
    refine lv_aload_n hx hb dX0_keepIfLess_27 rfl (lv_at hl 0 rfl) ?_
    refine lv_iload_n hx hb dX0_keepIfLess_28 rfl (lv_at hl 2 rfl) ?_
    refine va_put (D := D) (ci := 0) (v := .int o2) (ty := .int) (C := RX0) (T := TX0) (N := 5) hx hb hts tu_X0 tyX0 tyX0_ok nmX0 hown hSt.1 hP hD hS 0 rfl rfl 2 (by decide) (hts _ t1_178) (fun _ h9 => h9) rfl (by decide +kernel) rfl rfl (Nat.le_of_ble_eq_true rfl) dX0_keepIfLess_29 (fun H locs hP hD hS => ?_)
    have hP : va_P D vwCl (wCh a (nI 1) t2 o2 zo co) H := hP
    have hD : va_D A (wCh a (nI 1) t2 o2 zo co) := hD
    refine lv_aload_n hx hb dX0_keepIfLess_32 rfl (lv_at hl 0 rfl) ?_
    refine lv_iload_n hx hb dX0_keepIfLess_33 rfl (lv_at hl 3 rfl) ?_
    refine va_put (D := D) (ci := 0) (v := .int z2) (ty := .int) (C := RX0) (T := TX0) (N := 5) hx hb hts tu_X0 tyX0 tyX0_ok nmX0 hown hSt.1 hP hD hS 0 rfl rfl 3 (by decide) (hts _ t1_180) (fun _ h9 => h9) rfl (by decide +kernel) rfl rfl (Nat.le_of_ble_eq_true rfl) dX0_keepIfLess_34 (fun H locs hP hD hS => ?_)
    have hP : va_P D vwCl (wCh a (nI 1) t2 o2 z2 co) H := hP
    have hD : va_D A (wCh a (nI 1) t2 o2 z2 co) := hD
    refine lv_aload_n hx hb dX0_keepIfLess_37 rfl (lv_at hl 0 rfl) ?_
    refine lv_iload hx hb dX0_keepIfLess_38 (lv_at hl 4 rfl) ?_
    refine va_put (D := D) (ci := 0) (v := .int c2) (ty := .int) (C := RX0) (T := TX0) (N := 5) hx hb hts tu_X0 tyX0 tyX0_ok nmX0 hown hSt.1 hP hD hS 0 rfl rfl 4 (by decide) (hts _ t1_182) (fun _ h9 => h9) rfl (by decide +kernel) rfl rfl (Nat.le_of_ble_eq_true rfl) dX0_keepIfLess_40 (fun H locs hP hD hS => ?_)
    have hP : va_P D vwCl (wCh a (nI 1) t2 o2 z2 c2) H := hP
    have hD : va_D A (wCh a (nI 1) t2 o2 z2 c2) := hD
    have e9 : (fo = 0 ∨ c2 < co) := Or.inl c_1
    have hP9 : va_P D vwCl (wCh a (if (fo = 0 ∨ c2 < co) then nI 1 else fo) (if (fo = 0 ∨ c2 < co) then t2 else te) (if (fo = 0 ∨ c2 < co) then o2 else ot) (if (fo = 0 ∨ c2 < co) then z2 else zo) (if (fo = 0 ∨ c2 < co) then c2 else co)) H := by simp only [if_pos e9]; exact hP
    have hD9 : va_D A (wCh a (if (fo = 0 ∨ c2 < co) then nI 1 else fo) (if (fo = 0 ∨ c2 < co) then t2 else te) (if (fo = 0 ∨ c2 < co) then o2 else ot) (if (fo = 0 ∨ c2 < co) then z2 else zo) (if (fo = 0 ∨ c2 < co) then c2 else co)) := by simp only [if_pos e9]; exact hD
    exact W.vret hx hb hr (fun t9 ht9 hW9 => ⟨⟨(), rfl, trivial, by rw [ht9]; exact hP9, hD9⟩, hS.F ht9⟩) hS.2.2 dX0_keepIfLess_43
  · refine lv_iload hx hb dX0_keepIfLess_7 (lv_at hl 4 rfl) ?_
    refine lv_aload_n hx hb dX0_keepIfLess_9 rfl (lv_at hl 0 rfl) ?_
    refine va_get (D := D) (ci := 0) (v := .int co) (C := RX0) (T := TX0) (N := 5) hx hb hts tu_X0 hown hSt.1 hP 0 rfl rfl 4 (by decide) (hts _ t1_182) (fun _ h9 => h9) rfl dX0_keepIfLess_10 ?_
    refine lv_icmp_lt (tgt := 17) hx hb dX0_keepIfLess_13 (by decide) (fun c_2 => ?_) (fun c_2 => ?_)
    · refine lv_aload_n hx hb dX0_keepIfLess_17 rfl (lv_at hl 0 rfl) ?_
      refine lv_iconst (v := nI 1) hx hb dX0_keepIfLess_18 (by decide) ?_
      refine va_put (D := D) (ci := 0) (v := .int (nI 1)) (ty := .boolean) (C := RX0) (T := TX0) (N := 5) hx hb hts tu_X0 tyX0 tyX0_ok nmX0 hown hSt.1 hP hD hS 0 rfl rfl 0 (by decide) (hts _ t1_174) (fun _ h9 => h9) rfl (by decide +kernel) rfl rfl (Nat.le_of_ble_eq_true rfl) dX0_keepIfLess_19 (fun H locs hP hD hS => ?_)
      have hP : va_P D vwCl (wCh a (nI 1) te ot zo co) H := hP
      have hD : va_D A (wCh a (nI 1) te ot zo co) := hD
      refine lv_aload_n hx hb dX0_keepIfLess_22 rfl (lv_at hl 0 rfl) ?_
      refine lv_iload_n hx hb dX0_keepIfLess_23 rfl (lv_at hl 1 rfl) ?_
      refine va_put (D := D) (ci := 0) (v := .int t2) (ty := .int) (C := RX0) (T := TX0) (N := 5) hx hb hts tu_X0 tyX0 tyX0_ok nmX0 hown hSt.1 hP hD hS 0 rfl rfl 1 (by decide) (hts _ t1_176) (fun _ h9 => h9) rfl (by decide +kernel) rfl rfl (Nat.le_of_ble_eq_true rfl) dX0_keepIfLess_24 (fun H locs hP hD hS => ?_)
      have hP : va_P D vwCl (wCh a (nI 1) t2 ot zo co) H := hP
      have hD : va_D A (wCh a (nI 1) t2 ot zo co) := hD
      refine lv_aload_n hx hb dX0_keepIfLess_27 rfl (lv_at hl 0 rfl) ?_
      refine lv_iload_n hx hb dX0_keepIfLess_28 rfl (lv_at hl 2 rfl) ?_
      refine va_put (D := D) (ci := 0) (v := .int o2) (ty := .int) (C := RX0) (T := TX0) (N := 5) hx hb hts tu_X0 tyX0 tyX0_ok nmX0 hown hSt.1 hP hD hS 0 rfl rfl 2 (by decide) (hts _ t1_178) (fun _ h9 => h9) rfl (by decide +kernel) rfl rfl (Nat.le_of_ble_eq_true rfl) dX0_keepIfLess_29 (fun H locs hP hD hS => ?_)
      have hP : va_P D vwCl (wCh a (nI 1) t2 o2 zo co) H := hP
      have hD : va_D A (wCh a (nI 1) t2 o2 zo co) := hD
      refine lv_aload_n hx hb dX0_keepIfLess_32 rfl (lv_at hl 0 rfl) ?_
      refine lv_iload_n hx hb dX0_keepIfLess_33 rfl (lv_at hl 3 rfl) ?_
      refine va_put (D := D) (ci := 0) (v := .int z2) (ty := .int) (C := RX0) (T := TX0) (N := 5) hx hb hts tu_X0 tyX0 tyX0_ok nmX0 hown hSt.1 hP hD hS 0 rfl rfl 3 (by decide) (hts _ t1_180) (fun _ h9 => h9) rfl (by decide +kernel) rfl rfl (Nat.le_of_ble_eq_true rfl) dX0_keepIfLess_34 (fun H locs hP hD hS => ?_)
      have hP : va_P D vwCl (wCh a (nI 1) t2 o2 z2 co) H := hP
      have hD : va_D A (wCh a (nI 1) t2 o2 z2 co) := hD
      refine lv_aload_n hx hb dX0_keepIfLess_37 rfl (lv_at hl 0 rfl) ?_
      refine lv_iload hx hb dX0_keepIfLess_38 (lv_at hl 4 rfl) ?_
      refine va_put (D := D) (ci := 0) (v := .int c2) (ty := .int) (C := RX0) (T := TX0) (N := 5) hx hb hts tu_X0 tyX0 tyX0_ok nmX0 hown hSt.1 hP hD hS 0 rfl rfl 4 (by decide) (hts _ t1_182) (fun _ h9 => h9) rfl (by decide +kernel) rfl rfl (Nat.le_of_ble_eq_true rfl) dX0_keepIfLess_40 (fun H locs hP hD hS => ?_)
      have hP : va_P D vwCl (wCh a (nI 1) t2 o2 z2 c2) H := hP
      have hD : va_D A (wCh a (nI 1) t2 o2 z2 c2) := hD
      have e9 : (fo = 0 ∨ c2 < co) := Or.inr c_2
      have hP9 : va_P D vwCl (wCh a (if (fo = 0 ∨ c2 < co) then nI 1 else fo) (if (fo = 0 ∨ c2 < co) then t2 else te) (if (fo = 0 ∨ c2 < co) then o2 else ot) (if (fo = 0 ∨ c2 < co) then z2 else zo) (if (fo = 0 ∨ c2 < co) then c2 else co)) H := by simp only [if_pos e9]; exact hP
      have hD9 : va_D A (wCh a (if (fo = 0 ∨ c2 < co) then nI 1 else fo) (if (fo = 0 ∨ c2 < co) then t2 else te) (if (fo = 0 ∨ c2 < co) then o2 else ot) (if (fo = 0 ∨ c2 < co) then z2 else zo) (if (fo = 0 ∨ c2 < co) then c2 else co)) := by simp only [if_pos e9]; exact hD
      exact W.vret hx hb hr (fun t9 ht9 hW9 => ⟨⟨(), rfl, trivial, by rw [ht9]; exact hP9, hD9⟩, hS.F ht9⟩) hS.2.2 dX0_keepIfLess_43
    · have e9 : ¬ (fo = 0 ∨ c2 < co) := fun q => q.elim c_1 c_2
      have hP9 : va_P D vwCl (wCh a (if (fo = 0 ∨ c2 < co) then nI 1 else fo) (if (fo = 0 ∨ c2 < co) then t2 else te) (if (fo = 0 ∨ c2 < co) then o2 else ot) (if (fo = 0 ∨ c2 < co) then z2 else zo) (if (fo = 0 ∨ c2 < co) then c2 else co)) H := by simp only [if_neg e9]; exact hP
      have hD9 : va_D A (wCh a (if (fo = 0 ∨ c2 < co) then nI 1 else fo) (if (fo = 0 ∨ c2 < co) then t2 else te) (if (fo = 0 ∨ c2 < co) then o2 else ot) (if (fo = 0 ∨ c2 < co) then z2 else zo) (if (fo = 0 ∨ c2 < co) then c2 else co)) := by simp only [if_neg e9]; exact hD
      exact W.vret hx hb hr (fun t9 ht9 hW9 => ⟨⟨(), rfl, trivial, by rw [ht9]; exact hP9, hD9⟩, hS.F ht9⟩) hS.2.2 dX0_keepIfLess_16
set_option maxHeartbeats 4000000 in
set_option maxRecDepth 100000 in
/-- Office() -/
theorem c_X3_init (l : Launch) (D : va_G) (cI cZ cQ cJ : ClassId) (a : Nat) (sz : Nat)  : Met l yX3_init (.code yX3_init cX3_init 1 none :: ALL) ({ frames := 2, cells := 40, slots := 436, locals := 36 } : Room) (va_Pc [.ref a] (rw_P D cI cZ cQ cJ ([(a, .inr (3, [.null, .null]))] : va_W) sz)) (va_Qv (fun u9 : (Nat → Nat) × (Nat → Nat) × (Nat → Nat) × (Nat → Nat) × (Nat → Nat) × (Nat → Nat) => True) (rw_B D (va_A ([(a, .inr (3, [.null, .null]))] : va_W) sz) (fun u9 : (Nat → Nat) × (Nat → Nat) × (Nat → Nat) × (Nat → Nat) × (Nat → Nat) × (Nat → Nat) => (wOf a (u9.1 0) (u9.2.2.1 0)) ++ ((wFl u9.1 u9.2.1 cI cZ cQ (fun _ => nI 0) (fun _ => nI 0) (fun _ => nI 0) (fun _ _ => nI 0) (fun _ => nI 0) (fun _ => nI 0) (nI 0) (nI 0)) ++ (wSt u9.2.2.1 u9.2.2.2.1 u9.2.2.2.2.1 u9.2.2.2.2.2 cI cQ (fun _ _ => nI 0) (fun _ => nI 0) (fun _ _ => nI 0) (fun _ _ => nI 0) (nI 0))))) (va_A ([(a, .inr (3, [.null, .null]))] : va_W) sz)) 40 436 (va_A ([(a, .inr (3, [.null, .null]))] : va_W) sz) := by
  refine Met.ofW (cc := cX3_init) (maxL := 1) (ret := none) (by decide) rfl ?_
  intro p e s m args below meth c s₁ B hml hv
  obtain ⟨rfl, hsz, hP, hSt, hD0⟩ := hv
  have hx := B.exec
  have hb := B.bytes
  have hr := B.returns
  have hts : ∀ w ∈ ALL, w.before ([.ref a] : List Value).toArray s = true := fun w h => atoms_spec (ws := (.code yX3_init cX3_init 1 none :: ALL)) B.pre w (List.mem_cons_of_mem _ h)
  have hown : s.vm.findClass RX3 = some m.cls := findClass_of_methodNamed B.named
  have hlocks := B.notSynchronized
  have hin : meth.name = "<init>" := (name_of_methodNamed B.named B.method).1
  subst hsz
  have hD := hD0.self (sz := s.heap.size)
  clear hD0
  generalize hAe : va_A ([(a, .inr (3, [.null, .null]))] : va_W) s.heap.size = A at hD ⊢
  have hA : ∀ q : Nat, s.heap.size ≤ q → A q := fun q h => by rw [← hAe]; exact Or.inr h
  have hS : va_S A s.heap s.heap [] := va_S.rf
  have hl := lv_entry ([.ref a]) (n := 1) (Nat.le_of_ble_eq_true rfl)
  rw [lg_entry_eq]
  generalize (lg_sl ([.ref a]) ++ List.replicate (1 - (lg_sl ([.ref a])).length) Slot.unset).toArray = ls at hl ⊢
  have hl : lv_has ls 1 [(0, .ref a)] := hl
  obtain ⟨H, hHe⟩ : ∃ H : Heap, H = s.heap := ⟨_, rfl⟩
  obtain ⟨locs, hLe⟩ : ∃ L : List Loc, L = [] := ⟨_, rfl⟩
  have hP : va_P D vwCl ([(a, .inr (3, [.null, .null]))] : va_W) H := by rw [hHe]; exact hP
  have hS : va_S A s.heap H locs := by rw [hHe, hLe]; exact hS
  refine W.eqHL hHe hLe ?_
  refine lv_aload_n hx hb dX3_init_0 rfl (lv_at hl 0 rfl) ?_
  refine W.objInit hx hb hown (hts _ t1_32) (hts _ t1_25) (hts _ t1_26) rfl (by rw [hml]; exact hl.1) rfl dX3_init_1 (Nat.le_of_ble_eq_true rfl) (Nat.le_of_ble_eq_true rfl) ?_
  refine W.eq (g2 := F0 m 4 ls []) rfl ?_
  refine lv_aload_n hx hb dX3_init_4 rfl (lv_at hl 0 rfl) ?_
  refine va_new (ci := 1) (fs := [.null, .null, .null, .null, .null, .null, .int (nI 0), .int (nI 0)]) (C := RX1) (T := TX1) (N := 8) hx hb hts tu_X1 tyX1 tyX1_ok hown (hts _ t1_33) (hts _ t1_34) (hts _ t1_3) hSt.1 hP hD hS hA rfl (fun j hj => by rcases (show j = 0 ∨ j = 1 ∨ j = 2 ∨ j = 3 ∨ j = 4 ∨ j = 5 ∨ j = 6 ∨ j = 7 by omega) with rfl | rfl | rfl | rfl | rfl | rfl | rfl | rfl <;> rfl) (Nat.le_of_ble_eq_true rfl) (Nat.le_of_ble_eq_true rfl) dX3_init_5 (fun q_1 H hP hD hS => ?_)
  have hP : va_P D vwCl (([(a, .inr (3, [.null, .null]))] : va_W) ++ ([(q_1, .inr (1, [.null, .null, .null, .null, .null, .null, .int (nI 0), .int (nI 0)]))] : va_W)) H := hP
  have hD : va_D A (([(a, .inr (3, [.null, .null]))] : va_W) ++ ([(q_1, .inr (1, [.null, .null, .null, .null, .null, .null, .int (nI 0), .int (nI 0)]))] : va_W)) := hD
  refine lv_dup hx hb dX3_init_8 rfl ?_
  refine rw_v (wr := ([(a, .inr (3, [.null, .null]))] : va_W)) (w_IN (As := []) ⟨hx, hb, hml, hown, hts⟩ (c_X1_init l D cI cZ cQ cJ q_1 H.size) (hSt.2.m 1 rfl) t1_36 t1_3 t1_37 rfl rfl hd_X1_init ⟨Nat.le_of_ble_eq_true rfl, Nat.le_of_ble_eq_true rfl⟩ (rw_pre hP hD hSt [1] rfl (by decide)) rfl hl.1 (rest := [.ref q_1, .ref a]) rfl (Nat.le_of_ble_eq_true rfl) dX3_init_9 ⟨Nat.le_of_ble_eq_true rfl, Nat.le_of_ble_eq_true rfl⟩) hP hD hS hA [1] [0] rfl rfl (by decide) (by decide) (fun u_4 H locs hw hP hD hS => ?_)
  obtain ⟨j_2, j_3⟩ := u_4
  have f_5 := hw
  have f_5x : j_2 0 = q_1 := f_5
  have hP : va_P D vwCl (([(a, .inr (3, [.null, .null]))] : va_W) ++ (wFl j_2 j_3 cI cZ cQ (fun _ => nI 0) (fun _ => nI 0) (fun _ => nI 0) (fun _ _ => nI 0) (fun _ => nI 0) (fun _ => nI 0) (nI 0) (nI 0))) H := hP
  have hD : va_D A (([(a, .inr (3, [.null, .null]))] : va_W) ++ (wFl j_2 j_3 cI cZ cQ (fun _ => nI 0) (fun _ => nI 0) (fun _ => nI 0) (fun _ _ => nI 0) (fun _ => nI 0) (fun _ => nI 0) (nI 0) (nI 0))) := hD
  have hP77 := hP
  have hD77 := hD
  subst f_5x
  have hP := hP77
  have hD := hD77
  refine va_putF (D := D) (ci := 3) (v := .ref (j_2 0)) (ty := (.object "DeskPlanner$Floor")) (C := RX3) (T := TX3) (N := 2) hx hb hts tu_X3 tyX3 tyX3_ok nmX3 hown hSt.1 hP hD hS 0 rfl rfl 0 (by decide) (hts _ t1_109) (fun _ h9 => h9) rfl hin rfl (by decide +kernel) rfl rfl (Nat.le_of_ble_eq_true rfl) dX3_init_12 (fun H locs hP hD hS => ?_)
  have hP : va_P D vwCl (([(a, .inr (3, [.ref (j_2 0), .null]))] : va_W) ++ (wFl j_2 j_3 cI cZ cQ (fun _ => nI 0) (fun _ => nI 0) (fun _ => nI 0) (fun _ _ => nI 0) (fun _ => nI 0) (fun _ => nI 0) (nI 0) (nI 0))) H := hP
  have hD : va_D A (([(a, .inr (3, [.ref (j_2 0), .null]))] : va_W) ++ (wFl j_2 j_3 cI cZ cQ (fun _ => nI 0) (fun _ => nI 0) (fun _ => nI 0) (fun _ _ => nI 0) (fun _ => nI 0) (fun _ => nI 0) (nI 0) (nI 0))) := hD
  refine lv_aload_n hx hb dX3_init_15 rfl (lv_at hl 0 rfl) ?_
  refine va_new (ci := 5) (fs := [.null, .null, .null, .null, .int (nI 0)]) (C := RX5) (T := TX5) (N := 5) hx hb hts tu_X5 tyX5 tyX5_ok hown (hts _ t1_75) (hts _ t1_76) (hts _ t1_4) hSt.1 hP hD hS hA rfl (fun j hj => by rcases (show j = 0 ∨ j = 1 ∨ j = 2 ∨ j = 3 ∨ j = 4 by omega) with rfl | rfl | rfl | rfl | rfl <;> rfl) (Nat.le_of_ble_eq_true rfl) (Nat.le_of_ble_eq_true rfl) dX3_init_16 (fun q_6 H hP hD hS => ?_)
  have hP : va_P D vwCl ((([(a, .inr (3, [.ref (j_2 0), .null]))] : va_W) ++ (wFl j_2 j_3 cI cZ cQ (fun _ => nI 0) (fun _ => nI 0) (fun _ => nI 0) (fun _ _ => nI 0) (fun _ => nI 0) (fun _ => nI 0) (nI 0) (nI 0))) ++ ([(q_6, .inr (5, [.null, .null, .null, .null, .int (nI 0)]))] : va_W)) H := hP
  have hD : va_D A ((([(a, .inr (3, [.ref (j_2 0), .null]))] : va_W) ++ (wFl j_2 j_3 cI cZ cQ (fun _ => nI 0) (fun _ => nI 0) (fun _ => nI 0) (fun _ _ => nI 0) (fun _ => nI 0) (fun _ => nI 0) (nI 0) (nI 0))) ++ ([(q_6, .inr (5, [.null, .null, .null, .null, .int (nI 0)]))] : va_W)) := hD
  refine lv_dup hx hb dX3_init_19 rfl ?_
  refine rw_v (wr := ([(a, .inr (3, [.ref (j_2 0), .null]))] : va_W) ++ (wFl j_2 j_3 cI cZ cQ (fun _ => nI 0) (fun _ => nI 0) (fun _ => nI 0) (fun _ _ => nI 0) (fun _ => nI 0) (fun _ => nI 0) (nI 0) (nI 0))) (w_IN (As := []) ⟨hx, hb, hml, hown, hts⟩ (c_X5_init l D cI cZ cQ cJ q_6 H.size) (hSt.2.m 2 rfl) t1_78 t1_4 t1_79 rfl rfl hd_X5_init ⟨Nat.le_of_ble_eq_true rfl, Nat.le_of_ble_eq_true rfl⟩ (rw_pre hP hD hSt [15] rfl (by decide)) rfl hl.1 (rest := [.ref q_6, .ref a]) rfl (Nat.le_of_ble_eq_true rfl) dX3_init_20 ⟨Nat.le_of_ble_eq_true rfl, Nat.le_of_ble_eq_true rfl⟩) hP hD hS hA [15] [0, 1, 2, 3, 4, 5, 6, 7, 8, 9, 10, 11, 12, 13, 14] rfl rfl (by decide) (by decide) (fun u_11 H locs hw hP hD hS => ?_)
  obtain ⟨j_7, j_8, j_9, j_10⟩ := u_11
  have f_12 := hw
  have f_12x : j_7 0 = q_6 := f_12
  have hP : va_P D vwCl ((([(a, .inr (3, [.ref (j_2 0), .null]))] : va_W) ++ (wFl j_2 j_3 cI cZ cQ (fun _ => nI 0) (fun _ => nI 0) (fun _ => nI 0) (fun _ _ => nI 0) (fun _ => nI 0) (fun _ => nI 0) (nI 0) (nI 0))) ++ (wSt j_7 j_8 j_9 j_10 cI cQ (fun _ _ => nI 0) (fun _ => nI 0) (fun _ _ => nI 0) (fun _ _ => nI 0) (nI 0))) H := hP
  have hD : va_D A ((([(a, .inr (3, [.ref (j_2 0), .null]))] : va_W) ++ (wFl j_2 j_3 cI cZ cQ (fun _ => nI 0) (fun _ => nI 0) (fun _ => nI 0) (fun _ _ => nI 0) (fun _ => nI 0) (fun _ => nI 0) (nI 0) (nI 0))) ++ (wSt j_7 j_8 j_9 j_10 cI cQ (fun _ _ => nI 0) (fun _ => nI 0) (fun _ _ => nI 0) (fun _ _ => nI 0) (nI 0))) := hD
  have hP77 := hP
  have hD77 := hD
  subst f_12x
  have hP := hP77
  have hD := hD77
  refine va_putF (D := D) (ci := 3) (v := .ref (j_7 0)) (ty := (.object "DeskPlanner$Staff")) (C := RX3) (T := TX3) (N := 2) hx hb hts tu_X3 tyX3 tyX3_ok nmX3 hown hSt.1 hP hD hS 0 rfl rfl 1 (by decide) (hts _ t1_113) (fun _ h9 => h9) rfl hin rfl (by decide +kernel) rfl rfl (Nat.le_of_ble_eq_true rfl) dX3_init_23 (fun H locs hP hD hS => ?_)
  have hP : va_P D vwCl ((([(a, .inr (3, [.ref (j_2 0), .ref (j_7 0)]))] : va_W) ++ (wFl j_2 j_3 cI cZ cQ (fun _ => nI 0) (fun _ => nI 0) (fun _ => nI 0) (fun _ _ => nI 0) (fun _ => nI 0) (fun _ => nI 0) (nI 0) (nI 0))) ++ (wSt j_7 j_8 j_9 j_10 cI cQ (fun _ _ => nI 0) (fun _ => nI 0) (fun _ _ => nI 0) (fun _ _ => nI 0) (nI 0))) H := hP
  have hD : va_D A ((([(a, .inr (3, [.ref (j_2 0), .ref (j_7 0)]))] : va_W) ++ (wFl j_2 j_3 cI cZ cQ (fun _ => nI 0) (fun _ => nI 0) (fun _ => nI 0) (fun _ _ => nI 0) (fun _ => nI 0) (fun _ => nI 0) (nI 0) (nI 0))) ++ (wSt j_7 j_8 j_9 j_10 cI cQ (fun _ _ => nI 0) (fun _ => nI 0) (fun _ _ => nI 0) (fun _ _ => nI 0) (nI 0))) := hD
  have hP9 : va_P D vwCl ((wOf a (j_2 0) (j_7 0)) ++ ((wFl j_2 j_3 cI cZ cQ (fun _ => nI 0) (fun _ => nI 0) (fun _ => nI 0) (fun _ _ => nI 0) (fun _ => nI 0) (fun _ => nI 0) (nI 0) (nI 0)) ++ (wSt j_7 j_8 j_9 j_10 cI cQ (fun _ _ => nI 0) (fun _ => nI 0) (fun _ _ => nI 0) (fun _ _ => nI 0) (nI 0)))) H := (show va_P D vwCl ((wOf a (j_2 0) (j_7 0)) ++ ((wFl j_2 j_3 cI cZ cQ (fun _ => nI 0) (fun _ => nI 0) (fun _ => nI 0) (fun _ _ => nI 0) (fun _ => nI 0) (fun _ => nI 0) (nI 0) (nI 0)) ++ (wSt j_7 j_8 j_9 j_10 cI cQ (fun _ _ => nI 0) (fun _ => nI 0) (fun _ _ => nI 0) (fun _ _ => nI 0) (nI 0)))) H from hP)
  have hD9 : va_D A ((wOf a (j_2 0) (j_7 0)) ++ ((wFl j_2 j_3 cI cZ cQ (fun _ => nI 0) (fun _ => nI 0) (fun _ => nI 0) (fun _ _ => nI 0) (fun _ => nI 0) (fun _ => nI 0) (nI 0) (nI 0)) ++ (wSt j_7 j_8 j_9 j_10 cI cQ (fun _ _ => nI 0) (fun _ => nI 0) (fun _ _ => nI 0) (fun _ _ => nI 0) (nI 0)))) := (show va_D A ((wOf a (j_2 0) (j_7 0)) ++ ((wFl j_2 j_3 cI cZ cQ (fun _ => nI 0) (fun _ => nI 0) (fun _ => nI 0) (fun _ _ => nI 0) (fun _ => nI 0) (fun _ => nI 0) (nI 0) (nI 0)) ++ (wSt j_7 j_8 j_9 j_10 cI cQ (fun _ _ => nI 0) (fun _ => nI 0) (fun _ _ => nI 0) (fun _ _ => nI 0) (nI 0)))) from hD)
  refine W.widen (k := 40) (n := 436) (by omega) (by omega) ?_
  exact W.vret hx hb hr (fun t9 ht9 hW9 => ⟨⟨(j_2, j_3, j_7, j_8, j_9, j_10), rfl, trivial, by rw [ht9]; exact hP9, hD9⟩, hS.F ht9⟩) hS.2.2 dX3_init_26
set_option maxHeartbeats 4000000 in
set_option maxRecDepth 100000 in
/-- FullSearch() -/
theorem c_X2_init (l : Launch) (D : va_G) (cI cZ cQ cJ : ClassId) (a : Nat) (sz : Nat)  : Met l yX2_init (.code yX2_init cX2_init 1 none :: ALL) ({ frames := 2, cells := 5, slots := 23, locals := 43 } : Room) (va_Pc [.ref a] (rw_P D cI cZ cQ cJ ([(a, .inr (2, [.null, .null, .null, .int (nI 0), .int (nI 0)]))] : va_W) sz)) (va_Qv (fun u9 : (Nat → Nat) => u9 0 = a) (rw_B D (va_A ([(a, .inr (2, [.null, .null, .null, .int (nI 0), .int (nI 0)]))] : va_W) sz) (fun u9 : (Nat → Nat) => wFs u9 cI cZ (fun _ => (-1 : Int32)) (fun _ => (-1 : Int32)) (fun _ => nI 0) (nI 0) (-1 : Int32))) (va_A ([(a, .inr (2, [.null, .null, .null, .int (nI 0), .int (nI 0)]))] : va_W) sz)) 5 23 (va_A ([(a, .inr (2, [.null, .null, .null, .int (nI 0), .int (nI 0)]))] : va_W) sz) := by
  refine Met.ofW (cc := cX2_init) (maxL := 1) (ret := none) (by decide) rfl ?_
  intro p e s m args below meth c s₁ B hml hv
  obtain ⟨rfl, hsz, hP, hSt, hD0⟩ := hv
  have hx := B.exec
  have hb := B.bytes
  have hr := B.returns
  have hts : ∀ w ∈ ALL, w.before ([.ref a] : List Value).toArray s = true := fun w h => atoms_spec (ws := (.code yX2_init cX2_init 1 none :: ALL)) B.pre w (List.mem_cons_of_mem _ h)
  have hown : s.vm.findClass RX2 = some m.cls := findClass_of_methodNamed B.named
  have hlocks := B.notSynchronized
  have hin : meth.name = "<init>" := (name_of_methodNamed B.named B.method).1
  subst hsz
  have hD := hD0.self (sz := s.heap.size)
  clear hD0
  generalize hAe : va_A ([(a, .inr (2, [.null, .null, .null, .int (nI 0), .int (nI 0)]))] : va_W) s.heap.size = A at hD ⊢
  have hA : ∀ q : Nat, s.heap.size ≤ q → A q := fun q h => by rw [← hAe]; exact Or.inr h
  have hS : va_S A s.heap s.heap [] := va_S.rf
  have hl := lv_entry ([.ref a]) (n := 1) (Nat.le_of_ble_eq_true rfl)
  rw [lg_entry_eq]
  generalize (lg_sl ([.ref a]) ++ List.replicate (1 - (lg_sl ([.ref a])).length) Slot.unset).toArray = ls at hl ⊢
  have hl : lv_has ls 1 [(0, .ref a)] := hl
  obtain ⟨H, hHe⟩ : ∃ H : Heap, H = s.heap := ⟨_, rfl⟩
  obtain ⟨locs, hLe⟩ : ∃ L : List Loc, L = [] := ⟨_, rfl⟩
  have hP : va_P D vwCl ([(a, .inr (2, [.null, .null, .null, .int (nI 0), .int (nI 0)]))] : va_W) H := by rw [hHe]; exact hP
  have hS : va_S A s.heap H locs := by rw [hHe, hLe]; exact hS
  refine W.eqHL hHe hLe ?_
  refine lv_aload_n hx hb dX2_init_0 rfl (lv_at hl 0 rfl) ?_
  refine W.objInit hx hb hown (hts _ t1_140) (hts _ t1_25) (hts _ t1_26) rfl (by rw [hml]; exact hl.1) rfl dX2_init_1 (Nat.le_of_ble_eq_true rfl) (Nat.le_of_ble_eq_true rfl) ?_
  refine W.eq (g2 := F0 m 4 ls []) rfl ?_
  refine lv_aload_n hx hb dX2_init_4 rfl (lv_at hl 0 rfl) ?_
  refine va_new (ci := 4) (fs := [.null]) (C := RX4) (T := TX4) (N := 1) hx hb hts tu_X4 tyX4 tyX4_ok hown (hts _ t1_141) (hts _ t1_123) (hts _ t1_5) hSt.1 hP hD hS hA rfl (fun j hj => by rcases (show j = 0 by omega) with rfl <;> rfl) (Nat.le_of_ble_eq_true rfl) (Nat.le_of_ble_eq_true rfl) dX2_init_5 (fun q_1 H hP hD hS => ?_)
  have hP : va_P D vwCl (([(a, .inr (2, [.null, .null, .null, .int (nI 0), .int (nI 0)]))] : va_W) ++ ([(q_1, .inr (4, [.null]))] : va_W)) H := hP
  have hD : va_D A (([(a, .inr (2, [.null, .null, .null, .int (nI 0), .int (nI 0)]))] : va_W) ++ ([(q_1, .inr (4, [.null]))] : va_W)) := hD
  refine lv_dup hx hb dX2_init_8 rfl ?_
  refine rw_v (wr := ([(a, .inr (2, [.null, .null, .null, .int (nI 0), .int (nI 0)]))] : va_W)) (w_I (As := []) ⟨hx, hb, hml, hown, hts⟩ (c_X4_init l D cI cZ cQ cJ q_1 H.size) t1_142 t1_125 t1_5 t1_126 rfl rfl hd_X4_init ⟨Nat.le_of_ble_eq_true rfl, Nat.le_of_ble_eq_true rfl⟩ (rw_pre hP hD hSt [1] rfl (by decide)) rfl hl.1 (rest := [.ref q_1, .ref a]) rfl (Nat.le_of_ble_eq_true rfl) dX2_init_9 ⟨Nat.le_of_ble_eq_true rfl, Nat.le_of_ble_eq_true rfl⟩) hP hD hS hA [1] [0] rfl rfl (by decide) (by decide) (fun u_3 H locs hw hP hD hS => ?_)
  obtain ⟨j_2, rfl⟩ : ∃ z9, z9 = u_3 := ⟨_, rfl⟩
  have hP : va_P D vwCl (([(a, .inr (2, [.null, .null, .null, .int (nI 0), .int (nI 0)]))] : va_W) ++ (wPl q_1 j_2 cI (fun _ => (-1 : Int32)))) H := hP
  have hD : va_D A (([(a, .inr (2, [.null, .null, .null, .int (nI 0), .int (nI 0)]))] : va_W) ++ (wPl q_1 j_2 cI (fun _ => (-1 : Int32)))) := hD
  refine va_putF (D := D) (ci := 2) (v := .ref q_1) (ty := (.object "DeskPlanner$Placement")) (C := RX2) (T := TX2) (N := 5) hx hb hts tu_X2 tyX2 tyX2_ok nmX2 hown hSt.1 hP hD hS 0 rfl rfl 0 (by decide) (hts _ t1_143) (fun _ h9 => h9) rfl hin rfl (by decide +kernel) rfl rfl (Nat.le_of_ble_eq_true rfl) dX2_init_12 (fun H locs hP hD hS => ?_)
  have hP : va_P D vwCl (([(a, .inr (2, [.ref q_1, .null, .null, .int (nI 0), .int (nI 0)]))] : va_W) ++ (wPl q_1 j_2 cI (fun _ => (-1 : Int32)))) H := hP
  have hD : va_D A (([(a, .inr (2, [.ref q_1, .null, .null, .int (nI 0), .int (nI 0)]))] : va_W) ++ (wPl q_1 j_2 cI (fun _ => (-1 : Int32)))) := hD
  refine lv_aload_n hx hb dX2_init_15 rfl (lv_at hl 0 rfl) ?_
  refine va_new (ci := 4) (fs := [.null]) (C := RX4) (T := TX4) (N := 1) hx hb hts tu_X4 tyX4 tyX4_ok hown (hts _ t1_141) (hts _ t1_123) (hts _ t1_5) hSt.1 hP hD hS hA rfl (fun j hj => by rcases (show j = 0 by omega) with rfl <;> rfl) (Nat.le_of_ble_eq_true rfl) (Nat.le_of_ble_eq_true rfl) dX2_init_16 (fun q_4 H hP hD hS => ?_)
  have hP : va_P D vwCl ((([(a, .inr (2, [.ref q_1, .null, .null, .int (nI 0), .int (nI 0)]))] : va_W) ++ (wPl q_1 j_2 cI (fun _ => (-1 : Int32)))) ++ ([(q_4, .inr (4, [.null]))] : va_W)) H := hP
  have hD : va_D A ((([(a, .inr (2, [.ref q_1, .null, .null, .int (nI 0), .int (nI 0)]))] : va_W) ++ (wPl q_1 j_2 cI (fun _ => (-1 : Int32)))) ++ ([(q_4, .inr (4, [.null]))] : va_W)) := hD
  refine lv_dup hx hb dX2_init_19 rfl ?_
  refine rw_v (wr := ([(a, .inr (2, [.ref q_1, .null, .null, .int (nI 0), .int (nI 0)]))] : va_W) ++ (wPl q_1 j_2 cI (fun _ => (-1 : Int32)))) (w_I (As := []) ⟨hx, hb, hml, hown, hts⟩ (c_X4_init l D cI cZ cQ cJ q_4 H.size) t1_142 t1_125 t1_5 t1_126 rfl rfl hd_X4_init ⟨Nat.le_of_ble_eq_true rfl, Nat.le_of_ble_eq_true rfl⟩ (rw_pre hP hD hSt [3] rfl (by decide)) rfl hl.1 (rest := [.ref q_4, .ref a]) rfl (Nat.le_of_ble_eq_true rfl) dX2_init_20 ⟨Nat.le_of_ble_eq_true rfl, Nat.le_of_ble_eq_true rfl⟩) hP hD hS hA [3] [0, 1, 2] rfl rfl (by decide) (by decide) (fun u_6 H locs hw hP hD hS => ?_)
  obtain ⟨j_5, rfl⟩ : ∃ z9, z9 = u_6 := ⟨_, rfl⟩
  have hP : va_P D vwCl ((([(a, .inr (2, [.ref q_1, .null, .null, .int (nI 0), .int (nI 0)]))] : va_W) ++ (wPl q_1 j_2 cI (fun _ => (-1 : Int32)))) ++ (wPl q_4 j_5 cI (fun _ => (-1 : Int32)))) H := hP
  have hD : va_D A ((([(a, .inr (2, [.ref q_1, .null, .null, .int (nI 0), .int (nI 0)]))] : va_W) ++ (wPl q_1 j_2 cI (fun _ => (-1 : Int32)))) ++ (wPl q_4 j_5 cI (fun _ => (-1 : Int32)))) := hD
  refine va_putF (D := D) (ci := 2) (v := .ref q_4) (ty := (.object "DeskPlanner$Placement")) (C := RX2) (T := TX2) (N := 5) hx hb hts tu_X2 tyX2 tyX2_ok nmX2 hown hSt.1 hP hD hS 0 rfl rfl 1 (by decide) (hts _ t1_144) (fun _ h9 => h9) rfl hin rfl (by decide +kernel) rfl rfl (Nat.le_of_ble_eq_true rfl) dX2_init_23 (fun H locs hP hD hS => ?_)
  have hP : va_P D vwCl ((([(a, .inr (2, [.ref q_1, .ref q_4, .null, .int (nI 0), .int (nI 0)]))] : va_W) ++ (wPl q_1 j_2 cI (fun _ => (-1 : Int32)))) ++ (wPl q_4 j_5 cI (fun _ => (-1 : Int32)))) H := hP
  have hD : va_D A ((([(a, .inr (2, [.ref q_1, .ref q_4, .null, .int (nI 0), .int (nI 0)]))] : va_W) ++ (wPl q_1 j_2 cI (fun _ => (-1 : Int32)))) ++ (wPl q_4 j_5 cI (fun _ => (-1 : Int32)))) := hD
  refine lv_aload_n hx hb dX2_init_26 rfl (lv_at hl 0 rfl) ?_
  refine lv_bipush (v := nI 7) hx hb dX2_init_27 (by decide) ?_
  refine r_newZ hx hb (hts _ t1_73) hSt hP hD hS hA (N := 7) (by omega) (Nat.le_of_ble_eq_true rfl) (Nat.le_of_ble_eq_true rfl) dX2_init_29 (fun q_7 H hP hD hS => ?_)
  have hP : va_P D vwCl (((([(a, .inr (2, [.ref q_1, .ref q_4, .null, .int (nI 0), .int (nI 0)]))] : va_W) ++ (wPl q_1 j_2 cI (fun _ => (-1 : Int32)))) ++ (wPl q_4 j_5 cI (fun _ => (-1 : Int32)))) ++ ([(q_7, .inl (cZ, 7, .inl (fun _ => nI 0)))] : va_W)) H := hP
  have hD : va_D A (((([(a, .inr (2, [.ref q_1, .ref q_4, .null, .int (nI 0), .int (nI 0)]))] : va_W) ++ (wPl q_1 j_2 cI (fun _ => (-1 : Int32)))) ++ (wPl q_4 j_5 cI (fun _ => (-1 : Int32)))) ++ ([(q_7, .inl (cZ, 7, .inl (fun _ => nI 0)))] : va_W)) := hD
  refine va_putF (D := D) (ci := 2) (v := .ref q_7) (ty := (.array .boolean)) (C := RX2) (T := TX2) (N := 5) hx hb hts tu_X2 tyX2 tyX2_ok nmX2 hown hSt.1 hP hD hS 0 rfl rfl 2 (by decide) (hts _ t1_146) (fun _ h9 => h9) rfl hin rfl (by decide +kernel) rfl rfl (Nat.le_of_ble_eq_true rfl) dX2_init_31 (fun H locs hP hD hS => ?_)
  have hP : va_P D vwCl (((([(a, .inr (2, [.ref q_1, .ref q_4, .ref q_7, .int (nI 0), .int (nI 0)]))] : va_W) ++ (wPl q_1 j_2 cI (fun _ => (-1 : Int32)))) ++ (wPl q_4 j_5 cI (fun _ => (-1 : Int32)))) ++ ([(q_7, .inl (cZ, 7, .inl (fun _ => nI 0)))] : va_W)) H := hP
  have hD : va_D A (((([(a, .inr (2, [.ref q_1, .ref q_4, .ref q_7, .int (nI 0), .int (nI 0)]))] : va_W) ++ (wPl q_1 j_2 cI (fun _ => (-1 : Int32)))) ++ (wPl q_4 j_5 cI (fun _ => (-1 : Int32)))) ++ ([(q_7, .inl (cZ, 7, .inl (fun _ => nI 0)))] : va_W)) := hD
  refine lv_aload_n hx hb dX2_init_34 rfl (lv_at hl 0 rfl) ?_
  refine lv_iconst (v := nI 0) hx hb dX2_init_35 (by decide) ?_
  refine va_put (D := D) (ci := 2) (v := .int (nI 0)) (ty := .boolean) (C := RX2) (T := TX2) (N := 5) hx hb hts tu_X2 tyX2 tyX2_ok nmX2 hown hSt.1 hP hD hS 0 rfl rfl 3 (by decide) (hts _ t1_147) (fun _ h9 => h9) rfl (by decide +kernel) rfl rfl (Nat.le_of_ble_eq_true rfl) dX2_init_36 (fun H locs hP hD hS => ?_)
  have hP : va_P D vwCl (((([(a, .inr (2, [.ref q_1, .ref q_4, .ref q_7, .int (nI 0), .int (nI 0)]))] : va_W) ++ (wPl q_1 j_2 cI (fun _ => (-1 : Int32)))) ++ (wPl q_4 j_5 cI (fun _ => (-1 : Int32)))) ++ ([(q_7, .inl (cZ, 7, .inl (fun _ => nI 0)))] : va_W)) H := hP
  have hD : va_D A (((([(a, .inr (2, [.ref q_1, .ref q_4, .ref q_7, .int (nI 0), .int (nI 0)]))] : va_W) ++ (wPl q_1 j_2 cI (fun _ => (-1 : Int32)))) ++ (wPl q_4 j_5 cI (fun _ => (-1 : Int32)))) ++ ([(q_7, .inl (cZ, 7, .inl (fun _ => nI 0)))] : va_W)) := hD
  refine lv_aload_n hx hb dX2_init_39 rfl (lv_at hl 0 rfl) ?_
  refine lv_iconst (v := (-1 : Int32)) hx hb dX2_init_40 (by decide) ?_
  refine va_put (D := D) (ci := 2) (v := .int (-1 : Int32)) (ty := .int) (C := RX2) (T := TX2) (N := 5) hx hb hts tu_X2 tyX2 tyX2_ok nmX2 hown hSt.1 hP hD hS 0 rfl rfl 4 (by decide) (hts _ t1_148) (fun _ h9 => h9) rfl (by decide +kernel) rfl rfl (Nat.le_of_ble_eq_true rfl) dX2_init_41 (fun H locs hP hD hS => ?_)
  have hP : va_P D vwCl (((([(a, .inr (2, [.ref q_1, .ref q_4, .ref q_7, .int (nI 0), .int (-1 : Int32)]))] : va_W) ++ (wPl q_1 j_2 cI (fun _ => (-1 : Int32)))) ++ (wPl q_4 j_5 cI (fun _ => (-1 : Int32)))) ++ ([(q_7, .inl (cZ, 7, .inl (fun _ => nI 0)))] : va_W)) H := hP
  have hD : va_D A (((([(a, .inr (2, [.ref q_1, .ref q_4, .ref q_7, .int (nI 0), .int (-1 : Int32)]))] : va_W) ++ (wPl q_1 j_2 cI (fun _ => (-1 : Int32)))) ++ (wPl q_4 j_5 cI (fun _ => (-1 : Int32)))) ++ ([(q_7, .inl (cZ, 7, .inl (fun _ => nI 0)))] : va_W)) := hD
  have hP9 : va_P D vwCl (wFs (adl [a, q_1, j_2, q_4, j_5, q_7]) cI cZ (fun _ => (-1 : Int32)) (fun _ => (-1 : Int32)) (fun _ => nI 0) (nI 0) (-1 : Int32)) H := (show va_P D vwCl (wFs (adl [a, q_1, j_2, q_4, j_5, q_7]) cI cZ (fun _ => (-1 : Int32)) (fun _ => (-1 : Int32)) (fun _ => nI 0) (nI 0) (-1 : Int32)) H from hP)
  have hD9 : va_D A (wFs (adl [a, q_1, j_2, q_4, j_5, q_7]) cI cZ (fun _ => (-1 : Int32)) (fun _ => (-1 : Int32)) (fun _ => nI 0) (nI 0) (-1 : Int32)) := (show va_D A (wFs (adl [a, q_1, j_2, q_4, j_5, q_7]) cI cZ (fun _ => (-1 : Int32)) (fun _ => (-1 : Int32)) (fun _ => nI 0) (nI 0) (-1 : Int32)) from hD)
  refine W.widen (k := 5) (n := 23) (by omega) (by omega) ?_
  exact W.vret hx hb hr (fun t9 ht9 hW9 => ⟨⟨(adl [a, q_1, j_2, q_4, j_5, q_7]), rfl, rfl, by rw [ht9]; exact hP9, hD9⟩, hS.F ht9⟩) hS.2.2 dX2_init_44
set_option maxHeartbeats 4000000 in
set_option maxRecDepth 100000 in
/-- StepSearch() -/
theorem c_X6_init (l : Launch) (D : va_G) (cI cZ cQ cJ : ClassId) (a : Nat) (sz : Nat)  : Met l yX6_init (.code yX6_init cX6_init 1 none :: ALL) ({ frames := 2, cells := 6, slots := 28, locals := 43 } : Room) (va_Pc [.ref a] (rw_P D cI cZ cQ cJ ([(a, .inr (6, [.null, .null, .null, .null]))] : va_W) sz)) (va_Qv (fun u9 : (Nat → Nat) => u9 0 = a) (rw_B D (va_A ([(a, .inr (6, [.null, .null, .null, .null]))] : va_W) sz) (fun u9 : (Nat → Nat) => wSs u9 cI (fun _ => (-1 : Int32)) (fun _ => (-1 : Int32)) (fun _ => nI 0) (nI 0) (nI 0) (-1 : Int32) (nI 0) (nI 0))) (va_A ([(a, .inr (6, [.null, .null, .null, .null]))] : va_W) sz)) 6 28 (va_A ([(a, .inr (6, [.null, .null, .null, .null]))] : va_W) sz) := by
  refine Met.ofW (cc := cX6_init) (maxL := 1) (ret := none) (by decide) rfl ?_
  intro p e s m args below meth c s₁ B hml hv
  obtain ⟨rfl, hsz, hP, hSt, hD0⟩ := hv
  have hx := B.exec
  have hb := B.bytes
  have hr := B.returns
  have hts : ∀ w ∈ ALL, w.before ([.ref a] : List Value).toArray s = true := fun w h => atoms_spec (ws := (.code yX6_init cX6_init 1 none :: ALL)) B.pre w (List.mem_cons_of_mem _ h)
  have hown : s.vm.findClass RX6 = some m.cls := findClass_of_methodNamed B.named
  have hlocks := B.notSynchronized
  have hin : meth.name = "<init>" := (name_of_methodNamed B.named B.method).1
  subst hsz
  have hD := hD0.self (sz := s.heap.size)
  clear hD0
  generalize hAe : va_A ([(a, .inr (6, [.null, .null, .null, .null]))] : va_W) s.heap.size = A at hD ⊢
  have hA : ∀ q : Nat, s.heap.size ≤ q → A q := fun q h => by rw [← hAe]; exact Or.inr h
  have hS : va_S A s.heap s.heap [] := va_S.rf
  have hl := lv_entry ([.ref a]) (n := 1) (Nat.le_of_ble_eq_true rfl)
  rw [lg_entry_eq]
  generalize (lg_sl ([.ref a]) ++ List.replicate (1 - (lg_sl ([.ref a])).length) Slot.unset).toArray = ls at hl ⊢
  have hl : lv_has ls 1 [(0, .ref a)] := hl
  obtain ⟨H, hHe⟩ : ∃ H : Heap, H = s.heap := ⟨_, rfl⟩
  obtain ⟨locs, hLe⟩ : ∃ L : List Loc, L = [] := ⟨_, rfl⟩
  have hP : va_P D vwCl ([(a, .inr (6, [.null, .null, .null, .null]))] : va_W) H := by rw [hHe]; exact hP
  have hS : va_S A s.heap H locs := by rw [hHe, hLe]; exact hS
  refine W.eqHL hHe hLe ?_
  refine lv_aload_n hx hb dX6_init_0 rfl (lv_at hl 0 rfl) ?_
  refine W.objInit hx hb hown (hts _ t1_165) (hts _ t1_25) (hts _ t1_26) rfl (by rw [hml]; exact hl.1) rfl dX6_init_1 (Nat.le_of_ble_eq_true rfl) (Nat.le_of_ble_eq_true rfl) ?_
  refine W.eq (g2 := F0 m 4 ls []) rfl ?_
  refine lv_aload_n hx hb dX6_init_4 rfl (lv_at hl 0 rfl) ?_
  refine va_new (ci := 4) (fs := [.null]) (C := RX4) (T := TX4) (N := 1) hx hb hts tu_X4 tyX4 tyX4_ok hown (hts _ t1_166) (hts _ t1_123) (hts _ t1_5) hSt.1 hP hD hS hA rfl (fun j hj => by rcases (show j = 0 by omega) with rfl <;> rfl) (Nat.le_of_ble_eq_true rfl) (Nat.le_of_ble_eq_true rfl) dX6_init_5 (fun q_1 H hP hD hS => ?_)
  have hP : va_P D vwCl (([(a, .inr (6, [.null, .null, .null, .null]))] : va_W) ++ ([(q_1, .inr (4, [.null]))] : va_W)) H := hP
  have hD : va_D A (([(a, .inr (6, [.null, .null, .null, .null]))] : va_W) ++ ([(q_1, .inr (4, [.null]))] : va_W)) := hD
  refine lv_dup hx hb dX6_init_8 rfl ?_
  refine rw_v (wr := ([(a, .inr (6, [.null, .null, .null, .null]))] : va_W)) (w_I (As := []) ⟨hx, hb, hml, hown, hts⟩ (c_X4_init l D cI cZ cQ cJ q_1 H.size) t1_167 t1_125 t1_5 t1_126 rfl rfl hd_X4_init ⟨Nat.le_of_ble_eq_true rfl, Nat.le_of_ble_eq_true rfl⟩ (rw_pre hP hD hSt [1] rfl (by decide)) rfl hl.1 (rest := [.ref q_1, .ref a]) rfl (Nat.le_of_ble_eq_true rfl) dX6_init_9 ⟨Nat.le_of_ble_eq_true rfl, Nat.le_of_ble_eq_true rfl⟩) hP hD hS hA [1] [0] rfl rfl (by decide) (by decide) (fun u_3 H locs hw hP hD hS => ?_)
  obtain ⟨j_2, rfl⟩ : ∃ z9, z9 = u_3 := ⟨_, rfl⟩
  have hP : va_P D vwCl (([(a, .inr (6, [.null, .null, .null, .null]))] : va_W) ++ (wPl q_1 j_2 cI (fun _ => (-1 : Int32)))) H := hP
  have hD : va_D A (([(a, .inr (6, [.null, .null, .null, .null]))] : va_W) ++ (wPl q_1 j_2 cI (fun _ => (-1 : Int32)))) := hD
  refine va_putF (D := D) (ci := 6) (v := .ref q_1) (ty := (.object "DeskPlanner$Placement")) (C := RX6) (T := TX6) (N := 4) hx hb hts tu_X6 tyX6 tyX6_ok nmX6 hown hSt.1 hP hD hS 0 rfl rfl 0 (by decide) (hts _ t1_195) (fun _ h9 => h9) rfl hin rfl (by decide +kernel) rfl rfl (Nat.le_of_ble_eq_true rfl) dX6_init_12 (fun H locs hP hD hS => ?_)
  have hP : va_P D vwCl (([(a, .inr (6, [.ref q_1, .null, .null, .null]))] : va_W) ++ (wPl q_1 j_2 cI (fun _ => (-1 : Int32)))) H := hP
  have hD : va_D A (([(a, .inr (6, [.ref q_1, .null, .null, .null]))] : va_W) ++ (wPl q_1 j_2 cI (fun _ => (-1 : Int32)))) := hD
  refine lv_aload_n hx hb dX6_init_15 rfl (lv_at hl 0 rfl) ?_
  refine va_new (ci := 4) (fs := [.null]) (C := RX4) (T := TX4) (N := 1) hx hb hts tu_X4 tyX4 tyX4_ok hown (hts _ t1_166) (hts _ t1_123) (hts _ t1_5) hSt.1 hP hD hS hA rfl (fun j hj => by rcases (show j = 0 by omega) with rfl <;> rfl) (Nat.le_of_ble_eq_true rfl) (Nat.le_of_ble_eq_true rfl) dX6_init_16 (fun q_4 H hP hD hS => ?_)
  have hP : va_P D vwCl ((([(a, .inr (6, [.ref q_1, .null, .null, .null]))] : va_W) ++ (wPl q_1 j_2 cI (fun _ => (-1 : Int32)))) ++ ([(q_4, .inr (4, [.null]))] : va_W)) H := hP
  have hD : va_D A ((([(a, .inr (6, [.ref q_1, .null, .null, .null]))] : va_W) ++ (wPl q_1 j_2 cI (fun _ => (-1 : Int32)))) ++ ([(q_4, .inr (4, [.null]))] : va_W)) := hD
  refine lv_dup hx hb dX6_init_19 rfl ?_
  refine rw_v (wr := ([(a, .inr (6, [.ref q_1, .null, .null, .null]))] : va_W) ++ (wPl q_1 j_2 cI (fun _ => (-1 : Int32)))) (w_I (As := []) ⟨hx, hb, hml, hown, hts⟩ (c_X4_init l D cI cZ cQ cJ q_4 H.size) t1_167 t1_125 t1_5 t1_126 rfl rfl hd_X4_init ⟨Nat.le_of_ble_eq_true rfl, Nat.le_of_ble_eq_true rfl⟩ (rw_pre hP hD hSt [3] rfl (by decide)) rfl hl.1 (rest := [.ref q_4, .ref a]) rfl (Nat.le_of_ble_eq_true rfl) dX6_init_20 ⟨Nat.le_of_ble_eq_true rfl, Nat.le_of_ble_eq_true rfl⟩) hP hD hS hA [3] [0, 1, 2] rfl rfl (by decide) (by decide) (fun u_6 H locs hw hP hD hS => ?_)
  obtain ⟨j_5, rfl⟩ : ∃ z9, z9 = u_6 := ⟨_, rfl⟩
  have hP : va_P D vwCl ((([(a, .inr (6, [.ref q_1, .null, .null, .null]))] : va_W) ++ (wPl q_1 j_2 cI (fun _ => (-1 : Int32)))) ++ (wPl q_4 j_5 cI (fun _ => (-1 : Int32)))) H := hP
  have hD : va_D A ((([(a, .inr (6, [.ref q_1, .null, .null, .null]))] : va_W) ++ (wPl q_1 j_2 cI (fun _ => (-1 : Int32)))) ++ (wPl q_4 j_5 cI (fun _ => (-1 : Int32)))) := hD
  refine va_putF (D := D) (ci := 6) (v := .ref q_4) (ty := (.object "DeskPlanner$Placement")) (C := RX6) (T := TX6) (N := 4) hx hb hts tu_X6 tyX6 tyX6_ok nmX6 hown hSt.1 hP hD hS 0 rfl rfl 1 (by decide) (hts _ t1_196) (fun _ h9 => h9) rfl hin rfl (by decide +kernel) rfl rfl (Nat.le_of_ble_eq_true rfl) dX6_init_23 (fun H locs hP hD hS => ?_)
  have hP : va_P D vwCl ((([(a, .inr (6, [.ref q_1, .ref q_4, .null, .null]))] : va_W) ++ (wPl q_1 j_2 cI (fun _ => (-1 : Int32)))) ++ (wPl q_4 j_5 cI (fun _ => (-1 : Int32)))) H := hP
  have hD : va_D A ((([(a, .inr (6, [.ref q_1, .ref q_4, .null, .null]))] : va_W) ++ (wPl q_1 j_2 cI (fun _ => (-1 : Int32)))) ++ (wPl q_4 j_5 cI (fun _ => (-1 : Int32)))) := hD
  refine lv_aload_n hx hb dX6_init_26 rfl (lv_at hl 0 rfl) ?_
  refine lv_bipush (v := nI 7) hx hb dX6_init_27 (by decide) ?_
  refine r_newI hx hb (hts _ t1_74) hSt hP hD hS hA (N := 7) (by omega) (Nat.le_of_ble_eq_true rfl) (Nat.le_of_ble_eq_true rfl) dX6_init_29 (fun q_7 H hP hD hS => ?_)
  have hP : va_P D vwCl (((([(a, .inr (6, [.ref q_1, .ref q_4, .null, .null]))] : va_W) ++ (wPl q_1 j_2 cI (fun _ => (-1 : Int32)))) ++ (wPl q_4 j_5 cI (fun _ => (-1 : Int32)))) ++ ([(q_7, .inl (cI, 7, .inl (fun _ => nI 0)))] : va_W)) H := hP
  have hD : va_D A (((([(a, .inr (6, [.ref q_1, .ref q_4, .null, .null]))] : va_W) ++ (wPl q_1 j_2 cI (fun _ => (-1 : Int32)))) ++ (wPl q_4 j_5 cI (fun _ => (-1 : Int32)))) ++ ([(q_7, .inl (cI, 7, .inl (fun _ => nI 0)))] : va_W)) := hD
  refine va_putF (D := D) (ci := 6) (v := .ref q_7) (ty := (.array .int)) (C := RX6) (T := TX6) (N := 4) hx hb hts tu_X6 tyX6 tyX6_ok nmX6 hown hSt.1 hP hD hS 0 rfl rfl 2 (by decide) (hts _ t1_198) (fun _ h9 => h9) rfl hin rfl (by decide +kernel) rfl rfl (Nat.le_of_ble_eq_true rfl) dX6_init_31 (fun H locs hP hD hS => ?_)
  have hP : va_P D vwCl (((([(a, .inr (6, [.ref q_1, .ref q_4, .ref q_7, .null]))] : va_W) ++ (wPl q_1 j_2 cI (fun _ => (-1 : Int32)))) ++ (wPl q_4 j_5 cI (fun _ => (-1 : Int32)))) ++ ([(q_7, .inl (cI, 7, .inl (fun _ => nI 0)))] : va_W)) H := hP
  have hD : va_D A (((([(a, .inr (6, [.ref q_1, .ref q_4, .ref q_7, .null]))] : va_W) ++ (wPl q_1 j_2 cI (fun _ => (-1 : Int32)))) ++ (wPl q_4 j_5 cI (fun _ => (-1 : Int32)))) ++ ([(q_7, .inl (cI, 7, .inl (fun _ => nI 0)))] : va_W)) := hD
  refine lv_aload_n hx hb dX6_init_34 rfl (lv_at hl 0 rfl) ?_
  refine va_new (ci := 0) (fs := [.int (nI 0), .int (nI 0), .int (nI 0), .int (nI 0), .int (nI 0)]) (C := RX0) (T := TX0) (N := 5) hx hb hts tu_X0 tyX0 tyX0_ok hown (hts _ t1_168) (hts _ t1_169) (hts _ t1_9) hSt.1 hP hD hS hA rfl (fun j hj => by rcases (show j = 0 ∨ j = 1 ∨ j = 2 ∨ j = 3 ∨ j = 4 by omega) with rfl | rfl | rfl | rfl | rfl <;> rfl) (Nat.le_of_ble_eq_true rfl) (Nat.le_of_ble_eq_true rfl) dX6_init_35 (fun q_8 H hP hD hS => ?_)
  have hP : va_P D vwCl ((((([(a, .inr (6, [.ref q_1, .ref q_4, .ref q_7, .null]))] : va_W) ++ (wPl q_1 j_2 cI (fun _ => (-1 : Int32)))) ++ (wPl q_4 j_5 cI (fun _ => (-1 : Int32)))) ++ ([(q_7, .inl (cI, 7, .inl (fun _ => nI 0)))] : va_W)) ++ ([(q_8, .inr (0, [.int (nI 0), .int (nI 0), .int (nI 0), .int (nI 0), .int (nI 0)]))] : va_W)) H := hP
  have hD : va_D A ((((([(a, .inr (6, [.ref q_1, .ref q_4, .ref q_7, .null]))] : va_W) ++ (wPl q_1 j_2 cI (fun _ => (-1 : Int32)))) ++ (wPl q_4 j_5 cI (fun _ => (-1 : Int32)))) ++ ([(q_7, .inl (cI, 7, .inl (fun _ => nI 0)))] : va_W)) ++ ([(q_8, .inr (0, [.int (nI 0), .int (nI 0), .int (nI 0), .int (nI 0), .int (nI 0)]))] : va_W)) := hD
  refine lv_dup hx hb dX6_init_38 rfl ?_
  refine rw_v (wr := ((([(a, .inr (6, [.ref q_1, .ref q_4, .ref q_7, .null]))] : va_W) ++ (wPl q_1 j_2 cI (fun _ => (-1 : Int32)))) ++ (wPl q_4 j_5 cI (fun _ => (-1 : Int32)))) ++ ([(q_7, .inl (cI, 7, .inl (fun _ => nI 0)))] : va_W)) (w_IN (As := []) ⟨hx, hb, hml, hown, hts⟩ (c_X0_init l D cI cZ cQ cJ q_8 H.size) (hSt.2.m 5 rfl) t1_171 t1_9 t1_172 rfl rfl hd_X0_init ⟨Nat.le_of_ble_eq_true rfl, Nat.le_of_ble_eq_true rfl⟩ (rw_pre hP hD hSt [6] rfl (by decide)) rfl hl.1 (rest := [.ref q_8, .ref a]) rfl (Nat.le_of_ble_eq_true rfl) dX6_init_39 ⟨Nat.le_of_ble_eq_true rfl, Nat.le_of_ble_eq_true rfl⟩) hP hD hS hA [6] [0, 1, 2, 3, 4, 5] rfl rfl (by decide) (by decide) (fun u_9 H locs hw hP hD hS => ?_)
  have hP : va_P D vwCl ((((([(a, .inr (6, [.ref q_1, .ref q_4, .ref q_7, .null]))] : va_W) ++ (wPl q_1 j_2 cI (fun _ => (-1 : Int32)))) ++ (wPl q_4 j_5 cI (fun _ => (-1 : Int32)))) ++ ([(q_7, .inl (cI, 7, .inl (fun _ => nI 0)))] : va_W)) ++ (wCh q_8 (nI 0) (nI 0) (-1 : Int32) (nI 0) (nI 0))) H := hP
  have hD : va_D A ((((([(a, .inr (6, [.ref q_1, .ref q_4, .ref q_7, .null]))] : va_W) ++ (wPl q_1 j_2 cI (fun _ => (-1 : Int32)))) ++ (wPl q_4 j_5 cI (fun _ => (-1 : Int32)))) ++ ([(q_7, .inl (cI, 7, .inl (fun _ => nI 0)))] : va_W)) ++ (wCh q_8 (nI 0) (nI 0) (-1 : Int32) (nI 0) (nI 0))) := hD
  refine va_putF (D := D) (ci := 6) (v := .ref q_8) (ty := (.object "DeskPlanner$Change")) (C := RX6) (T := TX6) (N := 4) hx hb hts tu_X6 tyX6 tyX6_ok nmX6 hown hSt.1 hP hD hS 0 rfl rfl 3 (by decide) (hts _ t1_199) (fun _ h9 => h9) rfl hin rfl (by decide +kernel) rfl rfl (Nat.le_of_ble_eq_true rfl) dX6_init_42 (fun H locs hP hD hS => ?_)
  have hP : va_P D vwCl ((((([(a, .inr (6, [.ref q_1, .ref q_4, .ref q_7, .ref q_8]))] : va_W) ++ (wPl q_1 j_2 cI (fun _ => (-1 : Int32)))) ++ (wPl q_4 j_5 cI (fun _ => (-1 : Int32)))) ++ ([(q_7, .inl (cI, 7, .inl (fun _ => nI 0)))] : va_W)) ++ (wCh q_8 (nI 0) (nI 0) (-1 : Int32) (nI 0) (nI 0))) H := hP
  have hD : va_D A ((((([(a, .inr (6, [.ref q_1, .ref q_4, .ref q_7, .ref q_8]))] : va_W) ++ (wPl q_1 j_2 cI (fun _ => (-1 : Int32)))) ++ (wPl q_4 j_5 cI (fun _ => (-1 : Int32)))) ++ ([(q_7, .inl (cI, 7, .inl (fun _ => nI 0)))] : va_W)) ++ (wCh q_8 (nI 0) (nI 0) (-1 : Int32) (nI 0) (nI 0))) := hD
  have hP9 : va_P D vwCl (wSs (adl [a, q_1, j_2, q_4, j_5, q_7, q_8]) cI (fun _ => (-1 : Int32)) (fun _ => (-1 : Int32)) (fun _ => nI 0) (nI 0) (nI 0) (-1 : Int32) (nI 0) (nI 0)) H := (show va_P D vwCl (wSs (adl [a, q_1, j_2, q_4, j_5, q_7, q_8]) cI (fun _ => (-1 : Int32)) (fun _ => (-1 : Int32)) (fun _ => nI 0) (nI 0) (nI 0) (-1 : Int32) (nI 0) (nI 0)) H from hP)
  have hD9 : va_D A (wSs (adl [a, q_1, j_2, q_4, j_5, q_7, q_8]) cI (fun _ => (-1 : Int32)) (fun _ => (-1 : Int32)) (fun _ => nI 0) (nI 0) (nI 0) (-1 : Int32) (nI 0) (nI 0)) := (show va_D A (wSs (adl [a, q_1, j_2, q_4, j_5, q_7, q_8]) cI (fun _ => (-1 : Int32)) (fun _ => (-1 : Int32)) (fun _ => nI 0) (nI 0) (nI 0) (-1 : Int32) (nI 0) (nI 0)) from hD)
  refine W.widen (k := 6) (n := 28) (by omega) (by omega) ?_
  exact W.vret hx hb hr (fun t9 ht9 hW9 => ⟨⟨(adl [a, q_1, j_2, q_4, j_5, q_7, q_8]), rfl, rfl, by rw [ht9]; exact hP9, hD9⟩, hS.F ht9⟩) hS.2.2 dX6_init_45
theorem hd_X3_init : yX3_init.name = "<init>" ∧ yX3_init.cls ≠ "java/lang/invoke/MethodHandle" ∧ yX3_init.cls ≠ "java/lang/invoke/VarHandle" ∧ (parseMethodDescriptor yX3_init.desc).map (fun d => d.parameters.length) = some 0 := by decide +kernel
theorem hd_X2_init : yX2_init.name = "<init>" ∧ yX2_init.cls ≠ "java/lang/invoke/MethodHandle" ∧ yX2_init.cls ≠ "java/lang/invoke/VarHandle" ∧ (parseMethodDescriptor yX2_init.desc).map (fun d => d.parameters.length) = some 0 := by decide +kernel
theorem hd_X6_init : yX6_init.name = "<init>" ∧ yX6_init.cls ≠ "java/lang/invoke/MethodHandle" ∧ yX6_init.cls ≠ "java/lang/invoke/VarHandle" ∧ (parseMethodDescriptor yX6_init.desc).map (fun d => d.parameters.length) = some 0 := by decide +kernel
set_option maxHeartbeats 4000000 in
set_option maxRecDepth 100000 in
/-- DeskPlanner() -/
theorem c_X7_init (l : Launch) (D : va_G) (cI cZ cQ cJ : ClassId) (a : Nat) (sz : Nat)  : Met l yX7_init (.code yX7_init cX7_init 1 none :: ALL) ({ frames := 3, cells := 58, slots := 514, locals := 63 } : Room) (va_Pc [.ref a] (rw_P D cI cZ cQ cJ ([(a, .inr (7, [.null, .null, .null, .null, .null]))] : va_W) sz)) (va_Qv (fun u9 : Nat × Nat × Nat × Nat × Nat × (Nat → Nat) × (Nat → Nat) × (Nat → Nat) × (Nat → Nat) × (Nat → Nat) × (Nat → Nat) × (Nat → Nat) × (Nat → Nat) => True) (rw_B D (va_A ([(a, .inr (7, [.null, .null, .null, .null, .null]))] : va_W) sz) (fun u9 : Nat × Nat × Nat × Nat × Nat × (Nat → Nat) × (Nat → Nat) × (Nat → Nat) × (Nat → Nat) × (Nat → Nat) × (Nat → Nat) × (Nat → Nat) × (Nat → Nat) => (wDp a u9.1 u9.2.1 u9.2.2.2.1 (u9.2.2.2.2.2.2.2.2.2.2.2.1 0) (u9.2.2.2.2.2.2.2.2.2.2.2.2 0)) ++ ((wOf u9.1 (u9.2.2.2.2.2.1 0) (u9.2.2.2.2.2.2.2.1 0)) ++ ((wFl u9.2.2.2.2.2.1 u9.2.2.2.2.2.2.1 cI cZ cQ (fun _ => nI 0) (fun _ => nI 0) (fun _ => nI 0) (fun _ _ => nI 0) (fun _ => nI 0) (fun _ => nI 0) (nI 0) (nI 0)) ++ ((wSt u9.2.2.2.2.2.2.2.1 u9.2.2.2.2.2.2.2.2.1 u9.2.2.2.2.2.2.2.2.2.1 u9.2.2.2.2.2.2.2.2.2.2.1 cI cQ (fun _ _ => nI 0) (fun _ => nI 0) (fun _ _ => nI 0) (fun _ _ => nI 0) (nI 0)) ++ ((wPl u9.2.1 u9.2.2.1 cI (fun _ => (-1 : Int32))) ++ ((wPl u9.2.2.2.1 u9.2.2.2.2.1 cI (fun _ => (-1 : Int32))) ++ ((wFs u9.2.2.2.2.2.2.2.2.2.2.2.1 cI cZ (fun _ => (-1 : Int32)) (fun _ => (-1 : Int32)) (fun _ => nI 0) (nI 0) (-1 : Int32)) ++ (wSs u9.2.2.2.2.2.2.2.2.2.2.2.2 cI (fun _ => (-1 : Int32)) (fun _ => (-1 : Int32)) (fun _ => nI 0) (nI 0) (nI 0) (-1 : Int32) (nI 0) (nI 0)))))))))) (va_A ([(a, .inr (7, [.null, .null, .null, .null, .null]))] : va_W) sz)) 58 514 (va_A ([(a, .inr (7, [.null, .null, .null, .null, .null]))] : va_W) sz) := by
  refine Met.ofW (cc := cX7_init) (maxL := 1) (ret := none) (by decide) rfl ?_
  intro p e s m args below meth c s₁ B hml hv
  obtain ⟨rfl, hsz, hP, hSt, hD0⟩ := hv
  have hx := B.exec
  have hb := B.bytes
  have hr := B.returns
  have hts : ∀ w ∈ ALL, w.before ([.ref a] : List Value).toArray s = true := fun w h => atoms_spec (ws := (.code yX7_init cX7_init 1 none :: ALL)) B.pre w (List.mem_cons_of_mem _ h)
  have hown : s.vm.findClass RX7 = some m.cls := findClass_of_methodNamed B.named
  have hlocks := B.notSynchronized
  have hin : meth.name = "<init>" := (name_of_methodNamed B.named B.method).1
  subst hsz
  have hD := hD0.self (sz := s.heap.size)
  clear hD0
  generalize hAe : va_A ([(a, .inr (7, [.null, .null, .null, .null, .null]))] : va_W) s.heap.size = A at hD ⊢
  have hA : ∀ q : Nat, s.heap.size ≤ q → A q := fun q h => by rw [← hAe]; exact Or.inr h
  have hS : va_S A s.heap s.heap [] := va_S.rf
  have hl := lv_entry ([.ref a]) (n := 1) (Nat.le_of_ble_eq_true rfl)
  rw [lg_entry_eq]
  generalize (lg_sl ([.ref a]) ++ List.replicate (1 - (lg_sl ([.ref a])).length) Slot.unset).toArray = ls at hl ⊢
  have hl : lv_has ls 1 [(0, .ref a)] := hl
  obtain ⟨H, hHe⟩ : ∃ H : Heap, H = s.heap := ⟨_, rfl⟩
  obtain ⟨locs, hLe⟩ : ∃ L : List Loc, L = [] := ⟨_, rfl⟩
  have hP : va_P D vwCl ([(a, .inr (7, [.null, .null, .null, .null, .null]))] : va_W) H := by rw [hHe]; exact hP
  have hS : va_S A s.heap H locs := by rw [hHe, hLe]; exact hS
  refine W.eqHL hHe hLe ?_
  refine lv_aload_n hx hb dX7_init_0 rfl (lv_at hl 0 rfl) ?_
  refine W.objInit hx hb hown (hts _ t1_24) (hts _ t1_25) (hts _ t1_26) rfl (by rw [hml]; exact hl.1) rfl dX7_init_1 (Nat.le_of_ble_eq_true rfl) (Nat.le_of_ble_eq_true rfl) ?_
  refine W.eq (g2 := F0 m 4 ls []) rfl ?_
  refine lv_aload_n hx hb dX7_init_4 rfl (lv_at hl 0 rfl) ?_
  refine va_new (ci := 3) (fs := [.null, .null]) (C := RX3) (T := TX3) (N := 2) hx hb hts tu_X3 tyX3 tyX3_ok hown (hts _ t1_27) (hts _ t1_28) (hts _ t1_2) hSt.1 hP hD hS hA rfl (fun j hj => by rcases (show j = 0 ∨ j = 1 by omega) with rfl | rfl <;> rfl) (Nat.le_of_ble_eq_true rfl) (Nat.le_of_ble_eq_true rfl) dX7_init_5 (fun q_1 H hP hD hS => ?_)
  have hP : va_P D vwCl (([(a, .inr (7, [.null, .null, .null, .null, .null]))] : va_W) ++ ([(q_1, .inr (3, [.null, .null]))] : va_W)) H := hP
  have hD : va_D A (([(a, .inr (7, [.null, .null, .null, .null, .null]))] : va_W) ++ ([(q_1, .inr (3, [.null, .null]))] : va_W)) := hD
  refine lv_dup hx hb dX7_init_8 rfl ?_
  refine rw_v (wr := ([(a, .inr (7, [.null, .null, .null, .null, .null]))] : va_W)) (w_IN (As := []) ⟨hx, hb, hml, hown, hts⟩ (c_X3_init l D cI cZ cQ cJ q_1 H.size) (hSt.2.m 0 rfl) t1_30 t1_2 t1_31 rfl rfl hd_X3_init ⟨Nat.le_of_ble_eq_true rfl, Nat.le_of_ble_eq_true rfl⟩ (rw_pre hP hD hSt [1] rfl (by decide)) rfl hl.1 (rest := [.ref q_1, .ref a]) rfl (Nat.le_of_ble_eq_true rfl) dX7_init_9 ⟨Nat.le_of_ble_eq_true rfl, Nat.le_of_ble_eq_true rfl⟩) hP hD hS hA [1] [0] rfl rfl (by decide) (by decide) (fun u_8 H locs hw hP hD hS => ?_)
  obtain ⟨j_2, j_3, j_4, j_5, j_6, j_7⟩ := u_8
  have hP : va_P D vwCl (([(a, .inr (7, [.null, .null, .null, .null, .null]))] : va_W) ++ ((wOf q_1 (j_2 0) (j_4 0)) ++ ((wFl j_2 j_3 cI cZ cQ (fun _ => nI 0) (fun _ => nI 0) (fun _ => nI 0) (fun _ _ => nI 0) (fun _ => nI 0) (fun _ => nI 0) (nI 0) (nI 0)) ++ (wSt j_4 j_5 j_6 j_7 cI cQ (fun _ _ => nI 0) (fun _ => nI 0) (fun _ _ => nI 0) (fun _ _ => nI 0) (nI 0))))) H := hP
  have hD : va_D A (([(a, .inr (7, [.null, .null, .null, .null, .null]))] : va_W) ++ ((wOf q_1 (j_2 0) (j_4 0)) ++ ((wFl j_2 j_3 cI cZ cQ (fun _ => nI 0) (fun _ => nI 0) (fun _ => nI 0) (fun _ _ => nI 0) (fun _ => nI 0) (fun _ => nI 0) (nI 0) (nI 0)) ++ (wSt j_4 j_5 j_6 j_7 cI cQ (fun _ _ => nI 0) (fun _ => nI 0) (fun _ _ => nI 0) (fun _ _ => nI 0) (nI 0))))) := hD
  refine va_putF (D := D) (ci := 7) (v := .ref q_1) (ty := (.object "DeskPlanner$Office")) (C := RX7) (T := TX7) (N := 5) hx hb hts tu_X7 tyX7 tyX7_ok nmX7 hown hSt.1 hP hD hS 0 rfl rfl 0 (by decide) (hts _ t1_209) (fun _ h9 => h9) rfl hin rfl (by decide +kernel) rfl rfl (Nat.le_of_ble_eq_true rfl) dX7_init_12 (fun H locs hP hD hS => ?_)
  have hP : va_P D vwCl (([(a, .inr (7, [.ref q_1, .null, .null, .null, .null]))] : va_W) ++ ((wOf q_1 (j_2 0) (j_4 0)) ++ ((wFl j_2 j_3 cI cZ cQ (fun _ => nI 0) (fun _ => nI 0) (fun _ => nI 0) (fun _ _ => nI 0) (fun _ => nI 0) (fun _ => nI 0) (nI 0) (nI 0)) ++ (wSt j_4 j_5 j_6 j_7 cI cQ (fun _ _ => nI 0) (fun _ => nI 0) (fun _ _ => nI 0) (fun _ _ => nI 0) (nI 0))))) H := hP
  have hD : va_D A (([(a, .inr (7, [.ref q_1, .null, .null, .null, .null]))] : va_W) ++ ((wOf q_1 (j_2 0) (j_4 0)) ++ ((wFl j_2 j_3 cI cZ cQ (fun _ => nI 0) (fun _ => nI 0) (fun _ => nI 0) (fun _ _ => nI 0) (fun _ => nI 0) (fun _ => nI 0) (nI 0) (nI 0)) ++ (wSt j_4 j_5 j_6 j_7 cI cQ (fun _ _ => nI 0) (fun _ => nI 0) (fun _ _ => nI 0) (fun _ _ => nI 0) (nI 0))))) := hD
  refine lv_aload_n hx hb dX7_init_15 rfl (lv_at hl 0 rfl) ?_
  refine va_new (ci := 4) (fs := [.null]) (C := RX4) (T := TX4) (N := 1) hx hb hts tu_X4 tyX4 tyX4_ok hown (hts _ t1_122) (hts _ t1_123) (hts _ t1_5) hSt.1 hP hD hS hA rfl (fun j hj => by rcases (show j = 0 by omega) with rfl <;> rfl) (Nat.le_of_ble_eq_true rfl) (Nat.le_of_ble_eq_true rfl) dX7_init_16 (fun q_9 H hP hD hS => ?_)
  have hP : va_P D vwCl ((([(a, .inr (7, [.ref q_1, .null, .null, .null, .null]))] : va_W) ++ ((wOf q_1 (j_2 0) (j_4 0)) ++ ((wFl j_2 j_3 cI cZ cQ (fun _ => nI 0) (fun _ => nI 0) (fun _ => nI 0) (fun _ _ => nI 0) (fun _ => nI 0) (fun _ => nI 0) (nI 0) (nI 0)) ++ (wSt j_4 j_5 j_6 j_7 cI cQ (fun _ _ => nI 0) (fun _ => nI 0) (fun _ _ => nI 0) (fun _ _ => nI 0) (nI 0))))) ++ ([(q_9, .inr (4, [.null]))] : va_W)) H := hP
  have hD : va_D A ((([(a, .inr (7, [.ref q_1, .null, .null, .null, .null]))] : va_W) ++ ((wOf q_1 (j_2 0) (j_4 0)) ++ ((wFl j_2 j_3 cI cZ cQ (fun _ => nI 0) (fun _ => nI 0) (fun _ => nI 0) (fun _ _ => nI 0) (fun _ => nI 0) (fun _ => nI 0) (nI 0) (nI 0)) ++ (wSt j_4 j_5 j_6 j_7 cI cQ (fun _ _ => nI 0) (fun _ => nI 0) (fun _ _ => nI 0) (fun _ _ => nI 0) (nI 0))))) ++ ([(q_9, .inr (4, [.null]))] : va_W)) := hD
  refine lv_dup hx hb dX7_init_19 rfl ?_
  refine rw_v (wr := ([(a, .inr (7, [.ref q_1, .null, .null, .null, .null]))] : va_W) ++ ((wOf q_1 (j_2 0) (j_4 0)) ++ ((wFl j_2 j_3 cI cZ cQ (fun _ => nI 0) (fun _ => nI 0) (fun _ => nI 0) (fun _ _ => nI 0) (fun _ => nI 0) (fun _ => nI 0) (nI 0) (nI 0)) ++ (wSt j_4 j_5 j_6 j_7 cI cQ (fun _ _ => nI 0) (fun _ => nI 0) (fun _ _ => nI 0) (fun _ _ => nI 0) (nI 0))))) (w_I (As := []) ⟨hx, hb, hml, hown, hts⟩ (c_X4_init l D cI cZ cQ cJ q_9 H.size) t1_124 t1_125 t1_5 t1_126 rfl rfl hd_X4_init ⟨Nat.le_of_ble_eq_true rfl, Nat.le_of_ble_eq_true rfl⟩ (rw_pre hP hD hSt [42] rfl (by decide)) rfl hl.1 (rest := [.ref q_9, .ref a]) rfl (Nat.le_of_ble_eq_true rfl) dX7_init_20 ⟨Nat.le_of_ble_eq_true rfl, Nat.le_of_ble_eq_true rfl⟩) hP hD hS hA [42] [0, 1, 2, 3, 4, 5, 6, 7, 8, 9, 10, 11, 12, 13, 14, 15, 16, 17, 18, 19, 20, 21, 22, 23, 24, 25, 26, 27, 28, 29, 30, 31, 32, 33, 34, 35, 36, 37, 38, 39, 40, 41] rfl rfl (by decide) (by decide) (fun u_11 H locs hw hP hD hS => ?_)
  obtain ⟨j_10, rfl⟩ : ∃ z9, z9 = u_11 := ⟨_, rfl⟩
  have hP : va_P D vwCl ((([(a, .inr (7, [.ref q_1, .null, .null, .null, .null]))] : va_W) ++ ((wOf q_1 (j_2 0) (j_4 0)) ++ ((wFl j_2 j_3 cI cZ cQ (fun _ => nI 0) (fun _ => nI 0) (fun _ => nI 0) (fun _ _ => nI 0) (fun _ => nI 0) (fun _ => nI 0) (nI 0) (nI 0)) ++ (wSt j_4 j_5 j_6 j_7 cI cQ (fun _ _ => nI 0) (fun _ => nI 0) (fun _ _ => nI 0) (fun _ _ => nI 0) (nI 0))))) ++ (wPl q_9 j_10 cI (fun _ => (-1 : Int32)))) H := hP
  have hD : va_D A ((([(a, .inr (7, [.ref q_1, .null, .null, .null, .null]))] : va_W) ++ ((wOf q_1 (j_2 0) (j_4 0)) ++ ((wFl j_2 j_3 cI cZ cQ (fun _ => nI 0) (fun _ => nI 0) (fun _ => nI 0) (fun _ _ => nI 0) (fun _ => nI 0) (fun _ => nI 0) (nI 0) (nI 0)) ++ (wSt j_4 j_5 j_6 j_7 cI cQ (fun _ _ => nI 0) (fun _ => nI 0) (fun _ _ => nI 0) (fun _ _ => nI 0) (nI 0))))) ++ (wPl q_9 j_10 cI (fun _ => (-1 : Int32)))) := hD
  refine va_putF (D := D) (ci := 7) (v := .ref q_9) (ty := (.object "DeskPlanner$Placement")) (C := RX7) (T := TX7) (N := 5) hx hb hts tu_X7 tyX7 tyX7_ok nmX7 hown hSt.1 hP hD hS 0 rfl rfl 1 (by decide) (hts _ t1_210) (fun _ h9 => h9) rfl hin rfl (by decide +kernel) rfl rfl (Nat.le_of_ble_eq_true rfl) dX7_init_23 (fun H locs hP hD hS => ?_)
  have hP : va_P D vwCl ((([(a, .inr (7, [.ref q_1, .ref q_9, .null, .null, .null]))] : va_W) ++ ((wOf q_1 (j_2 0) (j_4 0)) ++ ((wFl j_2 j_3 cI cZ cQ (fun _ => nI 0) (fun _ => nI 0) (fun _ => nI 0) (fun _ _ => nI 0) (fun _ => nI 0) (fun _ => nI 0) (nI 0) (nI 0)) ++ (wSt j_4 j_5 j_6 j_7 cI cQ (fun _ _ => nI 0) (fun _ => nI 0) (fun _ _ => nI 0) (fun _ _ => nI 0) (nI 0))))) ++ (wPl q_9 j_10 cI (fun _ => (-1 : Int32)))) H := hP
  have hD : va_D A ((([(a, .inr (7, [.ref q_1, .ref q_9, .null, .null, .null]))] : va_W) ++ ((wOf q_1 (j_2 0) (j_4 0)) ++ ((wFl j_2 j_3 cI cZ cQ (fun _ => nI 0) (fun _ => nI 0) (fun _ => nI 0) (fun _ _ => nI 0) (fun _ => nI 0) (fun _ => nI 0) (nI 0) (nI 0)) ++ (wSt j_4 j_5 j_6 j_7 cI cQ (fun _ _ => nI 0) (fun _ => nI 0) (fun _ _ => nI 0) (fun _ _ => nI 0) (nI 0))))) ++ (wPl q_9 j_10 cI (fun _ => (-1 : Int32)))) := hD
  refine lv_aload_n hx hb dX7_init_26 rfl (lv_at hl 0 rfl) ?_
  refine va_new (ci := 4) (fs := [.null]) (C := RX4) (T := TX4) (N := 1) hx hb hts tu_X4 tyX4 tyX4_ok hown (hts _ t1_122) (hts _ t1_123) (hts _ t1_5) hSt.1 hP hD hS hA rfl (fun j hj => by rcases (show j = 0 by omega) with rfl <;> rfl) (Nat.le_of_ble_eq_true rfl) (Nat.le_of_ble_eq_true rfl) dX7_init_27 (fun q_12 H hP hD hS => ?_)
  have hP : va_P D vwCl (((([(a, .inr (7, [.ref q_1, .ref q_9, .null, .null, .null]))] : va_W) ++ ((wOf q_1 (j_2 0) (j_4 0)) ++ ((wFl j_2 j_3 cI cZ cQ (fun _ => nI 0) (fun _ => nI 0) (fun _ => nI 0) (fun _ _ => nI 0) (fun _ => nI 0) (fun _ => nI 0) (nI 0) (nI 0)) ++ (wSt j_4 j_5 j_6 j_7 cI cQ (fun _ _ => nI 0) (fun _ => nI 0) (fun _ _ => nI 0) (fun _ _ => nI 0) (nI 0))))) ++ (wPl q_9 j_10 cI (fun _ => (-1 : Int32)))) ++ ([(q_12, .inr (4, [.null]))] : va_W)) H := hP
  have hD : va_D A (((([(a, .inr (7, [.ref q_1, .ref q_9, .null, .null, .null]))] : va_W) ++ ((wOf q_1 (j_2 0) (j_4 0)) ++ ((wFl j_2 j_3 cI cZ cQ (fun _ => nI 0) (fun _ => nI 0) (fun _ => nI 0) (fun _ _ => nI 0) (fun _ => nI 0) (fun _ => nI 0) (nI 0) (nI 0)) ++ (wSt j_4 j_5 j_6 j_7 cI cQ (fun _ _ => nI 0) (fun _ => nI 0) (fun _ _ => nI 0) (fun _ _ => nI 0) (nI 0))))) ++ (wPl q_9 j_10 cI (fun _ => (-1 : Int32)))) ++ ([(q_12, .inr (4, [.null]))] : va_W)) := hD
  refine lv_dup hx hb dX7_init_30 rfl ?_
  refine rw_v (wr := (([(a, .inr (7, [.ref q_1, .ref q_9, .null, .null, .null]))] : va_W) ++ ((wOf q_1 (j_2 0) (j_4 0)) ++ ((wFl j_2 j_3 cI cZ cQ (fun _ => nI 0) (fun _ => nI 0) (fun _ => nI 0) (fun _ _ => nI 0) (fun _ => nI 0) (fun _ => nI 0) (nI 0) (nI 0)) ++ (wSt j_4 j_5 j_6 j_7 cI cQ (fun _ _ => nI 0) (fun _ => nI 0) (fun _ _ => nI 0) (fun _ _ => nI 0) (nI 0))))) ++ (wPl q_9 j_10 cI (fun _ => (-1 : Int32)))) (w_I (As := []) ⟨hx, hb, hml, hown, hts⟩ (c_X4_init l D cI cZ cQ cJ q_12 H.size) t1_124 t1_125 t1_5 t1_126 rfl rfl hd_X4_init ⟨Nat.le_of_ble_eq_true rfl, Nat.le_of_ble_eq_true rfl⟩ (rw_pre hP hD hSt [44] rfl (by decide)) rfl hl.1 (rest := [.ref q_12, .ref a]) rfl (Nat.le_of_ble_eq_true rfl) dX7_init_31 ⟨Nat.le_of_ble_eq_true rfl, Nat.le_of_ble_eq_true rfl⟩) hP hD hS hA [44] [0, 1, 2, 3, 4, 5, 6, 7, 8, 9, 10, 11, 12, 13, 14, 15, 16, 17, 18, 19, 20, 21, 22, 23, 24, 25, 26, 27, 28, 29, 30, 31, 32, 33, 34, 35, 36, 37, 38, 39, 40, 41, 42, 43] rfl rfl (by decide) (by decide) (fun u_14 H locs hw hP hD hS => ?_)
  obtain ⟨j_13, rfl⟩ : ∃ z9, z9 = u_14 := ⟨_, rfl⟩
  have hP : va_P D vwCl (((([(a, .inr (7, [.ref q_1, .ref q_9, .null, .null, .null]))] : va_W) ++ ((wOf q_1 (j_2 0) (j_4 0)) ++ ((wFl j_2 j_3 cI cZ cQ (fun _ => nI 0) (fun _ => nI 0) (fun _ => nI 0) (fun _ _ => nI 0) (fun _ => nI 0) (fun _ => nI 0) (nI 0) (nI 0)) ++ (wSt j_4 j_5 j_6 j_7 cI cQ (fun _ _ => nI 0) (fun _ => nI 0) (fun _ _ => nI 0) (fun _ _ => nI 0) (nI 0))))) ++ (wPl q_9 j_10 cI (fun _ => (-1 : Int32)))) ++ (wPl q_12 j_13 cI (fun _ => (-1 : Int32)))) H := hP
  have hD : va_D A (((([(a, .inr (7, [.ref q_1, .ref q_9, .null, .null, .null]))] : va_W) ++ ((wOf q_1 (j_2 0) (j_4 0)) ++ ((wFl j_2 j_3 cI cZ cQ (fun _ => nI 0) (fun _ => nI 0) (fun _ => nI 0) (fun _ _ => nI 0) (fun _ => nI 0) (fun _ => nI 0) (nI 0) (nI 0)) ++ (wSt j_4 j_5 j_6 j_7 cI cQ (fun _ _ => nI 0) (fun _ => nI 0) (fun _ _ => nI 0) (fun _ _ => nI 0) (nI 0))))) ++ (wPl q_9 j_10 cI (fun _ => (-1 : Int32)))) ++ (wPl q_12 j_13 cI (fun _ => (-1 : Int32)))) := hD
  refine va_putF (D := D) (ci := 7) (v := .ref q_12) (ty := (.object "DeskPlanner$Placement")) (C := RX7) (T := TX7) (N := 5) hx hb hts tu_X7 tyX7 tyX7_ok nmX7 hown hSt.1 hP hD hS 0 rfl rfl 2 (by decide) (hts _ t1_211) (fun _ h9 => h9) rfl hin rfl (by decide +kernel) rfl rfl (Nat.le_of_ble_eq_true rfl) dX7_init_34 (fun H locs hP hD hS => ?_)
  have hP : va_P D vwCl (((([(a, .inr (7, [.ref q_1, .ref q_9, .ref q_12, .null, .null]))] : va_W) ++ ((wOf q_1 (j_2 0) (j_4 0)) ++ ((wFl j_2 j_3 cI cZ cQ (fun _ => nI 0) (fun _ => nI 0) (fun _ => nI 0) (fun _ _ => nI 0) (fun _ => nI 0) (fun _ => nI 0) (nI 0) (nI 0)) ++ (wSt j_4 j_5 j_6 j_7 cI cQ (fun _ _ => nI 0) (fun _ => nI 0) (fun _ _ => nI 0) (fun _ _ => nI 0) (nI 0))))) ++ (wPl q_9 j_10 cI (fun _ => (-1 : Int32)))) ++ (wPl q_12 j_13 cI (fun _ => (-1 : Int32)))) H := hP
  have hD : va_D A (((([(a, .inr (7, [.ref q_1, .ref q_9, .ref q_12, .null, .null]))] : va_W) ++ ((wOf q_1 (j_2 0) (j_4 0)) ++ ((wFl j_2 j_3 cI cZ cQ (fun _ => nI 0) (fun _ => nI 0) (fun _ => nI 0) (fun _ _ => nI 0) (fun _ => nI 0) (fun _ => nI 0) (nI 0) (nI 0)) ++ (wSt j_4 j_5 j_6 j_7 cI cQ (fun _ _ => nI 0) (fun _ => nI 0) (fun _ _ => nI 0) (fun _ _ => nI 0) (nI 0))))) ++ (wPl q_9 j_10 cI (fun _ => (-1 : Int32)))) ++ (wPl q_12 j_13 cI (fun _ => (-1 : Int32)))) := hD
  refine lv_aload_n hx hb dX7_init_37 rfl (lv_at hl 0 rfl) ?_
  refine va_new (ci := 2) (fs := [.null, .null, .null, .int (nI 0), .int (nI 0)]) (C := RX2) (T := TX2) (N := 5) hx hb hts tu_X2 tyX2 tyX2_ok hown (hts _ t1_135) (hts _ t1_136) (hts _ t1_7) hSt.1 hP hD hS hA rfl (fun j hj => by rcases (show j = 0 ∨ j = 1 ∨ j = 2 ∨ j = 3 ∨ j = 4 by omega) with rfl | rfl | rfl | rfl | rfl <;> rfl) (Nat.le_of_ble_eq_true rfl) (Nat.le_of_ble_eq_true rfl) dX7_init_38 (fun q_15 H hP hD hS => ?_)
  have hP : va_P D vwCl ((((([(a, .inr (7, [.ref q_1, .ref q_9, .ref q_12, .null, .null]))] : va_W) ++ ((wOf q_1 (j_2 0) (j_4 0)) ++ ((wFl j_2 j_3 cI cZ cQ (fun _ => nI 0) (fun _ => nI 0) (fun _ => nI 0) (fun _ _ => nI 0) (fun _ => nI 0) (fun _ => nI 0) (nI 0) (nI 0)) ++ (wSt j_4 j_5 j_6 j_7 cI cQ (fun _ _ => nI 0) (fun _ => nI 0) (fun _ _ => nI 0) (fun _ _ => nI 0) (nI 0))))) ++ (wPl q_9 j_10 cI (fun _ => (-1 : Int32)))) ++ (wPl q_12 j_13 cI (fun _ => (-1 : Int32)))) ++ ([(q_15, .inr (2, [.null, .null, .null, .int (nI 0), .int (nI 0)]))] : va_W)) H := hP
  have hD : va_D A ((((([(a, .inr (7, [.ref q_1, .ref q_9, .ref q_12, .null, .null]))] : va_W) ++ ((wOf q_1 (j_2 0) (j_4 0)) ++ ((wFl j_2 j_3 cI cZ cQ (fun _ => nI 0) (fun _ => nI 0) (fun _ => nI 0) (fun _ _ => nI 0) (fun _ => nI 0) (fun _ => nI 0) (nI 0) (nI 0)) ++ (wSt j_4 j_5 j_6 j_7 cI cQ (fun _ _ => nI 0) (fun _ => nI 0) (fun _ _ => nI 0) (fun _ _ => nI 0) (nI 0))))) ++ (wPl q_9 j_10 cI (fun _ => (-1 : Int32)))) ++ (wPl q_12 j_13 cI (fun _ => (-1 : Int32)))) ++ ([(q_15, .inr (2, [.null, .null, .null, .int (nI 0), .int (nI 0)]))] : va_W)) := hD
  refine lv_dup hx hb dX7_init_41 rfl ?_
  refine rw_v (wr := ((([(a, .inr (7, [.ref q_1, .ref q_9, .ref q_12, .null, .null]))] : va_W) ++ ((wOf q_1 (j_2 0) (j_4 0)) ++ ((wFl j_2 j_3 cI cZ cQ (fun _ => nI 0) (fun _ => nI 0) (fun _ => nI 0) (fun _ _ => nI 0) (fun _ => nI 0) (fun _ => nI 0) (nI 0) (nI 0)) ++ (wSt j_4 j_5 j_6 j_7 cI cQ (fun _ _ => nI 0) (fun _ => nI 0) (fun _ _ => nI 0) (fun _ _ => nI 0) (nI 0))))) ++ (wPl q_9 j_10 cI (fun _ => (-1 : Int32)))) ++ (wPl q_12 j_13 cI (fun _ => (-1 : Int32)))) (w_IN (As := []) ⟨hx, hb, hml, hown, hts⟩ (c_X2_init l D cI cZ cQ cJ q_15 H.size) (hSt.2.m 3 rfl) t1_138 t1_7 t1_139 rfl rfl hd_X2_init ⟨Nat.le_of_ble_eq_true rfl, Nat.le_of_ble_eq_true rfl⟩ (rw_pre hP hD hSt [46] rfl (by decide)) rfl hl.1 (rest := [.ref q_15, .ref a]) rfl (Nat.le_of_ble_eq_true rfl) dX7_init_42 ⟨Nat.le_of_ble_eq_true rfl, Nat.le_of_ble_eq_true rfl⟩) hP hD hS hA [46] [0, 1, 2, 3, 4, 5, 6, 7, 8, 9, 10, 11, 12, 13, 14, 15, 16, 17, 18, 19, 20, 21, 22, 23, 24, 25, 26, 27, 28, 29, 30, 31, 32, 33, 34, 35, 36, 37, 38, 39, 40, 41, 42, 43, 44, 45] rfl rfl (by decide) (by decide) (fun u_17 H locs hw hP hD hS => ?_)
  obtain ⟨j_16, rfl⟩ : ∃ z9, z9 = u_17 := ⟨_, rfl⟩
  have f_18 := hw
  have f_18x : j_16 0 = q_15 := f_18
  have hP : va_P D vwCl ((((([(a, .inr (7, [.ref q_1, .ref q_9, .ref q_12, .null, .null]))] : va_W) ++ ((wOf q_1 (j_2 0) (j_4 0)) ++ ((wFl j_2 j_3 cI cZ cQ (fun _ => nI 0) (fun _ => nI 0) (fun _ => nI 0) (fun _ _ => nI 0) (fun _ => nI 0) (fun _ => nI 0) (nI 0) (nI 0)) ++ (wSt j_4 j_5 j_6 j_7 cI cQ (fun _ _ => nI 0) (fun _ => nI 0) (fun _ _ => nI 0) (fun _ _ => nI 0) (nI 0))))) ++ (wPl q_9 j_10 cI (fun _ => (-1 : Int32)))) ++ (wPl q_12 j_13 cI (fun _ => (-1 : Int32)))) ++ (wFs j_16 cI cZ (fun _ => (-1 : Int32)) (fun _ => (-1 : Int32)) (fun _ => nI 0) (nI 0) (-1 : Int32))) H := hP
  have hD : va_D A ((((([(a, .inr (7, [.ref q_1, .ref q_9, .ref q_12, .null, .null]))] : va_W) ++ ((wOf q_1 (j_2 0) (j_4 0)) ++ ((wFl j_2 j_3 cI cZ cQ (fun _ => nI 0) (fun _ => nI 0) (fun _ => nI 0) (fun _ _ => nI 0) (fun _ => nI 0) (fun _ => nI 0) (nI 0) (nI 0)) ++ (wSt j_4 j_5 j_6 j_7 cI cQ (fun _ _ => nI 0) (fun _ => nI 0) (fun _ _ => nI 0) (fun _ _ => nI 0) (nI 0))))) ++ (wPl q_9 j_10 cI (fun _ => (-1 : Int32)))) ++ (wPl q_12 j_13 cI (fun _ => (-1 : Int32)))) ++ (wFs j_16 cI cZ (fun _ => (-1 : Int32)) (fun _ => (-1 : Int32)) (fun _ => nI 0) (nI 0) (-1 : Int32))) := hD
  have hP77 := hP
  have hD77 := hD
  subst f_18x
  have hP := hP77
  have hD := hD77
  refine va_putF (D := D) (ci := 7) (v := .ref (j_16 0)) (ty := (.object "DeskPlanner$FullSearch")) (C := RX7) (T := TX7) (N := 5) hx hb hts tu_X7 tyX7 tyX7_ok nmX7 hown hSt.1 hP hD hS 0 rfl rfl 3 (by decide) (hts _ t1_212) (fun _ h9 => h9) rfl hin rfl (by decide +kernel) rfl rfl (Nat.le_of_ble_eq_true rfl) dX7_init_45 (fun H locs hP hD hS => ?_)
  have hP : va_P D vwCl ((((([(a, .inr (7, [.ref q_1, .ref q_9, .ref q_12, .ref (j_16 0), .null]))] : va_W) ++ ((wOf q_1 (j_2 0) (j_4 0)) ++ ((wFl j_2 j_3 cI cZ cQ (fun _ => nI 0) (fun _ => nI 0) (fun _ => nI 0) (fun _ _ => nI 0) (fun _ => nI 0) (fun _ => nI 0) (nI 0) (nI 0)) ++ (wSt j_4 j_5 j_6 j_7 cI cQ (fun _ _ => nI 0) (fun _ => nI 0) (fun _ _ => nI 0) (fun _ _ => nI 0) (nI 0))))) ++ (wPl q_9 j_10 cI (fun _ => (-1 : Int32)))) ++ (wPl q_12 j_13 cI (fun _ => (-1 : Int32)))) ++ (wFs j_16 cI cZ (fun _ => (-1 : Int32)) (fun _ => (-1 : Int32)) (fun _ => nI 0) (nI 0) (-1 : Int32))) H := hP
  have hD : va_D A ((((([(a, .inr (7, [.ref q_1, .ref q_9, .ref q_12, .ref (j_16 0), .null]))] : va_W) ++ ((wOf q_1 (j_2 0) (j_4 0)) ++ ((wFl j_2 j_3 cI cZ cQ (fun _ => nI 0) (fun _ => nI 0) (fun _ => nI 0) (fun _ _ => nI 0) (fun _ => nI 0) (fun _ => nI 0) (nI 0) (nI 0)) ++ (wSt j_4 j_5 j_6 j_7 cI cQ (fun _ _ => nI 0) (fun _ => nI 0) (fun _ _ => nI 0) (fun _ _ => nI 0) (nI 0))))) ++ (wPl q_9 j_10 cI (fun _ => (-1 : Int32)))) ++ (wPl q_12 j_13 cI (fun _ => (-1 : Int32)))) ++ (wFs j_16 cI cZ (fun _ => (-1 : Int32)) (fun _ => (-1 : Int32)) (fun _ => nI 0) (nI 0) (-1 : Int32))) := hD
  refine lv_aload_n hx hb dX7_init_48 rfl (lv_at hl 0 rfl) ?_
  refine va_new (ci := 6) (fs := [.null, .null, .null, .null]) (C := RX6) (T := TX6) (N := 4) hx hb hts tu_X6 tyX6 tyX6_ok hown (hts _ t1_160) (hts _ t1_161) (hts _ t1_8) hSt.1 hP hD hS hA rfl (fun j hj => by rcases (show j = 0 ∨ j = 1 ∨ j = 2 ∨ j = 3 by omega) with rfl | rfl | rfl | rfl <;> rfl) (Nat.le_of_ble_eq_true rfl) (Nat.le_of_ble_eq_true rfl) dX7_init_49 (fun q_19 H hP hD hS => ?_)
  have hP : va_P D vwCl (((((([(a, .inr (7, [.ref q_1, .ref q_9, .ref q_12, .ref (j_16 0), .null]))] : va_W) ++ ((wOf q_1 (j_2 0) (j_4 0)) ++ ((wFl j_2 j_3 cI cZ cQ (fun _ => nI 0) (fun _ => nI 0) (fun _ => nI 0) (fun _ _ => nI 0) (fun _ => nI 0) (fun _ => nI 0) (nI 0) (nI 0)) ++ (wSt j_4 j_5 j_6 j_7 cI cQ (fun _ _ => nI 0) (fun _ => nI 0) (fun _ _ => nI 0) (fun _ _ => nI 0) (nI 0))))) ++ (wPl q_9 j_10 cI (fun _ => (-1 : Int32)))) ++ (wPl q_12 j_13 cI (fun _ => (-1 : Int32)))) ++ (wFs j_16 cI cZ (fun _ => (-1 : Int32)) (fun _ => (-1 : Int32)) (fun _ => nI 0) (nI 0) (-1 : Int32))) ++ ([(q_19, .inr (6, [.null, .null, .null, .null]))] : va_W)) H := hP
  have hD : va_D A (((((([(a, .inr (7, [.ref q_1, .ref q_9, .ref q_12, .ref (j_16 0), .null]))] : va_W) ++ ((wOf q_1 (j_2 0) (j_4 0)) ++ ((wFl j_2 j_3 cI cZ cQ (fun _ => nI 0) (fun _ => nI 0) (fun _ => nI 0) (fun _ _ => nI 0) (fun _ => nI 0) (fun _ => nI 0) (nI 0) (nI 0)) ++ (wSt j_4 j_5 j_6 j_7 cI cQ (fun _ _ => nI 0) (fun _ => nI 0) (fun _ _ => nI 0) (fun _ _ => nI 0) (nI 0))))) ++ (wPl q_9 j_10 cI (fun _ => (-1 : Int32)))) ++ (wPl q_12 j_13 cI (fun _ => (-1 : Int32)))) ++ (wFs j_16 cI cZ (fun _ => (-1 : Int32)) (fun _ => (-1 : Int32)) (fun _ => nI 0) (nI 0) (-1 : Int32))) ++ ([(q_19, .inr (6, [.null, .null, .null, .null]))] : va_W)) := hD
  refine lv_dup hx hb dX7_init_52 rfl ?_
  refine rw_v (wr := (((([(a, .inr (7, [.ref q_1, .ref q_9, .ref q_12, .ref (j_16 0), .null]))] : va_W) ++ ((wOf q_1 (j_2 0) (j_4 0)) ++ ((wFl j_2 j_3 cI cZ cQ (fun _ => nI 0) (fun _ => nI 0) (fun _ => nI 0) (fun _ _ => nI 0) (fun _ => nI 0) (fun _ => nI 0) (nI 0) (nI 0)) ++ (wSt j_4 j_5 j_6 j_7 cI cQ (fun _ _ => nI 0) (fun _ => nI 0) (fun _ _ => nI 0) (fun _ _ => nI 0) (nI 0))))) ++ (wPl q_9 j_10 cI (fun _ => (-1 : Int32)))) ++ (wPl q_12 j_13 cI (fun _ => (-1 : Int32)))) ++ (wFs j_16 cI cZ (fun _ => (-1 : Int32)) (fun _ => (-1 : Int32)) (fun _ => nI 0) (nI 0) (-1 : Int32))) (w_IN (As := []) ⟨hx, hb, hml, hown, hts⟩ (c_X6_init l D cI cZ cQ cJ q_19 H.size) (hSt.2.m 4 rfl) t1_163 t1_8 t1_164 rfl rfl hd_X6_init ⟨Nat.le_of_ble_eq_true rfl, Nat.le_of_ble_eq_true rfl⟩ (rw_pre hP hD hSt [52] rfl (by decide)) rfl hl.1 (rest := [.ref q_19, .ref a]) rfl (Nat.le_of_ble_eq_true rfl) dX7_init_53 ⟨Nat.le_of_ble_eq_true rfl, Nat.le_of_ble_eq_true rfl⟩) hP hD hS hA [52] [0, 1, 2, 3, 4, 5, 6, 7, 8, 9, 10, 11, 12, 13, 14, 15, 16, 17, 18, 19, 20, 21, 22, 23, 24, 25, 26, 27, 28, 29, 30, 31, 32, 33, 34, 35, 36, 37, 38, 39, 40, 41, 42, 43, 44, 45, 46, 47, 48, 49, 50, 51] rfl rfl (by decide) (by decide) (fun u_21 H locs hw hP hD hS => ?_)
  obtain ⟨j_20, rfl⟩ : ∃ z9, z9 = u_21 := ⟨_, rfl⟩
  have f_22 := hw
  have f_22x : j_20 0 = q_19 := f_22
  have hP : va_P D vwCl (((((([(a, .inr (7, [.ref q_1, .ref q_9, .ref q_12, .ref (j_16 0), .null]))] : va_W) ++ ((wOf q_1 (j_2 0) (j_4 0)) ++ ((wFl j_2 j_3 cI cZ cQ (fun _ => nI 0) (fun _ => nI 0) (fun _ => nI 0) (fun _ _ => nI 0) (fun _ => nI 0) (fun _ => nI 0) (nI 0) (nI 0)) ++ (wSt j_4 j_5 j_6 j_7 cI cQ (fun _ _ => nI 0) (fun _ => nI 0) (fun _ _ => nI 0) (fun _ _ => nI 0) (nI 0))))) ++ (wPl q_9 j_10 cI (fun _ => (-1 : Int32)))) ++ (wPl q_12 j_13 cI (fun _ => (-1 : Int32)))) ++ (wFs j_16 cI cZ (fun _ => (-1 : Int32)) (fun _ => (-1 : Int32)) (fun _ => nI 0) (nI 0) (-1 : Int32))) ++ (wSs j_20 cI (fun _ => (-1 : Int32)) (fun _ => (-1 : Int32)) (fun _ => nI 0) (nI 0) (nI 0) (-1 : Int32) (nI 0) (nI 0))) H := hP
  have hD : va_D A (((((([(a, .inr (7, [.ref q_1, .ref q_9, .ref q_12, .ref (j_16 0), .null]))] : va_W) ++ ((wOf q_1 (j_2 0) (j_4 0)) ++ ((wFl j_2 j_3 cI cZ cQ (fun _ => nI 0) (fun _ => nI 0) (fun _ => nI 0) (fun _ _ => nI 0) (fun _ => nI 0) (fun _ => nI 0) (nI 0) (nI 0)) ++ (wSt j_4 j_5 j_6 j_7 cI cQ (fun _ _ => nI 0) (fun _ => nI 0) (fun _ _ => nI 0) (fun _ _ => nI 0) (nI 0))))) ++ (wPl q_9 j_10 cI (fun _ => (-1 : Int32)))) ++ (wPl q_12 j_13 cI (fun _ => (-1 : Int32)))) ++ (wFs j_16 cI cZ (fun _ => (-1 : Int32)) (fun _ => (-1 : Int32)) (fun _ => nI 0) (nI 0) (-1 : Int32))) ++ (wSs j_20 cI (fun _ => (-1 : Int32)) (fun _ => (-1 : Int32)) (fun _ => nI 0) (nI 0) (nI 0) (-1 : Int32) (nI 0) (nI 0))) := hD
  have hP77 := hP
  have hD77 := hD
  subst f_22x
  have hP := hP77
  have hD := hD77
  refine va_putF (D := D) (ci := 7) (v := .ref (j_20 0)) (ty := (.object "DeskPlanner$StepSearch")) (C := RX7) (T := TX7) (N := 5) hx hb hts tu_X7 tyX7 tyX7_ok nmX7 hown hSt.1 hP hD hS 0 rfl rfl 4 (by decide) (hts _ t1_213) (fun _ h9 => h9) rfl hin rfl (by decide +kernel) rfl rfl (Nat.le_of_ble_eq_true rfl) dX7_init_56 (fun H locs hP hD hS => ?_)
  have hP : va_P D vwCl (((((([(a, .inr (7, [.ref q_1, .ref q_9, .ref q_12, .ref (j_16 0), .ref (j_20 0)]))] : va_W) ++ ((wOf q_1 (j_2 0) (j_4 0)) ++ ((wFl j_2 j_3 cI cZ cQ (fun _ => nI 0) (fun _ => nI 0) (fun _ => nI 0) (fun _ _ => nI 0) (fun _ => nI 0) (fun _ => nI 0) (nI 0) (nI 0)) ++ (wSt j_4 j_5 j_6 j_7 cI cQ (fun _ _ => nI 0) (fun _ => nI 0) (fun _ _ => nI 0) (fun _ _ => nI 0) (nI 0))))) ++ (wPl q_9 j_10 cI (fun _ => (-1 : Int32)))) ++ (wPl q_12 j_13 cI (fun _ => (-1 : Int32)))) ++ (wFs j_16 cI cZ (fun _ => (-1 : Int32)) (fun _ => (-1 : Int32)) (fun _ => nI 0) (nI 0) (-1 : Int32))) ++ (wSs j_20 cI (fun _ => (-1 : Int32)) (fun _ => (-1 : Int32)) (fun _ => nI 0) (nI 0) (nI 0) (-1 : Int32) (nI 0) (nI 0))) H := hP
  have hD : va_D A (((((([(a, .inr (7, [.ref q_1, .ref q_9, .ref q_12, .ref (j_16 0), .ref (j_20 0)]))] : va_W) ++ ((wOf q_1 (j_2 0) (j_4 0)) ++ ((wFl j_2 j_3 cI cZ cQ (fun _ => nI 0) (fun _ => nI 0) (fun _ => nI 0) (fun _ _ => nI 0) (fun _ => nI 0) (fun _ => nI 0) (nI 0) (nI 0)) ++ (wSt j_4 j_5 j_6 j_7 cI cQ (fun _ _ => nI 0) (fun _ => nI 0) (fun _ _ => nI 0) (fun _ _ => nI 0) (nI 0))))) ++ (wPl q_9 j_10 cI (fun _ => (-1 : Int32)))) ++ (wPl q_12 j_13 cI (fun _ => (-1 : Int32)))) ++ (wFs j_16 cI cZ (fun _ => (-1 : Int32)) (fun _ => (-1 : Int32)) (fun _ => nI 0) (nI 0) (-1 : Int32))) ++ (wSs j_20 cI (fun _ => (-1 : Int32)) (fun _ => (-1 : Int32)) (fun _ => nI 0) (nI 0) (nI 0) (-1 : Int32) (nI 0) (nI 0))) := hD
  have hP9 : va_P D vwCl ((wDp a q_1 q_9 q_12 (j_16 0) (j_20 0)) ++ ((wOf q_1 (j_2 0) (j_4 0)) ++ ((wFl j_2 j_3 cI cZ cQ (fun _ => nI 0) (fun _ => nI 0) (fun _ => nI 0) (fun _ _ => nI 0) (fun _ => nI 0) (fun _ => nI 0) (nI 0) (nI 0)) ++ ((wSt j_4 j_5 j_6 j_7 cI cQ (fun _ _ => nI 0) (fun _ => nI 0) (fun _ _ => nI 0) (fun _ _ => nI 0) (nI 0)) ++ ((wPl q_9 j_10 cI (fun _ => (-1 : Int32))) ++ ((wPl q_12 j_13 cI (fun _ => (-1 : Int32))) ++ ((wFs j_16 cI cZ (fun _ => (-1 : Int32)) (fun _ => (-1 : Int32)) (fun _ => nI 0) (nI 0) (-1 : Int32)) ++ (wSs j_20 cI (fun _ => (-1 : Int32)) (fun _ => (-1 : Int32)) (fun _ => nI 0) (nI 0) (nI 0) (-1 : Int32) (nI 0) (nI 0))))))))) H := (show va_P D vwCl ((wDp a q_1 q_9 q_12 (j_16 0) (j_20 0)) ++ ((wOf q_1 (j_2 0) (j_4 0)) ++ ((wFl j_2 j_3 cI cZ cQ (fun _ => nI 0) (fun _ => nI 0) (fun _ => nI 0) (fun _ _ => nI 0) (fun _ => nI 0) (fun _ => nI 0) (nI 0) (nI 0)) ++ ((wSt j_4 j_5 j_6 j_7 cI cQ (fun _ _ => nI 0) (fun _ => nI 0) (fun _ _ => nI 0) (fun _ _ => nI 0) (nI 0)) ++ ((wPl q_9 j_10 cI (fun _ => (-1 : Int32))) ++ ((wPl q_12 j_13 cI (fun _ => (-1 : Int32))) ++ ((wFs j_16 cI cZ (fun _ => (-1 : Int32)) (fun _ => (-1 : Int32)) (fun _ => nI 0) (nI 0) (-1 : Int32)) ++ (wSs j_20 cI (fun _ => (-1 : Int32)) (fun _ => (-1 : Int32)) (fun _ => nI 0) (nI 0) (nI 0) (-1 : Int32) (nI 0) (nI 0))))))))) H from hP)
  have hD9 : va_D A ((wDp a q_1 q_9 q_12 (j_16 0) (j_20 0)) ++ ((wOf q_1 (j_2 0) (j_4 0)) ++ ((wFl j_2 j_3 cI cZ cQ (fun _ => nI 0) (fun _ => nI 0) (fun _ => nI 0) (fun _ _ => nI 0) (fun _ => nI 0) (fun _ => nI 0) (nI 0) (nI 0)) ++ ((wSt j_4 j_5 j_6 j_7 cI cQ (fun _ _ => nI 0) (fun _ => nI 0) (fun _ _ => nI 0) (fun _ _ => nI 0) (nI 0)) ++ ((wPl q_9 j_10 cI (fun _ => (-1 : Int32))) ++ ((wPl q_12 j_13 cI (fun _ => (-1 : Int32))) ++ ((wFs j_16 cI cZ (fun _ => (-1 : Int32)) (fun _ => (-1 : Int32)) (fun _ => nI 0) (nI 0) (-1 : Int32)) ++ (wSs j_20 cI (fun _ => (-1 : Int32)) (fun _ => (-1 : Int32)) (fun _ => nI 0) (nI 0) (nI 0) (-1 : Int32) (nI 0) (nI 0))))))))) := (show va_D A ((wDp a q_1 q_9 q_12 (j_16 0) (j_20 0)) ++ ((wOf q_1 (j_2 0) (j_4 0)) ++ ((wFl j_2 j_3 cI cZ cQ (fun _ => nI 0) (fun _ => nI 0) (fun _ => nI 0) (fun _ _ => nI 0) (fun _ => nI 0) (fun _ => nI 0) (nI 0) (nI 0)) ++ ((wSt j_4 j_5 j_6 j_7 cI cQ (fun _ _ => nI 0) (fun _ => nI 0) (fun _ _ => nI 0) (fun _ _ => nI 0) (nI 0)) ++ ((wPl q_9 j_10 cI (fun _ => (-1 : Int32))) ++ ((wPl q_12 j_13 cI (fun _ => (-1 : Int32))) ++ ((wFs j_16 cI cZ (fun _ => (-1 : Int32)) (fun _ => (-1 : Int32)) (fun _ => nI 0) (nI 0) (-1 : Int32)) ++ (wSs j_20 cI (fun _ => (-1 : Int32)) (fun _ => (-1 : Int32)) (fun _ => nI 0) (nI 0) (nI 0) (-1 : Int32) (nI 0) (nI 0))))))))) from hD)
  refine W.widen (k := 58) (n := 514) (by omega) (by omega) ?_
  exact W.vret hx hb hr (fun t9 ht9 hW9 => ⟨⟨(q_1, q_9, j_10, q_12, j_13, j_2, j_3, j_4, j_5, j_6, j_7, j_16, j_20), rfl, trivial, by rw [ht9]; exact hP9, hD9⟩, hS.F ht9⟩) hS.2.2 dX7_init_59
set_option maxHeartbeats 4000000 in
set_option maxRecDepth 100000 in
/-- the reference, new -/
theorem c_X8_init (l : Launch) (D : va_G) (cI cZ cQ cJ : ClassId) (a : Nat) (sz : Nat)  : Met l yX8_init (.code yX8_init cX8_init 2 none :: ALL) ({ frames := 1, cells := 13, slots := 359, locals := 16 } : Room) (va_Pc [.ref a] (rw_P D cI cZ cQ cJ ([(a, .inr (8, [.null, .int (nI 0), .null, .null, .int (nI 0), .null, .null, .null, .null, .null, .null, .null, .null, .null, .null, .int (nI 0)]))] : va_W) sz)) (va_Qv (fun u9 : (Nat → Nat) => u9 0 = a) (rw_B D (va_A ([(a, .inr (8, [.null, .int (nI 0), .null, .null, .int (nI 0), .null, .null, .null, .null, .null, .null, .null, .null, .null, .null, .int (nI 0)]))] : va_W) sz) (fun u9 : (Nat → Nat) => wMo u9 cI cZ (fun _ => nI 0) (nI 0) (fun _ => nI 0) (fun _ => nI 0) (nI 0) (fun _ => nI 0) (fun _ => nI 0) (fun _ => nI 0) (fun _ => nI 0) (fun _ => (-1 : Int32)) (fun _ => nI 0) (fun _ => nI 0) (fun _ => nI 0) (fun _ => nI 0) (fun _ => nI 0) (nI 0))) (va_A ([(a, .inr (8, [.null, .int (nI 0), .null, .null, .int (nI 0), .null, .null, .null, .null, .null, .null, .null, .null, .null, .null, .int (nI 0)]))] : va_W) sz)) 13 359 (va_A ([(a, .inr (8, [.null, .int (nI 0), .null, .null, .int (nI 0), .null, .null, .null, .null, .null, .null, .null, .null, .null, .null, .int (nI 0)]))] : va_W) sz) := by
  refine Met.ofW (cc := cX8_init) (maxL := 2) (ret := none) (by decide) rfl ?_
  intro p e s m args below meth c s₁ B hml hv
  obtain ⟨rfl, hsz, hP, hSt, hD0⟩ := hv
  have hx := B.exec
  have hb := B.bytes
  have hr := B.returns
  have hts : ∀ w ∈ ALL, w.before ([.ref a] : List Value).toArray s = true := fun w h => atoms_spec (ws := (.code yX8_init cX8_init 2 none :: ALL)) B.pre w (List.mem_cons_of_mem _ h)
  have hown : s.vm.findClass RX8 = some m.cls := findClass_of_methodNamed B.named
  have hlocks := B.notSynchronized
  have hin : meth.name = "<init>" := (name_of_methodNamed B.named B.method).1
  subst hsz
  have hD := hD0.self (sz := s.heap.size)
  clear hD0
  generalize hAe : va_A ([(a, .inr (8, [.null, .int (nI 0), .null, .null, .int (nI 0), .null, .null, .null, .null, .null, .null, .null, .null, .null, .null, .int (nI 0)]))] : va_W) s.heap.size = A at hD ⊢
  have hA : ∀ q : Nat, s.heap.size ≤ q → A q := fun q h => by rw [← hAe]; exact Or.inr h
  have hS : va_S A s.heap s.heap [] := va_S.rf
  have hl := lv_entry ([.ref a]) (n := 2) (Nat.le_of_ble_eq_true rfl)
  rw [lg_entry_eq]
  generalize (lg_sl ([.ref a]) ++ List.replicate (2 - (lg_sl ([.ref a])).length) Slot.unset).toArray = ls at hl ⊢
  have hl : lv_has ls 2 [(0, .ref a)] := hl
  obtain ⟨H, hHe⟩ : ∃ H : Heap, H = s.heap := ⟨_, rfl⟩
  obtain ⟨locs, hLe⟩ : ∃ L : List Loc, L = [] := ⟨_, rfl⟩
  have hP : va_P D vwCl ([(a, .inr (8, [.null, .int (nI 0), .null, .null, .int (nI 0), .null, .null, .null, .null, .null, .null, .null, .null, .null, .null, .int (nI 0)]))] : va_W) H := by rw [hHe]; exact hP
  have hS : va_S A s.heap H locs := by rw [hHe, hLe]; exact hS
  refine W.eqHL hHe hLe ?_
  refine lv_aload_n hx hb dX8_init_0 rfl (lv_at hl 0 rfl) ?_
  refine W.objInit hx hb hown (hts _ t3_219) (hts _ t1_25) (hts _ t1_26) rfl (by rw [hml]; exact hl.1) rfl dX8_init_1 (Nat.le_of_ble_eq_true rfl) (Nat.le_of_ble_eq_true rfl) ?_
  refine W.eq (g2 := F0 m 4 ls []) rfl ?_
  refine lv_aload_n hx hb dX8_init_4 rfl (lv_at hl 0 rfl) ?_
  refine lv_bipush (v := nI 64) hx hb dX8_init_5 (by decide) ?_
  refine r_newZ hx hb (hts _ t1_73) hSt hP hD hS hA (N := 64) (by omega) (Nat.le_of_ble_eq_true rfl) (Nat.le_of_ble_eq_true rfl) dX8_init_7 (fun q_1 H hP hD hS => ?_)
  have hP : va_P D vwCl (([(a, .inr (8, [.null, .int (nI 0), .null, .null, .int (nI 0), .null, .null, .null, .null, .null, .null, .null, .null, .null, .null, .int (nI 0)]))] : va_W) ++ ([(q_1, .inl (cZ, 64, .inl (fun _ => nI 0)))] : va_W)) H := hP
  have hD : va_D A (([(a, .inr (8, [.null, .int (nI 0), .null, .null, .int (nI 0), .null, .null, .null, .null, .null, .null, .null, .null, .null, .null, .int (nI 0)]))] : va_W) ++ ([(q_1, .inl (cZ, 64, .inl (fun _ => nI 0)))] : va_W)) := hD
  refine va_putF (D := D) (ci := 8) (v := .ref q_1) (ty := (.array .boolean)) (C := RX8) (T := TX8) (N := 16) hx hb hts tu_X8 tyX8 tyX8_ok nmX8 hown hSt.1 hP hD hS 0 rfl rfl 0 (by decide) (hts _ t3_220) (fun _ h9 => h9) rfl hin rfl (by decide +kernel) rfl rfl (Nat.le_of_ble_eq_true rfl) dX8_init_9 (fun H locs hP hD hS => ?_)
  have hP : va_P D vwCl (([(a, .inr (8, [.ref q_1, .int (nI 0), .null, .null, .int (nI 0), .null, .null, .null, .null, .null, .null, .null, .null, .null, .null, .int (nI 0)]))] : va_W) ++ ([(q_1, .inl (cZ, 64, .inl (fun _ => nI 0)))] : va_W)) H := hP
  have hD : va_D A (([(a, .inr (8, [.ref q_1, .int (nI 0), .null, .null, .int (nI 0), .null, .null, .null, .null, .null, .null, .null, .null, .null, .null, .int (nI 0)]))] : va_W) ++ ([(q_1, .inl (cZ, 64, .inl (fun _ => nI 0)))] : va_W)) := hD
  refine lv_aload_n hx hb dX8_init_12 rfl (lv_at hl 0 rfl) ?_
  refine lv_bipush (v := nI 7) hx hb dX8_init_13 (by decide) ?_
  refine r_newI hx hb (hts _ t1_74) hSt hP hD hS hA (N := 7) (by omega) (Nat.le_of_ble_eq_true rfl) (Nat.le_of_ble_eq_true rfl) dX8_init_15 (fun q_2 H hP hD hS => ?_)
  have hP : va_P D vwCl ((([(a, .inr (8, [.ref q_1, .int (nI 0), .null, .null, .int (nI 0), .null, .null, .null, .null, .null, .null, .null, .null, .null, .null, .int (nI 0)]))] : va_W) ++ ([(q_1, .inl (cZ, 64, .inl (fun _ => nI 0)))] : va_W)) ++ ([(q_2, .inl (cI, 7, .inl (fun _ => nI 0)))] : va_W)) H := hP
  have hD : va_D A ((([(a, .inr (8, [.ref q_1, .int (nI 0), .null, .null, .int (nI 0), .null, .null, .null, .null, .null, .null, .null, .null, .null, .null, .int (nI 0)]))] : va_W) ++ ([(q_1, .inl (cZ, 64, .inl (fun _ => nI 0)))] : va_W)) ++ ([(q_2, .inl (cI, 7, .inl (fun _ => nI 0)))] : va_W)) := hD
  refine va_putF (D := D) (ci := 8) (v := .ref q_2) (ty := (.array .int)) (C := RX8) (T := TX8) (N := 16) hx hb hts tu_X8 tyX8 tyX8_ok nmX8 hown hSt.1 hP hD hS 0 rfl rfl 2 (by decide) (hts _ t3_222) (fun _ h9 => h9) rfl hin rfl (by decide +kernel) rfl rfl (Nat.le_of_ble_eq_true rfl) dX8_init_17 (fun H locs hP hD hS => ?_)
  have hP : va_P D vwCl ((([(a, .inr (8, [.ref q_1, .int (nI 0), .ref q_2, .null, .int (nI 0), .null, .null, .null, .null, .null, .null, .null, .null, .null, .null, .int (nI 0)]))] : va_W) ++ ([(q_1, .inl (cZ, 64, .inl (fun _ => nI 0)))] : va_W)) ++ ([(q_2, .inl (cI, 7, .inl (fun _ => nI 0)))] : va_W)) H := hP
  have hD : va_D A ((([(a, .inr (8, [.ref q_1, .int (nI 0), .ref q_2, .null, .int (nI 0), .null, .null, .null, .null, .null, .null, .null, .null, .null, .null, .int (nI 0)]))] : va_W) ++ ([(q_1, .inl (cZ, 64, .inl (fun _ => nI 0)))] : va_W)) ++ ([(q_2, .inl (cI, 7, .inl (fun _ => nI 0)))] : va_W)) := hD
  refine lv_aload_n hx hb dX8_init_20 rfl (lv_at hl 0 rfl) ?_
  refine lv_bipush (v := nI 7) hx hb dX8_init_21 (by decide) ?_
  refine r_newI hx hb (hts _ t1_74) hSt hP hD hS hA (N := 7) (by omega) (Nat.le_of_ble_eq_true rfl) (Nat.le_of_ble_eq_true rfl) dX8_init_23 (fun q_3 H hP hD hS => ?_)
  have hP : va_P D vwCl (((([(a, .inr (8, [.ref q_1, .int (nI 0), .ref q_2, .null, .int (nI 0), .null, .null, .null, .null, .null, .null, .null, .null, .null, .null, .int (nI 0)]))] : va_W) ++ ([(q_1, .inl (cZ, 64, .inl (fun _ => nI 0)))] : va_W)) ++ ([(q_2, .inl (cI, 7, .inl (fun _ => nI 0)))] : va_W)) ++ ([(q_3, .inl (cI, 7, .inl (fun _ => nI 0)))] : va_W)) H := hP
  have hD : va_D A (((([(a, .inr (8, [.ref q_1, .int (nI 0), .ref q_2, .null, .int (nI 0), .null, .null, .null, .null, .null, .null, .null, .null, .null, .null, .int (nI 0)]))] : va_W) ++ ([(q_1, .inl (cZ, 64, .inl (fun _ => nI 0)))] : va_W)) ++ ([(q_2, .inl (cI, 7, .inl (fun _ => nI 0)))] : va_W)) ++ ([(q_3, .inl (cI, 7, .inl (fun _ => nI 0)))] : va_W)) := hD
  refine va_putF (D := D) (ci := 8) (v := .ref q_3) (ty := (.array .int)) (C := RX8) (T := TX8) (N := 16) hx hb hts tu_X8 tyX8 tyX8_ok nmX8 hown hSt.1 hP hD hS 0 rfl rfl 3 (by decide) (hts _ t3_223) (fun _ h9 => h9) rfl hin rfl (by decide +kernel) rfl rfl (Nat.le_of_ble_eq_true rfl) dX8_init_25 (fun H locs hP hD hS => ?_)
  have hP : va_P D vwCl (((([(a, .inr (8, [.ref q_1, .int (nI 0), .ref q_2, .ref q_3, .int (nI 0), .null, .null, .null, .null, .null, .null, .null, .null, .null, .null, .int (nI 0)]))] : va_W) ++ ([(q_1, .inl (cZ, 64, .inl (fun _ => nI 0)))] : va_W)) ++ ([(q_2, .inl (cI, 7, .inl (fun _ => nI 0)))] : va_W)) ++ ([(q_3, .inl (cI, 7, .inl (fun _ => nI 0)))] : va_W)) H := hP
  have hD : va_D A (((([(a, .inr (8, [.ref q_1, .int (nI 0), .ref q_2, .ref q_3, .int (nI 0), .null, .null, .null, .null, .null, .null, .null, .null, .null, .null, .int (nI 0)]))] : va_W) ++ ([(q_1, .inl (cZ, 64, .inl (fun _ => nI 0)))] : va_W)) ++ ([(q_2, .inl (cI, 7, .inl (fun _ => nI 0)))] : va_W)) ++ ([(q_3, .inl (cI, 7, .inl (fun _ => nI 0)))] : va_W)) := hD
  refine lv_aload_n hx hb dX8_init_28 rfl (lv_at hl 0 rfl) ?_
  refine lv_bipush (v := nI 35) hx hb dX8_init_29 (by decide) ?_
  refine r_newI hx hb (hts _ t1_74) hSt hP hD hS hA (N := 35) (by omega) (Nat.le_of_ble_eq_true rfl) (Nat.le_of_ble_eq_true rfl) dX8_init_31 (fun q_4 H hP hD hS => ?_)
  have hP : va_P D vwCl ((((([(a, .inr (8, [.ref q_1, .int (nI 0), .ref q_2, .ref q_3, .int (nI 0), .null, .null, .null, .null, .null, .null, .null, .null, .null, .null, .int (nI 0)]))] : va_W) ++ ([(q_1, .inl (cZ, 64, .inl (fun _ => nI 0)))] : va_W)) ++ ([(q_2, .inl (cI, 7, .inl (fun _ => nI 0)))] : va_W)) ++ ([(q_3, .inl (cI, 7, .inl (fun _ => nI 0)))] : va_W)) ++ ([(q_4, .inl (cI, 35, .inl (fun _ => nI 0)))] : va_W)) H := hP
  have hD : va_D A ((((([(a, .inr (8, [.ref q_1, .int (nI 0), .ref q_2, .ref q_3, .int (nI 0), .null, .null, .null, .null, .null, .null, .null, .null, .null, .null, .int (nI 0)]))] : va_W) ++ ([(q_1, .inl (cZ, 64, .inl (fun _ => nI 0)))] : va_W)) ++ ([(q_2, .inl (cI, 7, .inl (fun _ => nI 0)))] : va_W)) ++ ([(q_3, .inl (cI, 7, .inl (fun _ => nI 0)))] : va_W)) ++ ([(q_4, .inl (cI, 35, .inl (fun _ => nI 0)))] : va_W)) := hD
  refine va_putF (D := D) (ci := 8) (v := .ref q_4) (ty := (.array .int)) (C := RX8) (T := TX8) (N := 16) hx hb hts tu_X8 tyX8 tyX8_ok nmX8 hown hSt.1 hP hD hS 0 rfl rfl 5 (by decide) (hts _ t3_225) (fun _ h9 => h9) rfl hin rfl (by decide +kernel) rfl rfl (Nat.le_of_ble_eq_true rfl) dX8_init_33 (fun H locs hP hD hS => ?_)
  have hP : va_P D vwCl ((((([(a, .inr (8, [.ref q_1, .int (nI 0), .ref q_2, .ref q_3, .int (nI 0), .ref q_4, .null, .null, .null, .null, .null, .null, .null, .null, .null, .int (nI 0)]))] : va_W) ++ ([(q_1, .inl (cZ, 64, .inl (fun _ => nI 0)))] : va_W)) ++ ([(q_2, .inl (cI, 7, .inl (fun _ => nI 0)))] : va_W)) ++ ([(q_3, .inl (cI, 7, .inl (fun _ => nI 0)))] : va_W)) ++ ([(q_4, .inl (cI, 35, .inl (fun _ => nI 0)))] : va_W)) H := hP
  have hD : va_D A ((((([(a, .inr (8, [.ref q_1, .int (nI 0), .ref q_2, .ref q_3, .int (nI 0), .ref q_4, .null, .null, .null, .null, .null, .null, .null, .null, .null, .int (nI 0)]))] : va_W) ++ ([(q_1, .inl (cZ, 64, .inl (fun _ => nI 0)))] : va_W)) ++ ([(q_2, .inl (cI, 7, .inl (fun _ => nI 0)))] : va_W)) ++ ([(q_3, .inl (cI, 7, .inl (fun _ => nI 0)))] : va_W)) ++ ([(q_4, .inl (cI, 35, .inl (fun _ => nI 0)))] : va_W)) := hD
  refine lv_aload_n hx hb dX8_init_36 rfl (lv_at hl 0 rfl) ?_
  refine lv_bipush (v := nI 49) hx hb dX8_init_37 (by decide) ?_
  refine r_newI hx hb (hts _ t1_74) hSt hP hD hS hA (N := 49) (by omega) (Nat.le_of_ble_eq_true rfl) (Nat.le_of_ble_eq_true rfl) dX8_init_39 (fun q_5 H hP hD hS => ?_)
  have hP : va_P D vwCl (((((([(a, .inr (8, [.ref q_1, .int (nI 0), .ref q_2, .ref q_3, .int (nI 0), .ref q_4, .null, .null, .null, .null, .null, .null, .null, .null, .null, .int (nI 0)]))] : va_W) ++ ([(q_1, .inl (cZ, 64, .inl (fun _ => nI 0)))] : va_W)) ++ ([(q_2, .inl (cI, 7, .inl (fun _ => nI 0)))] : va_W)) ++ ([(q_3, .inl (cI, 7, .inl (fun _ => nI 0)))] : va_W)) ++ ([(q_4, .inl (cI, 35, .inl (fun _ => nI 0)))] : va_W)) ++ ([(q_5, .inl (cI, 49, .inl (fun _ => nI 0)))] : va_W)) H := hP
  have hD : va_D A (((((([(a, .inr (8, [.ref q_1, .int (nI 0), .ref q_2, .ref q_3, .int (nI 0), .ref q_4, .null, .null, .null, .null, .null, .null, .null, .null, .null, .int (nI 0)]))] : va_W) ++ ([(q_1, .inl (cZ, 64, .inl (fun _ => nI 0)))] : va_W)) ++ ([(q_2, .inl (cI, 7, .inl (fun _ => nI 0)))] : va_W)) ++ ([(q_3, .inl (cI, 7, .inl (fun _ => nI 0)))] : va_W)) ++ ([(q_4, .inl (cI, 35, .inl (fun _ => nI 0)))] : va_W)) ++ ([(q_5, .inl (cI, 49, .inl (fun _ => nI 0)))] : va_W)) := hD
  refine va_putF (D := D) (ci := 8) (v := .ref q_5) (ty := (.array .int)) (C := RX8) (T := TX8) (N := 16) hx hb hts tu_X8 tyX8 tyX8_ok nmX8 hown hSt.1 hP hD hS 0 rfl rfl 6 (by decide) (hts _ t3_226) (fun _ h9 => h9) rfl hin rfl (by decide +kernel) rfl rfl (Nat.le_of_ble_eq_true rfl) dX8_init_41 (fun H locs hP hD hS => ?_)
  have hP : va_P D vwCl (((((([(a, .inr (8, [.ref q_1, .int (nI 0), .ref q_2, .ref q_3, .int (nI 0), .ref q_4, .ref q_5, .null, .null, .null, .null, .null, .null, .null, .null, .int (nI 0)]))] : va_W) ++ ([(q_1, .inl (cZ, 64, .inl (fun _ => nI 0)))] : va_W)) ++ ([(q_2, .inl (cI, 7, .inl (fun _ => nI 0)))] : va_W)) ++ ([(q_3, .inl (cI, 7, .inl (fun _ => nI 0)))] : va_W)) ++ ([(q_4, .inl (cI, 35, .inl (fun _ => nI 0)))] : va_W)) ++ ([(q_5, .inl (cI, 49, .inl (fun _ => nI 0)))] : va_W)) H := hP
  have hD : va_D A (((((([(a, .inr (8, [.ref q_1, .int (nI 0), .ref q_2, .ref q_3, .int (nI 0), .ref q_4, .ref q_5, .null, .null, .null, .null, .null, .null, .null, .null, .int (nI 0)]))] : va_W) ++ ([(q_1, .inl (cZ, 64, .inl (fun _ => nI 0)))] : va_W)) ++ ([(q_2, .inl (cI, 7, .inl (fun _ => nI 0)))] : va_W)) ++ ([(q_3, .inl (cI, 7, .inl (fun _ => nI 0)))] : va_W)) ++ ([(q_4, .inl (cI, 35, .inl (fun _ => nI 0)))] : va_W)) ++ ([(q_5, .inl (cI, 49, .inl (fun _ => nI 0)))] : va_W)) := hD
  refine lv_aload_n hx hb dX8_init_44 rfl (lv_at hl 0 rfl) ?_
  refine lv_bipush (v := nI 49) hx hb dX8_init_45 (by decide) ?_
  refine r_newI hx hb (hts _ t1_74) hSt hP hD hS hA (N := 49) (by omega) (Nat.le_of_ble_eq_true rfl) (Nat.le_of_ble_eq_true rfl) dX8_init_47 (fun q_6 H hP hD hS => ?_)
  have hP : va_P D vwCl ((((((([(a, .inr (8, [.ref q_1, .int (nI 0), .ref q_2, .ref q_3, .int (nI 0), .ref q_4, .ref q_5, .null, .null, .null, .null, .null, .null, .null, .null, .int (nI 0)]))] : va_W) ++ ([(q_1, .inl (cZ, 64, .inl (fun _ => nI 0)))] : va_W)) ++ ([(q_2, .inl (cI, 7, .inl (fun _ => nI 0)))] : va_W)) ++ ([(q_3, .inl (cI, 7, .inl (fun _ => nI 0)))] : va_W)) ++ ([(q_4, .inl (cI, 35, .inl (fun _ => nI 0)))] : va_W)) ++ ([(q_5, .inl (cI, 49, .inl (fun _ => nI 0)))] : va_W)) ++ ([(q_6, .inl (cI, 49, .inl (fun _ => nI 0)))] : va_W)) H := hP
  have hD : va_D A ((((((([(a, .inr (8, [.ref q_1, .int (nI 0), .ref q_2, .ref q_3, .int (nI 0), .ref q_4, .ref q_5, .null, .null, .null, .null, .null, .null, .null, .null, .int (nI 0)]))] : va_W) ++ ([(q_1, .inl (cZ, 64, .inl (fun _ => nI 0)))] : va_W)) ++ ([(q_2, .inl (cI, 7, .inl (fun _ => nI 0)))] : va_W)) ++ ([(q_3, .inl (cI, 7, .inl (fun _ => nI 0)))] : va_W)) ++ ([(q_4, .inl (cI, 35, .inl (fun _ => nI 0)))] : va_W)) ++ ([(q_5, .inl (cI, 49, .inl (fun _ => nI 0)))] : va_W)) ++ ([(q_6, .inl (cI, 49, .inl (fun _ => nI 0)))] : va_W)) := hD
  refine va_putF (D := D) (ci := 8) (v := .ref q_6) (ty := (.array .int)) (C := RX8) (T := TX8) (N := 16) hx hb hts tu_X8 tyX8 tyX8_ok nmX8 hown hSt.1 hP hD hS 0 rfl rfl 7 (by decide) (hts _ t3_227) (fun _ h9 => h9) rfl hin rfl (by decide +kernel) rfl rfl (Nat.le_of_ble_eq_true rfl) dX8_init_49 (fun H locs hP hD hS => ?_)
  have hP : va_P D vwCl ((((((([(a, .inr (8, [.ref q_1, .int (nI 0), .ref q_2, .ref q_3, .int (nI 0), .ref q_4, .ref q_5, .ref q_6, .null, .null, .null, .null, .null, .null, .null, .int (nI 0)]))] : va_W) ++ ([(q_1, .inl (cZ, 64, .inl (fun _ => nI 0)))] : va_W)) ++ ([(q_2, .inl (cI, 7, .inl (fun _ => nI 0)))] : va_W)) ++ ([(q_3, .inl (cI, 7, .inl (fun _ => nI 0)))] : va_W)) ++ ([(q_4, .inl (cI, 35, .inl (fun _ => nI 0)))] : va_W)) ++ ([(q_5, .inl (cI, 49, .inl (fun _ => nI 0)))] : va_W)) ++ ([(q_6, .inl (cI, 49, .inl (fun _ => nI 0)))] : va_W)) H := hP
  have hD : va_D A ((((((([(a, .inr (8, [.ref q_1, .int (nI 0), .ref q_2, .ref q_3, .int (nI 0), .ref q_4, .ref q_5, .ref q_6, .null, .null, .null, .null, .null, .null, .null, .int (nI 0)]))] : va_W) ++ ([(q_1, .inl (cZ, 64, .inl (fun _ => nI 0)))] : va_W)) ++ ([(q_2, .inl (cI, 7, .inl (fun _ => nI 0)))] : va_W)) ++ ([(q_3, .inl (cI, 7, .inl (fun _ => nI 0)))] : va_W)) ++ ([(q_4, .inl (cI, 35, .inl (fun _ => nI 0)))] : va_W)) ++ ([(q_5, .inl (cI, 49, .inl (fun _ => nI 0)))] : va_W)) ++ ([(q_6, .inl (cI, 49, .inl (fun _ => nI 0)))] : va_W)) := hD
  refine lv_aload_n hx hb dX8_init_52 rfl (lv_at hl 0 rfl) ?_
  refine lv_bipush (v := nI 7) hx hb dX8_init_53 (by decide) ?_
  refine r_newI hx hb (hts _ t1_74) hSt hP hD hS hA (N := 7) (by omega) (Nat.le_of_ble_eq_true rfl) (Nat.le_of_ble_eq_true rfl) dX8_init_55 (fun q_7 H hP hD hS => ?_)
  have hP : va_P D vwCl (((((((([(a, .inr (8, [.ref q_1, .int (nI 0), .ref q_2, .ref q_3, .int (nI 0), .ref q_4, .ref q_5, .ref q_6, .null, .null, .null, .null, .null, .null, .null, .int (nI 0)]))] : va_W) ++ ([(q_1, .inl (cZ, 64, .inl (fun _ => nI 0)))] : va_W)) ++ ([(q_2, .inl (cI, 7, .inl (fun _ => nI 0)))] : va_W)) ++ ([(q_3, .inl (cI, 7, .inl (fun _ => nI 0)))] : va_W)) ++ ([(q_4, .inl (cI, 35, .inl (fun _ => nI 0)))] : va_W)) ++ ([(q_5, .inl (cI, 49, .inl (fun _ => nI 0)))] : va_W)) ++ ([(q_6, .inl (cI, 49, .inl (fun _ => nI 0)))] : va_W)) ++ ([(q_7, .inl (cI, 7, .inl (fun _ => nI 0)))] : va_W)) H := hP
  have hD : va_D A (((((((([(a, .inr (8, [.ref q_1, .int (nI 0), .ref q_2, .ref q_3, .int (nI 0), .ref q_4, .ref q_5, .ref q_6, .null, .null, .null, .null, .null, .null, .null, .int (nI 0)]))] : va_W) ++ ([(q_1, .inl (cZ, 64, .inl (fun _ => nI 0)))] : va_W)) ++ ([(q_2, .inl (cI, 7, .inl (fun _ => nI 0)))] : va_W)) ++ ([(q_3, .inl (cI, 7, .inl (fun _ => nI 0)))] : va_W)) ++ ([(q_4, .inl (cI, 35, .inl (fun _ => nI 0)))] : va_W)) ++ ([(q_5, .inl (cI, 49, .inl (fun _ => nI 0)))] : va_W)) ++ ([(q_6, .inl (cI, 49, .inl (fun _ => nI 0)))] : va_W)) ++ ([(q_7, .inl (cI, 7, .inl (fun _ => nI 0)))] : va_W)) := hD
  refine va_putF (D := D) (ci := 8) (v := .ref q_7) (ty := (.array .int)) (C := RX8) (T := TX8) (N := 16) hx hb hts tu_X8 tyX8 tyX8_ok nmX8 hown hSt.1 hP hD hS 0 rfl rfl 8 (by decide) (hts _ t3_228) (fun _ h9 => h9) rfl hin rfl (by decide +kernel) rfl rfl (Nat.le_of_ble_eq_true rfl) dX8_init_57 (fun H locs hP hD hS => ?_)
  have hP : va_P D vwCl (((((((([(a, .inr (8, [.ref q_1, .int (nI 0), .ref q_2, .ref q_3, .int (nI 0), .ref q_4, .ref q_5, .ref q_6, .ref q_7, .null, .null, .null, .null, .null, .null, .int (nI 0)]))] : va_W) ++ ([(q_1, .inl (cZ, 64, .inl (fun _ => nI 0)))] : va_W)) ++ ([(q_2, .inl (cI, 7, .inl (fun _ => nI 0)))] : va_W)) ++ ([(q_3, .inl (cI, 7, .inl (fun _ => nI 0)))] : va_W)) ++ ([(q_4, .inl (cI, 35, .inl (fun _ => nI 0)))] : va_W)) ++ ([(q_5, .inl (cI, 49, .inl (fun _ => nI 0)))] : va_W)) ++ ([(q_6, .inl (cI, 49, .inl (fun _ => nI 0)))] : va_W)) ++ ([(q_7, .inl (cI, 7, .inl (fun _ => nI 0)))] : va_W)) H := hP
  have hD : va_D A (((((((([(a, .inr (8, [.ref q_1, .int (nI 0), .ref q_2, .ref q_3, .int (nI 0), .ref q_4, .ref q_5, .ref q_6, .ref q_7, .null, .null, .null, .null, .null, .null, .int (nI 0)]))] : va_W) ++ ([(q_1, .inl (cZ, 64, .inl (fun _ => nI 0)))] : va_W)) ++ ([(q_2, .inl (cI, 7, .inl (fun _ => nI 0)))] : va_W)) ++ ([(q_3, .inl (cI, 7, .inl (fun _ => nI 0)))] : va_W)) ++ ([(q_4, .inl (cI, 35, .inl (fun _ => nI 0)))] : va_W)) ++ ([(q_5, .inl (cI, 49, .inl (fun _ => nI 0)))] : va_W)) ++ ([(q_6, .inl (cI, 49, .inl (fun _ => nI 0)))] : va_W)) ++ ([(q_7, .inl (cI, 7, .inl (fun _ => nI 0)))] : va_W)) := hD
  refine lv_aload_n hx hb dX8_init_60 rfl (lv_at hl 0 rfl) ?_
  refine lv_bipush (v := nI 7) hx hb dX8_init_61 (by decide) ?_
  refine r_newI hx hb (hts _ t1_74) hSt hP hD hS hA (N := 7) (by omega) (Nat.le_of_ble_eq_true rfl) (Nat.le_of_ble_eq_true rfl) dX8_init_63 (fun q_8 H hP hD hS => ?_)
  have hP : va_P D vwCl ((((((((([(a, .inr (8, [.ref q_1, .int (nI 0), .ref q_2, .ref q_3, .int (nI 0), .ref q_4, .ref q_5, .ref q_6, .ref q_7, .null, .null, .null, .null, .null, .null, .int (nI 0)]))] : va_W) ++ ([(q_1, .inl (cZ, 64, .inl (fun _ => nI 0)))] : va_W)) ++ ([(q_2, .inl (cI, 7, .inl (fun _ => nI 0)))] : va_W)) ++ ([(q_3, .inl (cI, 7, .inl (fun _ => nI 0)))] : va_W)) ++ ([(q_4, .inl (cI, 35, .inl (fun _ => nI 0)))] : va_W)) ++ ([(q_5, .inl (cI, 49, .inl (fun _ => nI 0)))] : va_W)) ++ ([(q_6, .inl (cI, 49, .inl (fun _ => nI 0)))] : va_W)) ++ ([(q_7, .inl (cI, 7, .inl (fun _ => nI 0)))] : va_W)) ++ ([(q_8, .inl (cI, 7, .inl (fun _ => nI 0)))] : va_W)) H := hP
  have hD : va_D A ((((((((([(a, .inr (8, [.ref q_1, .int (nI 0), .ref q_2, .ref q_3, .int (nI 0), .ref q_4, .ref q_5, .ref q_6, .ref q_7, .null, .null, .null, .null, .null, .null, .int (nI 0)]))] : va_W) ++ ([(q_1, .inl (cZ, 64, .inl (fun _ => nI 0)))] : va_W)) ++ ([(q_2, .inl (cI, 7, .inl (fun _ => nI 0)))] : va_W)) ++ ([(q_3, .inl (cI, 7, .inl (fun _ => nI 0)))] : va_W)) ++ ([(q_4, .inl (cI, 35, .inl (fun _ => nI 0)))] : va_W)) ++ ([(q_5, .inl (cI, 49, .inl (fun _ => nI 0)))] : va_W)) ++ ([(q_6, .inl (cI, 49, .inl (fun _ => nI 0)))] : va_W)) ++ ([(q_7, .inl (cI, 7, .inl (fun _ => nI 0)))] : va_W)) ++ ([(q_8, .inl (cI, 7, .inl (fun _ => nI 0)))] : va_W)) := hD
  refine va_putF (D := D) (ci := 8) (v := .ref q_8) (ty := (.array .int)) (C := RX8) (T := TX8) (N := 16) hx hb hts tu_X8 tyX8 tyX8_ok nmX8 hown hSt.1 hP hD hS 0 rfl rfl 9 (by decide) (hts _ t3_229) (fun _ h9 => h9) rfl hin rfl (by decide +kernel) rfl rfl (Nat.le_of_ble_eq_true rfl) dX8_init_65 (fun H locs hP hD hS => ?_)
  have hP : va_P D vwCl ((((((((([(a, .inr (8, [.ref q_1, .int (nI 0), .ref q_2, .ref q_3, .int (nI 0), .ref q_4, .ref q_5, .ref q_6, .ref q_7, .ref q_8, .null, .null, .null, .null, .null, .int (nI 0)]))] : va_W) ++ ([(q_1, .inl (cZ, 64, .inl (fun _ => nI 0)))] : va_W)) ++ ([(q_2, .inl (cI, 7, .inl (fun _ => nI 0)))] : va_W)) ++ ([(q_3, .inl (cI, 7, .inl (fun _ => nI 0)))] : va_W)) ++ ([(q_4, .inl (cI, 35, .inl (fun _ => nI 0)))] : va_W)) ++ ([(q_5, .inl (cI, 49, .inl (fun _ => nI 0)))] : va_W)) ++ ([(q_6, .inl (cI, 49, .inl (fun _ => nI 0)))] : va_W)) ++ ([(q_7, .inl (cI, 7, .inl (fun _ => nI 0)))] : va_W)) ++ ([(q_8, .inl (cI, 7, .inl (fun _ => nI 0)))] : va_W)) H := hP
  have hD : va_D A ((((((((([(a, .inr (8, [.ref q_1, .int (nI 0), .ref q_2, .ref q_3, .int (nI 0), .ref q_4, .ref q_5, .ref q_6, .ref q_7, .ref q_8, .null, .null, .null, .null, .null, .int (nI 0)]))] : va_W) ++ ([(q_1, .inl (cZ, 64, .inl (fun _ => nI 0)))] : va_W)) ++ ([(q_2, .inl (cI, 7, .inl (fun _ => nI 0)))] : va_W)) ++ ([(q_3, .inl (cI, 7, .inl (fun _ => nI 0)))] : va_W)) ++ ([(q_4, .inl (cI, 35, .inl (fun _ => nI 0)))] : va_W)) ++ ([(q_5, .inl (cI, 49, .inl (fun _ => nI 0)))] : va_W)) ++ ([(q_6, .inl (cI, 49, .inl (fun _ => nI 0)))] : va_W)) ++ ([(q_7, .inl (cI, 7, .inl (fun _ => nI 0)))] : va_W)) ++ ([(q_8, .inl (cI, 7, .inl (fun _ => nI 0)))] : va_W)) := hD
  refine lv_aload_n hx hb dX8_init_68 rfl (lv_at hl 0 rfl) ?_
  refine lv_bipush (v := nI 49) hx hb dX8_init_69 (by decide) ?_
  refine r_newI hx hb (hts _ t1_74) hSt hP hD hS hA (N := 49) (by omega) (Nat.le_of_ble_eq_true rfl) (Nat.le_of_ble_eq_true rfl) dX8_init_71 (fun q_9 H hP hD hS => ?_)
  have hP : va_P D vwCl (((((((((([(a, .inr (8, [.ref q_1, .int (nI 0), .ref q_2, .ref q_3, .int (nI 0), .ref q_4, .ref q_5, .ref q_6, .ref q_7, .ref q_8, .null, .null, .null, .null, .null, .int (nI 0)]))] : va_W) ++ ([(q_1, .inl (cZ, 64, .inl (fun _ => nI 0)))] : va_W)) ++ ([(q_2, .inl (cI, 7, .inl (fun _ => nI 0)))] : va_W)) ++ ([(q_3, .inl (cI, 7, .inl (fun _ => nI 0)))] : va_W)) ++ ([(q_4, .inl (cI, 35, .inl (fun _ => nI 0)))] : va_W)) ++ ([(q_5, .inl (cI, 49, .inl (fun _ => nI 0)))] : va_W)) ++ ([(q_6, .inl (cI, 49, .inl (fun _ => nI 0)))] : va_W)) ++ ([(q_7, .inl (cI, 7, .inl (fun _ => nI 0)))] : va_W)) ++ ([(q_8, .inl (cI, 7, .inl (fun _ => nI 0)))] : va_W)) ++ ([(q_9, .inl (cI, 49, .inl (fun _ => nI 0)))] : va_W)) H := hP
  have hD : va_D A (((((((((([(a, .inr (8, [.ref q_1, .int (nI 0), .ref q_2, .ref q_3, .int (nI 0), .ref q_4, .ref q_5, .ref q_6, .ref q_7, .ref q_8, .null, .null, .null, .null, .null, .int (nI 0)]))] : va_W) ++ ([(q_1, .inl (cZ, 64, .inl (fun _ => nI 0)))] : va_W)) ++ ([(q_2, .inl (cI, 7, .inl (fun _ => nI 0)))] : va_W)) ++ ([(q_3, .inl (cI, 7, .inl (fun _ => nI 0)))] : va_W)) ++ ([(q_4, .inl (cI, 35, .inl (fun _ => nI 0)))] : va_W)) ++ ([(q_5, .inl (cI, 49, .inl (fun _ => nI 0)))] : va_W)) ++ ([(q_6, .inl (cI, 49, .inl (fun _ => nI 0)))] : va_W)) ++ ([(q_7, .inl (cI, 7, .inl (fun _ => nI 0)))] : va_W)) ++ ([(q_8, .inl (cI, 7, .inl (fun _ => nI 0)))] : va_W)) ++ ([(q_9, .inl (cI, 49, .inl (fun _ => nI 0)))] : va_W)) := hD
  refine va_putF (D := D) (ci := 8) (v := .ref q_9) (ty := (.array .int)) (C := RX8) (T := TX8) (N := 16) hx hb hts tu_X8 tyX8 tyX8_ok nmX8 hown hSt.1 hP hD hS 0 rfl rfl 10 (by decide) (hts _ t3_230) (fun _ h9 => h9) rfl hin rfl (by decide +kernel) rfl rfl (Nat.le_of_ble_eq_true rfl) dX8_init_73 (fun H locs hP hD hS => ?_)
  have hP : va_P D vwCl (((((((((([(a, .inr (8, [.ref q_1, .int (nI 0), .ref q_2, .ref q_3, .int (nI 0), .ref q_4, .ref q_5, .ref q_6, .ref q_7, .ref q_8, .ref q_9, .null, .null, .null, .null, .int (nI 0)]))] : va_W) ++ ([(q_1, .inl (cZ, 64, .inl (fun _ => nI 0)))] : va_W)) ++ ([(q_2, .inl (cI, 7, .inl (fun _ => nI 0)))] : va_W)) ++ ([(q_3, .inl (cI, 7, .inl (fun _ => nI 0)))] : va_W)) ++ ([(q_4, .inl (cI, 35, .inl (fun _ => nI 0)))] : va_W)) ++ ([(q_5, .inl (cI, 49, .inl (fun _ => nI 0)))] : va_W)) ++ ([(q_6, .inl (cI, 49, .inl (fun _ => nI 0)))] : va_W)) ++ ([(q_7, .inl (cI, 7, .inl (fun _ => nI 0)))] : va_W)) ++ ([(q_8, .inl (cI, 7, .inl (fun _ => nI 0)))] : va_W)) ++ ([(q_9, .inl (cI, 49, .inl (fun _ => nI 0)))] : va_W)) H := hP
  have hD : va_D A (((((((((([(a, .inr (8, [.ref q_1, .int (nI 0), .ref q_2, .ref q_3, .int (nI 0), .ref q_4, .ref q_5, .ref q_6, .ref q_7, .ref q_8, .ref q_9, .null, .null, .null, .null, .int (nI 0)]))] : va_W) ++ ([(q_1, .inl (cZ, 64, .inl (fun _ => nI 0)))] : va_W)) ++ ([(q_2, .inl (cI, 7, .inl (fun _ => nI 0)))] : va_W)) ++ ([(q_3, .inl (cI, 7, .inl (fun _ => nI 0)))] : va_W)) ++ ([(q_4, .inl (cI, 35, .inl (fun _ => nI 0)))] : va_W)) ++ ([(q_5, .inl (cI, 49, .inl (fun _ => nI 0)))] : va_W)) ++ ([(q_6, .inl (cI, 49, .inl (fun _ => nI 0)))] : va_W)) ++ ([(q_7, .inl (cI, 7, .inl (fun _ => nI 0)))] : va_W)) ++ ([(q_8, .inl (cI, 7, .inl (fun _ => nI 0)))] : va_W)) ++ ([(q_9, .inl (cI, 49, .inl (fun _ => nI 0)))] : va_W)) := hD
  refine lv_aload_n hx hb dX8_init_76 rfl (lv_at hl 0 rfl) ?_
  refine lv_bipush (v := nI 64) hx hb dX8_init_77 (by decide) ?_
  refine r_newI hx hb (hts _ t1_74) hSt hP hD hS hA (N := 64) (by omega) (Nat.le_of_ble_eq_true rfl) (Nat.le_of_ble_eq_true rfl) dX8_init_79 (fun q_10 H hP hD hS => ?_)
  have hP : va_P D vwCl ((((((((((([(a, .inr (8, [.ref q_1, .int (nI 0), .ref q_2, .ref q_3, .int (nI 0), .ref q_4, .ref q_5, .ref q_6, .ref q_7, .ref q_8, .ref q_9, .null, .null, .null, .null, .int (nI 0)]))] : va_W) ++ ([(q_1, .inl (cZ, 64, .inl (fun _ => nI 0)))] : va_W)) ++ ([(q_2, .inl (cI, 7, .inl (fun _ => nI 0)))] : va_W)) ++ ([(q_3, .inl (cI, 7, .inl (fun _ => nI 0)))] : va_W)) ++ ([(q_4, .inl (cI, 35, .inl (fun _ => nI 0)))] : va_W)) ++ ([(q_5, .inl (cI, 49, .inl (fun _ => nI 0)))] : va_W)) ++ ([(q_6, .inl (cI, 49, .inl (fun _ => nI 0)))] : va_W)) ++ ([(q_7, .inl (cI, 7, .inl (fun _ => nI 0)))] : va_W)) ++ ([(q_8, .inl (cI, 7, .inl (fun _ => nI 0)))] : va_W)) ++ ([(q_9, .inl (cI, 49, .inl (fun _ => nI 0)))] : va_W)) ++ ([(q_10, .inl (cI, 64, .inl (fun _ => nI 0)))] : va_W)) H := hP
  have hD : va_D A ((((((((((([(a, .inr (8, [.ref q_1, .int (nI 0), .ref q_2, .ref q_3, .int (nI 0), .ref q_4, .ref q_5, .ref q_6, .ref q_7, .ref q_8, .ref q_9, .null, .null, .null, .null, .int (nI 0)]))] : va_W) ++ ([(q_1, .inl (cZ, 64, .inl (fun _ => nI 0)))] : va_W)) ++ ([(q_2, .inl (cI, 7, .inl (fun _ => nI 0)))] : va_W)) ++ ([(q_3, .inl (cI, 7, .inl (fun _ => nI 0)))] : va_W)) ++ ([(q_4, .inl (cI, 35, .inl (fun _ => nI 0)))] : va_W)) ++ ([(q_5, .inl (cI, 49, .inl (fun _ => nI 0)))] : va_W)) ++ ([(q_6, .inl (cI, 49, .inl (fun _ => nI 0)))] : va_W)) ++ ([(q_7, .inl (cI, 7, .inl (fun _ => nI 0)))] : va_W)) ++ ([(q_8, .inl (cI, 7, .inl (fun _ => nI 0)))] : va_W)) ++ ([(q_9, .inl (cI, 49, .inl (fun _ => nI 0)))] : va_W)) ++ ([(q_10, .inl (cI, 64, .inl (fun _ => nI 0)))] : va_W)) := hD
  refine va_putF (D := D) (ci := 8) (v := .ref q_10) (ty := (.array .int)) (C := RX8) (T := TX8) (N := 16) hx hb hts tu_X8 tyX8 tyX8_ok nmX8 hown hSt.1 hP hD hS 0 rfl rfl 11 (by decide) (hts _ t3_231) (fun _ h9 => h9) rfl hin rfl (by decide +kernel) rfl rfl (Nat.le_of_ble_eq_true rfl) dX8_init_81 (fun H locs hP hD hS => ?_)
  have hP : va_P D vwCl ((((((((((([(a, .inr (8, [.ref q_1, .int (nI 0), .ref q_2, .ref q_3, .int (nI 0), .ref q_4, .ref q_5, .ref q_6, .ref q_7, .ref q_8, .ref q_9, .ref q_10, .null, .null, .null, .int (nI 0)]))] : va_W) ++ ([(q_1, .inl (cZ, 64, .inl (fun _ => nI 0)))] : va_W)) ++ ([(q_2, .inl (cI, 7, .inl (fun _ => nI 0)))] : va_W)) ++ ([(q_3, .inl (cI, 7, .inl (fun _ => nI 0)))] : va_W)) ++ ([(q_4, .inl (cI, 35, .inl (fun _ => nI 0)))] : va_W)) ++ ([(q_5, .inl (cI, 49, .inl (fun _ => nI 0)))] : va_W)) ++ ([(q_6, .inl (cI, 49, .inl (fun _ => nI 0)))] : va_W)) ++ ([(q_7, .inl (cI, 7, .inl (fun _ => nI 0)))] : va_W)) ++ ([(q_8, .inl (cI, 7, .inl (fun _ => nI 0)))] : va_W)) ++ ([(q_9, .inl (cI, 49, .inl (fun _ => nI 0)))] : va_W)) ++ ([(q_10, .inl (cI, 64, .inl (fun _ => nI 0)))] : va_W)) H := hP
  have hD : va_D A ((((((((((([(a, .inr (8, [.ref q_1, .int (nI 0), .ref q_2, .ref q_3, .int (nI 0), .ref q_4, .ref q_5, .ref q_6, .ref q_7, .ref q_8, .ref q_9, .ref q_10, .null, .null, .null, .int (nI 0)]))] : va_W) ++ ([(q_1, .inl (cZ, 64, .inl (fun _ => nI 0)))] : va_W)) ++ ([(q_2, .inl (cI, 7, .inl (fun _ => nI 0)))] : va_W)) ++ ([(q_3, .inl (cI, 7, .inl (fun _ => nI 0)))] : va_W)) ++ ([(q_4, .inl (cI, 35, .inl (fun _ => nI 0)))] : va_W)) ++ ([(q_5, .inl (cI, 49, .inl (fun _ => nI 0)))] : va_W)) ++ ([(q_6, .inl (cI, 49, .inl (fun _ => nI 0)))] : va_W)) ++ ([(q_7, .inl (cI, 7, .inl (fun _ => nI 0)))] : va_W)) ++ ([(q_8, .inl (cI, 7, .inl (fun _ => nI 0)))] : va_W)) ++ ([(q_9, .inl (cI, 49, .inl (fun _ => nI 0)))] : va_W)) ++ ([(q_10, .inl (cI, 64, .inl (fun _ => nI 0)))] : va_W)) := hD
  refine lv_aload_n hx hb dX8_init_84 rfl (lv_at hl 0 rfl) ?_
  refine lv_bipush (v := nI 7) hx hb dX8_init_85 (by decide) ?_
  refine r_newI hx hb (hts _ t1_74) hSt hP hD hS hA (N := 7) (by omega) (Nat.le_of_ble_eq_true rfl) (Nat.le_of_ble_eq_true rfl) dX8_init_87 (fun q_11 H hP hD hS => ?_)
  have hP : va_P D vwCl (((((((((((([(a, .inr (8, [.ref q_1, .int (nI 0), .ref q_2, .ref q_3, .int (nI 0), .ref q_4, .ref q_5, .ref q_6, .ref q_7, .ref q_8, .ref q_9, .ref q_10, .null, .null, .null, .int (nI 0)]))] : va_W) ++ ([(q_1, .inl (cZ, 64, .inl (fun _ => nI 0)))] : va_W)) ++ ([(q_2, .inl (cI, 7, .inl (fun _ => nI 0)))] : va_W)) ++ ([(q_3, .inl (cI, 7, .inl (fun _ => nI 0)))] : va_W)) ++ ([(q_4, .inl (cI, 35, .inl (fun _ => nI 0)))] : va_W)) ++ ([(q_5, .inl (cI, 49, .inl (fun _ => nI 0)))] : va_W)) ++ ([(q_6, .inl (cI, 49, .inl (fun _ => nI 0)))] : va_W)) ++ ([(q_7, .inl (cI, 7, .inl (fun _ => nI 0)))] : va_W)) ++ ([(q_8, .inl (cI, 7, .inl (fun _ => nI 0)))] : va_W)) ++ ([(q_9, .inl (cI, 49, .inl (fun _ => nI 0)))] : va_W)) ++ ([(q_10, .inl (cI, 64, .inl (fun _ => nI 0)))] : va_W)) ++ ([(q_11, .inl (cI, 7, .inl (fun _ => nI 0)))] : va_W)) H := hP
  have hD : va_D A (((((((((((([(a, .inr (8, [.ref q_1, .int (nI 0), .ref q_2, .ref q_3, .int (nI 0), .ref q_4, .ref q_5, .ref q_6, .ref q_7, .ref q_8, .ref q_9, .ref q_10, .null, .null, .null, .int (nI 0)]))] : va_W) ++ ([(q_1, .inl (cZ, 64, .inl (fun _ => nI 0)))] : va_W)) ++ ([(q_2, .inl (cI, 7, .inl (fun _ => nI 0)))] : va_W)) ++ ([(q_3, .inl (cI, 7, .inl (fun _ => nI 0)))] : va_W)) ++ ([(q_4, .inl (cI, 35, .inl (fun _ => nI 0)))] : va_W)) ++ ([(q_5, .inl (cI, 49, .inl (fun _ => nI 0)))] : va_W)) ++ ([(q_6, .inl (cI, 49, .inl (fun _ => nI 0)))] : va_W)) ++ ([(q_7, .inl (cI, 7, .inl (fun _ => nI 0)))] : va_W)) ++ ([(q_8, .inl (cI, 7, .inl (fun _ => nI 0)))] : va_W)) ++ ([(q_9, .inl (cI, 49, .inl (fun _ => nI 0)))] : va_W)) ++ ([(q_10, .inl (cI, 64, .inl (fun _ => nI 0)))] : va_W)) ++ ([(q_11, .inl (cI, 7, .inl (fun _ => nI 0)))] : va_W)) := hD
  refine va_putF (D := D) (ci := 8) (v := .ref q_11) (ty := (.array .int)) (C := RX8) (T := TX8) (N := 16) hx hb hts tu_X8 tyX8 tyX8_ok nmX8 hown hSt.1 hP hD hS 0 rfl rfl 12 (by decide) (hts _ t3_232) (fun _ h9 => h9) rfl hin rfl (by decide +kernel) rfl rfl (Nat.le_of_ble_eq_true rfl) dX8_init_89 (fun H locs hP hD hS => ?_)
  have hP : va_P D vwCl (((((((((((([(a, .inr (8, [.ref q_1, .int (nI 0), .ref q_2, .ref q_3, .int (nI 0), .ref q_4, .ref q_5, .ref q_6, .ref q_7, .ref q_8, .ref q_9, .ref q_10, .ref q_11, .null, .null, .int (nI 0)]))] : va_W) ++ ([(q_1, .inl (cZ, 64, .inl (fun _ => nI 0)))] : va_W)) ++ ([(q_2, .inl (cI, 7, .inl (fun _ => nI 0)))] : va_W)) ++ ([(q_3, .inl (cI, 7, .inl (fun _ => nI 0)))] : va_W)) ++ ([(q_4, .inl (cI, 35, .inl (fun _ => nI 0)))] : va_W)) ++ ([(q_5, .inl (cI, 49, .inl (fun _ => nI 0)))] : va_W)) ++ ([(q_6, .inl (cI, 49, .inl (fun _ => nI 0)))] : va_W)) ++ ([(q_7, .inl (cI, 7, .inl (fun _ => nI 0)))] : va_W)) ++ ([(q_8, .inl (cI, 7, .inl (fun _ => nI 0)))] : va_W)) ++ ([(q_9, .inl (cI, 49, .inl (fun _ => nI 0)))] : va_W)) ++ ([(q_10, .inl (cI, 64, .inl (fun _ => nI 0)))] : va_W)) ++ ([(q_11, .inl (cI, 7, .inl (fun _ => nI 0)))] : va_W)) H := hP
  have hD : va_D A (((((((((((([(a, .inr (8, [.ref q_1, .int (nI 0), .ref q_2, .ref q_3, .int (nI 0), .ref q_4, .ref q_5, .ref q_6, .ref q_7, .ref q_8, .ref q_9, .ref q_10, .ref q_11, .null, .null, .int (nI 0)]))] : va_W) ++ ([(q_1, .inl (cZ, 64, .inl (fun _ => nI 0)))] : va_W)) ++ ([(q_2, .inl (cI, 7, .inl (fun _ => nI 0)))] : va_W)) ++ ([(q_3, .inl (cI, 7, .inl (fun _ => nI 0)))] : va_W)) ++ ([(q_4, .inl (cI, 35, .inl (fun _ => nI 0)))] : va_W)) ++ ([(q_5, .inl (cI, 49, .inl (fun _ => nI 0)))] : va_W)) ++ ([(q_6, .inl (cI, 49, .inl (fun _ => nI 0)))] : va_W)) ++ ([(q_7, .inl (cI, 7, .inl (fun _ => nI 0)))] : va_W)) ++ ([(q_8, .inl (cI, 7, .inl (fun _ => nI 0)))] : va_W)) ++ ([(q_9, .inl (cI, 49, .inl (fun _ => nI 0)))] : va_W)) ++ ([(q_10, .inl (cI, 64, .inl (fun _ => nI 0)))] : va_W)) ++ ([(q_11, .inl (cI, 7, .inl (fun _ => nI 0)))] : va_W)) := hD
  refine lv_aload_n hx hb dX8_init_92 rfl (lv_at hl 0 rfl) ?_
  refine lv_bipush (v := nI 7) hx hb dX8_init_93 (by decide) ?_
  refine r_newI hx hb (hts _ t1_74) hSt hP hD hS hA (N := 7) (by omega) (Nat.le_of_ble_eq_true rfl) (Nat.le_of_ble_eq_true rfl) dX8_init_95 (fun q_12 H hP hD hS => ?_)
  have hP : va_P D vwCl ((((((((((((([(a, .inr (8, [.ref q_1, .int (nI 0), .ref q_2, .ref q_3, .int (nI 0), .ref q_4, .ref q_5, .ref q_6, .ref q_7, .ref q_8, .ref q_9, .ref q_10, .ref q_11, .null, .null, .int (nI 0)]))] : va_W) ++ ([(q_1, .inl (cZ, 64, .inl (fun _ => nI 0)))] : va_W)) ++ ([(q_2, .inl (cI, 7, .inl (fun _ => nI 0)))] : va_W)) ++ ([(q_3, .inl (cI, 7, .inl (fun _ => nI 0)))] : va_W)) ++ ([(q_4, .inl (cI, 35, .inl (fun _ => nI 0)))] : va_W)) ++ ([(q_5, .inl (cI, 49, .inl (fun _ => nI 0)))] : va_W)) ++ ([(q_6, .inl (cI, 49, .inl (fun _ => nI 0)))] : va_W)) ++ ([(q_7, .inl (cI, 7, .inl (fun _ => nI 0)))] : va_W)) ++ ([(q_8, .inl (cI, 7, .inl (fun _ => nI 0)))] : va_W)) ++ ([(q_9, .inl (cI, 49, .inl (fun _ => nI 0)))] : va_W)) ++ ([(q_10, .inl (cI, 64, .inl (fun _ => nI 0)))] : va_W)) ++ ([(q_11, .inl (cI, 7, .inl (fun _ => nI 0)))] : va_W)) ++ ([(q_12, .inl (cI, 7, .inl (fun _ => nI 0)))] : va_W)) H := hP
  have hD : va_D A ((((((((((((([(a, .inr (8, [.ref q_1, .int (nI 0), .ref q_2, .ref q_3, .int (nI 0), .ref q_4, .ref q_5, .ref q_6, .ref q_7, .ref q_8, .ref q_9, .ref q_10, .ref q_11, .null, .null, .int (nI 0)]))] : va_W) ++ ([(q_1, .inl (cZ, 64, .inl (fun _ => nI 0)))] : va_W)) ++ ([(q_2, .inl (cI, 7, .inl (fun _ => nI 0)))] : va_W)) ++ ([(q_3, .inl (cI, 7, .inl (fun _ => nI 0)))] : va_W)) ++ ([(q_4, .inl (cI, 35, .inl (fun _ => nI 0)))] : va_W)) ++ ([(q_5, .inl (cI, 49, .inl (fun _ => nI 0)))] : va_W)) ++ ([(q_6, .inl (cI, 49, .inl (fun _ => nI 0)))] : va_W)) ++ ([(q_7, .inl (cI, 7, .inl (fun _ => nI 0)))] : va_W)) ++ ([(q_8, .inl (cI, 7, .inl (fun _ => nI 0)))] : va_W)) ++ ([(q_9, .inl (cI, 49, .inl (fun _ => nI 0)))] : va_W)) ++ ([(q_10, .inl (cI, 64, .inl (fun _ => nI 0)))] : va_W)) ++ ([(q_11, .inl (cI, 7, .inl (fun _ => nI 0)))] : va_W)) ++ ([(q_12, .inl (cI, 7, .inl (fun _ => nI 0)))] : va_W)) := hD
  refine va_putF (D := D) (ci := 8) (v := .ref q_12) (ty := (.array .int)) (C := RX8) (T := TX8) (N := 16) hx hb hts tu_X8 tyX8 tyX8_ok nmX8 hown hSt.1 hP hD hS 0 rfl rfl 13 (by decide) (hts _ t3_233) (fun _ h9 => h9) rfl hin rfl (by decide +kernel) rfl rfl (Nat.le_of_ble_eq_true rfl) dX8_init_97 (fun H locs hP hD hS => ?_)
  have hP : va_P D vwCl ((((((((((((([(a, .inr (8, [.ref q_1, .int (nI 0), .ref q_2, .ref q_3, .int (nI 0), .ref q_4, .ref q_5, .ref q_6, .ref q_7, .ref q_8, .ref q_9, .ref q_10, .ref q_11, .ref q_12, .null, .int (nI 0)]))] : va_W) ++ ([(q_1, .inl (cZ, 64, .inl (fun _ => nI 0)))] : va_W)) ++ ([(q_2, .inl (cI, 7, .inl (fun _ => nI 0)))] : va_W)) ++ ([(q_3, .inl (cI, 7, .inl (fun _ => nI 0)))] : va_W)) ++ ([(q_4, .inl (cI, 35, .inl (fun _ => nI 0)))] : va_W)) ++ ([(q_5, .inl (cI, 49, .inl (fun _ => nI 0)))] : va_W)) ++ ([(q_6, .inl (cI, 49, .inl (fun _ => nI 0)))] : va_W)) ++ ([(q_7, .inl (cI, 7, .inl (fun _ => nI 0)))] : va_W)) ++ ([(q_8, .inl (cI, 7, .inl (fun _ => nI 0)))] : va_W)) ++ ([(q_9, .inl (cI, 49, .inl (fun _ => nI 0)))] : va_W)) ++ ([(q_10, .inl (cI, 64, .inl (fun _ => nI 0)))] : va_W)) ++ ([(q_11, .inl (cI, 7, .inl (fun _ => nI 0)))] : va_W)) ++ ([(q_12, .inl (cI, 7, .inl (fun _ => nI 0)))] : va_W)) H := hP
  have hD : va_D A ((((((((((((([(a, .inr (8, [.ref q_1, .int (nI 0), .ref q_2, .ref q_3, .int (nI 0), .ref q_4, .ref q_5, .ref q_6, .ref q_7, .ref q_8, .ref q_9, .ref q_10, .ref q_11, .ref q_12, .null, .int (nI 0)]))] : va_W) ++ ([(q_1, .inl (cZ, 64, .inl (fun _ => nI 0)))] : va_W)) ++ ([(q_2, .inl (cI, 7, .inl (fun _ => nI 0)))] : va_W)) ++ ([(q_3, .inl (cI, 7, .inl (fun _ => nI 0)))] : va_W)) ++ ([(q_4, .inl (cI, 35, .inl (fun _ => nI 0)))] : va_W)) ++ ([(q_5, .inl (cI, 49, .inl (fun _ => nI 0)))] : va_W)) ++ ([(q_6, .inl (cI, 49, .inl (fun _ => nI 0)))] : va_W)) ++ ([(q_7, .inl (cI, 7, .inl (fun _ => nI 0)))] : va_W)) ++ ([(q_8, .inl (cI, 7, .inl (fun _ => nI 0)))] : va_W)) ++ ([(q_9, .inl (cI, 49, .inl (fun _ => nI 0)))] : va_W)) ++ ([(q_10, .inl (cI, 64, .inl (fun _ => nI 0)))] : va_W)) ++ ([(q_11, .inl (cI, 7, .inl (fun _ => nI 0)))] : va_W)) ++ ([(q_12, .inl (cI, 7, .inl (fun _ => nI 0)))] : va_W)) := hD
  refine lv_aload_n hx hb dX8_init_100 rfl (lv_at hl 0 rfl) ?_
  refine lv_bipush (v := nI 7) hx hb dX8_init_101 (by decide) ?_
  refine r_newI hx hb (hts _ t1_74) hSt hP hD hS hA (N := 7) (by omega) (Nat.le_of_ble_eq_true rfl) (Nat.le_of_ble_eq_true rfl) dX8_init_103 (fun q_13 H hP hD hS => ?_)
  have hP : va_P D vwCl (((((((((((((([(a, .inr (8, [.ref q_1, .int (nI 0), .ref q_2, .ref q_3, .int (nI 0), .ref q_4, .ref q_5, .ref q_6, .ref q_7, .ref q_8, .ref q_9, .ref q_10, .ref q_11, .ref q_12, .null, .int (nI 0)]))] : va_W) ++ ([(q_1, .inl (cZ, 64, .inl (fun _ => nI 0)))] : va_W)) ++ ([(q_2, .inl (cI, 7, .inl (fun _ => nI 0)))] : va_W)) ++ ([(q_3, .inl (cI, 7, .inl (fun _ => nI 0)))] : va_W)) ++ ([(q_4, .inl (cI, 35, .inl (fun _ => nI 0)))] : va_W)) ++ ([(q_5, .inl (cI, 49, .inl (fun _ => nI 0)))] : va_W)) ++ ([(q_6, .inl (cI, 49, .inl (fun _ => nI 0)))] : va_W)) ++ ([(q_7, .inl (cI, 7, .inl (fun _ => nI 0)))] : va_W)) ++ ([(q_8, .inl (cI, 7, .inl (fun _ => nI 0)))] : va_W)) ++ ([(q_9, .inl (cI, 49, .inl (fun _ => nI 0)))] : va_W)) ++ ([(q_10, .inl (cI, 64, .inl (fun _ => nI 0)))] : va_W)) ++ ([(q_11, .inl (cI, 7, .inl (fun _ => nI 0)))] : va_W)) ++ ([(q_12, .inl (cI, 7, .inl (fun _ => nI 0)))] : va_W)) ++ ([(q_13, .inl (cI, 7, .inl (fun _ => nI 0)))] : va_W)) H := hP
  have hD : va_D A (((((((((((((([(a, .inr (8, [.ref q_1, .int (nI 0), .ref q_2, .ref q_3, .int (nI 0), .ref q_4, .ref q_5, .ref q_6, .ref q_7, .ref q_8, .ref q_9, .ref q_10, .ref q_11, .ref q_12, .null, .int (nI 0)]))] : va_W) ++ ([(q_1, .inl (cZ, 64, .inl (fun _ => nI 0)))] : va_W)) ++ ([(q_2, .inl (cI, 7, .inl (fun _ => nI 0)))] : va_W)) ++ ([(q_3, .inl (cI, 7, .inl (fun _ => nI 0)))] : va_W)) ++ ([(q_4, .inl (cI, 35, .inl (fun _ => nI 0)))] : va_W)) ++ ([(q_5, .inl (cI, 49, .inl (fun _ => nI 0)))] : va_W)) ++ ([(q_6, .inl (cI, 49, .inl (fun _ => nI 0)))] : va_W)) ++ ([(q_7, .inl (cI, 7, .inl (fun _ => nI 0)))] : va_W)) ++ ([(q_8, .inl (cI, 7, .inl (fun _ => nI 0)))] : va_W)) ++ ([(q_9, .inl (cI, 49, .inl (fun _ => nI 0)))] : va_W)) ++ ([(q_10, .inl (cI, 64, .inl (fun _ => nI 0)))] : va_W)) ++ ([(q_11, .inl (cI, 7, .inl (fun _ => nI 0)))] : va_W)) ++ ([(q_12, .inl (cI, 7, .inl (fun _ => nI 0)))] : va_W)) ++ ([(q_13, .inl (cI, 7, .inl (fun _ => nI 0)))] : va_W)) := hD
  refine va_putF (D := D) (ci := 8) (v := .ref q_13) (ty := (.array .int)) (C := RX8) (T := TX8) (N := 16) hx hb hts tu_X8 tyX8 tyX8_ok nmX8 hown hSt.1 hP hD hS 0 rfl rfl 14 (by decide) (hts _ t3_234) (fun _ h9 => h9) rfl hin rfl (by decide +kernel) rfl rfl (Nat.le_of_ble_eq_true rfl) dX8_init_105 (fun H locs hP hD hS => ?_)
  have hP : va_P D vwCl (((((((((((((([(a, .inr (8, [.ref q_1, .int (nI 0), .ref q_2, .ref q_3, .int (nI 0), .ref q_4, .ref q_5, .ref q_6, .ref q_7, .ref q_8, .ref q_9, .ref q_10, .ref q_11, .ref q_12, .ref q_13, .int (nI 0)]))] : va_W) ++ ([(q_1, .inl (cZ, 64, .inl (fun _ => nI 0)))] : va_W)) ++ ([(q_2, .inl (cI, 7, .inl (fun _ => nI 0)))] : va_W)) ++ ([(q_3, .inl (cI, 7, .inl (fun _ => nI 0)))] : va_W)) ++ ([(q_4, .inl (cI, 35, .inl (fun _ => nI 0)))] : va_W)) ++ ([(q_5, .inl (cI, 49, .inl (fun _ => nI 0)))] : va_W)) ++ ([(q_6, .inl (cI, 49, .inl (fun _ => nI 0)))] : va_W)) ++ ([(q_7, .inl (cI, 7, .inl (fun _ => nI 0)))] : va_W)) ++ ([(q_8, .inl (cI, 7, .inl (fun _ => nI 0)))] : va_W)) ++ ([(q_9, .inl (cI, 49, .inl (fun _ => nI 0)))] : va_W)) ++ ([(q_10, .inl (cI, 64, .inl (fun _ => nI 0)))] : va_W)) ++ ([(q_11, .inl (cI, 7, .inl (fun _ => nI 0)))] : va_W)) ++ ([(q_12, .inl (cI, 7, .inl (fun _ => nI 0)))] : va_W)) ++ ([(q_13, .inl (cI, 7, .inl (fun _ => nI 0)))] : va_W)) H := hP
  have hD : va_D A (((((((((((((([(a, .inr (8, [.ref q_1, .int (nI 0), .ref q_2, .ref q_3, .int (nI 0), .ref q_4, .ref q_5, .ref q_6, .ref q_7, .ref q_8, .ref q_9, .ref q_10, .ref q_11, .ref q_12, .ref q_13, .int (nI 0)]))] : va_W) ++ ([(q_1, .inl (cZ, 64, .inl (fun _ => nI 0)))] : va_W)) ++ ([(q_2, .inl (cI, 7, .inl (fun _ => nI 0)))] : va_W)) ++ ([(q_3, .inl (cI, 7, .inl (fun _ => nI 0)))] : va_W)) ++ ([(q_4, .inl (cI, 35, .inl (fun _ => nI 0)))] : va_W)) ++ ([(q_5, .inl (cI, 49, .inl (fun _ => nI 0)))] : va_W)) ++ ([(q_6, .inl (cI, 49, .inl (fun _ => nI 0)))] : va_W)) ++ ([(q_7, .inl (cI, 7, .inl (fun _ => nI 0)))] : va_W)) ++ ([(q_8, .inl (cI, 7, .inl (fun _ => nI 0)))] : va_W)) ++ ([(q_9, .inl (cI, 49, .inl (fun _ => nI 0)))] : va_W)) ++ ([(q_10, .inl (cI, 64, .inl (fun _ => nI 0)))] : va_W)) ++ ([(q_11, .inl (cI, 7, .inl (fun _ => nI 0)))] : va_W)) ++ ([(q_12, .inl (cI, 7, .inl (fun _ => nI 0)))] : va_W)) ++ ([(q_13, .inl (cI, 7, .inl (fun _ => nI 0)))] : va_W)) := hD
  refine lv_iconst (v := nI 0) hx hb dX8_init_108 (by decide) ?_
  refine lv_istore_n (lv' := [(1, .int (nI 0)), (0, .ref a)]) hx hb dX8_init_109 rfl hl (by decide) rfl (fun ls hl => ?_)
  have L110 : ∀ (n : Nat) (i : Nat) (g : Nat → Int32), (i ≤ 7) → (∀ j, j < i → g j = -1) → (7 - i) < n → ∀ (H : Heap) (locs : List Loc), va_P D vwCl (((((((((((((([(a, .inr (8, [.ref q_1, .int (nI 0), .ref q_2, .ref q_3, .int (nI 0), .ref q_4, .ref q_5, .ref q_6, .ref q_7, .ref q_8, .ref q_9, .ref q_10, .ref q_11, .ref q_12, .ref q_13, .int (nI 0)]))] : va_W) ++ ([(q_1, .inl (cZ, 64, .inl (fun _ => nI 0)))] : va_W)) ++ ([(q_2, .inl (cI, 7, .inl (fun _ => nI 0)))] : va_W)) ++ ([(q_3, .inl (cI, 7, .inl (fun _ => nI 0)))] : va_W)) ++ ([(q_4, .inl (cI, 35, .inl (fun _ => nI 0)))] : va_W)) ++ ([(q_5, .inl (cI, 49, .inl (fun _ => nI 0)))] : va_W)) ++ ([(q_6, .inl (cI, 49, .inl (fun _ => nI 0)))] : va_W)) ++ ([(q_7, .inl (cI, 7, .inl (fun _ => nI 0)))] : va_W)) ++ ([(q_8, .inl (cI, 7, .inl g))] : va_W)) ++ ([(q_9, .inl (cI, 49, .inl (fun _ => nI 0)))] : va_W)) ++ ([(q_10, .inl (cI, 64, .inl (fun _ => nI 0)))] : va_W)) ++ ([(q_11, .inl (cI, 7, .inl (fun _ => nI 0)))] : va_W)) ++ ([(q_12, .inl (cI, 7, .inl (fun _ => nI 0)))] : va_W)) ++ ([(q_13, .inl (cI, 7, .inl (fun _ => nI 0)))] : va_W)) H → va_D A (((((((((((((([(a, .inr (8, [.ref q_1, .int (nI 0), .ref q_2, .ref q_3, .int (nI 0), .ref q_4, .ref q_5, .ref q_6, .ref q_7, .ref q_8, .ref q_9, .ref q_10, .ref q_11, .ref q_12, .ref q_13, .int (nI 0)]))] : va_W) ++ ([(q_1, .inl (cZ, 64, .inl (fun _ => nI 0)))] : va_W)) ++ ([(q_2, .inl (cI, 7, .inl (fun _ => nI 0)))] : va_W)) ++ ([(q_3, .inl (cI, 7, .inl (fun _ => nI 0)))] : va_W)) ++ ([(q_4, .inl (cI, 35, .inl (fun _ => nI 0)))] : va_W)) ++ ([(q_5, .inl (cI, 49, .inl (fun _ => nI 0)))] : va_W)) ++ ([(q_6, .inl (cI, 49, .inl (fun _ => nI 0)))] : va_W)) ++ ([(q_7, .inl (cI, 7, .inl (fun _ => nI 0)))] : va_W)) ++ ([(q_8, .inl (cI, 7, .inl g))] : va_W)) ++ ([(q_9, .inl (cI, 49, .inl (fun _ => nI 0)))] : va_W)) ++ ([(q_10, .inl (cI, 64, .inl (fun _ => nI 0)))] : va_W)) ++ ([(q_11, .inl (cI, 7, .inl (fun _ => nI 0)))] : va_W)) ++ ([(q_12, .inl (cI, 7, .inl (fun _ => nI 0)))] : va_W)) ++ ([(q_13, .inl (cI, 7, .inl (fun _ => nI 0)))] : va_W)) → va_S A s.heap H locs → ∀ (ls : Array Slot), lv_has ls 2 [(0, .ref a), (1, .int (nI i))] → W p l e ({ frames := 1, cells := 13, slots := 359, locals := 16 } : Room) s m ([.ref a] : List Value).toArray below meth c H locs (0 + 1 + 1 + 1 + 1 + 1 + 1 + 1 + 1 + 1 + 1 + 1 + 1 + 1) (0 + 64 + 7 + 7 + 35 + 49 + 49 + 7 + 7 + 49 + 64 + 7 + 7 + 7) (MQ below (va_Qv (fun u9 : (Nat → Nat) => u9 0 = a) (rw_B D A (fun u9 : (Nat → Nat) => wMo u9 cI cZ (fun _ => nI 0) (nI 0) (fun _ => nI 0) (fun _ => nI 0) (nI 0) (fun _ => nI 0) (fun _ => nI 0) (fun _ => nI 0) (fun _ => nI 0) (fun _ => (-1 : Int32)) (fun _ => nI 0) (fun _ => nI 0) (fun _ => nI 0) (fun _ => nI 0) (fun _ => nI 0) (nI 0))) A) ([.ref a] : List Value).toArray s 13 359 A) (F0 m 110 ls []) := by
    intro n
    induction n with
    | zero =>
      intro i g hi hg hm
      exact absurd hm (by omega)
    | succ n ih =>
      intro i g hi hg hm H locs hP hD hS ls hl
      have ih_L110 := ih
      refine lv_iload_n hx hb dX8_init_110 rfl (lv_at hl 1 rfl) ?_
      refine lv_bipush (v := nI 7) hx hb dX8_init_111 (by decide) ?_
      refine lv_icmp_ge (tgt := 129) hx hb dX8_init_113 (by decide) (fun c_14 => ?_) (fun c_14 => ?_)
      · have c_14 := z_le (by omega) (by omega) c_14
        obtain ⟨hP, hD⟩ := P_fi hP hD 8 (fun _ => (-1 : Int32)) rfl (fun j hj => hg j (by omega))
        have hP : va_P D vwCl (((((((((((((([(a, .inr (8, [.ref q_1, .int (nI 0), .ref q_2, .ref q_3, .int (nI 0), .ref q_4, .ref q_5, .ref q_6, .ref q_7, .ref q_8, .ref q_9, .ref q_10, .ref q_11, .ref q_12, .ref q_13, .int (nI 0)]))] : va_W) ++ ([(q_1, .inl (cZ, 64, .inl (fun _ => nI 0)))] : va_W)) ++ ([(q_2, .inl (cI, 7, .inl (fun _ => nI 0)))] : va_W)) ++ ([(q_3, .inl (cI, 7, .inl (fun _ => nI 0)))] : va_W)) ++ ([(q_4, .inl (cI, 35, .inl (fun _ => nI 0)))] : va_W)) ++ ([(q_5, .inl (cI, 49, .inl (fun _ => nI 0)))] : va_W)) ++ ([(q_6, .inl (cI, 49, .inl (fun _ => nI 0)))] : va_W)) ++ ([(q_7, .inl (cI, 7, .inl (fun _ => nI 0)))] : va_W)) ++ ([(q_8, .inl (cI, 7, .inl (fun _ => (-1 : Int32))))] : va_W)) ++ ([(q_9, .inl (cI, 49, .inl (fun _ => nI 0)))] : va_W)) ++ ([(q_10, .inl (cI, 64, .inl (fun _ => nI 0)))] : va_W)) ++ ([(q_11, .inl (cI, 7, .inl (fun _ => nI 0)))] : va_W)) ++ ([(q_12, .inl (cI, 7, .inl (fun _ => nI 0)))] : va_W)) ++ ([(q_13, .inl (cI, 7, .inl (fun _ => nI 0)))] : va_W)) H := hP
        have hD : va_D A (((((((((((((([(a, .inr (8, [.ref q_1, .int (nI 0), .ref q_2, .ref q_3, .int (nI 0), .ref q_4, .ref q_5, .ref q_6, .ref q_7, .ref q_8, .ref q_9, .ref q_10, .ref q_11, .ref q_12, .ref q_13, .int (nI 0)]))] : va_W) ++ ([(q_1, .inl (cZ, 64, .inl (fun _ => nI 0)))] : va_W)) ++ ([(q_2, .inl (cI, 7, .inl (fun _ => nI 0)))] : va_W)) ++ ([(q_3, .inl (cI, 7, .inl (fun _ => nI 0)))] : va_W)) ++ ([(q_4, .inl (cI, 35, .inl (fun _ => nI 0)))] : va_W)) ++ ([(q_5, .inl (cI, 49, .inl (fun _ => nI 0)))] : va_W)) ++ ([(q_6, .inl (cI, 49, .inl (fun _ => nI 0)))] : va_W)) ++ ([(q_7, .inl (cI, 7, .inl (fun _ => nI 0)))] : va_W)) ++ ([(q_8, .inl (cI, 7, .inl (fun _ => (-1 : Int32))))] : va_W)) ++ ([(q_9, .inl (cI, 49, .inl (fun _ => nI 0)))] : va_W)) ++ ([(q_10, .inl (cI, 64, .inl (fun _ => nI 0)))] : va_W)) ++ ([(q_11, .inl (cI, 7, .inl (fun _ => nI 0)))] : va_W)) ++ ([(q_12, .inl (cI, 7, .inl (fun _ => nI 0)))] : va_W)) ++ ([(q_13, .inl (cI, 7, .inl (fun _ => nI 0)))] : va_W)) := hD
        have hP9 : va_P D vwCl (wMo (adl [a, q_1, q_2, q_3, q_4, q_5, q_6, q_7, q_8, q_9, q_10, q_11, q_12, q_13]) cI cZ (fun _ => nI 0) (nI 0) (fun _ => nI 0) (fun _ => nI 0) (nI 0) (fun _ => nI 0) (fun _ => nI 0) (fun _ => nI 0) (fun _ => nI 0) (fun _ => (-1 : Int32)) (fun _ => nI 0) (fun _ => nI 0) (fun _ => nI 0) (fun _ => nI 0) (fun _ => nI 0) (nI 0)) H := (show va_P D vwCl (wMo (adl [a, q_1, q_2, q_3, q_4, q_5, q_6, q_7, q_8, q_9, q_10, q_11, q_12, q_13]) cI cZ (fun _ => nI 0) (nI 0) (fun _ => nI 0) (fun _ => nI 0) (nI 0) (fun _ => nI 0) (fun _ => nI 0) (fun _ => nI 0) (fun _ => nI 0) (fun _ => (-1 : Int32)) (fun _ => nI 0) (fun _ => nI 0) (fun _ => nI 0) (fun _ => nI 0) (fun _ => nI 0) (nI 0)) H from hP)
        have hD9 : va_D A (wMo (adl [a, q_1, q_2, q_3, q_4, q_5, q_6, q_7, q_8, q_9, q_10, q_11, q_12, q_13]) cI cZ (fun _ => nI 0) (nI 0) (fun _ => nI 0) (fun _ => nI 0) (nI 0) (fun _ => nI 0) (fun _ => nI 0) (fun _ => nI 0) (fun _ => nI 0) (fun _ => (-1 : Int32)) (fun _ => nI 0) (fun _ => nI 0) (fun _ => nI 0) (fun _ => nI 0) (fun _ => nI 0) (nI 0)) := (show va_D A (wMo (adl [a, q_1, q_2, q_3, q_4, q_5, q_6, q_7, q_8, q_9, q_10, q_11, q_12, q_13]) cI cZ (fun _ => nI 0) (nI 0) (fun _ => nI 0) (fun _ => nI 0) (nI 0) (fun _ => nI 0) (fun _ => nI 0) (fun _ => nI 0) (fun _ => nI 0) (fun _ => (-1 : Int32)) (fun _ => nI 0) (fun _ => nI 0) (fun _ => nI 0) (fun _ => nI 0) (fun _ => nI 0) (nI 0)) from hD)
        refine W.widen (k := 13) (n := 359) (by omega) (by omega) ?_
        exact W.vret hx hb hr (fun t9 ht9 hW9 => ⟨⟨(adl [a, q_1, q_2, q_3, q_4, q_5, q_6, q_7, q_8, q_9, q_10, q_11, q_12, q_13]), rfl, rfl, by rw [ht9]; exact hP9, hD9⟩, hS.F ht9⟩) hS.2.2 dX8_init_129
      · have c_14 := z_nle (by omega) (by omega) c_14
        refine lv_aload_n hx hb dX8_init_116 rfl (lv_at hl 0 rfl) ?_
        refine va_get (D := D) (ci := 8) (v := .ref q_8) (C := RX8) (T := TX8) (N := 16) hx hb hts tu_X8 hown hSt.1 hP 0 rfl rfl 9 (by decide) (hts _ t3_229) (fun _ h9 => h9) rfl dX8_init_117 ?_
        refine lv_iload_n hx hb dX8_init_120 rfl (lv_at hl 1 rfl) ?_
        refine lv_iconst (v := (-1 : Int32)) hx hb dX8_init_121 (by decide) ?_
        refine r_iast hx hb hSt.1 hP hD hS 8 0 rfl rfl (k := i) (by omega) (by omega) dX8_init_122 (fun H locs hP hD hS => ?_)
        have hP : va_P D vwCl (((((((((((((([(a, .inr (8, [.ref q_1, .int (nI 0), .ref q_2, .ref q_3, .int (nI 0), .ref q_4, .ref q_5, .ref q_6, .ref q_7, .ref q_8, .ref q_9, .ref q_10, .ref q_11, .ref q_12, .ref q_13, .int (nI 0)]))] : va_W) ++ ([(q_1, .inl (cZ, 64, .inl (fun _ => nI 0)))] : va_W)) ++ ([(q_2, .inl (cI, 7, .inl (fun _ => nI 0)))] : va_W)) ++ ([(q_3, .inl (cI, 7, .inl (fun _ => nI 0)))] : va_W)) ++ ([(q_4, .inl (cI, 35, .inl (fun _ => nI 0)))] : va_W)) ++ ([(q_5, .inl (cI, 49, .inl (fun _ => nI 0)))] : va_W)) ++ ([(q_6, .inl (cI, 49, .inl (fun _ => nI 0)))] : va_W)) ++ ([(q_7, .inl (cI, 7, .inl (fun _ => nI 0)))] : va_W)) ++ ([(q_8, .inl (cI, 7, .inl (upd g i (-1 : Int32))))] : va_W)) ++ ([(q_9, .inl (cI, 49, .inl (fun _ => nI 0)))] : va_W)) ++ ([(q_10, .inl (cI, 64, .inl (fun _ => nI 0)))] : va_W)) ++ ([(q_11, .inl (cI, 7, .inl (fun _ => nI 0)))] : va_W)) ++ ([(q_12, .inl (cI, 7, .inl (fun _ => nI 0)))] : va_W)) ++ ([(q_13, .inl (cI, 7, .inl (fun _ => nI 0)))] : va_W)) H := hP
        have hD : va_D A (((((((((((((([(a, .inr (8, [.ref q_1, .int (nI 0), .ref q_2, .ref q_3, .int (nI 0), .ref q_4, .ref q_5, .ref q_6, .ref q_7, .ref q_8, .ref q_9, .ref q_10, .ref q_11, .ref q_12, .ref q_13, .int (nI 0)]))] : va_W) ++ ([(q_1, .inl (cZ, 64, .inl (fun _ => nI 0)))] : va_W)) ++ ([(q_2, .inl (cI, 7, .inl (fun _ => nI 0)))] : va_W)) ++ ([(q_3, .inl (cI, 7, .inl (fun _ => nI 0)))] : va_W)) ++ ([(q_4, .inl (cI, 35, .inl (fun _ => nI 0)))] : va_W)) ++ ([(q_5, .inl (cI, 49, .inl (fun _ => nI 0)))] : va_W)) ++ ([(q_6, .inl (cI, 49, .inl (fun _ => nI 0)))] : va_W)) ++ ([(q_7, .inl (cI, 7, .inl (fun _ => nI 0)))] : va_W)) ++ ([(q_8, .inl (cI, 7, .inl (upd g i (-1 : Int32))))] : va_W)) ++ ([(q_9, .inl (cI, 49, .inl (fun _ => nI 0)))] : va_W)) ++ ([(q_10, .inl (cI, 64, .inl (fun _ => nI 0)))] : va_W)) ++ ([(q_11, .inl (cI, 7, .inl (fun _ => nI 0)))] : va_W)) ++ ([(q_12, .inl (cI, 7, .inl (fun _ => nI 0)))] : va_W)) ++ ([(q_13, .inl (cI, 7, .inl (fun _ => nI 0)))] : va_W)) := hD
        refine lv_iinc (v := nI (i + 1)) (lv' := [(1, .int (nI (i + 1))), (0, .ref a)]) hx hb dX8_init_123 hl (k := 1) rfl (z_inc _) (by decide) rfl (fun ls hl => ?_)
        refine lv_goto (tgt := 110) hx hb dX8_init_126 (by decide) ?_
        exact ih_L110 (i + 1) (upd g i (-1 : Int32)) (by omega) (fun j hj => by unfold upd; by_cases e : j = i <;> simp [e]; exact hg j (by omega)) (by omega) _ _ hP hD hS _ (lv_sub hl [1, 0] rfl)
  exact L110 _ 0 (fun _ => nI 0) (by omega) (fun j hj => absurd hj (by omega)) (Nat.lt_succ_self _) _ _ hP hD hS _ (lv_sub hl [1, 0] rfl)
theorem hd_X4_countOtherwise : yX4_countOtherwise.cls = RX4 ∧ yX4_countOtherwise.cls ≠ "java/lang/invoke/MethodHandle" ∧ yX4_countOtherwise.cls ≠ "java/lang/invoke/VarHandle" ∧ (parseMethodDescriptor yX4_countOtherwise.desc).map (fun d => d.parameters.length) = some 1 := by decide +kernel
theorem hd_X4_layLike : yX4_layLike.cls = RX4 ∧ yX4_layLike.cls ≠ "java/lang/invoke/MethodHandle" ∧ yX4_layLike.cls ≠ "java/lang/invoke/VarHandle" ∧ (parseMethodDescriptor yX4_layLike.desc).map (fun d => d.parameters.length) = some 1 := by decide +kernel
theorem hd_X0_keepIfLess : yX0_keepIfLess.cls = RX0 ∧ yX0_keepIfLess.cls ≠ "java/lang/invoke/MethodHandle" ∧ yX0_keepIfLess.cls ≠ "java/lang/invoke/VarHandle" ∧ (parseMethodDescriptor yX0_keepIfLess.desc).map (fun d => d.parameters.length) = some 4 := by decide +kernel
theorem hd_X7_init : yX7_init.name = "<init>" ∧ yX7_init.cls ≠ "java/lang/invoke/MethodHandle" ∧ yX7_init.cls ≠ "java/lang/invoke/VarHandle" ∧ (parseMethodDescriptor yX7_init.desc).map (fun d => d.parameters.length) = some 0 := by decide +kernel
theorem hd_X8_init : yX8_init.name = "<init>" ∧ yX8_init.cls ≠ "java/lang/invoke/MethodHandle" ∧ yX8_init.cls ≠ "java/lang/invoke/VarHandle" ∧ (parseMethodDescriptor yX8_init.desc).map (fun d => d.parameters.length) = some 0 := by decide +kernel
end
section
/-! Ways on the floor, without the machine: squares 0 to 63, steps, the least number of them; what a queue that spreads keeps -/
/-- v is put at b, of numbers -/
def updN (f : Nat → Nat) (k v : Nat) : Nat → Nat := fun j => if j = k then v else f j
theorem updN_s (f : Nat → Nat) (k v : Nat) : updN f k v k = v := if_pos rfl
theorem updN_n (f : Nat → Nat) {k j : Nat} (v : Nat) (h : j ≠ k) : updN f k v j = f j := if_neg h
/-- beside each other -/
def nb (a b : Nat) : Prop := (b = a + 1 ∧ a % 8 < 7) ∨ (a = b + 1 ∧ b % 8 < 7) ∨ b = a + 8 ∨ a = b + 8
/-- in at most n steps from a to b -/
def Rn (w : Nat → Int32) (a : Nat) : Nat → Nat → Prop
  | 0, b => b = a
  | n + 1, b => Rn w a n b ∨ (b < 64 ∧ w b = 0 ∧ ∃ c, c < 64 ∧ nb c b ∧ Rn w a n c)
theorem Rn_mono {w : Nat → Int32} {a b n m : Nat} (h : Rn w a n b) (hm : n ≤ m) : Rn w a m b := by
  induction m with
  | zero => rw [show n = 0 by omega] at h; exact h
  | succ m ih =>
    by_cases e : n = m + 1
    · rw [← e]; exact h
    · exact Or.inl (ih (by omega))
/-- in n steps, and not in fewer -/
def dE (w : Nat → Int32) (a n b : Nat) : Prop := Rn w a n b ∧ ∀ m, m < n → ¬ Rn w a m b
theorem dE_inj {w : Nat → Int32} {a b n m : Nat} (h : dE w a n b) (h2 : dE w a m b) : n = m := by
  rcases Nat.lt_trichotomy n m with q | q | q
  · exact absurd h.1 (h2.2 n q)
  · exact q
  · exact absurd h2.1 (h.2 m q)
theorem dE_of {w : Nat → Int32} {a b n : Nat} (h : Rn w a n b) : ∃ m, m ≤ n ∧ dE w a m b := by
  induction n with
  | zero => exact ⟨0, Nat.le_refl 0, h, fun m hm => absurd hm (by omega)⟩
  | succ n ih =>
    by_cases e : Rn w a n b
    · obtain ⟨m, h1, h2⟩ := ih e
      exact ⟨m, by omega, h2⟩
    · exact ⟨n + 1, Nat.le_refl _, h, fun m hm q => e (Rn_mono q (by omega))⟩
theorem dE_pred {w : Nat → Int32} {a b n : Nat} (h : dE w a (n + 1) b) : b < 64 ∧ w b = 0 ∧ ∃ c, c < 64 ∧ nb c b ∧ dE w a n c := by
  obtain ⟨h1, h2⟩ := h
  rcases h1 with h1 | ⟨h3, h4, c, h5, h6, h7⟩
  · exact absurd h1 (h2 n (by omega))
  · refine ⟨h3, h4, c, h5, h6, h7, fun m hm q => h2 (m + 1) (by omega) (Or.inr ⟨h3, h4, c, h5, h6, q⟩)⟩
/-- what the distance from a to b is, as the machine has it: 100 without a way -/
def isD (w : Nat → Int32) (a b : Nat) (v : Int32) : Prop := (∃ n, n < 64 ∧ v = nI n ∧ dE w a n b) ∨ (v = nI 100 ∧ ∀ n, ¬ Rn w a n b)
theorem isD_inj {w : Nat → Int32} {a b : Nat} {v u : Int32} (h : isD w a b v) (h2 : isD w a b u) : v = u := by
  rcases h with ⟨n, -, e, hd⟩ | ⟨e, hd⟩ <;> rcases h2 with ⟨m, -, e2, hd2⟩ | ⟨e2, hd2⟩
  · rw [e, e2, dE_inj hd hd2]
  · exact absurd hd.1 (hd2 n)
  · exact absurd hd2.1 (hd m)
  · rw [e, e2]
theorem isD_le {w : Nat → Int32} {a b : Nat} {v : Int32} (h : isD w a b v) : ∃ n, n ≤ 100 ∧ v = nI n := by
  rcases h with ⟨n, h1, e, -⟩ | ⟨e, -⟩
  · exact ⟨n, by omega, e⟩
  · exact ⟨100, by omega, e⟩
/-- no n + 1 numbers below n are apart -/
theorem pigeon : ∀ (n : Nat) (f : Nat → Nat), (∀ i, i < n + 1 → f i < n) → ∃ i j, i < j ∧ j < n + 1 ∧ f i = f j
  | 0, f, h => absurd (h 0 (by omega)) (by omega)
  | n + 1, f, h => by
    by_cases hx : ∃ i, i < n + 1 ∧ f i = f (n + 1)
    · obtain ⟨i, h1, h2⟩ := hx
      exact ⟨i, n + 1, h1, by omega, h2⟩
    · have hne : ∀ i, i < n + 1 → f i ≠ f (n + 1) := fun i hi e => hx ⟨i, hi, e⟩
      have hl := h (n + 1) (by omega)
      obtain ⟨i, j, h1, h2, h3⟩ := pigeon n (fun i => if f i = n then f (n + 1) else f i) (fun i hi => by
        have h4 := h i (by omega)
        have h5 := hne i hi
        show (if f i = n then f (n + 1) else f i) < n
        by_cases e : f i = n
        · rw [if_pos e]; omega
        · rw [if_neg e]; omega)
      have h3 : (if f i = n then f (n + 1) else f i) = (if f j = n then f (n + 1) else f j) := h3
      refine ⟨i, j, h1, by omega, ?_⟩
      have hi := hne i (by omega)
      have hj := hne j (by omega)
      by_cases e1 : f i = n <;> by_cases e2 : f j = n
      · rw [e1, e2]
      · rw [if_pos e1, if_neg e2] at h3; exact absurd h3.symm hj
      · rw [if_neg e1, if_pos e2] at h3; exact absurd h3 hi
      · rw [if_neg e1, if_neg e2] at h3; exact h3
/-- numbers below n, n of them, apart: each one is met -/
theorem pigeon_all {n : Nat} {f : Nat → Nat} (h : ∀ i, i < n → f i < n) (hi : ∀ i j, i < j → j < n → f i ≠ f j) {b : Nat} (hb : b < n) : ∃ i, i < n ∧ f i = b := by
  by_cases hx : ∃ i, i < n ∧ f i = b
  · exact hx
  · exfalso
    obtain ⟨i, j, h1, h2, h3⟩ := pigeon n (fun i => if i < n then f i else b) (fun i hi => by
      show (if i < n then f i else b) < n
      by_cases e : i < n
      · rw [if_pos e]; exact h i e
      · rw [if_neg e]; exact hb)
    have h3 : (if i < n then f i else b) = (if j < n then f j else b) := h3
    by_cases e : j < n
    · rw [if_pos (by omega), if_pos e] at h3
      exact hi i j h1 e h3
    · rw [if_pos (by omega), if_neg e] at h3
      exact hx ⟨i, by omega, h3⟩
/-- whoever can be reached is reached in 63 steps -/
theorem dE_lt {w : Nat → Int32} {a : Nat} (ha : a < 64) {n b : Nat} (h : dE w a n b) : n < 64 := by
  by_cases hn : n < 64
  · exact hn
  · exfalso
    have key : ∀ k n b, dE w a (n + k) b → ∃ c, dE w a n c ∧ (n = 0 ∨ c < 64) := by
      intro k
      induction k with
      | zero =>
        intro n b h
        refine ⟨b, h, ?_⟩
        cases n with
        | zero => exact Or.inl rfl
        | succ n => exact Or.inr (dE_pred h).1
      | succ k ih =>
        intro n b h
        obtain ⟨-, -, c, h5, -, h7⟩ := dE_pred (show dE w a (n + k + 1) b from h)
        exact ih n c h7
    have hex : ∀ i, i < 65 → ∃ c, c < 64 ∧ dE w a i c := by
      intro i hi
      obtain ⟨c, h1, h2⟩ := key (n - i) i b (by rw [show i + (n - i) = n by omega]; exact h)
      refine ⟨c, ?_, h1⟩
      rcases h2 with rfl | h2
      · have h3 : c = a := h1.1
        omega
      · exact h2
    obtain ⟨f, hf⟩ : ∃ f : Nat → Nat, ∀ i, i < 65 → f i < 64 ∧ dE w a i (f i) := by
      refine ⟨fun i => if h : i < 65 then Classical.choose (hex i h) else 0, fun i hi => ?_⟩
      simp only [dif_pos hi]
      exact Classical.choose_spec (hex i hi)
    obtain ⟨i, j, h1, h2, h3⟩ := pigeon 64 f (fun i hi => (hf i hi).1)
    have h4 := (hf i (by omega)).2
    have h5 := (hf j h2).2
    rw [h3] at h4
    have := dE_inj h4 h5
    omega
-- ===== the queue =====
/-- the queue has rc squares Q 0, Q 1, .., at distances dq; those ahead of place i are done with -/
def BI (w : Nat → Int32) (a i : Nat) (st re : Nat → Int32) (rc : Nat) (Q dq : Nat → Nat) : Prop :=
  (∀ k, k < rc → Q k < 64 ∧ re k = nI (Q k) ∧ st (Q k) = nI (dq k) ∧ dE w a (dq k) (Q k) ∧ dq k ≤ k) ∧
  (∀ b, b < 64 → st b = nI 100 ∨ ∃ k, k < rc ∧ Q k = b) ∧
  (∀ j k, j < k → k < rc → Q j ≠ Q k ∧ dq j ≤ dq k) ∧
  (∀ k, k < rc → i < rc → dq k ≤ dq i + 1) ∧
  (∀ k, k < i → ∀ b, b < 64 → nb (Q k) b → w b = 0 → ∃ j, j < rc ∧ Q j = b) ∧
  i ≤ rc ∧ rc ≤ 64 ∧ 0 < rc ∧ Q 0 = a
/-- nearer than the head: done with -/
theorem BI_near {w : Nat → Int32} {a i rc : Nat} {st re : Nat → Int32} {Q dq : Nat → Nat} (h : BI w a i st re rc Q dq) (hi : i < rc) : ∀ n c, dE w a n c → n < dq i → ∃ k, k < i ∧ Q k = c := by
  obtain ⟨h1, h2, h3, h4, h5, h6, h7, h8, h9⟩ := h
  intro n
  induction n with
  | zero =>
    intro c hc hn
    have e : c = a := hc.1
    refine ⟨0, ?_, by rw [e]; exact h9⟩
    by_cases e0 : i = 0
    · subst e0
      have := (h1 0 hi).2.2.2.2
      omega
    · omega
  | succ n ih =>
    intro c hc hn
    obtain ⟨q1, q2, c', q3, q4, q5⟩ := dE_pred hc
    obtain ⟨k', k1, k2⟩ := ih c' q5 (by omega)
    obtain ⟨j, j1, j2⟩ := h5 k' k1 c q1 (by rw [k2]; exact q4) q2
    refine ⟨j, ?_, j2⟩
    obtain ⟨-, -, -, g, -⟩ := h1 j j1
    rw [j2] at g
    have e := dE_inj g hc
    by_cases hj : j < i
    · exact hj
    · exfalso
      have : dq i ≤ dq j := by
        by_cases e2 : i = j
        · rw [e2]; exact Nat.le_refl _
        · exact (h3 i j (by omega) j1).2
      omega
/-- one square is looked at from the head -/
theorem BI_look {w : Nat → Int32} {a i rc : Nat} {st re : Nat → Int32} {Q dq : Nat → Nat} (h : BI w a i st re rc Q dq) (hi : i < rc) {b : Nat} (hb : b < 64) (hn : nb (Q i) b) (hw : w b = 0) (hs : st b = nI 100) :
    rc < 64 ∧ ∃ Q' dq', BI w a i (upd st b (nI (dq i + 1))) (upd re rc (nI b)) (rc + 1) Q' dq' ∧ (∀ k, k < rc → Q' k = Q k ∧ dq' k = dq k) ∧ Q' rc = b := by
  have hnear := BI_near h hi
  obtain ⟨h1, h2, h3, h4, h5, h6, h7, h8, h9⟩ := h
  have hfree : ∀ k, k < rc → Q k ≠ b := by
    intro k hk e
    obtain ⟨-, -, g, -, g2⟩ := h1 k hk
    rw [e, hs] at g
    have := z_eq (by omega) (by omega) g
    omega
  have hrc : rc < 64 := by
    by_cases q : rc < 64
    · exact q
    · exfalso
      have hq : rc = 64 := by omega
      subst hq
      obtain ⟨k, k1, k2⟩ := pigeon_all (fun k hk => (h1 k hk).1) (fun j k hjk hk => (h3 j k hjk hk).1) hb
      exact hfree k k1 k2
  have hdE : dE w a (dq i + 1) b := by
    obtain ⟨g1, -, -, g4, -⟩ := h1 i hi
    refine ⟨Or.inr ⟨hb, hw, Q i, g1, hn, g4.1⟩, fun m hm hr => ?_⟩
    obtain ⟨m', m1, m2⟩ := dE_of hr
    cases m' with
    | zero =>
      have e : b = a := m2.1
      exact hfree 0 h8 (by rw [e]; exact h9)
    | succ m' =>
      obtain ⟨-, -, c, c1, c2, c3⟩ := dE_pred m2
      obtain ⟨k, k1, k2⟩ := hnear m' c c3 (by omega)
      obtain ⟨j, j1, j2⟩ := h5 k k1 b hb (by rw [k2]; exact c2) hw
      exact hfree j j1 j2
  refine ⟨hrc, updN Q rc b, updN dq rc (dq i + 1), ⟨?_, ?_, ?_, ?_, ?_, by omega, by omega, by omega, ?_⟩, fun k hk => ⟨updN_n _ _ (by omega), updN_n _ _ (by omega)⟩, updN_s _ _ _⟩
  · intro k hk
    by_cases e : k = rc
    · subst e
      rw [updN_s, updN_s]
      have := (h1 i hi).2.2.2.2
      exact ⟨hb, pk_us, pk_us, hdE, by omega⟩
    · rw [updN_n _ _ e, updN_n _ _ e]
      obtain ⟨g1, g2, g3, g4, g5⟩ := h1 k (by omega)
      exact ⟨g1, by rw [pk_un e]; exact g2, by rw [pk_un (hfree k (by omega))]; exact g3, g4, g5⟩
  · intro b' hb'
    by_cases e : b' = b
    · subst e
      exact Or.inr ⟨rc, by omega, updN_s _ _ _⟩
    · rcases h2 b' hb' with g | ⟨k, k1, k2⟩
      · exact Or.inl (by rw [pk_un e]; exact g)
      · exact Or.inr ⟨k, by omega, by rw [updN_n _ _ (by omega)]; exact k2⟩
  · intro j k hjk hk
    by_cases e : k = rc
    · subst e
      rw [updN_s, updN_s, updN_n _ _ (by omega), updN_n _ _ (by omega)]
      exact ⟨hfree j (by omega), h4 j (by omega) hi⟩
    · rw [updN_n _ _ e, updN_n _ _ e, updN_n _ _ (by omega), updN_n _ _ (by omega)]
      exact h3 j k hjk (by omega)
  · intro k hk hi'
    rw [updN_n dq _ (show i ≠ rc by omega)]
    by_cases e : k = rc
    · subst e
      rw [updN_s]
      exact Nat.le_refl _
    · rw [updN_n _ _ e]
      exact h4 k (by omega) hi
  · intro k hk b' hb' hn' hw'
    rw [updN_n _ _ (show k ≠ rc by omega)] at hn'
    obtain ⟨j, j1, j2⟩ := h5 k hk b' hb' hn' hw'
    exact ⟨j, by omega, by rw [updN_n _ _ (by omega)]; exact j2⟩
  · rw [updN_n _ _ (by omega)]
    exact h9
/-- the head is done with -/
theorem BI_next {w : Nat → Int32} {a i rc : Nat} {st re : Nat → Int32} {Q dq : Nat → Nat} (h : BI w a i st re rc Q dq) (hi : i < rc) (hv : ∀ b, b < 64 → nb (Q i) b → w b = 0 → ∃ j, j < rc ∧ Q j = b) : BI w a (i + 1) st re rc Q dq := by
  obtain ⟨h1, h2, h3, h4, h5, h6, h7, h8, h9⟩ := h
  refine ⟨h1, h2, h3, fun k hk hi' => ?_, fun k hk b hb hn hw => ?_, by omega, h7, h8, h9⟩
  · have := h4 k hk hi
    have := (h3 i (i + 1) (by omega) hi').2
    omega
  · by_cases e : k = i
    · subst e
      exact hv b hb hn hw
    · exact h5 k (by omega) b hb hn hw
/-- the queue at its end -/
theorem BI_end {w : Nat → Int32} {a i rc : Nat} {st re : Nat → Int32} {Q dq : Nat → Nat} (h : BI w a i st re rc Q dq) (hi : rc ≤ i) {b : Nat} (hb : b < 64) : isD w a b (st b) := by
  obtain ⟨h1, h2, h3, h4, h5, h6, h7, h8, h9⟩ := h
  rcases h2 b hb with g | ⟨k, k1, k2⟩
  · refine Or.inr ⟨g, ?_⟩
    have hall : ∀ n b, b < 64 → Rn w a n b → ∃ k, k < rc ∧ Q k = b := by
      intro n
      induction n with
      | zero =>
        intro b _ hr
        exact ⟨0, h8, h9.trans (show b = a from hr).symm⟩
      | succ n ih =>
        intro b hb hr
        rcases hr with hr | ⟨-, q2, c, q3, q4, q5⟩
        · exact ih b hb hr
        · obtain ⟨k, k1, k2⟩ := ih c q3 q5
          exact h5 k (by omega) b hb (by rw [k2]; exact q4) q2
    intro n hr
    obtain ⟨k, k1, k2⟩ := hall n b hb hr
    obtain ⟨-, -, g3, -, g5⟩ := h1 k k1
    rw [k2, g] at g3
    have := z_eq (by omega) (by omega) g3
    omega
  · obtain ⟨-, -, g3, g4, g5⟩ := h1 k k1
    rw [k2] at g3 g4
    exact Or.inl ⟨dq k, by omega, g3, g4⟩
theorem BI_start {w : Nat → Int32} {a : Nat} (ha : a < 64) (re : Nat → Int32) : BI w a 0 (upd (fun _ => nI 100) a (nI 0)) (upd re 0 (nI a)) 1 (fun _ => a) (fun _ => 0) := by
  refine ⟨fun k hk => ?_, fun b hb => ?_, fun j k hjk hk => absurd hk (by omega), fun k _ _ => (show (0 : Nat) ≤ 0 + 1 by omega), fun k hk => absurd hk (by omega), by omega, by omega, by omega, rfl⟩
  · rw [show k = 0 by omega]
    exact ⟨ha, pk_us, pk_us, ⟨rfl, fun m hm => absurd (show m < 0 from hm) (by omega)⟩, Nat.le_refl 0⟩
  · by_cases e : b = a
    · exact Or.inr ⟨0, by omega, e.symm⟩
    · exact Or.inl (pk_un e)
-- ===== squares as the machine has them =====
abbrev inSq (c r : Int32) : Prop := ((¬ c < 0 ∧ ¬ nI 8 ≤ c) ∧ ¬ r < 0) ∧ ¬ nI 8 ≤ r
def sqI (c r : Int32) : Nat := r.toNatClampNeg * 8 + c.toNatClampNeg
theorem in8 {c : Int32} (h1 : ¬ c < 0) (h2 : ¬ nI 8 ≤ c) : ∃ i, i < 8 ∧ c = nI i := by
  rcases pk_ix c (n := 8) (by omega) with h | h | h
  · exact absurd h h1
  · exact absurd h h2
  · exact h
theorem inSq_nat {c r : Int32} (h : inSq c r) : ∃ i j, i < 8 ∧ j < 8 ∧ c = nI i ∧ r = nI j := by
  obtain ⟨i, h1, h2⟩ := in8 h.1.1.1 h.1.1.2
  obtain ⟨j, h3, h4⟩ := in8 h.1.2 h.2
  exact ⟨i, j, h1, h3, h2, h4⟩
theorem inSq_iff {i j : Nat} (hi : i < 2 ^ 31) (hj : j < 2 ^ 31) : inSq (nI i) (nI j) ↔ i < 8 ∧ j < 8 := by
  constructor
  · intro h
    have h1 := z_nle (by omega) hi h.1.1.2
    have h2 := z_nle (by omega) hj h.2
    exact ⟨h1, h2⟩
  · intro h
    exact ⟨⟨⟨nI_pos hi, nI_ge h.1 (by omega)⟩, nI_pos hj⟩, nI_ge h.2 (by omega)⟩
theorem sqI_nat {i j : Nat} (hi : i < 2 ^ 31) (hj : j < 2 ^ 31) : sqI (nI i) (nI j) = j * 8 + i := by
  unfold sqI
  rw [nI_clamp hi, nI_clamp hj]
/-- what reach does to the steps, the queue and its length -/
def RS (w : Nat → Int32) (c r v : Int32) (st re : Nat → Int32) (rc : Nat) (st2 re2 : Nat → Int32) (rc2 : Nat) : Prop :=
  ((inSq c r ∧ rc < 64 ∧ w (sqI c r) = 0 ∧ st (sqI c r) = nI 100) ∧ st2 = upd st (sqI c r) v ∧ re2 = upd re rc (nI (sqI c r)) ∧ rc2 = rc + 1) ∨
  (¬ (inSq c r ∧ rc < 64 ∧ w (sqI c r) = 0 ∧ st (sqI c r) = nI 100) ∧ st2 = st ∧ re2 = re ∧ rc2 = rc)
/-- reach at a square beside the head, or outside -/
theorem BI_reach {w : Nat → Int32} {a i rc rc2 : Nat} {st re st2 re2 : Nat → Int32} {Q dq : Nat → Nat} {c r : Int32} {u d : Nat} (h : BI w a i st re rc Q dq) (hi : i < rc) (hu : Q i = u) (hd : dq i = d) (hc : inSq c r → sqI c r < 64 ∧ nb u (sqI c r)) (hR : RS w c r (nI (d + 1)) st re rc st2 re2 rc2) :
    ∃ Q' dq', BI w a i st2 re2 rc2 Q' dq' ∧ i < rc2 ∧ Q' i = u ∧ dq' i = d ∧ (∀ b, (∃ k, k < rc ∧ Q k = b) → ∃ k, k < rc2 ∧ Q' k = b) ∧ (inSq c r → w (sqI c r) = 0 → ∃ k, k < rc2 ∧ Q' k = sqI c r) := by
  rcases hR with ⟨⟨h1, h2, h3, h4⟩, rfl, rfl, rfl⟩ | ⟨hno, rfl, rfl, rfl⟩
  · obtain ⟨c1, c2⟩ := hc h1
    obtain ⟨-, Q', dq', g1, g2, g3⟩ := BI_look h hi c1 (by rw [hu]; exact c2) h3 h4
    rw [hd] at g1
    refine ⟨Q', dq', g1, by omega, (g2 i hi).1.trans hu, (g2 i hi).2.trans hd, fun b hb => ?_, fun _ _ => ⟨rc, by omega, g3⟩⟩
    obtain ⟨k, k1, k2⟩ := hb
    exact ⟨k, by omega, (g2 k k1).1.trans k2⟩
  · refine ⟨Q, dq, h, hi, hu, hd, fun b hb => hb, fun g1 g2 => ?_⟩
    obtain ⟨c1, c2⟩ := hc g1
    by_cases h4 : st2 (sqI c r) = nI 100
    · have h2 := (BI_look h hi c1 (by rw [hu]; exact c2) g2 h4).1
      exact absurd ⟨g1, h2, g2, h4⟩ hno
    · rcases h.2.1 _ c1 with g | g
      · exact absurd g h4
      · exact g
/-- the four squares beside u = r * 8 + c -/
theorem nb4 {u b : Nat} (hu : u < 64) (hb : b < 64) (h : nb u b) : (inSq (nI (u % 8) - nI 1) (nI (u / 8)) ∧ sqI (nI (u % 8) - nI 1) (nI (u / 8)) = b) ∨ (inSq (nI (u % 8 + 1)) (nI (u / 8)) ∧ sqI (nI (u % 8 + 1)) (nI (u / 8)) = b) ∨ (inSq (nI (u % 8)) (nI (u / 8) - nI 1) ∧ sqI (nI (u % 8)) (nI (u / 8) - nI 1) = b) ∨ (inSq (nI (u % 8)) (nI (u / 8 + 1)) ∧ sqI (nI (u % 8)) (nI (u / 8 + 1)) = b) := by
  rcases h with ⟨h1, h2⟩ | ⟨h1, h2⟩ | h1 | h1
  · refine Or.inr (Or.inl ⟨(inSq_iff (by omega) (by omega)).mpr ⟨by omega, by omega⟩, ?_⟩)
    rw [sqI_nat (by omega) (by omega)]; omega
  · refine Or.inl ?_
    rw [pk_sub (by omega)]
    refine ⟨(inSq_iff (by omega) (by omega)).mpr ⟨by omega, by omega⟩, ?_⟩
    rw [sqI_nat (by omega) (by omega)]; omega
  · refine Or.inr (Or.inr (Or.inr ⟨(inSq_iff (by omega) (by omega)).mpr ⟨by omega, by omega⟩, ?_⟩))
    rw [sqI_nat (by omega) (by omega)]; omega
  · refine Or.inr (Or.inr (Or.inl ?_))
    rw [pk_sub (by omega)]
    refine ⟨(inSq_iff (by omega) (by omega)).mpr ⟨by omega, by omega⟩, ?_⟩
    rw [sqI_nat (by omega) (by omega)]; omega
theorem m1_out {k : Nat} (hk : k < 8) (h : ¬ nI k - nI 1 < 0) : 1 ≤ k := by
  by_cases e : k = 0
  · subst e
    exact absurd (by decide) h
  · omega
theorem nb_l {u : Nat} (hu : u < 64) (h : inSq (nI (u % 8) - nI 1) (nI (u / 8))) : sqI (nI (u % 8) - nI 1) (nI (u / 8)) < 64 ∧ nb u (sqI (nI (u % 8) - nI 1) (nI (u / 8))) := by
  have h1 := m1_out (by omega) h.1.1.1
  rw [pk_sub h1, sqI_nat (by omega) (by omega)]
  unfold nb
  omega
theorem nb_r {u : Nat} (hu : u < 64) (h : inSq (nI (u % 8 + 1)) (nI (u / 8))) : sqI (nI (u % 8 + 1)) (nI (u / 8)) < 64 ∧ nb u (sqI (nI (u % 8 + 1)) (nI (u / 8))) := by
  have h1 := (inSq_iff (by omega) (by omega)).mp h
  rw [sqI_nat (by omega) (by omega)]
  unfold nb
  omega
theorem nb_u {u : Nat} (hu : u < 64) (h : inSq (nI (u % 8)) (nI (u / 8) - nI 1)) : sqI (nI (u % 8)) (nI (u / 8) - nI 1) < 64 ∧ nb u (sqI (nI (u % 8)) (nI (u / 8) - nI 1)) := by
  have h1 := m1_out (by omega) h.1.2
  rw [pk_sub h1, sqI_nat (by omega) (by omega)]
  unfold nb
  omega
theorem nb_d {u : Nat} (hu : u < 64) (h : inSq (nI (u % 8)) (nI (u / 8 + 1))) : sqI (nI (u % 8)) (nI (u / 8 + 1)) < 64 ∧ nb u (sqI (nI (u % 8)) (nI (u / 8 + 1))) := by
  have h1 := (inSq_iff (by omega) (by omega)).mp h
  rw [sqI_nat (by omega) (by omega)]
  unfold nb
  omega
/-- all four looks from the head -/
theorem BI_four {w : Nat → Int32} {a i rc r1 r2 r3 r4 : Nat} {st re s1 e1 s2 e2 s3 e3 s4 e4 : Nat → Int32} {Q dq : Nat → Nat} (h : BI w a i st re rc Q dq) (hi : i < rc)
    (R1 : RS w (nI (Q i % 8) - nI 1) (nI (Q i / 8)) (nI (dq i + 1)) st re rc s1 e1 r1) (R2 : RS w (nI (Q i % 8 + 1)) (nI (Q i / 8)) (nI (dq i + 1)) s1 e1 r1 s2 e2 r2)
    (R3 : RS w (nI (Q i % 8)) (nI (Q i / 8) - nI 1) (nI (dq i + 1)) s2 e2 r2 s3 e3 r3) (R4 : RS w (nI (Q i % 8)) (nI (Q i / 8 + 1)) (nI (dq i + 1)) s3 e3 r3 s4 e4 r4) :
    ∃ Q' dq', BI w a (i + 1) s4 e4 r4 Q' dq' := by
  have hu : Q i < 64 := (h.1 i hi).1
  obtain ⟨Q1, d1, b1, i1, u1, v1, m1, n1⟩ := BI_reach h hi rfl rfl (nb_l hu) R1
  obtain ⟨Q2, d2, b2, i2, u2, v2, m2, n2⟩ := BI_reach b1 i1 u1 v1 (nb_r hu) R2
  obtain ⟨Q3, d3, b3, i3, u3, v3, m3, n3⟩ := BI_reach b2 i2 u2 v2 (nb_u hu) R3
  obtain ⟨Q4, d4, b4, i4, u4, v4, m4, n4⟩ := BI_reach b3 i3 u3 v3 (nb_d hu) R4
  refine ⟨Q4, d4, BI_next b4 i4 (fun b hb hn hw => ?_)⟩
  rw [u4] at hn
  rcases nb4 hu hb hn with ⟨g1, g2⟩ | ⟨g1, g2⟩ | ⟨g1, g2⟩ | ⟨g1, g2⟩
  · exact m4 b (m3 b (m2 b (by rw [← g2] at hw ⊢; exact n1 g1 hw)))
  · exact m4 b (m3 b (by rw [← g2] at hw ⊢; exact n2 g1 hw))
  · exact m4 b (by rw [← g2] at hw ⊢; exact n3 g1 hw)
  · rw [← g2] at hw ⊢; exact n4 g1 hw
end
