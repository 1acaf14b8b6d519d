/-! ===== printed by program: the wrappers of the law: their tables, their words ===== -/
/-- a static method of the law with handlers: its words -/
def SOk (mi : MI) (hh : HT) (nA idx : Nat) : Prop := (Cond.methodLink RL idx mi.1 ∈ wT ∧ Cond.static mi.1 ∈ wT ∧ Cond.codeWith mi.1 mi.2.1 mi.2.2.1 mi.2.2.2 hh ∈ wT ∧ Cond.initialized mi.1.cls ∈ wT) ∧
  (mi.1.cls ≠ "java/lang/invoke/MethodHandle" ∧ mi.1.cls ≠ "java/lang/invoke/VarHandle" ∧ (parseMethodDescriptor mi.1.desc).map (fun d => d.parameters.length) = some nA) ∧ mi.2.2.1 ≤ 20
theorem SOk.of {mi : MI} {hh : HT} {nA idx : Nat} (p1 p2 p3 p4 : Nat) (h : (wAt p1 (.methodLink RL idx mi.1) && wAt p2 (.static mi.1) && wAt p3 (.codeWith mi.1 mi.2.1 mi.2.2.1 mi.2.2.2 hh) && wAt p4 (.initialized mi.1.cls) &&
    (decide (mi.1.cls ≠ "java/lang/invoke/MethodHandle") && decide (mi.1.cls ≠ "java/lang/invoke/VarHandle") && decide ((parseMethodDescriptor mi.1.desc).map (fun d => d.parameters.length) = some nA)) && decide (mi.2.2.1 ≤ 20)) = true) : SOk mi hh nA idx := by
  simp only [Bool.and_eq_true, decide_eq_true_eq] at h
  obtain ⟨⟨⟨⟨⟨h1, h2⟩, h3⟩, h4⟩, ⟨h5, h6⟩, h7⟩, h8⟩ := h
  exact ⟨⟨wAt_in h1, wAt_in h2, wAt_in h3, wAt_in h4⟩, ⟨h5, h6, h7⟩, h8⟩
theorem xLc0 : Int64.ofNat ((0 : Fin 2) : Nat) = (nI 0).toInt64 := by decide
theorem xLc1 : Int64.ofNat ((1 : Fin 2) : Nat) = (nI 1).toInt64 := by decide
def mL_addSchool : MI := (yL_addSchool, cL_addSchool, 7, (some .int))
def hL_addSchool : HT := [(0, 14, 17, 13), (0, 14, 21, 15)]
def tL_addSchool : TB := [(0, .aload 5, 2, 0), (2, .iconst 0, 1, 0), (3, .aload_n 0, 1, 0), (4, .iload_n 1, 1, 0), (5, .iload_n 2, 1, 0), (6, .iload_n 3, 1, 0), (7, .iload 4, 2, 0), (9, .invokevirtual 7, 3, 0), (12, .i2l, 1, 0), (13, .lastore, 1, 0), (14, .goto 11, 3, 25), (17, .astore 6, 2, 0), (19, .iconst 1, 1, 0), (20, .ireturn, 1, 0), (21, .astore 6, 2, 0), (23, .iconst 2, 1, 0), (24, .ireturn, 1, 0), (25, .iconst 0, 1, 0), (26, .ireturn, 1, 0)]
theorem tL_addSchool_ok : tbOk mL_addSchool.2.1 tL_addSchool = true := by decide +kernel
theorem kL_addSchool_0 : lkp tL_addSchool 0 = some (.aload 5, 0) := rfl
theorem kL_addSchool_2 : lkp tL_addSchool 2 = some (.iconst 0, 0) := rfl
theorem kL_addSchool_3 : lkp tL_addSchool 3 = some (.aload_n 0, 0) := rfl
theorem kL_addSchool_4 : lkp tL_addSchool 4 = some (.iload_n 1, 0) := rfl
theorem kL_addSchool_5 : lkp tL_addSchool 5 = some (.iload_n 2, 0) := rfl
theorem kL_addSchool_6 : lkp tL_addSchool 6 = some (.iload_n 3, 0) := rfl
theorem kL_addSchool_7 : lkp tL_addSchool 7 = some (.iload 4, 0) := rfl
theorem kL_addSchool_9 : lkp tL_addSchool 9 = some (.invokevirtual 7, 0) := rfl
theorem kL_addSchool_12 : lkp tL_addSchool 12 = some (.i2l, 0) := rfl
theorem kL_addSchool_13 : lkp tL_addSchool 13 = some (.lastore, 0) := rfl
theorem kL_addSchool_14 : lkp tL_addSchool 14 = some (.goto 11, 25) := rfl
theorem kL_addSchool_17 : lkp tL_addSchool 17 = some (.astore 6, 0) := rfl
theorem kL_addSchool_19 : lkp tL_addSchool 19 = some (.iconst 1, 0) := rfl
theorem kL_addSchool_20 : lkp tL_addSchool 20 = some (.ireturn, 0) := rfl
theorem kL_addSchool_21 : lkp tL_addSchool 21 = some (.astore 6, 0) := rfl
theorem kL_addSchool_23 : lkp tL_addSchool 23 = some (.iconst 2, 0) := rfl
theorem kL_addSchool_24 : lkp tL_addSchool 24 = some (.ireturn, 0) := rfl
theorem kL_addSchool_25 : lkp tL_addSchool 25 = some (.iconst 0, 0) := rfl
theorem kL_addSchool_26 : lkp tL_addSchool 26 = some (.ireturn, 0) := rfl
theorem lL_addSchool : Cond.methodLink RL 7 yX8_addSchool ∈ wT := wAt_in (i := 489) (by decide +kernel)
def mL_setSeats : MI := (yL_setSeats, cL_setSeats, 5, (some .int))
def hL_setSeats : HT := [(0, 10, 13, 21), (0, 10, 17, 13)]
def tL_setSeats : TB := [(0, .aload_n 3, 1, 0), (1, .iconst 0, 1, 0), (2, .aload_n 0, 1, 0), (3, .iload_n 1, 1, 0), (4, .iload_n 2, 1, 0), (5, .invokevirtual 17, 3, 0), (8, .i2l, 1, 0), (9, .lastore, 1, 0), (10, .goto 11, 3, 21), (13, .astore 4, 2, 0), (15, .iconst 1, 1, 0), (16, .ireturn, 1, 0), (17, .astore 4, 2, 0), (19, .iconst 2, 1, 0), (20, .ireturn, 1, 0), (21, .iconst 0, 1, 0), (22, .ireturn, 1, 0)]
theorem tL_setSeats_ok : tbOk mL_setSeats.2.1 tL_setSeats = true := by decide +kernel
theorem kL_setSeats_0 : lkp tL_setSeats 0 = some (.aload_n 3, 0) := rfl
theorem kL_setSeats_1 : lkp tL_setSeats 1 = some (.iconst 0, 0) := rfl
theorem kL_setSeats_2 : lkp tL_setSeats 2 = some (.aload_n 0, 0) := rfl
theorem kL_setSeats_3 : lkp tL_setSeats 3 = some (.iload_n 1, 0) := rfl
theorem kL_setSeats_4 : lkp tL_setSeats 4 = some (.iload_n 2, 0) := rfl
theorem kL_setSeats_5 : lkp tL_setSeats 5 = some (.invokevirtual 17, 0) := rfl
theorem kL_setSeats_8 : lkp tL_setSeats 8 = some (.i2l, 0) := rfl
theorem kL_setSeats_9 : lkp tL_setSeats 9 = some (.lastore, 0) := rfl
theorem kL_setSeats_10 : lkp tL_setSeats 10 = some (.goto 11, 21) := rfl
theorem kL_setSeats_13 : lkp tL_setSeats 13 = some (.astore 4, 0) := rfl
theorem kL_setSeats_15 : lkp tL_setSeats 15 = some (.iconst 1, 0) := rfl
theorem kL_setSeats_16 : lkp tL_setSeats 16 = some (.ireturn, 0) := rfl
theorem kL_setSeats_17 : lkp tL_setSeats 17 = some (.astore 4, 0) := rfl
theorem kL_setSeats_19 : lkp tL_setSeats 19 = some (.iconst 2, 0) := rfl
theorem kL_setSeats_20 : lkp tL_setSeats 20 = some (.ireturn, 0) := rfl
theorem kL_setSeats_21 : lkp tL_setSeats 21 = some (.iconst 0, 0) := rfl
theorem kL_setSeats_22 : lkp tL_setSeats 22 = some (.ireturn, 0) := rfl
theorem lL_setSeats : Cond.methodLink RL 17 yX8_setSeats ∈ wT := wAt_in (i := 615) (by decide +kernel)
def mL_setRadius : MI := (yL_setRadius, cL_setRadius, 5, (some .int))
def hL_setRadius : HT := [(0, 10, 13, 21), (0, 10, 17, 13)]
def tL_setRadius : TB := [(0, .aload_n 3, 1, 0), (1, .iconst 0, 1, 0), (2, .aload_n 0, 1, 0), (3, .iload_n 1, 1, 0), (4, .iload_n 2, 1, 0), (5, .invokevirtual 23, 3, 0), (8, .i2l, 1, 0), (9, .lastore, 1, 0), (10, .goto 11, 3, 21), (13, .astore 4, 2, 0), (15, .iconst 1, 1, 0), (16, .ireturn, 1, 0), (17, .astore 4, 2, 0), (19, .iconst 2, 1, 0), (20, .ireturn, 1, 0), (21, .iconst 0, 1, 0), (22, .ireturn, 1, 0)]
theorem tL_setRadius_ok : tbOk mL_setRadius.2.1 tL_setRadius = true := by decide +kernel
theorem kL_setRadius_0 : lkp tL_setRadius 0 = some (.aload_n 3, 0) := rfl
theorem kL_setRadius_1 : lkp tL_setRadius 1 = some (.iconst 0, 0) := rfl
theorem kL_setRadius_2 : lkp tL_setRadius 2 = some (.aload_n 0, 0) := rfl
theorem kL_setRadius_3 : lkp tL_setRadius 3 = some (.iload_n 1, 0) := rfl
theorem kL_setRadius_4 : lkp tL_setRadius 4 = some (.iload_n 2, 0) := rfl
theorem kL_setRadius_5 : lkp tL_setRadius 5 = some (.invokevirtual 23, 0) := rfl
theorem kL_setRadius_8 : lkp tL_setRadius 8 = some (.i2l, 0) := rfl
theorem kL_setRadius_9 : lkp tL_setRadius 9 = some (.lastore, 0) := rfl
theorem kL_setRadius_10 : lkp tL_setRadius 10 = some (.goto 11, 21) := rfl
theorem kL_setRadius_13 : lkp tL_setRadius 13 = some (.astore 4, 0) := rfl
theorem kL_setRadius_15 : lkp tL_setRadius 15 = some (.iconst 1, 0) := rfl
theorem kL_setRadius_16 : lkp tL_setRadius 16 = some (.ireturn, 0) := rfl
theorem kL_setRadius_17 : lkp tL_setRadius 17 = some (.astore 4, 0) := rfl
theorem kL_setRadius_19 : lkp tL_setRadius 19 = some (.iconst 2, 0) := rfl
theorem kL_setRadius_20 : lkp tL_setRadius 20 = some (.ireturn, 0) := rfl
theorem kL_setRadius_21 : lkp tL_setRadius 21 = some (.iconst 0, 0) := rfl
theorem kL_setRadius_22 : lkp tL_setRadius 22 = some (.ireturn, 0) := rfl
theorem lL_setRadius : Cond.methodLink RL 23 yX8_setRadius ∈ wT := wAt_in (i := 654) (by decide +kernel)
def mL_setRule : MI := (yL_setRule, cL_setRule, 5, (some .int))
def hL_setRule : HT := [(0, 10, 13, 21), (0, 10, 17, 13)]
def tL_setRule : TB := [(0, .aload_n 3, 1, 0), (1, .iconst 0, 1, 0), (2, .aload_n 0, 1, 0), (3, .iload_n 1, 1, 0), (4, .iload_n 2, 1, 0), (5, .invokevirtual 26, 3, 0), (8, .i2l, 1, 0), (9, .lastore, 1, 0), (10, .goto 11, 3, 21), (13, .astore 4, 2, 0), (15, .iconst 1, 1, 0), (16, .ireturn, 1, 0), (17, .astore 4, 2, 0), (19, .iconst 2, 1, 0), (20, .ireturn, 1, 0), (21, .iconst 0, 1, 0), (22, .ireturn, 1, 0)]
theorem tL_setRule_ok : tbOk mL_setRule.2.1 tL_setRule = true := by decide +kernel
theorem kL_setRule_0 : lkp tL_setRule 0 = some (.aload_n 3, 0) := rfl
theorem kL_setRule_1 : lkp tL_setRule 1 = some (.iconst 0, 0) := rfl
theorem kL_setRule_2 : lkp tL_setRule 2 = some (.aload_n 0, 0) := rfl
theorem kL_setRule_3 : lkp tL_setRule 3 = some (.iload_n 1, 0) := rfl
theorem kL_setRule_4 : lkp tL_setRule 4 = some (.iload_n 2, 0) := rfl
theorem kL_setRule_5 : lkp tL_setRule 5 = some (.invokevirtual 26, 0) := rfl
theorem kL_setRule_8 : lkp tL_setRule 8 = some (.i2l, 0) := rfl
theorem kL_setRule_9 : lkp tL_setRule 9 = some (.lastore, 0) := rfl
theorem kL_setRule_10 : lkp tL_setRule 10 = some (.goto 11, 21) := rfl
theorem kL_setRule_13 : lkp tL_setRule 13 = some (.astore 4, 0) := rfl
theorem kL_setRule_15 : lkp tL_setRule 15 = some (.iconst 1, 0) := rfl
theorem kL_setRule_16 : lkp tL_setRule 16 = some (.ireturn, 0) := rfl
theorem kL_setRule_17 : lkp tL_setRule 17 = some (.astore 4, 0) := rfl
theorem kL_setRule_19 : lkp tL_setRule 19 = some (.iconst 2, 0) := rfl
theorem kL_setRule_20 : lkp tL_setRule 20 = some (.ireturn, 0) := rfl
theorem kL_setRule_21 : lkp tL_setRule 21 = some (.iconst 0, 0) := rfl
theorem kL_setRule_22 : lkp tL_setRule 22 = some (.ireturn, 0) := rfl
theorem lL_setRule : Cond.methodLink RL 26 yX8_setRule ∈ wT := wAt_in (i := 661) (by decide +kernel)
def mL_setLimit : MI := (yL_setLimit, cL_setLimit, 5, (some .int))
def hL_setLimit : HT := [(0, 10, 13, 21), (0, 10, 17, 13)]
def tL_setLimit : TB := [(0, .aload_n 3, 1, 0), (1, .iconst 0, 1, 0), (2, .aload_n 0, 1, 0), (3, .iload_n 1, 1, 0), (4, .iload_n 2, 1, 0), (5, .invokevirtual 29, 3, 0), (8, .i2l, 1, 0), (9, .lastore, 1, 0), (10, .goto 11, 3, 21), (13, .astore 4, 2, 0), (15, .iconst 1, 1, 0), (16, .ireturn, 1, 0), (17, .astore 4, 2, 0), (19, .iconst 2, 1, 0), (20, .ireturn, 1, 0), (21, .iconst 0, 1, 0), (22, .ireturn, 1, 0)]
theorem tL_setLimit_ok : tbOk mL_setLimit.2.1 tL_setLimit = true := by decide +kernel
theorem kL_setLimit_0 : lkp tL_setLimit 0 = some (.aload_n 3, 0) := rfl
theorem kL_setLimit_1 : lkp tL_setLimit 1 = some (.iconst 0, 0) := rfl
theorem kL_setLimit_2 : lkp tL_setLimit 2 = some (.aload_n 0, 0) := rfl
theorem kL_setLimit_3 : lkp tL_setLimit 3 = some (.iload_n 1, 0) := rfl
theorem kL_setLimit_4 : lkp tL_setLimit 4 = some (.iload_n 2, 0) := rfl
theorem kL_setLimit_5 : lkp tL_setLimit 5 = some (.invokevirtual 29, 0) := rfl
theorem kL_setLimit_8 : lkp tL_setLimit 8 = some (.i2l, 0) := rfl
theorem kL_setLimit_9 : lkp tL_setLimit 9 = some (.lastore, 0) := rfl
theorem kL_setLimit_10 : lkp tL_setLimit 10 = some (.goto 11, 21) := rfl
theorem kL_setLimit_13 : lkp tL_setLimit 13 = some (.astore 4, 0) := rfl
theorem kL_setLimit_15 : lkp tL_setLimit 15 = some (.iconst 1, 0) := rfl
theorem kL_setLimit_16 : lkp tL_setLimit 16 = some (.ireturn, 0) := rfl
theorem kL_setLimit_17 : lkp tL_setLimit 17 = some (.astore 4, 0) := rfl
theorem kL_setLimit_19 : lkp tL_setLimit 19 = some (.iconst 2, 0) := rfl
theorem kL_setLimit_20 : lkp tL_setLimit 20 = some (.ireturn, 0) := rfl
theorem kL_setLimit_21 : lkp tL_setLimit 21 = some (.iconst 0, 0) := rfl
theorem kL_setLimit_22 : lkp tL_setLimit 22 = some (.ireturn, 0) := rfl
theorem lL_setLimit : Cond.methodLink RL 29 yX8_setLimit ∈ wT := wAt_in (i := 668) (by decide +kernel)
def mL_school : MI := (yL_school, cL_school, 5, (some .int))
def hL_school : HT := [(0, 10, 13, 21), (0, 10, 17, 13)]
def tL_school : TB := [(0, .aload_n 3, 1, 0), (1, .iconst 0, 1, 0), (2, .aload_n 0, 1, 0), (3, .iload_n 1, 1, 0), (4, .iload_n 2, 1, 0), (5, .invokevirtual 36, 3, 0), (8, .i2l, 1, 0), (9, .lastore, 1, 0), (10, .goto 11, 3, 21), (13, .astore 4, 2, 0), (15, .iconst 1, 1, 0), (16, .ireturn, 1, 0), (17, .astore 4, 2, 0), (19, .iconst 2, 1, 0), (20, .ireturn, 1, 0), (21, .iconst 0, 1, 0), (22, .ireturn, 1, 0)]
theorem tL_school_ok : tbOk mL_school.2.1 tL_school = true := by decide +kernel
theorem kL_school_0 : lkp tL_school 0 = some (.aload_n 3, 0) := rfl
theorem kL_school_1 : lkp tL_school 1 = some (.iconst 0, 0) := rfl
theorem kL_school_2 : lkp tL_school 2 = some (.aload_n 0, 0) := rfl
theorem kL_school_3 : lkp tL_school 3 = some (.iload_n 1, 0) := rfl
theorem kL_school_4 : lkp tL_school 4 = some (.iload_n 2, 0) := rfl
theorem kL_school_5 : lkp tL_school 5 = some (.invokevirtual 36, 0) := rfl
theorem kL_school_8 : lkp tL_school 8 = some (.i2l, 0) := rfl
theorem kL_school_9 : lkp tL_school 9 = some (.lastore, 0) := rfl
theorem kL_school_10 : lkp tL_school 10 = some (.goto 11, 21) := rfl
theorem kL_school_13 : lkp tL_school 13 = some (.astore 4, 0) := rfl
theorem kL_school_15 : lkp tL_school 15 = some (.iconst 1, 0) := rfl
theorem kL_school_16 : lkp tL_school 16 = some (.ireturn, 0) := rfl
theorem kL_school_17 : lkp tL_school 17 = some (.astore 4, 0) := rfl
theorem kL_school_19 : lkp tL_school 19 = some (.iconst 2, 0) := rfl
theorem kL_school_20 : lkp tL_school 20 = some (.ireturn, 0) := rfl
theorem kL_school_21 : lkp tL_school 21 = some (.iconst 0, 0) := rfl
theorem kL_school_22 : lkp tL_school 22 = some (.ireturn, 0) := rfl
theorem lL_school : Cond.methodLink RL 36 yX8_school ∈ wT := wAt_in (i := 684) (by decide +kernel)
def mL_held : MI := (yL_held, cL_held, 5, (some .int))
def hL_held : HT := [(0, 10, 13, 21), (0, 10, 17, 42)]
def tL_held : TB := [(0, .aload_n 3, 1, 0), (1, .iconst 0, 1, 0), (2, .aload_n 0, 1, 0), (3, .iload_n 1, 1, 0), (4, .iload_n 2, 1, 0), (5, .invokevirtual 39, 3, 0), (8, .i2l, 1, 0), (9, .lastore, 1, 0), (10, .goto 11, 3, 21), (13, .astore 4, 2, 0), (15, .iconst 1, 1, 0), (16, .ireturn, 1, 0), (17, .astore 4, 2, 0), (19, .iconst 2, 1, 0), (20, .ireturn, 1, 0), (21, .iconst 0, 1, 0), (22, .ireturn, 1, 0)]
theorem tL_held_ok : tbOk mL_held.2.1 tL_held = true := by decide +kernel
theorem kL_held_0 : lkp tL_held 0 = some (.aload_n 3, 0) := rfl
theorem kL_held_1 : lkp tL_held 1 = some (.iconst 0, 0) := rfl
theorem kL_held_2 : lkp tL_held 2 = some (.aload_n 0, 0) := rfl
theorem kL_held_3 : lkp tL_held 3 = some (.iload_n 1, 0) := rfl
theorem kL_held_4 : lkp tL_held 4 = some (.iload_n 2, 0) := rfl
theorem kL_held_5 : lkp tL_held 5 = some (.invokevirtual 39, 0) := rfl
theorem kL_held_8 : lkp tL_held 8 = some (.i2l, 0) := rfl
theorem kL_held_9 : lkp tL_held 9 = some (.lastore, 0) := rfl
theorem kL_held_10 : lkp tL_held 10 = some (.goto 11, 21) := rfl
theorem kL_held_13 : lkp tL_held 13 = some (.astore 4, 0) := rfl
theorem kL_held_15 : lkp tL_held 15 = some (.iconst 1, 0) := rfl
theorem kL_held_16 : lkp tL_held 16 = some (.ireturn, 0) := rfl
theorem kL_held_17 : lkp tL_held 17 = some (.astore 4, 0) := rfl
theorem kL_held_19 : lkp tL_held 19 = some (.iconst 2, 0) := rfl
theorem kL_held_20 : lkp tL_held 20 = some (.ireturn, 0) := rfl
theorem kL_held_21 : lkp tL_held 21 = some (.iconst 0, 0) := rfl
theorem kL_held_22 : lkp tL_held 22 = some (.ireturn, 0) := rfl
theorem lL_held : Cond.methodLink RL 39 yX8_held ∈ wT := wAt_in (i := 702) (by decide +kernel)
def mL_waiting : MI := (yL_waiting, cL_waiting, 5, (some .int))
def hL_waiting : HT := [(0, 10, 13, 21), (0, 10, 17, 42)]
def tL_waiting : TB := [(0, .aload_n 3, 1, 0), (1, .iconst 0, 1, 0), (2, .aload_n 0, 1, 0), (3, .iload_n 1, 1, 0), (4, .iload_n 2, 1, 0), (5, .invokevirtual 44, 3, 0), (8, .i2l, 1, 0), (9, .lastore, 1, 0), (10, .goto 11, 3, 21), (13, .astore 4, 2, 0), (15, .iconst 1, 1, 0), (16, .ireturn, 1, 0), (17, .astore 4, 2, 0), (19, .iconst 2, 1, 0), (20, .ireturn, 1, 0), (21, .iconst 0, 1, 0), (22, .ireturn, 1, 0)]
theorem tL_waiting_ok : tbOk mL_waiting.2.1 tL_waiting = true := by decide +kernel
theorem kL_waiting_0 : lkp tL_waiting 0 = some (.aload_n 3, 0) := rfl
theorem kL_waiting_1 : lkp tL_waiting 1 = some (.iconst 0, 0) := rfl
theorem kL_waiting_2 : lkp tL_waiting 2 = some (.aload_n 0, 0) := rfl
theorem kL_waiting_3 : lkp tL_waiting 3 = some (.iload_n 1, 0) := rfl
theorem kL_waiting_4 : lkp tL_waiting 4 = some (.iload_n 2, 0) := rfl
theorem kL_waiting_5 : lkp tL_waiting 5 = some (.invokevirtual 44, 0) := rfl
theorem kL_waiting_8 : lkp tL_waiting 8 = some (.i2l, 0) := rfl
theorem kL_waiting_9 : lkp tL_waiting 9 = some (.lastore, 0) := rfl
theorem kL_waiting_10 : lkp tL_waiting 10 = some (.goto 11, 21) := rfl
theorem kL_waiting_13 : lkp tL_waiting 13 = some (.astore 4, 0) := rfl
theorem kL_waiting_15 : lkp tL_waiting 15 = some (.iconst 1, 0) := rfl
theorem kL_waiting_16 : lkp tL_waiting 16 = some (.ireturn, 0) := rfl
theorem kL_waiting_17 : lkp tL_waiting 17 = some (.astore 4, 0) := rfl
theorem kL_waiting_19 : lkp tL_waiting 19 = some (.iconst 2, 0) := rfl
theorem kL_waiting_20 : lkp tL_waiting 20 = some (.ireturn, 0) := rfl
theorem kL_waiting_21 : lkp tL_waiting 21 = some (.iconst 0, 0) := rfl
theorem kL_waiting_22 : lkp tL_waiting 22 = some (.ireturn, 0) := rfl
theorem lL_waiting : Cond.methodLink RL 44 yX8_waiting ∈ wT := wAt_in (i := 743) (by decide +kernel)
def mL_addChild : MI := (yL_addChild, cL_addChild, 7, (some .int))
def hL_addChild : HT := [(0, 14, 17, 13), (0, 14, 21, 15)]
def tL_addChild : TB := [(0, .aload 5, 2, 0), (2, .iconst 0, 1, 0), (3, .aload_n 0, 1, 0), (4, .iload_n 1, 1, 0), (5, .iload_n 2, 1, 0), (6, .iload_n 3, 1, 0), (7, .iload 4, 2, 0), (9, .invokevirtual 47, 3, 0), (12, .i2l, 1, 0), (13, .lastore, 1, 0), (14, .goto 11, 3, 25), (17, .astore 6, 2, 0), (19, .iconst 1, 1, 0), (20, .ireturn, 1, 0), (21, .astore 6, 2, 0), (23, .iconst 2, 1, 0), (24, .ireturn, 1, 0), (25, .iconst 0, 1, 0), (26, .ireturn, 1, 0)]
theorem tL_addChild_ok : tbOk mL_addChild.2.1 tL_addChild = true := by decide +kernel
theorem kL_addChild_0 : lkp tL_addChild 0 = some (.aload 5, 0) := rfl
theorem kL_addChild_2 : lkp tL_addChild 2 = some (.iconst 0, 0) := rfl
theorem kL_addChild_3 : lkp tL_addChild 3 = some (.aload_n 0, 0) := rfl
theorem kL_addChild_4 : lkp tL_addChild 4 = some (.iload_n 1, 0) := rfl
theorem kL_addChild_5 : lkp tL_addChild 5 = some (.iload_n 2, 0) := rfl
theorem kL_addChild_6 : lkp tL_addChild 6 = some (.iload_n 3, 0) := rfl
theorem kL_addChild_7 : lkp tL_addChild 7 = some (.iload 4, 0) := rfl
theorem kL_addChild_9 : lkp tL_addChild 9 = some (.invokevirtual 47, 0) := rfl
theorem kL_addChild_12 : lkp tL_addChild 12 = some (.i2l, 0) := rfl
theorem kL_addChild_13 : lkp tL_addChild 13 = some (.lastore, 0) := rfl
theorem kL_addChild_14 : lkp tL_addChild 14 = some (.goto 11, 25) := rfl
theorem kL_addChild_17 : lkp tL_addChild 17 = some (.astore 6, 0) := rfl
theorem kL_addChild_19 : lkp tL_addChild 19 = some (.iconst 1, 0) := rfl
theorem kL_addChild_20 : lkp tL_addChild 20 = some (.ireturn, 0) := rfl
theorem kL_addChild_21 : lkp tL_addChild 21 = some (.astore 6, 0) := rfl
theorem kL_addChild_23 : lkp tL_addChild 23 = some (.iconst 2, 0) := rfl
theorem kL_addChild_24 : lkp tL_addChild 24 = some (.ireturn, 0) := rfl
theorem kL_addChild_25 : lkp tL_addChild 25 = some (.iconst 0, 0) := rfl
theorem kL_addChild_26 : lkp tL_addChild 26 = some (.ireturn, 0) := rfl
theorem lL_addChild : Cond.methodLink RL 47 yX8_addChild ∈ wT := wAt_in (i := 752) (by decide +kernel)
def mL_readChild : MI := (yL_readChild, cL_readChild, 3, (some .int))
def hL_readChild : HT := [(0, 8, 11, 13), (0, 8, 14, 15)]
def tL_readChild : TB := [(0, .aload_n 1, 1, 0), (1, .iconst 0, 1, 0), (2, .aload_n 0, 1, 0), (3, .invokevirtual 50, 3, 0), (6, .i2l, 1, 0), (7, .lastore, 1, 0), (8, .goto 9, 3, 17), (11, .astore_n 2, 1, 0), (12, .iconst 1, 1, 0), (13, .ireturn, 1, 0), (14, .astore_n 2, 1, 0), (15, .iconst 2, 1, 0), (16, .ireturn, 1, 0), (17, .iconst 0, 1, 0), (18, .ireturn, 1, 0)]
theorem tL_readChild_ok : tbOk mL_readChild.2.1 tL_readChild = true := by decide +kernel
theorem kL_readChild_0 : lkp tL_readChild 0 = some (.aload_n 1, 0) := rfl
theorem kL_readChild_1 : lkp tL_readChild 1 = some (.iconst 0, 0) := rfl
theorem kL_readChild_2 : lkp tL_readChild 2 = some (.aload_n 0, 0) := rfl
theorem kL_readChild_3 : lkp tL_readChild 3 = some (.invokevirtual 50, 0) := rfl
theorem kL_readChild_6 : lkp tL_readChild 6 = some (.i2l, 0) := rfl
theorem kL_readChild_7 : lkp tL_readChild 7 = some (.lastore, 0) := rfl
theorem kL_readChild_8 : lkp tL_readChild 8 = some (.goto 9, 17) := rfl
theorem kL_readChild_11 : lkp tL_readChild 11 = some (.astore_n 2, 0) := rfl
theorem kL_readChild_12 : lkp tL_readChild 12 = some (.iconst 1, 0) := rfl
theorem kL_readChild_13 : lkp tL_readChild 13 = some (.ireturn, 0) := rfl
theorem kL_readChild_14 : lkp tL_readChild 14 = some (.astore_n 2, 0) := rfl
theorem kL_readChild_15 : lkp tL_readChild 15 = some (.iconst 2, 0) := rfl
theorem kL_readChild_16 : lkp tL_readChild 16 = some (.ireturn, 0) := rfl
theorem kL_readChild_17 : lkp tL_readChild 17 = some (.iconst 0, 0) := rfl
theorem kL_readChild_18 : lkp tL_readChild 18 = some (.ireturn, 0) := rfl
theorem lL_readChild : Cond.methodLink RL 50 yX8_readChild ∈ wT := wAt_in (i := 768) (by decide +kernel)
def mL_choose : MI := (yL_choose, cL_choose, 6, (some .int))
def hL_choose : HT := [(0, 12, 15, 21), (0, 12, 19, 13), (0, 12, 23, 15)]
def tL_choose : TB := [(0, .aload 4, 2, 0), (2, .iconst 0, 1, 0), (3, .aload_n 0, 1, 0), (4, .iload_n 1, 1, 0), (5, .iload_n 2, 1, 0), (6, .iload_n 3, 1, 0), (7, .invokevirtual 54, 3, 0), (10, .i2l, 1, 0), (11, .lastore, 1, 0), (12, .goto 15, 3, 27), (15, .astore 5, 2, 0), (17, .iconst 1, 1, 0), (18, .ireturn, 1, 0), (19, .astore 5, 2, 0), (21, .iconst 2, 1, 0), (22, .ireturn, 1, 0), (23, .astore 5, 2, 0), (25, .iconst 3, 1, 0), (26, .ireturn, 1, 0), (27, .iconst 0, 1, 0), (28, .ireturn, 1, 0)]
theorem tL_choose_ok : tbOk mL_choose.2.1 tL_choose = true := by decide +kernel
theorem kL_choose_0 : lkp tL_choose 0 = some (.aload 4, 0) := rfl
theorem kL_choose_2 : lkp tL_choose 2 = some (.iconst 0, 0) := rfl
theorem kL_choose_3 : lkp tL_choose 3 = some (.aload_n 0, 0) := rfl
theorem kL_choose_4 : lkp tL_choose 4 = some (.iload_n 1, 0) := rfl
theorem kL_choose_5 : lkp tL_choose 5 = some (.iload_n 2, 0) := rfl
theorem kL_choose_6 : lkp tL_choose 6 = some (.iload_n 3, 0) := rfl
theorem kL_choose_7 : lkp tL_choose 7 = some (.invokevirtual 54, 0) := rfl
theorem kL_choose_10 : lkp tL_choose 10 = some (.i2l, 0) := rfl
theorem kL_choose_11 : lkp tL_choose 11 = some (.lastore, 0) := rfl
theorem kL_choose_12 : lkp tL_choose 12 = some (.goto 15, 27) := rfl
theorem kL_choose_15 : lkp tL_choose 15 = some (.astore 5, 0) := rfl
theorem kL_choose_17 : lkp tL_choose 17 = some (.iconst 1, 0) := rfl
theorem kL_choose_18 : lkp tL_choose 18 = some (.ireturn, 0) := rfl
theorem kL_choose_19 : lkp tL_choose 19 = some (.astore 5, 0) := rfl
theorem kL_choose_21 : lkp tL_choose 21 = some (.iconst 2, 0) := rfl
theorem kL_choose_22 : lkp tL_choose 22 = some (.ireturn, 0) := rfl
theorem kL_choose_23 : lkp tL_choose 23 = some (.astore 5, 0) := rfl
theorem kL_choose_25 : lkp tL_choose 25 = some (.iconst 3, 0) := rfl
theorem kL_choose_26 : lkp tL_choose 26 = some (.ireturn, 0) := rfl
theorem kL_choose_27 : lkp tL_choose 27 = some (.iconst 0, 0) := rfl
theorem kL_choose_28 : lkp tL_choose 28 = some (.ireturn, 0) := rfl
theorem lL_choose : Cond.methodLink RL 54 yX8_choose ∈ wT := wAt_in (i := 805) (by decide +kernel)
def mL_setNeed : MI := (yL_setNeed, cL_setNeed, 5, (some .int))
def hL_setNeed : HT := [(0, 10, 13, 21)]
def tL_setNeed : TB := [(0, .aload_n 3, 1, 0), (1, .iconst 0, 1, 0), (2, .aload_n 0, 1, 0), (3, .iload_n 1, 1, 0), (4, .iload_n 2, 1, 0), (5, .invokevirtual 58, 3, 0), (8, .i2l, 1, 0), (9, .lastore, 1, 0), (10, .goto 7, 3, 17), (13, .astore 4, 2, 0), (15, .iconst 1, 1, 0), (16, .ireturn, 1, 0), (17, .iconst 0, 1, 0), (18, .ireturn, 1, 0)]
theorem tL_setNeed_ok : tbOk mL_setNeed.2.1 tL_setNeed = true := by decide +kernel
theorem kL_setNeed_0 : lkp tL_setNeed 0 = some (.aload_n 3, 0) := rfl
theorem kL_setNeed_1 : lkp tL_setNeed 1 = some (.iconst 0, 0) := rfl
theorem kL_setNeed_2 : lkp tL_setNeed 2 = some (.aload_n 0, 0) := rfl
theorem kL_setNeed_3 : lkp tL_setNeed 3 = some (.iload_n 1, 0) := rfl
theorem kL_setNeed_4 : lkp tL_setNeed 4 = some (.iload_n 2, 0) := rfl
theorem kL_setNeed_5 : lkp tL_setNeed 5 = some (.invokevirtual 58, 0) := rfl
theorem kL_setNeed_8 : lkp tL_setNeed 8 = some (.i2l, 0) := rfl
theorem kL_setNeed_9 : lkp tL_setNeed 9 = some (.lastore, 0) := rfl
theorem kL_setNeed_10 : lkp tL_setNeed 10 = some (.goto 7, 17) := rfl
theorem kL_setNeed_13 : lkp tL_setNeed 13 = some (.astore 4, 0) := rfl
theorem kL_setNeed_15 : lkp tL_setNeed 15 = some (.iconst 1, 0) := rfl
theorem kL_setNeed_16 : lkp tL_setNeed 16 = some (.ireturn, 0) := rfl
theorem kL_setNeed_17 : lkp tL_setNeed 17 = some (.iconst 0, 0) := rfl
theorem kL_setNeed_18 : lkp tL_setNeed 18 = some (.ireturn, 0) := rfl
theorem lL_setNeed : Cond.methodLink RL 58 yX8_setNeed ∈ wT := wAt_in (i := 819) (by decide +kernel)
def mL_child : MI := (yL_child, cL_child, 5, (some .int))
def hL_child : HT := [(0, 10, 13, 21), (0, 10, 17, 13)]
def tL_child : TB := [(0, .aload_n 3, 1, 0), (1, .iconst 0, 1, 0), (2, .aload_n 0, 1, 0), (3, .iload_n 1, 1, 0), (4, .iload_n 2, 1, 0), (5, .invokevirtual 61, 3, 0), (8, .i2l, 1, 0), (9, .lastore, 1, 0), (10, .goto 11, 3, 21), (13, .astore 4, 2, 0), (15, .iconst 1, 1, 0), (16, .ireturn, 1, 0), (17, .astore 4, 2, 0), (19, .iconst 2, 1, 0), (20, .ireturn, 1, 0), (21, .iconst 0, 1, 0), (22, .ireturn, 1, 0)]
theorem tL_child_ok : tbOk mL_child.2.1 tL_child = true := by decide +kernel
theorem kL_child_0 : lkp tL_child 0 = some (.aload_n 3, 0) := rfl
theorem kL_child_1 : lkp tL_child 1 = some (.iconst 0, 0) := rfl
theorem kL_child_2 : lkp tL_child 2 = some (.aload_n 0, 0) := rfl
theorem kL_child_3 : lkp tL_child 3 = some (.iload_n 1, 0) := rfl
theorem kL_child_4 : lkp tL_child 4 = some (.iload_n 2, 0) := rfl
theorem kL_child_5 : lkp tL_child 5 = some (.invokevirtual 61, 0) := rfl
theorem kL_child_8 : lkp tL_child 8 = some (.i2l, 0) := rfl
theorem kL_child_9 : lkp tL_child 9 = some (.lastore, 0) := rfl
theorem kL_child_10 : lkp tL_child 10 = some (.goto 11, 21) := rfl
theorem kL_child_13 : lkp tL_child 13 = some (.astore 4, 0) := rfl
theorem kL_child_15 : lkp tL_child 15 = some (.iconst 1, 0) := rfl
theorem kL_child_16 : lkp tL_child 16 = some (.ireturn, 0) := rfl
theorem kL_child_17 : lkp tL_child 17 = some (.astore 4, 0) := rfl
theorem kL_child_19 : lkp tL_child 19 = some (.iconst 2, 0) := rfl
theorem kL_child_20 : lkp tL_child 20 = some (.ireturn, 0) := rfl
theorem kL_child_21 : lkp tL_child 21 = some (.iconst 0, 0) := rfl
theorem kL_child_22 : lkp tL_child 22 = some (.ireturn, 0) := rfl
theorem lL_child : Cond.methodLink RL 61 yX8_child ∈ wT := wAt_in (i := 826) (by decide +kernel)
def mL_choice : MI := (yL_choice, cL_choice, 5, (some .int))
def hL_choice : HT := [(0, 10, 13, 21), (0, 10, 17, 42)]
def tL_choice : TB := [(0, .aload_n 3, 1, 0), (1, .iconst 0, 1, 0), (2, .aload_n 0, 1, 0), (3, .iload_n 1, 1, 0), (4, .iload_n 2, 1, 0), (5, .invokevirtual 64, 3, 0), (8, .i2l, 1, 0), (9, .lastore, 1, 0), (10, .goto 11, 3, 21), (13, .astore 4, 2, 0), (15, .iconst 1, 1, 0), (16, .ireturn, 1, 0), (17, .astore 4, 2, 0), (19, .iconst 2, 1, 0), (20, .ireturn, 1, 0), (21, .iconst 0, 1, 0), (22, .ireturn, 1, 0)]
theorem tL_choice_ok : tbOk mL_choice.2.1 tL_choice = true := by decide +kernel
theorem kL_choice_0 : lkp tL_choice 0 = some (.aload_n 3, 0) := rfl
theorem kL_choice_1 : lkp tL_choice 1 = some (.iconst 0, 0) := rfl
theorem kL_choice_2 : lkp tL_choice 2 = some (.aload_n 0, 0) := rfl
theorem kL_choice_3 : lkp tL_choice 3 = some (.iload_n 1, 0) := rfl
theorem kL_choice_4 : lkp tL_choice 4 = some (.iload_n 2, 0) := rfl
theorem kL_choice_5 : lkp tL_choice 5 = some (.invokevirtual 64, 0) := rfl
theorem kL_choice_8 : lkp tL_choice 8 = some (.i2l, 0) := rfl
theorem kL_choice_9 : lkp tL_choice 9 = some (.lastore, 0) := rfl
theorem kL_choice_10 : lkp tL_choice 10 = some (.goto 11, 21) := rfl
theorem kL_choice_13 : lkp tL_choice 13 = some (.astore 4, 0) := rfl
theorem kL_choice_15 : lkp tL_choice 15 = some (.iconst 1, 0) := rfl
theorem kL_choice_16 : lkp tL_choice 16 = some (.ireturn, 0) := rfl
theorem kL_choice_17 : lkp tL_choice 17 = some (.astore 4, 0) := rfl
theorem kL_choice_19 : lkp tL_choice 19 = some (.iconst 2, 0) := rfl
theorem kL_choice_20 : lkp tL_choice 20 = some (.ireturn, 0) := rfl
theorem kL_choice_21 : lkp tL_choice 21 = some (.iconst 0, 0) := rfl
theorem kL_choice_22 : lkp tL_choice 22 = some (.ireturn, 0) := rfl
theorem lL_choice : Cond.methodLink RL 64 yX8_choice ∈ wT := wAt_in (i := 833) (by decide +kernel)
def mL_rank : MI := (yL_rank, cL_rank, 6, (some .int))
def hL_rank : HT := [(0, 12, 15, 21), (0, 12, 19, 13)]
def tL_rank : TB := [(0, .aload 4, 2, 0), (2, .iconst 0, 1, 0), (3, .aload_n 0, 1, 0), (4, .iload_n 1, 1, 0), (5, .iload_n 2, 1, 0), (6, .iload_n 3, 1, 0), (7, .invokevirtual 67, 3, 0), (10, .i2l, 1, 0), (11, .lastore, 1, 0), (12, .goto 11, 3, 23), (15, .astore 5, 2, 0), (17, .iconst 1, 1, 0), (18, .ireturn, 1, 0), (19, .astore 5, 2, 0), (21, .iconst 2, 1, 0), (22, .ireturn, 1, 0), (23, .iconst 0, 1, 0), (24, .ireturn, 1, 0)]
theorem tL_rank_ok : tbOk mL_rank.2.1 tL_rank = true := by decide +kernel
theorem kL_rank_0 : lkp tL_rank 0 = some (.aload 4, 0) := rfl
theorem kL_rank_2 : lkp tL_rank 2 = some (.iconst 0, 0) := rfl
theorem kL_rank_3 : lkp tL_rank 3 = some (.aload_n 0, 0) := rfl
theorem kL_rank_4 : lkp tL_rank 4 = some (.iload_n 1, 0) := rfl
theorem kL_rank_5 : lkp tL_rank 5 = some (.iload_n 2, 0) := rfl
theorem kL_rank_6 : lkp tL_rank 6 = some (.iload_n 3, 0) := rfl
theorem kL_rank_7 : lkp tL_rank 7 = some (.invokevirtual 67, 0) := rfl
theorem kL_rank_10 : lkp tL_rank 10 = some (.i2l, 0) := rfl
theorem kL_rank_11 : lkp tL_rank 11 = some (.lastore, 0) := rfl
theorem kL_rank_12 : lkp tL_rank 12 = some (.goto 11, 23) := rfl
theorem kL_rank_15 : lkp tL_rank 15 = some (.astore 5, 0) := rfl
theorem kL_rank_17 : lkp tL_rank 17 = some (.iconst 1, 0) := rfl
theorem kL_rank_18 : lkp tL_rank 18 = some (.ireturn, 0) := rfl
theorem kL_rank_19 : lkp tL_rank 19 = some (.astore 5, 0) := rfl
theorem kL_rank_21 : lkp tL_rank 21 = some (.iconst 2, 0) := rfl
theorem kL_rank_22 : lkp tL_rank 22 = some (.ireturn, 0) := rfl
theorem kL_rank_23 : lkp tL_rank 23 = some (.iconst 0, 0) := rfl
theorem kL_rank_24 : lkp tL_rank 24 = some (.ireturn, 0) := rfl
theorem lL_rank : Cond.methodLink RL 67 yX8_rank ∈ wT := wAt_in (i := 841) (by decide +kernel)
def mL_why : MI := (yL_why, cL_why, 5, (some .int))
def hL_why : HT := [(0, 10, 13, 21)]
def tL_why : TB := [(0, .aload_n 3, 1, 0), (1, .iconst 0, 1, 0), (2, .aload_n 0, 1, 0), (3, .iload_n 1, 1, 0), (4, .iload_n 2, 1, 0), (5, .invokevirtual 70, 3, 0), (8, .i2l, 1, 0), (9, .lastore, 1, 0), (10, .goto 7, 3, 17), (13, .astore 4, 2, 0), (15, .iconst 1, 1, 0), (16, .ireturn, 1, 0), (17, .iconst 0, 1, 0), (18, .ireturn, 1, 0)]
theorem tL_why_ok : tbOk mL_why.2.1 tL_why = true := by decide +kernel
theorem kL_why_0 : lkp tL_why 0 = some (.aload_n 3, 0) := rfl
theorem kL_why_1 : lkp tL_why 1 = some (.iconst 0, 0) := rfl
theorem kL_why_2 : lkp tL_why 2 = some (.aload_n 0, 0) := rfl
theorem kL_why_3 : lkp tL_why 3 = some (.iload_n 1, 0) := rfl
theorem kL_why_4 : lkp tL_why 4 = some (.iload_n 2, 0) := rfl
theorem kL_why_5 : lkp tL_why 5 = some (.invokevirtual 70, 0) := rfl
theorem kL_why_8 : lkp tL_why 8 = some (.i2l, 0) := rfl
theorem kL_why_9 : lkp tL_why 9 = some (.lastore, 0) := rfl
theorem kL_why_10 : lkp tL_why 10 = some (.goto 7, 17) := rfl
theorem kL_why_13 : lkp tL_why 13 = some (.astore 4, 0) := rfl
theorem kL_why_15 : lkp tL_why 15 = some (.iconst 1, 0) := rfl
theorem kL_why_16 : lkp tL_why 16 = some (.ireturn, 0) := rfl
theorem kL_why_17 : lkp tL_why 17 = some (.iconst 0, 0) := rfl
theorem kL_why_18 : lkp tL_why 18 = some (.ireturn, 0) := rfl
theorem lL_why : Cond.methodLink RL 70 yX8_why ∈ wT := wAt_in (i := 852) (by decide +kernel)
def mL_again : MI := (yL_again, cL_again, 4, (some .int))
def hL_again : HT := [(0, 9, 12, 21)]
def tL_again : TB := [(0, .aload_n 2, 1, 0), (1, .iconst 0, 1, 0), (2, .aload_n 0, 1, 0), (3, .iload_n 1, 1, 0), (4, .invokevirtual 73, 3, 0), (7, .i2l, 1, 0), (8, .lastore, 1, 0), (9, .goto 6, 3, 15), (12, .astore_n 3, 1, 0), (13, .iconst 1, 1, 0), (14, .ireturn, 1, 0), (15, .iconst 0, 1, 0), (16, .ireturn, 1, 0)]
theorem tL_again_ok : tbOk mL_again.2.1 tL_again = true := by decide +kernel
theorem kL_again_0 : lkp tL_again 0 = some (.aload_n 2, 0) := rfl
theorem kL_again_1 : lkp tL_again 1 = some (.iconst 0, 0) := rfl
theorem kL_again_2 : lkp tL_again 2 = some (.aload_n 0, 0) := rfl
theorem kL_again_3 : lkp tL_again 3 = some (.iload_n 1, 0) := rfl
theorem kL_again_4 : lkp tL_again 4 = some (.invokevirtual 73, 0) := rfl
theorem kL_again_7 : lkp tL_again 7 = some (.i2l, 0) := rfl
theorem kL_again_8 : lkp tL_again 8 = some (.lastore, 0) := rfl
theorem kL_again_9 : lkp tL_again 9 = some (.goto 6, 15) := rfl
theorem kL_again_12 : lkp tL_again 12 = some (.astore_n 3, 0) := rfl
theorem kL_again_13 : lkp tL_again 13 = some (.iconst 1, 0) := rfl
theorem kL_again_14 : lkp tL_again 14 = some (.ireturn, 0) := rfl
theorem kL_again_15 : lkp tL_again 15 = some (.iconst 0, 0) := rfl
theorem kL_again_16 : lkp tL_again 16 = some (.ireturn, 0) := rfl
theorem lL_again : Cond.methodLink RL 73 yX8_again ∈ wT := wAt_in (i := 863) (by decide +kernel)
def mL_withdraw : MI := (yL_withdraw, cL_withdraw, 4, (some .int))
def hL_withdraw : HT := [(0, 9, 12, 21), (0, 9, 15, 80)]
def tL_withdraw : TB := [(0, .aload_n 2, 1, 0), (1, .iconst 0, 1, 0), (2, .aload_n 0, 1, 0), (3, .iload_n 1, 1, 0), (4, .invokevirtual 77, 3, 0), (7, .i2l, 1, 0), (8, .lastore, 1, 0), (9, .goto 9, 3, 18), (12, .astore_n 3, 1, 0), (13, .iconst 1, 1, 0), (14, .ireturn, 1, 0), (15, .astore_n 3, 1, 0), (16, .iconst 2, 1, 0), (17, .ireturn, 1, 0), (18, .iconst 0, 1, 0), (19, .ireturn, 1, 0)]
theorem tL_withdraw_ok : tbOk mL_withdraw.2.1 tL_withdraw = true := by decide +kernel
theorem kL_withdraw_0 : lkp tL_withdraw 0 = some (.aload_n 2, 0) := rfl
theorem kL_withdraw_1 : lkp tL_withdraw 1 = some (.iconst 0, 0) := rfl
theorem kL_withdraw_2 : lkp tL_withdraw 2 = some (.aload_n 0, 0) := rfl
theorem kL_withdraw_3 : lkp tL_withdraw 3 = some (.iload_n 1, 0) := rfl
theorem kL_withdraw_4 : lkp tL_withdraw 4 = some (.invokevirtual 77, 0) := rfl
theorem kL_withdraw_7 : lkp tL_withdraw 7 = some (.i2l, 0) := rfl
theorem kL_withdraw_8 : lkp tL_withdraw 8 = some (.lastore, 0) := rfl
theorem kL_withdraw_9 : lkp tL_withdraw 9 = some (.goto 9, 18) := rfl
theorem kL_withdraw_12 : lkp tL_withdraw 12 = some (.astore_n 3, 0) := rfl
theorem kL_withdraw_13 : lkp tL_withdraw 13 = some (.iconst 1, 0) := rfl
theorem kL_withdraw_14 : lkp tL_withdraw 14 = some (.ireturn, 0) := rfl
theorem kL_withdraw_15 : lkp tL_withdraw 15 = some (.astore_n 3, 0) := rfl
theorem kL_withdraw_16 : lkp tL_withdraw 16 = some (.iconst 2, 0) := rfl
theorem kL_withdraw_17 : lkp tL_withdraw 17 = some (.ireturn, 0) := rfl
theorem kL_withdraw_18 : lkp tL_withdraw 18 = some (.iconst 0, 0) := rfl
theorem kL_withdraw_19 : lkp tL_withdraw 19 = some (.ireturn, 0) := rfl
theorem lL_withdraw : Cond.methodLink RL 77 yX8_withdraw ∈ wT := wAt_in (i := 871) (by decide +kernel)
def mL_appeal : MI := (yL_appeal, cL_appeal, 6, (some .int))
def hL_appeal : HT := [(0, 12, 15, 21), (0, 12, 19, 13), (0, 12, 23, 15)]
def tL_appeal : TB := [(0, .aload 4, 2, 0), (2, .iconst 0, 1, 0), (3, .aload_n 0, 1, 0), (4, .iload_n 1, 1, 0), (5, .iload_n 2, 1, 0), (6, .iload_n 3, 1, 0), (7, .invokevirtual 82, 3, 0), (10, .i2l, 1, 0), (11, .lastore, 1, 0), (12, .goto 15, 3, 27), (15, .astore 5, 2, 0), (17, .iconst 1, 1, 0), (18, .ireturn, 1, 0), (19, .astore 5, 2, 0), (21, .iconst 2, 1, 0), (22, .ireturn, 1, 0), (23, .astore 5, 2, 0), (25, .iconst 3, 1, 0), (26, .ireturn, 1, 0), (27, .iconst 0, 1, 0), (28, .ireturn, 1, 0)]
theorem tL_appeal_ok : tbOk mL_appeal.2.1 tL_appeal = true := by decide +kernel
theorem kL_appeal_0 : lkp tL_appeal 0 = some (.aload 4, 0) := rfl
theorem kL_appeal_2 : lkp tL_appeal 2 = some (.iconst 0, 0) := rfl
theorem kL_appeal_3 : lkp tL_appeal 3 = some (.aload_n 0, 0) := rfl
theorem kL_appeal_4 : lkp tL_appeal 4 = some (.iload_n 1, 0) := rfl
theorem kL_appeal_5 : lkp tL_appeal 5 = some (.iload_n 2, 0) := rfl
theorem kL_appeal_6 : lkp tL_appeal 6 = some (.iload_n 3, 0) := rfl
theorem kL_appeal_7 : lkp tL_appeal 7 = some (.invokevirtual 82, 0) := rfl
theorem kL_appeal_10 : lkp tL_appeal 10 = some (.i2l, 0) := rfl
theorem kL_appeal_11 : lkp tL_appeal 11 = some (.lastore, 0) := rfl
theorem kL_appeal_12 : lkp tL_appeal 12 = some (.goto 15, 27) := rfl
theorem kL_appeal_15 : lkp tL_appeal 15 = some (.astore 5, 0) := rfl
theorem kL_appeal_17 : lkp tL_appeal 17 = some (.iconst 1, 0) := rfl
theorem kL_appeal_18 : lkp tL_appeal 18 = some (.ireturn, 0) := rfl
theorem kL_appeal_19 : lkp tL_appeal 19 = some (.astore 5, 0) := rfl
theorem kL_appeal_21 : lkp tL_appeal 21 = some (.iconst 2, 0) := rfl
theorem kL_appeal_22 : lkp tL_appeal 22 = some (.ireturn, 0) := rfl
theorem kL_appeal_23 : lkp tL_appeal 23 = some (.astore 5, 0) := rfl
theorem kL_appeal_25 : lkp tL_appeal 25 = some (.iconst 3, 0) := rfl
theorem kL_appeal_26 : lkp tL_appeal 26 = some (.ireturn, 0) := rfl
theorem kL_appeal_27 : lkp tL_appeal 27 = some (.iconst 0, 0) := rfl
theorem kL_appeal_28 : lkp tL_appeal 28 = some (.ireturn, 0) := rfl
theorem lL_appeal : Cond.methodLink RL 82 yX8_appeal ∈ wT := wAt_in (i := 895) (by decide +kernel)
def mL_reason : MI := (yL_reason, cL_reason, 3, (some .int))
def hL_reason : HT := [(0, 8, 11, 42)]
def tL_reason : TB := [(0, .aload_n 1, 1, 0), (1, .iconst 0, 1, 0), (2, .aload_n 0, 1, 0), (3, .invokevirtual 85, 3, 0), (6, .i2l, 1, 0), (7, .lastore, 1, 0), (8, .goto 6, 3, 14), (11, .astore_n 2, 1, 0), (12, .iconst 1, 1, 0), (13, .ireturn, 1, 0), (14, .iconst 0, 1, 0), (15, .ireturn, 1, 0)]
theorem tL_reason_ok : tbOk mL_reason.2.1 tL_reason = true := by decide +kernel
theorem kL_reason_0 : lkp tL_reason 0 = some (.aload_n 1, 0) := rfl
theorem kL_reason_1 : lkp tL_reason 1 = some (.iconst 0, 0) := rfl
theorem kL_reason_2 : lkp tL_reason 2 = some (.aload_n 0, 0) := rfl
theorem kL_reason_3 : lkp tL_reason 3 = some (.invokevirtual 85, 0) := rfl
theorem kL_reason_6 : lkp tL_reason 6 = some (.i2l, 0) := rfl
theorem kL_reason_7 : lkp tL_reason 7 = some (.lastore, 0) := rfl
theorem kL_reason_8 : lkp tL_reason 8 = some (.goto 6, 14) := rfl
theorem kL_reason_11 : lkp tL_reason 11 = some (.astore_n 2, 0) := rfl
theorem kL_reason_12 : lkp tL_reason 12 = some (.iconst 1, 0) := rfl
theorem kL_reason_13 : lkp tL_reason 13 = some (.ireturn, 0) := rfl
theorem kL_reason_14 : lkp tL_reason 14 = some (.iconst 0, 0) := rfl
theorem kL_reason_15 : lkp tL_reason 15 = some (.ireturn, 0) := rfl
theorem lL_reason : Cond.methodLink RL 85 yX8_reason ∈ wT := wAt_in (i := 908) (by decide +kernel)
def mL_entry : MI := (yL_entry, cL_entry, 5, (some .int))
def hL_entry : HT := [(0, 10, 13, 42), (0, 10, 17, 13)]
def tL_entry : TB := [(0, .aload_n 3, 1, 0), (1, .iconst 0, 1, 0), (2, .aload_n 0, 1, 0), (3, .iload_n 1, 1, 0), (4, .iload_n 2, 1, 0), (5, .invokevirtual 88, 3, 0), (8, .i2l, 1, 0), (9, .lastore, 1, 0), (10, .goto 11, 3, 21), (13, .astore 4, 2, 0), (15, .iconst 1, 1, 0), (16, .ireturn, 1, 0), (17, .astore 4, 2, 0), (19, .iconst 2, 1, 0), (20, .ireturn, 1, 0), (21, .iconst 0, 1, 0), (22, .ireturn, 1, 0)]
theorem tL_entry_ok : tbOk mL_entry.2.1 tL_entry = true := by decide +kernel
theorem kL_entry_0 : lkp tL_entry 0 = some (.aload_n 3, 0) := rfl
theorem kL_entry_1 : lkp tL_entry 1 = some (.iconst 0, 0) := rfl
theorem kL_entry_2 : lkp tL_entry 2 = some (.aload_n 0, 0) := rfl
theorem kL_entry_3 : lkp tL_entry 3 = some (.iload_n 1, 0) := rfl
theorem kL_entry_4 : lkp tL_entry 4 = some (.iload_n 2, 0) := rfl
theorem kL_entry_5 : lkp tL_entry 5 = some (.invokevirtual 88, 0) := rfl
theorem kL_entry_8 : lkp tL_entry 8 = some (.i2l, 0) := rfl
theorem kL_entry_9 : lkp tL_entry 9 = some (.lastore, 0) := rfl
theorem kL_entry_10 : lkp tL_entry 10 = some (.goto 11, 21) := rfl
theorem kL_entry_13 : lkp tL_entry 13 = some (.astore 4, 0) := rfl
theorem kL_entry_15 : lkp tL_entry 15 = some (.iconst 1, 0) := rfl
theorem kL_entry_16 : lkp tL_entry 16 = some (.ireturn, 0) := rfl
theorem kL_entry_17 : lkp tL_entry 17 = some (.astore 4, 0) := rfl
theorem kL_entry_19 : lkp tL_entry 19 = some (.iconst 2, 0) := rfl
theorem kL_entry_20 : lkp tL_entry 20 = some (.ireturn, 0) := rfl
theorem kL_entry_21 : lkp tL_entry 21 = some (.iconst 0, 0) := rfl
theorem kL_entry_22 : lkp tL_entry 22 = some (.ireturn, 0) := rfl
theorem lL_entry : Cond.methodLink RL 88 yX8_entry ∈ wT := wAt_in (i := 916) (by decide +kernel)
def mL_account : MI := (yL_account, cL_account, 4, (some .int))
def hL_account : HT := [(0, 9, 12, 13)]
def tL_account : TB := [(0, .aload_n 2, 1, 0), (1, .iconst 0, 1, 0), (2, .aload_n 0, 1, 0), (3, .iload_n 1, 1, 0), (4, .invokevirtual 91, 3, 0), (7, .i2l, 1, 0), (8, .lastore, 1, 0), (9, .goto 6, 3, 15), (12, .astore_n 3, 1, 0), (13, .iconst 1, 1, 0), (14, .ireturn, 1, 0), (15, .iconst 0, 1, 0), (16, .ireturn, 1, 0)]
theorem tL_account_ok : tbOk mL_account.2.1 tL_account = true := by decide +kernel
theorem kL_account_0 : lkp tL_account 0 = some (.aload_n 2, 0) := rfl
theorem kL_account_1 : lkp tL_account 1 = some (.iconst 0, 0) := rfl
theorem kL_account_2 : lkp tL_account 2 = some (.aload_n 0, 0) := rfl
theorem kL_account_3 : lkp tL_account 3 = some (.iload_n 1, 0) := rfl
theorem kL_account_4 : lkp tL_account 4 = some (.invokevirtual 91, 0) := rfl
theorem kL_account_7 : lkp tL_account 7 = some (.i2l, 0) := rfl
theorem kL_account_8 : lkp tL_account 8 = some (.lastore, 0) := rfl
theorem kL_account_9 : lkp tL_account 9 = some (.goto 6, 15) := rfl
theorem kL_account_12 : lkp tL_account 12 = some (.astore_n 3, 0) := rfl
theorem kL_account_13 : lkp tL_account 13 = some (.iconst 1, 0) := rfl
theorem kL_account_14 : lkp tL_account 14 = some (.ireturn, 0) := rfl
theorem kL_account_15 : lkp tL_account 15 = some (.iconst 0, 0) := rfl
theorem kL_account_16 : lkp tL_account 16 = some (.ireturn, 0) := rfl
theorem lL_account : Cond.methodLink RL 91 yX8_account ∈ wT := wAt_in (i := 925) (by decide +kernel)
def mL_feed : MI := (yL_feed, cL_feed, 4, (some .int))
def hL_feed : HT := [(0, 9, 12, 15)]
def tL_feed : TB := [(0, .aload_n 2, 1, 0), (1, .iconst 0, 1, 0), (2, .aload_n 0, 1, 0), (3, .iload_n 1, 1, 0), (4, .invokevirtual 100, 3, 0), (7, .i2l, 1, 0), (8, .lastore, 1, 0), (9, .goto 6, 3, 15), (12, .astore_n 3, 1, 0), (13, .iconst 1, 1, 0), (14, .ireturn, 1, 0), (15, .iconst 0, 1, 0), (16, .ireturn, 1, 0)]
theorem tL_feed_ok : tbOk mL_feed.2.1 tL_feed = true := by decide +kernel
theorem kL_feed_0 : lkp tL_feed 0 = some (.aload_n 2, 0) := rfl
theorem kL_feed_1 : lkp tL_feed 1 = some (.iconst 0, 0) := rfl
theorem kL_feed_2 : lkp tL_feed 2 = some (.aload_n 0, 0) := rfl
theorem kL_feed_3 : lkp tL_feed 3 = some (.iload_n 1, 0) := rfl
theorem kL_feed_4 : lkp tL_feed 4 = some (.invokevirtual 100, 0) := rfl
theorem kL_feed_7 : lkp tL_feed 7 = some (.i2l, 0) := rfl
theorem kL_feed_8 : lkp tL_feed 8 = some (.lastore, 0) := rfl
theorem kL_feed_9 : lkp tL_feed 9 = some (.goto 6, 15) := rfl
theorem kL_feed_12 : lkp tL_feed 12 = some (.astore_n 3, 0) := rfl
theorem kL_feed_13 : lkp tL_feed 13 = some (.iconst 1, 0) := rfl
theorem kL_feed_14 : lkp tL_feed 14 = some (.ireturn, 0) := rfl
theorem kL_feed_15 : lkp tL_feed 15 = some (.iconst 0, 0) := rfl
theorem kL_feed_16 : lkp tL_feed 16 = some (.ireturn, 0) := rfl
theorem lL_feed : Cond.methodLink RL 100 yX8_feed ∈ wT := wAt_in (i := 977) (by decide +kernel)
def mL_errorPosition : MI := (yL_errorPosition, cL_errorPosition, 3, (some .int))
def hL_errorPosition : HT := [(0, 8, 11, 42)]
def tL_errorPosition : TB := [(0, .aload_n 1, 1, 0), (1, .iconst 0, 1, 0), (2, .aload_n 0, 1, 0), (3, .invokevirtual 104, 3, 0), (6, .i2l, 1, 0), (7, .lastore, 1, 0), (8, .goto 6, 3, 14), (11, .astore_n 2, 1, 0), (12, .iconst 1, 1, 0), (13, .ireturn, 1, 0), (14, .iconst 0, 1, 0), (15, .ireturn, 1, 0)]
theorem tL_errorPosition_ok : tbOk mL_errorPosition.2.1 tL_errorPosition = true := by decide +kernel
theorem kL_errorPosition_0 : lkp tL_errorPosition 0 = some (.aload_n 1, 0) := rfl
theorem kL_errorPosition_1 : lkp tL_errorPosition 1 = some (.iconst 0, 0) := rfl
theorem kL_errorPosition_2 : lkp tL_errorPosition 2 = some (.aload_n 0, 0) := rfl
theorem kL_errorPosition_3 : lkp tL_errorPosition 3 = some (.invokevirtual 104, 0) := rfl
theorem kL_errorPosition_6 : lkp tL_errorPosition 6 = some (.i2l, 0) := rfl
theorem kL_errorPosition_7 : lkp tL_errorPosition 7 = some (.lastore, 0) := rfl
theorem kL_errorPosition_8 : lkp tL_errorPosition 8 = some (.goto 6, 14) := rfl
theorem kL_errorPosition_11 : lkp tL_errorPosition 11 = some (.astore_n 2, 0) := rfl
theorem kL_errorPosition_12 : lkp tL_errorPosition 12 = some (.iconst 1, 0) := rfl
theorem kL_errorPosition_13 : lkp tL_errorPosition 13 = some (.ireturn, 0) := rfl
theorem kL_errorPosition_14 : lkp tL_errorPosition 14 = some (.iconst 0, 0) := rfl
theorem kL_errorPosition_15 : lkp tL_errorPosition 15 = some (.ireturn, 0) := rfl
theorem lL_errorPosition : Cond.methodLink RL 104 yX8_errorPosition ∈ wT := wAt_in (i := 985) (by decide +kernel)
def mL_undo : MI := (yL_undo, cL_undo, 3, (some .int))
def hL_undo : HT := [(0, 8, 11, 15)]
def tL_undo : TB := [(0, .aload_n 1, 1, 0), (1, .iconst 0, 1, 0), (2, .aload_n 0, 1, 0), (3, .invokevirtual 107, 3, 0), (6, .i2l, 1, 0), (7, .lastore, 1, 0), (8, .goto 6, 3, 14), (11, .astore_n 2, 1, 0), (12, .iconst 1, 1, 0), (13, .ireturn, 1, 0), (14, .iconst 0, 1, 0), (15, .ireturn, 1, 0)]
theorem tL_undo_ok : tbOk mL_undo.2.1 tL_undo = true := by decide +kernel
theorem kL_undo_0 : lkp tL_undo 0 = some (.aload_n 1, 0) := rfl
theorem kL_undo_1 : lkp tL_undo 1 = some (.iconst 0, 0) := rfl
theorem kL_undo_2 : lkp tL_undo 2 = some (.aload_n 0, 0) := rfl
theorem kL_undo_3 : lkp tL_undo 3 = some (.invokevirtual 107, 0) := rfl
theorem kL_undo_6 : lkp tL_undo 6 = some (.i2l, 0) := rfl
theorem kL_undo_7 : lkp tL_undo 7 = some (.lastore, 0) := rfl
theorem kL_undo_8 : lkp tL_undo 8 = some (.goto 6, 14) := rfl
theorem kL_undo_11 : lkp tL_undo 11 = some (.astore_n 2, 0) := rfl
theorem kL_undo_12 : lkp tL_undo 12 = some (.iconst 1, 0) := rfl
theorem kL_undo_13 : lkp tL_undo 13 = some (.ireturn, 0) := rfl
theorem kL_undo_14 : lkp tL_undo 14 = some (.iconst 0, 0) := rfl
theorem kL_undo_15 : lkp tL_undo 15 = some (.ireturn, 0) := rfl
theorem lL_undo : Cond.methodLink RL 107 yX8_undo ∈ wT := wAt_in (i := 993) (by decide +kernel)
def mL_restore : MI := (yL_restore, cL_restore, 3, (some .int))
def hL_restore : HT := [(0, 8, 11, 15)]
def tL_restore : TB := [(0, .aload_n 1, 1, 0), (1, .iconst 0, 1, 0), (2, .aload_n 0, 1, 0), (3, .invokevirtual 110, 3, 0), (6, .i2l, 1, 0), (7, .lastore, 1, 0), (8, .goto 6, 3, 14), (11, .astore_n 2, 1, 0), (12, .iconst 1, 1, 0), (13, .ireturn, 1, 0), (14, .iconst 0, 1, 0), (15, .ireturn, 1, 0)]
theorem tL_restore_ok : tbOk mL_restore.2.1 tL_restore = true := by decide +kernel
theorem kL_restore_0 : lkp tL_restore 0 = some (.aload_n 1, 0) := rfl
theorem kL_restore_1 : lkp tL_restore 1 = some (.iconst 0, 0) := rfl
theorem kL_restore_2 : lkp tL_restore 2 = some (.aload_n 0, 0) := rfl
theorem kL_restore_3 : lkp tL_restore 3 = some (.invokevirtual 110, 0) := rfl
theorem kL_restore_6 : lkp tL_restore 6 = some (.i2l, 0) := rfl
theorem kL_restore_7 : lkp tL_restore 7 = some (.lastore, 0) := rfl
theorem kL_restore_8 : lkp tL_restore 8 = some (.goto 6, 14) := rfl
theorem kL_restore_11 : lkp tL_restore 11 = some (.astore_n 2, 0) := rfl
theorem kL_restore_12 : lkp tL_restore 12 = some (.iconst 1, 0) := rfl
theorem kL_restore_13 : lkp tL_restore 13 = some (.ireturn, 0) := rfl
theorem kL_restore_14 : lkp tL_restore 14 = some (.iconst 0, 0) := rfl
theorem kL_restore_15 : lkp tL_restore 15 = some (.ireturn, 0) := rfl
theorem lL_restore : Cond.methodLink RL 110 yX8_restore ∈ wT := wAt_in (i := 1005) (by decide +kernel)
def mL_setPupils : MI := (yL_setPupils, cL_setPupils, 6, (some .int))
def hL_setPupils : HT := [(0, 19, 22, 21)]
def tL_setPupils : TB := [(0, .aload 4, 2, 0), (2, .iconst 0, 1, 0), (3, .aload_n 0, 1, 0), (4, .iload_n 1, 1, 0), (5, .iload_n 2, 1, 0), (6, .iload_n 3, 1, 0), (7, .invokevirtual 32, 3, 0), (10, .ifCond .eq 7, 3, 17), (13, .lconst 1, 1, 0), (14, .goto 4, 3, 18), (17, .lconst 0, 1, 0), (18, .lastore, 1, 0), (19, .goto 7, 3, 26), (22, .astore 5, 2, 0), (24, .iconst 1, 1, 0), (25, .ireturn, 1, 0), (26, .iconst 0, 1, 0), (27, .ireturn, 1, 0)]
theorem tL_setPupils_ok : tbOk mL_setPupils.2.1 tL_setPupils = true := by decide +kernel
theorem kL_setPupils_0 : lkp tL_setPupils 0 = some (.aload 4, 0) := rfl
theorem kL_setPupils_2 : lkp tL_setPupils 2 = some (.iconst 0, 0) := rfl
theorem kL_setPupils_3 : lkp tL_setPupils 3 = some (.aload_n 0, 0) := rfl
theorem kL_setPupils_4 : lkp tL_setPupils 4 = some (.iload_n 1, 0) := rfl
theorem kL_setPupils_5 : lkp tL_setPupils 5 = some (.iload_n 2, 0) := rfl
theorem kL_setPupils_6 : lkp tL_setPupils 6 = some (.iload_n 3, 0) := rfl
theorem kL_setPupils_7 : lkp tL_setPupils 7 = some (.invokevirtual 32, 0) := rfl
theorem kL_setPupils_10 : lkp tL_setPupils 10 = some (.ifCond .eq 7, 17) := rfl
theorem kL_setPupils_13 : lkp tL_setPupils 13 = some (.lconst 1, 0) := rfl
theorem kL_setPupils_14 : lkp tL_setPupils 14 = some (.goto 4, 18) := rfl
theorem kL_setPupils_17 : lkp tL_setPupils 17 = some (.lconst 0, 0) := rfl
theorem kL_setPupils_18 : lkp tL_setPupils 18 = some (.lastore, 0) := rfl
theorem kL_setPupils_19 : lkp tL_setPupils 19 = some (.goto 7, 26) := rfl
theorem kL_setPupils_22 : lkp tL_setPupils 22 = some (.astore 5, 0) := rfl
theorem kL_setPupils_24 : lkp tL_setPupils 24 = some (.iconst 1, 0) := rfl
theorem kL_setPupils_25 : lkp tL_setPupils 25 = some (.ireturn, 0) := rfl
theorem kL_setPupils_26 : lkp tL_setPupils 26 = some (.iconst 0, 0) := rfl
theorem kL_setPupils_27 : lkp tL_setPupils 27 = some (.ireturn, 0) := rfl
theorem lL_setPupils : Cond.methodLink RL 32 yX8_setPupils ∈ wT := wAt_in (i := 675) (by decide +kernel)
def mL_meanDistance : MI := (yL_meanDistance, cL_meanDistance, 3, (some .int))
def hL_meanDistance : HT := [(0, 7, 10, 98)]
def tL_meanDistance : TB := [(0, .aload_n 1, 1, 0), (1, .iconst 0, 1, 0), (2, .aload_n 0, 1, 0), (3, .invokevirtual 94, 3, 0), (6, .dastore, 1, 0), (7, .goto 6, 3, 13), (10, .astore_n 2, 1, 0), (11, .iconst 1, 1, 0), (12, .ireturn, 1, 0), (13, .iconst 0, 1, 0), (14, .ireturn, 1, 0)]
theorem tL_meanDistance_ok : tbOk mL_meanDistance.2.1 tL_meanDistance = true := by decide +kernel
theorem kL_meanDistance_0 : lkp tL_meanDistance 0 = some (.aload_n 1, 0) := rfl
theorem kL_meanDistance_1 : lkp tL_meanDistance 1 = some (.iconst 0, 0) := rfl
theorem kL_meanDistance_2 : lkp tL_meanDistance 2 = some (.aload_n 0, 0) := rfl
theorem kL_meanDistance_3 : lkp tL_meanDistance 3 = some (.invokevirtual 94, 0) := rfl
theorem kL_meanDistance_6 : lkp tL_meanDistance 6 = some (.dastore, 0) := rfl
theorem kL_meanDistance_7 : lkp tL_meanDistance 7 = some (.goto 6, 13) := rfl
theorem kL_meanDistance_10 : lkp tL_meanDistance 10 = some (.astore_n 2, 0) := rfl
theorem kL_meanDistance_11 : lkp tL_meanDistance 11 = some (.iconst 1, 0) := rfl
theorem kL_meanDistance_12 : lkp tL_meanDistance 12 = some (.ireturn, 0) := rfl
theorem kL_meanDistance_13 : lkp tL_meanDistance 13 = some (.iconst 0, 0) := rfl
theorem kL_meanDistance_14 : lkp tL_meanDistance 14 = some (.ireturn, 0) := rfl
theorem lL_meanDistance : Cond.methodLink RL 94 yX8_meanDistance ∈ wT := wAt_in (i := 967) (by decide +kernel)
theorem sL_addSchool : SOk mL_addSchool hL_addSchool 6 117 := SOk.of 484 485 486 50 (by decide +kernel)
theorem sL_setSeats : SOk mL_setSeats hL_setSeats 4 126 := SOk.of 588 589 590 50 (by decide +kernel)
theorem sL_setRadius : SOk mL_setRadius hL_setRadius 4 130 := SOk.of 651 652 653 50 (by decide +kernel)
theorem sL_setRule : SOk mL_setRule hL_setRule 4 133 := SOk.of 658 659 660 50 (by decide +kernel)
theorem sL_setLimit : SOk mL_setLimit hL_setLimit 4 136 := SOk.of 665 666 667 50 (by decide +kernel)
theorem sL_school : SOk mL_school hL_school 4 143 := SOk.of 681 682 683 50 (by decide +kernel)
theorem sL_held : SOk mL_held hL_held 4 146 := SOk.of 698 699 700 50 (by decide +kernel)
theorem sL_waiting : SOk mL_waiting hL_waiting 4 149 := SOk.of 740 741 742 50 (by decide +kernel)
theorem sL_addChild : SOk mL_addChild hL_addChild 6 152 := SOk.of 749 750 751 50 (by decide +kernel)
theorem sL_readChild : SOk mL_readChild hL_readChild 2 155 := SOk.of 765 766 767 50 (by decide +kernel)
theorem sL_choose : SOk mL_choose hL_choose 5 159 := SOk.of 802 803 804 50 (by decide +kernel)
theorem sL_setNeed : SOk mL_setNeed hL_setNeed 4 163 := SOk.of 816 817 818 50 (by decide +kernel)
theorem sL_child : SOk mL_child hL_child 4 166 := SOk.of 823 824 825 50 (by decide +kernel)
theorem sL_choice : SOk mL_choice hL_choice 4 169 := SOk.of 830 831 832 50 (by decide +kernel)
theorem sL_rank : SOk mL_rank hL_rank 5 172 := SOk.of 838 839 840 50 (by decide +kernel)
theorem sL_why : SOk mL_why hL_why 4 175 := SOk.of 849 850 851 50 (by decide +kernel)
theorem sL_again : SOk mL_again hL_again 3 182 := SOk.of 860 861 862 50 (by decide +kernel)
theorem sL_withdraw : SOk mL_withdraw hL_withdraw 3 190 := SOk.of 867 868 869 50 (by decide +kernel)
theorem sL_appeal : SOk mL_appeal hL_appeal 5 193 := SOk.of 892 893 894 50 (by decide +kernel)
theorem sL_reason : SOk mL_reason hL_reason 2 196 := SOk.of 905 906 907 50 (by decide +kernel)
theorem sL_entry : SOk mL_entry hL_entry 4 199 := SOk.of 913 914 915 50 (by decide +kernel)
theorem sL_account : SOk mL_account hL_account 3 202 := SOk.of 922 923 924 50 (by decide +kernel)
theorem sL_feed : SOk mL_feed hL_feed 3 209 := SOk.of 974 975 976 50 (by decide +kernel)
theorem sL_errorPosition : SOk mL_errorPosition hL_errorPosition 2 213 := SOk.of 982 983 984 50 (by decide +kernel)
theorem sL_undo : SOk mL_undo hL_undo 2 216 := SOk.of 990 991 992 50 (by decide +kernel)
theorem sL_restore : SOk mL_restore hL_restore 2 223 := SOk.of 1002 1003 1004 50 (by decide +kernel)
theorem sL_setPupils : SOk mL_setPupils hL_setPupils 5 139 := SOk.of 672 673 674 50 (by decide +kernel)
theorem sL_meanDistance : SOk mL_meanDistance hL_meanDistance 2 205 := SOk.of 950 951 952 50 (by decide +kernel)
