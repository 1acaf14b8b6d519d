/-! ===== printed by program: the instruction at a place ===== -/
theorem kX0_init_0 : lkp tX0_init 0 = some (.aload_n 0, 0) := rfl
theorem kX0_init_1 : lkp tX0_init 1 = some (.invokespecial 3, 0) := rfl
theorem kX0_init_4 : lkp tX0_init 4 = some (.aload_n 0, 0) := rfl
theorem kX0_init_5 : lkp tX0_init 5 = some (.bipush 24, 0) := rfl
theorem kX0_init_7 : lkp tX0_init 7 = some (.newarray .int, 0) := rfl
theorem kX0_init_9 : lkp tX0_init 9 = some (.putfield 9, 0) := rfl
theorem kX0_init_12 : lkp tX0_init 12 = some (.aload_n 0, 0) := rfl
theorem kX0_init_13 : lkp tX0_init 13 = some (.bipush 24, 0) := rfl
theorem kX0_init_15 : lkp tX0_init 15 = some (.newarray .int, 0) := rfl
theorem kX0_init_17 : lkp tX0_init 17 = some (.putfield 15, 0) := rfl
theorem kX0_init_20 : lkp tX0_init 20 = some (.aload_n 0, 0) := rfl
theorem kX0_init_21 : lkp tX0_init 21 = some (.bipush 24, 0) := rfl
theorem kX0_init_23 : lkp tX0_init 23 = some (.newarray .int, 0) := rfl
theorem kX0_init_25 : lkp tX0_init 25 = some (.putfield 18, 0) := rfl
theorem kX0_init_28 : lkp tX0_init 28 = some (.aload_n 0, 0) := rfl
theorem kX0_init_29 : lkp tX0_init 29 = some (.sipush 144, 0) := rfl
theorem kX0_init_32 : lkp tX0_init 32 = some (.newarray .int, 0) := rfl
theorem kX0_init_34 : lkp tX0_init 34 = some (.putfield 21, 0) := rfl
theorem kX0_init_37 : lkp tX0_init 37 = some (.return_, 0) := rfl
theorem kX0_runRounds_0 : lkp tX0_runRounds 0 = some (.iconst 0, 0) := rfl
theorem kX0_runRounds_1 : lkp tX0_runRounds 1 = some (.istore_n 3, 0) := rfl
theorem kX0_runRounds_2 : lkp tX0_runRounds 2 = some (.iload_n 3, 0) := rfl
theorem kX0_runRounds_3 : lkp tX0_runRounds 3 = some (.bipush 24, 0) := rfl
theorem kX0_runRounds_5 : lkp tX0_runRounds 5 = some (.if_icmp .ge 16, 21) := rfl
theorem kX0_runRounds_8 : lkp tX0_runRounds 8 = some (.aload_n 0, 0) := rfl
theorem kX0_runRounds_9 : lkp tX0_runRounds 9 = some (.getfield 15, 0) := rfl
theorem kX0_runRounds_12 : lkp tX0_runRounds 12 = some (.iload_n 3, 0) := rfl
theorem kX0_runRounds_13 : lkp tX0_runRounds 13 = some (.iconst 0, 0) := rfl
theorem kX0_runRounds_14 : lkp tX0_runRounds 14 = some (.iastore, 0) := rfl
theorem kX0_runRounds_15 : lkp tX0_runRounds 15 = some (.iinc 3 1, 0) := rfl
theorem kX0_runRounds_18 : lkp tX0_runRounds 18 = some (.goto (-16), 2) := rfl
theorem kX0_runRounds_21 : lkp tX0_runRounds 21 = some (.iconst 1, 0) := rfl
theorem kX0_runRounds_22 : lkp tX0_runRounds 22 = some (.istore_n 3, 0) := rfl
theorem kX0_runRounds_23 : lkp tX0_runRounds 23 = some (.iload_n 3, 0) := rfl
theorem kX0_runRounds_24 : lkp tX0_runRounds 24 = some (.ldc 24, 0) := rfl
theorem kX0_runRounds_26 : lkp tX0_runRounds 26 = some (.if_icmp .ge 30, 56) := rfl
theorem kX0_runRounds_29 : lkp tX0_runRounds 29 = some (.aload_n 0, 0) := rfl
theorem kX0_runRounds_30 : lkp tX0_runRounds 30 = some (.aload_n 1, 0) := rfl
theorem kX0_runRounds_31 : lkp tX0_runRounds 31 = some (.invokevirtual 25, 0) := rfl
theorem kX0_runRounds_34 : lkp tX0_runRounds 34 = some (.aload_n 0, 0) := rfl
theorem kX0_runRounds_35 : lkp tX0_runRounds 35 = some (.aload_n 1, 0) := rfl
theorem kX0_runRounds_36 : lkp tX0_runRounds 36 = some (.iload_n 2, 0) := rfl
theorem kX0_runRounds_37 : lkp tX0_runRounds 37 = some (.invokevirtual 29, 0) := rfl
theorem kX0_runRounds_40 : lkp tX0_runRounds 40 = some (.aload_n 0, 0) := rfl
theorem kX0_runRounds_41 : lkp tX0_runRounds 41 = some (.aload_n 1, 0) := rfl
theorem kX0_runRounds_42 : lkp tX0_runRounds 42 = some (.invokevirtual 33, 0) := rfl
theorem kX0_runRounds_45 : lkp tX0_runRounds 45 = some (.ifCond .ne 5, 50) := rfl
theorem kX0_runRounds_48 : lkp tX0_runRounds 48 = some (.iload_n 3, 0) := rfl
theorem kX0_runRounds_49 : lkp tX0_runRounds 49 = some (.ireturn, 0) := rfl
theorem kX0_runRounds_50 : lkp tX0_runRounds 50 = some (.iinc 3 1, 0) := rfl
theorem kX0_runRounds_53 : lkp tX0_runRounds 53 = some (.goto (-30), 23) := rfl
theorem kX0_runRounds_56 : lkp tX0_runRounds 56 = some (.ldc 24, 0) := rfl
theorem kX0_runRounds_58 : lkp tX0_runRounds 58 = some (.ireturn, 0) := rfl
theorem kX0_runRound_0 : lkp tX0_runRound 0 = some (.iconst 0, 0) := rfl
theorem kX0_runRound_1 : lkp tX0_runRound 1 = some (.istore_n 3, 0) := rfl
theorem kX0_runRound_2 : lkp tX0_runRound 2 = some (.iload_n 3, 0) := rfl
theorem kX0_runRound_3 : lkp tX0_runRound 3 = some (.ldc 24, 0) := rfl
theorem kX0_runRound_5 : lkp tX0_runRound 5 = some (.if_icmp .ge 64, 69) := rfl
theorem kX0_runRound_8 : lkp tX0_runRound 8 = some (.aload_n 0, 0) := rfl
theorem kX0_runRound_9 : lkp tX0_runRound 9 = some (.aload_n 1, 0) := rfl
theorem kX0_runRound_10 : lkp tX0_runRound 10 = some (.iload_n 2, 0) := rfl
theorem kX0_runRound_11 : lkp tX0_runRound 11 = some (.invokevirtual 37, 0) := rfl
theorem kX0_runRound_14 : lkp tX0_runRound 14 = some (.istore 4, 0) := rfl
theorem kX0_runRound_16 : lkp tX0_runRound 16 = some (.iload 4, 0) := rfl
theorem kX0_runRound_18 : lkp tX0_runRound 18 = some (.iconst (-1), 0) := rfl
theorem kX0_runRound_19 : lkp tX0_runRound 19 = some (.if_icmp .ne 4, 23) := rfl
theorem kX0_runRound_22 : lkp tX0_runRound 22 = some (.return_, 0) := rfl
theorem kX0_runRound_23 : lkp tX0_runRound 23 = some (.aload_n 1, 0) := rfl
theorem kX0_runRound_24 : lkp tX0_runRound 24 = some (.getfield 41, 0) := rfl
theorem kX0_runRound_27 : lkp tX0_runRound 27 = some (.iload 4, 0) := rfl
theorem kX0_runRound_29 : lkp tX0_runRound 29 = some (.aaload, 0) := rfl
theorem kX0_runRound_30 : lkp tX0_runRound 30 = some (.getfield 47, 0) := rfl
theorem kX0_runRound_33 : lkp tX0_runRound 33 = some (.aload_n 0, 0) := rfl
theorem kX0_runRound_34 : lkp tX0_runRound 34 = some (.getfield 18, 0) := rfl
theorem kX0_runRound_37 : lkp tX0_runRound 37 = some (.iload 4, 0) := rfl
theorem kX0_runRound_39 : lkp tX0_runRound 39 = some (.iaload, 0) := rfl
theorem kX0_runRound_40 : lkp tX0_runRound 40 = some (.iaload, 0) := rfl
theorem kX0_runRound_41 : lkp tX0_runRound 41 = some (.istore 5, 0) := rfl
theorem kX0_runRound_43 : lkp tX0_runRound 43 = some (.aload_n 0, 0) := rfl
theorem kX0_runRound_44 : lkp tX0_runRound 44 = some (.getfield 18, 0) := rfl
theorem kX0_runRound_47 : lkp tX0_runRound 47 = some (.iload 4, 0) := rfl
theorem kX0_runRound_49 : lkp tX0_runRound 49 = some (.dup2, 0) := rfl
theorem kX0_runRound_50 : lkp tX0_runRound 50 = some (.iaload, 0) := rfl
theorem kX0_runRound_51 : lkp tX0_runRound 51 = some (.iconst 1, 0) := rfl
theorem kX0_runRound_52 : lkp tX0_runRound 52 = some (.iadd, 0) := rfl
theorem kX0_runRound_53 : lkp tX0_runRound 53 = some (.iastore, 0) := rfl
theorem kX0_runRound_54 : lkp tX0_runRound 54 = some (.aload_n 0, 0) := rfl
theorem kX0_runRound_55 : lkp tX0_runRound 55 = some (.aload_n 1, 0) := rfl
theorem kX0_runRound_56 : lkp tX0_runRound 56 = some (.iload 4, 0) := rfl
theorem kX0_runRound_58 : lkp tX0_runRound 58 = some (.iload 5, 0) := rfl
theorem kX0_runRound_60 : lkp tX0_runRound 60 = some (.invokevirtual 52, 0) := rfl
theorem kX0_runRound_63 : lkp tX0_runRound 63 = some (.iinc 3 1, 0) := rfl
theorem kX0_runRound_66 : lkp tX0_runRound 66 = some (.goto (-64), 2) := rfl
theorem kX0_runRound_69 : lkp tX0_runRound 69 = some (.return_, 0) := rfl
theorem kX0_beginRound_0 : lkp tX0_beginRound 0 = some (.iconst 0, 0) := rfl
theorem kX0_beginRound_1 : lkp tX0_beginRound 1 = some (.istore_n 2, 0) := rfl
theorem kX0_beginRound_2 : lkp tX0_beginRound 2 = some (.iload_n 2, 0) := rfl
theorem kX0_beginRound_3 : lkp tX0_beginRound 3 = some (.aload_n 1, 0) := rfl
theorem kX0_beginRound_4 : lkp tX0_beginRound 4 = some (.getfield 56, 0) := rfl
theorem kX0_beginRound_7 : lkp tX0_beginRound 7 = some (.if_icmp .ge 62, 69) := rfl
theorem kX0_beginRound_10 : lkp tX0_beginRound 10 = some (.aload_n 0, 0) := rfl
theorem kX0_beginRound_11 : lkp tX0_beginRound 11 = some (.getfield 9, 0) := rfl
theorem kX0_beginRound_14 : lkp tX0_beginRound 14 = some (.iload_n 2, 0) := rfl
theorem kX0_beginRound_15 : lkp tX0_beginRound 15 = some (.iconst (-1), 0) := rfl
theorem kX0_beginRound_16 : lkp tX0_beginRound 16 = some (.iastore, 0) := rfl
theorem kX0_beginRound_17 : lkp tX0_beginRound 17 = some (.aload_n 0, 0) := rfl
theorem kX0_beginRound_18 : lkp tX0_beginRound 18 = some (.getfield 18, 0) := rfl
theorem kX0_beginRound_21 : lkp tX0_beginRound 21 = some (.iload_n 2, 0) := rfl
theorem kX0_beginRound_22 : lkp tX0_beginRound 22 = some (.iconst 0, 0) := rfl
theorem kX0_beginRound_23 : lkp tX0_beginRound 23 = some (.iastore, 0) := rfl
theorem kX0_beginRound_24 : lkp tX0_beginRound 24 = some (.iconst 0, 0) := rfl
theorem kX0_beginRound_25 : lkp tX0_beginRound 25 = some (.istore_n 3, 0) := rfl
theorem kX0_beginRound_26 : lkp tX0_beginRound 26 = some (.iload_n 3, 0) := rfl
theorem kX0_beginRound_27 : lkp tX0_beginRound 27 = some (.aload_n 1, 0) := rfl
theorem kX0_beginRound_28 : lkp tX0_beginRound 28 = some (.getfield 60, 0) := rfl
theorem kX0_beginRound_31 : lkp tX0_beginRound 31 = some (.if_icmp .ge 32, 63) := rfl
theorem kX0_beginRound_34 : lkp tX0_beginRound 34 = some (.aload_n 0, 0) := rfl
theorem kX0_beginRound_35 : lkp tX0_beginRound 35 = some (.getfield 21, 0) := rfl
theorem kX0_beginRound_38 : lkp tX0_beginRound 38 = some (.iload_n 2, 0) := rfl
theorem kX0_beginRound_39 : lkp tX0_beginRound 39 = some (.bipush 6, 0) := rfl
theorem kX0_beginRound_41 : lkp tX0_beginRound 41 = some (.imul, 0) := rfl
theorem kX0_beginRound_42 : lkp tX0_beginRound 42 = some (.iload_n 3, 0) := rfl
theorem kX0_beginRound_43 : lkp tX0_beginRound 43 = some (.iadd, 0) := rfl
theorem kX0_beginRound_44 : lkp tX0_beginRound 44 = some (.aload_n 1, 0) := rfl
theorem kX0_beginRound_45 : lkp tX0_beginRound 45 = some (.iload_n 2, 0) := rfl
theorem kX0_beginRound_46 : lkp tX0_beginRound 46 = some (.iload_n 3, 0) := rfl
theorem kX0_beginRound_47 : lkp tX0_beginRound 47 = some (.aload_n 0, 0) := rfl
theorem kX0_beginRound_48 : lkp tX0_beginRound 48 = some (.getfield 15, 0) := rfl
theorem kX0_beginRound_51 : lkp tX0_beginRound 51 = some (.iload_n 2, 0) := rfl
theorem kX0_beginRound_52 : lkp tX0_beginRound 52 = some (.iaload, 0) := rfl
theorem kX0_beginRound_53 : lkp tX0_beginRound 53 = some (.invokevirtual 63, 0) := rfl
theorem kX0_beginRound_56 : lkp tX0_beginRound 56 = some (.iastore, 0) := rfl
theorem kX0_beginRound_57 : lkp tX0_beginRound 57 = some (.iinc 3 1, 0) := rfl
theorem kX0_beginRound_60 : lkp tX0_beginRound 60 = some (.goto (-34), 26) := rfl
theorem kX0_beginRound_63 : lkp tX0_beginRound 63 = some (.iinc 2 1, 0) := rfl
theorem kX0_beginRound_66 : lkp tX0_beginRound 66 = some (.goto (-64), 2) := rfl
theorem kX0_beginRound_69 : lkp tX0_beginRound 69 = some (.return_, 0) := rfl
theorem kX0_nextAsker_0 : lkp tX0_nextAsker 0 = some (.aload_n 1, 0) := rfl
theorem kX0_nextAsker_1 : lkp tX0_nextAsker 1 = some (.getfield 56, 0) := rfl
theorem kX0_nextAsker_4 : lkp tX0_nextAsker 4 = some (.istore_n 3, 0) := rfl
theorem kX0_nextAsker_5 : lkp tX0_nextAsker 5 = some (.iconst 0, 0) := rfl
theorem kX0_nextAsker_6 : lkp tX0_nextAsker 6 = some (.istore 4, 0) := rfl
theorem kX0_nextAsker_8 : lkp tX0_nextAsker 8 = some (.iload 4, 0) := rfl
theorem kX0_nextAsker_10 : lkp tX0_nextAsker 10 = some (.iload_n 3, 0) := rfl
theorem kX0_nextAsker_11 : lkp tX0_nextAsker 11 = some (.if_icmp .ge 60, 71) := rfl
theorem kX0_nextAsker_14 : lkp tX0_nextAsker 14 = some (.iload_n 2, 0) := rfl
theorem kX0_nextAsker_15 : lkp tX0_nextAsker 15 = some (.ifCond .eq 12, 27) := rfl
theorem kX0_nextAsker_18 : lkp tX0_nextAsker 18 = some (.iload_n 3, 0) := rfl
theorem kX0_nextAsker_19 : lkp tX0_nextAsker 19 = some (.iconst 1, 0) := rfl
theorem kX0_nextAsker_20 : lkp tX0_nextAsker 20 = some (.isub, 0) := rfl
theorem kX0_nextAsker_21 : lkp tX0_nextAsker 21 = some (.iload 4, 0) := rfl
theorem kX0_nextAsker_23 : lkp tX0_nextAsker 23 = some (.isub, 0) := rfl
theorem kX0_nextAsker_24 : lkp tX0_nextAsker 24 = some (.goto 5, 29) := rfl
theorem kX0_nextAsker_27 : lkp tX0_nextAsker 27 = some (.iload 4, 0) := rfl
theorem kX0_nextAsker_29 : lkp tX0_nextAsker 29 = some (.istore 5, 0) := rfl
theorem kX0_nextAsker_31 : lkp tX0_nextAsker 31 = some (.aload_n 0, 0) := rfl
theorem kX0_nextAsker_32 : lkp tX0_nextAsker 32 = some (.getfield 9, 0) := rfl
theorem kX0_nextAsker_35 : lkp tX0_nextAsker 35 = some (.iload 5, 0) := rfl
theorem kX0_nextAsker_37 : lkp tX0_nextAsker 37 = some (.iaload, 0) := rfl
theorem kX0_nextAsker_38 : lkp tX0_nextAsker 38 = some (.iconst (-1), 0) := rfl
theorem kX0_nextAsker_39 : lkp tX0_nextAsker 39 = some (.if_icmp .ne 26, 65) := rfl
theorem kX0_nextAsker_42 : lkp tX0_nextAsker 42 = some (.aload_n 0, 0) := rfl
theorem kX0_nextAsker_43 : lkp tX0_nextAsker 43 = some (.getfield 18, 0) := rfl
theorem kX0_nextAsker_46 : lkp tX0_nextAsker 46 = some (.iload 5, 0) := rfl
theorem kX0_nextAsker_48 : lkp tX0_nextAsker 48 = some (.iaload, 0) := rfl
theorem kX0_nextAsker_49 : lkp tX0_nextAsker 49 = some (.aload_n 1, 0) := rfl
theorem kX0_nextAsker_50 : lkp tX0_nextAsker 50 = some (.getfield 41, 0) := rfl
theorem kX0_nextAsker_53 : lkp tX0_nextAsker 53 = some (.iload 5, 0) := rfl
theorem kX0_nextAsker_55 : lkp tX0_nextAsker 55 = some (.aaload, 0) := rfl
theorem kX0_nextAsker_56 : lkp tX0_nextAsker 56 = some (.getfield 67, 0) := rfl
theorem kX0_nextAsker_59 : lkp tX0_nextAsker 59 = some (.if_icmp .ge 6, 65) := rfl
theorem kX0_nextAsker_62 : lkp tX0_nextAsker 62 = some (.iload 5, 0) := rfl
theorem kX0_nextAsker_64 : lkp tX0_nextAsker 64 = some (.ireturn, 0) := rfl
theorem kX0_nextAsker_65 : lkp tX0_nextAsker 65 = some (.iinc 4 1, 0) := rfl
theorem kX0_nextAsker_68 : lkp tX0_nextAsker 68 = some (.goto (-60), 8) := rfl
theorem kX0_nextAsker_71 : lkp tX0_nextAsker 71 = some (.iconst (-1), 0) := rfl
theorem kX0_nextAsker_72 : lkp tX0_nextAsker 72 = some (.ireturn, 0) := rfl
theorem kX0_askAt_0 : lkp tX0_askAt 0 = some (.iconst 0, 0) := rfl
theorem kX0_askAt_1 : lkp tX0_askAt 1 = some (.istore 4, 0) := rfl
theorem kX0_askAt_3 : lkp tX0_askAt 3 = some (.iconst (-1), 0) := rfl
theorem kX0_askAt_4 : lkp tX0_askAt 4 = some (.istore 5, 0) := rfl
theorem kX0_askAt_6 : lkp tX0_askAt 6 = some (.iconst 0, 0) := rfl
theorem kX0_askAt_7 : lkp tX0_askAt 7 = some (.istore 6, 0) := rfl
theorem kX0_askAt_9 : lkp tX0_askAt 9 = some (.iload 6, 0) := rfl
theorem kX0_askAt_11 : lkp tX0_askAt 11 = some (.aload_n 1, 0) := rfl
theorem kX0_askAt_12 : lkp tX0_askAt 12 = some (.getfield 56, 0) := rfl
theorem kX0_askAt_15 : lkp tX0_askAt 15 = some (.if_icmp .ge 50, 65) := rfl
theorem kX0_askAt_18 : lkp tX0_askAt 18 = some (.aload_n 0, 0) := rfl
theorem kX0_askAt_19 : lkp tX0_askAt 19 = some (.getfield 9, 0) := rfl
theorem kX0_askAt_22 : lkp tX0_askAt 22 = some (.iload 6, 0) := rfl
theorem kX0_askAt_24 : lkp tX0_askAt 24 = some (.iaload, 0) := rfl
theorem kX0_askAt_25 : lkp tX0_askAt 25 = some (.iload_n 3, 0) := rfl
theorem kX0_askAt_26 : lkp tX0_askAt 26 = some (.if_icmp .ne 33, 59) := rfl
theorem kX0_askAt_29 : lkp tX0_askAt 29 = some (.iinc 4 1, 0) := rfl
theorem kX0_askAt_32 : lkp tX0_askAt 32 = some (.iload 5, 0) := rfl
theorem kX0_askAt_34 : lkp tX0_askAt 34 = some (.iconst (-1), 0) := rfl
theorem kX0_askAt_35 : lkp tX0_askAt 35 = some (.if_icmp .eq 20, 55) := rfl
theorem kX0_askAt_38 : lkp tX0_askAt 38 = some (.aload_n 0, 0) := rfl
theorem kX0_askAt_39 : lkp tX0_askAt 39 = some (.iload 6, 0) := rfl
theorem kX0_askAt_41 : lkp tX0_askAt 41 = some (.iload_n 3, 0) := rfl
theorem kX0_askAt_42 : lkp tX0_askAt 42 = some (.invokevirtual 70, 0) := rfl
theorem kX0_askAt_45 : lkp tX0_askAt 45 = some (.aload_n 0, 0) := rfl
theorem kX0_askAt_46 : lkp tX0_askAt 46 = some (.iload 5, 0) := rfl
theorem kX0_askAt_48 : lkp tX0_askAt 48 = some (.iload_n 3, 0) := rfl
theorem kX0_askAt_49 : lkp tX0_askAt 49 = some (.invokevirtual 70, 0) := rfl
theorem kX0_askAt_52 : lkp tX0_askAt 52 = some (.if_icmp .le 7, 59) := rfl
theorem kX0_askAt_55 : lkp tX0_askAt 55 = some (.iload 6, 0) := rfl
theorem kX0_askAt_57 : lkp tX0_askAt 57 = some (.istore 5, 0) := rfl
theorem kX0_askAt_59 : lkp tX0_askAt 59 = some (.iinc 6 1, 0) := rfl
theorem kX0_askAt_62 : lkp tX0_askAt 62 = some (.goto (-53), 9) := rfl
theorem kX0_askAt_65 : lkp tX0_askAt 65 = some (.iload 4, 0) := rfl
theorem kX0_askAt_67 : lkp tX0_askAt 67 = some (.aload_n 1, 0) := rfl
theorem kX0_askAt_68 : lkp tX0_askAt 68 = some (.getfield 74, 0) := rfl
theorem kX0_askAt_71 : lkp tX0_askAt 71 = some (.iload_n 3, 0) := rfl
theorem kX0_askAt_72 : lkp tX0_askAt 72 = some (.aaload, 0) := rfl
theorem kX0_askAt_73 : lkp tX0_askAt 73 = some (.getfield 78, 0) := rfl
theorem kX0_askAt_76 : lkp tX0_askAt 76 = some (.if_icmp .ge 13, 89) := rfl
theorem kX0_askAt_79 : lkp tX0_askAt 79 = some (.aload_n 0, 0) := rfl
theorem kX0_askAt_80 : lkp tX0_askAt 80 = some (.getfield 9, 0) := rfl
theorem kX0_askAt_83 : lkp tX0_askAt 83 = some (.iload_n 2, 0) := rfl
theorem kX0_askAt_84 : lkp tX0_askAt 84 = some (.iload_n 3, 0) := rfl
theorem kX0_askAt_85 : lkp tX0_askAt 85 = some (.iastore, 0) := rfl
theorem kX0_askAt_86 : lkp tX0_askAt 86 = some (.goto 40, 126) := rfl
theorem kX0_askAt_89 : lkp tX0_askAt 89 = some (.iload 5, 0) := rfl
theorem kX0_askAt_91 : lkp tX0_askAt 91 = some (.iconst (-1), 0) := rfl
theorem kX0_askAt_92 : lkp tX0_askAt 92 = some (.if_icmp .eq 34, 126) := rfl
theorem kX0_askAt_95 : lkp tX0_askAt 95 = some (.aload_n 0, 0) := rfl
theorem kX0_askAt_96 : lkp tX0_askAt 96 = some (.iload 5, 0) := rfl
theorem kX0_askAt_98 : lkp tX0_askAt 98 = some (.iload_n 3, 0) := rfl
theorem kX0_askAt_99 : lkp tX0_askAt 99 = some (.invokevirtual 70, 0) := rfl
theorem kX0_askAt_102 : lkp tX0_askAt 102 = some (.aload_n 0, 0) := rfl
theorem kX0_askAt_103 : lkp tX0_askAt 103 = some (.iload_n 2, 0) := rfl
theorem kX0_askAt_104 : lkp tX0_askAt 104 = some (.iload_n 3, 0) := rfl
theorem kX0_askAt_105 : lkp tX0_askAt 105 = some (.invokevirtual 70, 0) := rfl
theorem kX0_askAt_108 : lkp tX0_askAt 108 = some (.if_icmp .le 18, 126) := rfl
theorem kX0_askAt_111 : lkp tX0_askAt 111 = some (.aload_n 0, 0) := rfl
theorem kX0_askAt_112 : lkp tX0_askAt 112 = some (.getfield 9, 0) := rfl
theorem kX0_askAt_115 : lkp tX0_askAt 115 = some (.iload 5, 0) := rfl
theorem kX0_askAt_117 : lkp tX0_askAt 117 = some (.iconst (-1), 0) := rfl
theorem kX0_askAt_118 : lkp tX0_askAt 118 = some (.iastore, 0) := rfl
theorem kX0_askAt_119 : lkp tX0_askAt 119 = some (.aload_n 0, 0) := rfl
theorem kX0_askAt_120 : lkp tX0_askAt 120 = some (.getfield 9, 0) := rfl
theorem kX0_askAt_123 : lkp tX0_askAt 123 = some (.iload_n 2, 0) := rfl
theorem kX0_askAt_124 : lkp tX0_askAt 124 = some (.iload_n 3, 0) := rfl
theorem kX0_askAt_125 : lkp tX0_askAt 125 = some (.iastore, 0) := rfl
theorem kX0_askAt_126 : lkp tX0_askAt 126 = some (.return_, 0) := rfl
theorem kX0_keyAt_0 : lkp tX0_keyAt 0 = some (.aload_n 0, 0) := rfl
theorem kX0_keyAt_1 : lkp tX0_keyAt 1 = some (.getfield 21, 0) := rfl
theorem kX0_keyAt_4 : lkp tX0_keyAt 4 = some (.iload_n 1, 0) := rfl
theorem kX0_keyAt_5 : lkp tX0_keyAt 5 = some (.bipush 6, 0) := rfl
theorem kX0_keyAt_7 : lkp tX0_keyAt 7 = some (.imul, 0) := rfl
theorem kX0_keyAt_8 : lkp tX0_keyAt 8 = some (.iload_n 2, 0) := rfl
theorem kX0_keyAt_9 : lkp tX0_keyAt 9 = some (.iadd, 0) := rfl
theorem kX0_keyAt_10 : lkp tX0_keyAt 10 = some (.iaload, 0) := rfl
theorem kX0_keyAt_11 : lkp tX0_keyAt 11 = some (.ireturn, 0) := rfl
theorem kX0_markSiblings_0 : lkp tX0_markSiblings 0 = some (.iconst 0, 0) := rfl
theorem kX0_markSiblings_1 : lkp tX0_markSiblings 1 = some (.istore_n 2, 0) := rfl
theorem kX0_markSiblings_2 : lkp tX0_markSiblings 2 = some (.iconst 0, 0) := rfl
theorem kX0_markSiblings_3 : lkp tX0_markSiblings 3 = some (.istore_n 3, 0) := rfl
theorem kX0_markSiblings_4 : lkp tX0_markSiblings 4 = some (.iload_n 3, 0) := rfl
theorem kX0_markSiblings_5 : lkp tX0_markSiblings 5 = some (.aload_n 1, 0) := rfl
theorem kX0_markSiblings_6 : lkp tX0_markSiblings 6 = some (.getfield 56, 0) := rfl
theorem kX0_markSiblings_9 : lkp tX0_markSiblings 9 = some (.if_icmp .ge 86, 95) := rfl
theorem kX0_markSiblings_12 : lkp tX0_markSiblings 12 = some (.aload_n 1, 0) := rfl
theorem kX0_markSiblings_13 : lkp tX0_markSiblings 13 = some (.getfield 41, 0) := rfl
theorem kX0_markSiblings_16 : lkp tX0_markSiblings 16 = some (.iload_n 3, 0) := rfl
theorem kX0_markSiblings_17 : lkp tX0_markSiblings 17 = some (.aaload, 0) := rfl
theorem kX0_markSiblings_18 : lkp tX0_markSiblings 18 = some (.astore 4, 0) := rfl
theorem kX0_markSiblings_20 : lkp tX0_markSiblings 20 = some (.iconst 0, 0) := rfl
theorem kX0_markSiblings_21 : lkp tX0_markSiblings 21 = some (.istore 5, 0) := rfl
theorem kX0_markSiblings_23 : lkp tX0_markSiblings 23 = some (.iload 5, 0) := rfl
theorem kX0_markSiblings_25 : lkp tX0_markSiblings 25 = some (.aload 4, 0) := rfl
theorem kX0_markSiblings_27 : lkp tX0_markSiblings 27 = some (.getfield 67, 0) := rfl
theorem kX0_markSiblings_30 : lkp tX0_markSiblings 30 = some (.if_icmp .ge 59, 89) := rfl
theorem kX0_markSiblings_33 : lkp tX0_markSiblings 33 = some (.aload 4, 0) := rfl
theorem kX0_markSiblings_35 : lkp tX0_markSiblings 35 = some (.getfield 47, 0) := rfl
theorem kX0_markSiblings_38 : lkp tX0_markSiblings 38 = some (.iload 5, 0) := rfl
theorem kX0_markSiblings_40 : lkp tX0_markSiblings 40 = some (.iaload, 0) := rfl
theorem kX0_markSiblings_41 : lkp tX0_markSiblings 41 = some (.istore 6, 0) := rfl
theorem kX0_markSiblings_43 : lkp tX0_markSiblings 43 = some (.aload_n 0, 0) := rfl
theorem kX0_markSiblings_44 : lkp tX0_markSiblings 44 = some (.getfield 15, 0) := rfl
theorem kX0_markSiblings_47 : lkp tX0_markSiblings 47 = some (.iload_n 3, 0) := rfl
theorem kX0_markSiblings_48 : lkp tX0_markSiblings 48 = some (.iaload, 0) := rfl
theorem kX0_markSiblings_49 : lkp tX0_markSiblings 49 = some (.iload 6, 0) := rfl
theorem kX0_markSiblings_51 : lkp tX0_markSiblings 51 = some (.invokestatic 82, 0) := rfl
theorem kX0_markSiblings_54 : lkp tX0_markSiblings 54 = some (.ifCond .ne 29, 83) := rfl
theorem kX0_markSiblings_57 : lkp tX0_markSiblings 57 = some (.aload_n 0, 0) := rfl
theorem kX0_markSiblings_58 : lkp tX0_markSiblings 58 = some (.aload_n 1, 0) := rfl
theorem kX0_markSiblings_59 : lkp tX0_markSiblings 59 = some (.iload_n 3, 0) := rfl
theorem kX0_markSiblings_60 : lkp tX0_markSiblings 60 = some (.iload 6, 0) := rfl
theorem kX0_markSiblings_62 : lkp tX0_markSiblings 62 = some (.invokevirtual 86, 0) := rfl
theorem kX0_markSiblings_65 : lkp tX0_markSiblings 65 = some (.ifCond .eq 18, 83) := rfl
theorem kX0_markSiblings_68 : lkp tX0_markSiblings 68 = some (.aload_n 0, 0) := rfl
theorem kX0_markSiblings_69 : lkp tX0_markSiblings 69 = some (.getfield 15, 0) := rfl
theorem kX0_markSiblings_72 : lkp tX0_markSiblings 72 = some (.iload_n 3, 0) := rfl
theorem kX0_markSiblings_73 : lkp tX0_markSiblings 73 = some (.dup2, 0) := rfl
theorem kX0_markSiblings_74 : lkp tX0_markSiblings 74 = some (.iaload, 0) := rfl
theorem kX0_markSiblings_75 : lkp tX0_markSiblings 75 = some (.iconst 1, 0) := rfl
theorem kX0_markSiblings_76 : lkp tX0_markSiblings 76 = some (.iload 6, 0) := rfl
theorem kX0_markSiblings_78 : lkp tX0_markSiblings 78 = some (.ishl, 0) := rfl
theorem kX0_markSiblings_79 : lkp tX0_markSiblings 79 = some (.ior, 0) := rfl
theorem kX0_markSiblings_80 : lkp tX0_markSiblings 80 = some (.iastore, 0) := rfl
theorem kX0_markSiblings_81 : lkp tX0_markSiblings 81 = some (.iconst 1, 0) := rfl
theorem kX0_markSiblings_82 : lkp tX0_markSiblings 82 = some (.istore_n 2, 0) := rfl
theorem kX0_markSiblings_83 : lkp tX0_markSiblings 83 = some (.iinc 5 1, 0) := rfl
theorem kX0_markSiblings_86 : lkp tX0_markSiblings 86 = some (.goto (-63), 23) := rfl
theorem kX0_markSiblings_89 : lkp tX0_markSiblings 89 = some (.iinc 3 1, 0) := rfl
theorem kX0_markSiblings_92 : lkp tX0_markSiblings 92 = some (.goto (-88), 4) := rfl
theorem kX0_markSiblings_95 : lkp tX0_markSiblings 95 = some (.iload_n 2, 0) := rfl
theorem kX0_markSiblings_96 : lkp tX0_markSiblings 96 = some (.ireturn, 0) := rfl
theorem kX0_familyHolds_0 : lkp tX0_familyHolds 0 = some (.aload_n 1, 0) := rfl
theorem kX0_familyHolds_1 : lkp tX0_familyHolds 1 = some (.getfield 41, 0) := rfl
theorem kX0_familyHolds_4 : lkp tX0_familyHolds 4 = some (.iload_n 2, 0) := rfl
theorem kX0_familyHolds_5 : lkp tX0_familyHolds 5 = some (.aaload, 0) := rfl
theorem kX0_familyHolds_6 : lkp tX0_familyHolds 6 = some (.getfield 90, 0) := rfl
theorem kX0_familyHolds_9 : lkp tX0_familyHolds 9 = some (.istore 4, 0) := rfl
theorem kX0_familyHolds_11 : lkp tX0_familyHolds 11 = some (.iconst 0, 0) := rfl
theorem kX0_familyHolds_12 : lkp tX0_familyHolds 12 = some (.istore 5, 0) := rfl
theorem kX0_familyHolds_14 : lkp tX0_familyHolds 14 = some (.iload 5, 0) := rfl
theorem kX0_familyHolds_16 : lkp tX0_familyHolds 16 = some (.aload_n 1, 0) := rfl
theorem kX0_familyHolds_17 : lkp tX0_familyHolds 17 = some (.getfield 56, 0) := rfl
theorem kX0_familyHolds_20 : lkp tX0_familyHolds 20 = some (.if_icmp .ge 43, 63) := rfl
theorem kX0_familyHolds_23 : lkp tX0_familyHolds 23 = some (.iload 5, 0) := rfl
theorem kX0_familyHolds_25 : lkp tX0_familyHolds 25 = some (.iload_n 2, 0) := rfl
theorem kX0_familyHolds_26 : lkp tX0_familyHolds 26 = some (.if_icmp .eq 31, 57) := rfl
theorem kX0_familyHolds_29 : lkp tX0_familyHolds 29 = some (.aload_n 0, 0) := rfl
theorem kX0_familyHolds_30 : lkp tX0_familyHolds 30 = some (.getfield 9, 0) := rfl
theorem kX0_familyHolds_33 : lkp tX0_familyHolds 33 = some (.iload 5, 0) := rfl
theorem kX0_familyHolds_35 : lkp tX0_familyHolds 35 = some (.iaload, 0) := rfl
theorem kX0_familyHolds_36 : lkp tX0_familyHolds 36 = some (.iload_n 3, 0) := rfl
theorem kX0_familyHolds_37 : lkp tX0_familyHolds 37 = some (.if_icmp .ne 20, 57) := rfl
theorem kX0_familyHolds_40 : lkp tX0_familyHolds 40 = some (.aload_n 1, 0) := rfl
theorem kX0_familyHolds_41 : lkp tX0_familyHolds 41 = some (.getfield 41, 0) := rfl
theorem kX0_familyHolds_44 : lkp tX0_familyHolds 44 = some (.iload 5, 0) := rfl
theorem kX0_familyHolds_46 : lkp tX0_familyHolds 46 = some (.aaload, 0) := rfl
theorem kX0_familyHolds_47 : lkp tX0_familyHolds 47 = some (.getfield 90, 0) := rfl
theorem kX0_familyHolds_50 : lkp tX0_familyHolds 50 = some (.iload 4, 0) := rfl
theorem kX0_familyHolds_52 : lkp tX0_familyHolds 52 = some (.if_icmp .ne 5, 57) := rfl
theorem kX0_familyHolds_55 : lkp tX0_familyHolds 55 = some (.iconst 1, 0) := rfl
theorem kX0_familyHolds_56 : lkp tX0_familyHolds 56 = some (.ireturn, 0) := rfl
theorem kX0_familyHolds_57 : lkp tX0_familyHolds 57 = some (.iinc 5 1, 0) := rfl
theorem kX0_familyHolds_60 : lkp tX0_familyHolds 60 = some (.goto (-46), 14) := rfl
theorem kX0_familyHolds_63 : lkp tX0_familyHolds 63 = some (.iconst 0, 0) := rfl
theorem kX0_familyHolds_64 : lkp tX0_familyHolds 64 = some (.ireturn, 0) := rfl
theorem kX1_init_0 : lkp tX1_init 0 = some (.aload_n 0, 0) := rfl
theorem kX1_init_1 : lkp tX1_init 1 = some (.invokespecial 3, 0) := rfl
theorem kX1_init_4 : lkp tX1_init 4 = some (.aload_n 0, 0) := rfl
theorem kX1_init_5 : lkp tX1_init 5 = some (.iconst 4, 0) := rfl
theorem kX1_init_6 : lkp tX1_init 6 = some (.newarray .int, 0) := rfl
theorem kX1_init_8 : lkp tX1_init 8 = some (.putfield 9, 0) := rfl
theorem kX1_init_11 : lkp tX1_init 11 = some (.aload_n 0, 0) := rfl
theorem kX1_init_12 : lkp tX1_init 12 = some (.iconst (-1), 0) := rfl
theorem kX1_init_13 : lkp tX1_init 13 = some (.putfield 15, 0) := rfl
theorem kX1_init_16 : lkp tX1_init 16 = some (.aload_n 0, 0) := rfl
theorem kX1_init_17 : lkp tX1_init 17 = some (.iconst (-1), 0) := rfl
theorem kX1_init_18 : lkp tX1_init 18 = some (.putfield 19, 0) := rfl
theorem kX1_init_21 : lkp tX1_init 21 = some (.return_, 0) := rfl
theorem kX1_begin_0 : lkp tX1_begin 0 = some (.aload_n 0, 0) := rfl
theorem kX1_begin_1 : lkp tX1_begin 1 = some (.iconst 0, 0) := rfl
theorem kX1_begin_2 : lkp tX1_begin 2 = some (.putfield 22, 0) := rfl
theorem kX1_begin_5 : lkp tX1_begin 5 = some (.aload_n 0, 0) := rfl
theorem kX1_begin_6 : lkp tX1_begin 6 = some (.iload_n 1, 0) := rfl
theorem kX1_begin_7 : lkp tX1_begin 7 = some (.putfield 25, 0) := rfl
theorem kX1_begin_10 : lkp tX1_begin 10 = some (.aload_n 0, 0) := rfl
theorem kX1_begin_11 : lkp tX1_begin 11 = some (.iload_n 2, 0) := rfl
theorem kX1_begin_12 : lkp tX1_begin 12 = some (.putfield 28, 0) := rfl
theorem kX1_begin_15 : lkp tX1_begin 15 = some (.aload_n 0, 0) := rfl
theorem kX1_begin_16 : lkp tX1_begin 16 = some (.iload_n 3, 0) := rfl
theorem kX1_begin_17 : lkp tX1_begin 17 = some (.putfield 31, 0) := rfl
theorem kX1_begin_20 : lkp tX1_begin 20 = some (.aload_n 0, 0) := rfl
theorem kX1_begin_21 : lkp tX1_begin 21 = some (.iload 4, 0) := rfl
theorem kX1_begin_23 : lkp tX1_begin 23 = some (.putfield 34, 0) := rfl
theorem kX1_begin_26 : lkp tX1_begin 26 = some (.aload_n 0, 0) := rfl
theorem kX1_begin_27 : lkp tX1_begin 27 = some (.iconst (-1), 0) := rfl
theorem kX1_begin_28 : lkp tX1_begin 28 = some (.putfield 15, 0) := rfl
theorem kX1_begin_31 : lkp tX1_begin 31 = some (.aload_n 0, 0) := rfl
theorem kX1_begin_32 : lkp tX1_begin 32 = some (.iconst (-1), 0) := rfl
theorem kX1_begin_33 : lkp tX1_begin 33 = some (.putfield 19, 0) := rfl
theorem kX1_begin_36 : lkp tX1_begin 36 = some (.aload_n 0, 0) := rfl
theorem kX1_begin_37 : lkp tX1_begin 37 = some (.iconst 0, 0) := rfl
theorem kX1_begin_38 : lkp tX1_begin 38 = some (.putfield 37, 0) := rfl
theorem kX1_begin_41 : lkp tX1_begin 41 = some (.aload_n 0, 0) := rfl
theorem kX1_begin_42 : lkp tX1_begin 42 = some (.iconst 0, 0) := rfl
theorem kX1_begin_43 : lkp tX1_begin 43 = some (.putfield 40, 0) := rfl
theorem kX1_begin_46 : lkp tX1_begin 46 = some (.return_, 0) := rfl
theorem kX1_copyFrom_0 : lkp tX1_copyFrom 0 = some (.aload_n 1, 0) := rfl
theorem kX1_copyFrom_1 : lkp tX1_copyFrom 1 = some (.getfield 9, 0) := rfl
theorem kX1_copyFrom_4 : lkp tX1_copyFrom 4 = some (.iconst 0, 0) := rfl
theorem kX1_copyFrom_5 : lkp tX1_copyFrom 5 = some (.aload_n 0, 0) := rfl
theorem kX1_copyFrom_6 : lkp tX1_copyFrom 6 = some (.getfield 9, 0) := rfl
theorem kX1_copyFrom_9 : lkp tX1_copyFrom 9 = some (.iconst 0, 0) := rfl
theorem kX1_copyFrom_10 : lkp tX1_copyFrom 10 = some (.iconst 4, 0) := rfl
theorem kX1_copyFrom_11 : lkp tX1_copyFrom 11 = some (.invokestatic 43, 0) := rfl
theorem kX1_copyFrom_14 : lkp tX1_copyFrom 14 = some (.aload_n 0, 0) := rfl
theorem kX1_copyFrom_15 : lkp tX1_copyFrom 15 = some (.aload_n 1, 0) := rfl
theorem kX1_copyFrom_16 : lkp tX1_copyFrom 16 = some (.getfield 22, 0) := rfl
theorem kX1_copyFrom_19 : lkp tX1_copyFrom 19 = some (.putfield 22, 0) := rfl
theorem kX1_copyFrom_22 : lkp tX1_copyFrom 22 = some (.aload_n 0, 0) := rfl
theorem kX1_copyFrom_23 : lkp tX1_copyFrom 23 = some (.aload_n 1, 0) := rfl
theorem kX1_copyFrom_24 : lkp tX1_copyFrom 24 = some (.getfield 25, 0) := rfl
theorem kX1_copyFrom_27 : lkp tX1_copyFrom 27 = some (.putfield 25, 0) := rfl
theorem kX1_copyFrom_30 : lkp tX1_copyFrom 30 = some (.aload_n 0, 0) := rfl
theorem kX1_copyFrom_31 : lkp tX1_copyFrom 31 = some (.aload_n 1, 0) := rfl
theorem kX1_copyFrom_32 : lkp tX1_copyFrom 32 = some (.getfield 28, 0) := rfl
theorem kX1_copyFrom_35 : lkp tX1_copyFrom 35 = some (.putfield 28, 0) := rfl
theorem kX1_copyFrom_38 : lkp tX1_copyFrom 38 = some (.aload_n 0, 0) := rfl
theorem kX1_copyFrom_39 : lkp tX1_copyFrom 39 = some (.aload_n 1, 0) := rfl
theorem kX1_copyFrom_40 : lkp tX1_copyFrom 40 = some (.getfield 31, 0) := rfl
theorem kX1_copyFrom_43 : lkp tX1_copyFrom 43 = some (.putfield 31, 0) := rfl
theorem kX1_copyFrom_46 : lkp tX1_copyFrom 46 = some (.aload_n 0, 0) := rfl
theorem kX1_copyFrom_47 : lkp tX1_copyFrom 47 = some (.aload_n 1, 0) := rfl
theorem kX1_copyFrom_48 : lkp tX1_copyFrom 48 = some (.getfield 34, 0) := rfl
theorem kX1_copyFrom_51 : lkp tX1_copyFrom 51 = some (.putfield 34, 0) := rfl
theorem kX1_copyFrom_54 : lkp tX1_copyFrom 54 = some (.aload_n 0, 0) := rfl
theorem kX1_copyFrom_55 : lkp tX1_copyFrom 55 = some (.aload_n 1, 0) := rfl
theorem kX1_copyFrom_56 : lkp tX1_copyFrom 56 = some (.getfield 15, 0) := rfl
theorem kX1_copyFrom_59 : lkp tX1_copyFrom 59 = some (.putfield 15, 0) := rfl
theorem kX1_copyFrom_62 : lkp tX1_copyFrom 62 = some (.aload_n 0, 0) := rfl
theorem kX1_copyFrom_63 : lkp tX1_copyFrom 63 = some (.aload_n 1, 0) := rfl
theorem kX1_copyFrom_64 : lkp tX1_copyFrom 64 = some (.getfield 19, 0) := rfl
theorem kX1_copyFrom_67 : lkp tX1_copyFrom 67 = some (.putfield 19, 0) := rfl
theorem kX1_copyFrom_70 : lkp tX1_copyFrom 70 = some (.aload_n 0, 0) := rfl
theorem kX1_copyFrom_71 : lkp tX1_copyFrom 71 = some (.aload_n 1, 0) := rfl
theorem kX1_copyFrom_72 : lkp tX1_copyFrom 72 = some (.getfield 37, 0) := rfl
theorem kX1_copyFrom_75 : lkp tX1_copyFrom 75 = some (.putfield 37, 0) := rfl
theorem kX1_copyFrom_78 : lkp tX1_copyFrom 78 = some (.aload_n 0, 0) := rfl
theorem kX1_copyFrom_79 : lkp tX1_copyFrom 79 = some (.aload_n 1, 0) := rfl
theorem kX1_copyFrom_80 : lkp tX1_copyFrom 80 = some (.getfield 40, 0) := rfl
theorem kX1_copyFrom_83 : lkp tX1_copyFrom 83 = some (.putfield 40, 0) := rfl
theorem kX1_copyFrom_86 : lkp tX1_copyFrom 86 = some (.return_, 0) := rfl
theorem kX1_placeOf_0 : lkp tX1_placeOf 0 = some (.iconst 0, 0) := rfl
theorem kX1_placeOf_1 : lkp tX1_placeOf 1 = some (.istore_n 2, 0) := rfl
theorem kX1_placeOf_2 : lkp tX1_placeOf 2 = some (.iload_n 2, 0) := rfl
theorem kX1_placeOf_3 : lkp tX1_placeOf 3 = some (.aload_n 0, 0) := rfl
theorem kX1_placeOf_4 : lkp tX1_placeOf 4 = some (.getfield 22, 0) := rfl
theorem kX1_placeOf_7 : lkp tX1_placeOf 7 = some (.if_icmp .ge 21, 28) := rfl
theorem kX1_placeOf_10 : lkp tX1_placeOf 10 = some (.aload_n 0, 0) := rfl
theorem kX1_placeOf_11 : lkp tX1_placeOf 11 = some (.getfield 9, 0) := rfl
theorem kX1_placeOf_14 : lkp tX1_placeOf 14 = some (.iload_n 2, 0) := rfl
theorem kX1_placeOf_15 : lkp tX1_placeOf 15 = some (.iaload, 0) := rfl
theorem kX1_placeOf_16 : lkp tX1_placeOf 16 = some (.iload_n 1, 0) := rfl
theorem kX1_placeOf_17 : lkp tX1_placeOf 17 = some (.if_icmp .ne 5, 22) := rfl
theorem kX1_placeOf_20 : lkp tX1_placeOf 20 = some (.iload_n 2, 0) := rfl
theorem kX1_placeOf_21 : lkp tX1_placeOf 21 = some (.ireturn, 0) := rfl
theorem kX1_placeOf_22 : lkp tX1_placeOf 22 = some (.iinc 2 1, 0) := rfl
theorem kX1_placeOf_25 : lkp tX1_placeOf 25 = some (.goto (-23), 2) := rfl
theorem kX1_placeOf_28 : lkp tX1_placeOf 28 = some (.iconst (-1), 0) := rfl
theorem kX1_placeOf_29 : lkp tX1_placeOf 29 = some (.ireturn, 0) := rfl
theorem kX1_prefers_0 : lkp tX1_prefers 0 = some (.aload_n 0, 0) := rfl
theorem kX1_prefers_1 : lkp tX1_prefers 1 = some (.iload_n 1, 0) := rfl
theorem kX1_prefers_2 : lkp tX1_prefers 2 = some (.invokevirtual 49, 0) := rfl
theorem kX1_prefers_5 : lkp tX1_prefers 5 = some (.istore_n 2, 0) := rfl
theorem kX1_prefers_6 : lkp tX1_prefers 6 = some (.iload_n 2, 0) := rfl
theorem kX1_prefers_7 : lkp tX1_prefers 7 = some (.iconst (-1), 0) := rfl
theorem kX1_prefers_8 : lkp tX1_prefers 8 = some (.if_icmp .ne 5, 13) := rfl
theorem kX1_prefers_11 : lkp tX1_prefers 11 = some (.iconst 0, 0) := rfl
theorem kX1_prefers_12 : lkp tX1_prefers 12 = some (.ireturn, 0) := rfl
theorem kX1_prefers_13 : lkp tX1_prefers 13 = some (.aload_n 0, 0) := rfl
theorem kX1_prefers_14 : lkp tX1_prefers 14 = some (.aload_n 0, 0) := rfl
theorem kX1_prefers_15 : lkp tX1_prefers 15 = some (.getfield 19, 0) := rfl
theorem kX1_prefers_18 : lkp tX1_prefers 18 = some (.invokevirtual 49, 0) := rfl
theorem kX1_prefers_21 : lkp tX1_prefers 21 = some (.istore_n 3, 0) := rfl
theorem kX1_prefers_22 : lkp tX1_prefers 22 = some (.iload_n 3, 0) := rfl
theorem kX1_prefers_23 : lkp tX1_prefers 23 = some (.iconst (-1), 0) := rfl
theorem kX1_prefers_24 : lkp tX1_prefers 24 = some (.if_icmp .eq 8, 32) := rfl
theorem kX1_prefers_27 : lkp tX1_prefers 27 = some (.iload_n 2, 0) := rfl
theorem kX1_prefers_28 : lkp tX1_prefers 28 = some (.iload_n 3, 0) := rfl
theorem kX1_prefers_29 : lkp tX1_prefers 29 = some (.if_icmp .ge 7, 36) := rfl
theorem kX1_prefers_32 : lkp tX1_prefers 32 = some (.iconst 1, 0) := rfl
theorem kX1_prefers_33 : lkp tX1_prefers 33 = some (.goto 4, 37) := rfl
theorem kX1_prefers_36 : lkp tX1_prefers 36 = some (.iconst 0, 0) := rfl
theorem kX1_prefers_37 : lkp tX1_prefers 37 = some (.ireturn, 0) := rfl
theorem kX1_putChoice_0 : lkp tX1_putChoice 0 = some (.aload_n 0, 0) := rfl
theorem kX1_putChoice_1 : lkp tX1_putChoice 1 = some (.iload_n 1, 0) := rfl
theorem kX1_putChoice_2 : lkp tX1_putChoice 2 = some (.invokevirtual 49, 0) := rfl
theorem kX1_putChoice_5 : lkp tX1_putChoice 5 = some (.istore_n 3, 0) := rfl
theorem kX1_putChoice_6 : lkp tX1_putChoice 6 = some (.iload_n 3, 0) := rfl
theorem kX1_putChoice_7 : lkp tX1_putChoice 7 = some (.iconst (-1), 0) := rfl
theorem kX1_putChoice_8 : lkp tX1_putChoice 8 = some (.if_icmp .ne 18, 26) := rfl
theorem kX1_putChoice_11 : lkp tX1_putChoice 11 = some (.aload_n 0, 0) := rfl
theorem kX1_putChoice_12 : lkp tX1_putChoice 12 = some (.getfield 22, 0) := rfl
theorem kX1_putChoice_15 : lkp tX1_putChoice 15 = some (.istore_n 3, 0) := rfl
theorem kX1_putChoice_16 : lkp tX1_putChoice 16 = some (.aload_n 0, 0) := rfl
theorem kX1_putChoice_17 : lkp tX1_putChoice 17 = some (.dup, 0) := rfl
theorem kX1_putChoice_18 : lkp tX1_putChoice 18 = some (.getfield 22, 0) := rfl
theorem kX1_putChoice_21 : lkp tX1_putChoice 21 = some (.iconst 1, 0) := rfl
theorem kX1_putChoice_22 : lkp tX1_putChoice 22 = some (.iadd, 0) := rfl
theorem kX1_putChoice_23 : lkp tX1_putChoice 23 = some (.putfield 22, 0) := rfl
theorem kX1_putChoice_26 : lkp tX1_putChoice 26 = some (.iload_n 3, 0) := rfl
theorem kX1_putChoice_27 : lkp tX1_putChoice 27 = some (.istore 4, 0) := rfl
theorem kX1_putChoice_29 : lkp tX1_putChoice 29 = some (.iload 4, 0) := rfl
theorem kX1_putChoice_31 : lkp tX1_putChoice 31 = some (.aload_n 0, 0) := rfl
theorem kX1_putChoice_32 : lkp tX1_putChoice 32 = some (.getfield 22, 0) := rfl
theorem kX1_putChoice_35 : lkp tX1_putChoice 35 = some (.iconst 1, 0) := rfl
theorem kX1_putChoice_36 : lkp tX1_putChoice 36 = some (.isub, 0) := rfl
theorem kX1_putChoice_37 : lkp tX1_putChoice 37 = some (.if_icmp .ge 25, 62) := rfl
theorem kX1_putChoice_40 : lkp tX1_putChoice 40 = some (.aload_n 0, 0) := rfl
theorem kX1_putChoice_41 : lkp tX1_putChoice 41 = some (.getfield 9, 0) := rfl
theorem kX1_putChoice_44 : lkp tX1_putChoice 44 = some (.iload 4, 0) := rfl
theorem kX1_putChoice_46 : lkp tX1_putChoice 46 = some (.aload_n 0, 0) := rfl
theorem kX1_putChoice_47 : lkp tX1_putChoice 47 = some (.getfield 9, 0) := rfl
theorem kX1_putChoice_50 : lkp tX1_putChoice 50 = some (.iload 4, 0) := rfl
theorem kX1_putChoice_52 : lkp tX1_putChoice 52 = some (.iconst 1, 0) := rfl
theorem kX1_putChoice_53 : lkp tX1_putChoice 53 = some (.iadd, 0) := rfl
theorem kX1_putChoice_54 : lkp tX1_putChoice 54 = some (.iaload, 0) := rfl
theorem kX1_putChoice_55 : lkp tX1_putChoice 55 = some (.iastore, 0) := rfl
theorem kX1_putChoice_56 : lkp tX1_putChoice 56 = some (.iinc 4 1, 0) := rfl
theorem kX1_putChoice_59 : lkp tX1_putChoice 59 = some (.goto (-30), 29) := rfl
theorem kX1_putChoice_62 : lkp tX1_putChoice 62 = some (.aload_n 0, 0) := rfl
theorem kX1_putChoice_63 : lkp tX1_putChoice 63 = some (.getfield 22, 0) := rfl
theorem kX1_putChoice_66 : lkp tX1_putChoice 66 = some (.iconst 1, 0) := rfl
theorem kX1_putChoice_67 : lkp tX1_putChoice 67 = some (.isub, 0) := rfl
theorem kX1_putChoice_68 : lkp tX1_putChoice 68 = some (.istore 4, 0) := rfl
theorem kX1_putChoice_70 : lkp tX1_putChoice 70 = some (.iload 4, 0) := rfl
theorem kX1_putChoice_72 : lkp tX1_putChoice 72 = some (.iload_n 2, 0) := rfl
theorem kX1_putChoice_73 : lkp tX1_putChoice 73 = some (.if_icmp .le 25, 98) := rfl
theorem kX1_putChoice_76 : lkp tX1_putChoice 76 = some (.aload_n 0, 0) := rfl
theorem kX1_putChoice_77 : lkp tX1_putChoice 77 = some (.getfield 9, 0) := rfl
theorem kX1_putChoice_80 : lkp tX1_putChoice 80 = some (.iload 4, 0) := rfl
theorem kX1_putChoice_82 : lkp tX1_putChoice 82 = some (.aload_n 0, 0) := rfl
theorem kX1_putChoice_83 : lkp tX1_putChoice 83 = some (.getfield 9, 0) := rfl
theorem kX1_putChoice_86 : lkp tX1_putChoice 86 = some (.iload 4, 0) := rfl
theorem kX1_putChoice_88 : lkp tX1_putChoice 88 = some (.iconst 1, 0) := rfl
theorem kX1_putChoice_89 : lkp tX1_putChoice 89 = some (.isub, 0) := rfl
theorem kX1_putChoice_90 : lkp tX1_putChoice 90 = some (.iaload, 0) := rfl
theorem kX1_putChoice_91 : lkp tX1_putChoice 91 = some (.iastore, 0) := rfl
theorem kX1_putChoice_92 : lkp tX1_putChoice 92 = some (.iinc 4 (-1), 0) := rfl
theorem kX1_putChoice_95 : lkp tX1_putChoice 95 = some (.goto (-25), 70) := rfl
theorem kX1_putChoice_98 : lkp tX1_putChoice 98 = some (.aload_n 0, 0) := rfl
theorem kX1_putChoice_99 : lkp tX1_putChoice 99 = some (.getfield 9, 0) := rfl
theorem kX1_putChoice_102 : lkp tX1_putChoice 102 = some (.iload_n 2, 0) := rfl
theorem kX1_putChoice_103 : lkp tX1_putChoice 103 = some (.iload_n 1, 0) := rfl
theorem kX1_putChoice_104 : lkp tX1_putChoice 104 = some (.iastore, 0) := rfl
theorem kX1_putChoice_105 : lkp tX1_putChoice 105 = some (.return_, 0) := rfl
theorem kX2_init_0 : lkp tX2_init 0 = some (.aload_n 0, 0) := rfl
theorem kX2_init_1 : lkp tX2_init 1 = some (.invokespecial 3, 0) := rfl
theorem kX2_init_4 : lkp tX2_init 4 = some (.aload_n 0, 0) := rfl
theorem kX2_init_5 : lkp tX2_init 5 = some (.bipush 40, 0) := rfl
theorem kX2_init_7 : lkp tX2_init 7 = some (.newarray .int, 0) := rfl
theorem kX2_init_9 : lkp tX2_init 9 = some (.putfield 9, 0) := rfl
theorem kX2_init_12 : lkp tX2_init 12 = some (.aload_n 0, 0) := rfl
theorem kX2_init_13 : lkp tX2_init 13 = some (.iconst 4, 0) := rfl
theorem kX2_init_14 : lkp tX2_init 14 = some (.newarray .int, 0) := rfl
theorem kX2_init_16 : lkp tX2_init 16 = some (.putfield 15, 0) := rfl
theorem kX2_init_19 : lkp tX2_init 19 = some (.return_, 0) := rfl
theorem kX2_parse_0 : lkp tX2_parse 0 = some (.aload_n 0, 0) := rfl
theorem kX2_parse_1 : lkp tX2_parse 1 = some (.iconst 0, 0) := rfl
theorem kX2_parse_2 : lkp tX2_parse 2 = some (.putfield 18, 0) := rfl
theorem kX2_parse_5 : lkp tX2_parse 5 = some (.aload_n 0, 0) := rfl
theorem kX2_parse_6 : lkp tX2_parse 6 = some (.iconst 0, 0) := rfl
theorem kX2_parse_7 : lkp tX2_parse 7 = some (.putfield 22, 0) := rfl
theorem kX2_parse_10 : lkp tX2_parse 10 = some (.aload_n 0, 0) := rfl
theorem kX2_parse_11 : lkp tX2_parse 11 = some (.aload_n 0, 0) := rfl
theorem kX2_parse_12 : lkp tX2_parse 12 = some (.invokevirtual 25, 0) := rfl
theorem kX2_parse_15 : lkp tX2_parse 15 = some (.putfield 29, 0) := rfl
theorem kX2_parse_18 : lkp tX2_parse 18 = some (.aload_n 0, 0) := rfl
theorem kX2_parse_19 : lkp tX2_parse 19 = some (.getfield 29, 0) := rfl
theorem kX2_parse_22 : lkp tX2_parse 22 = some (.iconst (-1), 0) := rfl
theorem kX2_parse_23 : lkp tX2_parse 23 = some (.if_icmp .eq 12, 35) := rfl
theorem kX2_parse_26 : lkp tX2_parse 26 = some (.aload_n 0, 0) := rfl
theorem kX2_parse_27 : lkp tX2_parse 27 = some (.bipush 44, 0) := rfl
theorem kX2_parse_29 : lkp tX2_parse 29 = some (.invokevirtual 32, 0) := rfl
theorem kX2_parse_32 : lkp tX2_parse 32 = some (.ifCond .ne 5, 37) := rfl
theorem kX2_parse_35 : lkp tX2_parse 35 = some (.iconst 0, 0) := rfl
theorem kX2_parse_36 : lkp tX2_parse 36 = some (.ireturn, 0) := rfl
theorem kX2_parse_37 : lkp tX2_parse 37 = some (.aload_n 0, 0) := rfl
theorem kX2_parse_38 : lkp tX2_parse 38 = some (.aload_n 0, 0) := rfl
theorem kX2_parse_39 : lkp tX2_parse 39 = some (.invokevirtual 25, 0) := rfl
theorem kX2_parse_42 : lkp tX2_parse 42 = some (.putfield 36, 0) := rfl
theorem kX2_parse_45 : lkp tX2_parse 45 = some (.aload_n 0, 0) := rfl
theorem kX2_parse_46 : lkp tX2_parse 46 = some (.getfield 36, 0) := rfl
theorem kX2_parse_49 : lkp tX2_parse 49 = some (.iconst (-1), 0) := rfl
theorem kX2_parse_50 : lkp tX2_parse 50 = some (.if_icmp .eq 12, 62) := rfl
theorem kX2_parse_53 : lkp tX2_parse 53 = some (.aload_n 0, 0) := rfl
theorem kX2_parse_54 : lkp tX2_parse 54 = some (.bipush 102, 0) := rfl
theorem kX2_parse_56 : lkp tX2_parse 56 = some (.invokevirtual 32, 0) := rfl
theorem kX2_parse_59 : lkp tX2_parse 59 = some (.ifCond .ne 5, 64) := rfl
theorem kX2_parse_62 : lkp tX2_parse 62 = some (.iconst 0, 0) := rfl
theorem kX2_parse_63 : lkp tX2_parse 63 = some (.ireturn, 0) := rfl
theorem kX2_parse_64 : lkp tX2_parse 64 = some (.aload_n 0, 0) := rfl
theorem kX2_parse_65 : lkp tX2_parse 65 = some (.aload_n 0, 0) := rfl
theorem kX2_parse_66 : lkp tX2_parse 66 = some (.invokevirtual 25, 0) := rfl
theorem kX2_parse_69 : lkp tX2_parse 69 = some (.putfield 39, 0) := rfl
theorem kX2_parse_72 : lkp tX2_parse 72 = some (.aload_n 0, 0) := rfl
theorem kX2_parse_73 : lkp tX2_parse 73 = some (.getfield 39, 0) := rfl
theorem kX2_parse_76 : lkp tX2_parse 76 = some (.iconst (-1), 0) := rfl
theorem kX2_parse_77 : lkp tX2_parse 77 = some (.if_icmp .eq 12, 89) := rfl
theorem kX2_parse_80 : lkp tX2_parse 80 = some (.aload_n 0, 0) := rfl
theorem kX2_parse_81 : lkp tX2_parse 81 = some (.bipush 108, 0) := rfl
theorem kX2_parse_83 : lkp tX2_parse 83 = some (.invokevirtual 32, 0) := rfl
theorem kX2_parse_86 : lkp tX2_parse 86 = some (.ifCond .ne 5, 91) := rfl
theorem kX2_parse_89 : lkp tX2_parse 89 = some (.iconst 0, 0) := rfl
theorem kX2_parse_90 : lkp tX2_parse 90 = some (.ireturn, 0) := rfl
theorem kX2_parse_91 : lkp tX2_parse 91 = some (.aload_n 0, 0) := rfl
theorem kX2_parse_92 : lkp tX2_parse 92 = some (.aload_n 0, 0) := rfl
theorem kX2_parse_93 : lkp tX2_parse 93 = some (.invokevirtual 25, 0) := rfl
theorem kX2_parse_96 : lkp tX2_parse 96 = some (.putfield 42, 0) := rfl
theorem kX2_parse_99 : lkp tX2_parse 99 = some (.aload_n 0, 0) := rfl
theorem kX2_parse_100 : lkp tX2_parse 100 = some (.getfield 42, 0) := rfl
theorem kX2_parse_103 : lkp tX2_parse 103 = some (.iconst (-1), 0) := rfl
theorem kX2_parse_104 : lkp tX2_parse 104 = some (.if_icmp .ne 5, 109) := rfl
theorem kX2_parse_107 : lkp tX2_parse 107 = some (.iconst 0, 0) := rfl
theorem kX2_parse_108 : lkp tX2_parse 108 = some (.ireturn, 0) := rfl
theorem kX2_parse_109 : lkp tX2_parse 109 = some (.aload_n 0, 0) := rfl
theorem kX2_parse_110 : lkp tX2_parse 110 = some (.getfield 18, 0) := rfl
theorem kX2_parse_113 : lkp tX2_parse 113 = some (.aload_n 0, 0) := rfl
theorem kX2_parse_114 : lkp tX2_parse 114 = some (.getfield 45, 0) := rfl
theorem kX2_parse_117 : lkp tX2_parse 117 = some (.if_icmp .eq 19, 136) := rfl
theorem kX2_parse_120 : lkp tX2_parse 120 = some (.aload_n 0, 0) := rfl
theorem kX2_parse_121 : lkp tX2_parse 121 = some (.bipush 58, 0) := rfl
theorem kX2_parse_123 : lkp tX2_parse 123 = some (.invokevirtual 32, 0) := rfl
theorem kX2_parse_126 : lkp tX2_parse 126 = some (.ifCond .eq 14, 140) := rfl
theorem kX2_parse_129 : lkp tX2_parse 129 = some (.aload_n 0, 0) := rfl
theorem kX2_parse_130 : lkp tX2_parse 130 = some (.invokevirtual 48, 0) := rfl
theorem kX2_parse_133 : lkp tX2_parse 133 = some (.ifCond .eq 7, 140) := rfl
theorem kX2_parse_136 : lkp tX2_parse 136 = some (.iconst 1, 0) := rfl
theorem kX2_parse_137 : lkp tX2_parse 137 = some (.goto 4, 141) := rfl
theorem kX2_parse_140 : lkp tX2_parse 140 = some (.iconst 0, 0) := rfl
theorem kX2_parse_141 : lkp tX2_parse 141 = some (.ireturn, 0) := rfl
theorem kX2_readNumber_0 : lkp tX2_readNumber 0 = some (.iconst 0, 0) := rfl
theorem kX2_readNumber_1 : lkp tX2_readNumber 1 = some (.istore_n 1, 0) := rfl
theorem kX2_readNumber_2 : lkp tX2_readNumber 2 = some (.iconst 0, 0) := rfl
theorem kX2_readNumber_3 : lkp tX2_readNumber 3 = some (.istore_n 2, 0) := rfl
theorem kX2_readNumber_4 : lkp tX2_readNumber 4 = some (.iload_n 2, 0) := rfl
theorem kX2_readNumber_5 : lkp tX2_readNumber 5 = some (.iconst 3, 0) := rfl
theorem kX2_readNumber_6 : lkp tX2_readNumber 6 = some (.if_icmp .ge 46, 52) := rfl
theorem kX2_readNumber_9 : lkp tX2_readNumber 9 = some (.aload_n 0, 0) := rfl
theorem kX2_readNumber_10 : lkp tX2_readNumber 10 = some (.invokevirtual 52, 0) := rfl
theorem kX2_readNumber_13 : lkp tX2_readNumber 13 = some (.istore_n 3, 0) := rfl
theorem kX2_readNumber_14 : lkp tX2_readNumber 14 = some (.iload_n 3, 0) := rfl
theorem kX2_readNumber_15 : lkp tX2_readNumber 15 = some (.iconst (-1), 0) := rfl
theorem kX2_readNumber_16 : lkp tX2_readNumber 16 = some (.if_icmp .ne 13, 29) := rfl
theorem kX2_readNumber_19 : lkp tX2_readNumber 19 = some (.iload_n 2, 0) := rfl
theorem kX2_readNumber_20 : lkp tX2_readNumber 20 = some (.ifCond .ne 7, 27) := rfl
theorem kX2_readNumber_23 : lkp tX2_readNumber 23 = some (.iconst (-1), 0) := rfl
theorem kX2_readNumber_24 : lkp tX2_readNumber 24 = some (.goto 4, 28) := rfl
theorem kX2_readNumber_27 : lkp tX2_readNumber 27 = some (.iload_n 1, 0) := rfl
theorem kX2_readNumber_28 : lkp tX2_readNumber 28 = some (.ireturn, 0) := rfl
theorem kX2_readNumber_29 : lkp tX2_readNumber 29 = some (.iload_n 1, 0) := rfl
theorem kX2_readNumber_30 : lkp tX2_readNumber 30 = some (.bipush 10, 0) := rfl
theorem kX2_readNumber_32 : lkp tX2_readNumber 32 = some (.imul, 0) := rfl
theorem kX2_readNumber_33 : lkp tX2_readNumber 33 = some (.iload_n 3, 0) := rfl
theorem kX2_readNumber_34 : lkp tX2_readNumber 34 = some (.iadd, 0) := rfl
theorem kX2_readNumber_35 : lkp tX2_readNumber 35 = some (.istore_n 1, 0) := rfl
theorem kX2_readNumber_36 : lkp tX2_readNumber 36 = some (.aload_n 0, 0) := rfl
theorem kX2_readNumber_37 : lkp tX2_readNumber 37 = some (.dup, 0) := rfl
theorem kX2_readNumber_38 : lkp tX2_readNumber 38 = some (.getfield 18, 0) := rfl
theorem kX2_readNumber_41 : lkp tX2_readNumber 41 = some (.iconst 1, 0) := rfl
theorem kX2_readNumber_42 : lkp tX2_readNumber 42 = some (.iadd, 0) := rfl
theorem kX2_readNumber_43 : lkp tX2_readNumber 43 = some (.putfield 18, 0) := rfl
theorem kX2_readNumber_46 : lkp tX2_readNumber 46 = some (.iinc 2 1, 0) := rfl
theorem kX2_readNumber_49 : lkp tX2_readNumber 49 = some (.goto (-45), 4) := rfl
theorem kX2_readNumber_52 : lkp tX2_readNumber 52 = some (.iload_n 1, 0) := rfl
theorem kX2_readNumber_53 : lkp tX2_readNumber 53 = some (.ireturn, 0) := rfl
theorem kX2_digitHere_0 : lkp tX2_digitHere 0 = some (.aload_n 0, 0) := rfl
theorem kX2_digitHere_1 : lkp tX2_digitHere 1 = some (.getfield 18, 0) := rfl
theorem kX2_digitHere_4 : lkp tX2_digitHere 4 = some (.aload_n 0, 0) := rfl
theorem kX2_digitHere_5 : lkp tX2_digitHere 5 = some (.getfield 45, 0) := rfl
theorem kX2_digitHere_8 : lkp tX2_digitHere 8 = some (.if_icmp .lt 5, 13) := rfl
theorem kX2_digitHere_11 : lkp tX2_digitHere 11 = some (.iconst (-1), 0) := rfl
theorem kX2_digitHere_12 : lkp tX2_digitHere 12 = some (.ireturn, 0) := rfl
theorem kX2_digitHere_13 : lkp tX2_digitHere 13 = some (.aload_n 0, 0) := rfl
theorem kX2_digitHere_14 : lkp tX2_digitHere 14 = some (.getfield 9, 0) := rfl
theorem kX2_digitHere_17 : lkp tX2_digitHere 17 = some (.aload_n 0, 0) := rfl
theorem kX2_digitHere_18 : lkp tX2_digitHere 18 = some (.getfield 18, 0) := rfl
theorem kX2_digitHere_21 : lkp tX2_digitHere 21 = some (.iaload, 0) := rfl
theorem kX2_digitHere_22 : lkp tX2_digitHere 22 = some (.istore_n 1, 0) := rfl
theorem kX2_digitHere_23 : lkp tX2_digitHere 23 = some (.iload_n 1, 0) := rfl
theorem kX2_digitHere_24 : lkp tX2_digitHere 24 = some (.bipush 48, 0) := rfl
theorem kX2_digitHere_26 : lkp tX2_digitHere 26 = some (.if_icmp .lt 16, 42) := rfl
theorem kX2_digitHere_29 : lkp tX2_digitHere 29 = some (.iload_n 1, 0) := rfl
theorem kX2_digitHere_30 : lkp tX2_digitHere 30 = some (.bipush 57, 0) := rfl
theorem kX2_digitHere_32 : lkp tX2_digitHere 32 = some (.if_icmp .gt 10, 42) := rfl
theorem kX2_digitHere_35 : lkp tX2_digitHere 35 = some (.iload_n 1, 0) := rfl
theorem kX2_digitHere_36 : lkp tX2_digitHere 36 = some (.bipush 48, 0) := rfl
theorem kX2_digitHere_38 : lkp tX2_digitHere 38 = some (.isub, 0) := rfl
theorem kX2_digitHere_39 : lkp tX2_digitHere 39 = some (.goto 4, 43) := rfl
theorem kX2_digitHere_42 : lkp tX2_digitHere 42 = some (.iconst (-1), 0) := rfl
theorem kX2_digitHere_43 : lkp tX2_digitHere 43 = some (.ireturn, 0) := rfl
theorem kX2_readSign_0 : lkp tX2_readSign 0 = some (.aload_n 0, 0) := rfl
theorem kX2_readSign_1 : lkp tX2_readSign 1 = some (.getfield 18, 0) := rfl
theorem kX2_readSign_4 : lkp tX2_readSign 4 = some (.aload_n 0, 0) := rfl
theorem kX2_readSign_5 : lkp tX2_readSign 5 = some (.getfield 45, 0) := rfl
theorem kX2_readSign_8 : lkp tX2_readSign 8 = some (.if_icmp .ge 16, 24) := rfl
theorem kX2_readSign_11 : lkp tX2_readSign 11 = some (.aload_n 0, 0) := rfl
theorem kX2_readSign_12 : lkp tX2_readSign 12 = some (.getfield 9, 0) := rfl
theorem kX2_readSign_15 : lkp tX2_readSign 15 = some (.aload_n 0, 0) := rfl
theorem kX2_readSign_16 : lkp tX2_readSign 16 = some (.getfield 18, 0) := rfl
theorem kX2_readSign_19 : lkp tX2_readSign 19 = some (.iaload, 0) := rfl
theorem kX2_readSign_20 : lkp tX2_readSign 20 = some (.iload_n 1, 0) := rfl
theorem kX2_readSign_21 : lkp tX2_readSign 21 = some (.if_icmp .eq 5, 26) := rfl
theorem kX2_readSign_24 : lkp tX2_readSign 24 = some (.iconst 0, 0) := rfl
theorem kX2_readSign_25 : lkp tX2_readSign 25 = some (.ireturn, 0) := rfl
theorem kX2_readSign_26 : lkp tX2_readSign 26 = some (.aload_n 0, 0) := rfl
theorem kX2_readSign_27 : lkp tX2_readSign 27 = some (.dup, 0) := rfl
theorem kX2_readSign_28 : lkp tX2_readSign 28 = some (.getfield 18, 0) := rfl
theorem kX2_readSign_31 : lkp tX2_readSign 31 = some (.iconst 1, 0) := rfl
theorem kX2_readSign_32 : lkp tX2_readSign 32 = some (.iadd, 0) := rfl
theorem kX2_readSign_33 : lkp tX2_readSign 33 = some (.putfield 18, 0) := rfl
theorem kX2_readSign_36 : lkp tX2_readSign 36 = some (.iconst 1, 0) := rfl
theorem kX2_readSign_37 : lkp tX2_readSign 37 = some (.ireturn, 0) := rfl
theorem kX2_readChoices_0 : lkp tX2_readChoices 0 = some (.iconst 0, 0) := rfl
theorem kX2_readChoices_1 : lkp tX2_readChoices 1 = some (.istore_n 1, 0) := rfl
theorem kX2_readChoices_2 : lkp tX2_readChoices 2 = some (.iload_n 1, 0) := rfl
theorem kX2_readChoices_3 : lkp tX2_readChoices 3 = some (.iconst 4, 0) := rfl
theorem kX2_readChoices_4 : lkp tX2_readChoices 4 = some (.if_icmp .ge 66, 70) := rfl
theorem kX2_readChoices_7 : lkp tX2_readChoices 7 = some (.aload_n 0, 0) := rfl
theorem kX2_readChoices_8 : lkp tX2_readChoices 8 = some (.invokevirtual 52, 0) := rfl
theorem kX2_readChoices_11 : lkp tX2_readChoices 11 = some (.istore_n 2, 0) := rfl
theorem kX2_readChoices_12 : lkp tX2_readChoices 12 = some (.iload_n 2, 0) := rfl
theorem kX2_readChoices_13 : lkp tX2_readChoices 13 = some (.iconst (-1), 0) := rfl
theorem kX2_readChoices_14 : lkp tX2_readChoices 14 = some (.if_icmp .eq 56, 70) := rfl
theorem kX2_readChoices_17 : lkp tX2_readChoices 17 = some (.iload_n 2, 0) := rfl
theorem kX2_readChoices_18 : lkp tX2_readChoices 18 = some (.bipush 6, 0) := rfl
theorem kX2_readChoices_20 : lkp tX2_readChoices 20 = some (.if_icmp .ge 50, 70) := rfl
theorem kX2_readChoices_23 : lkp tX2_readChoices 23 = some (.aload_n 0, 0) := rfl
theorem kX2_readChoices_24 : lkp tX2_readChoices 24 = some (.iload_n 2, 0) := rfl
theorem kX2_readChoices_25 : lkp tX2_readChoices 25 = some (.invokevirtual 55, 0) := rfl
theorem kX2_readChoices_28 : lkp tX2_readChoices 28 = some (.ifCond .eq 6, 34) := rfl
theorem kX2_readChoices_31 : lkp tX2_readChoices 31 = some (.goto 39, 70) := rfl
theorem kX2_readChoices_34 : lkp tX2_readChoices 34 = some (.aload_n 0, 0) := rfl
theorem kX2_readChoices_35 : lkp tX2_readChoices 35 = some (.getfield 15, 0) := rfl
theorem kX2_readChoices_38 : lkp tX2_readChoices 38 = some (.aload_n 0, 0) := rfl
theorem kX2_readChoices_39 : lkp tX2_readChoices 39 = some (.getfield 22, 0) := rfl
theorem kX2_readChoices_42 : lkp tX2_readChoices 42 = some (.iload_n 2, 0) := rfl
theorem kX2_readChoices_43 : lkp tX2_readChoices 43 = some (.iastore, 0) := rfl
theorem kX2_readChoices_44 : lkp tX2_readChoices 44 = some (.aload_n 0, 0) := rfl
theorem kX2_readChoices_45 : lkp tX2_readChoices 45 = some (.dup, 0) := rfl
theorem kX2_readChoices_46 : lkp tX2_readChoices 46 = some (.getfield 22, 0) := rfl
theorem kX2_readChoices_49 : lkp tX2_readChoices 49 = some (.iconst 1, 0) := rfl
theorem kX2_readChoices_50 : lkp tX2_readChoices 50 = some (.iadd, 0) := rfl
theorem kX2_readChoices_51 : lkp tX2_readChoices 51 = some (.putfield 22, 0) := rfl
theorem kX2_readChoices_54 : lkp tX2_readChoices 54 = some (.aload_n 0, 0) := rfl
theorem kX2_readChoices_55 : lkp tX2_readChoices 55 = some (.dup, 0) := rfl
theorem kX2_readChoices_56 : lkp tX2_readChoices 56 = some (.getfield 18, 0) := rfl
theorem kX2_readChoices_59 : lkp tX2_readChoices 59 = some (.iconst 1, 0) := rfl
theorem kX2_readChoices_60 : lkp tX2_readChoices 60 = some (.iadd, 0) := rfl
theorem kX2_readChoices_61 : lkp tX2_readChoices 61 = some (.putfield 18, 0) := rfl
theorem kX2_readChoices_64 : lkp tX2_readChoices 64 = some (.iinc 1 1, 0) := rfl
theorem kX2_readChoices_67 : lkp tX2_readChoices 67 = some (.goto (-65), 2) := rfl
theorem kX2_readChoices_70 : lkp tX2_readChoices 70 = some (.aload_n 0, 0) := rfl
theorem kX2_readChoices_71 : lkp tX2_readChoices 71 = some (.getfield 22, 0) := rfl
theorem kX2_readChoices_74 : lkp tX2_readChoices 74 = some (.ifCond .le 18, 92) := rfl
theorem kX2_readChoices_77 : lkp tX2_readChoices 77 = some (.aload_n 0, 0) := rfl
theorem kX2_readChoices_78 : lkp tX2_readChoices 78 = some (.getfield 18, 0) := rfl
theorem kX2_readChoices_81 : lkp tX2_readChoices 81 = some (.aload_n 0, 0) := rfl
theorem kX2_readChoices_82 : lkp tX2_readChoices 82 = some (.getfield 45, 0) := rfl
theorem kX2_readChoices_85 : lkp tX2_readChoices 85 = some (.if_icmp .ne 7, 92) := rfl
theorem kX2_readChoices_88 : lkp tX2_readChoices 88 = some (.iconst 1, 0) := rfl
theorem kX2_readChoices_89 : lkp tX2_readChoices 89 = some (.goto 4, 93) := rfl
theorem kX2_readChoices_92 : lkp tX2_readChoices 92 = some (.iconst 0, 0) := rfl
theorem kX2_readChoices_93 : lkp tX2_readChoices 93 = some (.ireturn, 0) := rfl
theorem kX2_hasChoice_0 : lkp tX2_hasChoice 0 = some (.iconst 0, 0) := rfl
theorem kX2_hasChoice_1 : lkp tX2_hasChoice 1 = some (.istore_n 2, 0) := rfl
theorem kX2_hasChoice_2 : lkp tX2_hasChoice 2 = some (.iload_n 2, 0) := rfl
theorem kX2_hasChoice_3 : lkp tX2_hasChoice 3 = some (.aload_n 0, 0) := rfl
theorem kX2_hasChoice_4 : lkp tX2_hasChoice 4 = some (.getfield 22, 0) := rfl
theorem kX2_hasChoice_7 : lkp tX2_hasChoice 7 = some (.if_icmp .ge 21, 28) := rfl
theorem kX2_hasChoice_10 : lkp tX2_hasChoice 10 = some (.aload_n 0, 0) := rfl
theorem kX2_hasChoice_11 : lkp tX2_hasChoice 11 = some (.getfield 15, 0) := rfl
theorem kX2_hasChoice_14 : lkp tX2_hasChoice 14 = some (.iload_n 2, 0) := rfl
theorem kX2_hasChoice_15 : lkp tX2_hasChoice 15 = some (.iaload, 0) := rfl
theorem kX2_hasChoice_16 : lkp tX2_hasChoice 16 = some (.iload_n 1, 0) := rfl
theorem kX2_hasChoice_17 : lkp tX2_hasChoice 17 = some (.if_icmp .ne 5, 22) := rfl
theorem kX2_hasChoice_20 : lkp tX2_hasChoice 20 = some (.iconst 1, 0) := rfl
theorem kX2_hasChoice_21 : lkp tX2_hasChoice 21 = some (.ireturn, 0) := rfl
theorem kX2_hasChoice_22 : lkp tX2_hasChoice 22 = some (.iinc 2 1, 0) := rfl
theorem kX2_hasChoice_25 : lkp tX2_hasChoice 25 = some (.goto (-23), 2) := rfl
theorem kX2_hasChoice_28 : lkp tX2_hasChoice 28 = some (.iconst 0, 0) := rfl
theorem kX2_hasChoice_29 : lkp tX2_hasChoice 29 = some (.ireturn, 0) := rfl
theorem kX3_init_0 : lkp tX3_init 0 = some (.aload_n 0, 0) := rfl
theorem kX3_init_1 : lkp tX3_init 1 = some (.invokespecial 3, 0) := rfl
theorem kX3_init_4 : lkp tX3_init 4 = some (.aload_n 0, 0) := rfl
theorem kX3_init_5 : lkp tX3_init 5 = some (.bipush 6, 0) := rfl
theorem kX3_init_7 : lkp tX3_init 7 = some (.anewarray 9, 0) := rfl
theorem kX3_init_10 : lkp tX3_init 10 = some (.putfield 11, 0) := rfl
theorem kX3_init_13 : lkp tX3_init 13 = some (.iconst 0, 0) := rfl
theorem kX3_init_14 : lkp tX3_init 14 = some (.istore_n 1, 0) := rfl
theorem kX3_init_15 : lkp tX3_init 15 = some (.iload_n 1, 0) := rfl
theorem kX3_init_16 : lkp tX3_init 16 = some (.bipush 6, 0) := rfl
theorem kX3_init_18 : lkp tX3_init 18 = some (.if_icmp .ge 22, 40) := rfl
theorem kX3_init_21 : lkp tX3_init 21 = some (.aload_n 0, 0) := rfl
theorem kX3_init_22 : lkp tX3_init 22 = some (.getfield 11, 0) := rfl
theorem kX3_init_25 : lkp tX3_init 25 = some (.iload_n 1, 0) := rfl
theorem kX3_init_26 : lkp tX3_init 26 = some (.new 9, 0) := rfl
theorem kX3_init_29 : lkp tX3_init 29 = some (.dup, 0) := rfl
theorem kX3_init_30 : lkp tX3_init 30 = some (.invokespecial 17, 0) := rfl
theorem kX3_init_33 : lkp tX3_init 33 = some (.aastore, 0) := rfl
theorem kX3_init_34 : lkp tX3_init 34 = some (.iinc 1 1, 0) := rfl
theorem kX3_init_37 : lkp tX3_init 37 = some (.goto (-22), 15) := rfl
theorem kX3_init_40 : lkp tX3_init 40 = some (.aload_n 0, 0) := rfl
theorem kX3_init_41 : lkp tX3_init 41 = some (.bipush 24, 0) := rfl
theorem kX3_init_43 : lkp tX3_init 43 = some (.anewarray 18, 0) := rfl
theorem kX3_init_46 : lkp tX3_init 46 = some (.putfield 20, 0) := rfl
theorem kX3_init_49 : lkp tX3_init 49 = some (.iconst 0, 0) := rfl
theorem kX3_init_50 : lkp tX3_init 50 = some (.istore_n 1, 0) := rfl
theorem kX3_init_51 : lkp tX3_init 51 = some (.iload_n 1, 0) := rfl
theorem kX3_init_52 : lkp tX3_init 52 = some (.bipush 24, 0) := rfl
theorem kX3_init_54 : lkp tX3_init 54 = some (.if_icmp .ge 22, 76) := rfl
theorem kX3_init_57 : lkp tX3_init 57 = some (.aload_n 0, 0) := rfl
theorem kX3_init_58 : lkp tX3_init 58 = some (.getfield 20, 0) := rfl
theorem kX3_init_61 : lkp tX3_init 61 = some (.iload_n 1, 0) := rfl
theorem kX3_init_62 : lkp tX3_init 62 = some (.new 18, 0) := rfl
theorem kX3_init_65 : lkp tX3_init 65 = some (.dup, 0) := rfl
theorem kX3_init_66 : lkp tX3_init 66 = some (.invokespecial 24, 0) := rfl
theorem kX3_init_69 : lkp tX3_init 69 = some (.aastore, 0) := rfl
theorem kX3_init_70 : lkp tX3_init 70 = some (.iinc 1 1, 0) := rfl
theorem kX3_init_73 : lkp tX3_init 73 = some (.goto (-22), 51) := rfl
theorem kX3_init_76 : lkp tX3_init 76 = some (.aload_n 0, 0) := rfl
theorem kX3_init_77 : lkp tX3_init 77 = some (.bipush 12, 0) := rfl
theorem kX3_init_79 : lkp tX3_init 79 = some (.newarray .int, 0) := rfl
theorem kX3_init_81 : lkp tX3_init 81 = some (.putfield 25, 0) := rfl
theorem kX3_init_84 : lkp tX3_init 84 = some (.aload_n 0, 0) := rfl
theorem kX3_init_85 : lkp tX3_init 85 = some (.new 29, 0) := rfl
theorem kX3_init_88 : lkp tX3_init 88 = some (.dup, 0) := rfl
theorem kX3_init_89 : lkp tX3_init 89 = some (.invokespecial 31, 0) := rfl
theorem kX3_init_92 : lkp tX3_init 92 = some (.putfield 32, 0) := rfl
theorem kX3_init_95 : lkp tX3_init 95 = some (.return_, 0) := rfl
theorem kX3_copyFrom_0 : lkp tX3_copyFrom 0 = some (.aload_n 0, 0) := rfl
theorem kX3_copyFrom_1 : lkp tX3_copyFrom 1 = some (.aload_n 1, 0) := rfl
theorem kX3_copyFrom_2 : lkp tX3_copyFrom 2 = some (.getfield 36, 0) := rfl
theorem kX3_copyFrom_5 : lkp tX3_copyFrom 5 = some (.putfield 36, 0) := rfl
theorem kX3_copyFrom_8 : lkp tX3_copyFrom 8 = some (.aload_n 0, 0) := rfl
theorem kX3_copyFrom_9 : lkp tX3_copyFrom 9 = some (.aload_n 1, 0) := rfl
theorem kX3_copyFrom_10 : lkp tX3_copyFrom 10 = some (.getfield 40, 0) := rfl
theorem kX3_copyFrom_13 : lkp tX3_copyFrom 13 = some (.putfield 40, 0) := rfl
theorem kX3_copyFrom_16 : lkp tX3_copyFrom 16 = some (.iconst 0, 0) := rfl
theorem kX3_copyFrom_17 : lkp tX3_copyFrom 17 = some (.istore_n 2, 0) := rfl
theorem kX3_copyFrom_18 : lkp tX3_copyFrom 18 = some (.iload_n 2, 0) := rfl
theorem kX3_copyFrom_19 : lkp tX3_copyFrom 19 = some (.aload_n 0, 0) := rfl
theorem kX3_copyFrom_20 : lkp tX3_copyFrom 20 = some (.getfield 36, 0) := rfl
theorem kX3_copyFrom_23 : lkp tX3_copyFrom 23 = some (.if_icmp .ge 24, 47) := rfl
theorem kX3_copyFrom_26 : lkp tX3_copyFrom 26 = some (.aload_n 0, 0) := rfl
theorem kX3_copyFrom_27 : lkp tX3_copyFrom 27 = some (.getfield 11, 0) := rfl
theorem kX3_copyFrom_30 : lkp tX3_copyFrom 30 = some (.iload_n 2, 0) := rfl
theorem kX3_copyFrom_31 : lkp tX3_copyFrom 31 = some (.aaload, 0) := rfl
theorem kX3_copyFrom_32 : lkp tX3_copyFrom 32 = some (.aload_n 1, 0) := rfl
theorem kX3_copyFrom_33 : lkp tX3_copyFrom 33 = some (.getfield 11, 0) := rfl
theorem kX3_copyFrom_36 : lkp tX3_copyFrom 36 = some (.iload_n 2, 0) := rfl
theorem kX3_copyFrom_37 : lkp tX3_copyFrom 37 = some (.aaload, 0) := rfl
theorem kX3_copyFrom_38 : lkp tX3_copyFrom 38 = some (.invokevirtual 43, 0) := rfl
theorem kX3_copyFrom_41 : lkp tX3_copyFrom 41 = some (.iinc 2 1, 0) := rfl
theorem kX3_copyFrom_44 : lkp tX3_copyFrom 44 = some (.goto (-26), 18) := rfl
theorem kX3_copyFrom_47 : lkp tX3_copyFrom 47 = some (.iconst 0, 0) := rfl
theorem kX3_copyFrom_48 : lkp tX3_copyFrom 48 = some (.istore_n 2, 0) := rfl
theorem kX3_copyFrom_49 : lkp tX3_copyFrom 49 = some (.iload_n 2, 0) := rfl
theorem kX3_copyFrom_50 : lkp tX3_copyFrom 50 = some (.aload_n 0, 0) := rfl
theorem kX3_copyFrom_51 : lkp tX3_copyFrom 51 = some (.getfield 40, 0) := rfl
theorem kX3_copyFrom_54 : lkp tX3_copyFrom 54 = some (.if_icmp .ge 24, 78) := rfl
theorem kX3_copyFrom_57 : lkp tX3_copyFrom 57 = some (.aload_n 0, 0) := rfl
theorem kX3_copyFrom_58 : lkp tX3_copyFrom 58 = some (.getfield 20, 0) := rfl
theorem kX3_copyFrom_61 : lkp tX3_copyFrom 61 = some (.iload_n 2, 0) := rfl
theorem kX3_copyFrom_62 : lkp tX3_copyFrom 62 = some (.aaload, 0) := rfl
theorem kX3_copyFrom_63 : lkp tX3_copyFrom 63 = some (.aload_n 1, 0) := rfl
theorem kX3_copyFrom_64 : lkp tX3_copyFrom 64 = some (.getfield 20, 0) := rfl
theorem kX3_copyFrom_67 : lkp tX3_copyFrom 67 = some (.iload_n 2, 0) := rfl
theorem kX3_copyFrom_68 : lkp tX3_copyFrom 68 = some (.aaload, 0) := rfl
theorem kX3_copyFrom_69 : lkp tX3_copyFrom 69 = some (.invokevirtual 47, 0) := rfl
theorem kX3_copyFrom_72 : lkp tX3_copyFrom 72 = some (.iinc 2 1, 0) := rfl
theorem kX3_copyFrom_75 : lkp tX3_copyFrom 75 = some (.goto (-26), 49) := rfl
theorem kX3_copyFrom_78 : lkp tX3_copyFrom 78 = some (.aload_n 1, 0) := rfl
theorem kX3_copyFrom_79 : lkp tX3_copyFrom 79 = some (.getfield 25, 0) := rfl
theorem kX3_copyFrom_82 : lkp tX3_copyFrom 82 = some (.iconst 0, 0) := rfl
theorem kX3_copyFrom_83 : lkp tX3_copyFrom 83 = some (.aload_n 0, 0) := rfl
theorem kX3_copyFrom_84 : lkp tX3_copyFrom 84 = some (.getfield 25, 0) := rfl
theorem kX3_copyFrom_87 : lkp tX3_copyFrom 87 = some (.iconst 0, 0) := rfl
theorem kX3_copyFrom_88 : lkp tX3_copyFrom 88 = some (.bipush 12, 0) := rfl
theorem kX3_copyFrom_90 : lkp tX3_copyFrom 90 = some (.invokestatic 50, 0) := rfl
theorem kX3_copyFrom_93 : lkp tX3_copyFrom 93 = some (.aload_n 0, 0) := rfl
theorem kX3_copyFrom_94 : lkp tX3_copyFrom 94 = some (.getfield 32, 0) := rfl
theorem kX3_copyFrom_97 : lkp tX3_copyFrom 97 = some (.aload_n 1, 0) := rfl
theorem kX3_copyFrom_98 : lkp tX3_copyFrom 98 = some (.getfield 32, 0) := rfl
theorem kX3_copyFrom_101 : lkp tX3_copyFrom 101 = some (.invokevirtual 56, 0) := rfl
theorem kX3_copyFrom_104 : lkp tX3_copyFrom 104 = some (.return_, 0) := rfl
theorem kX3_isSibling_0 : lkp tX3_isSibling 0 = some (.aload_n 0, 0) := rfl
theorem kX3_isSibling_1 : lkp tX3_isSibling 1 = some (.getfield 25, 0) := rfl
theorem kX3_isSibling_4 : lkp tX3_isSibling 4 = some (.aload_n 1, 0) := rfl
theorem kX3_isSibling_5 : lkp tX3_isSibling 5 = some (.getfield 59, 0) := rfl
theorem kX3_isSibling_8 : lkp tX3_isSibling 8 = some (.iaload, 0) := rfl
theorem kX3_isSibling_9 : lkp tX3_isSibling 9 = some (.iload_n 3, 0) := rfl
theorem kX3_isSibling_10 : lkp tX3_isSibling 10 = some (.ior, 0) := rfl
theorem kX3_isSibling_11 : lkp tX3_isSibling 11 = some (.iload_n 2, 0) := rfl
theorem kX3_isSibling_12 : lkp tX3_isSibling 12 = some (.invokestatic 62, 0) := rfl
theorem kX3_isSibling_15 : lkp tX3_isSibling 15 = some (.ireturn, 0) := rfl
theorem kX3_classOf_0 : lkp tX3_classOf 0 = some (.aload_n 1, 0) := rfl
theorem kX3_classOf_1 : lkp tX3_classOf 1 = some (.getfield 66, 0) := rfl
theorem kX3_classOf_4 : lkp tX3_classOf 4 = some (.iload_n 2, 0) := rfl
theorem kX3_classOf_5 : lkp tX3_classOf 5 = some (.if_icmp .ne 5, 10) := rfl
theorem kX3_classOf_8 : lkp tX3_classOf 8 = some (.iconst 0, 0) := rfl
theorem kX3_classOf_9 : lkp tX3_classOf 9 = some (.ireturn, 0) := rfl
theorem kX3_classOf_10 : lkp tX3_classOf 10 = some (.aload_n 0, 0) := rfl
theorem kX3_classOf_11 : lkp tX3_classOf 11 = some (.aload_n 1, 0) := rfl
theorem kX3_classOf_12 : lkp tX3_classOf 12 = some (.iload_n 2, 0) := rfl
theorem kX3_classOf_13 : lkp tX3_classOf 13 = some (.iload_n 3, 0) := rfl
theorem kX3_classOf_14 : lkp tX3_classOf 14 = some (.invokevirtual 69, 0) := rfl
theorem kX3_classOf_17 : lkp tX3_classOf 17 = some (.istore 4, 0) := rfl
theorem kX3_classOf_19 : lkp tX3_classOf 19 = some (.aload_n 0, 0) := rfl
theorem kX3_classOf_20 : lkp tX3_classOf 20 = some (.getfield 11, 0) := rfl
theorem kX3_classOf_23 : lkp tX3_classOf 23 = some (.iload_n 2, 0) := rfl
theorem kX3_classOf_24 : lkp tX3_classOf 24 = some (.aaload, 0) := rfl
theorem kX3_classOf_25 : lkp tX3_classOf 25 = some (.aload_n 1, 0) := rfl
theorem kX3_classOf_26 : lkp tX3_classOf 26 = some (.invokevirtual 73, 0) := rfl
theorem kX3_classOf_29 : lkp tX3_classOf 29 = some (.aload_n 0, 0) := rfl
theorem kX3_classOf_30 : lkp tX3_classOf 30 = some (.getfield 11, 0) := rfl
theorem kX3_classOf_33 : lkp tX3_classOf 33 = some (.iload_n 2, 0) := rfl
theorem kX3_classOf_34 : lkp tX3_classOf 34 = some (.aaload, 0) := rfl
theorem kX3_classOf_35 : lkp tX3_classOf 35 = some (.getfield 77, 0) := rfl
theorem kX3_classOf_38 : lkp tX3_classOf 38 = some (.if_icmp .gt 7, 45) := rfl
theorem kX3_classOf_41 : lkp tX3_classOf 41 = some (.iconst 1, 0) := rfl
theorem kX3_classOf_42 : lkp tX3_classOf 42 = some (.goto 4, 46) := rfl
theorem kX3_classOf_45 : lkp tX3_classOf 45 = some (.iconst 0, 0) := rfl
theorem kX3_classOf_46 : lkp tX3_classOf 46 = some (.istore 5, 0) := rfl
theorem kX3_classOf_48 : lkp tX3_classOf 48 = some (.iload 4, 0) := rfl
theorem kX3_classOf_50 : lkp tX3_classOf 50 = some (.ifCond .eq 23, 73) := rfl
theorem kX3_classOf_53 : lkp tX3_classOf 53 = some (.iload 5, 0) := rfl
theorem kX3_classOf_55 : lkp tX3_classOf 55 = some (.ifCond .ne 16, 71) := rfl
theorem kX3_classOf_58 : lkp tX3_classOf 58 = some (.aload_n 0, 0) := rfl
theorem kX3_classOf_59 : lkp tX3_classOf 59 = some (.getfield 11, 0) := rfl
theorem kX3_classOf_62 : lkp tX3_classOf 62 = some (.iload_n 2, 0) := rfl
theorem kX3_classOf_63 : lkp tX3_classOf 63 = some (.aaload, 0) := rfl
theorem kX3_classOf_64 : lkp tX3_classOf 64 = some (.getfield 80, 0) := rfl
theorem kX3_classOf_67 : lkp tX3_classOf 67 = some (.iconst 1, 0) := rfl
theorem kX3_classOf_68 : lkp tX3_classOf 68 = some (.if_icmp .ne 5, 73) := rfl
theorem kX3_classOf_71 : lkp tX3_classOf 71 = some (.iconst 1, 0) := rfl
theorem kX3_classOf_72 : lkp tX3_classOf 72 = some (.ireturn, 0) := rfl
theorem kX3_classOf_73 : lkp tX3_classOf 73 = some (.iload 5, 0) := rfl
theorem kX3_classOf_75 : lkp tX3_classOf 75 = some (.ifCond .eq 5, 80) := rfl
theorem kX3_classOf_78 : lkp tX3_classOf 78 = some (.iconst 2, 0) := rfl
theorem kX3_classOf_79 : lkp tX3_classOf 79 = some (.ireturn, 0) := rfl
theorem kX3_classOf_80 : lkp tX3_classOf 80 = some (.iload 4, 0) := rfl
theorem kX3_classOf_82 : lkp tX3_classOf 82 = some (.ifCond .eq 7, 89) := rfl
theorem kX3_classOf_85 : lkp tX3_classOf 85 = some (.iconst 3, 0) := rfl
theorem kX3_classOf_86 : lkp tX3_classOf 86 = some (.goto 4, 90) := rfl
theorem kX3_classOf_89 : lkp tX3_classOf 89 = some (.iconst 4, 0) := rfl
theorem kX3_classOf_90 : lkp tX3_classOf 90 = some (.ireturn, 0) := rfl
theorem kX3_rankKey_0 : lkp tX3_rankKey 0 = some (.aload_n 0, 0) := rfl
theorem kX3_rankKey_1 : lkp tX3_rankKey 1 = some (.getfield 20, 0) := rfl
theorem kX3_rankKey_4 : lkp tX3_rankKey 4 = some (.iload_n 1, 0) := rfl
theorem kX3_rankKey_5 : lkp tX3_rankKey 5 = some (.aaload, 0) := rfl
theorem kX3_rankKey_6 : lkp tX3_rankKey 6 = some (.astore 4, 0) := rfl
theorem kX3_rankKey_8 : lkp tX3_rankKey 8 = some (.aload_n 0, 0) := rfl
theorem kX3_rankKey_9 : lkp tX3_rankKey 9 = some (.aload 4, 0) := rfl
theorem kX3_rankKey_11 : lkp tX3_rankKey 11 = some (.iload_n 2, 0) := rfl
theorem kX3_rankKey_12 : lkp tX3_rankKey 12 = some (.iload_n 3, 0) := rfl
theorem kX3_rankKey_13 : lkp tX3_rankKey 13 = some (.invokevirtual 83, 0) := rfl
theorem kX3_rankKey_16 : lkp tX3_rankKey 16 = some (.istore 5, 0) := rfl
theorem kX3_rankKey_18 : lkp tX3_rankKey 18 = some (.iload 5, 0) := rfl
theorem kX3_rankKey_20 : lkp tX3_rankKey 20 = some (.sipush 199, 0) := rfl
theorem kX3_rankKey_23 : lkp tX3_rankKey 23 = some (.imul, 0) := rfl
theorem kX3_rankKey_24 : lkp tX3_rankKey 24 = some (.aload_n 0, 0) := rfl
theorem kX3_rankKey_25 : lkp tX3_rankKey 25 = some (.getfield 11, 0) := rfl
theorem kX3_rankKey_28 : lkp tX3_rankKey 28 = some (.iload_n 2, 0) := rfl
theorem kX3_rankKey_29 : lkp tX3_rankKey 29 = some (.aaload, 0) := rfl
theorem kX3_rankKey_30 : lkp tX3_rankKey 30 = some (.aload 4, 0) := rfl
theorem kX3_rankKey_32 : lkp tX3_rankKey 32 = some (.invokevirtual 73, 0) := rfl
theorem kX3_rankKey_35 : lkp tX3_rankKey 35 = some (.iadd, 0) := rfl
theorem kX3_rankKey_36 : lkp tX3_rankKey 36 = some (.istore 5, 0) := rfl
theorem kX3_rankKey_38 : lkp tX3_rankKey 38 = some (.iload 5, 0) := rfl
theorem kX3_rankKey_40 : lkp tX3_rankKey 40 = some (.sipush 1000, 0) := rfl
theorem kX3_rankKey_43 : lkp tX3_rankKey 43 = some (.imul, 0) := rfl
theorem kX3_rankKey_44 : lkp tX3_rankKey 44 = some (.aload 4, 0) := rfl
theorem kX3_rankKey_46 : lkp tX3_rankKey 46 = some (.getfield 87, 0) := rfl
theorem kX3_rankKey_49 : lkp tX3_rankKey 49 = some (.iadd, 0) := rfl
theorem kX3_rankKey_50 : lkp tX3_rankKey 50 = some (.istore 5, 0) := rfl
theorem kX3_rankKey_52 : lkp tX3_rankKey 52 = some (.iload 5, 0) := rfl
theorem kX3_rankKey_54 : lkp tX3_rankKey 54 = some (.bipush 24, 0) := rfl
theorem kX3_rankKey_56 : lkp tX3_rankKey 56 = some (.imul, 0) := rfl
theorem kX3_rankKey_57 : lkp tX3_rankKey 57 = some (.iload_n 1, 0) := rfl
theorem kX3_rankKey_58 : lkp tX3_rankKey 58 = some (.iadd, 0) := rfl
theorem kX3_rankKey_59 : lkp tX3_rankKey 59 = some (.ireturn, 0) := rfl
theorem kX3_isOn_0 : lkp tX3_isOn 0 = some (.aload_n 3, 0) := rfl
theorem kX3_isOn_1 : lkp tX3_isOn 1 = some (.getstatic 90, 0) := rfl
theorem kX3_isOn_4 : lkp tX3_isOn 4 = some (.if_acmp .ne 19, 0) := rfl
theorem kX3_isOn_7 : lkp tX3_isOn 7 = some (.aload_n 1, 0) := rfl
theorem kX3_isOn_8 : lkp tX3_isOn 8 = some (.getfield 96, 0) := rfl
theorem kX3_isOn_11 : lkp tX3_isOn 11 = some (.iload_n 2, 0) := rfl
theorem kX3_isOn_12 : lkp tX3_isOn 12 = some (.if_icmp .ne 7, 19) := rfl
theorem kX3_isOn_15 : lkp tX3_isOn 15 = some (.iconst 1, 0) := rfl
theorem kX3_isOn_16 : lkp tX3_isOn 16 = some (.goto 12, 28) := rfl
theorem kX3_isOn_19 : lkp tX3_isOn 19 = some (.iconst 0, 0) := rfl
theorem kX3_isOn_20 : lkp tX3_isOn 20 = some (.goto 8, 28) := rfl
theorem kX3_isOn_23 : lkp tX3_isOn 23 = some (.aload_n 1, 0) := rfl
theorem kX3_isOn_24 : lkp tX3_isOn 24 = some (.iload_n 2, 0) := rfl
theorem kX3_isOn_25 : lkp tX3_isOn 25 = some (.invokevirtual 99, 0) := rfl
theorem kX3_isOn_28 : lkp tX3_isOn 28 = some (.ireturn, 0) := rfl
theorem kX3_countHolders_0 : lkp tX3_countHolders 0 = some (.iconst 0, 0) := rfl
theorem kX3_countHolders_1 : lkp tX3_countHolders 1 = some (.istore_n 2, 0) := rfl
theorem kX3_countHolders_2 : lkp tX3_countHolders 2 = some (.iconst 0, 0) := rfl
theorem kX3_countHolders_3 : lkp tX3_countHolders 3 = some (.istore_n 3, 0) := rfl
theorem kX3_countHolders_4 : lkp tX3_countHolders 4 = some (.iload_n 3, 0) := rfl
theorem kX3_countHolders_5 : lkp tX3_countHolders 5 = some (.aload_n 0, 0) := rfl
theorem kX3_countHolders_6 : lkp tX3_countHolders 6 = some (.getfield 40, 0) := rfl
theorem kX3_countHolders_9 : lkp tX3_countHolders 9 = some (.if_icmp .ge 25, 34) := rfl
theorem kX3_countHolders_12 : lkp tX3_countHolders 12 = some (.aload_n 0, 0) := rfl
theorem kX3_countHolders_13 : lkp tX3_countHolders 13 = some (.getfield 20, 0) := rfl
theorem kX3_countHolders_16 : lkp tX3_countHolders 16 = some (.iload_n 3, 0) := rfl
theorem kX3_countHolders_17 : lkp tX3_countHolders 17 = some (.aaload, 0) := rfl
theorem kX3_countHolders_18 : lkp tX3_countHolders 18 = some (.getfield 96, 0) := rfl
theorem kX3_countHolders_21 : lkp tX3_countHolders 21 = some (.iload_n 1, 0) := rfl
theorem kX3_countHolders_22 : lkp tX3_countHolders 22 = some (.if_icmp .ne 6, 28) := rfl
theorem kX3_countHolders_25 : lkp tX3_countHolders 25 = some (.iinc 2 1, 0) := rfl
theorem kX3_countHolders_28 : lkp tX3_countHolders 28 = some (.iinc 3 1, 0) := rfl
theorem kX3_countHolders_31 : lkp tX3_countHolders 31 = some (.goto (-27), 4) := rfl
theorem kX3_countHolders_34 : lkp tX3_countHolders 34 = some (.iload_n 2, 0) := rfl
theorem kX3_countHolders_35 : lkp tX3_countHolders 35 = some (.ireturn, 0) := rfl
theorem kX3_countWaiters_0 : lkp tX3_countWaiters 0 = some (.iconst 0, 0) := rfl
theorem kX3_countWaiters_1 : lkp tX3_countWaiters 1 = some (.istore_n 2, 0) := rfl
theorem kX3_countWaiters_2 : lkp tX3_countWaiters 2 = some (.iconst 0, 0) := rfl
theorem kX3_countWaiters_3 : lkp tX3_countWaiters 3 = some (.istore_n 3, 0) := rfl
theorem kX3_countWaiters_4 : lkp tX3_countWaiters 4 = some (.iload_n 3, 0) := rfl
theorem kX3_countWaiters_5 : lkp tX3_countWaiters 5 = some (.aload_n 0, 0) := rfl
theorem kX3_countWaiters_6 : lkp tX3_countWaiters 6 = some (.getfield 40, 0) := rfl
theorem kX3_countWaiters_9 : lkp tX3_countWaiters 9 = some (.if_icmp .ge 25, 34) := rfl
theorem kX3_countWaiters_12 : lkp tX3_countWaiters 12 = some (.aload_n 0, 0) := rfl
theorem kX3_countWaiters_13 : lkp tX3_countWaiters 13 = some (.getfield 20, 0) := rfl
theorem kX3_countWaiters_16 : lkp tX3_countWaiters 16 = some (.iload_n 3, 0) := rfl
theorem kX3_countWaiters_17 : lkp tX3_countWaiters 17 = some (.aaload, 0) := rfl
theorem kX3_countWaiters_18 : lkp tX3_countWaiters 18 = some (.iload_n 1, 0) := rfl
theorem kX3_countWaiters_19 : lkp tX3_countWaiters 19 = some (.invokevirtual 99, 0) := rfl
theorem kX3_countWaiters_22 : lkp tX3_countWaiters 22 = some (.ifCond .eq 6, 28) := rfl
theorem kX3_countWaiters_25 : lkp tX3_countWaiters 25 = some (.iinc 2 1, 0) := rfl
theorem kX3_countWaiters_28 : lkp tX3_countWaiters 28 = some (.iinc 3 1, 0) := rfl
theorem kX3_countWaiters_31 : lkp tX3_countWaiters 31 = some (.goto (-27), 4) := rfl
theorem kX3_countWaiters_34 : lkp tX3_countWaiters 34 = some (.iload_n 2, 0) := rfl
theorem kX3_countWaiters_35 : lkp tX3_countWaiters 35 = some (.ireturn, 0) := rfl
theorem kX3_rollBefore_0 : lkp tX3_rollBefore 0 = some (.aload_n 0, 0) := rfl
theorem kX3_rollBefore_1 : lkp tX3_rollBefore 1 = some (.iload_n 1, 0) := rfl
theorem kX3_rollBefore_2 : lkp tX3_rollBefore 2 = some (.iload_n 2, 0) := rfl
theorem kX3_rollBefore_3 : lkp tX3_rollBefore 3 = some (.aload_n 0, 0) := rfl
theorem kX3_rollBefore_4 : lkp tX3_rollBefore 4 = some (.getfield 20, 0) := rfl
theorem kX3_rollBefore_7 : lkp tX3_rollBefore 7 = some (.iload_n 1, 0) := rfl
theorem kX3_rollBefore_8 : lkp tX3_rollBefore 8 = some (.aaload, 0) := rfl
theorem kX3_rollBefore_9 : lkp tX3_rollBefore 9 = some (.getfield 103, 0) := rfl
theorem kX3_rollBefore_12 : lkp tX3_rollBefore 12 = some (.invokevirtual 106, 0) := rfl
theorem kX3_rollBefore_15 : lkp tX3_rollBefore 15 = some (.istore 4, 0) := rfl
theorem kX3_rollBefore_17 : lkp tX3_rollBefore 17 = some (.iconst 0, 0) := rfl
theorem kX3_rollBefore_18 : lkp tX3_rollBefore 18 = some (.istore 5, 0) := rfl
theorem kX3_rollBefore_20 : lkp tX3_rollBefore 20 = some (.iconst 0, 0) := rfl
theorem kX3_rollBefore_21 : lkp tX3_rollBefore 21 = some (.istore 6, 0) := rfl
theorem kX3_rollBefore_23 : lkp tX3_rollBefore 23 = some (.iload 6, 0) := rfl
theorem kX3_rollBefore_25 : lkp tX3_rollBefore 25 = some (.aload_n 0, 0) := rfl
theorem kX3_rollBefore_26 : lkp tX3_rollBefore 26 = some (.getfield 40, 0) := rfl
theorem kX3_rollBefore_29 : lkp tX3_rollBefore 29 = some (.if_icmp .ge 50, 79) := rfl
theorem kX3_rollBefore_32 : lkp tX3_rollBefore 32 = some (.aload_n 0, 0) := rfl
theorem kX3_rollBefore_33 : lkp tX3_rollBefore 33 = some (.aload_n 0, 0) := rfl
theorem kX3_rollBefore_34 : lkp tX3_rollBefore 34 = some (.getfield 20, 0) := rfl
theorem kX3_rollBefore_37 : lkp tX3_rollBefore 37 = some (.iload 6, 0) := rfl
theorem kX3_rollBefore_39 : lkp tX3_rollBefore 39 = some (.aaload, 0) := rfl
theorem kX3_rollBefore_40 : lkp tX3_rollBefore 40 = some (.iload_n 2, 0) := rfl
theorem kX3_rollBefore_41 : lkp tX3_rollBefore 41 = some (.aload_n 3, 0) := rfl
theorem kX3_rollBefore_42 : lkp tX3_rollBefore 42 = some (.invokevirtual 110, 0) := rfl
theorem kX3_rollBefore_45 : lkp tX3_rollBefore 45 = some (.ifCond .eq 28, 73) := rfl
theorem kX3_rollBefore_48 : lkp tX3_rollBefore 48 = some (.aload_n 0, 0) := rfl
theorem kX3_rollBefore_49 : lkp tX3_rollBefore 49 = some (.iload 6, 0) := rfl
theorem kX3_rollBefore_51 : lkp tX3_rollBefore 51 = some (.iload_n 2, 0) := rfl
theorem kX3_rollBefore_52 : lkp tX3_rollBefore 52 = some (.aload_n 0, 0) := rfl
theorem kX3_rollBefore_53 : lkp tX3_rollBefore 53 = some (.getfield 20, 0) := rfl
theorem kX3_rollBefore_56 : lkp tX3_rollBefore 56 = some (.iload 6, 0) := rfl
theorem kX3_rollBefore_58 : lkp tX3_rollBefore 58 = some (.aaload, 0) := rfl
theorem kX3_rollBefore_59 : lkp tX3_rollBefore 59 = some (.getfield 103, 0) := rfl
theorem kX3_rollBefore_62 : lkp tX3_rollBefore 62 = some (.invokevirtual 106, 0) := rfl
theorem kX3_rollBefore_65 : lkp tX3_rollBefore 65 = some (.iload 4, 0) := rfl
theorem kX3_rollBefore_67 : lkp tX3_rollBefore 67 = some (.if_icmp .ge 6, 73) := rfl
theorem kX3_rollBefore_70 : lkp tX3_rollBefore 70 = some (.iinc 5 1, 0) := rfl
theorem kX3_rollBefore_73 : lkp tX3_rollBefore 73 = some (.iinc 6 1, 0) := rfl
theorem kX3_rollBefore_76 : lkp tX3_rollBefore 76 = some (.goto (-53), 23) := rfl
theorem kX3_rollBefore_79 : lkp tX3_rollBefore 79 = some (.iload 5, 0) := rfl
theorem kX3_rollBefore_81 : lkp tX3_rollBefore 81 = some (.ireturn, 0) := rfl
theorem kX3_rollChild_0 : lkp tX3_rollChild 0 = some (.iconst 0, 0) := rfl
theorem kX3_rollChild_1 : lkp tX3_rollChild 1 = some (.istore 4, 0) := rfl
theorem kX3_rollChild_3 : lkp tX3_rollChild 3 = some (.iload 4, 0) := rfl
theorem kX3_rollChild_5 : lkp tX3_rollChild 5 = some (.aload_n 0, 0) := rfl
theorem kX3_rollChild_6 : lkp tX3_rollChild 6 = some (.getfield 40, 0) := rfl
theorem kX3_rollChild_9 : lkp tX3_rollChild 9 = some (.if_icmp .ge 40, 49) := rfl
theorem kX3_rollChild_12 : lkp tX3_rollChild 12 = some (.aload_n 0, 0) := rfl
theorem kX3_rollChild_13 : lkp tX3_rollChild 13 = some (.aload_n 0, 0) := rfl
theorem kX3_rollChild_14 : lkp tX3_rollChild 14 = some (.getfield 20, 0) := rfl
theorem kX3_rollChild_17 : lkp tX3_rollChild 17 = some (.iload 4, 0) := rfl
theorem kX3_rollChild_19 : lkp tX3_rollChild 19 = some (.aaload, 0) := rfl
theorem kX3_rollChild_20 : lkp tX3_rollChild 20 = some (.iload_n 1, 0) := rfl
theorem kX3_rollChild_21 : lkp tX3_rollChild 21 = some (.aload_n 3, 0) := rfl
theorem kX3_rollChild_22 : lkp tX3_rollChild 22 = some (.invokevirtual 110, 0) := rfl
theorem kX3_rollChild_25 : lkp tX3_rollChild 25 = some (.ifCond .eq 18, 43) := rfl
theorem kX3_rollChild_28 : lkp tX3_rollChild 28 = some (.aload_n 0, 0) := rfl
theorem kX3_rollChild_29 : lkp tX3_rollChild 29 = some (.iload 4, 0) := rfl
theorem kX3_rollChild_31 : lkp tX3_rollChild 31 = some (.iload_n 1, 0) := rfl
theorem kX3_rollChild_32 : lkp tX3_rollChild 32 = some (.aload_n 3, 0) := rfl
theorem kX3_rollChild_33 : lkp tX3_rollChild 33 = some (.invokevirtual 114, 0) := rfl
theorem kX3_rollChild_36 : lkp tX3_rollChild 36 = some (.iload_n 2, 0) := rfl
theorem kX3_rollChild_37 : lkp tX3_rollChild 37 = some (.if_icmp .ne 6, 43) := rfl
theorem kX3_rollChild_40 : lkp tX3_rollChild 40 = some (.iload 4, 0) := rfl
theorem kX3_rollChild_42 : lkp tX3_rollChild 42 = some (.ireturn, 0) := rfl
theorem kX3_rollChild_43 : lkp tX3_rollChild 43 = some (.iinc 4 1, 0) := rfl
theorem kX3_rollChild_46 : lkp tX3_rollChild 46 = some (.goto (-43), 3) := rfl
theorem kX3_rollChild_49 : lkp tX3_rollChild 49 = some (.iconst (-1), 0) := rfl
theorem kX3_rollChild_50 : lkp tX3_rollChild 50 = some (.ireturn, 0) := rfl
theorem kX3_firstWaiting_0 : lkp tX3_firstWaiting 0 = some (.iconst (-1), 0) := rfl
theorem kX3_firstWaiting_1 : lkp tX3_firstWaiting 1 = some (.istore_n 2, 0) := rfl
theorem kX3_firstWaiting_2 : lkp tX3_firstWaiting 2 = some (.iconst 0, 0) := rfl
theorem kX3_firstWaiting_3 : lkp tX3_firstWaiting 3 = some (.istore_n 3, 0) := rfl
theorem kX3_firstWaiting_4 : lkp tX3_firstWaiting 4 = some (.iconst 0, 0) := rfl
theorem kX3_firstWaiting_5 : lkp tX3_firstWaiting 5 = some (.istore 4, 0) := rfl
theorem kX3_firstWaiting_7 : lkp tX3_firstWaiting 7 = some (.iload 4, 0) := rfl
theorem kX3_firstWaiting_9 : lkp tX3_firstWaiting 9 = some (.aload_n 0, 0) := rfl
theorem kX3_firstWaiting_10 : lkp tX3_firstWaiting 10 = some (.getfield 40, 0) := rfl
theorem kX3_firstWaiting_13 : lkp tX3_firstWaiting 13 = some (.if_icmp .ge 59, 72) := rfl
theorem kX3_firstWaiting_16 : lkp tX3_firstWaiting 16 = some (.aload_n 0, 0) := rfl
theorem kX3_firstWaiting_17 : lkp tX3_firstWaiting 17 = some (.getfield 20, 0) := rfl
theorem kX3_firstWaiting_20 : lkp tX3_firstWaiting 20 = some (.iload 4, 0) := rfl
theorem kX3_firstWaiting_22 : lkp tX3_firstWaiting 22 = some (.aaload, 0) := rfl
theorem kX3_firstWaiting_23 : lkp tX3_firstWaiting 23 = some (.iload_n 1, 0) := rfl
theorem kX3_firstWaiting_24 : lkp tX3_firstWaiting 24 = some (.invokevirtual 99, 0) := rfl
theorem kX3_firstWaiting_27 : lkp tX3_firstWaiting 27 = some (.ifCond .eq 39, 66) := rfl
theorem kX3_firstWaiting_30 : lkp tX3_firstWaiting 30 = some (.aload_n 0, 0) := rfl
theorem kX3_firstWaiting_31 : lkp tX3_firstWaiting 31 = some (.iload 4, 0) := rfl
theorem kX3_firstWaiting_33 : lkp tX3_firstWaiting 33 = some (.iload_n 1, 0) := rfl
theorem kX3_firstWaiting_34 : lkp tX3_firstWaiting 34 = some (.aload_n 0, 0) := rfl
theorem kX3_firstWaiting_35 : lkp tX3_firstWaiting 35 = some (.getfield 20, 0) := rfl
theorem kX3_firstWaiting_38 : lkp tX3_firstWaiting 38 = some (.iload 4, 0) := rfl
theorem kX3_firstWaiting_40 : lkp tX3_firstWaiting 40 = some (.aaload, 0) := rfl
theorem kX3_firstWaiting_41 : lkp tX3_firstWaiting 41 = some (.getfield 103, 0) := rfl
theorem kX3_firstWaiting_44 : lkp tX3_firstWaiting 44 = some (.invokevirtual 106, 0) := rfl
theorem kX3_firstWaiting_47 : lkp tX3_firstWaiting 47 = some (.istore 5, 0) := rfl
theorem kX3_firstWaiting_49 : lkp tX3_firstWaiting 49 = some (.iload_n 2, 0) := rfl
theorem kX3_firstWaiting_50 : lkp tX3_firstWaiting 50 = some (.iconst (-1), 0) := rfl
theorem kX3_firstWaiting_51 : lkp tX3_firstWaiting 51 = some (.if_icmp .eq 9, 60) := rfl
theorem kX3_firstWaiting_54 : lkp tX3_firstWaiting 54 = some (.iload 5, 0) := rfl
theorem kX3_firstWaiting_56 : lkp tX3_firstWaiting 56 = some (.iload_n 3, 0) := rfl
theorem kX3_firstWaiting_57 : lkp tX3_firstWaiting 57 = some (.if_icmp .ge 9, 66) := rfl
theorem kX3_firstWaiting_60 : lkp tX3_firstWaiting 60 = some (.iload 4, 0) := rfl
theorem kX3_firstWaiting_62 : lkp tX3_firstWaiting 62 = some (.istore_n 2, 0) := rfl
theorem kX3_firstWaiting_63 : lkp tX3_firstWaiting 63 = some (.iload 5, 0) := rfl
theorem kX3_firstWaiting_65 : lkp tX3_firstWaiting 65 = some (.istore_n 3, 0) := rfl
theorem kX3_firstWaiting_66 : lkp tX3_firstWaiting 66 = some (.iinc 4 1, 0) := rfl
theorem kX3_firstWaiting_69 : lkp tX3_firstWaiting 69 = some (.goto (-62), 7) := rfl
theorem kX3_firstWaiting_72 : lkp tX3_firstWaiting 72 = some (.iload_n 2, 0) := rfl
theorem kX3_firstWaiting_73 : lkp tX3_firstWaiting 73 = some (.ireturn, 0) := rfl
theorem kX3_freeSeats_0 : lkp tX3_freeSeats 0 = some (.aload_n 0, 0) := rfl
theorem kX3_freeSeats_1 : lkp tX3_freeSeats 1 = some (.getfield 11, 0) := rfl
theorem kX3_freeSeats_4 : lkp tX3_freeSeats 4 = some (.iload_n 1, 0) := rfl
theorem kX3_freeSeats_5 : lkp tX3_freeSeats 5 = some (.aaload, 0) := rfl
theorem kX3_freeSeats_6 : lkp tX3_freeSeats 6 = some (.getfield 118, 0) := rfl
theorem kX3_freeSeats_9 : lkp tX3_freeSeats 9 = some (.aload_n 0, 0) := rfl
theorem kX3_freeSeats_10 : lkp tX3_freeSeats 10 = some (.getfield 11, 0) := rfl
theorem kX3_freeSeats_13 : lkp tX3_freeSeats 13 = some (.iload_n 1, 0) := rfl
theorem kX3_freeSeats_14 : lkp tX3_freeSeats 14 = some (.aaload, 0) := rfl
theorem kX3_freeSeats_15 : lkp tX3_freeSeats 15 = some (.getfield 121, 0) := rfl
theorem kX3_freeSeats_18 : lkp tX3_freeSeats 18 = some (.iadd, 0) := rfl
theorem kX3_freeSeats_19 : lkp tX3_freeSeats 19 = some (.istore_n 2, 0) := rfl
theorem kX3_freeSeats_20 : lkp tX3_freeSeats 20 = some (.iconst 0, 0) := rfl
theorem kX3_freeSeats_21 : lkp tX3_freeSeats 21 = some (.iload_n 2, 0) := rfl
theorem kX3_freeSeats_22 : lkp tX3_freeSeats 22 = some (.aload_n 0, 0) := rfl
theorem kX3_freeSeats_23 : lkp tX3_freeSeats 23 = some (.iload_n 1, 0) := rfl
theorem kX3_freeSeats_24 : lkp tX3_freeSeats 24 = some (.invokevirtual 124, 0) := rfl
theorem kX3_freeSeats_27 : lkp tX3_freeSeats 27 = some (.isub, 0) := rfl
theorem kX3_freeSeats_28 : lkp tX3_freeSeats 28 = some (.invokestatic 128, 0) := rfl
theorem kX3_freeSeats_31 : lkp tX3_freeSeats 31 = some (.ireturn, 0) := rfl
theorem kX3_holdsWorse_0 : lkp tX3_holdsWorse 0 = some (.aload_n 0, 0) := rfl
theorem kX3_holdsWorse_1 : lkp tX3_holdsWorse 1 = some (.iload_n 1, 0) := rfl
theorem kX3_holdsWorse_2 : lkp tX3_holdsWorse 2 = some (.iload_n 2, 0) := rfl
theorem kX3_holdsWorse_3 : lkp tX3_holdsWorse 3 = some (.aload_n 0, 0) := rfl
theorem kX3_holdsWorse_4 : lkp tX3_holdsWorse 4 = some (.getfield 20, 0) := rfl
theorem kX3_holdsWorse_7 : lkp tX3_holdsWorse 7 = some (.iload_n 1, 0) := rfl
theorem kX3_holdsWorse_8 : lkp tX3_holdsWorse 8 = some (.aaload, 0) := rfl
theorem kX3_holdsWorse_9 : lkp tX3_holdsWorse 9 = some (.getfield 103, 0) := rfl
theorem kX3_holdsWorse_12 : lkp tX3_holdsWorse 12 = some (.invokevirtual 106, 0) := rfl
theorem kX3_holdsWorse_15 : lkp tX3_holdsWorse 15 = some (.istore_n 3, 0) := rfl
theorem kX3_holdsWorse_16 : lkp tX3_holdsWorse 16 = some (.iconst 0, 0) := rfl
theorem kX3_holdsWorse_17 : lkp tX3_holdsWorse 17 = some (.istore 4, 0) := rfl
theorem kX3_holdsWorse_19 : lkp tX3_holdsWorse 19 = some (.iload 4, 0) := rfl
theorem kX3_holdsWorse_21 : lkp tX3_holdsWorse 21 = some (.aload_n 0, 0) := rfl
theorem kX3_holdsWorse_22 : lkp tX3_holdsWorse 22 = some (.getfield 40, 0) := rfl
theorem kX3_holdsWorse_25 : lkp tX3_holdsWorse 25 = some (.if_icmp .ge 46, 71) := rfl
theorem kX3_holdsWorse_28 : lkp tX3_holdsWorse 28 = some (.aload_n 0, 0) := rfl
theorem kX3_holdsWorse_29 : lkp tX3_holdsWorse 29 = some (.getfield 20, 0) := rfl
theorem kX3_holdsWorse_32 : lkp tX3_holdsWorse 32 = some (.iload 4, 0) := rfl
theorem kX3_holdsWorse_34 : lkp tX3_holdsWorse 34 = some (.aaload, 0) := rfl
theorem kX3_holdsWorse_35 : lkp tX3_holdsWorse 35 = some (.getfield 96, 0) := rfl
theorem kX3_holdsWorse_38 : lkp tX3_holdsWorse 38 = some (.iload_n 2, 0) := rfl
theorem kX3_holdsWorse_39 : lkp tX3_holdsWorse 39 = some (.if_icmp .ne 26, 65) := rfl
theorem kX3_holdsWorse_42 : lkp tX3_holdsWorse 42 = some (.aload_n 0, 0) := rfl
theorem kX3_holdsWorse_43 : lkp tX3_holdsWorse 43 = some (.iload 4, 0) := rfl
theorem kX3_holdsWorse_45 : lkp tX3_holdsWorse 45 = some (.iload_n 2, 0) := rfl
theorem kX3_holdsWorse_46 : lkp tX3_holdsWorse 46 = some (.aload_n 0, 0) := rfl
theorem kX3_holdsWorse_47 : lkp tX3_holdsWorse 47 = some (.getfield 20, 0) := rfl
theorem kX3_holdsWorse_50 : lkp tX3_holdsWorse 50 = some (.iload 4, 0) := rfl
theorem kX3_holdsWorse_52 : lkp tX3_holdsWorse 52 = some (.aaload, 0) := rfl
theorem kX3_holdsWorse_53 : lkp tX3_holdsWorse 53 = some (.getfield 103, 0) := rfl
theorem kX3_holdsWorse_56 : lkp tX3_holdsWorse 56 = some (.invokevirtual 106, 0) := rfl
theorem kX3_holdsWorse_59 : lkp tX3_holdsWorse 59 = some (.iload_n 3, 0) := rfl
theorem kX3_holdsWorse_60 : lkp tX3_holdsWorse 60 = some (.if_icmp .le 5, 65) := rfl
theorem kX3_holdsWorse_63 : lkp tX3_holdsWorse 63 = some (.iconst 1, 0) := rfl
theorem kX3_holdsWorse_64 : lkp tX3_holdsWorse 64 = some (.ireturn, 0) := rfl
theorem kX3_holdsWorse_65 : lkp tX3_holdsWorse 65 = some (.iinc 4 1, 0) := rfl
theorem kX3_holdsWorse_68 : lkp tX3_holdsWorse 68 = some (.goto (-49), 19) := rfl
theorem kX3_holdsWorse_71 : lkp tX3_holdsWorse 71 = some (.iconst 0, 0) := rfl
theorem kX3_holdsWorse_72 : lkp tX3_holdsWorse 72 = some (.ireturn, 0) := rfl
theorem kX3_holdsClass_0 : lkp tX3_holdsClass 0 = some (.iconst 0, 0) := rfl
theorem kX3_holdsClass_1 : lkp tX3_holdsClass 1 = some (.istore_n 3, 0) := rfl
theorem kX3_holdsClass_2 : lkp tX3_holdsClass 2 = some (.iload_n 3, 0) := rfl
theorem kX3_holdsClass_3 : lkp tX3_holdsClass 3 = some (.aload_n 0, 0) := rfl
theorem kX3_holdsClass_4 : lkp tX3_holdsClass 4 = some (.getfield 40, 0) := rfl
theorem kX3_holdsClass_7 : lkp tX3_holdsClass 7 = some (.if_icmp .ge 44, 51) := rfl
theorem kX3_holdsClass_10 : lkp tX3_holdsClass 10 = some (.aload_n 0, 0) := rfl
theorem kX3_holdsClass_11 : lkp tX3_holdsClass 11 = some (.getfield 20, 0) := rfl
theorem kX3_holdsClass_14 : lkp tX3_holdsClass 14 = some (.iload_n 3, 0) := rfl
theorem kX3_holdsClass_15 : lkp tX3_holdsClass 15 = some (.aaload, 0) := rfl
theorem kX3_holdsClass_16 : lkp tX3_holdsClass 16 = some (.astore 4, 0) := rfl
theorem kX3_holdsClass_18 : lkp tX3_holdsClass 18 = some (.aload 4, 0) := rfl
theorem kX3_holdsClass_20 : lkp tX3_holdsClass 20 = some (.getfield 96, 0) := rfl
theorem kX3_holdsClass_23 : lkp tX3_holdsClass 23 = some (.iload_n 1, 0) := rfl
theorem kX3_holdsClass_24 : lkp tX3_holdsClass 24 = some (.if_icmp .ne 21, 45) := rfl
theorem kX3_holdsClass_27 : lkp tX3_holdsClass 27 = some (.aload_n 0, 0) := rfl
theorem kX3_holdsClass_28 : lkp tX3_holdsClass 28 = some (.aload 4, 0) := rfl
theorem kX3_holdsClass_30 : lkp tX3_holdsClass 30 = some (.iload_n 1, 0) := rfl
theorem kX3_holdsClass_31 : lkp tX3_holdsClass 31 = some (.aload 4, 0) := rfl
theorem kX3_holdsClass_33 : lkp tX3_holdsClass 33 = some (.getfield 103, 0) := rfl
theorem kX3_holdsClass_36 : lkp tX3_holdsClass 36 = some (.invokevirtual 83, 0) := rfl
theorem kX3_holdsClass_39 : lkp tX3_holdsClass 39 = some (.iload_n 2, 0) := rfl
theorem kX3_holdsClass_40 : lkp tX3_holdsClass 40 = some (.if_icmp .ne 5, 45) := rfl
theorem kX3_holdsClass_43 : lkp tX3_holdsClass 43 = some (.iconst 1, 0) := rfl
theorem kX3_holdsClass_44 : lkp tX3_holdsClass 44 = some (.ireturn, 0) := rfl
theorem kX3_holdsClass_45 : lkp tX3_holdsClass 45 = some (.iinc 3 1, 0) := rfl
theorem kX3_holdsClass_48 : lkp tX3_holdsClass 48 = some (.goto (-46), 2) := rfl
theorem kX3_holdsClass_51 : lkp tX3_holdsClass 51 = some (.iconst 0, 0) := rfl
theorem kX3_holdsClass_52 : lkp tX3_holdsClass 52 = some (.ireturn, 0) := rfl
theorem kX3_moveChild_0 : lkp tX3_moveChild 0 = some (.aload_n 0, 0) := rfl
theorem kX3_moveChild_1 : lkp tX3_moveChild 1 = some (.getfield 20, 0) := rfl
theorem kX3_moveChild_4 : lkp tX3_moveChild 4 = some (.iload_n 1, 0) := rfl
theorem kX3_moveChild_5 : lkp tX3_moveChild 5 = some (.aaload, 0) := rfl
theorem kX3_moveChild_6 : lkp tX3_moveChild 6 = some (.astore 4, 0) := rfl
theorem kX3_moveChild_8 : lkp tX3_moveChild 8 = some (.aload_n 0, 0) := rfl
theorem kX3_moveChild_9 : lkp tX3_moveChild 9 = some (.getfield 32, 0) := rfl
theorem kX3_moveChild_12 : lkp tX3_moveChild 12 = some (.iload_n 3, 0) := rfl
theorem kX3_moveChild_13 : lkp tX3_moveChild 13 = some (.iload_n 1, 0) := rfl
theorem kX3_moveChild_14 : lkp tX3_moveChild 14 = some (.aload 4, 0) := rfl
theorem kX3_moveChild_16 : lkp tX3_moveChild 16 = some (.getfield 96, 0) := rfl
theorem kX3_moveChild_19 : lkp tX3_moveChild 19 = some (.iload_n 2, 0) := rfl
theorem kX3_moveChild_20 : lkp tX3_moveChild 20 = some (.invokevirtual 134, 0) := rfl
theorem kX3_moveChild_23 : lkp tX3_moveChild 23 = some (.aload 4, 0) := rfl
theorem kX3_moveChild_25 : lkp tX3_moveChild 25 = some (.iload_n 2, 0) := rfl
theorem kX3_moveChild_26 : lkp tX3_moveChild 26 = some (.putfield 96, 0) := rfl
theorem kX3_moveChild_29 : lkp tX3_moveChild 29 = some (.return_, 0) := rfl
theorem kX3_fillSeats_0 : lkp tX3_fillSeats 0 = some (.iconst 0, 0) := rfl
theorem kX3_fillSeats_1 : lkp tX3_fillSeats 1 = some (.istore_n 1, 0) := rfl
theorem kX3_fillSeats_2 : lkp tX3_fillSeats 2 = some (.iload_n 1, 0) := rfl
theorem kX3_fillSeats_3 : lkp tX3_fillSeats 3 = some (.ldc 138, 0) := rfl
theorem kX3_fillSeats_5 : lkp tX3_fillSeats 5 = some (.if_icmp .ge 18, 23) := rfl
theorem kX3_fillSeats_8 : lkp tX3_fillSeats 8 = some (.aload_n 0, 0) := rfl
theorem kX3_fillSeats_9 : lkp tX3_fillSeats 9 = some (.invokevirtual 139, 0) := rfl
theorem kX3_fillSeats_12 : lkp tX3_fillSeats 12 = some (.ifCond .ne 5, 17) := rfl
theorem kX3_fillSeats_15 : lkp tX3_fillSeats 15 = some (.iload_n 1, 0) := rfl
theorem kX3_fillSeats_16 : lkp tX3_fillSeats 16 = some (.ireturn, 0) := rfl
theorem kX3_fillSeats_17 : lkp tX3_fillSeats 17 = some (.iinc 1 1, 0) := rfl
theorem kX3_fillSeats_20 : lkp tX3_fillSeats 20 = some (.goto (-18), 2) := rfl
theorem kX3_fillSeats_23 : lkp tX3_fillSeats 23 = some (.ldc 138, 0) := rfl
theorem kX3_fillSeats_25 : lkp tX3_fillSeats 25 = some (.ireturn, 0) := rfl
theorem kX3_fillOneSeat_0 : lkp tX3_fillOneSeat 0 = some (.iconst 0, 0) := rfl
theorem kX3_fillOneSeat_1 : lkp tX3_fillOneSeat 1 = some (.istore_n 1, 0) := rfl
theorem kX3_fillOneSeat_2 : lkp tX3_fillOneSeat 2 = some (.iload_n 1, 0) := rfl
theorem kX3_fillOneSeat_3 : lkp tX3_fillOneSeat 3 = some (.aload_n 0, 0) := rfl
theorem kX3_fillOneSeat_4 : lkp tX3_fillOneSeat 4 = some (.getfield 36, 0) := rfl
theorem kX3_fillOneSeat_7 : lkp tX3_fillOneSeat 7 = some (.if_icmp .ge 41, 48) := rfl
theorem kX3_fillOneSeat_10 : lkp tX3_fillOneSeat 10 = some (.aload_n 0, 0) := rfl
theorem kX3_fillOneSeat_11 : lkp tX3_fillOneSeat 11 = some (.iload_n 1, 0) := rfl
theorem kX3_fillOneSeat_12 : lkp tX3_fillOneSeat 12 = some (.invokevirtual 143, 0) := rfl
theorem kX3_fillOneSeat_15 : lkp tX3_fillOneSeat 15 = some (.ifCond .le 11, 26) := rfl
theorem kX3_fillOneSeat_18 : lkp tX3_fillOneSeat 18 = some (.aload_n 0, 0) := rfl
theorem kX3_fillOneSeat_19 : lkp tX3_fillOneSeat 19 = some (.iload_n 1, 0) := rfl
theorem kX3_fillOneSeat_20 : lkp tX3_fillOneSeat 20 = some (.invokevirtual 146, 0) := rfl
theorem kX3_fillOneSeat_23 : lkp tX3_fillOneSeat 23 = some (.goto 4, 27) := rfl
theorem kX3_fillOneSeat_26 : lkp tX3_fillOneSeat 26 = some (.iconst (-1), 0) := rfl
theorem kX3_fillOneSeat_27 : lkp tX3_fillOneSeat 27 = some (.istore_n 2, 0) := rfl
theorem kX3_fillOneSeat_28 : lkp tX3_fillOneSeat 28 = some (.iload_n 2, 0) := rfl
theorem kX3_fillOneSeat_29 : lkp tX3_fillOneSeat 29 = some (.iconst (-1), 0) := rfl
theorem kX3_fillOneSeat_30 : lkp tX3_fillOneSeat 30 = some (.if_icmp .eq 12, 42) := rfl
theorem kX3_fillOneSeat_33 : lkp tX3_fillOneSeat 33 = some (.aload_n 0, 0) := rfl
theorem kX3_fillOneSeat_34 : lkp tX3_fillOneSeat 34 = some (.iload_n 2, 0) := rfl
theorem kX3_fillOneSeat_35 : lkp tX3_fillOneSeat 35 = some (.iload_n 1, 0) := rfl
theorem kX3_fillOneSeat_36 : lkp tX3_fillOneSeat 36 = some (.iconst 1, 0) := rfl
theorem kX3_fillOneSeat_37 : lkp tX3_fillOneSeat 37 = some (.invokevirtual 149, 0) := rfl
theorem kX3_fillOneSeat_40 : lkp tX3_fillOneSeat 40 = some (.iconst 1, 0) := rfl
theorem kX3_fillOneSeat_41 : lkp tX3_fillOneSeat 41 = some (.ireturn, 0) := rfl
theorem kX3_fillOneSeat_42 : lkp tX3_fillOneSeat 42 = some (.iinc 1 1, 0) := rfl
theorem kX3_fillOneSeat_45 : lkp tX3_fillOneSeat 45 = some (.goto (-43), 2) := rfl
theorem kX3_fillOneSeat_48 : lkp tX3_fillOneSeat 48 = some (.iconst 0, 0) := rfl
theorem kX3_fillOneSeat_49 : lkp tX3_fillOneSeat 49 = some (.ireturn, 0) := rfl
theorem kX3_take_0 : lkp tX3_take 0 = some (.iconst 0, 0) := rfl
theorem kX3_take_1 : lkp tX3_take 1 = some (.istore_n 2, 0) := rfl
theorem kX3_take_2 : lkp tX3_take 2 = some (.iload_n 2, 0) := rfl
theorem kX3_take_3 : lkp tX3_take 3 = some (.aload_n 0, 0) := rfl
theorem kX3_take_4 : lkp tX3_take 4 = some (.getfield 36, 0) := rfl
theorem kX3_take_7 : lkp tX3_take 7 = some (.if_icmp .ge 19, 26) := rfl
theorem kX3_take_10 : lkp tX3_take 10 = some (.aload_n 0, 0) := rfl
theorem kX3_take_11 : lkp tX3_take 11 = some (.getfield 11, 0) := rfl
theorem kX3_take_14 : lkp tX3_take 14 = some (.iload_n 2, 0) := rfl
theorem kX3_take_15 : lkp tX3_take 15 = some (.aaload, 0) := rfl
theorem kX3_take_16 : lkp tX3_take 16 = some (.iconst 0, 0) := rfl
theorem kX3_take_17 : lkp tX3_take 17 = some (.putfield 121, 0) := rfl
theorem kX3_take_20 : lkp tX3_take 20 = some (.iinc 2 1, 0) := rfl
theorem kX3_take_23 : lkp tX3_take 23 = some (.goto (-21), 2) := rfl
theorem kX3_take_26 : lkp tX3_take 26 = some (.iconst 0, 0) := rfl
theorem kX3_take_27 : lkp tX3_take 27 = some (.istore_n 2, 0) := rfl
theorem kX3_take_28 : lkp tX3_take 28 = some (.iload_n 2, 0) := rfl
theorem kX3_take_29 : lkp tX3_take 29 = some (.aload_n 0, 0) := rfl
theorem kX3_take_30 : lkp tX3_take 30 = some (.getfield 40, 0) := rfl
theorem kX3_take_33 : lkp tX3_take 33 = some (.if_icmp .ge 64, 97) := rfl
theorem kX3_take_36 : lkp tX3_take 36 = some (.aload_n 0, 0) := rfl
theorem kX3_take_37 : lkp tX3_take 37 = some (.getfield 20, 0) := rfl
theorem kX3_take_40 : lkp tX3_take 40 = some (.iload_n 2, 0) := rfl
theorem kX3_take_41 : lkp tX3_take 41 = some (.aaload, 0) := rfl
theorem kX3_take_42 : lkp tX3_take 42 = some (.iconst 0, 0) := rfl
theorem kX3_take_43 : lkp tX3_take 43 = some (.putfield 153, 0) := rfl
theorem kX3_take_46 : lkp tX3_take 46 = some (.aload_n 0, 0) := rfl
theorem kX3_take_47 : lkp tX3_take 47 = some (.getfield 20, 0) := rfl
theorem kX3_take_50 : lkp tX3_take 50 = some (.iload_n 2, 0) := rfl
theorem kX3_take_51 : lkp tX3_take 51 = some (.aaload, 0) := rfl
theorem kX3_take_52 : lkp tX3_take 52 = some (.aload_n 1, 0) := rfl
theorem kX3_take_53 : lkp tX3_take 53 = some (.getfield 156, 0) := rfl
theorem kX3_take_56 : lkp tX3_take 56 = some (.iload_n 2, 0) := rfl
theorem kX3_take_57 : lkp tX3_take 57 = some (.iaload, 0) := rfl
theorem kX3_take_58 : lkp tX3_take 58 = some (.putfield 103, 0) := rfl
theorem kX3_take_61 : lkp tX3_take 61 = some (.aload_n 0, 0) := rfl
theorem kX3_take_62 : lkp tX3_take 62 = some (.getfield 20, 0) := rfl
theorem kX3_take_65 : lkp tX3_take 65 = some (.iload_n 2, 0) := rfl
theorem kX3_take_66 : lkp tX3_take 66 = some (.aaload, 0) := rfl
theorem kX3_take_67 : lkp tX3_take 67 = some (.getfield 96, 0) := rfl
theorem kX3_take_70 : lkp tX3_take 70 = some (.aload_n 1, 0) := rfl
theorem kX3_take_71 : lkp tX3_take 71 = some (.getfield 160, 0) := rfl
theorem kX3_take_74 : lkp tX3_take 74 = some (.iload_n 2, 0) := rfl
theorem kX3_take_75 : lkp tX3_take 75 = some (.iaload, 0) := rfl
theorem kX3_take_76 : lkp tX3_take 76 = some (.if_icmp .eq 15, 91) := rfl
theorem kX3_take_79 : lkp tX3_take 79 = some (.aload_n 0, 0) := rfl
theorem kX3_take_80 : lkp tX3_take 80 = some (.iload_n 2, 0) := rfl
theorem kX3_take_81 : lkp tX3_take 81 = some (.aload_n 1, 0) := rfl
theorem kX3_take_82 : lkp tX3_take 82 = some (.getfield 160, 0) := rfl
theorem kX3_take_85 : lkp tX3_take 85 = some (.iload_n 2, 0) := rfl
theorem kX3_take_86 : lkp tX3_take 86 = some (.iaload, 0) := rfl
theorem kX3_take_87 : lkp tX3_take 87 = some (.iconst 0, 0) := rfl
theorem kX3_take_88 : lkp tX3_take 88 = some (.invokevirtual 149, 0) := rfl
theorem kX3_take_91 : lkp tX3_take 91 = some (.iinc 2 1, 0) := rfl
theorem kX3_take_94 : lkp tX3_take 94 = some (.goto (-66), 28) := rfl
theorem kX3_take_97 : lkp tX3_take 97 = some (.return_, 0) := rfl
theorem kX3_refusalOf_0 : lkp tX3_refusalOf 0 = some (.aload_n 0, 0) := rfl
theorem kX3_refusalOf_1 : lkp tX3_refusalOf 1 = some (.getfield 20, 0) := rfl
theorem kX3_refusalOf_4 : lkp tX3_refusalOf 4 = some (.iload_n 1, 0) := rfl
theorem kX3_refusalOf_5 : lkp tX3_refusalOf 5 = some (.aaload, 0) := rfl
theorem kX3_refusalOf_6 : lkp tX3_refusalOf 6 = some (.astore 4, 0) := rfl
theorem kX3_refusalOf_8 : lkp tX3_refusalOf 8 = some (.aload 4, 0) := rfl
theorem kX3_refusalOf_10 : lkp tX3_refusalOf 10 = some (.iload_n 2, 0) := rfl
theorem kX3_refusalOf_11 : lkp tX3_refusalOf 11 = some (.invokevirtual 99, 0) := rfl
theorem kX3_refusalOf_14 : lkp tX3_refusalOf 14 = some (.ifCond .ne 5, 19) := rfl
theorem kX3_refusalOf_17 : lkp tX3_refusalOf 17 = some (.iconst 1, 0) := rfl
theorem kX3_refusalOf_18 : lkp tX3_refusalOf 18 = some (.ireturn, 0) := rfl
theorem kX3_refusalOf_19 : lkp tX3_refusalOf 19 = some (.aload 4, 0) := rfl
theorem kX3_refusalOf_21 : lkp tX3_refusalOf 21 = some (.getfield 153, 0) := rfl
theorem kX3_refusalOf_24 : lkp tX3_refusalOf 24 = some (.iload_n 2, 0) := rfl
theorem kX3_refusalOf_25 : lkp tX3_refusalOf 25 = some (.invokestatic 62, 0) := rfl
theorem kX3_refusalOf_28 : lkp tX3_refusalOf 28 = some (.ifCond .eq 5, 33) := rfl
theorem kX3_refusalOf_31 : lkp tX3_refusalOf 31 = some (.iconst 2, 0) := rfl
theorem kX3_refusalOf_32 : lkp tX3_refusalOf 32 = some (.ireturn, 0) := rfl
theorem kX3_refusalOf_33 : lkp tX3_refusalOf 33 = some (.aload_n 0, 0) := rfl
theorem kX3_refusalOf_34 : lkp tX3_refusalOf 34 = some (.getfield 11, 0) := rfl
theorem kX3_refusalOf_37 : lkp tX3_refusalOf 37 = some (.iload_n 2, 0) := rfl
theorem kX3_refusalOf_38 : lkp tX3_refusalOf 38 = some (.aaload, 0) := rfl
theorem kX3_refusalOf_39 : lkp tX3_refusalOf 39 = some (.getfield 121, 0) := rfl
theorem kX3_refusalOf_42 : lkp tX3_refusalOf 42 = some (.iconst 3, 0) := rfl
theorem kX3_refusalOf_43 : lkp tX3_refusalOf 43 = some (.if_icmp .lt 5, 48) := rfl
theorem kX3_refusalOf_46 : lkp tX3_refusalOf 46 = some (.iconst 3, 0) := rfl
theorem kX3_refusalOf_47 : lkp tX3_refusalOf 47 = some (.ireturn, 0) := rfl
theorem kX3_refusalOf_48 : lkp tX3_refusalOf 48 = some (.aload_n 0, 0) := rfl
theorem kX3_refusalOf_49 : lkp tX3_refusalOf 49 = some (.iload_n 1, 0) := rfl
theorem kX3_refusalOf_50 : lkp tX3_refusalOf 50 = some (.iload_n 2, 0) := rfl
theorem kX3_refusalOf_51 : lkp tX3_refusalOf 51 = some (.getstatic 162, 0) := rfl
theorem kX3_refusalOf_54 : lkp tX3_refusalOf 54 = some (.invokevirtual 114, 0) := rfl
theorem kX3_refusalOf_57 : lkp tX3_refusalOf 57 = some (.istore 5, 0) := rfl
theorem kX3_refusalOf_59 : lkp tX3_refusalOf 59 = some (.iload_n 3, 0) := rfl
theorem kX3_refusalOf_60 : lkp tX3_refusalOf 60 = some (.aload_n 0, 0) := rfl
theorem kX3_refusalOf_61 : lkp tX3_refusalOf 61 = some (.getfield 11, 0) := rfl
theorem kX3_refusalOf_64 : lkp tX3_refusalOf 64 = some (.iload_n 2, 0) := rfl
theorem kX3_refusalOf_65 : lkp tX3_refusalOf 65 = some (.aaload, 0) := rfl
theorem kX3_refusalOf_66 : lkp tX3_refusalOf 66 = some (.getfield 165, 0) := rfl
theorem kX3_refusalOf_69 : lkp tX3_refusalOf 69 = some (.iconst 5, 0) := rfl
theorem kX3_refusalOf_70 : lkp tX3_refusalOf 70 = some (.iload 5, 0) := rfl
theorem kX3_refusalOf_72 : lkp tX3_refusalOf 72 = some (.imul, 0) := rfl
theorem kX3_refusalOf_73 : lkp tX3_refusalOf 73 = some (.iadd, 0) := rfl
theorem kX3_refusalOf_74 : lkp tX3_refusalOf 74 = some (.if_icmp .ge 7, 81) := rfl
theorem kX3_refusalOf_77 : lkp tX3_refusalOf 77 = some (.iconst 4, 0) := rfl
theorem kX3_refusalOf_78 : lkp tX3_refusalOf 78 = some (.goto 4, 82) := rfl
theorem kX3_refusalOf_81 : lkp tX3_refusalOf 81 = some (.iconst 0, 0) := rfl
theorem kX3_refusalOf_82 : lkp tX3_refusalOf 82 = some (.ireturn, 0) := rfl
theorem kX3_countInCatchment_0 : lkp tX3_countInCatchment 0 = some (.iconst 0, 0) := rfl
theorem kX3_countInCatchment_1 : lkp tX3_countInCatchment 1 = some (.istore_n 2, 0) := rfl
theorem kX3_countInCatchment_2 : lkp tX3_countInCatchment 2 = some (.iconst 0, 0) := rfl
theorem kX3_countInCatchment_3 : lkp tX3_countInCatchment 3 = some (.istore_n 3, 0) := rfl
theorem kX3_countInCatchment_4 : lkp tX3_countInCatchment 4 = some (.iload_n 3, 0) := rfl
theorem kX3_countInCatchment_5 : lkp tX3_countInCatchment 5 = some (.aload_n 0, 0) := rfl
theorem kX3_countInCatchment_6 : lkp tX3_countInCatchment 6 = some (.getfield 40, 0) := rfl
theorem kX3_countInCatchment_9 : lkp tX3_countInCatchment 9 = some (.if_icmp .ge 29, 38) := rfl
theorem kX3_countInCatchment_12 : lkp tX3_countInCatchment 12 = some (.aload_n 1, 0) := rfl
theorem kX3_countInCatchment_13 : lkp tX3_countInCatchment 13 = some (.aload_n 0, 0) := rfl
theorem kX3_countInCatchment_14 : lkp tX3_countInCatchment 14 = some (.getfield 20, 0) := rfl
theorem kX3_countInCatchment_17 : lkp tX3_countInCatchment 17 = some (.iload_n 3, 0) := rfl
theorem kX3_countInCatchment_18 : lkp tX3_countInCatchment 18 = some (.aaload, 0) := rfl
theorem kX3_countInCatchment_19 : lkp tX3_countInCatchment 19 = some (.invokevirtual 73, 0) := rfl
theorem kX3_countInCatchment_22 : lkp tX3_countInCatchment 22 = some (.aload_n 1, 0) := rfl
theorem kX3_countInCatchment_23 : lkp tX3_countInCatchment 23 = some (.getfield 77, 0) := rfl
theorem kX3_countInCatchment_26 : lkp tX3_countInCatchment 26 = some (.if_icmp .gt 6, 32) := rfl
theorem kX3_countInCatchment_29 : lkp tX3_countInCatchment 29 = some (.iinc 2 1, 0) := rfl
theorem kX3_countInCatchment_32 : lkp tX3_countInCatchment 32 = some (.iinc 3 1, 0) := rfl
theorem kX3_countInCatchment_35 : lkp tX3_countInCatchment 35 = some (.goto (-31), 4) := rfl
theorem kX3_countInCatchment_38 : lkp tX3_countInCatchment 38 = some (.iload_n 2, 0) := rfl
theorem kX3_countInCatchment_39 : lkp tX3_countInCatchment 39 = some (.ireturn, 0) := rfl
theorem kX3_sumSeats_0 : lkp tX3_sumSeats 0 = some (.iconst 0, 0) := rfl
theorem kX3_sumSeats_1 : lkp tX3_sumSeats 1 = some (.istore_n 1, 0) := rfl
theorem kX3_sumSeats_2 : lkp tX3_sumSeats 2 = some (.iconst 0, 0) := rfl
theorem kX3_sumSeats_3 : lkp tX3_sumSeats 3 = some (.istore_n 2, 0) := rfl
theorem kX3_sumSeats_4 : lkp tX3_sumSeats 4 = some (.iload_n 2, 0) := rfl
theorem kX3_sumSeats_5 : lkp tX3_sumSeats 5 = some (.aload_n 0, 0) := rfl
theorem kX3_sumSeats_6 : lkp tX3_sumSeats 6 = some (.getfield 36, 0) := rfl
theorem kX3_sumSeats_9 : lkp tX3_sumSeats 9 = some (.if_icmp .ge 21, 30) := rfl
theorem kX3_sumSeats_12 : lkp tX3_sumSeats 12 = some (.iload_n 1, 0) := rfl
theorem kX3_sumSeats_13 : lkp tX3_sumSeats 13 = some (.aload_n 0, 0) := rfl
theorem kX3_sumSeats_14 : lkp tX3_sumSeats 14 = some (.getfield 11, 0) := rfl
theorem kX3_sumSeats_17 : lkp tX3_sumSeats 17 = some (.iload_n 2, 0) := rfl
theorem kX3_sumSeats_18 : lkp tX3_sumSeats 18 = some (.aaload, 0) := rfl
theorem kX3_sumSeats_19 : lkp tX3_sumSeats 19 = some (.getfield 118, 0) := rfl
theorem kX3_sumSeats_22 : lkp tX3_sumSeats 22 = some (.iadd, 0) := rfl
theorem kX3_sumSeats_23 : lkp tX3_sumSeats 23 = some (.istore_n 1, 0) := rfl
theorem kX3_sumSeats_24 : lkp tX3_sumSeats 24 = some (.iinc 2 1, 0) := rfl
theorem kX3_sumSeats_27 : lkp tX3_sumSeats 27 = some (.goto (-23), 4) := rfl
theorem kX3_sumSeats_30 : lkp tX3_sumSeats 30 = some (.iload_n 1, 0) := rfl
theorem kX3_sumSeats_31 : lkp tX3_sumSeats 31 = some (.ireturn, 0) := rfl
theorem kX3_sumAdded_0 : lkp tX3_sumAdded 0 = some (.iconst 0, 0) := rfl
theorem kX3_sumAdded_1 : lkp tX3_sumAdded 1 = some (.istore_n 1, 0) := rfl
theorem kX3_sumAdded_2 : lkp tX3_sumAdded 2 = some (.iconst 0, 0) := rfl
theorem kX3_sumAdded_3 : lkp tX3_sumAdded 3 = some (.istore_n 2, 0) := rfl
theorem kX3_sumAdded_4 : lkp tX3_sumAdded 4 = some (.iload_n 2, 0) := rfl
theorem kX3_sumAdded_5 : lkp tX3_sumAdded 5 = some (.aload_n 0, 0) := rfl
theorem kX3_sumAdded_6 : lkp tX3_sumAdded 6 = some (.getfield 36, 0) := rfl
theorem kX3_sumAdded_9 : lkp tX3_sumAdded 9 = some (.if_icmp .ge 21, 30) := rfl
theorem kX3_sumAdded_12 : lkp tX3_sumAdded 12 = some (.iload_n 1, 0) := rfl
theorem kX3_sumAdded_13 : lkp tX3_sumAdded 13 = some (.aload_n 0, 0) := rfl
theorem kX3_sumAdded_14 : lkp tX3_sumAdded 14 = some (.getfield 11, 0) := rfl
theorem kX3_sumAdded_17 : lkp tX3_sumAdded 17 = some (.iload_n 2, 0) := rfl
theorem kX3_sumAdded_18 : lkp tX3_sumAdded 18 = some (.aaload, 0) := rfl
theorem kX3_sumAdded_19 : lkp tX3_sumAdded 19 = some (.getfield 121, 0) := rfl
theorem kX3_sumAdded_22 : lkp tX3_sumAdded 22 = some (.iadd, 0) := rfl
theorem kX3_sumAdded_23 : lkp tX3_sumAdded 23 = some (.istore_n 1, 0) := rfl
theorem kX3_sumAdded_24 : lkp tX3_sumAdded 24 = some (.iinc 2 1, 0) := rfl
theorem kX3_sumAdded_27 : lkp tX3_sumAdded 27 = some (.goto (-23), 4) := rfl
theorem kX3_sumAdded_30 : lkp tX3_sumAdded 30 = some (.iload_n 1, 0) := rfl
theorem kX3_sumAdded_31 : lkp tX3_sumAdded 31 = some (.ireturn, 0) := rfl
theorem kX3_countSeated_0 : lkp tX3_countSeated 0 = some (.iconst 0, 0) := rfl
theorem kX3_countSeated_1 : lkp tX3_countSeated 1 = some (.istore_n 1, 0) := rfl
theorem kX3_countSeated_2 : lkp tX3_countSeated 2 = some (.iconst 0, 0) := rfl
theorem kX3_countSeated_3 : lkp tX3_countSeated 3 = some (.istore_n 2, 0) := rfl
theorem kX3_countSeated_4 : lkp tX3_countSeated 4 = some (.iload_n 2, 0) := rfl
theorem kX3_countSeated_5 : lkp tX3_countSeated 5 = some (.aload_n 0, 0) := rfl
theorem kX3_countSeated_6 : lkp tX3_countSeated 6 = some (.getfield 40, 0) := rfl
theorem kX3_countSeated_9 : lkp tX3_countSeated 9 = some (.if_icmp .ge 25, 34) := rfl
theorem kX3_countSeated_12 : lkp tX3_countSeated 12 = some (.aload_n 0, 0) := rfl
theorem kX3_countSeated_13 : lkp tX3_countSeated 13 = some (.getfield 20, 0) := rfl
theorem kX3_countSeated_16 : lkp tX3_countSeated 16 = some (.iload_n 2, 0) := rfl
theorem kX3_countSeated_17 : lkp tX3_countSeated 17 = some (.aaload, 0) := rfl
theorem kX3_countSeated_18 : lkp tX3_countSeated 18 = some (.getfield 96, 0) := rfl
theorem kX3_countSeated_21 : lkp tX3_countSeated 21 = some (.iconst (-1), 0) := rfl
theorem kX3_countSeated_22 : lkp tX3_countSeated 22 = some (.if_icmp .eq 6, 28) := rfl
theorem kX3_countSeated_25 : lkp tX3_countSeated 25 = some (.iinc 1 1, 0) := rfl
theorem kX3_countSeated_28 : lkp tX3_countSeated 28 = some (.iinc 2 1, 0) := rfl
theorem kX3_countSeated_31 : lkp tX3_countSeated 31 = some (.goto (-27), 4) := rfl
theorem kX3_countSeated_34 : lkp tX3_countSeated 34 = some (.iload_n 1, 0) := rfl
theorem kX3_countSeated_35 : lkp tX3_countSeated 35 = some (.ireturn, 0) := rfl
theorem kX3_countAtFirstChoice_0 : lkp tX3_countAtFirstChoice 0 = some (.iconst 0, 0) := rfl
theorem kX3_countAtFirstChoice_1 : lkp tX3_countAtFirstChoice 1 = some (.istore_n 1, 0) := rfl
theorem kX3_countAtFirstChoice_2 : lkp tX3_countAtFirstChoice 2 = some (.iconst 0, 0) := rfl
theorem kX3_countAtFirstChoice_3 : lkp tX3_countAtFirstChoice 3 = some (.istore_n 2, 0) := rfl
theorem kX3_countAtFirstChoice_4 : lkp tX3_countAtFirstChoice 4 = some (.iload_n 2, 0) := rfl
theorem kX3_countAtFirstChoice_5 : lkp tX3_countAtFirstChoice 5 = some (.aload_n 0, 0) := rfl
theorem kX3_countAtFirstChoice_6 : lkp tX3_countAtFirstChoice 6 = some (.getfield 40, 0) := rfl
theorem kX3_countAtFirstChoice_9 : lkp tX3_countAtFirstChoice 9 = some (.if_icmp .ge 33, 42) := rfl
theorem kX3_countAtFirstChoice_12 : lkp tX3_countAtFirstChoice 12 = some (.aload_n 0, 0) := rfl
theorem kX3_countAtFirstChoice_13 : lkp tX3_countAtFirstChoice 13 = some (.getfield 20, 0) := rfl
theorem kX3_countAtFirstChoice_16 : lkp tX3_countAtFirstChoice 16 = some (.iload_n 2, 0) := rfl
theorem kX3_countAtFirstChoice_17 : lkp tX3_countAtFirstChoice 17 = some (.aaload, 0) := rfl
theorem kX3_countAtFirstChoice_18 : lkp tX3_countAtFirstChoice 18 = some (.aload_n 0, 0) := rfl
theorem kX3_countAtFirstChoice_19 : lkp tX3_countAtFirstChoice 19 = some (.getfield 20, 0) := rfl
theorem kX3_countAtFirstChoice_22 : lkp tX3_countAtFirstChoice 22 = some (.iload_n 2, 0) := rfl
theorem kX3_countAtFirstChoice_23 : lkp tX3_countAtFirstChoice 23 = some (.aaload, 0) := rfl
theorem kX3_countAtFirstChoice_24 : lkp tX3_countAtFirstChoice 24 = some (.getfield 96, 0) := rfl
theorem kX3_countAtFirstChoice_27 : lkp tX3_countAtFirstChoice 27 = some (.invokevirtual 168, 0) := rfl
theorem kX3_countAtFirstChoice_30 : lkp tX3_countAtFirstChoice 30 = some (.ifCond .ne 6, 36) := rfl
theorem kX3_countAtFirstChoice_33 : lkp tX3_countAtFirstChoice 33 = some (.iinc 1 1, 0) := rfl
theorem kX3_countAtFirstChoice_36 : lkp tX3_countAtFirstChoice 36 = some (.iinc 2 1, 0) := rfl
theorem kX3_countAtFirstChoice_39 : lkp tX3_countAtFirstChoice 39 = some (.goto (-35), 4) := rfl
theorem kX3_countAtFirstChoice_42 : lkp tX3_countAtFirstChoice 42 = some (.iload_n 1, 0) := rfl
theorem kX3_countAtFirstChoice_43 : lkp tX3_countAtFirstChoice 43 = some (.ireturn, 0) := rfl
theorem kX3_countLeftOut_0 : lkp tX3_countLeftOut 0 = some (.iconst 0, 0) := rfl
theorem kX3_countLeftOut_1 : lkp tX3_countLeftOut 1 = some (.istore_n 1, 0) := rfl
theorem kX3_countLeftOut_2 : lkp tX3_countLeftOut 2 = some (.iconst 0, 0) := rfl
theorem kX3_countLeftOut_3 : lkp tX3_countLeftOut 3 = some (.istore_n 2, 0) := rfl
theorem kX3_countLeftOut_4 : lkp tX3_countLeftOut 4 = some (.iload_n 2, 0) := rfl
theorem kX3_countLeftOut_5 : lkp tX3_countLeftOut 5 = some (.aload_n 0, 0) := rfl
theorem kX3_countLeftOut_6 : lkp tX3_countLeftOut 6 = some (.getfield 40, 0) := rfl
theorem kX3_countLeftOut_9 : lkp tX3_countLeftOut 9 = some (.if_icmp .ge 37, 46) := rfl
theorem kX3_countLeftOut_12 : lkp tX3_countLeftOut 12 = some (.aload_n 0, 0) := rfl
theorem kX3_countLeftOut_13 : lkp tX3_countLeftOut 13 = some (.getfield 20, 0) := rfl
theorem kX3_countLeftOut_16 : lkp tX3_countLeftOut 16 = some (.iload_n 2, 0) := rfl
theorem kX3_countLeftOut_17 : lkp tX3_countLeftOut 17 = some (.aaload, 0) := rfl
theorem kX3_countLeftOut_18 : lkp tX3_countLeftOut 18 = some (.getfield 96, 0) := rfl
theorem kX3_countLeftOut_21 : lkp tX3_countLeftOut 21 = some (.iconst (-1), 0) := rfl
theorem kX3_countLeftOut_22 : lkp tX3_countLeftOut 22 = some (.if_icmp .ne 18, 40) := rfl
theorem kX3_countLeftOut_25 : lkp tX3_countLeftOut 25 = some (.aload_n 0, 0) := rfl
theorem kX3_countLeftOut_26 : lkp tX3_countLeftOut 26 = some (.getfield 20, 0) := rfl
theorem kX3_countLeftOut_29 : lkp tX3_countLeftOut 29 = some (.iload_n 2, 0) := rfl
theorem kX3_countLeftOut_30 : lkp tX3_countLeftOut 30 = some (.aaload, 0) := rfl
theorem kX3_countLeftOut_31 : lkp tX3_countLeftOut 31 = some (.getfield 171, 0) := rfl
theorem kX3_countLeftOut_34 : lkp tX3_countLeftOut 34 = some (.ifCond .le 6, 40) := rfl
theorem kX3_countLeftOut_37 : lkp tX3_countLeftOut 37 = some (.iinc 1 1, 0) := rfl
theorem kX3_countLeftOut_40 : lkp tX3_countLeftOut 40 = some (.iinc 2 1, 0) := rfl
theorem kX3_countLeftOut_43 : lkp tX3_countLeftOut 43 = some (.goto (-39), 4) := rfl
theorem kX3_countLeftOut_46 : lkp tX3_countLeftOut 46 = some (.iload_n 1, 0) := rfl
theorem kX3_countLeftOut_47 : lkp tX3_countLeftOut 47 = some (.ireturn, 0) := rfl
theorem kX3_sumDistances_0 : lkp tX3_sumDistances 0 = some (.iconst 0, 0) := rfl
theorem kX3_sumDistances_1 : lkp tX3_sumDistances 1 = some (.istore_n 1, 0) := rfl
theorem kX3_sumDistances_2 : lkp tX3_sumDistances 2 = some (.iconst 0, 0) := rfl
theorem kX3_sumDistances_3 : lkp tX3_sumDistances 3 = some (.istore_n 2, 0) := rfl
theorem kX3_sumDistances_4 : lkp tX3_sumDistances 4 = some (.iload_n 2, 0) := rfl
theorem kX3_sumDistances_5 : lkp tX3_sumDistances 5 = some (.aload_n 0, 0) := rfl
theorem kX3_sumDistances_6 : lkp tX3_sumDistances 6 = some (.getfield 40, 0) := rfl
theorem kX3_sumDistances_9 : lkp tX3_sumDistances 9 = some (.if_icmp .ge 40, 49) := rfl
theorem kX3_sumDistances_12 : lkp tX3_sumDistances 12 = some (.aload_n 0, 0) := rfl
theorem kX3_sumDistances_13 : lkp tX3_sumDistances 13 = some (.getfield 20, 0) := rfl
theorem kX3_sumDistances_16 : lkp tX3_sumDistances 16 = some (.iload_n 2, 0) := rfl
theorem kX3_sumDistances_17 : lkp tX3_sumDistances 17 = some (.aaload, 0) := rfl
theorem kX3_sumDistances_18 : lkp tX3_sumDistances 18 = some (.astore_n 3, 0) := rfl
theorem kX3_sumDistances_19 : lkp tX3_sumDistances 19 = some (.aload_n 3, 0) := rfl
theorem kX3_sumDistances_20 : lkp tX3_sumDistances 20 = some (.getfield 96, 0) := rfl
theorem kX3_sumDistances_23 : lkp tX3_sumDistances 23 = some (.iconst (-1), 0) := rfl
theorem kX3_sumDistances_24 : lkp tX3_sumDistances 24 = some (.if_icmp .eq 19, 43) := rfl
theorem kX3_sumDistances_27 : lkp tX3_sumDistances 27 = some (.iload_n 1, 0) := rfl
theorem kX3_sumDistances_28 : lkp tX3_sumDistances 28 = some (.aload_n 0, 0) := rfl
theorem kX3_sumDistances_29 : lkp tX3_sumDistances 29 = some (.getfield 11, 0) := rfl
theorem kX3_sumDistances_32 : lkp tX3_sumDistances 32 = some (.aload_n 3, 0) := rfl
theorem kX3_sumDistances_33 : lkp tX3_sumDistances 33 = some (.getfield 96, 0) := rfl
theorem kX3_sumDistances_36 : lkp tX3_sumDistances 36 = some (.aaload, 0) := rfl
theorem kX3_sumDistances_37 : lkp tX3_sumDistances 37 = some (.aload_n 3, 0) := rfl
theorem kX3_sumDistances_38 : lkp tX3_sumDistances 38 = some (.invokevirtual 73, 0) := rfl
theorem kX3_sumDistances_41 : lkp tX3_sumDistances 41 = some (.iadd, 0) := rfl
theorem kX3_sumDistances_42 : lkp tX3_sumDistances 42 = some (.istore_n 1, 0) := rfl
theorem kX3_sumDistances_43 : lkp tX3_sumDistances 43 = some (.iinc 2 1, 0) := rfl
theorem kX3_sumDistances_46 : lkp tX3_sumDistances 46 = some (.goto (-42), 4) := rfl
theorem kX3_sumDistances_49 : lkp tX3_sumDistances 49 = some (.iload_n 1, 0) := rfl
theorem kX3_sumDistances_50 : lkp tX3_sumDistances 50 = some (.ireturn, 0) := rfl
theorem kX4_init_0 : lkp tX4_init 0 = some (.aload_n 0, 0) := rfl
theorem kX4_init_1 : lkp tX4_init 1 = some (.invokespecial 3, 0) := rfl
theorem kX4_init_4 : lkp tX4_init 4 = some (.aload_n 0, 0) := rfl
theorem kX4_init_5 : lkp tX4_init 5 = some (.bipush 8, 0) := rfl
theorem kX4_init_7 : lkp tX4_init 7 = some (.anewarray 9, 0) := rfl
theorem kX4_init_10 : lkp tX4_init 10 = some (.putfield 11, 0) := rfl
theorem kX4_init_13 : lkp tX4_init 13 = some (.iconst 0, 0) := rfl
theorem kX4_init_14 : lkp tX4_init 14 = some (.istore_n 1, 0) := rfl
theorem kX4_init_15 : lkp tX4_init 15 = some (.iload_n 1, 0) := rfl
theorem kX4_init_16 : lkp tX4_init 16 = some (.bipush 8, 0) := rfl
theorem kX4_init_18 : lkp tX4_init 18 = some (.if_icmp .ge 22, 40) := rfl
theorem kX4_init_21 : lkp tX4_init 21 = some (.aload_n 0, 0) := rfl
theorem kX4_init_22 : lkp tX4_init 22 = some (.getfield 11, 0) := rfl
theorem kX4_init_25 : lkp tX4_init 25 = some (.iload_n 1, 0) := rfl
theorem kX4_init_26 : lkp tX4_init 26 = some (.new 9, 0) := rfl
theorem kX4_init_29 : lkp tX4_init 29 = some (.dup, 0) := rfl
theorem kX4_init_30 : lkp tX4_init 30 = some (.invokespecial 17, 0) := rfl
theorem kX4_init_33 : lkp tX4_init 33 = some (.aastore, 0) := rfl
theorem kX4_init_34 : lkp tX4_init 34 = some (.iinc 1 1, 0) := rfl
theorem kX4_init_37 : lkp tX4_init 37 = some (.goto (-22), 15) := rfl
theorem kX4_init_40 : lkp tX4_init 40 = some (.return_, 0) := rfl
theorem kX4_push_0 : lkp tX4_push 0 = some (.aload_n 0, 0) := rfl
theorem kX4_push_1 : lkp tX4_push 1 = some (.getfield 11, 0) := rfl
theorem kX4_push_4 : lkp tX4_push 4 = some (.aload_n 0, 0) := rfl
theorem kX4_push_5 : lkp tX4_push 5 = some (.getfield 18, 0) := rfl
theorem kX4_push_8 : lkp tX4_push 8 = some (.aaload, 0) := rfl
theorem kX4_push_9 : lkp tX4_push 9 = some (.aload_n 1, 0) := rfl
theorem kX4_push_10 : lkp tX4_push 10 = some (.invokevirtual 22, 0) := rfl
theorem kX4_push_13 : lkp tX4_push 13 = some (.aload_n 0, 0) := rfl
theorem kX4_push_14 : lkp tX4_push 14 = some (.aload_n 0, 0) := rfl
theorem kX4_push_15 : lkp tX4_push 15 = some (.getfield 18, 0) := rfl
theorem kX4_push_18 : lkp tX4_push 18 = some (.iconst 1, 0) := rfl
theorem kX4_push_19 : lkp tX4_push 19 = some (.iadd, 0) := rfl
theorem kX4_push_20 : lkp tX4_push 20 = some (.bipush 8, 0) := rfl
theorem kX4_push_22 : lkp tX4_push 22 = some (.irem, 0) := rfl
theorem kX4_push_23 : lkp tX4_push 23 = some (.putfield 18, 0) := rfl
theorem kX4_push_26 : lkp tX4_push 26 = some (.aload_n 0, 0) := rfl
theorem kX4_push_27 : lkp tX4_push 27 = some (.aload_n 0, 0) := rfl
theorem kX4_push_28 : lkp tX4_push 28 = some (.getfield 26, 0) := rfl
theorem kX4_push_31 : lkp tX4_push 31 = some (.iconst 1, 0) := rfl
theorem kX4_push_32 : lkp tX4_push 32 = some (.iadd, 0) := rfl
theorem kX4_push_33 : lkp tX4_push 33 = some (.bipush 8, 0) := rfl
theorem kX4_push_35 : lkp tX4_push 35 = some (.invokestatic 29, 0) := rfl
theorem kX4_push_38 : lkp tX4_push 38 = some (.putfield 26, 0) := rfl
theorem kX4_push_41 : lkp tX4_push 41 = some (.return_, 0) := rfl
theorem kX4_pop_0 : lkp tX4_pop 0 = some (.aload_n 0, 0) := rfl
theorem kX4_pop_1 : lkp tX4_pop 1 = some (.aload_n 0, 0) := rfl
theorem kX4_pop_2 : lkp tX4_pop 2 = some (.getfield 18, 0) := rfl
theorem kX4_pop_5 : lkp tX4_pop 5 = some (.bipush 8, 0) := rfl
theorem kX4_pop_7 : lkp tX4_pop 7 = some (.iadd, 0) := rfl
theorem kX4_pop_8 : lkp tX4_pop 8 = some (.iconst 1, 0) := rfl
theorem kX4_pop_9 : lkp tX4_pop 9 = some (.isub, 0) := rfl
theorem kX4_pop_10 : lkp tX4_pop 10 = some (.bipush 8, 0) := rfl
theorem kX4_pop_12 : lkp tX4_pop 12 = some (.irem, 0) := rfl
theorem kX4_pop_13 : lkp tX4_pop 13 = some (.putfield 18, 0) := rfl
theorem kX4_pop_16 : lkp tX4_pop 16 = some (.aload_n 0, 0) := rfl
theorem kX4_pop_17 : lkp tX4_pop 17 = some (.dup, 0) := rfl
theorem kX4_pop_18 : lkp tX4_pop 18 = some (.getfield 26, 0) := rfl
theorem kX4_pop_21 : lkp tX4_pop 21 = some (.iconst 1, 0) := rfl
theorem kX4_pop_22 : lkp tX4_pop 22 = some (.isub, 0) := rfl
theorem kX4_pop_23 : lkp tX4_pop 23 = some (.putfield 26, 0) := rfl
theorem kX4_pop_26 : lkp tX4_pop 26 = some (.aload_n 1, 0) := rfl
theorem kX4_pop_27 : lkp tX4_pop 27 = some (.aload_n 0, 0) := rfl
theorem kX4_pop_28 : lkp tX4_pop 28 = some (.getfield 11, 0) := rfl
theorem kX4_pop_31 : lkp tX4_pop 31 = some (.aload_n 0, 0) := rfl
theorem kX4_pop_32 : lkp tX4_pop 32 = some (.getfield 18, 0) := rfl
theorem kX4_pop_35 : lkp tX4_pop 35 = some (.aaload, 0) := rfl
theorem kX4_pop_36 : lkp tX4_pop 36 = some (.invokevirtual 22, 0) := rfl
theorem kX4_pop_39 : lkp tX4_pop 39 = some (.return_, 0) := rfl
theorem kX5_init_0 : lkp tX5_init 0 = some (.aload_n 0, 0) := rfl
theorem kX5_init_1 : lkp tX5_init 1 = some (.invokespecial 3, 0) := rfl
theorem kX5_init_4 : lkp tX5_init 4 = some (.aload_n 0, 0) := rfl
theorem kX5_init_5 : lkp tX5_init 5 = some (.sipush 320, 0) := rfl
theorem kX5_init_8 : lkp tX5_init 8 = some (.newarray .int, 0) := rfl
theorem kX5_init_10 : lkp tX5_init 10 = some (.putfield 9, 0) := rfl
theorem kX5_init_13 : lkp tX5_init 13 = some (.return_, 0) := rfl
theorem kX5_copyFrom_0 : lkp tX5_copyFrom 0 = some (.aload_n 0, 0) := rfl
theorem kX5_copyFrom_1 : lkp tX5_copyFrom 1 = some (.aload_n 1, 0) := rfl
theorem kX5_copyFrom_2 : lkp tX5_copyFrom 2 = some (.getfield 15, 0) := rfl
theorem kX5_copyFrom_5 : lkp tX5_copyFrom 5 = some (.putfield 15, 0) := rfl
theorem kX5_copyFrom_8 : lkp tX5_copyFrom 8 = some (.aload_n 1, 0) := rfl
theorem kX5_copyFrom_9 : lkp tX5_copyFrom 9 = some (.getfield 9, 0) := rfl
theorem kX5_copyFrom_12 : lkp tX5_copyFrom 12 = some (.iconst 0, 0) := rfl
theorem kX5_copyFrom_13 : lkp tX5_copyFrom 13 = some (.aload_n 0, 0) := rfl
theorem kX5_copyFrom_14 : lkp tX5_copyFrom 14 = some (.getfield 9, 0) := rfl
theorem kX5_copyFrom_17 : lkp tX5_copyFrom 17 = some (.iconst 0, 0) := rfl
theorem kX5_copyFrom_18 : lkp tX5_copyFrom 18 = some (.aload_n 0, 0) := rfl
theorem kX5_copyFrom_19 : lkp tX5_copyFrom 19 = some (.invokevirtual 19, 0) := rfl
theorem kX5_copyFrom_22 : lkp tX5_copyFrom 22 = some (.iconst 4, 0) := rfl
theorem kX5_copyFrom_23 : lkp tX5_copyFrom 23 = some (.imul, 0) := rfl
theorem kX5_copyFrom_24 : lkp tX5_copyFrom 24 = some (.invokestatic 23, 0) := rfl
theorem kX5_copyFrom_27 : lkp tX5_copyFrom 27 = some (.return_, 0) := rfl
theorem kX5_keptCount_0 : lkp tX5_keptCount 0 = some (.aload_n 0, 0) := rfl
theorem kX5_keptCount_1 : lkp tX5_keptCount 1 = some (.getfield 15, 0) := rfl
theorem kX5_keptCount_4 : lkp tX5_keptCount 4 = some (.bipush 80, 0) := rfl
theorem kX5_keptCount_6 : lkp tX5_keptCount 6 = some (.invokestatic 29, 0) := rfl
theorem kX5_keptCount_9 : lkp tX5_keptCount 9 = some (.ireturn, 0) := rfl
theorem kX5_note_0 : lkp tX5_note 0 = some (.aload_n 0, 0) := rfl
theorem kX5_note_1 : lkp tX5_note 1 = some (.getfield 15, 0) := rfl
theorem kX5_note_4 : lkp tX5_note 4 = some (.bipush 80, 0) := rfl
theorem kX5_note_6 : lkp tX5_note 6 = some (.if_icmp .ge 50, 56) := rfl
theorem kX5_note_9 : lkp tX5_note 9 = some (.aload_n 0, 0) := rfl
theorem kX5_note_10 : lkp tX5_note 10 = some (.getfield 15, 0) := rfl
theorem kX5_note_13 : lkp tX5_note 13 = some (.iconst 4, 0) := rfl
theorem kX5_note_14 : lkp tX5_note 14 = some (.imul, 0) := rfl
theorem kX5_note_15 : lkp tX5_note 15 = some (.istore 5, 0) := rfl
theorem kX5_note_17 : lkp tX5_note 17 = some (.aload_n 0, 0) := rfl
theorem kX5_note_18 : lkp tX5_note 18 = some (.getfield 9, 0) := rfl
theorem kX5_note_21 : lkp tX5_note 21 = some (.iload 5, 0) := rfl
theorem kX5_note_23 : lkp tX5_note 23 = some (.iload_n 1, 0) := rfl
theorem kX5_note_24 : lkp tX5_note 24 = some (.iastore, 0) := rfl
theorem kX5_note_25 : lkp tX5_note 25 = some (.aload_n 0, 0) := rfl
theorem kX5_note_26 : lkp tX5_note 26 = some (.getfield 9, 0) := rfl
theorem kX5_note_29 : lkp tX5_note 29 = some (.iload 5, 0) := rfl
theorem kX5_note_31 : lkp tX5_note 31 = some (.iconst 1, 0) := rfl
theorem kX5_note_32 : lkp tX5_note 32 = some (.iadd, 0) := rfl
theorem kX5_note_33 : lkp tX5_note 33 = some (.iload_n 2, 0) := rfl
theorem kX5_note_34 : lkp tX5_note 34 = some (.iastore, 0) := rfl
theorem kX5_note_35 : lkp tX5_note 35 = some (.aload_n 0, 0) := rfl
theorem kX5_note_36 : lkp tX5_note 36 = some (.getfield 9, 0) := rfl
theorem kX5_note_39 : lkp tX5_note 39 = some (.iload 5, 0) := rfl
theorem kX5_note_41 : lkp tX5_note 41 = some (.iconst 2, 0) := rfl
theorem kX5_note_42 : lkp tX5_note 42 = some (.iadd, 0) := rfl
theorem kX5_note_43 : lkp tX5_note 43 = some (.iload_n 3, 0) := rfl
theorem kX5_note_44 : lkp tX5_note 44 = some (.iastore, 0) := rfl
theorem kX5_note_45 : lkp tX5_note 45 = some (.aload_n 0, 0) := rfl
theorem kX5_note_46 : lkp tX5_note 46 = some (.getfield 9, 0) := rfl
theorem kX5_note_49 : lkp tX5_note 49 = some (.iload 5, 0) := rfl
theorem kX5_note_51 : lkp tX5_note 51 = some (.iconst 3, 0) := rfl
theorem kX5_note_52 : lkp tX5_note 52 = some (.iadd, 0) := rfl
theorem kX5_note_53 : lkp tX5_note 53 = some (.iload 4, 0) := rfl
theorem kX5_note_55 : lkp tX5_note 55 = some (.iastore, 0) := rfl
theorem kX5_note_56 : lkp tX5_note 56 = some (.aload_n 0, 0) := rfl
theorem kX5_note_57 : lkp tX5_note 57 = some (.dup, 0) := rfl
theorem kX5_note_58 : lkp tX5_note 58 = some (.getfield 15, 0) := rfl
theorem kX5_note_61 : lkp tX5_note 61 = some (.iconst 1, 0) := rfl
theorem kX5_note_62 : lkp tX5_note 62 = some (.iadd, 0) := rfl
theorem kX5_note_63 : lkp tX5_note 63 = some (.putfield 15, 0) := rfl
theorem kX5_note_66 : lkp tX5_note 66 = some (.return_, 0) := rfl
theorem kX7_init_0 : lkp tX7_init 0 = some (.aload_n 0, 0) := rfl
theorem kX7_init_1 : lkp tX7_init 1 = some (.invokespecial 3, 0) := rfl
theorem kX7_init_4 : lkp tX7_init 4 = some (.return_, 0) := rfl
theorem kX7_begin_0 : lkp tX7_begin 0 = some (.aload_n 0, 0) := rfl
theorem kX7_begin_1 : lkp tX7_begin 1 = some (.iload_n 1, 0) := rfl
theorem kX7_begin_2 : lkp tX7_begin 2 = some (.putfield 9, 0) := rfl
theorem kX7_begin_5 : lkp tX7_begin 5 = some (.aload_n 0, 0) := rfl
theorem kX7_begin_6 : lkp tX7_begin 6 = some (.iload_n 2, 0) := rfl
theorem kX7_begin_7 : lkp tX7_begin 7 = some (.putfield 15, 0) := rfl
theorem kX7_begin_10 : lkp tX7_begin 10 = some (.aload_n 0, 0) := rfl
theorem kX7_begin_11 : lkp tX7_begin 11 = some (.iload_n 3, 0) := rfl
theorem kX7_begin_12 : lkp tX7_begin 12 = some (.putfield 18, 0) := rfl
theorem kX7_begin_15 : lkp tX7_begin 15 = some (.aload_n 0, 0) := rfl
theorem kX7_begin_16 : lkp tX7_begin 16 = some (.iload 4, 0) := rfl
theorem kX7_begin_18 : lkp tX7_begin 18 = some (.putfield 21, 0) := rfl
theorem kX7_begin_21 : lkp tX7_begin 21 = some (.aload_n 0, 0) := rfl
theorem kX7_begin_22 : lkp tX7_begin 22 = some (.iconst 0, 0) := rfl
theorem kX7_begin_23 : lkp tX7_begin 23 = some (.putfield 24, 0) := rfl
theorem kX7_begin_26 : lkp tX7_begin 26 = some (.aload_n 0, 0) := rfl
theorem kX7_begin_27 : lkp tX7_begin 27 = some (.bipush 50, 0) := rfl
theorem kX7_begin_29 : lkp tX7_begin 29 = some (.putfield 27, 0) := rfl
theorem kX7_begin_32 : lkp tX7_begin 32 = some (.aload_n 0, 0) := rfl
theorem kX7_begin_33 : lkp tX7_begin 33 = some (.iconst 0, 0) := rfl
theorem kX7_begin_34 : lkp tX7_begin 34 = some (.putfield 30, 0) := rfl
theorem kX7_begin_37 : lkp tX7_begin 37 = some (.return_, 0) := rfl
theorem kX7_copyFrom_0 : lkp tX7_copyFrom 0 = some (.aload_n 0, 0) := rfl
theorem kX7_copyFrom_1 : lkp tX7_copyFrom 1 = some (.aload_n 1, 0) := rfl
theorem kX7_copyFrom_2 : lkp tX7_copyFrom 2 = some (.getfield 9, 0) := rfl
theorem kX7_copyFrom_5 : lkp tX7_copyFrom 5 = some (.putfield 9, 0) := rfl
theorem kX7_copyFrom_8 : lkp tX7_copyFrom 8 = some (.aload_n 0, 0) := rfl
theorem kX7_copyFrom_9 : lkp tX7_copyFrom 9 = some (.aload_n 1, 0) := rfl
theorem kX7_copyFrom_10 : lkp tX7_copyFrom 10 = some (.getfield 15, 0) := rfl
theorem kX7_copyFrom_13 : lkp tX7_copyFrom 13 = some (.putfield 15, 0) := rfl
theorem kX7_copyFrom_16 : lkp tX7_copyFrom 16 = some (.aload_n 0, 0) := rfl
theorem kX7_copyFrom_17 : lkp tX7_copyFrom 17 = some (.aload_n 1, 0) := rfl
theorem kX7_copyFrom_18 : lkp tX7_copyFrom 18 = some (.getfield 18, 0) := rfl
theorem kX7_copyFrom_21 : lkp tX7_copyFrom 21 = some (.putfield 18, 0) := rfl
theorem kX7_copyFrom_24 : lkp tX7_copyFrom 24 = some (.aload_n 0, 0) := rfl
theorem kX7_copyFrom_25 : lkp tX7_copyFrom 25 = some (.aload_n 1, 0) := rfl
theorem kX7_copyFrom_26 : lkp tX7_copyFrom 26 = some (.getfield 21, 0) := rfl
theorem kX7_copyFrom_29 : lkp tX7_copyFrom 29 = some (.putfield 21, 0) := rfl
theorem kX7_copyFrom_32 : lkp tX7_copyFrom 32 = some (.aload_n 0, 0) := rfl
theorem kX7_copyFrom_33 : lkp tX7_copyFrom 33 = some (.aload_n 1, 0) := rfl
theorem kX7_copyFrom_34 : lkp tX7_copyFrom 34 = some (.getfield 24, 0) := rfl
theorem kX7_copyFrom_37 : lkp tX7_copyFrom 37 = some (.putfield 24, 0) := rfl
theorem kX7_copyFrom_40 : lkp tX7_copyFrom 40 = some (.aload_n 0, 0) := rfl
theorem kX7_copyFrom_41 : lkp tX7_copyFrom 41 = some (.aload_n 1, 0) := rfl
theorem kX7_copyFrom_42 : lkp tX7_copyFrom 42 = some (.getfield 27, 0) := rfl
theorem kX7_copyFrom_45 : lkp tX7_copyFrom 45 = some (.putfield 27, 0) := rfl
theorem kX7_copyFrom_48 : lkp tX7_copyFrom 48 = some (.aload_n 0, 0) := rfl
theorem kX7_copyFrom_49 : lkp tX7_copyFrom 49 = some (.aload_n 1, 0) := rfl
theorem kX7_copyFrom_50 : lkp tX7_copyFrom 50 = some (.getfield 30, 0) := rfl
theorem kX7_copyFrom_53 : lkp tX7_copyFrom 53 = some (.putfield 30, 0) := rfl
theorem kX7_copyFrom_56 : lkp tX7_copyFrom 56 = some (.return_, 0) := rfl
theorem kX7_distanceTo_0 : lkp tX7_distanceTo 0 = some (.aload_n 0, 0) := rfl
theorem kX7_distanceTo_1 : lkp tX7_distanceTo 1 = some (.getfield 9, 0) := rfl
theorem kX7_distanceTo_4 : lkp tX7_distanceTo 4 = some (.aload_n 1, 0) := rfl
theorem kX7_distanceTo_5 : lkp tX7_distanceTo 5 = some (.getfield 33, 0) := rfl
theorem kX7_distanceTo_8 : lkp tX7_distanceTo 8 = some (.isub, 0) := rfl
theorem kX7_distanceTo_9 : lkp tX7_distanceTo 9 = some (.invokestatic 36, 0) := rfl
theorem kX7_distanceTo_12 : lkp tX7_distanceTo 12 = some (.aload_n 0, 0) := rfl
theorem kX7_distanceTo_13 : lkp tX7_distanceTo 13 = some (.getfield 15, 0) := rfl
theorem kX7_distanceTo_16 : lkp tX7_distanceTo 16 = some (.aload_n 1, 0) := rfl
theorem kX7_distanceTo_17 : lkp tX7_distanceTo 17 = some (.getfield 42, 0) := rfl
theorem kX7_distanceTo_20 : lkp tX7_distanceTo 20 = some (.isub, 0) := rfl
theorem kX7_distanceTo_21 : lkp tX7_distanceTo 21 = some (.invokestatic 36, 0) := rfl
theorem kX7_distanceTo_24 : lkp tX7_distanceTo 24 = some (.iadd, 0) := rfl
theorem kX7_distanceTo_25 : lkp tX7_distanceTo 25 = some (.ireturn, 0) := rfl
theorem kX8_init_0 : lkp tX8_init 0 = some (.aload_n 0, 0) := rfl
theorem kX8_init_1 : lkp tX8_init 1 = some (.invokespecial 1, 0) := rfl
theorem kX8_init_4 : lkp tX8_init 4 = some (.aload_n 0, 0) := rfl
theorem kX8_init_5 : lkp tX8_init 5 = some (.new 7, 0) := rfl
theorem kX8_init_8 : lkp tX8_init 8 = some (.dup, 0) := rfl
theorem kX8_init_9 : lkp tX8_init 9 = some (.invokespecial 9, 0) := rfl
theorem kX8_init_12 : lkp tX8_init 12 = some (.putfield 10, 0) := rfl
theorem kX8_init_15 : lkp tX8_init 15 = some (.aload_n 0, 0) := rfl
theorem kX8_init_16 : lkp tX8_init 16 = some (.new 7, 0) := rfl
theorem kX8_init_19 : lkp tX8_init 19 = some (.dup, 0) := rfl
theorem kX8_init_20 : lkp tX8_init 20 = some (.invokespecial 9, 0) := rfl
theorem kX8_init_23 : lkp tX8_init 23 = some (.putfield 16, 0) := rfl
theorem kX8_init_26 : lkp tX8_init 26 = some (.aload_n 0, 0) := rfl
theorem kX8_init_27 : lkp tX8_init 27 = some (.new 19, 0) := rfl
theorem kX8_init_30 : lkp tX8_init 30 = some (.dup, 0) := rfl
theorem kX8_init_31 : lkp tX8_init 31 = some (.invokespecial 21, 0) := rfl
theorem kX8_init_34 : lkp tX8_init 34 = some (.putfield 22, 0) := rfl
theorem kX8_init_37 : lkp tX8_init 37 = some (.aload_n 0, 0) := rfl
theorem kX8_init_38 : lkp tX8_init 38 = some (.new 26, 0) := rfl
theorem kX8_init_41 : lkp tX8_init 41 = some (.dup, 0) := rfl
theorem kX8_init_42 : lkp tX8_init 42 = some (.invokespecial 28, 0) := rfl
theorem kX8_init_45 : lkp tX8_init 45 = some (.putfield 29, 0) := rfl
theorem kX8_init_48 : lkp tX8_init 48 = some (.aload_n 0, 0) := rfl
theorem kX8_init_49 : lkp tX8_init 49 = some (.new 33, 0) := rfl
theorem kX8_init_52 : lkp tX8_init 52 = some (.dup, 0) := rfl
theorem kX8_init_53 : lkp tX8_init 53 = some (.invokespecial 35, 0) := rfl
theorem kX8_init_56 : lkp tX8_init 56 = some (.putfield 36, 0) := rfl
theorem kX8_init_59 : lkp tX8_init 59 = some (.aload_n 0, 0) := rfl
theorem kX8_init_60 : lkp tX8_init 60 = some (.iconst 0, 0) := rfl
theorem kX8_init_61 : lkp tX8_init 61 = some (.putfield 40, 0) := rfl
theorem kX8_init_64 : lkp tX8_init 64 = some (.aload_n 0, 0) := rfl
theorem kX8_init_65 : lkp tX8_init 65 = some (.iconst 0, 0) := rfl
theorem kX8_init_66 : lkp tX8_init 66 = some (.putfield 44, 0) := rfl
theorem kX8_init_69 : lkp tX8_init 69 = some (.aload_n 0, 0) := rfl
theorem kX8_init_70 : lkp tX8_init 70 = some (.iconst (-1), 0) := rfl
theorem kX8_init_71 : lkp tX8_init 71 = some (.putfield 48, 0) := rfl
theorem kX8_init_74 : lkp tX8_init 74 = some (.return_, 0) := rfl
theorem kX8_addSchool_0 : lkp tX8_addSchool 0 = some (.iload_n 1, 0) := rfl
theorem kX8_addSchool_1 : lkp tX8_addSchool 1 = some (.bipush 99, 0) := rfl
theorem kX8_addSchool_3 : lkp tX8_addSchool 3 = some (.invokestatic 51, 0) := rfl
theorem kX8_addSchool_6 : lkp tX8_addSchool 6 = some (.iload_n 2, 0) := rfl
theorem kX8_addSchool_7 : lkp tX8_addSchool 7 = some (.bipush 99, 0) := rfl
theorem kX8_addSchool_9 : lkp tX8_addSchool 9 = some (.invokestatic 51, 0) := rfl
theorem kX8_addSchool_12 : lkp tX8_addSchool 12 = some (.iload_n 3, 0) := rfl
theorem kX8_addSchool_13 : lkp tX8_addSchool 13 = some (.bipush 12, 0) := rfl
theorem kX8_addSchool_15 : lkp tX8_addSchool 15 = some (.invokestatic 51, 0) := rfl
theorem kX8_addSchool_18 : lkp tX8_addSchool 18 = some (.iload 4, 0) := rfl
theorem kX8_addSchool_20 : lkp tX8_addSchool 20 = some (.sipush 198, 0) := rfl
theorem kX8_addSchool_23 : lkp tX8_addSchool 23 = some (.invokestatic 51, 0) := rfl
theorem kX8_addSchool_26 : lkp tX8_addSchool 26 = some (.aload_n 0, 0) := rfl
theorem kX8_addSchool_27 : lkp tX8_addSchool 27 = some (.getfield 10, 0) := rfl
theorem kX8_addSchool_30 : lkp tX8_addSchool 30 = some (.getfield 55, 0) := rfl
theorem kX8_addSchool_33 : lkp tX8_addSchool 33 = some (.bipush 6, 0) := rfl
theorem kX8_addSchool_35 : lkp tX8_addSchool 35 = some (.if_icmp .lt 13, 48) := rfl
theorem kX8_addSchool_38 : lkp tX8_addSchool 38 = some (.new 58, 0) := rfl
theorem kX8_addSchool_41 : lkp tX8_addSchool 41 = some (.dup, 0) := rfl
theorem kX8_addSchool_42 : lkp tX8_addSchool 42 = some (.ldc 60, 0) := rfl
theorem kX8_addSchool_44 : lkp tX8_addSchool 44 = some (.invokespecial 62, 0) := rfl
theorem kX8_addSchool_47 : lkp tX8_addSchool 47 = some (.athrow, 0) := rfl
theorem kX8_addSchool_48 : lkp tX8_addSchool 48 = some (.aload_n 0, 0) := rfl
theorem kX8_addSchool_49 : lkp tX8_addSchool 49 = some (.getfield 22, 0) := rfl
theorem kX8_addSchool_52 : lkp tX8_addSchool 52 = some (.aload_n 0, 0) := rfl
theorem kX8_addSchool_53 : lkp tX8_addSchool 53 = some (.getfield 10, 0) := rfl
theorem kX8_addSchool_56 : lkp tX8_addSchool 56 = some (.invokevirtual 65, 0) := rfl
theorem kX8_addSchool_59 : lkp tX8_addSchool 59 = some (.aload_n 0, 0) := rfl
theorem kX8_addSchool_60 : lkp tX8_addSchool 60 = some (.getfield 10, 0) := rfl
theorem kX8_addSchool_63 : lkp tX8_addSchool 63 = some (.getfield 55, 0) := rfl
theorem kX8_addSchool_66 : lkp tX8_addSchool 66 = some (.istore 5, 0) := rfl
theorem kX8_addSchool_68 : lkp tX8_addSchool 68 = some (.aload_n 0, 0) := rfl
theorem kX8_addSchool_69 : lkp tX8_addSchool 69 = some (.getfield 10, 0) := rfl
theorem kX8_addSchool_72 : lkp tX8_addSchool 72 = some (.getfield 69, 0) := rfl
theorem kX8_addSchool_75 : lkp tX8_addSchool 75 = some (.iload 5, 0) := rfl
theorem kX8_addSchool_77 : lkp tX8_addSchool 77 = some (.aaload, 0) := rfl
theorem kX8_addSchool_78 : lkp tX8_addSchool 78 = some (.iload_n 1, 0) := rfl
theorem kX8_addSchool_79 : lkp tX8_addSchool 79 = some (.iload_n 2, 0) := rfl
theorem kX8_addSchool_80 : lkp tX8_addSchool 80 = some (.iload_n 3, 0) := rfl
theorem kX8_addSchool_81 : lkp tX8_addSchool 81 = some (.iload 4, 0) := rfl
theorem kX8_addSchool_83 : lkp tX8_addSchool 83 = some (.invokevirtual 73, 0) := rfl
theorem kX8_addSchool_86 : lkp tX8_addSchool 86 = some (.aload_n 0, 0) := rfl
theorem kX8_addSchool_87 : lkp tX8_addSchool 87 = some (.getfield 10, 0) := rfl
theorem kX8_addSchool_90 : lkp tX8_addSchool 90 = some (.iload 5, 0) := rfl
theorem kX8_addSchool_92 : lkp tX8_addSchool 92 = some (.iconst 1, 0) := rfl
theorem kX8_addSchool_93 : lkp tX8_addSchool 93 = some (.iadd, 0) := rfl
theorem kX8_addSchool_94 : lkp tX8_addSchool 94 = some (.putfield 55, 0) := rfl
theorem kX8_addSchool_97 : lkp tX8_addSchool 97 = some (.iload 5, 0) := rfl
theorem kX8_addSchool_99 : lkp tX8_addSchool 99 = some (.ireturn, 0) := rfl
theorem kX8_setSeats_0 : lkp tX8_setSeats 0 = some (.aload_n 0, 0) := rfl
theorem kX8_setSeats_1 : lkp tX8_setSeats 1 = some (.iload_n 1, 0) := rfl
theorem kX8_setSeats_2 : lkp tX8_setSeats 2 = some (.invokevirtual 79, 0) := rfl
theorem kX8_setSeats_5 : lkp tX8_setSeats 5 = some (.iload_n 2, 0) := rfl
theorem kX8_setSeats_6 : lkp tX8_setSeats 6 = some (.bipush 12, 0) := rfl
theorem kX8_setSeats_8 : lkp tX8_setSeats 8 = some (.invokestatic 51, 0) := rfl
theorem kX8_setSeats_11 : lkp tX8_setSeats 11 = some (.aload_n 0, 0) := rfl
theorem kX8_setSeats_12 : lkp tX8_setSeats 12 = some (.getfield 22, 0) := rfl
theorem kX8_setSeats_15 : lkp tX8_setSeats 15 = some (.aload_n 0, 0) := rfl
theorem kX8_setSeats_16 : lkp tX8_setSeats 16 = some (.getfield 10, 0) := rfl
theorem kX8_setSeats_19 : lkp tX8_setSeats 19 = some (.invokevirtual 65, 0) := rfl
theorem kX8_setSeats_22 : lkp tX8_setSeats 22 = some (.aload_n 0, 0) := rfl
theorem kX8_setSeats_23 : lkp tX8_setSeats 23 = some (.getfield 10, 0) := rfl
theorem kX8_setSeats_26 : lkp tX8_setSeats 26 = some (.getfield 69, 0) := rfl
theorem kX8_setSeats_29 : lkp tX8_setSeats 29 = some (.iload_n 1, 0) := rfl
theorem kX8_setSeats_30 : lkp tX8_setSeats 30 = some (.aaload, 0) := rfl
theorem kX8_setSeats_31 : lkp tX8_setSeats 31 = some (.iload_n 2, 0) := rfl
theorem kX8_setSeats_32 : lkp tX8_setSeats 32 = some (.putfield 83, 0) := rfl
theorem kX8_setSeats_35 : lkp tX8_setSeats 35 = some (.aload_n 0, 0) := rfl
theorem kX8_setSeats_36 : lkp tX8_setSeats 36 = some (.getfield 10, 0) := rfl
theorem kX8_setSeats_39 : lkp tX8_setSeats 39 = some (.invokevirtual 86, 0) := rfl
theorem kX8_setSeats_42 : lkp tX8_setSeats 42 = some (.ireturn, 0) := rfl
theorem kX8_setRadius_0 : lkp tX8_setRadius 0 = some (.aload_n 0, 0) := rfl
theorem kX8_setRadius_1 : lkp tX8_setRadius 1 = some (.iload_n 1, 0) := rfl
theorem kX8_setRadius_2 : lkp tX8_setRadius 2 = some (.invokevirtual 79, 0) := rfl
theorem kX8_setRadius_5 : lkp tX8_setRadius 5 = some (.iload_n 2, 0) := rfl
theorem kX8_setRadius_6 : lkp tX8_setRadius 6 = some (.sipush 198, 0) := rfl
theorem kX8_setRadius_9 : lkp tX8_setRadius 9 = some (.invokestatic 51, 0) := rfl
theorem kX8_setRadius_12 : lkp tX8_setRadius 12 = some (.aload_n 0, 0) := rfl
theorem kX8_setRadius_13 : lkp tX8_setRadius 13 = some (.getfield 22, 0) := rfl
theorem kX8_setRadius_16 : lkp tX8_setRadius 16 = some (.aload_n 0, 0) := rfl
theorem kX8_setRadius_17 : lkp tX8_setRadius 17 = some (.getfield 10, 0) := rfl
theorem kX8_setRadius_20 : lkp tX8_setRadius 20 = some (.invokevirtual 65, 0) := rfl
theorem kX8_setRadius_23 : lkp tX8_setRadius 23 = some (.aload_n 0, 0) := rfl
theorem kX8_setRadius_24 : lkp tX8_setRadius 24 = some (.getfield 10, 0) := rfl
theorem kX8_setRadius_27 : lkp tX8_setRadius 27 = some (.getfield 69, 0) := rfl
theorem kX8_setRadius_30 : lkp tX8_setRadius 30 = some (.iload_n 1, 0) := rfl
theorem kX8_setRadius_31 : lkp tX8_setRadius 31 = some (.aaload, 0) := rfl
theorem kX8_setRadius_32 : lkp tX8_setRadius 32 = some (.getfield 90, 0) := rfl
theorem kX8_setRadius_35 : lkp tX8_setRadius 35 = some (.istore_n 3, 0) := rfl
theorem kX8_setRadius_36 : lkp tX8_setRadius 36 = some (.aload_n 0, 0) := rfl
theorem kX8_setRadius_37 : lkp tX8_setRadius 37 = some (.getfield 10, 0) := rfl
theorem kX8_setRadius_40 : lkp tX8_setRadius 40 = some (.getfield 69, 0) := rfl
theorem kX8_setRadius_43 : lkp tX8_setRadius 43 = some (.iload_n 1, 0) := rfl
theorem kX8_setRadius_44 : lkp tX8_setRadius 44 = some (.aaload, 0) := rfl
theorem kX8_setRadius_45 : lkp tX8_setRadius 45 = some (.iload_n 2, 0) := rfl
theorem kX8_setRadius_46 : lkp tX8_setRadius 46 = some (.putfield 90, 0) := rfl
theorem kX8_setRadius_49 : lkp tX8_setRadius 49 = some (.iload_n 3, 0) := rfl
theorem kX8_setRadius_50 : lkp tX8_setRadius 50 = some (.ireturn, 0) := rfl
theorem kX8_setRule_0 : lkp tX8_setRule 0 = some (.aload_n 0, 0) := rfl
theorem kX8_setRule_1 : lkp tX8_setRule 1 = some (.iload_n 1, 0) := rfl
theorem kX8_setRule_2 : lkp tX8_setRule 2 = some (.invokevirtual 79, 0) := rfl
theorem kX8_setRule_5 : lkp tX8_setRule 5 = some (.iload_n 2, 0) := rfl
theorem kX8_setRule_6 : lkp tX8_setRule 6 = some (.iconst 1, 0) := rfl
theorem kX8_setRule_7 : lkp tX8_setRule 7 = some (.invokestatic 51, 0) := rfl
theorem kX8_setRule_10 : lkp tX8_setRule 10 = some (.aload_n 0, 0) := rfl
theorem kX8_setRule_11 : lkp tX8_setRule 11 = some (.getfield 22, 0) := rfl
theorem kX8_setRule_14 : lkp tX8_setRule 14 = some (.aload_n 0, 0) := rfl
theorem kX8_setRule_15 : lkp tX8_setRule 15 = some (.getfield 10, 0) := rfl
theorem kX8_setRule_18 : lkp tX8_setRule 18 = some (.invokevirtual 65, 0) := rfl
theorem kX8_setRule_21 : lkp tX8_setRule 21 = some (.aload_n 0, 0) := rfl
theorem kX8_setRule_22 : lkp tX8_setRule 22 = some (.getfield 10, 0) := rfl
theorem kX8_setRule_25 : lkp tX8_setRule 25 = some (.getfield 69, 0) := rfl
theorem kX8_setRule_28 : lkp tX8_setRule 28 = some (.iload_n 1, 0) := rfl
theorem kX8_setRule_29 : lkp tX8_setRule 29 = some (.aaload, 0) := rfl
theorem kX8_setRule_30 : lkp tX8_setRule 30 = some (.getfield 93, 0) := rfl
theorem kX8_setRule_33 : lkp tX8_setRule 33 = some (.istore_n 3, 0) := rfl
theorem kX8_setRule_34 : lkp tX8_setRule 34 = some (.aload_n 0, 0) := rfl
theorem kX8_setRule_35 : lkp tX8_setRule 35 = some (.getfield 10, 0) := rfl
theorem kX8_setRule_38 : lkp tX8_setRule 38 = some (.getfield 69, 0) := rfl
theorem kX8_setRule_41 : lkp tX8_setRule 41 = some (.iload_n 1, 0) := rfl
theorem kX8_setRule_42 : lkp tX8_setRule 42 = some (.aaload, 0) := rfl
theorem kX8_setRule_43 : lkp tX8_setRule 43 = some (.iload_n 2, 0) := rfl
theorem kX8_setRule_44 : lkp tX8_setRule 44 = some (.putfield 93, 0) := rfl
theorem kX8_setRule_47 : lkp tX8_setRule 47 = some (.iload_n 3, 0) := rfl
theorem kX8_setRule_48 : lkp tX8_setRule 48 = some (.ireturn, 0) := rfl
theorem kX8_setLimit_0 : lkp tX8_setLimit 0 = some (.aload_n 0, 0) := rfl
theorem kX8_setLimit_1 : lkp tX8_setLimit 1 = some (.iload_n 1, 0) := rfl
theorem kX8_setLimit_2 : lkp tX8_setLimit 2 = some (.invokevirtual 79, 0) := rfl
theorem kX8_setLimit_5 : lkp tX8_setLimit 5 = some (.iload_n 2, 0) := rfl
theorem kX8_setLimit_6 : lkp tX8_setLimit 6 = some (.bipush 100, 0) := rfl
theorem kX8_setLimit_8 : lkp tX8_setLimit 8 = some (.invokestatic 51, 0) := rfl
theorem kX8_setLimit_11 : lkp tX8_setLimit 11 = some (.aload_n 0, 0) := rfl
theorem kX8_setLimit_12 : lkp tX8_setLimit 12 = some (.getfield 22, 0) := rfl
theorem kX8_setLimit_15 : lkp tX8_setLimit 15 = some (.aload_n 0, 0) := rfl
theorem kX8_setLimit_16 : lkp tX8_setLimit 16 = some (.getfield 10, 0) := rfl
theorem kX8_setLimit_19 : lkp tX8_setLimit 19 = some (.invokevirtual 65, 0) := rfl
theorem kX8_setLimit_22 : lkp tX8_setLimit 22 = some (.aload_n 0, 0) := rfl
theorem kX8_setLimit_23 : lkp tX8_setLimit 23 = some (.getfield 10, 0) := rfl
theorem kX8_setLimit_26 : lkp tX8_setLimit 26 = some (.getfield 69, 0) := rfl
theorem kX8_setLimit_29 : lkp tX8_setLimit 29 = some (.iload_n 1, 0) := rfl
theorem kX8_setLimit_30 : lkp tX8_setLimit 30 = some (.aaload, 0) := rfl
theorem kX8_setLimit_31 : lkp tX8_setLimit 31 = some (.getfield 96, 0) := rfl
theorem kX8_setLimit_34 : lkp tX8_setLimit 34 = some (.istore_n 3, 0) := rfl
theorem kX8_setLimit_35 : lkp tX8_setLimit 35 = some (.aload_n 0, 0) := rfl
theorem kX8_setLimit_36 : lkp tX8_setLimit 36 = some (.getfield 10, 0) := rfl
theorem kX8_setLimit_39 : lkp tX8_setLimit 39 = some (.getfield 69, 0) := rfl
theorem kX8_setLimit_42 : lkp tX8_setLimit 42 = some (.iload_n 1, 0) := rfl
theorem kX8_setLimit_43 : lkp tX8_setLimit 43 = some (.aaload, 0) := rfl
theorem kX8_setLimit_44 : lkp tX8_setLimit 44 = some (.iload_n 2, 0) := rfl
theorem kX8_setLimit_45 : lkp tX8_setLimit 45 = some (.putfield 96, 0) := rfl
theorem kX8_setLimit_48 : lkp tX8_setLimit 48 = some (.iload_n 3, 0) := rfl
theorem kX8_setLimit_49 : lkp tX8_setLimit 49 = some (.ireturn, 0) := rfl
theorem kX8_setPupils_0 : lkp tX8_setPupils 0 = some (.iload_n 1, 0) := rfl
theorem kX8_setPupils_1 : lkp tX8_setPupils 1 = some (.ifCond .lt 9, 10) := rfl
theorem kX8_setPupils_4 : lkp tX8_setPupils 4 = some (.iload_n 1, 0) := rfl
theorem kX8_setPupils_5 : lkp tX8_setPupils 5 = some (.bipush 12, 0) := rfl
theorem kX8_setPupils_7 : lkp tX8_setPupils 7 = some (.if_icmp .lt 13, 20) := rfl
theorem kX8_setPupils_10 : lkp tX8_setPupils 10 = some (.new 99, 0) := rfl
theorem kX8_setPupils_13 : lkp tX8_setPupils 13 = some (.dup, 0) := rfl
theorem kX8_setPupils_14 : lkp tX8_setPupils 14 = some (.ldc 101, 0) := rfl
theorem kX8_setPupils_16 : lkp tX8_setPupils 16 = some (.invokespecial 103, 0) := rfl
theorem kX8_setPupils_19 : lkp tX8_setPupils 19 = some (.athrow, 0) := rfl
theorem kX8_setPupils_20 : lkp tX8_setPupils 20 = some (.aload_n 0, 0) := rfl
theorem kX8_setPupils_21 : lkp tX8_setPupils 21 = some (.iload_n 2, 0) := rfl
theorem kX8_setPupils_22 : lkp tX8_setPupils 22 = some (.invokevirtual 79, 0) := rfl
theorem kX8_setPupils_25 : lkp tX8_setPupils 25 = some (.aload_n 0, 0) := rfl
theorem kX8_setPupils_26 : lkp tX8_setPupils 26 = some (.getfield 22, 0) := rfl
theorem kX8_setPupils_29 : lkp tX8_setPupils 29 = some (.aload_n 0, 0) := rfl
theorem kX8_setPupils_30 : lkp tX8_setPupils 30 = some (.getfield 10, 0) := rfl
theorem kX8_setPupils_33 : lkp tX8_setPupils 33 = some (.invokevirtual 65, 0) := rfl
theorem kX8_setPupils_36 : lkp tX8_setPupils 36 = some (.aload_n 0, 0) := rfl
theorem kX8_setPupils_37 : lkp tX8_setPupils 37 = some (.getfield 10, 0) := rfl
theorem kX8_setPupils_40 : lkp tX8_setPupils 40 = some (.getfield 104, 0) := rfl
theorem kX8_setPupils_43 : lkp tX8_setPupils 43 = some (.iload_n 1, 0) := rfl
theorem kX8_setPupils_44 : lkp tX8_setPupils 44 = some (.iaload, 0) := rfl
theorem kX8_setPupils_45 : lkp tX8_setPupils 45 = some (.istore 4, 0) := rfl
theorem kX8_setPupils_47 : lkp tX8_setPupils 47 = some (.aload_n 0, 0) := rfl
theorem kX8_setPupils_48 : lkp tX8_setPupils 48 = some (.getfield 10, 0) := rfl
theorem kX8_setPupils_51 : lkp tX8_setPupils 51 = some (.getfield 104, 0) := rfl
theorem kX8_setPupils_54 : lkp tX8_setPupils 54 = some (.iload_n 1, 0) := rfl
theorem kX8_setPupils_55 : lkp tX8_setPupils 55 = some (.iload_n 3, 0) := rfl
theorem kX8_setPupils_56 : lkp tX8_setPupils 56 = some (.ifCond .eq 12, 68) := rfl
theorem kX8_setPupils_59 : lkp tX8_setPupils 59 = some (.iload 4, 0) := rfl
theorem kX8_setPupils_61 : lkp tX8_setPupils 61 = some (.iconst 1, 0) := rfl
theorem kX8_setPupils_62 : lkp tX8_setPupils 62 = some (.iload_n 2, 0) := rfl
theorem kX8_setPupils_63 : lkp tX8_setPupils 63 = some (.ishl, 0) := rfl
theorem kX8_setPupils_64 : lkp tX8_setPupils 64 = some (.ior, 0) := rfl
theorem kX8_setPupils_65 : lkp tX8_setPupils 65 = some (.goto 11, 76) := rfl
theorem kX8_setPupils_68 : lkp tX8_setPupils 68 = some (.iload 4, 0) := rfl
theorem kX8_setPupils_70 : lkp tX8_setPupils 70 = some (.iconst 1, 0) := rfl
theorem kX8_setPupils_71 : lkp tX8_setPupils 71 = some (.iload_n 2, 0) := rfl
theorem kX8_setPupils_72 : lkp tX8_setPupils 72 = some (.ishl, 0) := rfl
theorem kX8_setPupils_73 : lkp tX8_setPupils 73 = some (.iconst (-1), 0) := rfl
theorem kX8_setPupils_74 : lkp tX8_setPupils 74 = some (.ixor, 0) := rfl
theorem kX8_setPupils_75 : lkp tX8_setPupils 75 = some (.iand, 0) := rfl
theorem kX8_setPupils_76 : lkp tX8_setPupils 76 = some (.iastore, 0) := rfl
theorem kX8_setPupils_77 : lkp tX8_setPupils 77 = some (.iload 4, 0) := rfl
theorem kX8_setPupils_79 : lkp tX8_setPupils 79 = some (.iload_n 2, 0) := rfl
theorem kX8_setPupils_80 : lkp tX8_setPupils 80 = some (.invokestatic 108, 0) := rfl
theorem kX8_setPupils_83 : lkp tX8_setPupils 83 = some (.ireturn, 0) := rfl
theorem kX8_school_0 : lkp tX8_school 0 = some (.aload_n 0, 0) := rfl
theorem kX8_school_1 : lkp tX8_school 1 = some (.iload_n 1, 0) := rfl
theorem kX8_school_2 : lkp tX8_school 2 = some (.invokevirtual 79, 0) := rfl
theorem kX8_school_5 : lkp tX8_school 5 = some (.aload_n 0, 0) := rfl
theorem kX8_school_6 : lkp tX8_school 6 = some (.getfield 10, 0) := rfl
theorem kX8_school_9 : lkp tX8_school 9 = some (.getfield 69, 0) := rfl
theorem kX8_school_12 : lkp tX8_school 12 = some (.iload_n 1, 0) := rfl
theorem kX8_school_13 : lkp tX8_school 13 = some (.aaload, 0) := rfl
theorem kX8_school_14 : lkp tX8_school 14 = some (.astore_n 3, 0) := rfl
theorem kX8_school_15 : lkp tX8_school 15 = some (.iload_n 2, 0) := rfl
theorem kX8_school_16 : lkp tX8_school 16 = some (.tableswitch 113 0 8 #[52, 57, 62, 67, 72, 77, 86, 95, 104], 0) := rfl
theorem kX8_school_68 : lkp tX8_school 68 = some (.aload_n 3, 0) := rfl
theorem kX8_school_69 : lkp tX8_school 69 = some (.getfield 83, 0) := rfl
theorem kX8_school_72 : lkp tX8_school 72 = some (.ireturn, 0) := rfl
theorem kX8_school_73 : lkp tX8_school 73 = some (.aload_n 3, 0) := rfl
theorem kX8_school_74 : lkp tX8_school 74 = some (.getfield 90, 0) := rfl
theorem kX8_school_77 : lkp tX8_school 77 = some (.ireturn, 0) := rfl
theorem kX8_school_78 : lkp tX8_school 78 = some (.aload_n 3, 0) := rfl
theorem kX8_school_79 : lkp tX8_school 79 = some (.getfield 93, 0) := rfl
theorem kX8_school_82 : lkp tX8_school 82 = some (.ireturn, 0) := rfl
theorem kX8_school_83 : lkp tX8_school 83 = some (.aload_n 3, 0) := rfl
theorem kX8_school_84 : lkp tX8_school 84 = some (.getfield 96, 0) := rfl
theorem kX8_school_87 : lkp tX8_school 87 = some (.ireturn, 0) := rfl
theorem kX8_school_88 : lkp tX8_school 88 = some (.aload_n 3, 0) := rfl
theorem kX8_school_89 : lkp tX8_school 89 = some (.getfield 112, 0) := rfl
theorem kX8_school_92 : lkp tX8_school 92 = some (.ireturn, 0) := rfl
theorem kX8_school_93 : lkp tX8_school 93 = some (.aload_n 0, 0) := rfl
theorem kX8_school_94 : lkp tX8_school 94 = some (.getfield 10, 0) := rfl
theorem kX8_school_97 : lkp tX8_school 97 = some (.iload_n 1, 0) := rfl
theorem kX8_school_98 : lkp tX8_school 98 = some (.invokevirtual 115, 0) := rfl
theorem kX8_school_101 : lkp tX8_school 101 = some (.ireturn, 0) := rfl
theorem kX8_school_102 : lkp tX8_school 102 = some (.aload_n 0, 0) := rfl
theorem kX8_school_103 : lkp tX8_school 103 = some (.getfield 10, 0) := rfl
theorem kX8_school_106 : lkp tX8_school 106 = some (.iload_n 1, 0) := rfl
theorem kX8_school_107 : lkp tX8_school 107 = some (.invokevirtual 119, 0) := rfl
theorem kX8_school_110 : lkp tX8_school 110 = some (.ireturn, 0) := rfl
theorem kX8_school_111 : lkp tX8_school 111 = some (.aload_n 0, 0) := rfl
theorem kX8_school_112 : lkp tX8_school 112 = some (.getfield 10, 0) := rfl
theorem kX8_school_115 : lkp tX8_school 115 = some (.iload_n 1, 0) := rfl
theorem kX8_school_116 : lkp tX8_school 116 = some (.invokevirtual 122, 0) := rfl
theorem kX8_school_119 : lkp tX8_school 119 = some (.ireturn, 0) := rfl
theorem kX8_school_120 : lkp tX8_school 120 = some (.aload_n 0, 0) := rfl
theorem kX8_school_121 : lkp tX8_school 121 = some (.getfield 10, 0) := rfl
theorem kX8_school_124 : lkp tX8_school 124 = some (.aload_n 3, 0) := rfl
theorem kX8_school_125 : lkp tX8_school 125 = some (.invokevirtual 125, 0) := rfl
theorem kX8_school_128 : lkp tX8_school 128 = some (.ireturn, 0) := rfl
theorem kX8_school_129 : lkp tX8_school 129 = some (.new 129, 0) := rfl
theorem kX8_school_132 : lkp tX8_school 132 = some (.dup, 0) := rfl
theorem kX8_school_133 : lkp tX8_school 133 = some (.ldc 131, 0) := rfl
theorem kX8_school_135 : lkp tX8_school 135 = some (.invokespecial 133, 0) := rfl
theorem kX8_school_138 : lkp tX8_school 138 = some (.athrow, 0) := rfl
theorem kX8_held_0 : lkp tX8_held 0 = some (.aload_n 0, 0) := rfl
theorem kX8_held_1 : lkp tX8_held 1 = some (.iload_n 1, 0) := rfl
theorem kX8_held_2 : lkp tX8_held 2 = some (.invokevirtual 79, 0) := rfl
theorem kX8_held_5 : lkp tX8_held 5 = some (.aload_n 0, 0) := rfl
theorem kX8_held_6 : lkp tX8_held 6 = some (.getfield 10, 0) := rfl
theorem kX8_held_9 : lkp tX8_held 9 = some (.iload_n 1, 0) := rfl
theorem kX8_held_10 : lkp tX8_held 10 = some (.iload_n 2, 0) := rfl
theorem kX8_held_11 : lkp tX8_held 11 = some (.getstatic 134, 0) := rfl
theorem kX8_held_14 : lkp tX8_held 14 = some (.invokevirtual 140, 0) := rfl
theorem kX8_held_17 : lkp tX8_held 17 = some (.invokestatic 144, 0) := rfl
theorem kX8_held_20 : lkp tX8_held 20 = some (.ireturn, 0) := rfl
theorem kX8_waiting_0 : lkp tX8_waiting 0 = some (.aload_n 0, 0) := rfl
theorem kX8_waiting_1 : lkp tX8_waiting 1 = some (.iload_n 1, 0) := rfl
theorem kX8_waiting_2 : lkp tX8_waiting 2 = some (.invokevirtual 79, 0) := rfl
theorem kX8_waiting_5 : lkp tX8_waiting 5 = some (.aload_n 0, 0) := rfl
theorem kX8_waiting_6 : lkp tX8_waiting 6 = some (.getfield 10, 0) := rfl
theorem kX8_waiting_9 : lkp tX8_waiting 9 = some (.iload_n 1, 0) := rfl
theorem kX8_waiting_10 : lkp tX8_waiting 10 = some (.iload_n 2, 0) := rfl
theorem kX8_waiting_11 : lkp tX8_waiting 11 = some (.getstatic 147, 0) := rfl
theorem kX8_waiting_14 : lkp tX8_waiting 14 = some (.invokevirtual 140, 0) := rfl
theorem kX8_waiting_17 : lkp tX8_waiting 17 = some (.invokestatic 144, 0) := rfl
theorem kX8_waiting_20 : lkp tX8_waiting 20 = some (.ireturn, 0) := rfl
theorem kX8_found_0 : lkp tX8_found 0 = some (.iload_n 0, 0) := rfl
theorem kX8_found_1 : lkp tX8_found 1 = some (.iconst (-1), 0) := rfl
theorem kX8_found_2 : lkp tX8_found 2 = some (.if_icmp .ne 13, 15) := rfl
theorem kX8_found_5 : lkp tX8_found 5 = some (.new 150, 0) := rfl
theorem kX8_found_8 : lkp tX8_found 8 = some (.dup, 0) := rfl
theorem kX8_found_9 : lkp tX8_found 9 = some (.ldc 152, 0) := rfl
theorem kX8_found_11 : lkp tX8_found 11 = some (.invokespecial 154, 0) := rfl
theorem kX8_found_14 : lkp tX8_found 14 = some (.athrow, 0) := rfl
theorem kX8_found_15 : lkp tX8_found 15 = some (.iload_n 0, 0) := rfl
theorem kX8_found_16 : lkp tX8_found 16 = some (.ireturn, 0) := rfl
theorem kX8_addChild_0 : lkp tX8_addChild 0 = some (.iload_n 1, 0) := rfl
theorem kX8_addChild_1 : lkp tX8_addChild 1 = some (.bipush 99, 0) := rfl
theorem kX8_addChild_3 : lkp tX8_addChild 3 = some (.invokestatic 51, 0) := rfl
theorem kX8_addChild_6 : lkp tX8_addChild 6 = some (.iload_n 2, 0) := rfl
theorem kX8_addChild_7 : lkp tX8_addChild 7 = some (.bipush 99, 0) := rfl
theorem kX8_addChild_9 : lkp tX8_addChild 9 = some (.invokestatic 51, 0) := rfl
theorem kX8_addChild_12 : lkp tX8_addChild 12 = some (.iload_n 3, 0) := rfl
theorem kX8_addChild_13 : lkp tX8_addChild 13 = some (.bipush 11, 0) := rfl
theorem kX8_addChild_15 : lkp tX8_addChild 15 = some (.invokestatic 51, 0) := rfl
theorem kX8_addChild_18 : lkp tX8_addChild 18 = some (.iload 4, 0) := rfl
theorem kX8_addChild_20 : lkp tX8_addChild 20 = some (.sipush 999, 0) := rfl
theorem kX8_addChild_23 : lkp tX8_addChild 23 = some (.invokestatic 51, 0) := rfl
theorem kX8_addChild_26 : lkp tX8_addChild 26 = some (.aload_n 0, 0) := rfl
theorem kX8_addChild_27 : lkp tX8_addChild 27 = some (.invokevirtual 155, 0) := rfl
theorem kX8_addChild_30 : lkp tX8_addChild 30 = some (.aload_n 0, 0) := rfl
theorem kX8_addChild_31 : lkp tX8_addChild 31 = some (.getfield 22, 0) := rfl
theorem kX8_addChild_34 : lkp tX8_addChild 34 = some (.aload_n 0, 0) := rfl
theorem kX8_addChild_35 : lkp tX8_addChild 35 = some (.getfield 10, 0) := rfl
theorem kX8_addChild_38 : lkp tX8_addChild 38 = some (.invokevirtual 65, 0) := rfl
theorem kX8_addChild_41 : lkp tX8_addChild 41 = some (.aload_n 0, 0) := rfl
theorem kX8_addChild_42 : lkp tX8_addChild 42 = some (.getfield 10, 0) := rfl
theorem kX8_addChild_45 : lkp tX8_addChild 45 = some (.getfield 158, 0) := rfl
theorem kX8_addChild_48 : lkp tX8_addChild 48 = some (.istore 5, 0) := rfl
theorem kX8_addChild_50 : lkp tX8_addChild 50 = some (.aload_n 0, 0) := rfl
theorem kX8_addChild_51 : lkp tX8_addChild 51 = some (.getfield 10, 0) := rfl
theorem kX8_addChild_54 : lkp tX8_addChild 54 = some (.getfield 161, 0) := rfl
theorem kX8_addChild_57 : lkp tX8_addChild 57 = some (.iload 5, 0) := rfl
theorem kX8_addChild_59 : lkp tX8_addChild 59 = some (.aaload, 0) := rfl
theorem kX8_addChild_60 : lkp tX8_addChild 60 = some (.iload_n 1, 0) := rfl
theorem kX8_addChild_61 : lkp tX8_addChild 61 = some (.iload_n 2, 0) := rfl
theorem kX8_addChild_62 : lkp tX8_addChild 62 = some (.iload_n 3, 0) := rfl
theorem kX8_addChild_63 : lkp tX8_addChild 63 = some (.iload 4, 0) := rfl
theorem kX8_addChild_65 : lkp tX8_addChild 65 = some (.invokevirtual 165, 0) := rfl
theorem kX8_addChild_68 : lkp tX8_addChild 68 = some (.aload_n 0, 0) := rfl
theorem kX8_addChild_69 : lkp tX8_addChild 69 = some (.getfield 10, 0) := rfl
theorem kX8_addChild_72 : lkp tX8_addChild 72 = some (.iload 5, 0) := rfl
theorem kX8_addChild_74 : lkp tX8_addChild 74 = some (.iconst 1, 0) := rfl
theorem kX8_addChild_75 : lkp tX8_addChild 75 = some (.iadd, 0) := rfl
theorem kX8_addChild_76 : lkp tX8_addChild 76 = some (.putfield 158, 0) := rfl
theorem kX8_addChild_79 : lkp tX8_addChild 79 = some (.iload 5, 0) := rfl
theorem kX8_addChild_81 : lkp tX8_addChild 81 = some (.ireturn, 0) := rfl
theorem kX8_readChild_0 : lkp tX8_readChild 0 = some (.aload_n 0, 0) := rfl
theorem kX8_readChild_1 : lkp tX8_readChild 1 = some (.getfield 36, 0) := rfl
theorem kX8_readChild_4 : lkp tX8_readChild 4 = some (.invokevirtual 168, 0) := rfl
theorem kX8_readChild_7 : lkp tX8_readChild 7 = some (.istore_n 1, 0) := rfl
theorem kX8_readChild_8 : lkp tX8_readChild 8 = some (.aload_n 0, 0) := rfl
theorem kX8_readChild_9 : lkp tX8_readChild 9 = some (.getfield 36, 0) := rfl
theorem kX8_readChild_12 : lkp tX8_readChild 12 = some (.iconst 0, 0) := rfl
theorem kX8_readChild_13 : lkp tX8_readChild 13 = some (.putfield 172, 0) := rfl
theorem kX8_readChild_16 : lkp tX8_readChild 16 = some (.iload_n 1, 0) := rfl
theorem kX8_readChild_17 : lkp tX8_readChild 17 = some (.ifCond .ne 24, 41) := rfl
theorem kX8_readChild_20 : lkp tX8_readChild 20 = some (.aload_n 0, 0) := rfl
theorem kX8_readChild_21 : lkp tX8_readChild 21 = some (.aload_n 0, 0) := rfl
theorem kX8_readChild_22 : lkp tX8_readChild 22 = some (.getfield 36, 0) := rfl
theorem kX8_readChild_25 : lkp tX8_readChild 25 = some (.getfield 175, 0) := rfl
theorem kX8_readChild_28 : lkp tX8_readChild 28 = some (.putfield 48, 0) := rfl
theorem kX8_readChild_31 : lkp tX8_readChild 31 = some (.new 129, 0) := rfl
theorem kX8_readChild_34 : lkp tX8_readChild 34 = some (.dup, 0) := rfl
theorem kX8_readChild_35 : lkp tX8_readChild 35 = some (.ldc 178, 0) := rfl
theorem kX8_readChild_37 : lkp tX8_readChild 37 = some (.invokespecial 133, 0) := rfl
theorem kX8_readChild_40 : lkp tX8_readChild 40 = some (.athrow, 0) := rfl
theorem kX8_readChild_41 : lkp tX8_readChild 41 = some (.iconst 0, 0) := rfl
theorem kX8_readChild_42 : lkp tX8_readChild 42 = some (.istore_n 2, 0) := rfl
theorem kX8_readChild_43 : lkp tX8_readChild 43 = some (.iload_n 2, 0) := rfl
theorem kX8_readChild_44 : lkp tX8_readChild 44 = some (.aload_n 0, 0) := rfl
theorem kX8_readChild_45 : lkp tX8_readChild 45 = some (.getfield 36, 0) := rfl
theorem kX8_readChild_48 : lkp tX8_readChild 48 = some (.getfield 180, 0) := rfl
theorem kX8_readChild_51 : lkp tX8_readChild 51 = some (.if_icmp .ge 30, 81) := rfl
theorem kX8_readChild_54 : lkp tX8_readChild 54 = some (.aload_n 0, 0) := rfl
theorem kX8_readChild_55 : lkp tX8_readChild 55 = some (.getfield 36, 0) := rfl
theorem kX8_readChild_58 : lkp tX8_readChild 58 = some (.getfield 183, 0) := rfl
theorem kX8_readChild_61 : lkp tX8_readChild 61 = some (.iload_n 2, 0) := rfl
theorem kX8_readChild_62 : lkp tX8_readChild 62 = some (.iaload, 0) := rfl
theorem kX8_readChild_63 : lkp tX8_readChild 63 = some (.aload_n 0, 0) := rfl
theorem kX8_readChild_64 : lkp tX8_readChild 64 = some (.getfield 10, 0) := rfl
theorem kX8_readChild_67 : lkp tX8_readChild 67 = some (.getfield 55, 0) := rfl
theorem kX8_readChild_70 : lkp tX8_readChild 70 = some (.iconst 1, 0) := rfl
theorem kX8_readChild_71 : lkp tX8_readChild 71 = some (.isub, 0) := rfl
theorem kX8_readChild_72 : lkp tX8_readChild 72 = some (.invokestatic 51, 0) := rfl
theorem kX8_readChild_75 : lkp tX8_readChild 75 = some (.iinc 2 1, 0) := rfl
theorem kX8_readChild_78 : lkp tX8_readChild 78 = some (.goto (-35), 43) := rfl
theorem kX8_readChild_81 : lkp tX8_readChild 81 = some (.aload_n 0, 0) := rfl
theorem kX8_readChild_82 : lkp tX8_readChild 82 = some (.aload_n 0, 0) := rfl
theorem kX8_readChild_83 : lkp tX8_readChild 83 = some (.getfield 36, 0) := rfl
theorem kX8_readChild_86 : lkp tX8_readChild 86 = some (.getfield 186, 0) := rfl
theorem kX8_readChild_89 : lkp tX8_readChild 89 = some (.aload_n 0, 0) := rfl
theorem kX8_readChild_90 : lkp tX8_readChild 90 = some (.getfield 36, 0) := rfl
theorem kX8_readChild_93 : lkp tX8_readChild 93 = some (.getfield 189, 0) := rfl
theorem kX8_readChild_96 : lkp tX8_readChild 96 = some (.aload_n 0, 0) := rfl
theorem kX8_readChild_97 : lkp tX8_readChild 97 = some (.getfield 36, 0) := rfl
theorem kX8_readChild_100 : lkp tX8_readChild 100 = some (.getfield 192, 0) := rfl
theorem kX8_readChild_103 : lkp tX8_readChild 103 = some (.aload_n 0, 0) := rfl
theorem kX8_readChild_104 : lkp tX8_readChild 104 = some (.getfield 36, 0) := rfl
theorem kX8_readChild_107 : lkp tX8_readChild 107 = some (.getfield 195, 0) := rfl
theorem kX8_readChild_110 : lkp tX8_readChild 110 = some (.invokevirtual 198, 0) := rfl
theorem kX8_readChild_113 : lkp tX8_readChild 113 = some (.istore_n 2, 0) := rfl
theorem kX8_readChild_114 : lkp tX8_readChild 114 = some (.iconst 0, 0) := rfl
theorem kX8_readChild_115 : lkp tX8_readChild 115 = some (.istore_n 3, 0) := rfl
theorem kX8_readChild_116 : lkp tX8_readChild 116 = some (.iload_n 3, 0) := rfl
theorem kX8_readChild_117 : lkp tX8_readChild 117 = some (.aload_n 0, 0) := rfl
theorem kX8_readChild_118 : lkp tX8_readChild 118 = some (.getfield 36, 0) := rfl
theorem kX8_readChild_121 : lkp tX8_readChild 121 = some (.getfield 180, 0) := rfl
theorem kX8_readChild_124 : lkp tX8_readChild 124 = some (.if_icmp .ge 31, 155) := rfl
theorem kX8_readChild_127 : lkp tX8_readChild 127 = some (.aload_n 0, 0) := rfl
theorem kX8_readChild_128 : lkp tX8_readChild 128 = some (.getfield 10, 0) := rfl
theorem kX8_readChild_131 : lkp tX8_readChild 131 = some (.getfield 161, 0) := rfl
theorem kX8_readChild_134 : lkp tX8_readChild 134 = some (.iload_n 2, 0) := rfl
theorem kX8_readChild_135 : lkp tX8_readChild 135 = some (.aaload, 0) := rfl
theorem kX8_readChild_136 : lkp tX8_readChild 136 = some (.aload_n 0, 0) := rfl
theorem kX8_readChild_137 : lkp tX8_readChild 137 = some (.getfield 36, 0) := rfl
theorem kX8_readChild_140 : lkp tX8_readChild 140 = some (.getfield 183, 0) := rfl
theorem kX8_readChild_143 : lkp tX8_readChild 143 = some (.iload_n 3, 0) := rfl
theorem kX8_readChild_144 : lkp tX8_readChild 144 = some (.iaload, 0) := rfl
theorem kX8_readChild_145 : lkp tX8_readChild 145 = some (.iload_n 3, 0) := rfl
theorem kX8_readChild_146 : lkp tX8_readChild 146 = some (.invokevirtual 202, 0) := rfl
theorem kX8_readChild_149 : lkp tX8_readChild 149 = some (.iinc 3 1, 0) := rfl
theorem kX8_readChild_152 : lkp tX8_readChild 152 = some (.goto (-36), 116) := rfl
theorem kX8_readChild_155 : lkp tX8_readChild 155 = some (.iload_n 2, 0) := rfl
theorem kX8_readChild_156 : lkp tX8_readChild 156 = some (.ireturn, 0) := rfl
theorem kX8_choose_0 : lkp tX8_choose 0 = some (.aload_n 0, 0) := rfl
theorem kX8_choose_1 : lkp tX8_choose 1 = some (.iload_n 1, 0) := rfl
theorem kX8_choose_2 : lkp tX8_choose 2 = some (.invokevirtual 205, 0) := rfl
theorem kX8_choose_5 : lkp tX8_choose 5 = some (.aload_n 0, 0) := rfl
theorem kX8_choose_6 : lkp tX8_choose 6 = some (.iload_n 2, 0) := rfl
theorem kX8_choose_7 : lkp tX8_choose 7 = some (.invokevirtual 79, 0) := rfl
theorem kX8_choose_10 : lkp tX8_choose 10 = some (.aload_n 0, 0) := rfl
theorem kX8_choose_11 : lkp tX8_choose 11 = some (.getfield 10, 0) := rfl
theorem kX8_choose_14 : lkp tX8_choose 14 = some (.getfield 161, 0) := rfl
theorem kX8_choose_17 : lkp tX8_choose 17 = some (.iload_n 1, 0) := rfl
theorem kX8_choose_18 : lkp tX8_choose 18 = some (.aaload, 0) := rfl
theorem kX8_choose_19 : lkp tX8_choose 19 = some (.astore 4, 0) := rfl
theorem kX8_choose_21 : lkp tX8_choose 21 = some (.aload 4, 0) := rfl
theorem kX8_choose_23 : lkp tX8_choose 23 = some (.iload_n 2, 0) := rfl
theorem kX8_choose_24 : lkp tX8_choose 24 = some (.invokevirtual 208, 0) := rfl
theorem kX8_choose_27 : lkp tX8_choose 27 = some (.iconst (-1), 0) := rfl
theorem kX8_choose_28 : lkp tX8_choose 28 = some (.if_icmp .ne 11, 39) := rfl
theorem kX8_choose_31 : lkp tX8_choose 31 = some (.aload 4, 0) := rfl
theorem kX8_choose_33 : lkp tX8_choose 33 = some (.getfield 211, 0) := rfl
theorem kX8_choose_36 : lkp tX8_choose 36 = some (.goto 10, 46) := rfl
theorem kX8_choose_39 : lkp tX8_choose 39 = some (.aload 4, 0) := rfl
theorem kX8_choose_41 : lkp tX8_choose 41 = some (.getfield 211, 0) := rfl
theorem kX8_choose_44 : lkp tX8_choose 44 = some (.iconst 1, 0) := rfl
theorem kX8_choose_45 : lkp tX8_choose 45 = some (.isub, 0) := rfl
theorem kX8_choose_46 : lkp tX8_choose 46 = some (.istore 5, 0) := rfl
theorem kX8_choose_48 : lkp tX8_choose 48 = some (.iload_n 3, 0) := rfl
theorem kX8_choose_49 : lkp tX8_choose 49 = some (.iload 5, 0) := rfl
theorem kX8_choose_51 : lkp tX8_choose 51 = some (.invokestatic 51, 0) := rfl
theorem kX8_choose_54 : lkp tX8_choose 54 = some (.iload 5, 0) := rfl
theorem kX8_choose_56 : lkp tX8_choose 56 = some (.iconst 4, 0) := rfl
theorem kX8_choose_57 : lkp tX8_choose 57 = some (.if_icmp .lt 13, 70) := rfl
theorem kX8_choose_60 : lkp tX8_choose 60 = some (.new 58, 0) := rfl
theorem kX8_choose_63 : lkp tX8_choose 63 = some (.dup, 0) := rfl
theorem kX8_choose_64 : lkp tX8_choose 64 = some (.ldc 212, 0) := rfl
theorem kX8_choose_66 : lkp tX8_choose 66 = some (.invokespecial 62, 0) := rfl
theorem kX8_choose_69 : lkp tX8_choose 69 = some (.athrow, 0) := rfl
theorem kX8_choose_70 : lkp tX8_choose 70 = some (.aload_n 0, 0) := rfl
theorem kX8_choose_71 : lkp tX8_choose 71 = some (.getfield 22, 0) := rfl
theorem kX8_choose_74 : lkp tX8_choose 74 = some (.aload_n 0, 0) := rfl
theorem kX8_choose_75 : lkp tX8_choose 75 = some (.getfield 10, 0) := rfl
theorem kX8_choose_78 : lkp tX8_choose 78 = some (.invokevirtual 65, 0) := rfl
theorem kX8_choose_81 : lkp tX8_choose 81 = some (.aload 4, 0) := rfl
theorem kX8_choose_83 : lkp tX8_choose 83 = some (.iload_n 2, 0) := rfl
theorem kX8_choose_84 : lkp tX8_choose 84 = some (.iload_n 3, 0) := rfl
theorem kX8_choose_85 : lkp tX8_choose 85 = some (.invokevirtual 202, 0) := rfl
theorem kX8_choose_88 : lkp tX8_choose 88 = some (.aload 4, 0) := rfl
theorem kX8_choose_90 : lkp tX8_choose 90 = some (.getfield 211, 0) := rfl
theorem kX8_choose_93 : lkp tX8_choose 93 = some (.ireturn, 0) := rfl
theorem kX8_setNeed_0 : lkp tX8_setNeed 0 = some (.aload_n 0, 0) := rfl
theorem kX8_setNeed_1 : lkp tX8_setNeed 1 = some (.iload_n 1, 0) := rfl
theorem kX8_setNeed_2 : lkp tX8_setNeed 2 = some (.invokevirtual 205, 0) := rfl
theorem kX8_setNeed_5 : lkp tX8_setNeed 5 = some (.iload_n 2, 0) := rfl
theorem kX8_setNeed_6 : lkp tX8_setNeed 6 = some (.iconst (-1), 0) := rfl
theorem kX8_setNeed_7 : lkp tX8_setNeed 7 = some (.if_icmp .eq 8, 15) := rfl
theorem kX8_setNeed_10 : lkp tX8_setNeed 10 = some (.aload_n 0, 0) := rfl
theorem kX8_setNeed_11 : lkp tX8_setNeed 11 = some (.iload_n 2, 0) := rfl
theorem kX8_setNeed_12 : lkp tX8_setNeed 12 = some (.invokevirtual 79, 0) := rfl
theorem kX8_setNeed_15 : lkp tX8_setNeed 15 = some (.aload_n 0, 0) := rfl
theorem kX8_setNeed_16 : lkp tX8_setNeed 16 = some (.getfield 22, 0) := rfl
theorem kX8_setNeed_19 : lkp tX8_setNeed 19 = some (.aload_n 0, 0) := rfl
theorem kX8_setNeed_20 : lkp tX8_setNeed 20 = some (.getfield 10, 0) := rfl
theorem kX8_setNeed_23 : lkp tX8_setNeed 23 = some (.invokevirtual 65, 0) := rfl
theorem kX8_setNeed_26 : lkp tX8_setNeed 26 = some (.aload_n 0, 0) := rfl
theorem kX8_setNeed_27 : lkp tX8_setNeed 27 = some (.getfield 10, 0) := rfl
theorem kX8_setNeed_30 : lkp tX8_setNeed 30 = some (.getfield 161, 0) := rfl
theorem kX8_setNeed_33 : lkp tX8_setNeed 33 = some (.iload_n 1, 0) := rfl
theorem kX8_setNeed_34 : lkp tX8_setNeed 34 = some (.aaload, 0) := rfl
theorem kX8_setNeed_35 : lkp tX8_setNeed 35 = some (.getfield 214, 0) := rfl
theorem kX8_setNeed_38 : lkp tX8_setNeed 38 = some (.istore_n 3, 0) := rfl
theorem kX8_setNeed_39 : lkp tX8_setNeed 39 = some (.aload_n 0, 0) := rfl
theorem kX8_setNeed_40 : lkp tX8_setNeed 40 = some (.getfield 10, 0) := rfl
theorem kX8_setNeed_43 : lkp tX8_setNeed 43 = some (.getfield 161, 0) := rfl
theorem kX8_setNeed_46 : lkp tX8_setNeed 46 = some (.iload_n 1, 0) := rfl
theorem kX8_setNeed_47 : lkp tX8_setNeed 47 = some (.aaload, 0) := rfl
theorem kX8_setNeed_48 : lkp tX8_setNeed 48 = some (.iload_n 2, 0) := rfl
theorem kX8_setNeed_49 : lkp tX8_setNeed 49 = some (.putfield 214, 0) := rfl
theorem kX8_setNeed_52 : lkp tX8_setNeed 52 = some (.iload_n 3, 0) := rfl
theorem kX8_setNeed_53 : lkp tX8_setNeed 53 = some (.ireturn, 0) := rfl
theorem kX8_child_0 : lkp tX8_child 0 = some (.aload_n 0, 0) := rfl
theorem kX8_child_1 : lkp tX8_child 1 = some (.iload_n 1, 0) := rfl
theorem kX8_child_2 : lkp tX8_child 2 = some (.invokevirtual 205, 0) := rfl
theorem kX8_child_5 : lkp tX8_child 5 = some (.aload_n 0, 0) := rfl
theorem kX8_child_6 : lkp tX8_child 6 = some (.getfield 10, 0) := rfl
theorem kX8_child_9 : lkp tX8_child 9 = some (.getfield 161, 0) := rfl
theorem kX8_child_12 : lkp tX8_child 12 = some (.iload_n 1, 0) := rfl
theorem kX8_child_13 : lkp tX8_child 13 = some (.aaload, 0) := rfl
theorem kX8_child_14 : lkp tX8_child 14 = some (.astore_n 3, 0) := rfl
theorem kX8_child_15 : lkp tX8_child 15 = some (.iload_n 2, 0) := rfl
theorem kX8_child_16 : lkp tX8_child 16 = some (.tableswitch 92 0 7 #[48, 53, 58, 63, 68, 73, 82, 87], 0) := rfl
theorem kX8_child_64 : lkp tX8_child 64 = some (.aload_n 3, 0) := rfl
theorem kX8_child_65 : lkp tX8_child 65 = some (.getfield 217, 0) := rfl
theorem kX8_child_68 : lkp tX8_child 68 = some (.ireturn, 0) := rfl
theorem kX8_child_69 : lkp tX8_child 69 = some (.aload_n 3, 0) := rfl
theorem kX8_child_70 : lkp tX8_child 70 = some (.getfield 218, 0) := rfl
theorem kX8_child_73 : lkp tX8_child 73 = some (.ireturn, 0) := rfl
theorem kX8_child_74 : lkp tX8_child 74 = some (.aload_n 3, 0) := rfl
theorem kX8_child_75 : lkp tX8_child 75 = some (.getfield 214, 0) := rfl
theorem kX8_child_78 : lkp tX8_child 78 = some (.ireturn, 0) := rfl
theorem kX8_child_79 : lkp tX8_child 79 = some (.aload_n 3, 0) := rfl
theorem kX8_child_80 : lkp tX8_child 80 = some (.getfield 211, 0) := rfl
theorem kX8_child_83 : lkp tX8_child 83 = some (.ireturn, 0) := rfl
theorem kX8_child_84 : lkp tX8_child 84 = some (.aload_n 3, 0) := rfl
theorem kX8_child_85 : lkp tX8_child 85 = some (.getfield 219, 0) := rfl
theorem kX8_child_88 : lkp tX8_child 88 = some (.ireturn, 0) := rfl
theorem kX8_child_89 : lkp tX8_child 89 = some (.aload_n 3, 0) := rfl
theorem kX8_child_90 : lkp tX8_child 90 = some (.aload_n 3, 0) := rfl
theorem kX8_child_91 : lkp tX8_child 91 = some (.getfield 219, 0) := rfl
theorem kX8_child_94 : lkp tX8_child 94 = some (.invokevirtual 208, 0) := rfl
theorem kX8_child_97 : lkp tX8_child 97 = some (.ireturn, 0) := rfl
theorem kX8_child_98 : lkp tX8_child 98 = some (.aload_n 3, 0) := rfl
theorem kX8_child_99 : lkp tX8_child 99 = some (.getfield 222, 0) := rfl
theorem kX8_child_102 : lkp tX8_child 102 = some (.ireturn, 0) := rfl
theorem kX8_child_103 : lkp tX8_child 103 = some (.aload_n 3, 0) := rfl
theorem kX8_child_104 : lkp tX8_child 104 = some (.getfield 225, 0) := rfl
theorem kX8_child_107 : lkp tX8_child 107 = some (.ireturn, 0) := rfl
theorem kX8_child_108 : lkp tX8_child 108 = some (.new 129, 0) := rfl
theorem kX8_child_111 : lkp tX8_child 111 = some (.dup, 0) := rfl
theorem kX8_child_112 : lkp tX8_child 112 = some (.ldc 131, 0) := rfl
theorem kX8_child_114 : lkp tX8_child 114 = some (.invokespecial 133, 0) := rfl
theorem kX8_child_117 : lkp tX8_child 117 = some (.athrow, 0) := rfl
theorem kX8_choice_0 : lkp tX8_choice 0 = some (.aload_n 0, 0) := rfl
theorem kX8_choice_1 : lkp tX8_choice 1 = some (.iload_n 1, 0) := rfl
theorem kX8_choice_2 : lkp tX8_choice 2 = some (.invokevirtual 205, 0) := rfl
theorem kX8_choice_5 : lkp tX8_choice 5 = some (.aload_n 0, 0) := rfl
theorem kX8_choice_6 : lkp tX8_choice 6 = some (.getfield 10, 0) := rfl
theorem kX8_choice_9 : lkp tX8_choice 9 = some (.getfield 161, 0) := rfl
theorem kX8_choice_12 : lkp tX8_choice 12 = some (.iload_n 1, 0) := rfl
theorem kX8_choice_13 : lkp tX8_choice 13 = some (.aaload, 0) := rfl
theorem kX8_choice_14 : lkp tX8_choice 14 = some (.astore_n 3, 0) := rfl
theorem kX8_choice_15 : lkp tX8_choice 15 = some (.iload_n 2, 0) := rfl
theorem kX8_choice_16 : lkp tX8_choice 16 = some (.ifCond .lt 11, 27) := rfl
theorem kX8_choice_19 : lkp tX8_choice 19 = some (.iload_n 2, 0) := rfl
theorem kX8_choice_20 : lkp tX8_choice 20 = some (.aload_n 3, 0) := rfl
theorem kX8_choice_21 : lkp tX8_choice 21 = some (.getfield 211, 0) := rfl
theorem kX8_choice_24 : lkp tX8_choice 24 = some (.if_icmp .lt 13, 37) := rfl
theorem kX8_choice_27 : lkp tX8_choice 27 = some (.new 150, 0) := rfl
theorem kX8_choice_30 : lkp tX8_choice 30 = some (.dup, 0) := rfl
theorem kX8_choice_31 : lkp tX8_choice 31 = some (.ldc 228, 0) := rfl
theorem kX8_choice_33 : lkp tX8_choice 33 = some (.invokespecial 154, 0) := rfl
theorem kX8_choice_36 : lkp tX8_choice 36 = some (.athrow, 0) := rfl
theorem kX8_choice_37 : lkp tX8_choice 37 = some (.aload_n 3, 0) := rfl
theorem kX8_choice_38 : lkp tX8_choice 38 = some (.getfield 230, 0) := rfl
theorem kX8_choice_41 : lkp tX8_choice 41 = some (.iload_n 2, 0) := rfl
theorem kX8_choice_42 : lkp tX8_choice 42 = some (.iaload, 0) := rfl
theorem kX8_choice_43 : lkp tX8_choice 43 = some (.ireturn, 0) := rfl
theorem kX8_rank_0 : lkp tX8_rank 0 = some (.aload_n 0, 0) := rfl
theorem kX8_rank_1 : lkp tX8_rank 1 = some (.iload_n 1, 0) := rfl
theorem kX8_rank_2 : lkp tX8_rank 2 = some (.invokevirtual 205, 0) := rfl
theorem kX8_rank_5 : lkp tX8_rank 5 = some (.aload_n 0, 0) := rfl
theorem kX8_rank_6 : lkp tX8_rank 6 = some (.iload_n 2, 0) := rfl
theorem kX8_rank_7 : lkp tX8_rank 7 = some (.invokevirtual 79, 0) := rfl
theorem kX8_rank_10 : lkp tX8_rank 10 = some (.aload_n 0, 0) := rfl
theorem kX8_rank_11 : lkp tX8_rank 11 = some (.getfield 10, 0) := rfl
theorem kX8_rank_14 : lkp tX8_rank 14 = some (.getfield 161, 0) := rfl
theorem kX8_rank_17 : lkp tX8_rank 17 = some (.iload_n 1, 0) := rfl
theorem kX8_rank_18 : lkp tX8_rank 18 = some (.aaload, 0) := rfl
theorem kX8_rank_19 : lkp tX8_rank 19 = some (.astore 4, 0) := rfl
theorem kX8_rank_21 : lkp tX8_rank 21 = some (.iload_n 3, 0) := rfl
theorem kX8_rank_22 : lkp tX8_rank 22 = some (.tableswitch 117 0 4 #[34, 50, 65, 89, 104], 0) := rfl
theorem kX8_rank_56 : lkp tX8_rank 56 = some (.aload_n 0, 0) := rfl
theorem kX8_rank_57 : lkp tX8_rank 57 = some (.getfield 10, 0) := rfl
theorem kX8_rank_60 : lkp tX8_rank 60 = some (.aload 4, 0) := rfl
theorem kX8_rank_62 : lkp tX8_rank 62 = some (.iload_n 2, 0) := rfl
theorem kX8_rank_63 : lkp tX8_rank 63 = some (.aload 4, 0) := rfl
theorem kX8_rank_65 : lkp tX8_rank 65 = some (.getfield 222, 0) := rfl
theorem kX8_rank_68 : lkp tX8_rank 68 = some (.invokevirtual 231, 0) := rfl
theorem kX8_rank_71 : lkp tX8_rank 71 = some (.ireturn, 0) := rfl
theorem kX8_rank_72 : lkp tX8_rank 72 = some (.aload_n 0, 0) := rfl
theorem kX8_rank_73 : lkp tX8_rank 73 = some (.getfield 10, 0) := rfl
theorem kX8_rank_76 : lkp tX8_rank 76 = some (.getfield 69, 0) := rfl
theorem kX8_rank_79 : lkp tX8_rank 79 = some (.iload_n 2, 0) := rfl
theorem kX8_rank_80 : lkp tX8_rank 80 = some (.aaload, 0) := rfl
theorem kX8_rank_81 : lkp tX8_rank 81 = some (.aload 4, 0) := rfl
theorem kX8_rank_83 : lkp tX8_rank 83 = some (.invokevirtual 235, 0) := rfl
theorem kX8_rank_86 : lkp tX8_rank 86 = some (.ireturn, 0) := rfl
theorem kX8_rank_87 : lkp tX8_rank 87 = some (.aload_n 0, 0) := rfl
theorem kX8_rank_88 : lkp tX8_rank 88 = some (.getfield 10, 0) := rfl
theorem kX8_rank_91 : lkp tX8_rank 91 = some (.aload 4, 0) := rfl
theorem kX8_rank_93 : lkp tX8_rank 93 = some (.iload_n 2, 0) := rfl
theorem kX8_rank_94 : lkp tX8_rank 94 = some (.aload 4, 0) := rfl
theorem kX8_rank_96 : lkp tX8_rank 96 = some (.getfield 222, 0) := rfl
theorem kX8_rank_99 : lkp tX8_rank 99 = some (.invokevirtual 239, 0) := rfl
theorem kX8_rank_102 : lkp tX8_rank 102 = some (.ifCond .eq 7, 109) := rfl
theorem kX8_rank_105 : lkp tX8_rank 105 = some (.iconst 1, 0) := rfl
theorem kX8_rank_106 : lkp tX8_rank 106 = some (.goto 4, 110) := rfl
theorem kX8_rank_109 : lkp tX8_rank 109 = some (.iconst 0, 0) := rfl
theorem kX8_rank_110 : lkp tX8_rank 110 = some (.ireturn, 0) := rfl
theorem kX8_rank_111 : lkp tX8_rank 111 = some (.aload 4, 0) := rfl
theorem kX8_rank_113 : lkp tX8_rank 113 = some (.iload_n 2, 0) := rfl
theorem kX8_rank_114 : lkp tX8_rank 114 = some (.invokevirtual 243, 0) := rfl
theorem kX8_rank_117 : lkp tX8_rank 117 = some (.ifCond .eq 7, 124) := rfl
theorem kX8_rank_120 : lkp tX8_rank 120 = some (.iconst 1, 0) := rfl
theorem kX8_rank_121 : lkp tX8_rank 121 = some (.goto 4, 125) := rfl
theorem kX8_rank_124 : lkp tX8_rank 124 = some (.iconst 0, 0) := rfl
theorem kX8_rank_125 : lkp tX8_rank 125 = some (.ireturn, 0) := rfl
theorem kX8_rank_126 : lkp tX8_rank 126 = some (.aload_n 0, 0) := rfl
theorem kX8_rank_127 : lkp tX8_rank 127 = some (.getfield 10, 0) := rfl
theorem kX8_rank_130 : lkp tX8_rank 130 = some (.iload_n 1, 0) := rfl
theorem kX8_rank_131 : lkp tX8_rank 131 = some (.iload_n 2, 0) := rfl
theorem kX8_rank_132 : lkp tX8_rank 132 = some (.getstatic 134, 0) := rfl
theorem kX8_rank_135 : lkp tX8_rank 135 = some (.invokevirtual 247, 0) := rfl
theorem kX8_rank_138 : lkp tX8_rank 138 = some (.ireturn, 0) := rfl
theorem kX8_rank_139 : lkp tX8_rank 139 = some (.new 129, 0) := rfl
theorem kX8_rank_142 : lkp tX8_rank 142 = some (.dup, 0) := rfl
theorem kX8_rank_143 : lkp tX8_rank 143 = some (.ldc 131, 0) := rfl
theorem kX8_rank_145 : lkp tX8_rank 145 = some (.invokespecial 133, 0) := rfl
theorem kX8_rank_148 : lkp tX8_rank 148 = some (.athrow, 0) := rfl
theorem kX8_why_0 : lkp tX8_why 0 = some (.aload_n 0, 0) := rfl
theorem kX8_why_1 : lkp tX8_why 1 = some (.iload_n 1, 0) := rfl
theorem kX8_why_2 : lkp tX8_why 2 = some (.invokevirtual 205, 0) := rfl
theorem kX8_why_5 : lkp tX8_why 5 = some (.aload_n 0, 0) := rfl
theorem kX8_why_6 : lkp tX8_why 6 = some (.iload_n 2, 0) := rfl
theorem kX8_why_7 : lkp tX8_why 7 = some (.invokevirtual 79, 0) := rfl
theorem kX8_why_10 : lkp tX8_why 10 = some (.aload_n 0, 0) := rfl
theorem kX8_why_11 : lkp tX8_why 11 = some (.getfield 10, 0) := rfl
theorem kX8_why_14 : lkp tX8_why 14 = some (.getfield 161, 0) := rfl
theorem kX8_why_17 : lkp tX8_why 17 = some (.iload_n 1, 0) := rfl
theorem kX8_why_18 : lkp tX8_why 18 = some (.aaload, 0) := rfl
theorem kX8_why_19 : lkp tX8_why 19 = some (.astore_n 3, 0) := rfl
theorem kX8_why_20 : lkp tX8_why 20 = some (.aload_n 3, 0) := rfl
theorem kX8_why_21 : lkp tX8_why 21 = some (.getfield 219, 0) := rfl
theorem kX8_why_24 : lkp tX8_why 24 = some (.iload_n 2, 0) := rfl
theorem kX8_why_25 : lkp tX8_why 25 = some (.if_icmp .ne 5, 30) := rfl
theorem kX8_why_28 : lkp tX8_why 28 = some (.iconst 0, 0) := rfl
theorem kX8_why_29 : lkp tX8_why 29 = some (.ireturn, 0) := rfl
theorem kX8_why_30 : lkp tX8_why 30 = some (.aload_n 3, 0) := rfl
theorem kX8_why_31 : lkp tX8_why 31 = some (.iload_n 2, 0) := rfl
theorem kX8_why_32 : lkp tX8_why 32 = some (.invokevirtual 208, 0) := rfl
theorem kX8_why_35 : lkp tX8_why 35 = some (.iconst (-1), 0) := rfl
theorem kX8_why_36 : lkp tX8_why 36 = some (.if_icmp .ne 5, 41) := rfl
theorem kX8_why_39 : lkp tX8_why 39 = some (.iconst 1, 0) := rfl
theorem kX8_why_40 : lkp tX8_why 40 = some (.ireturn, 0) := rfl
theorem kX8_why_41 : lkp tX8_why 41 = some (.aload_n 3, 0) := rfl
theorem kX8_why_42 : lkp tX8_why 42 = some (.iload_n 2, 0) := rfl
theorem kX8_why_43 : lkp tX8_why 43 = some (.invokevirtual 243, 0) := rfl
theorem kX8_why_46 : lkp tX8_why 46 = some (.ifCond .ne 5, 51) := rfl
theorem kX8_why_49 : lkp tX8_why 49 = some (.iconst 2, 0) := rfl
theorem kX8_why_50 : lkp tX8_why 50 = some (.ireturn, 0) := rfl
theorem kX8_why_51 : lkp tX8_why 51 = some (.aload_n 0, 0) := rfl
theorem kX8_why_52 : lkp tX8_why 52 = some (.getfield 10, 0) := rfl
theorem kX8_why_55 : lkp tX8_why 55 = some (.iload_n 2, 0) := rfl
theorem kX8_why_56 : lkp tX8_why 56 = some (.invokevirtual 119, 0) := rfl
theorem kX8_why_59 : lkp tX8_why 59 = some (.ifCond .le 5, 64) := rfl
theorem kX8_why_62 : lkp tX8_why 62 = some (.iconst 3, 0) := rfl
theorem kX8_why_63 : lkp tX8_why 63 = some (.ireturn, 0) := rfl
theorem kX8_why_64 : lkp tX8_why 64 = some (.aload_n 0, 0) := rfl
theorem kX8_why_65 : lkp tX8_why 65 = some (.getfield 10, 0) := rfl
theorem kX8_why_68 : lkp tX8_why 68 = some (.iload_n 1, 0) := rfl
theorem kX8_why_69 : lkp tX8_why 69 = some (.iload_n 2, 0) := rfl
theorem kX8_why_70 : lkp tX8_why 70 = some (.invokevirtual 250, 0) := rfl
theorem kX8_why_73 : lkp tX8_why 73 = some (.ifCond .eq 5, 78) := rfl
theorem kX8_why_76 : lkp tX8_why 76 = some (.iconst 4, 0) := rfl
theorem kX8_why_77 : lkp tX8_why 77 = some (.ireturn, 0) := rfl
theorem kX8_why_78 : lkp tX8_why 78 = some (.aload_n 0, 0) := rfl
theorem kX8_why_79 : lkp tX8_why 79 = some (.getfield 10, 0) := rfl
theorem kX8_why_82 : lkp tX8_why 82 = some (.iload_n 2, 0) := rfl
theorem kX8_why_83 : lkp tX8_why 83 = some (.aload_n 0, 0) := rfl
theorem kX8_why_84 : lkp tX8_why 84 = some (.getfield 10, 0) := rfl
theorem kX8_why_87 : lkp tX8_why 87 = some (.aload_n 3, 0) := rfl
theorem kX8_why_88 : lkp tX8_why 88 = some (.iload_n 2, 0) := rfl
theorem kX8_why_89 : lkp tX8_why 89 = some (.aload_n 3, 0) := rfl
theorem kX8_why_90 : lkp tX8_why 90 = some (.getfield 222, 0) := rfl
theorem kX8_why_93 : lkp tX8_why 93 = some (.invokevirtual 231, 0) := rfl
theorem kX8_why_96 : lkp tX8_why 96 = some (.invokevirtual 253, 0) := rfl
theorem kX8_why_99 : lkp tX8_why 99 = some (.ifCond .eq 7, 106) := rfl
theorem kX8_why_102 : lkp tX8_why 102 = some (.iconst 5, 0) := rfl
theorem kX8_why_103 : lkp tX8_why 103 = some (.goto 5, 108) := rfl
theorem kX8_why_106 : lkp tX8_why 106 = some (.bipush 6, 0) := rfl
theorem kX8_why_108 : lkp tX8_why 108 = some (.ireturn, 0) := rfl
theorem kX8_allocate_0 : lkp tX8_allocate 0 = some (.aload_n 0, 0) := rfl
theorem kX8_allocate_1 : lkp tX8_allocate 1 = some (.getfield 22, 0) := rfl
theorem kX8_allocate_4 : lkp tX8_allocate 4 = some (.aload_n 0, 0) := rfl
theorem kX8_allocate_5 : lkp tX8_allocate 5 = some (.getfield 10, 0) := rfl
theorem kX8_allocate_8 : lkp tX8_allocate 8 = some (.invokevirtual 65, 0) := rfl
theorem kX8_allocate_11 : lkp tX8_allocate 11 = some (.aload_n 0, 0) := rfl
theorem kX8_allocate_12 : lkp tX8_allocate 12 = some (.getfield 29, 0) := rfl
theorem kX8_allocate_15 : lkp tX8_allocate 15 = some (.aload_n 0, 0) := rfl
theorem kX8_allocate_16 : lkp tX8_allocate 16 = some (.getfield 10, 0) := rfl
theorem kX8_allocate_19 : lkp tX8_allocate 19 = some (.iconst 0, 0) := rfl
theorem kX8_allocate_20 : lkp tX8_allocate 20 = some (.invokevirtual 256, 0) := rfl
theorem kX8_allocate_23 : lkp tX8_allocate 23 = some (.istore_n 1, 0) := rfl
theorem kX8_allocate_24 : lkp tX8_allocate 24 = some (.aload_n 0, 0) := rfl
theorem kX8_allocate_25 : lkp tX8_allocate 25 = some (.getfield 10, 0) := rfl
theorem kX8_allocate_28 : lkp tX8_allocate 28 = some (.aload_n 0, 0) := rfl
theorem kX8_allocate_29 : lkp tX8_allocate 29 = some (.getfield 29, 0) := rfl
theorem kX8_allocate_32 : lkp tX8_allocate 32 = some (.invokevirtual 260, 0) := rfl
theorem kX8_allocate_35 : lkp tX8_allocate 35 = some (.iload_n 1, 0) := rfl
theorem kX8_allocate_36 : lkp tX8_allocate 36 = some (.ireturn, 0) := rfl
theorem kX8_again_0 : lkp tX8_again 0 = some (.aload_n 0, 0) := rfl
theorem kX8_again_1 : lkp tX8_again 1 = some (.iload_n 1, 0) := rfl
theorem kX8_again_2 : lkp tX8_again 2 = some (.invokevirtual 205, 0) := rfl
theorem kX8_again_5 : lkp tX8_again 5 = some (.aload_n 0, 0) := rfl
theorem kX8_again_6 : lkp tX8_again 6 = some (.getfield 29, 0) := rfl
theorem kX8_again_9 : lkp tX8_again 9 = some (.aload_n 0, 0) := rfl
theorem kX8_again_10 : lkp tX8_again 10 = some (.getfield 10, 0) := rfl
theorem kX8_again_13 : lkp tX8_again 13 = some (.iconst 1, 0) := rfl
theorem kX8_again_14 : lkp tX8_again 14 = some (.invokevirtual 256, 0) := rfl
theorem kX8_again_17 : lkp tX8_again 17 = some (.pop, 0) := rfl
theorem kX8_again_18 : lkp tX8_again 18 = some (.aload_n 0, 0) := rfl
theorem kX8_again_19 : lkp tX8_again 19 = some (.getfield 29, 0) := rfl
theorem kX8_again_22 : lkp tX8_again 22 = some (.getfield 264, 0) := rfl
theorem kX8_again_25 : lkp tX8_again 25 = some (.iload_n 1, 0) := rfl
theorem kX8_again_26 : lkp tX8_again 26 = some (.iaload, 0) := rfl
theorem kX8_again_27 : lkp tX8_again 27 = some (.ireturn, 0) := rfl
theorem kX8_unstable_0 : lkp tX8_unstable 0 = some (.iconst 0, 0) := rfl
theorem kX8_unstable_1 : lkp tX8_unstable 1 = some (.istore_n 1, 0) := rfl
theorem kX8_unstable_2 : lkp tX8_unstable 2 = some (.iconst 0, 0) := rfl
theorem kX8_unstable_3 : lkp tX8_unstable 3 = some (.istore_n 2, 0) := rfl
theorem kX8_unstable_4 : lkp tX8_unstable 4 = some (.iload_n 2, 0) := rfl
theorem kX8_unstable_5 : lkp tX8_unstable 5 = some (.aload_n 0, 0) := rfl
theorem kX8_unstable_6 : lkp tX8_unstable 6 = some (.getfield 10, 0) := rfl
theorem kX8_unstable_9 : lkp tX8_unstable 9 = some (.getfield 55, 0) := rfl
theorem kX8_unstable_12 : lkp tX8_unstable 12 = some (.if_icmp .ge 84, 96) := rfl
theorem kX8_unstable_15 : lkp tX8_unstable 15 = some (.aload_n 0, 0) := rfl
theorem kX8_unstable_16 : lkp tX8_unstable 16 = some (.getfield 10, 0) := rfl
theorem kX8_unstable_19 : lkp tX8_unstable 19 = some (.iload_n 2, 0) := rfl
theorem kX8_unstable_20 : lkp tX8_unstable 20 = some (.invokevirtual 119, 0) := rfl
theorem kX8_unstable_23 : lkp tX8_unstable 23 = some (.ifCond .le 7, 30) := rfl
theorem kX8_unstable_26 : lkp tX8_unstable 26 = some (.iconst 1, 0) := rfl
theorem kX8_unstable_27 : lkp tX8_unstable 27 = some (.goto 4, 31) := rfl
theorem kX8_unstable_30 : lkp tX8_unstable 30 = some (.iconst 0, 0) := rfl
theorem kX8_unstable_31 : lkp tX8_unstable 31 = some (.istore_n 3, 0) := rfl
theorem kX8_unstable_32 : lkp tX8_unstable 32 = some (.iconst 0, 0) := rfl
theorem kX8_unstable_33 : lkp tX8_unstable 33 = some (.istore 4, 0) := rfl
theorem kX8_unstable_35 : lkp tX8_unstable 35 = some (.iload 4, 0) := rfl
theorem kX8_unstable_37 : lkp tX8_unstable 37 = some (.aload_n 0, 0) := rfl
theorem kX8_unstable_38 : lkp tX8_unstable 38 = some (.getfield 10, 0) := rfl
theorem kX8_unstable_41 : lkp tX8_unstable 41 = some (.getfield 158, 0) := rfl
theorem kX8_unstable_44 : lkp tX8_unstable 44 = some (.if_icmp .ge 46, 90) := rfl
theorem kX8_unstable_47 : lkp tX8_unstable 47 = some (.aload_n 0, 0) := rfl
theorem kX8_unstable_48 : lkp tX8_unstable 48 = some (.getfield 10, 0) := rfl
theorem kX8_unstable_51 : lkp tX8_unstable 51 = some (.getfield 161, 0) := rfl
theorem kX8_unstable_54 : lkp tX8_unstable 54 = some (.iload 4, 0) := rfl
theorem kX8_unstable_56 : lkp tX8_unstable 56 = some (.aaload, 0) := rfl
theorem kX8_unstable_57 : lkp tX8_unstable 57 = some (.iload_n 2, 0) := rfl
theorem kX8_unstable_58 : lkp tX8_unstable 58 = some (.invokevirtual 243, 0) := rfl
theorem kX8_unstable_61 : lkp tX8_unstable 61 = some (.ifCond .eq 23, 84) := rfl
theorem kX8_unstable_64 : lkp tX8_unstable 64 = some (.iload_n 3, 0) := rfl
theorem kX8_unstable_65 : lkp tX8_unstable 65 = some (.ifCond .ne 16, 81) := rfl
theorem kX8_unstable_68 : lkp tX8_unstable 68 = some (.aload_n 0, 0) := rfl
theorem kX8_unstable_69 : lkp tX8_unstable 69 = some (.getfield 10, 0) := rfl
theorem kX8_unstable_72 : lkp tX8_unstable 72 = some (.iload 4, 0) := rfl
theorem kX8_unstable_74 : lkp tX8_unstable 74 = some (.iload_n 2, 0) := rfl
theorem kX8_unstable_75 : lkp tX8_unstable 75 = some (.invokevirtual 250, 0) := rfl
theorem kX8_unstable_78 : lkp tX8_unstable 78 = some (.ifCond .eq 6, 84) := rfl
theorem kX8_unstable_81 : lkp tX8_unstable 81 = some (.iinc 1 1, 0) := rfl
theorem kX8_unstable_84 : lkp tX8_unstable 84 = some (.iinc 4 1, 0) := rfl
theorem kX8_unstable_87 : lkp tX8_unstable 87 = some (.goto (-52), 35) := rfl
theorem kX8_unstable_90 : lkp tX8_unstable 90 = some (.iinc 2 1, 0) := rfl
theorem kX8_unstable_93 : lkp tX8_unstable 93 = some (.goto (-89), 4) := rfl
theorem kX8_unstable_96 : lkp tX8_unstable 96 = some (.iload_n 1, 0) := rfl
theorem kX8_unstable_97 : lkp tX8_unstable 97 = some (.ireturn, 0) := rfl
theorem kX8_withdraw_0 : lkp tX8_withdraw 0 = some (.aload_n 0, 0) := rfl
theorem kX8_withdraw_1 : lkp tX8_withdraw 1 = some (.iload_n 1, 0) := rfl
theorem kX8_withdraw_2 : lkp tX8_withdraw 2 = some (.invokevirtual 205, 0) := rfl
theorem kX8_withdraw_5 : lkp tX8_withdraw 5 = some (.aload_n 0, 0) := rfl
theorem kX8_withdraw_6 : lkp tX8_withdraw 6 = some (.getfield 10, 0) := rfl
theorem kX8_withdraw_9 : lkp tX8_withdraw 9 = some (.getfield 161, 0) := rfl
theorem kX8_withdraw_12 : lkp tX8_withdraw 12 = some (.iload_n 1, 0) := rfl
theorem kX8_withdraw_13 : lkp tX8_withdraw 13 = some (.aaload, 0) := rfl
theorem kX8_withdraw_14 : lkp tX8_withdraw 14 = some (.astore_n 2, 0) := rfl
theorem kX8_withdraw_15 : lkp tX8_withdraw 15 = some (.aload_n 2, 0) := rfl
theorem kX8_withdraw_16 : lkp tX8_withdraw 16 = some (.getfield 219, 0) := rfl
theorem kX8_withdraw_19 : lkp tX8_withdraw 19 = some (.iconst (-1), 0) := rfl
theorem kX8_withdraw_20 : lkp tX8_withdraw 20 = some (.if_icmp .ne 14, 34) := rfl
theorem kX8_withdraw_23 : lkp tX8_withdraw 23 = some (.new 266, 0) := rfl
theorem kX8_withdraw_26 : lkp tX8_withdraw 26 = some (.dup, 0) := rfl
theorem kX8_withdraw_27 : lkp tX8_withdraw 27 = some (.ldc_w 268, 0) := rfl
theorem kX8_withdraw_30 : lkp tX8_withdraw 30 = some (.invokespecial 270, 0) := rfl
theorem kX8_withdraw_33 : lkp tX8_withdraw 33 = some (.athrow, 0) := rfl
theorem kX8_withdraw_34 : lkp tX8_withdraw 34 = some (.aload_n 0, 0) := rfl
theorem kX8_withdraw_35 : lkp tX8_withdraw 35 = some (.getfield 22, 0) := rfl
theorem kX8_withdraw_38 : lkp tX8_withdraw 38 = some (.aload_n 0, 0) := rfl
theorem kX8_withdraw_39 : lkp tX8_withdraw 39 = some (.getfield 10, 0) := rfl
theorem kX8_withdraw_42 : lkp tX8_withdraw 42 = some (.invokevirtual 65, 0) := rfl
theorem kX8_withdraw_45 : lkp tX8_withdraw 45 = some (.aload_n 0, 0) := rfl
theorem kX8_withdraw_46 : lkp tX8_withdraw 46 = some (.getfield 10, 0) := rfl
theorem kX8_withdraw_49 : lkp tX8_withdraw 49 = some (.iload_n 1, 0) := rfl
theorem kX8_withdraw_50 : lkp tX8_withdraw 50 = some (.iconst (-1), 0) := rfl
theorem kX8_withdraw_51 : lkp tX8_withdraw 51 = some (.iconst 3, 0) := rfl
theorem kX8_withdraw_52 : lkp tX8_withdraw 52 = some (.invokevirtual 271, 0) := rfl
theorem kX8_withdraw_55 : lkp tX8_withdraw 55 = some (.aload_n 2, 0) := rfl
theorem kX8_withdraw_56 : lkp tX8_withdraw 56 = some (.iconst 0, 0) := rfl
theorem kX8_withdraw_57 : lkp tX8_withdraw 57 = some (.putfield 211, 0) := rfl
theorem kX8_withdraw_60 : lkp tX8_withdraw 60 = some (.aload_n 0, 0) := rfl
theorem kX8_withdraw_61 : lkp tX8_withdraw 61 = some (.getfield 10, 0) := rfl
theorem kX8_withdraw_64 : lkp tX8_withdraw 64 = some (.invokevirtual 86, 0) := rfl
theorem kX8_withdraw_67 : lkp tX8_withdraw 67 = some (.ireturn, 0) := rfl
theorem kX8_appeal_0 : lkp tX8_appeal 0 = some (.aload_n 0, 0) := rfl
theorem kX8_appeal_1 : lkp tX8_appeal 1 = some (.iload_n 1, 0) := rfl
theorem kX8_appeal_2 : lkp tX8_appeal 2 = some (.invokevirtual 205, 0) := rfl
theorem kX8_appeal_5 : lkp tX8_appeal 5 = some (.aload_n 0, 0) := rfl
theorem kX8_appeal_6 : lkp tX8_appeal 6 = some (.iload_n 2, 0) := rfl
theorem kX8_appeal_7 : lkp tX8_appeal 7 = some (.invokevirtual 79, 0) := rfl
theorem kX8_appeal_10 : lkp tX8_appeal 10 = some (.iload_n 3, 0) := rfl
theorem kX8_appeal_11 : lkp tX8_appeal 11 = some (.bipush 100, 0) := rfl
theorem kX8_appeal_13 : lkp tX8_appeal 13 = some (.invokestatic 51, 0) := rfl
theorem kX8_appeal_16 : lkp tX8_appeal 16 = some (.aload_n 0, 0) := rfl
theorem kX8_appeal_17 : lkp tX8_appeal 17 = some (.getfield 10, 0) := rfl
theorem kX8_appeal_20 : lkp tX8_appeal 20 = some (.iload_n 1, 0) := rfl
theorem kX8_appeal_21 : lkp tX8_appeal 21 = some (.iload_n 2, 0) := rfl
theorem kX8_appeal_22 : lkp tX8_appeal 22 = some (.iload_n 3, 0) := rfl
theorem kX8_appeal_23 : lkp tX8_appeal 23 = some (.invokevirtual 275, 0) := rfl
theorem kX8_appeal_26 : lkp tX8_appeal 26 = some (.istore 4, 0) := rfl
theorem kX8_appeal_28 : lkp tX8_appeal 28 = some (.iload 4, 0) := rfl
theorem kX8_appeal_30 : lkp tX8_appeal 30 = some (.iconst 1, 0) := rfl
theorem kX8_appeal_31 : lkp tX8_appeal 31 = some (.if_icmp .eq 40, 71) := rfl
theorem kX8_appeal_34 : lkp tX8_appeal 34 = some (.iload 4, 0) := rfl
theorem kX8_appeal_36 : lkp tX8_appeal 36 = some (.iconst 2, 0) := rfl
theorem kX8_appeal_37 : lkp tX8_appeal 37 = some (.if_icmp .eq 34, 71) := rfl
theorem kX8_appeal_40 : lkp tX8_appeal 40 = some (.aload_n 0, 0) := rfl
theorem kX8_appeal_41 : lkp tX8_appeal 41 = some (.getfield 22, 0) := rfl
theorem kX8_appeal_44 : lkp tX8_appeal 44 = some (.aload_n 0, 0) := rfl
theorem kX8_appeal_45 : lkp tX8_appeal 45 = some (.getfield 10, 0) := rfl
theorem kX8_appeal_48 : lkp tX8_appeal 48 = some (.invokevirtual 65, 0) := rfl
theorem kX8_appeal_51 : lkp tX8_appeal 51 = some (.aload_n 0, 0) := rfl
theorem kX8_appeal_52 : lkp tX8_appeal 52 = some (.getfield 10, 0) := rfl
theorem kX8_appeal_55 : lkp tX8_appeal 55 = some (.getfield 161, 0) := rfl
theorem kX8_appeal_58 : lkp tX8_appeal 58 = some (.iload_n 1, 0) := rfl
theorem kX8_appeal_59 : lkp tX8_appeal 59 = some (.aaload, 0) := rfl
theorem kX8_appeal_60 : lkp tX8_appeal 60 = some (.dup, 0) := rfl
theorem kX8_appeal_61 : lkp tX8_appeal 61 = some (.getfield 225, 0) := rfl
theorem kX8_appeal_64 : lkp tX8_appeal 64 = some (.iconst 1, 0) := rfl
theorem kX8_appeal_65 : lkp tX8_appeal 65 = some (.iload_n 2, 0) := rfl
theorem kX8_appeal_66 : lkp tX8_appeal 66 = some (.ishl, 0) := rfl
theorem kX8_appeal_67 : lkp tX8_appeal 67 = some (.ior, 0) := rfl
theorem kX8_appeal_68 : lkp tX8_appeal 68 = some (.putfield 225, 0) := rfl
theorem kX8_appeal_71 : lkp tX8_appeal 71 = some (.iload 4, 0) := rfl
theorem kX8_appeal_73 : lkp tX8_appeal 73 = some (.ifCond .eq 20, 93) := rfl
theorem kX8_appeal_76 : lkp tX8_appeal 76 = some (.aload_n 0, 0) := rfl
theorem kX8_appeal_77 : lkp tX8_appeal 77 = some (.iload 4, 0) := rfl
theorem kX8_appeal_79 : lkp tX8_appeal 79 = some (.putfield 44, 0) := rfl
theorem kX8_appeal_82 : lkp tX8_appeal 82 = some (.new 58, 0) := rfl
theorem kX8_appeal_85 : lkp tX8_appeal 85 = some (.dup, 0) := rfl
theorem kX8_appeal_86 : lkp tX8_appeal 86 = some (.ldc_w 279, 0) := rfl
theorem kX8_appeal_89 : lkp tX8_appeal 89 = some (.invokespecial 62, 0) := rfl
theorem kX8_appeal_92 : lkp tX8_appeal 92 = some (.athrow, 0) := rfl
theorem kX8_appeal_93 : lkp tX8_appeal 93 = some (.aload_n 0, 0) := rfl
theorem kX8_appeal_94 : lkp tX8_appeal 94 = some (.getfield 10, 0) := rfl
theorem kX8_appeal_97 : lkp tX8_appeal 97 = some (.getfield 69, 0) := rfl
theorem kX8_appeal_100 : lkp tX8_appeal 100 = some (.iload_n 2, 0) := rfl
theorem kX8_appeal_101 : lkp tX8_appeal 101 = some (.aaload, 0) := rfl
theorem kX8_appeal_102 : lkp tX8_appeal 102 = some (.dup, 0) := rfl
theorem kX8_appeal_103 : lkp tX8_appeal 103 = some (.getfield 112, 0) := rfl
theorem kX8_appeal_106 : lkp tX8_appeal 106 = some (.iconst 1, 0) := rfl
theorem kX8_appeal_107 : lkp tX8_appeal 107 = some (.iadd, 0) := rfl
theorem kX8_appeal_108 : lkp tX8_appeal 108 = some (.putfield 112, 0) := rfl
theorem kX8_appeal_111 : lkp tX8_appeal 111 = some (.aload_n 0, 0) := rfl
theorem kX8_appeal_112 : lkp tX8_appeal 112 = some (.getfield 10, 0) := rfl
theorem kX8_appeal_115 : lkp tX8_appeal 115 = some (.iload_n 1, 0) := rfl
theorem kX8_appeal_116 : lkp tX8_appeal 116 = some (.iload_n 2, 0) := rfl
theorem kX8_appeal_117 : lkp tX8_appeal 117 = some (.iconst 2, 0) := rfl
theorem kX8_appeal_118 : lkp tX8_appeal 118 = some (.invokevirtual 271, 0) := rfl
theorem kX8_appeal_121 : lkp tX8_appeal 121 = some (.aload_n 0, 0) := rfl
theorem kX8_appeal_122 : lkp tX8_appeal 122 = some (.getfield 10, 0) := rfl
theorem kX8_appeal_125 : lkp tX8_appeal 125 = some (.invokevirtual 86, 0) := rfl
theorem kX8_appeal_128 : lkp tX8_appeal 128 = some (.ireturn, 0) := rfl
theorem kX8_reason_0 : lkp tX8_reason 0 = some (.aload_n 0, 0) := rfl
theorem kX8_reason_1 : lkp tX8_reason 1 = some (.getfield 44, 0) := rfl
theorem kX8_reason_4 : lkp tX8_reason 4 = some (.ifCond .ne 14, 18) := rfl
theorem kX8_reason_7 : lkp tX8_reason 7 = some (.new 150, 0) := rfl
theorem kX8_reason_10 : lkp tX8_reason 10 = some (.dup, 0) := rfl
theorem kX8_reason_11 : lkp tX8_reason 11 = some (.ldc_w 281, 0) := rfl
theorem kX8_reason_14 : lkp tX8_reason 14 = some (.invokespecial 154, 0) := rfl
theorem kX8_reason_17 : lkp tX8_reason 17 = some (.athrow, 0) := rfl
theorem kX8_reason_18 : lkp tX8_reason 18 = some (.aload_n 0, 0) := rfl
theorem kX8_reason_19 : lkp tX8_reason 19 = some (.getfield 44, 0) := rfl
theorem kX8_reason_22 : lkp tX8_reason 22 = some (.ireturn, 0) := rfl
theorem kX8_entry_0 : lkp tX8_entry 0 = some (.iload_n 1, 0) := rfl
theorem kX8_entry_1 : lkp tX8_entry 1 = some (.ifCond .lt 17, 18) := rfl
theorem kX8_entry_4 : lkp tX8_entry 4 = some (.iload_n 1, 0) := rfl
theorem kX8_entry_5 : lkp tX8_entry 5 = some (.aload_n 0, 0) := rfl
theorem kX8_entry_6 : lkp tX8_entry 6 = some (.getfield 10, 0) := rfl
theorem kX8_entry_9 : lkp tX8_entry 9 = some (.getfield 283, 0) := rfl
theorem kX8_entry_12 : lkp tX8_entry 12 = some (.invokevirtual 287, 0) := rfl
theorem kX8_entry_15 : lkp tX8_entry 15 = some (.if_icmp .lt 14, 29) := rfl
theorem kX8_entry_18 : lkp tX8_entry 18 = some (.new 150, 0) := rfl
theorem kX8_entry_21 : lkp tX8_entry 21 = some (.dup, 0) := rfl
theorem kX8_entry_22 : lkp tX8_entry 22 = some (.ldc_w 292, 0) := rfl
theorem kX8_entry_25 : lkp tX8_entry 25 = some (.invokespecial 154, 0) := rfl
theorem kX8_entry_28 : lkp tX8_entry 28 = some (.athrow, 0) := rfl
theorem kX8_entry_29 : lkp tX8_entry 29 = some (.iload_n 2, 0) := rfl
theorem kX8_entry_30 : lkp tX8_entry 30 = some (.iconst 3, 0) := rfl
theorem kX8_entry_31 : lkp tX8_entry 31 = some (.invokestatic 51, 0) := rfl
theorem kX8_entry_34 : lkp tX8_entry 34 = some (.aload_n 0, 0) := rfl
theorem kX8_entry_35 : lkp tX8_entry 35 = some (.getfield 10, 0) := rfl
theorem kX8_entry_38 : lkp tX8_entry 38 = some (.getfield 283, 0) := rfl
theorem kX8_entry_41 : lkp tX8_entry 41 = some (.getfield 294, 0) := rfl
theorem kX8_entry_44 : lkp tX8_entry 44 = some (.iload_n 1, 0) := rfl
theorem kX8_entry_45 : lkp tX8_entry 45 = some (.iconst 4, 0) := rfl
theorem kX8_entry_46 : lkp tX8_entry 46 = some (.imul, 0) := rfl
theorem kX8_entry_47 : lkp tX8_entry 47 = some (.iload_n 2, 0) := rfl
theorem kX8_entry_48 : lkp tX8_entry 48 = some (.iadd, 0) := rfl
theorem kX8_entry_49 : lkp tX8_entry 49 = some (.iaload, 0) := rfl
theorem kX8_entry_50 : lkp tX8_entry 50 = some (.ireturn, 0) := rfl
theorem kX8_account_0 : lkp tX8_account 0 = some (.iload_n 1, 0) := rfl
theorem kX8_account_1 : lkp tX8_account 1 = some (.tableswitch 150 0 10 #[59, 67, 75, 83, 91, 99, 107, 115, 123, 134, 142], 0) := rfl
theorem kX8_account_60 : lkp tX8_account 60 = some (.aload_n 0, 0) := rfl
theorem kX8_account_61 : lkp tX8_account 61 = some (.getfield 10, 0) := rfl
theorem kX8_account_64 : lkp tX8_account 64 = some (.getfield 55, 0) := rfl
theorem kX8_account_67 : lkp tX8_account 67 = some (.ireturn, 0) := rfl
theorem kX8_account_68 : lkp tX8_account 68 = some (.aload_n 0, 0) := rfl
theorem kX8_account_69 : lkp tX8_account 69 = some (.getfield 10, 0) := rfl
theorem kX8_account_72 : lkp tX8_account 72 = some (.getfield 158, 0) := rfl
theorem kX8_account_75 : lkp tX8_account 75 = some (.ireturn, 0) := rfl
theorem kX8_account_76 : lkp tX8_account 76 = some (.aload_n 0, 0) := rfl
theorem kX8_account_77 : lkp tX8_account 77 = some (.getfield 10, 0) := rfl
theorem kX8_account_80 : lkp tX8_account 80 = some (.invokevirtual 297, 0) := rfl
theorem kX8_account_83 : lkp tX8_account 83 = some (.ireturn, 0) := rfl
theorem kX8_account_84 : lkp tX8_account 84 = some (.aload_n 0, 0) := rfl
theorem kX8_account_85 : lkp tX8_account 85 = some (.getfield 10, 0) := rfl
theorem kX8_account_88 : lkp tX8_account 88 = some (.invokevirtual 300, 0) := rfl
theorem kX8_account_91 : lkp tX8_account 91 = some (.ireturn, 0) := rfl
theorem kX8_account_92 : lkp tX8_account 92 = some (.aload_n 0, 0) := rfl
theorem kX8_account_93 : lkp tX8_account 93 = some (.getfield 10, 0) := rfl
theorem kX8_account_96 : lkp tX8_account 96 = some (.invokevirtual 303, 0) := rfl
theorem kX8_account_99 : lkp tX8_account 99 = some (.ireturn, 0) := rfl
theorem kX8_account_100 : lkp tX8_account 100 = some (.aload_n 0, 0) := rfl
theorem kX8_account_101 : lkp tX8_account 101 = some (.getfield 10, 0) := rfl
theorem kX8_account_104 : lkp tX8_account 104 = some (.invokevirtual 306, 0) := rfl
theorem kX8_account_107 : lkp tX8_account 107 = some (.ireturn, 0) := rfl
theorem kX8_account_108 : lkp tX8_account 108 = some (.aload_n 0, 0) := rfl
theorem kX8_account_109 : lkp tX8_account 109 = some (.getfield 10, 0) := rfl
theorem kX8_account_112 : lkp tX8_account 112 = some (.invokevirtual 309, 0) := rfl
theorem kX8_account_115 : lkp tX8_account 115 = some (.ireturn, 0) := rfl
theorem kX8_account_116 : lkp tX8_account 116 = some (.aload_n 0, 0) := rfl
theorem kX8_account_117 : lkp tX8_account 117 = some (.getfield 10, 0) := rfl
theorem kX8_account_120 : lkp tX8_account 120 = some (.invokevirtual 312, 0) := rfl
theorem kX8_account_123 : lkp tX8_account 123 = some (.ireturn, 0) := rfl
theorem kX8_account_124 : lkp tX8_account 124 = some (.aload_n 0, 0) := rfl
theorem kX8_account_125 : lkp tX8_account 125 = some (.getfield 10, 0) := rfl
theorem kX8_account_128 : lkp tX8_account 128 = some (.getfield 283, 0) := rfl
theorem kX8_account_131 : lkp tX8_account 131 = some (.getfield 315, 0) := rfl
theorem kX8_account_134 : lkp tX8_account 134 = some (.ireturn, 0) := rfl
theorem kX8_account_135 : lkp tX8_account 135 = some (.aload_n 0, 0) := rfl
theorem kX8_account_136 : lkp tX8_account 136 = some (.getfield 22, 0) := rfl
theorem kX8_account_139 : lkp tX8_account 139 = some (.getfield 318, 0) := rfl
theorem kX8_account_142 : lkp tX8_account 142 = some (.ireturn, 0) := rfl
theorem kX8_account_143 : lkp tX8_account 143 = some (.aload_n 0, 0) := rfl
theorem kX8_account_144 : lkp tX8_account 144 = some (.getfield 36, 0) := rfl
theorem kX8_account_147 : lkp tX8_account 147 = some (.getfield 172, 0) := rfl
theorem kX8_account_150 : lkp tX8_account 150 = some (.ireturn, 0) := rfl
theorem kX8_account_151 : lkp tX8_account 151 = some (.new 129, 0) := rfl
theorem kX8_account_154 : lkp tX8_account 154 = some (.dup, 0) := rfl
theorem kX8_account_155 : lkp tX8_account 155 = some (.ldc 131, 0) := rfl
theorem kX8_account_157 : lkp tX8_account 157 = some (.invokespecial 133, 0) := rfl
theorem kX8_account_160 : lkp tX8_account 160 = some (.athrow, 0) := rfl
theorem kX8_meanDistance_0 : lkp tX8_meanDistance 0 = some (.aload_n 0, 0) := rfl
theorem kX8_meanDistance_1 : lkp tX8_meanDistance 1 = some (.getfield 10, 0) := rfl
theorem kX8_meanDistance_4 : lkp tX8_meanDistance 4 = some (.invokevirtual 303, 0) := rfl
theorem kX8_meanDistance_7 : lkp tX8_meanDistance 7 = some (.istore_n 1, 0) := rfl
theorem kX8_meanDistance_8 : lkp tX8_meanDistance 8 = some (.iload_n 1, 0) := rfl
theorem kX8_meanDistance_9 : lkp tX8_meanDistance 9 = some (.ifCond .ne 14, 23) := rfl
theorem kX8_meanDistance_12 : lkp tX8_meanDistance 12 = some (.new 319, 0) := rfl
theorem kX8_meanDistance_15 : lkp tX8_meanDistance 15 = some (.dup, 0) := rfl
theorem kX8_meanDistance_16 : lkp tX8_meanDistance 16 = some (.ldc_w 321, 0) := rfl
theorem kX8_meanDistance_19 : lkp tX8_meanDistance 19 = some (.invokespecial 323, 0) := rfl
theorem kX8_meanDistance_22 : lkp tX8_meanDistance 22 = some (.athrow, 0) := rfl
theorem kX8_meanDistance_23 : lkp tX8_meanDistance 23 = some (.aload_n 0, 0) := rfl
theorem kX8_meanDistance_24 : lkp tX8_meanDistance 24 = some (.getfield 10, 0) := rfl
theorem kX8_meanDistance_27 : lkp tX8_meanDistance 27 = some (.invokevirtual 312, 0) := rfl
theorem kX8_meanDistance_30 : lkp tX8_meanDistance 30 = some (.i2d, 0) := rfl
theorem kX8_meanDistance_31 : lkp tX8_meanDistance 31 = some (.iload_n 1, 0) := rfl
theorem kX8_meanDistance_32 : lkp tX8_meanDistance 32 = some (.i2d, 0) := rfl
theorem kX8_meanDistance_33 : lkp tX8_meanDistance 33 = some (.ddiv, 0) := rfl
theorem kX8_meanDistance_34 : lkp tX8_meanDistance 34 = some (.dreturn, 0) := rfl
theorem kX8_feed_0 : lkp tX8_feed 0 = some (.aload_n 0, 0) := rfl
theorem kX8_feed_1 : lkp tX8_feed 1 = some (.getfield 36, 0) := rfl
theorem kX8_feed_4 : lkp tX8_feed 4 = some (.getfield 172, 0) := rfl
theorem kX8_feed_7 : lkp tX8_feed 7 = some (.bipush 40, 0) := rfl
theorem kX8_feed_9 : lkp tX8_feed 9 = some (.if_icmp .lt 14, 23) := rfl
theorem kX8_feed_12 : lkp tX8_feed 12 = some (.new 58, 0) := rfl
theorem kX8_feed_15 : lkp tX8_feed 15 = some (.dup, 0) := rfl
theorem kX8_feed_16 : lkp tX8_feed 16 = some (.ldc_w 324, 0) := rfl
theorem kX8_feed_19 : lkp tX8_feed 19 = some (.invokespecial 62, 0) := rfl
theorem kX8_feed_22 : lkp tX8_feed 22 = some (.athrow, 0) := rfl
theorem kX8_feed_23 : lkp tX8_feed 23 = some (.aload_n 0, 0) := rfl
theorem kX8_feed_24 : lkp tX8_feed 24 = some (.getfield 36, 0) := rfl
theorem kX8_feed_27 : lkp tX8_feed 27 = some (.getfield 326, 0) := rfl
theorem kX8_feed_30 : lkp tX8_feed 30 = some (.aload_n 0, 0) := rfl
theorem kX8_feed_31 : lkp tX8_feed 31 = some (.getfield 36, 0) := rfl
theorem kX8_feed_34 : lkp tX8_feed 34 = some (.getfield 172, 0) := rfl
theorem kX8_feed_37 : lkp tX8_feed 37 = some (.iload_n 1, 0) := rfl
theorem kX8_feed_38 : lkp tX8_feed 38 = some (.iastore, 0) := rfl
theorem kX8_feed_39 : lkp tX8_feed 39 = some (.aload_n 0, 0) := rfl
theorem kX8_feed_40 : lkp tX8_feed 40 = some (.getfield 36, 0) := rfl
theorem kX8_feed_43 : lkp tX8_feed 43 = some (.dup, 0) := rfl
theorem kX8_feed_44 : lkp tX8_feed 44 = some (.getfield 172, 0) := rfl
theorem kX8_feed_47 : lkp tX8_feed 47 = some (.iconst 1, 0) := rfl
theorem kX8_feed_48 : lkp tX8_feed 48 = some (.iadd, 0) := rfl
theorem kX8_feed_49 : lkp tX8_feed 49 = some (.putfield 172, 0) := rfl
theorem kX8_feed_52 : lkp tX8_feed 52 = some (.aload_n 0, 0) := rfl
theorem kX8_feed_53 : lkp tX8_feed 53 = some (.getfield 36, 0) := rfl
theorem kX8_feed_56 : lkp tX8_feed 56 = some (.getfield 172, 0) := rfl
theorem kX8_feed_59 : lkp tX8_feed 59 = some (.ireturn, 0) := rfl
theorem kX8_errorPosition_0 : lkp tX8_errorPosition 0 = some (.aload_n 0, 0) := rfl
theorem kX8_errorPosition_1 : lkp tX8_errorPosition 1 = some (.getfield 48, 0) := rfl
theorem kX8_errorPosition_4 : lkp tX8_errorPosition 4 = some (.iconst (-1), 0) := rfl
theorem kX8_errorPosition_5 : lkp tX8_errorPosition 5 = some (.if_icmp .ne 14, 19) := rfl
theorem kX8_errorPosition_8 : lkp tX8_errorPosition 8 = some (.new 150, 0) := rfl
theorem kX8_errorPosition_11 : lkp tX8_errorPosition 11 = some (.dup, 0) := rfl
theorem kX8_errorPosition_12 : lkp tX8_errorPosition 12 = some (.ldc_w 329, 0) := rfl
theorem kX8_errorPosition_15 : lkp tX8_errorPosition 15 = some (.invokespecial 154, 0) := rfl
theorem kX8_errorPosition_18 : lkp tX8_errorPosition 18 = some (.athrow, 0) := rfl
theorem kX8_errorPosition_19 : lkp tX8_errorPosition 19 = some (.aload_n 0, 0) := rfl
theorem kX8_errorPosition_20 : lkp tX8_errorPosition 20 = some (.getfield 48, 0) := rfl
theorem kX8_errorPosition_23 : lkp tX8_errorPosition 23 = some (.ireturn, 0) := rfl
theorem kX8_undo_0 : lkp tX8_undo 0 = some (.aload_n 0, 0) := rfl
theorem kX8_undo_1 : lkp tX8_undo 1 = some (.getfield 22, 0) := rfl
theorem kX8_undo_4 : lkp tX8_undo 4 = some (.getfield 318, 0) := rfl
theorem kX8_undo_7 : lkp tX8_undo 7 = some (.ifCond .ne 14, 21) := rfl
theorem kX8_undo_10 : lkp tX8_undo 10 = some (.new 58, 0) := rfl
theorem kX8_undo_13 : lkp tX8_undo 13 = some (.dup, 0) := rfl
theorem kX8_undo_14 : lkp tX8_undo 14 = some (.ldc_w 331, 0) := rfl
theorem kX8_undo_17 : lkp tX8_undo 17 = some (.invokespecial 62, 0) := rfl
theorem kX8_undo_20 : lkp tX8_undo 20 = some (.athrow, 0) := rfl
theorem kX8_undo_21 : lkp tX8_undo 21 = some (.aload_n 0, 0) := rfl
theorem kX8_undo_22 : lkp tX8_undo 22 = some (.getfield 22, 0) := rfl
theorem kX8_undo_25 : lkp tX8_undo 25 = some (.aload_n 0, 0) := rfl
theorem kX8_undo_26 : lkp tX8_undo 26 = some (.getfield 10, 0) := rfl
theorem kX8_undo_29 : lkp tX8_undo 29 = some (.invokevirtual 333, 0) := rfl
theorem kX8_undo_32 : lkp tX8_undo 32 = some (.aload_n 0, 0) := rfl
theorem kX8_undo_33 : lkp tX8_undo 33 = some (.getfield 22, 0) := rfl
theorem kX8_undo_36 : lkp tX8_undo 36 = some (.getfield 318, 0) := rfl
theorem kX8_undo_39 : lkp tX8_undo 39 = some (.ireturn, 0) := rfl
theorem kX8_save_0 : lkp tX8_save 0 = some (.aload_n 0, 0) := rfl
theorem kX8_save_1 : lkp tX8_save 1 = some (.getfield 16, 0) := rfl
theorem kX8_save_4 : lkp tX8_save 4 = some (.aload_n 0, 0) := rfl
theorem kX8_save_5 : lkp tX8_save 5 = some (.getfield 10, 0) := rfl
theorem kX8_save_8 : lkp tX8_save 8 = some (.invokevirtual 336, 0) := rfl
theorem kX8_save_11 : lkp tX8_save 11 = some (.aload_n 0, 0) := rfl
theorem kX8_save_12 : lkp tX8_save 12 = some (.iconst 1, 0) := rfl
theorem kX8_save_13 : lkp tX8_save 13 = some (.putfield 40, 0) := rfl
theorem kX8_save_16 : lkp tX8_save 16 = some (.aload_n 0, 0) := rfl
theorem kX8_save_17 : lkp tX8_save 17 = some (.getfield 10, 0) := rfl
theorem kX8_save_20 : lkp tX8_save 20 = some (.invokevirtual 303, 0) := rfl
theorem kX8_save_23 : lkp tX8_save 23 = some (.ireturn, 0) := rfl
theorem kX8_restore_0 : lkp tX8_restore 0 = some (.aload_n 0, 0) := rfl
theorem kX8_restore_1 : lkp tX8_restore 1 = some (.getfield 40, 0) := rfl
theorem kX8_restore_4 : lkp tX8_restore 4 = some (.ifCond .ne 14, 18) := rfl
theorem kX8_restore_7 : lkp tX8_restore 7 = some (.new 58, 0) := rfl
theorem kX8_restore_10 : lkp tX8_restore 10 = some (.dup, 0) := rfl
theorem kX8_restore_11 : lkp tX8_restore 11 = some (.ldc_w 339, 0) := rfl
theorem kX8_restore_14 : lkp tX8_restore 14 = some (.invokespecial 62, 0) := rfl
theorem kX8_restore_17 : lkp tX8_restore 17 = some (.athrow, 0) := rfl
theorem kX8_restore_18 : lkp tX8_restore 18 = some (.aload_n 0, 0) := rfl
theorem kX8_restore_19 : lkp tX8_restore 19 = some (.getfield 10, 0) := rfl
theorem kX8_restore_22 : lkp tX8_restore 22 = some (.aload_n 0, 0) := rfl
theorem kX8_restore_23 : lkp tX8_restore 23 = some (.getfield 16, 0) := rfl
theorem kX8_restore_26 : lkp tX8_restore 26 = some (.invokevirtual 336, 0) := rfl
theorem kX8_restore_29 : lkp tX8_restore 29 = some (.aload_n 0, 0) := rfl
theorem kX8_restore_30 : lkp tX8_restore 30 = some (.getfield 22, 0) := rfl
theorem kX8_restore_33 : lkp tX8_restore 33 = some (.iconst 0, 0) := rfl
theorem kX8_restore_34 : lkp tX8_restore 34 = some (.putfield 318, 0) := rfl
theorem kX8_restore_37 : lkp tX8_restore 37 = some (.aload_n 0, 0) := rfl
theorem kX8_restore_38 : lkp tX8_restore 38 = some (.getfield 10, 0) := rfl
theorem kX8_restore_41 : lkp tX8_restore 41 = some (.invokevirtual 303, 0) := rfl
theorem kX8_restore_44 : lkp tX8_restore 44 = some (.ireturn, 0) := rfl
theorem kX8_checkSchool_0 : lkp tX8_checkSchool 0 = some (.iload_n 1, 0) := rfl
theorem kX8_checkSchool_1 : lkp tX8_checkSchool 1 = some (.ifCond .lt 14, 15) := rfl
theorem kX8_checkSchool_4 : lkp tX8_checkSchool 4 = some (.iload_n 1, 0) := rfl
theorem kX8_checkSchool_5 : lkp tX8_checkSchool 5 = some (.aload_n 0, 0) := rfl
theorem kX8_checkSchool_6 : lkp tX8_checkSchool 6 = some (.getfield 10, 0) := rfl
theorem kX8_checkSchool_9 : lkp tX8_checkSchool 9 = some (.getfield 55, 0) := rfl
theorem kX8_checkSchool_12 : lkp tX8_checkSchool 12 = some (.if_icmp .lt 14, 26) := rfl
theorem kX8_checkSchool_15 : lkp tX8_checkSchool 15 = some (.new 99, 0) := rfl
theorem kX8_checkSchool_18 : lkp tX8_checkSchool 18 = some (.dup, 0) := rfl
theorem kX8_checkSchool_19 : lkp tX8_checkSchool 19 = some (.ldc_w 341, 0) := rfl
theorem kX8_checkSchool_22 : lkp tX8_checkSchool 22 = some (.invokespecial 103, 0) := rfl
theorem kX8_checkSchool_25 : lkp tX8_checkSchool 25 = some (.athrow, 0) := rfl
theorem kX8_checkSchool_26 : lkp tX8_checkSchool 26 = some (.return_, 0) := rfl
theorem kX8_checkChild_0 : lkp tX8_checkChild 0 = some (.iload_n 1, 0) := rfl
theorem kX8_checkChild_1 : lkp tX8_checkChild 1 = some (.ifCond .lt 14, 15) := rfl
theorem kX8_checkChild_4 : lkp tX8_checkChild 4 = some (.iload_n 1, 0) := rfl
theorem kX8_checkChild_5 : lkp tX8_checkChild 5 = some (.aload_n 0, 0) := rfl
theorem kX8_checkChild_6 : lkp tX8_checkChild 6 = some (.getfield 10, 0) := rfl
theorem kX8_checkChild_9 : lkp tX8_checkChild 9 = some (.getfield 158, 0) := rfl
theorem kX8_checkChild_12 : lkp tX8_checkChild 12 = some (.if_icmp .lt 14, 26) := rfl
theorem kX8_checkChild_15 : lkp tX8_checkChild 15 = some (.new 99, 0) := rfl
theorem kX8_checkChild_18 : lkp tX8_checkChild 18 = some (.dup, 0) := rfl
theorem kX8_checkChild_19 : lkp tX8_checkChild 19 = some (.ldc_w 343, 0) := rfl
theorem kX8_checkChild_22 : lkp tX8_checkChild 22 = some (.invokespecial 103, 0) := rfl
theorem kX8_checkChild_25 : lkp tX8_checkChild 25 = some (.athrow, 0) := rfl
theorem kX8_checkChild_26 : lkp tX8_checkChild 26 = some (.return_, 0) := rfl
theorem kX8_checkRoomForChild_0 : lkp tX8_checkRoomForChild 0 = some (.aload_n 0, 0) := rfl
theorem kX8_checkRoomForChild_1 : lkp tX8_checkRoomForChild 1 = some (.getfield 10, 0) := rfl
theorem kX8_checkRoomForChild_4 : lkp tX8_checkRoomForChild 4 = some (.getfield 158, 0) := rfl
theorem kX8_checkRoomForChild_7 : lkp tX8_checkRoomForChild 7 = some (.bipush 24, 0) := rfl
theorem kX8_checkRoomForChild_9 : lkp tX8_checkRoomForChild 9 = some (.if_icmp .lt 14, 23) := rfl
theorem kX8_checkRoomForChild_12 : lkp tX8_checkRoomForChild 12 = some (.new 58, 0) := rfl
theorem kX8_checkRoomForChild_15 : lkp tX8_checkRoomForChild 15 = some (.dup, 0) := rfl
theorem kX8_checkRoomForChild_16 : lkp tX8_checkRoomForChild 16 = some (.ldc_w 345, 0) := rfl
theorem kX8_checkRoomForChild_19 : lkp tX8_checkRoomForChild 19 = some (.invokespecial 62, 0) := rfl
theorem kX8_checkRoomForChild_22 : lkp tX8_checkRoomForChild 22 = some (.athrow, 0) := rfl
theorem kX8_checkRoomForChild_23 : lkp tX8_checkRoomForChild 23 = some (.return_, 0) := rfl
theorem kX8_checkRange_0 : lkp tX8_checkRange 0 = some (.iload_n 0, 0) := rfl
theorem kX8_checkRange_1 : lkp tX8_checkRange 1 = some (.ifCond .lt 8, 9) := rfl
theorem kX8_checkRange_4 : lkp tX8_checkRange 4 = some (.iload_n 0, 0) := rfl
theorem kX8_checkRange_5 : lkp tX8_checkRange 5 = some (.iload_n 1, 0) := rfl
theorem kX8_checkRange_6 : lkp tX8_checkRange 6 = some (.if_icmp .le 14, 20) := rfl
theorem kX8_checkRange_9 : lkp tX8_checkRange 9 = some (.new 129, 0) := rfl
theorem kX8_checkRange_12 : lkp tX8_checkRange 12 = some (.dup, 0) := rfl
theorem kX8_checkRange_13 : lkp tX8_checkRange 13 = some (.ldc_w 347, 0) := rfl
theorem kX8_checkRange_16 : lkp tX8_checkRange 16 = some (.invokespecial 133, 0) := rfl
theorem kX8_checkRange_19 : lkp tX8_checkRange 19 = some (.athrow, 0) := rfl
theorem kX8_checkRange_20 : lkp tX8_checkRange 20 = some (.return_, 0) := rfl
theorem kX8_contains_0 : lkp tX8_contains 0 = some (.iload_n 0, 0) := rfl
theorem kX8_contains_1 : lkp tX8_contains 1 = some (.iload_n 1, 0) := rfl
theorem kX8_contains_2 : lkp tX8_contains 2 = some (.ishr, 0) := rfl
theorem kX8_contains_3 : lkp tX8_contains 3 = some (.iconst 1, 0) := rfl
theorem kX8_contains_4 : lkp tX8_contains 4 = some (.iand, 0) := rfl
theorem kX8_contains_5 : lkp tX8_contains 5 = some (.iconst 1, 0) := rfl
theorem kX8_contains_6 : lkp tX8_contains 6 = some (.if_icmp .ne 7, 13) := rfl
theorem kX8_contains_9 : lkp tX8_contains 9 = some (.iconst 1, 0) := rfl
theorem kX8_contains_10 : lkp tX8_contains 10 = some (.goto 4, 14) := rfl
theorem kX8_contains_13 : lkp tX8_contains 13 = some (.iconst 0, 0) := rfl
theorem kX8_contains_14 : lkp tX8_contains 14 = some (.ireturn, 0) := rfl
theorem kX9_init_0 : lkp tX9_init 0 = some (.aload_n 0, 0) := rfl
theorem kX9_init_1 : lkp tX9_init 1 = some (.invokespecial 1, 0) := rfl
theorem kX9_init_4 : lkp tX9_init 4 = some (.aload_n 0, 0) := rfl
theorem kX9_init_5 : lkp tX9_init 5 = some (.sipush 689, 0) := rfl
theorem kX9_init_8 : lkp tX9_init 8 = some (.newarray .int, 0) := rfl
theorem kX9_init_10 : lkp tX9_init 10 = some (.putfield 9, 0) := rfl
theorem kX9_init_13 : lkp tX9_init 13 = some (.aload_n 0, 0) := rfl
theorem kX9_init_14 : lkp tX9_init 14 = some (.sipush 5512, 0) := rfl
theorem kX9_init_17 : lkp tX9_init 17 = some (.newarray .int, 0) := rfl
theorem kX9_init_19 : lkp tX9_init 19 = some (.putfield 13, 0) := rfl
theorem kX9_init_22 : lkp tX9_init 22 = some (.aload_n 0, 0) := rfl
theorem kX9_init_23 : lkp tX9_init 23 = some (.sipush 689, 0) := rfl
theorem kX9_init_26 : lkp tX9_init 26 = some (.newarray .int, 0) := rfl
theorem kX9_init_28 : lkp tX9_init 28 = some (.putfield 16, 0) := rfl
theorem kX9_init_31 : lkp tX9_init 31 = some (.aload_n 0, 0) := rfl
theorem kX9_init_32 : lkp tX9_init 32 = some (.sipush 689, 0) := rfl
theorem kX9_init_35 : lkp tX9_init 35 = some (.newarray .int, 0) := rfl
theorem kX9_init_37 : lkp tX9_init 37 = some (.putfield 19, 0) := rfl
theorem kX9_init_40 : lkp tX9_init 40 = some (.aload_n 0, 0) := rfl
theorem kX9_init_41 : lkp tX9_init 41 = some (.iconst (-1), 0) := rfl
theorem kX9_init_42 : lkp tX9_init 42 = some (.putfield 22, 0) := rfl
theorem kX9_init_45 : lkp tX9_init 45 = some (.aload_n 0, 0) := rfl
theorem kX9_init_46 : lkp tX9_init 46 = some (.bipush 40, 0) := rfl
theorem kX9_init_48 : lkp tX9_init 48 = some (.newarray .char, 0) := rfl
theorem kX9_init_50 : lkp tX9_init 50 = some (.putfield 26, 0) := rfl
theorem kX9_init_53 : lkp tX9_init 53 = some (.aload_n 0, 0) := rfl
theorem kX9_init_54 : lkp tX9_init 54 = some (.iconst 4, 0) := rfl
theorem kX9_init_55 : lkp tX9_init 55 = some (.newarray .int, 0) := rfl
theorem kX9_init_57 : lkp tX9_init 57 = some (.putfield 30, 0) := rfl
theorem kX9_init_60 : lkp tX9_init 60 = some (.aload_n 0, 0) := rfl
theorem kX9_init_61 : lkp tX9_init 61 = some (.bipush 24, 0) := rfl
theorem kX9_init_63 : lkp tX9_init 63 = some (.newarray .int, 0) := rfl
theorem kX9_init_65 : lkp tX9_init 65 = some (.putfield 33, 0) := rfl
theorem kX9_init_68 : lkp tX9_init 68 = some (.aload_n 0, 0) := rfl
theorem kX9_init_69 : lkp tX9_init 69 = some (.bipush 24, 0) := rfl
theorem kX9_init_71 : lkp tX9_init 71 = some (.newarray .int, 0) := rfl
theorem kX9_init_73 : lkp tX9_init 73 = some (.putfield 36, 0) := rfl
theorem kX9_init_76 : lkp tX9_init 76 = some (.return_, 0) := rfl
theorem kX9_thrown_0 : lkp tX9_thrown 0 = some (.aload_n 0, 0) := rfl
theorem kX9_thrown_1 : lkp tX9_thrown 1 = some (.getfield 39, 0) := rfl
theorem kX9_thrown_4 : lkp tX9_thrown 4 = some (.ireturn, 0) := rfl
theorem kX9_isIn_0 : lkp tX9_isIn 0 = some (.iload_n 0, 0) := rfl
theorem kX9_isIn_1 : lkp tX9_isIn 1 = some (.iload_n 1, 0) := rfl
theorem kX9_isIn_2 : lkp tX9_isIn 2 = some (.if_icmp .lt 12, 14) := rfl
theorem kX9_isIn_5 : lkp tX9_isIn 5 = some (.iload_n 0, 0) := rfl
theorem kX9_isIn_6 : lkp tX9_isIn 6 = some (.iload_n 2, 0) := rfl
theorem kX9_isIn_7 : lkp tX9_isIn 7 = some (.if_icmp .gt 7, 14) := rfl
theorem kX9_isIn_10 : lkp tX9_isIn 10 = some (.iconst 1, 0) := rfl
theorem kX9_isIn_11 : lkp tX9_isIn 11 = some (.goto 4, 15) := rfl
theorem kX9_isIn_14 : lkp tX9_isIn 14 = some (.iconst 0, 0) := rfl
theorem kX9_isIn_15 : lkp tX9_isIn 15 = some (.ireturn, 0) := rfl
theorem kX9_has_0 : lkp tX9_has 0 = some (.iload_n 0, 0) := rfl
theorem kX9_has_1 : lkp tX9_has 1 = some (.iload_n 1, 0) := rfl
theorem kX9_has_2 : lkp tX9_has 2 = some (.ishr, 0) := rfl
theorem kX9_has_3 : lkp tX9_has 3 = some (.iconst 1, 0) := rfl
theorem kX9_has_4 : lkp tX9_has 4 = some (.iand, 0) := rfl
theorem kX9_has_5 : lkp tX9_has 5 = some (.iconst 1, 0) := rfl
theorem kX9_has_6 : lkp tX9_has 6 = some (.if_icmp .ne 7, 13) := rfl
theorem kX9_has_9 : lkp tX9_has 9 = some (.iconst 1, 0) := rfl
theorem kX9_has_10 : lkp tX9_has 10 = some (.goto 4, 14) := rfl
theorem kX9_has_13 : lkp tX9_has 13 = some (.iconst 0, 0) := rfl
theorem kX9_has_14 : lkp tX9_has 14 = some (.ireturn, 0) := rfl
theorem kX9_fail_0 : lkp tX9_fail 0 = some (.aload_n 0, 0) := rfl
theorem kX9_fail_1 : lkp tX9_fail 1 = some (.iload_n 1, 0) := rfl
theorem kX9_fail_2 : lkp tX9_fail 2 = some (.putfield 39, 0) := rfl
theorem kX9_fail_5 : lkp tX9_fail 5 = some (.iconst 0, 0) := rfl
theorem kX9_fail_6 : lkp tX9_fail 6 = some (.ireturn, 0) := rfl
theorem kX9_remember_0 : lkp tX9_remember 0 = some (.aload_n 0, 0) := rfl
theorem kX9_remember_1 : lkp tX9_remember 1 = some (.getfield 42, 0) := rfl
theorem kX9_remember_4 : lkp tX9_remember 4 = some (.bipush 8, 0) := rfl
theorem kX9_remember_6 : lkp tX9_remember 6 = some (.if_icmp .ne 49, 55) := rfl
theorem kX9_remember_9 : lkp tX9_remember 9 = some (.aload_n 0, 0) := rfl
theorem kX9_remember_10 : lkp tX9_remember 10 = some (.dup, 0) := rfl
theorem kX9_remember_11 : lkp tX9_remember 11 = some (.getfield 42, 0) := rfl
theorem kX9_remember_14 : lkp tX9_remember 14 = some (.iconst 1, 0) := rfl
theorem kX9_remember_15 : lkp tX9_remember 15 = some (.isub, 0) := rfl
theorem kX9_remember_16 : lkp tX9_remember 16 = some (.putfield 42, 0) := rfl
theorem kX9_remember_19 : lkp tX9_remember 19 = some (.iconst 0, 0) := rfl
theorem kX9_remember_20 : lkp tX9_remember 20 = some (.istore_n 1, 0) := rfl
theorem kX9_remember_21 : lkp tX9_remember 21 = some (.iload_n 1, 0) := rfl
theorem kX9_remember_22 : lkp tX9_remember 22 = some (.sipush 689, 0) := rfl
theorem kX9_remember_25 : lkp tX9_remember 25 = some (.aload_n 0, 0) := rfl
theorem kX9_remember_26 : lkp tX9_remember 26 = some (.getfield 42, 0) := rfl
theorem kX9_remember_29 : lkp tX9_remember 29 = some (.imul, 0) := rfl
theorem kX9_remember_30 : lkp tX9_remember 30 = some (.if_icmp .ge 25, 55) := rfl
theorem kX9_remember_33 : lkp tX9_remember 33 = some (.aload_n 0, 0) := rfl
theorem kX9_remember_34 : lkp tX9_remember 34 = some (.getfield 13, 0) := rfl
theorem kX9_remember_37 : lkp tX9_remember 37 = some (.iload_n 1, 0) := rfl
theorem kX9_remember_38 : lkp tX9_remember 38 = some (.aload_n 0, 0) := rfl
theorem kX9_remember_39 : lkp tX9_remember 39 = some (.getfield 13, 0) := rfl
theorem kX9_remember_42 : lkp tX9_remember 42 = some (.iload_n 1, 0) := rfl
theorem kX9_remember_43 : lkp tX9_remember 43 = some (.sipush 689, 0) := rfl
theorem kX9_remember_46 : lkp tX9_remember 46 = some (.iadd, 0) := rfl
theorem kX9_remember_47 : lkp tX9_remember 47 = some (.iaload, 0) := rfl
theorem kX9_remember_48 : lkp tX9_remember 48 = some (.iastore, 0) := rfl
theorem kX9_remember_49 : lkp tX9_remember 49 = some (.iinc 1 1, 0) := rfl
theorem kX9_remember_52 : lkp tX9_remember 52 = some (.goto (-31), 21) := rfl
theorem kX9_remember_55 : lkp tX9_remember 55 = some (.iconst 0, 0) := rfl
theorem kX9_remember_56 : lkp tX9_remember 56 = some (.istore_n 1, 0) := rfl
theorem kX9_remember_57 : lkp tX9_remember 57 = some (.iload_n 1, 0) := rfl
theorem kX9_remember_58 : lkp tX9_remember 58 = some (.sipush 689, 0) := rfl
theorem kX9_remember_61 : lkp tX9_remember 61 = some (.if_icmp .ge 30, 91) := rfl
theorem kX9_remember_64 : lkp tX9_remember 64 = some (.aload_n 0, 0) := rfl
theorem kX9_remember_65 : lkp tX9_remember 65 = some (.getfield 13, 0) := rfl
theorem kX9_remember_68 : lkp tX9_remember 68 = some (.sipush 689, 0) := rfl
theorem kX9_remember_71 : lkp tX9_remember 71 = some (.aload_n 0, 0) := rfl
theorem kX9_remember_72 : lkp tX9_remember 72 = some (.getfield 42, 0) := rfl
theorem kX9_remember_75 : lkp tX9_remember 75 = some (.imul, 0) := rfl
theorem kX9_remember_76 : lkp tX9_remember 76 = some (.iload_n 1, 0) := rfl
theorem kX9_remember_77 : lkp tX9_remember 77 = some (.iadd, 0) := rfl
theorem kX9_remember_78 : lkp tX9_remember 78 = some (.aload_n 0, 0) := rfl
theorem kX9_remember_79 : lkp tX9_remember 79 = some (.getfield 9, 0) := rfl
theorem kX9_remember_82 : lkp tX9_remember 82 = some (.iload_n 1, 0) := rfl
theorem kX9_remember_83 : lkp tX9_remember 83 = some (.iaload, 0) := rfl
theorem kX9_remember_84 : lkp tX9_remember 84 = some (.iastore, 0) := rfl
theorem kX9_remember_85 : lkp tX9_remember 85 = some (.iinc 1 1, 0) := rfl
theorem kX9_remember_88 : lkp tX9_remember 88 = some (.goto (-31), 57) := rfl
theorem kX9_remember_91 : lkp tX9_remember 91 = some (.aload_n 0, 0) := rfl
theorem kX9_remember_92 : lkp tX9_remember 92 = some (.dup, 0) := rfl
theorem kX9_remember_93 : lkp tX9_remember 93 = some (.getfield 42, 0) := rfl
theorem kX9_remember_96 : lkp tX9_remember 96 = some (.iconst 1, 0) := rfl
theorem kX9_remember_97 : lkp tX9_remember 97 = some (.iadd, 0) := rfl
theorem kX9_remember_98 : lkp tX9_remember 98 = some (.putfield 42, 0) := rfl
theorem kX9_remember_101 : lkp tX9_remember 101 = some (.return_, 0) := rfl
theorem kX9_s_0 : lkp tX9_s 0 = some (.aload_n 0, 0) := rfl
theorem kX9_s_1 : lkp tX9_s 1 = some (.getfield 9, 0) := rfl
theorem kX9_s_4 : lkp tX9_s 4 = some (.iconst 3, 0) := rfl
theorem kX9_s_5 : lkp tX9_s 5 = some (.bipush 7, 0) := rfl
theorem kX9_s_7 : lkp tX9_s 7 = some (.iload_n 1, 0) := rfl
theorem kX9_s_8 : lkp tX9_s 8 = some (.imul, 0) := rfl
theorem kX9_s_9 : lkp tX9_s 9 = some (.iadd, 0) := rfl
theorem kX9_s_10 : lkp tX9_s 10 = some (.iload_n 2, 0) := rfl
theorem kX9_s_11 : lkp tX9_s 11 = some (.iadd, 0) := rfl
theorem kX9_s_12 : lkp tX9_s 12 = some (.iaload, 0) := rfl
theorem kX9_s_13 : lkp tX9_s 13 = some (.ireturn, 0) := rfl
theorem kX9_setS_0 : lkp tX9_setS 0 = some (.aload_n 0, 0) := rfl
theorem kX9_setS_1 : lkp tX9_setS 1 = some (.getfield 9, 0) := rfl
theorem kX9_setS_4 : lkp tX9_setS 4 = some (.iconst 3, 0) := rfl
theorem kX9_setS_5 : lkp tX9_setS 5 = some (.bipush 7, 0) := rfl
theorem kX9_setS_7 : lkp tX9_setS 7 = some (.iload_n 1, 0) := rfl
theorem kX9_setS_8 : lkp tX9_setS 8 = some (.imul, 0) := rfl
theorem kX9_setS_9 : lkp tX9_setS 9 = some (.iadd, 0) := rfl
theorem kX9_setS_10 : lkp tX9_setS 10 = some (.iload_n 2, 0) := rfl
theorem kX9_setS_11 : lkp tX9_setS 11 = some (.iadd, 0) := rfl
theorem kX9_setS_12 : lkp tX9_setS 12 = some (.iload_n 3, 0) := rfl
theorem kX9_setS_13 : lkp tX9_setS 13 = some (.iastore, 0) := rfl
theorem kX9_setS_14 : lkp tX9_setS 14 = some (.return_, 0) := rfl
theorem kX9_c_0 : lkp tX9_c 0 = some (.aload_n 0, 0) := rfl
theorem kX9_c_1 : lkp tX9_c 1 = some (.getfield 9, 0) := rfl
theorem kX9_c_4 : lkp tX9_c 4 = some (.bipush 57, 0) := rfl
theorem kX9_c_6 : lkp tX9_c 6 = some (.bipush 13, 0) := rfl
theorem kX9_c_8 : lkp tX9_c 8 = some (.iload_n 1, 0) := rfl
theorem kX9_c_9 : lkp tX9_c 9 = some (.imul, 0) := rfl
theorem kX9_c_10 : lkp tX9_c 10 = some (.iadd, 0) := rfl
theorem kX9_c_11 : lkp tX9_c 11 = some (.iload_n 2, 0) := rfl
theorem kX9_c_12 : lkp tX9_c 12 = some (.iadd, 0) := rfl
theorem kX9_c_13 : lkp tX9_c 13 = some (.iaload, 0) := rfl
theorem kX9_c_14 : lkp tX9_c 14 = some (.ireturn, 0) := rfl
theorem kX9_setC_0 : lkp tX9_setC 0 = some (.aload_n 0, 0) := rfl
theorem kX9_setC_1 : lkp tX9_setC 1 = some (.getfield 9, 0) := rfl
theorem kX9_setC_4 : lkp tX9_setC 4 = some (.bipush 57, 0) := rfl
theorem kX9_setC_6 : lkp tX9_setC 6 = some (.bipush 13, 0) := rfl
theorem kX9_setC_8 : lkp tX9_setC 8 = some (.iload_n 1, 0) := rfl
theorem kX9_setC_9 : lkp tX9_setC 9 = some (.imul, 0) := rfl
theorem kX9_setC_10 : lkp tX9_setC 10 = some (.iadd, 0) := rfl
theorem kX9_setC_11 : lkp tX9_setC 11 = some (.iload_n 2, 0) := rfl
theorem kX9_setC_12 : lkp tX9_setC 12 = some (.iadd, 0) := rfl
theorem kX9_setC_13 : lkp tX9_setC 13 = some (.iload_n 3, 0) := rfl
theorem kX9_setC_14 : lkp tX9_setC 14 = some (.iastore, 0) := rfl
theorem kX9_setC_15 : lkp tX9_setC 15 = some (.return_, 0) := rfl
theorem kX9_isSchool_0 : lkp tX9_isSchool 0 = some (.iload_n 1, 0) := rfl
theorem kX9_isSchool_1 : lkp tX9_isSchool 1 = some (.iconst 0, 0) := rfl
theorem kX9_isSchool_2 : lkp tX9_isSchool 2 = some (.aload_n 0, 0) := rfl
theorem kX9_isSchool_3 : lkp tX9_isSchool 3 = some (.getfield 9, 0) := rfl
theorem kX9_isSchool_6 : lkp tX9_isSchool 6 = some (.iconst 0, 0) := rfl
theorem kX9_isSchool_7 : lkp tX9_isSchool 7 = some (.iaload, 0) := rfl
theorem kX9_isSchool_8 : lkp tX9_isSchool 8 = some (.iconst 1, 0) := rfl
theorem kX9_isSchool_9 : lkp tX9_isSchool 9 = some (.isub, 0) := rfl
theorem kX9_isSchool_10 : lkp tX9_isSchool 10 = some (.invokestatic 45, 0) := rfl
theorem kX9_isSchool_13 : lkp tX9_isSchool 13 = some (.ireturn, 0) := rfl
theorem kX9_isChild_0 : lkp tX9_isChild 0 = some (.iload_n 1, 0) := rfl
theorem kX9_isChild_1 : lkp tX9_isChild 1 = some (.iconst 0, 0) := rfl
theorem kX9_isChild_2 : lkp tX9_isChild 2 = some (.aload_n 0, 0) := rfl
theorem kX9_isChild_3 : lkp tX9_isChild 3 = some (.getfield 9, 0) := rfl
theorem kX9_isChild_6 : lkp tX9_isChild 6 = some (.iconst 1, 0) := rfl
theorem kX9_isChild_7 : lkp tX9_isChild 7 = some (.iaload, 0) := rfl
theorem kX9_isChild_8 : lkp tX9_isChild 8 = some (.iconst 1, 0) := rfl
theorem kX9_isChild_9 : lkp tX9_isChild 9 = some (.isub, 0) := rfl
theorem kX9_isChild_10 : lkp tX9_isChild 10 = some (.invokestatic 45, 0) := rfl
theorem kX9_isChild_13 : lkp tX9_isChild 13 = some (.ireturn, 0) := rfl
theorem kX9_far_0 : lkp tX9_far 0 = some (.iload_n 0, 0) := rfl
theorem kX9_far_1 : lkp tX9_far 1 = some (.iload_n 1, 0) := rfl
theorem kX9_far_2 : lkp tX9_far 2 = some (.if_icmp .ge 9, 11) := rfl
theorem kX9_far_5 : lkp tX9_far 5 = some (.iload_n 1, 0) := rfl
theorem kX9_far_6 : lkp tX9_far 6 = some (.iload_n 0, 0) := rfl
theorem kX9_far_7 : lkp tX9_far 7 = some (.isub, 0) := rfl
theorem kX9_far_8 : lkp tX9_far 8 = some (.goto 6, 14) := rfl
theorem kX9_far_11 : lkp tX9_far 11 = some (.iload_n 0, 0) := rfl
theorem kX9_far_12 : lkp tX9_far 12 = some (.iload_n 1, 0) := rfl
theorem kX9_far_13 : lkp tX9_far 13 = some (.isub, 0) := rfl
theorem kX9_far_14 : lkp tX9_far 14 = some (.ireturn, 0) := rfl
theorem kX9_distance_0 : lkp tX9_distance 0 = some (.aload_n 0, 0) := rfl
theorem kX9_distance_1 : lkp tX9_distance 1 = some (.iload_n 1, 0) := rfl
theorem kX9_distance_2 : lkp tX9_distance 2 = some (.iconst 0, 0) := rfl
theorem kX9_distance_3 : lkp tX9_distance 3 = some (.invokevirtual 49, 0) := rfl
theorem kX9_distance_6 : lkp tX9_distance 6 = some (.aload_n 0, 0) := rfl
theorem kX9_distance_7 : lkp tX9_distance 7 = some (.iload_n 2, 0) := rfl
theorem kX9_distance_8 : lkp tX9_distance 8 = some (.iconst 0, 0) := rfl
theorem kX9_distance_9 : lkp tX9_distance 9 = some (.invokevirtual 53, 0) := rfl
theorem kX9_distance_12 : lkp tX9_distance 12 = some (.invokestatic 56, 0) := rfl
theorem kX9_distance_15 : lkp tX9_distance 15 = some (.aload_n 0, 0) := rfl
theorem kX9_distance_16 : lkp tX9_distance 16 = some (.iload_n 1, 0) := rfl
theorem kX9_distance_17 : lkp tX9_distance 17 = some (.iconst 1, 0) := rfl
theorem kX9_distance_18 : lkp tX9_distance 18 = some (.invokevirtual 49, 0) := rfl
theorem kX9_distance_21 : lkp tX9_distance 21 = some (.aload_n 0, 0) := rfl
theorem kX9_distance_22 : lkp tX9_distance 22 = some (.iload_n 2, 0) := rfl
theorem kX9_distance_23 : lkp tX9_distance 23 = some (.iconst 1, 0) := rfl
theorem kX9_distance_24 : lkp tX9_distance 24 = some (.invokevirtual 53, 0) := rfl
theorem kX9_distance_27 : lkp tX9_distance 27 = some (.invokestatic 56, 0) := rfl
theorem kX9_distance_30 : lkp tX9_distance 30 = some (.iadd, 0) := rfl
theorem kX9_distance_31 : lkp tX9_distance 31 = some (.ireturn, 0) := rfl
theorem kX9_isNear_0 : lkp tX9_isNear 0 = some (.aload_n 0, 0) := rfl
theorem kX9_isNear_1 : lkp tX9_isNear 1 = some (.iload_n 1, 0) := rfl
theorem kX9_isNear_2 : lkp tX9_isNear 2 = some (.iload_n 2, 0) := rfl
theorem kX9_isNear_3 : lkp tX9_isNear 3 = some (.invokevirtual 59, 0) := rfl
theorem kX9_isNear_6 : lkp tX9_isNear 6 = some (.aload_n 0, 0) := rfl
theorem kX9_isNear_7 : lkp tX9_isNear 7 = some (.iload_n 2, 0) := rfl
theorem kX9_isNear_8 : lkp tX9_isNear 8 = some (.iconst 3, 0) := rfl
theorem kX9_isNear_9 : lkp tX9_isNear 9 = some (.invokevirtual 53, 0) := rfl
theorem kX9_isNear_12 : lkp tX9_isNear 12 = some (.if_icmp .gt 7, 19) := rfl
theorem kX9_isNear_15 : lkp tX9_isNear 15 = some (.iconst 1, 0) := rfl
theorem kX9_isNear_16 : lkp tX9_isNear 16 = some (.goto 4, 20) := rfl
theorem kX9_isNear_19 : lkp tX9_isNear 19 = some (.iconst 0, 0) := rfl
theorem kX9_isNear_20 : lkp tX9_isNear 20 = some (.ireturn, 0) := rfl
theorem kX9_isSibling_0 : lkp tX9_isSibling 0 = some (.aload_n 0, 0) := rfl
theorem kX9_isSibling_1 : lkp tX9_isSibling 1 = some (.getfield 9, 0) := rfl
theorem kX9_isSibling_4 : lkp tX9_isSibling 4 = some (.bipush 45, 0) := rfl
theorem kX9_isSibling_6 : lkp tX9_isSibling 6 = some (.aload_n 0, 0) := rfl
theorem kX9_isSibling_7 : lkp tX9_isSibling 7 = some (.iload_n 1, 0) := rfl
theorem kX9_isSibling_8 : lkp tX9_isSibling 8 = some (.iconst 2, 0) := rfl
theorem kX9_isSibling_9 : lkp tX9_isSibling 9 = some (.invokevirtual 49, 0) := rfl
theorem kX9_isSibling_12 : lkp tX9_isSibling 12 = some (.iadd, 0) := rfl
theorem kX9_isSibling_13 : lkp tX9_isSibling 13 = some (.iaload, 0) := rfl
theorem kX9_isSibling_14 : lkp tX9_isSibling 14 = some (.iload_n 2, 0) := rfl
theorem kX9_isSibling_15 : lkp tX9_isSibling 15 = some (.invokestatic 62, 0) := rfl
theorem kX9_isSibling_18 : lkp tX9_isSibling 18 = some (.ifCond .ne 17, 35) := rfl
theorem kX9_isSibling_21 : lkp tX9_isSibling 21 = some (.aload_n 0, 0) := rfl
theorem kX9_isSibling_22 : lkp tX9_isSibling 22 = some (.iload_n 1, 0) := rfl
theorem kX9_isSibling_23 : lkp tX9_isSibling 23 = some (.bipush 11, 0) := rfl
theorem kX9_isSibling_25 : lkp tX9_isSibling 25 = some (.invokevirtual 49, 0) := rfl
theorem kX9_isSibling_28 : lkp tX9_isSibling 28 = some (.iload_n 2, 0) := rfl
theorem kX9_isSibling_29 : lkp tX9_isSibling 29 = some (.invokestatic 62, 0) := rfl
theorem kX9_isSibling_32 : lkp tX9_isSibling 32 = some (.ifCond .eq 7, 39) := rfl
theorem kX9_isSibling_35 : lkp tX9_isSibling 35 = some (.iconst 1, 0) := rfl
theorem kX9_isSibling_36 : lkp tX9_isSibling 36 = some (.goto 4, 40) := rfl
theorem kX9_isSibling_39 : lkp tX9_isSibling 39 = some (.iconst 0, 0) := rfl
theorem kX9_isSibling_40 : lkp tX9_isSibling 40 = some (.ireturn, 0) := rfl
theorem kX9_classAt_0 : lkp tX9_classAt 0 = some (.aload_n 0, 0) := rfl
theorem kX9_classAt_1 : lkp tX9_classAt 1 = some (.iload_n 1, 0) := rfl
theorem kX9_classAt_2 : lkp tX9_classAt 2 = some (.iconst 4, 0) := rfl
theorem kX9_classAt_3 : lkp tX9_classAt 3 = some (.invokevirtual 49, 0) := rfl
theorem kX9_classAt_6 : lkp tX9_classAt 6 = some (.iload_n 2, 0) := rfl
theorem kX9_classAt_7 : lkp tX9_classAt 7 = some (.if_icmp .ne 5, 12) := rfl
theorem kX9_classAt_10 : lkp tX9_classAt 10 = some (.iconst 0, 0) := rfl
theorem kX9_classAt_11 : lkp tX9_classAt 11 = some (.ireturn, 0) := rfl
theorem kX9_classAt_12 : lkp tX9_classAt 12 = some (.aload_n 0, 0) := rfl
theorem kX9_classAt_13 : lkp tX9_classAt 13 = some (.iload_n 1, 0) := rfl
theorem kX9_classAt_14 : lkp tX9_classAt 14 = some (.iload_n 2, 0) := rfl
theorem kX9_classAt_15 : lkp tX9_classAt 15 = some (.invokevirtual 66, 0) := rfl
theorem kX9_classAt_18 : lkp tX9_classAt 18 = some (.ifCond .eq 24, 42) := rfl
theorem kX9_classAt_21 : lkp tX9_classAt 21 = some (.aload_n 0, 0) := rfl
theorem kX9_classAt_22 : lkp tX9_classAt 22 = some (.iload_n 2, 0) := rfl
theorem kX9_classAt_23 : lkp tX9_classAt 23 = some (.iconst 4, 0) := rfl
theorem kX9_classAt_24 : lkp tX9_classAt 24 = some (.invokevirtual 53, 0) := rfl
theorem kX9_classAt_27 : lkp tX9_classAt 27 = some (.iconst 1, 0) := rfl
theorem kX9_classAt_28 : lkp tX9_classAt 28 = some (.if_icmp .eq 12, 40) := rfl
theorem kX9_classAt_31 : lkp tX9_classAt 31 = some (.aload_n 0, 0) := rfl
theorem kX9_classAt_32 : lkp tX9_classAt 32 = some (.iload_n 1, 0) := rfl
theorem kX9_classAt_33 : lkp tX9_classAt 33 = some (.iload_n 2, 0) := rfl
theorem kX9_classAt_34 : lkp tX9_classAt 34 = some (.invokevirtual 69, 0) := rfl
theorem kX9_classAt_37 : lkp tX9_classAt 37 = some (.ifCond .eq 5, 42) := rfl
theorem kX9_classAt_40 : lkp tX9_classAt 40 = some (.iconst 1, 0) := rfl
theorem kX9_classAt_41 : lkp tX9_classAt 41 = some (.ireturn, 0) := rfl
theorem kX9_classAt_42 : lkp tX9_classAt 42 = some (.aload_n 0, 0) := rfl
theorem kX9_classAt_43 : lkp tX9_classAt 43 = some (.iload_n 1, 0) := rfl
theorem kX9_classAt_44 : lkp tX9_classAt 44 = some (.iload_n 2, 0) := rfl
theorem kX9_classAt_45 : lkp tX9_classAt 45 = some (.invokevirtual 69, 0) := rfl
theorem kX9_classAt_48 : lkp tX9_classAt 48 = some (.ifCond .eq 7, 55) := rfl
theorem kX9_classAt_51 : lkp tX9_classAt 51 = some (.iconst 2, 0) := rfl
theorem kX9_classAt_52 : lkp tX9_classAt 52 = some (.goto 17, 69) := rfl
theorem kX9_classAt_55 : lkp tX9_classAt 55 = some (.aload_n 0, 0) := rfl
theorem kX9_classAt_56 : lkp tX9_classAt 56 = some (.iload_n 1, 0) := rfl
theorem kX9_classAt_57 : lkp tX9_classAt 57 = some (.iload_n 2, 0) := rfl
theorem kX9_classAt_58 : lkp tX9_classAt 58 = some (.invokevirtual 66, 0) := rfl
theorem kX9_classAt_61 : lkp tX9_classAt 61 = some (.ifCond .eq 7, 68) := rfl
theorem kX9_classAt_64 : lkp tX9_classAt 64 = some (.iconst 3, 0) := rfl
theorem kX9_classAt_65 : lkp tX9_classAt 65 = some (.goto 4, 69) := rfl
theorem kX9_classAt_68 : lkp tX9_classAt 68 = some (.iconst 4, 0) := rfl
theorem kX9_classAt_69 : lkp tX9_classAt 69 = some (.ireturn, 0) := rfl
theorem kX9_isBetter_0 : lkp tX9_isBetter 0 = some (.aload_n 0, 0) := rfl
theorem kX9_isBetter_1 : lkp tX9_isBetter 1 = some (.iload_n 1, 0) := rfl
theorem kX9_isBetter_2 : lkp tX9_isBetter 2 = some (.iload_n 3, 0) := rfl
theorem kX9_isBetter_3 : lkp tX9_isBetter 3 = some (.invokevirtual 72, 0) := rfl
theorem kX9_isBetter_6 : lkp tX9_isBetter 6 = some (.istore 4, 0) := rfl
theorem kX9_isBetter_8 : lkp tX9_isBetter 8 = some (.aload_n 0, 0) := rfl
theorem kX9_isBetter_9 : lkp tX9_isBetter 9 = some (.iload_n 2, 0) := rfl
theorem kX9_isBetter_10 : lkp tX9_isBetter 10 = some (.iload_n 3, 0) := rfl
theorem kX9_isBetter_11 : lkp tX9_isBetter 11 = some (.invokevirtual 72, 0) := rfl
theorem kX9_isBetter_14 : lkp tX9_isBetter 14 = some (.istore 5, 0) := rfl
theorem kX9_isBetter_16 : lkp tX9_isBetter 16 = some (.iload 4, 0) := rfl
theorem kX9_isBetter_18 : lkp tX9_isBetter 18 = some (.iload 5, 0) := rfl
theorem kX9_isBetter_20 : lkp tX9_isBetter 20 = some (.if_icmp .eq 16, 36) := rfl
theorem kX9_isBetter_23 : lkp tX9_isBetter 23 = some (.iload 4, 0) := rfl
theorem kX9_isBetter_25 : lkp tX9_isBetter 25 = some (.iload 5, 0) := rfl
theorem kX9_isBetter_27 : lkp tX9_isBetter 27 = some (.if_icmp .ge 7, 34) := rfl
theorem kX9_isBetter_30 : lkp tX9_isBetter 30 = some (.iconst 1, 0) := rfl
theorem kX9_isBetter_31 : lkp tX9_isBetter 31 = some (.goto 4, 35) := rfl
theorem kX9_isBetter_34 : lkp tX9_isBetter 34 = some (.iconst 0, 0) := rfl
theorem kX9_isBetter_35 : lkp tX9_isBetter 35 = some (.ireturn, 0) := rfl
theorem kX9_isBetter_36 : lkp tX9_isBetter 36 = some (.aload_n 0, 0) := rfl
theorem kX9_isBetter_37 : lkp tX9_isBetter 37 = some (.iload_n 1, 0) := rfl
theorem kX9_isBetter_38 : lkp tX9_isBetter 38 = some (.iload_n 3, 0) := rfl
theorem kX9_isBetter_39 : lkp tX9_isBetter 39 = some (.invokevirtual 59, 0) := rfl
theorem kX9_isBetter_42 : lkp tX9_isBetter 42 = some (.aload_n 0, 0) := rfl
theorem kX9_isBetter_43 : lkp tX9_isBetter 43 = some (.iload_n 2, 0) := rfl
theorem kX9_isBetter_44 : lkp tX9_isBetter 44 = some (.iload_n 3, 0) := rfl
theorem kX9_isBetter_45 : lkp tX9_isBetter 45 = some (.invokevirtual 59, 0) := rfl
theorem kX9_isBetter_48 : lkp tX9_isBetter 48 = some (.isub, 0) := rfl
theorem kX9_isBetter_49 : lkp tX9_isBetter 49 = some (.istore 6, 0) := rfl
theorem kX9_isBetter_51 : lkp tX9_isBetter 51 = some (.iload 6, 0) := rfl
theorem kX9_isBetter_53 : lkp tX9_isBetter 53 = some (.ifCond .eq 14, 67) := rfl
theorem kX9_isBetter_56 : lkp tX9_isBetter 56 = some (.iload 6, 0) := rfl
theorem kX9_isBetter_58 : lkp tX9_isBetter 58 = some (.ifCond .ge 7, 65) := rfl
theorem kX9_isBetter_61 : lkp tX9_isBetter 61 = some (.iconst 1, 0) := rfl
theorem kX9_isBetter_62 : lkp tX9_isBetter 62 = some (.goto 4, 66) := rfl
theorem kX9_isBetter_65 : lkp tX9_isBetter 65 = some (.iconst 0, 0) := rfl
theorem kX9_isBetter_66 : lkp tX9_isBetter 66 = some (.ireturn, 0) := rfl
theorem kX9_isBetter_67 : lkp tX9_isBetter 67 = some (.aload_n 0, 0) := rfl
theorem kX9_isBetter_68 : lkp tX9_isBetter 68 = some (.iload_n 1, 0) := rfl
theorem kX9_isBetter_69 : lkp tX9_isBetter 69 = some (.iconst 3, 0) := rfl
theorem kX9_isBetter_70 : lkp tX9_isBetter 70 = some (.invokevirtual 49, 0) := rfl
theorem kX9_isBetter_73 : lkp tX9_isBetter 73 = some (.aload_n 0, 0) := rfl
theorem kX9_isBetter_74 : lkp tX9_isBetter 74 = some (.iload_n 2, 0) := rfl
theorem kX9_isBetter_75 : lkp tX9_isBetter 75 = some (.iconst 3, 0) := rfl
theorem kX9_isBetter_76 : lkp tX9_isBetter 76 = some (.invokevirtual 49, 0) := rfl
theorem kX9_isBetter_79 : lkp tX9_isBetter 79 = some (.if_icmp .eq 26, 105) := rfl
theorem kX9_isBetter_82 : lkp tX9_isBetter 82 = some (.aload_n 0, 0) := rfl
theorem kX9_isBetter_83 : lkp tX9_isBetter 83 = some (.iload_n 1, 0) := rfl
theorem kX9_isBetter_84 : lkp tX9_isBetter 84 = some (.iconst 3, 0) := rfl
theorem kX9_isBetter_85 : lkp tX9_isBetter 85 = some (.invokevirtual 49, 0) := rfl
theorem kX9_isBetter_88 : lkp tX9_isBetter 88 = some (.aload_n 0, 0) := rfl
theorem kX9_isBetter_89 : lkp tX9_isBetter 89 = some (.iload_n 2, 0) := rfl
theorem kX9_isBetter_90 : lkp tX9_isBetter 90 = some (.iconst 3, 0) := rfl
theorem kX9_isBetter_91 : lkp tX9_isBetter 91 = some (.invokevirtual 49, 0) := rfl
theorem kX9_isBetter_94 : lkp tX9_isBetter 94 = some (.if_icmp .ge 7, 101) := rfl
theorem kX9_isBetter_97 : lkp tX9_isBetter 97 = some (.iconst 1, 0) := rfl
theorem kX9_isBetter_98 : lkp tX9_isBetter 98 = some (.goto 17, 115) := rfl
theorem kX9_isBetter_101 : lkp tX9_isBetter 101 = some (.iconst 0, 0) := rfl
theorem kX9_isBetter_102 : lkp tX9_isBetter 102 = some (.goto 13, 115) := rfl
theorem kX9_isBetter_105 : lkp tX9_isBetter 105 = some (.iload_n 1, 0) := rfl
theorem kX9_isBetter_106 : lkp tX9_isBetter 106 = some (.iload_n 2, 0) := rfl
theorem kX9_isBetter_107 : lkp tX9_isBetter 107 = some (.if_icmp .ge 7, 114) := rfl
theorem kX9_isBetter_110 : lkp tX9_isBetter 110 = some (.iconst 1, 0) := rfl
theorem kX9_isBetter_111 : lkp tX9_isBetter 111 = some (.goto 4, 115) := rfl
theorem kX9_isBetter_114 : lkp tX9_isBetter 114 = some (.iconst 0, 0) := rfl
theorem kX9_isBetter_115 : lkp tX9_isBetter 115 = some (.ireturn, 0) := rfl
theorem kX9_placeOf_0 : lkp tX9_placeOf 0 = some (.iconst 0, 0) := rfl
theorem kX9_placeOf_1 : lkp tX9_placeOf 1 = some (.istore_n 3, 0) := rfl
theorem kX9_placeOf_2 : lkp tX9_placeOf 2 = some (.iload_n 3, 0) := rfl
theorem kX9_placeOf_3 : lkp tX9_placeOf 3 = some (.aload_n 0, 0) := rfl
theorem kX9_placeOf_4 : lkp tX9_placeOf 4 = some (.iload_n 1, 0) := rfl
theorem kX9_placeOf_5 : lkp tX9_placeOf 5 = some (.iconst 5, 0) := rfl
theorem kX9_placeOf_6 : lkp tX9_placeOf 6 = some (.invokevirtual 49, 0) := rfl
theorem kX9_placeOf_9 : lkp tX9_placeOf 9 = some (.if_icmp .ge 24, 33) := rfl
theorem kX9_placeOf_12 : lkp tX9_placeOf 12 = some (.aload_n 0, 0) := rfl
theorem kX9_placeOf_13 : lkp tX9_placeOf 13 = some (.iload_n 1, 0) := rfl
theorem kX9_placeOf_14 : lkp tX9_placeOf 14 = some (.bipush 6, 0) := rfl
theorem kX9_placeOf_16 : lkp tX9_placeOf 16 = some (.iload_n 3, 0) := rfl
theorem kX9_placeOf_17 : lkp tX9_placeOf 17 = some (.iadd, 0) := rfl
theorem kX9_placeOf_18 : lkp tX9_placeOf 18 = some (.invokevirtual 49, 0) := rfl
theorem kX9_placeOf_21 : lkp tX9_placeOf 21 = some (.iload_n 2, 0) := rfl
theorem kX9_placeOf_22 : lkp tX9_placeOf 22 = some (.if_icmp .ne 5, 27) := rfl
theorem kX9_placeOf_25 : lkp tX9_placeOf 25 = some (.iload_n 3, 0) := rfl
theorem kX9_placeOf_26 : lkp tX9_placeOf 26 = some (.ireturn, 0) := rfl
theorem kX9_placeOf_27 : lkp tX9_placeOf 27 = some (.iinc 3 1, 0) := rfl
theorem kX9_placeOf_30 : lkp tX9_placeOf 30 = some (.goto (-28), 2) := rfl
theorem kX9_placeOf_33 : lkp tX9_placeOf 33 = some (.iconst (-1), 0) := rfl
theorem kX9_placeOf_34 : lkp tX9_placeOf 34 = some (.ireturn, 0) := rfl
theorem kX9_prefers_0 : lkp tX9_prefers 0 = some (.aload_n 0, 0) := rfl
theorem kX9_prefers_1 : lkp tX9_prefers 1 = some (.iload_n 1, 0) := rfl
theorem kX9_prefers_2 : lkp tX9_prefers 2 = some (.iload_n 2, 0) := rfl
theorem kX9_prefers_3 : lkp tX9_prefers 3 = some (.invokevirtual 75, 0) := rfl
theorem kX9_prefers_6 : lkp tX9_prefers 6 = some (.istore_n 3, 0) := rfl
theorem kX9_prefers_7 : lkp tX9_prefers 7 = some (.aload_n 0, 0) := rfl
theorem kX9_prefers_8 : lkp tX9_prefers 8 = some (.iload_n 1, 0) := rfl
theorem kX9_prefers_9 : lkp tX9_prefers 9 = some (.bipush 10, 0) := rfl
theorem kX9_prefers_11 : lkp tX9_prefers 11 = some (.invokevirtual 49, 0) := rfl
theorem kX9_prefers_14 : lkp tX9_prefers 14 = some (.istore 4, 0) := rfl
theorem kX9_prefers_16 : lkp tX9_prefers 16 = some (.iload_n 3, 0) := rfl
theorem kX9_prefers_17 : lkp tX9_prefers 17 = some (.iconst (-1), 0) := rfl
theorem kX9_prefers_18 : lkp tX9_prefers 18 = some (.if_icmp .eq 9, 27) := rfl
theorem kX9_prefers_21 : lkp tX9_prefers 21 = some (.iload 4, 0) := rfl
theorem kX9_prefers_23 : lkp tX9_prefers 23 = some (.iload_n 2, 0) := rfl
theorem kX9_prefers_24 : lkp tX9_prefers 24 = some (.if_icmp .ne 5, 29) := rfl
theorem kX9_prefers_27 : lkp tX9_prefers 27 = some (.iconst 0, 0) := rfl
theorem kX9_prefers_28 : lkp tX9_prefers 28 = some (.ireturn, 0) := rfl
theorem kX9_prefers_29 : lkp tX9_prefers 29 = some (.iload 4, 0) := rfl
theorem kX9_prefers_31 : lkp tX9_prefers 31 = some (.iconst (-1), 0) := rfl
theorem kX9_prefers_32 : lkp tX9_prefers 32 = some (.if_icmp .ne 7, 39) := rfl
theorem kX9_prefers_35 : lkp tX9_prefers 35 = some (.iconst (-1), 0) := rfl
theorem kX9_prefers_36 : lkp tX9_prefers 36 = some (.goto 10, 46) := rfl
theorem kX9_prefers_39 : lkp tX9_prefers 39 = some (.aload_n 0, 0) := rfl
theorem kX9_prefers_40 : lkp tX9_prefers 40 = some (.iload_n 1, 0) := rfl
theorem kX9_prefers_41 : lkp tX9_prefers 41 = some (.iload 4, 0) := rfl
theorem kX9_prefers_43 : lkp tX9_prefers 43 = some (.invokevirtual 75, 0) := rfl
theorem kX9_prefers_46 : lkp tX9_prefers 46 = some (.istore 5, 0) := rfl
theorem kX9_prefers_48 : lkp tX9_prefers 48 = some (.iload 5, 0) := rfl
theorem kX9_prefers_50 : lkp tX9_prefers 50 = some (.iconst (-1), 0) := rfl
theorem kX9_prefers_51 : lkp tX9_prefers 51 = some (.if_icmp .eq 9, 60) := rfl
theorem kX9_prefers_54 : lkp tX9_prefers 54 = some (.iload 5, 0) := rfl
theorem kX9_prefers_56 : lkp tX9_prefers 56 = some (.iload_n 3, 0) := rfl
theorem kX9_prefers_57 : lkp tX9_prefers 57 = some (.if_icmp .le 7, 64) := rfl
theorem kX9_prefers_60 : lkp tX9_prefers 60 = some (.iconst 1, 0) := rfl
theorem kX9_prefers_61 : lkp tX9_prefers 61 = some (.goto 4, 65) := rfl
theorem kX9_prefers_64 : lkp tX9_prefers 64 = some (.iconst 0, 0) := rfl
theorem kX9_prefers_65 : lkp tX9_prefers 65 = some (.ireturn, 0) := rfl
theorem kX9_holds_0 : lkp tX9_holds 0 = some (.iconst 0, 0) := rfl
theorem kX9_holds_1 : lkp tX9_holds 1 = some (.istore_n 2, 0) := rfl
theorem kX9_holds_2 : lkp tX9_holds 2 = some (.iconst 0, 0) := rfl
theorem kX9_holds_3 : lkp tX9_holds 3 = some (.istore_n 3, 0) := rfl
theorem kX9_holds_4 : lkp tX9_holds 4 = some (.iload_n 3, 0) := rfl
theorem kX9_holds_5 : lkp tX9_holds 5 = some (.aload_n 0, 0) := rfl
theorem kX9_holds_6 : lkp tX9_holds 6 = some (.getfield 9, 0) := rfl
theorem kX9_holds_9 : lkp tX9_holds 9 = some (.iconst 1, 0) := rfl
theorem kX9_holds_10 : lkp tX9_holds 10 = some (.iaload, 0) := rfl
theorem kX9_holds_11 : lkp tX9_holds 11 = some (.if_icmp .ge 28, 39) := rfl
theorem kX9_holds_14 : lkp tX9_holds 14 = some (.iload_n 2, 0) := rfl
theorem kX9_holds_15 : lkp tX9_holds 15 = some (.aload_n 0, 0) := rfl
theorem kX9_holds_16 : lkp tX9_holds 16 = some (.iload_n 3, 0) := rfl
theorem kX9_holds_17 : lkp tX9_holds 17 = some (.bipush 10, 0) := rfl
theorem kX9_holds_19 : lkp tX9_holds 19 = some (.invokevirtual 49, 0) := rfl
theorem kX9_holds_22 : lkp tX9_holds 22 = some (.iload_n 1, 0) := rfl
theorem kX9_holds_23 : lkp tX9_holds 23 = some (.if_icmp .ne 7, 30) := rfl
theorem kX9_holds_26 : lkp tX9_holds 26 = some (.iconst 1, 0) := rfl
theorem kX9_holds_27 : lkp tX9_holds 27 = some (.goto 4, 31) := rfl
theorem kX9_holds_30 : lkp tX9_holds 30 = some (.iconst 0, 0) := rfl
theorem kX9_holds_31 : lkp tX9_holds 31 = some (.iadd, 0) := rfl
theorem kX9_holds_32 : lkp tX9_holds 32 = some (.istore_n 2, 0) := rfl
theorem kX9_holds_33 : lkp tX9_holds 33 = some (.iinc 3 1, 0) := rfl
theorem kX9_holds_36 : lkp tX9_holds 36 = some (.goto (-32), 4) := rfl
theorem kX9_holds_39 : lkp tX9_holds 39 = some (.iload_n 2, 0) := rfl
theorem kX9_holds_40 : lkp tX9_holds 40 = some (.ireturn, 0) := rfl
theorem kX9_freeSeats_0 : lkp tX9_freeSeats 0 = some (.aload_n 0, 0) := rfl
theorem kX9_freeSeats_1 : lkp tX9_freeSeats 1 = some (.iload_n 1, 0) := rfl
theorem kX9_freeSeats_2 : lkp tX9_freeSeats 2 = some (.iconst 2, 0) := rfl
theorem kX9_freeSeats_3 : lkp tX9_freeSeats 3 = some (.invokevirtual 53, 0) := rfl
theorem kX9_freeSeats_6 : lkp tX9_freeSeats 6 = some (.aload_n 0, 0) := rfl
theorem kX9_freeSeats_7 : lkp tX9_freeSeats 7 = some (.iload_n 1, 0) := rfl
theorem kX9_freeSeats_8 : lkp tX9_freeSeats 8 = some (.bipush 6, 0) := rfl
theorem kX9_freeSeats_10 : lkp tX9_freeSeats 10 = some (.invokevirtual 53, 0) := rfl
theorem kX9_freeSeats_13 : lkp tX9_freeSeats 13 = some (.iadd, 0) := rfl
theorem kX9_freeSeats_14 : lkp tX9_freeSeats 14 = some (.aload_n 0, 0) := rfl
theorem kX9_freeSeats_15 : lkp tX9_freeSeats 15 = some (.iload_n 1, 0) := rfl
theorem kX9_freeSeats_16 : lkp tX9_freeSeats 16 = some (.invokevirtual 78, 0) := rfl
theorem kX9_freeSeats_19 : lkp tX9_freeSeats 19 = some (.isub, 0) := rfl
theorem kX9_freeSeats_20 : lkp tX9_freeSeats 20 = some (.istore_n 2, 0) := rfl
theorem kX9_freeSeats_21 : lkp tX9_freeSeats 21 = some (.iload_n 2, 0) := rfl
theorem kX9_freeSeats_22 : lkp tX9_freeSeats 22 = some (.ifCond .ge 7, 29) := rfl
theorem kX9_freeSeats_25 : lkp tX9_freeSeats 25 = some (.iconst 0, 0) := rfl
theorem kX9_freeSeats_26 : lkp tX9_freeSeats 26 = some (.goto 4, 30) := rfl
theorem kX9_freeSeats_29 : lkp tX9_freeSeats 29 = some (.iload_n 2, 0) := rfl
theorem kX9_freeSeats_30 : lkp tX9_freeSeats 30 = some (.ireturn, 0) := rfl
theorem kX9_addSchool_0 : lkp tX9_addSchool 0 = some (.aload_n 0, 0) := rfl
theorem kX9_addSchool_1 : lkp tX9_addSchool 1 = some (.iconst 0, 0) := rfl
theorem kX9_addSchool_2 : lkp tX9_addSchool 2 = some (.putfield 39, 0) := rfl
theorem kX9_addSchool_5 : lkp tX9_addSchool 5 = some (.iload_n 1, 0) := rfl
theorem kX9_addSchool_6 : lkp tX9_addSchool 6 = some (.iconst 0, 0) := rfl
theorem kX9_addSchool_7 : lkp tX9_addSchool 7 = some (.bipush 99, 0) := rfl
theorem kX9_addSchool_9 : lkp tX9_addSchool 9 = some (.invokestatic 45, 0) := rfl
theorem kX9_addSchool_12 : lkp tX9_addSchool 12 = some (.ifCond .eq 35, 47) := rfl
theorem kX9_addSchool_15 : lkp tX9_addSchool 15 = some (.iload_n 2, 0) := rfl
theorem kX9_addSchool_16 : lkp tX9_addSchool 16 = some (.iconst 0, 0) := rfl
theorem kX9_addSchool_17 : lkp tX9_addSchool 17 = some (.bipush 99, 0) := rfl
theorem kX9_addSchool_19 : lkp tX9_addSchool 19 = some (.invokestatic 45, 0) := rfl
theorem kX9_addSchool_22 : lkp tX9_addSchool 22 = some (.ifCond .eq 25, 47) := rfl
theorem kX9_addSchool_25 : lkp tX9_addSchool 25 = some (.iload_n 3, 0) := rfl
theorem kX9_addSchool_26 : lkp tX9_addSchool 26 = some (.iconst 0, 0) := rfl
theorem kX9_addSchool_27 : lkp tX9_addSchool 27 = some (.bipush 12, 0) := rfl
theorem kX9_addSchool_29 : lkp tX9_addSchool 29 = some (.invokestatic 45, 0) := rfl
theorem kX9_addSchool_32 : lkp tX9_addSchool 32 = some (.ifCond .eq 15, 47) := rfl
theorem kX9_addSchool_35 : lkp tX9_addSchool 35 = some (.iload 4, 0) := rfl
theorem kX9_addSchool_37 : lkp tX9_addSchool 37 = some (.iconst 0, 0) := rfl
theorem kX9_addSchool_38 : lkp tX9_addSchool 38 = some (.sipush 198, 0) := rfl
theorem kX9_addSchool_41 : lkp tX9_addSchool 41 = some (.invokestatic 45, 0) := rfl
theorem kX9_addSchool_44 : lkp tX9_addSchool 44 = some (.ifCond .ne 9, 53) := rfl
theorem kX9_addSchool_47 : lkp tX9_addSchool 47 = some (.aload_n 0, 0) := rfl
theorem kX9_addSchool_48 : lkp tX9_addSchool 48 = some (.iconst 1, 0) := rfl
theorem kX9_addSchool_49 : lkp tX9_addSchool 49 = some (.invokevirtual 82, 0) := rfl
theorem kX9_addSchool_52 : lkp tX9_addSchool 52 = some (.ireturn, 0) := rfl
theorem kX9_addSchool_53 : lkp tX9_addSchool 53 = some (.aload_n 0, 0) := rfl
theorem kX9_addSchool_54 : lkp tX9_addSchool 54 = some (.getfield 9, 0) := rfl
theorem kX9_addSchool_57 : lkp tX9_addSchool 57 = some (.iconst 0, 0) := rfl
theorem kX9_addSchool_58 : lkp tX9_addSchool 58 = some (.iaload, 0) := rfl
theorem kX9_addSchool_59 : lkp tX9_addSchool 59 = some (.bipush 6, 0) := rfl
theorem kX9_addSchool_61 : lkp tX9_addSchool 61 = some (.if_icmp .ne 9, 70) := rfl
theorem kX9_addSchool_64 : lkp tX9_addSchool 64 = some (.aload_n 0, 0) := rfl
theorem kX9_addSchool_65 : lkp tX9_addSchool 65 = some (.iconst 2, 0) := rfl
theorem kX9_addSchool_66 : lkp tX9_addSchool 66 = some (.invokevirtual 82, 0) := rfl
theorem kX9_addSchool_69 : lkp tX9_addSchool 69 = some (.ireturn, 0) := rfl
theorem kX9_addSchool_70 : lkp tX9_addSchool 70 = some (.aload_n 0, 0) := rfl
theorem kX9_addSchool_71 : lkp tX9_addSchool 71 = some (.invokevirtual 85, 0) := rfl
theorem kX9_addSchool_74 : lkp tX9_addSchool 74 = some (.aload_n 0, 0) := rfl
theorem kX9_addSchool_75 : lkp tX9_addSchool 75 = some (.getfield 9, 0) := rfl
theorem kX9_addSchool_78 : lkp tX9_addSchool 78 = some (.iconst 0, 0) := rfl
theorem kX9_addSchool_79 : lkp tX9_addSchool 79 = some (.iaload, 0) := rfl
theorem kX9_addSchool_80 : lkp tX9_addSchool 80 = some (.istore 5, 0) := rfl
theorem kX9_addSchool_82 : lkp tX9_addSchool 82 = some (.aload_n 0, 0) := rfl
theorem kX9_addSchool_83 : lkp tX9_addSchool 83 = some (.iload 5, 0) := rfl
theorem kX9_addSchool_85 : lkp tX9_addSchool 85 = some (.iconst 0, 0) := rfl
theorem kX9_addSchool_86 : lkp tX9_addSchool 86 = some (.iload_n 1, 0) := rfl
theorem kX9_addSchool_87 : lkp tX9_addSchool 87 = some (.invokevirtual 88, 0) := rfl
theorem kX9_addSchool_90 : lkp tX9_addSchool 90 = some (.aload_n 0, 0) := rfl
theorem kX9_addSchool_91 : lkp tX9_addSchool 91 = some (.iload 5, 0) := rfl
theorem kX9_addSchool_93 : lkp tX9_addSchool 93 = some (.iconst 1, 0) := rfl
theorem kX9_addSchool_94 : lkp tX9_addSchool 94 = some (.iload_n 2, 0) := rfl
theorem kX9_addSchool_95 : lkp tX9_addSchool 95 = some (.invokevirtual 88, 0) := rfl
theorem kX9_addSchool_98 : lkp tX9_addSchool 98 = some (.aload_n 0, 0) := rfl
theorem kX9_addSchool_99 : lkp tX9_addSchool 99 = some (.iload 5, 0) := rfl
theorem kX9_addSchool_101 : lkp tX9_addSchool 101 = some (.iconst 2, 0) := rfl
theorem kX9_addSchool_102 : lkp tX9_addSchool 102 = some (.iload_n 3, 0) := rfl
theorem kX9_addSchool_103 : lkp tX9_addSchool 103 = some (.invokevirtual 88, 0) := rfl
theorem kX9_addSchool_106 : lkp tX9_addSchool 106 = some (.aload_n 0, 0) := rfl
theorem kX9_addSchool_107 : lkp tX9_addSchool 107 = some (.iload 5, 0) := rfl
theorem kX9_addSchool_109 : lkp tX9_addSchool 109 = some (.iconst 3, 0) := rfl
theorem kX9_addSchool_110 : lkp tX9_addSchool 110 = some (.iload 4, 0) := rfl
theorem kX9_addSchool_112 : lkp tX9_addSchool 112 = some (.invokevirtual 88, 0) := rfl
theorem kX9_addSchool_115 : lkp tX9_addSchool 115 = some (.aload_n 0, 0) := rfl
theorem kX9_addSchool_116 : lkp tX9_addSchool 116 = some (.iload 5, 0) := rfl
theorem kX9_addSchool_118 : lkp tX9_addSchool 118 = some (.iconst 4, 0) := rfl
theorem kX9_addSchool_119 : lkp tX9_addSchool 119 = some (.iconst 0, 0) := rfl
theorem kX9_addSchool_120 : lkp tX9_addSchool 120 = some (.invokevirtual 88, 0) := rfl
theorem kX9_addSchool_123 : lkp tX9_addSchool 123 = some (.aload_n 0, 0) := rfl
theorem kX9_addSchool_124 : lkp tX9_addSchool 124 = some (.iload 5, 0) := rfl
theorem kX9_addSchool_126 : lkp tX9_addSchool 126 = some (.iconst 5, 0) := rfl
theorem kX9_addSchool_127 : lkp tX9_addSchool 127 = some (.bipush 50, 0) := rfl
theorem kX9_addSchool_129 : lkp tX9_addSchool 129 = some (.invokevirtual 88, 0) := rfl
theorem kX9_addSchool_132 : lkp tX9_addSchool 132 = some (.aload_n 0, 0) := rfl
theorem kX9_addSchool_133 : lkp tX9_addSchool 133 = some (.iload 5, 0) := rfl
theorem kX9_addSchool_135 : lkp tX9_addSchool 135 = some (.bipush 6, 0) := rfl
theorem kX9_addSchool_137 : lkp tX9_addSchool 137 = some (.iconst 0, 0) := rfl
theorem kX9_addSchool_138 : lkp tX9_addSchool 138 = some (.invokevirtual 88, 0) := rfl
theorem kX9_addSchool_141 : lkp tX9_addSchool 141 = some (.aload_n 0, 0) := rfl
theorem kX9_addSchool_142 : lkp tX9_addSchool 142 = some (.getfield 9, 0) := rfl
theorem kX9_addSchool_145 : lkp tX9_addSchool 145 = some (.iconst 0, 0) := rfl
theorem kX9_addSchool_146 : lkp tX9_addSchool 146 = some (.dup2, 0) := rfl
theorem kX9_addSchool_147 : lkp tX9_addSchool 147 = some (.iaload, 0) := rfl
theorem kX9_addSchool_148 : lkp tX9_addSchool 148 = some (.iconst 1, 0) := rfl
theorem kX9_addSchool_149 : lkp tX9_addSchool 149 = some (.iadd, 0) := rfl
theorem kX9_addSchool_150 : lkp tX9_addSchool 150 = some (.iastore, 0) := rfl
theorem kX9_addSchool_151 : lkp tX9_addSchool 151 = some (.iload 5, 0) := rfl
theorem kX9_addSchool_153 : lkp tX9_addSchool 153 = some (.ireturn, 0) := rfl
theorem kX9_notes_0 : lkp tX9_notes 0 = some (.aload_n 0, 0) := rfl
theorem kX9_notes_1 : lkp tX9_notes 1 = some (.getfield 9, 0) := rfl
theorem kX9_notes_4 : lkp tX9_notes 4 = some (.iconst 2, 0) := rfl
theorem kX9_notes_5 : lkp tX9_notes 5 = some (.iaload, 0) := rfl
theorem kX9_notes_6 : lkp tX9_notes 6 = some (.bipush 80, 0) := rfl
theorem kX9_notes_8 : lkp tX9_notes 8 = some (.if_icmp .ge 56, 64) := rfl
theorem kX9_notes_11 : lkp tX9_notes 11 = some (.sipush 369, 0) := rfl
theorem kX9_notes_14 : lkp tX9_notes 14 = some (.iconst 4, 0) := rfl
theorem kX9_notes_15 : lkp tX9_notes 15 = some (.aload_n 0, 0) := rfl
theorem kX9_notes_16 : lkp tX9_notes 16 = some (.getfield 9, 0) := rfl
theorem kX9_notes_19 : lkp tX9_notes 19 = some (.iconst 2, 0) := rfl
theorem kX9_notes_20 : lkp tX9_notes 20 = some (.iaload, 0) := rfl
theorem kX9_notes_21 : lkp tX9_notes 21 = some (.imul, 0) := rfl
theorem kX9_notes_22 : lkp tX9_notes 22 = some (.iadd, 0) := rfl
theorem kX9_notes_23 : lkp tX9_notes 23 = some (.istore 5, 0) := rfl
theorem kX9_notes_25 : lkp tX9_notes 25 = some (.aload_n 0, 0) := rfl
theorem kX9_notes_26 : lkp tX9_notes 26 = some (.getfield 9, 0) := rfl
theorem kX9_notes_29 : lkp tX9_notes 29 = some (.iload 5, 0) := rfl
theorem kX9_notes_31 : lkp tX9_notes 31 = some (.iload_n 1, 0) := rfl
theorem kX9_notes_32 : lkp tX9_notes 32 = some (.iastore, 0) := rfl
theorem kX9_notes_33 : lkp tX9_notes 33 = some (.aload_n 0, 0) := rfl
theorem kX9_notes_34 : lkp tX9_notes 34 = some (.getfield 9, 0) := rfl
theorem kX9_notes_37 : lkp tX9_notes 37 = some (.iload 5, 0) := rfl
theorem kX9_notes_39 : lkp tX9_notes 39 = some (.iconst 1, 0) := rfl
theorem kX9_notes_40 : lkp tX9_notes 40 = some (.iadd, 0) := rfl
theorem kX9_notes_41 : lkp tX9_notes 41 = some (.iload_n 2, 0) := rfl
theorem kX9_notes_42 : lkp tX9_notes 42 = some (.iastore, 0) := rfl
theorem kX9_notes_43 : lkp tX9_notes 43 = some (.aload_n 0, 0) := rfl
theorem kX9_notes_44 : lkp tX9_notes 44 = some (.getfield 9, 0) := rfl
theorem kX9_notes_47 : lkp tX9_notes 47 = some (.iload 5, 0) := rfl
theorem kX9_notes_49 : lkp tX9_notes 49 = some (.iconst 2, 0) := rfl
theorem kX9_notes_50 : lkp tX9_notes 50 = some (.iadd, 0) := rfl
theorem kX9_notes_51 : lkp tX9_notes 51 = some (.iload_n 3, 0) := rfl
theorem kX9_notes_52 : lkp tX9_notes 52 = some (.iastore, 0) := rfl
theorem kX9_notes_53 : lkp tX9_notes 53 = some (.aload_n 0, 0) := rfl
theorem kX9_notes_54 : lkp tX9_notes 54 = some (.getfield 9, 0) := rfl
theorem kX9_notes_57 : lkp tX9_notes 57 = some (.iload 5, 0) := rfl
theorem kX9_notes_59 : lkp tX9_notes 59 = some (.iconst 3, 0) := rfl
theorem kX9_notes_60 : lkp tX9_notes 60 = some (.iadd, 0) := rfl
theorem kX9_notes_61 : lkp tX9_notes 61 = some (.iload 4, 0) := rfl
theorem kX9_notes_63 : lkp tX9_notes 63 = some (.iastore, 0) := rfl
theorem kX9_notes_64 : lkp tX9_notes 64 = some (.aload_n 0, 0) := rfl
theorem kX9_notes_65 : lkp tX9_notes 65 = some (.getfield 9, 0) := rfl
theorem kX9_notes_68 : lkp tX9_notes 68 = some (.iconst 2, 0) := rfl
theorem kX9_notes_69 : lkp tX9_notes 69 = some (.dup2, 0) := rfl
theorem kX9_notes_70 : lkp tX9_notes 70 = some (.iaload, 0) := rfl
theorem kX9_notes_71 : lkp tX9_notes 71 = some (.iconst 1, 0) := rfl
theorem kX9_notes_72 : lkp tX9_notes 72 = some (.iadd, 0) := rfl
theorem kX9_notes_73 : lkp tX9_notes 73 = some (.iastore, 0) := rfl
theorem kX9_notes_74 : lkp tX9_notes 74 = some (.return_, 0) := rfl
theorem kX9_waitingMany_0 : lkp tX9_waitingMany 0 = some (.iconst 0, 0) := rfl
theorem kX9_waitingMany_1 : lkp tX9_waitingMany 1 = some (.istore_n 2, 0) := rfl
theorem kX9_waitingMany_2 : lkp tX9_waitingMany 2 = some (.iconst 0, 0) := rfl
theorem kX9_waitingMany_3 : lkp tX9_waitingMany 3 = some (.istore_n 3, 0) := rfl
theorem kX9_waitingMany_4 : lkp tX9_waitingMany 4 = some (.iload_n 3, 0) := rfl
theorem kX9_waitingMany_5 : lkp tX9_waitingMany 5 = some (.aload_n 0, 0) := rfl
theorem kX9_waitingMany_6 : lkp tX9_waitingMany 6 = some (.getfield 9, 0) := rfl
theorem kX9_waitingMany_9 : lkp tX9_waitingMany 9 = some (.iconst 1, 0) := rfl
theorem kX9_waitingMany_10 : lkp tX9_waitingMany 10 = some (.iaload, 0) := rfl
theorem kX9_waitingMany_11 : lkp tX9_waitingMany 11 = some (.if_icmp .ge 26, 37) := rfl
theorem kX9_waitingMany_14 : lkp tX9_waitingMany 14 = some (.iload_n 2, 0) := rfl
theorem kX9_waitingMany_15 : lkp tX9_waitingMany 15 = some (.aload_n 0, 0) := rfl
theorem kX9_waitingMany_16 : lkp tX9_waitingMany 16 = some (.iload_n 3, 0) := rfl
theorem kX9_waitingMany_17 : lkp tX9_waitingMany 17 = some (.iload_n 1, 0) := rfl
theorem kX9_waitingMany_18 : lkp tX9_waitingMany 18 = some (.invokevirtual 92, 0) := rfl
theorem kX9_waitingMany_21 : lkp tX9_waitingMany 21 = some (.ifCond .eq 7, 28) := rfl
theorem kX9_waitingMany_24 : lkp tX9_waitingMany 24 = some (.iconst 1, 0) := rfl
theorem kX9_waitingMany_25 : lkp tX9_waitingMany 25 = some (.goto 4, 29) := rfl
theorem kX9_waitingMany_28 : lkp tX9_waitingMany 28 = some (.iconst 0, 0) := rfl
theorem kX9_waitingMany_29 : lkp tX9_waitingMany 29 = some (.iadd, 0) := rfl
theorem kX9_waitingMany_30 : lkp tX9_waitingMany 30 = some (.istore_n 2, 0) := rfl
theorem kX9_waitingMany_31 : lkp tX9_waitingMany 31 = some (.iinc 3 1, 0) := rfl
theorem kX9_waitingMany_34 : lkp tX9_waitingMany 34 = some (.goto (-30), 4) := rfl
theorem kX9_waitingMany_37 : lkp tX9_waitingMany 37 = some (.iload_n 2, 0) := rfl
theorem kX9_waitingMany_38 : lkp tX9_waitingMany 38 = some (.ireturn, 0) := rfl
theorem kX9_waitingAhead_0 : lkp tX9_waitingAhead 0 = some (.iconst 0, 0) := rfl
theorem kX9_waitingAhead_1 : lkp tX9_waitingAhead 1 = some (.istore_n 3, 0) := rfl
theorem kX9_waitingAhead_2 : lkp tX9_waitingAhead 2 = some (.iconst 0, 0) := rfl
theorem kX9_waitingAhead_3 : lkp tX9_waitingAhead 3 = some (.istore 4, 0) := rfl
theorem kX9_waitingAhead_5 : lkp tX9_waitingAhead 5 = some (.iload 4, 0) := rfl
theorem kX9_waitingAhead_7 : lkp tX9_waitingAhead 7 = some (.aload_n 0, 0) := rfl
theorem kX9_waitingAhead_8 : lkp tX9_waitingAhead 8 = some (.getfield 9, 0) := rfl
theorem kX9_waitingAhead_11 : lkp tX9_waitingAhead 11 = some (.iconst 1, 0) := rfl
theorem kX9_waitingAhead_12 : lkp tX9_waitingAhead 12 = some (.iaload, 0) := rfl
theorem kX9_waitingAhead_13 : lkp tX9_waitingAhead 13 = some (.if_icmp .ge 44, 57) := rfl
theorem kX9_waitingAhead_16 : lkp tX9_waitingAhead 16 = some (.iload_n 3, 0) := rfl
theorem kX9_waitingAhead_17 : lkp tX9_waitingAhead 17 = some (.iload 4, 0) := rfl
theorem kX9_waitingAhead_19 : lkp tX9_waitingAhead 19 = some (.iload_n 1, 0) := rfl
theorem kX9_waitingAhead_20 : lkp tX9_waitingAhead 20 = some (.if_icmp .eq 28, 48) := rfl
theorem kX9_waitingAhead_23 : lkp tX9_waitingAhead 23 = some (.aload_n 0, 0) := rfl
theorem kX9_waitingAhead_24 : lkp tX9_waitingAhead 24 = some (.iload 4, 0) := rfl
theorem kX9_waitingAhead_26 : lkp tX9_waitingAhead 26 = some (.iload_n 2, 0) := rfl
theorem kX9_waitingAhead_27 : lkp tX9_waitingAhead 27 = some (.invokevirtual 92, 0) := rfl
theorem kX9_waitingAhead_30 : lkp tX9_waitingAhead 30 = some (.ifCond .eq 18, 48) := rfl
theorem kX9_waitingAhead_33 : lkp tX9_waitingAhead 33 = some (.aload_n 0, 0) := rfl
theorem kX9_waitingAhead_34 : lkp tX9_waitingAhead 34 = some (.iload 4, 0) := rfl
theorem kX9_waitingAhead_36 : lkp tX9_waitingAhead 36 = some (.iload_n 1, 0) := rfl
theorem kX9_waitingAhead_37 : lkp tX9_waitingAhead 37 = some (.iload_n 2, 0) := rfl
theorem kX9_waitingAhead_38 : lkp tX9_waitingAhead 38 = some (.invokevirtual 95, 0) := rfl
theorem kX9_waitingAhead_41 : lkp tX9_waitingAhead 41 = some (.ifCond .eq 7, 48) := rfl
theorem kX9_waitingAhead_44 : lkp tX9_waitingAhead 44 = some (.iconst 1, 0) := rfl
theorem kX9_waitingAhead_45 : lkp tX9_waitingAhead 45 = some (.goto 4, 49) := rfl
theorem kX9_waitingAhead_48 : lkp tX9_waitingAhead 48 = some (.iconst 0, 0) := rfl
theorem kX9_waitingAhead_49 : lkp tX9_waitingAhead 49 = some (.iadd, 0) := rfl
theorem kX9_waitingAhead_50 : lkp tX9_waitingAhead 50 = some (.istore_n 3, 0) := rfl
theorem kX9_waitingAhead_51 : lkp tX9_waitingAhead 51 = some (.iinc 4 1, 0) := rfl
theorem kX9_waitingAhead_54 : lkp tX9_waitingAhead 54 = some (.goto (-49), 5) := rfl
theorem kX9_waitingAhead_57 : lkp tX9_waitingAhead 57 = some (.iload_n 3, 0) := rfl
theorem kX9_waitingAhead_58 : lkp tX9_waitingAhead 58 = some (.ireturn, 0) := rfl
theorem kX9_heldAhead_0 : lkp tX9_heldAhead 0 = some (.iconst 0, 0) := rfl
theorem kX9_heldAhead_1 : lkp tX9_heldAhead 1 = some (.istore_n 3, 0) := rfl
theorem kX9_heldAhead_2 : lkp tX9_heldAhead 2 = some (.iconst 0, 0) := rfl
theorem kX9_heldAhead_3 : lkp tX9_heldAhead 3 = some (.istore 4, 0) := rfl
theorem kX9_heldAhead_5 : lkp tX9_heldAhead 5 = some (.iload 4, 0) := rfl
theorem kX9_heldAhead_7 : lkp tX9_heldAhead 7 = some (.aload_n 0, 0) := rfl
theorem kX9_heldAhead_8 : lkp tX9_heldAhead 8 = some (.getfield 9, 0) := rfl
theorem kX9_heldAhead_11 : lkp tX9_heldAhead 11 = some (.iconst 1, 0) := rfl
theorem kX9_heldAhead_12 : lkp tX9_heldAhead 12 = some (.iaload, 0) := rfl
theorem kX9_heldAhead_13 : lkp tX9_heldAhead 13 = some (.if_icmp .ge 46, 59) := rfl
theorem kX9_heldAhead_16 : lkp tX9_heldAhead 16 = some (.iload_n 3, 0) := rfl
theorem kX9_heldAhead_17 : lkp tX9_heldAhead 17 = some (.iload 4, 0) := rfl
theorem kX9_heldAhead_19 : lkp tX9_heldAhead 19 = some (.iload_n 1, 0) := rfl
theorem kX9_heldAhead_20 : lkp tX9_heldAhead 20 = some (.if_icmp .eq 30, 50) := rfl
theorem kX9_heldAhead_23 : lkp tX9_heldAhead 23 = some (.aload_n 0, 0) := rfl
theorem kX9_heldAhead_24 : lkp tX9_heldAhead 24 = some (.iload 4, 0) := rfl
theorem kX9_heldAhead_26 : lkp tX9_heldAhead 26 = some (.bipush 10, 0) := rfl
theorem kX9_heldAhead_28 : lkp tX9_heldAhead 28 = some (.invokevirtual 49, 0) := rfl
theorem kX9_heldAhead_31 : lkp tX9_heldAhead 31 = some (.iload_n 2, 0) := rfl
theorem kX9_heldAhead_32 : lkp tX9_heldAhead 32 = some (.if_icmp .ne 18, 50) := rfl
theorem kX9_heldAhead_35 : lkp tX9_heldAhead 35 = some (.aload_n 0, 0) := rfl
theorem kX9_heldAhead_36 : lkp tX9_heldAhead 36 = some (.iload 4, 0) := rfl
theorem kX9_heldAhead_38 : lkp tX9_heldAhead 38 = some (.iload_n 1, 0) := rfl
theorem kX9_heldAhead_39 : lkp tX9_heldAhead 39 = some (.iload_n 2, 0) := rfl
theorem kX9_heldAhead_40 : lkp tX9_heldAhead 40 = some (.invokevirtual 95, 0) := rfl
theorem kX9_heldAhead_43 : lkp tX9_heldAhead 43 = some (.ifCond .eq 7, 50) := rfl
theorem kX9_heldAhead_46 : lkp tX9_heldAhead 46 = some (.iconst 1, 0) := rfl
theorem kX9_heldAhead_47 : lkp tX9_heldAhead 47 = some (.goto 4, 51) := rfl
theorem kX9_heldAhead_50 : lkp tX9_heldAhead 50 = some (.iconst 0, 0) := rfl
theorem kX9_heldAhead_51 : lkp tX9_heldAhead 51 = some (.iadd, 0) := rfl
theorem kX9_heldAhead_52 : lkp tX9_heldAhead 52 = some (.istore_n 3, 0) := rfl
theorem kX9_heldAhead_53 : lkp tX9_heldAhead 53 = some (.iinc 4 1, 0) := rfl
theorem kX9_heldAhead_56 : lkp tX9_heldAhead 56 = some (.goto (-51), 5) := rfl
theorem kX9_heldAhead_59 : lkp tX9_heldAhead 59 = some (.iload_n 3, 0) := rfl
theorem kX9_heldAhead_60 : lkp tX9_heldAhead 60 = some (.ireturn, 0) := rfl
theorem kX9_waitingAt_0 : lkp tX9_waitingAt 0 = some (.iconst 0, 0) := rfl
theorem kX9_waitingAt_1 : lkp tX9_waitingAt 1 = some (.istore_n 3, 0) := rfl
theorem kX9_waitingAt_2 : lkp tX9_waitingAt 2 = some (.iload_n 3, 0) := rfl
theorem kX9_waitingAt_3 : lkp tX9_waitingAt 3 = some (.aload_n 0, 0) := rfl
theorem kX9_waitingAt_4 : lkp tX9_waitingAt 4 = some (.getfield 9, 0) := rfl
theorem kX9_waitingAt_7 : lkp tX9_waitingAt 7 = some (.iconst 1, 0) := rfl
theorem kX9_waitingAt_8 : lkp tX9_waitingAt 8 = some (.iaload, 0) := rfl
theorem kX9_waitingAt_9 : lkp tX9_waitingAt 9 = some (.if_icmp .ge 30, 39) := rfl
theorem kX9_waitingAt_12 : lkp tX9_waitingAt 12 = some (.aload_n 0, 0) := rfl
theorem kX9_waitingAt_13 : lkp tX9_waitingAt 13 = some (.iload_n 3, 0) := rfl
theorem kX9_waitingAt_14 : lkp tX9_waitingAt 14 = some (.iload_n 1, 0) := rfl
theorem kX9_waitingAt_15 : lkp tX9_waitingAt 15 = some (.invokevirtual 92, 0) := rfl
theorem kX9_waitingAt_18 : lkp tX9_waitingAt 18 = some (.ifCond .eq 15, 33) := rfl
theorem kX9_waitingAt_21 : lkp tX9_waitingAt 21 = some (.aload_n 0, 0) := rfl
theorem kX9_waitingAt_22 : lkp tX9_waitingAt 22 = some (.iload_n 3, 0) := rfl
theorem kX9_waitingAt_23 : lkp tX9_waitingAt 23 = some (.iload_n 1, 0) := rfl
theorem kX9_waitingAt_24 : lkp tX9_waitingAt 24 = some (.invokevirtual 98, 0) := rfl
theorem kX9_waitingAt_27 : lkp tX9_waitingAt 27 = some (.iload_n 2, 0) := rfl
theorem kX9_waitingAt_28 : lkp tX9_waitingAt 28 = some (.if_icmp .ne 5, 33) := rfl
theorem kX9_waitingAt_31 : lkp tX9_waitingAt 31 = some (.iload_n 3, 0) := rfl
theorem kX9_waitingAt_32 : lkp tX9_waitingAt 32 = some (.ireturn, 0) := rfl
theorem kX9_waitingAt_33 : lkp tX9_waitingAt 33 = some (.iinc 3 1, 0) := rfl
theorem kX9_waitingAt_36 : lkp tX9_waitingAt 36 = some (.goto (-34), 2) := rfl
theorem kX9_waitingAt_39 : lkp tX9_waitingAt 39 = some (.iconst (-1), 0) := rfl
theorem kX9_waitingAt_40 : lkp tX9_waitingAt 40 = some (.ireturn, 0) := rfl
theorem kX9_heldAt_0 : lkp tX9_heldAt 0 = some (.iconst 0, 0) := rfl
theorem kX9_heldAt_1 : lkp tX9_heldAt 1 = some (.istore_n 3, 0) := rfl
theorem kX9_heldAt_2 : lkp tX9_heldAt 2 = some (.iload_n 3, 0) := rfl
theorem kX9_heldAt_3 : lkp tX9_heldAt 3 = some (.aload_n 0, 0) := rfl
theorem kX9_heldAt_4 : lkp tX9_heldAt 4 = some (.getfield 9, 0) := rfl
theorem kX9_heldAt_7 : lkp tX9_heldAt 7 = some (.iconst 1, 0) := rfl
theorem kX9_heldAt_8 : lkp tX9_heldAt 8 = some (.iaload, 0) := rfl
theorem kX9_heldAt_9 : lkp tX9_heldAt 9 = some (.if_icmp .ge 32, 41) := rfl
theorem kX9_heldAt_12 : lkp tX9_heldAt 12 = some (.aload_n 0, 0) := rfl
theorem kX9_heldAt_13 : lkp tX9_heldAt 13 = some (.iload_n 3, 0) := rfl
theorem kX9_heldAt_14 : lkp tX9_heldAt 14 = some (.bipush 10, 0) := rfl
theorem kX9_heldAt_16 : lkp tX9_heldAt 16 = some (.invokevirtual 49, 0) := rfl
theorem kX9_heldAt_19 : lkp tX9_heldAt 19 = some (.iload_n 1, 0) := rfl
theorem kX9_heldAt_20 : lkp tX9_heldAt 20 = some (.if_icmp .ne 15, 35) := rfl
theorem kX9_heldAt_23 : lkp tX9_heldAt 23 = some (.aload_n 0, 0) := rfl
theorem kX9_heldAt_24 : lkp tX9_heldAt 24 = some (.iload_n 3, 0) := rfl
theorem kX9_heldAt_25 : lkp tX9_heldAt 25 = some (.iload_n 1, 0) := rfl
theorem kX9_heldAt_26 : lkp tX9_heldAt 26 = some (.invokevirtual 101, 0) := rfl
theorem kX9_heldAt_29 : lkp tX9_heldAt 29 = some (.iload_n 2, 0) := rfl
theorem kX9_heldAt_30 : lkp tX9_heldAt 30 = some (.if_icmp .ne 5, 35) := rfl
theorem kX9_heldAt_33 : lkp tX9_heldAt 33 = some (.iload_n 3, 0) := rfl
theorem kX9_heldAt_34 : lkp tX9_heldAt 34 = some (.ireturn, 0) := rfl
theorem kX9_heldAt_35 : lkp tX9_heldAt 35 = some (.iinc 3 1, 0) := rfl
theorem kX9_heldAt_38 : lkp tX9_heldAt 38 = some (.goto (-36), 2) := rfl
theorem kX9_heldAt_41 : lkp tX9_heldAt 41 = some (.iconst (-1), 0) := rfl
theorem kX9_heldAt_42 : lkp tX9_heldAt 42 = some (.ireturn, 0) := rfl
theorem kX9_schoolToFill_0 : lkp tX9_schoolToFill 0 = some (.iconst 0, 0) := rfl
theorem kX9_schoolToFill_1 : lkp tX9_schoolToFill 1 = some (.istore_n 1, 0) := rfl
theorem kX9_schoolToFill_2 : lkp tX9_schoolToFill 2 = some (.iload_n 1, 0) := rfl
theorem kX9_schoolToFill_3 : lkp tX9_schoolToFill 3 = some (.aload_n 0, 0) := rfl
theorem kX9_schoolToFill_4 : lkp tX9_schoolToFill 4 = some (.getfield 9, 0) := rfl
theorem kX9_schoolToFill_7 : lkp tX9_schoolToFill 7 = some (.iconst 0, 0) := rfl
theorem kX9_schoolToFill_8 : lkp tX9_schoolToFill 8 = some (.iaload, 0) := rfl
theorem kX9_schoolToFill_9 : lkp tX9_schoolToFill 9 = some (.if_icmp .ge 27, 36) := rfl
theorem kX9_schoolToFill_12 : lkp tX9_schoolToFill 12 = some (.aload_n 0, 0) := rfl
theorem kX9_schoolToFill_13 : lkp tX9_schoolToFill 13 = some (.iload_n 1, 0) := rfl
theorem kX9_schoolToFill_14 : lkp tX9_schoolToFill 14 = some (.invokevirtual 104, 0) := rfl
theorem kX9_schoolToFill_17 : lkp tX9_schoolToFill 17 = some (.ifCond .le 13, 30) := rfl
theorem kX9_schoolToFill_20 : lkp tX9_schoolToFill 20 = some (.aload_n 0, 0) := rfl
theorem kX9_schoolToFill_21 : lkp tX9_schoolToFill 21 = some (.iload_n 1, 0) := rfl
theorem kX9_schoolToFill_22 : lkp tX9_schoolToFill 22 = some (.invokevirtual 107, 0) := rfl
theorem kX9_schoolToFill_25 : lkp tX9_schoolToFill 25 = some (.ifCond .le 5, 30) := rfl
theorem kX9_schoolToFill_28 : lkp tX9_schoolToFill 28 = some (.iload_n 1, 0) := rfl
theorem kX9_schoolToFill_29 : lkp tX9_schoolToFill 29 = some (.ireturn, 0) := rfl
theorem kX9_schoolToFill_30 : lkp tX9_schoolToFill 30 = some (.iinc 1 1, 0) := rfl
theorem kX9_schoolToFill_33 : lkp tX9_schoolToFill 33 = some (.goto (-31), 2) := rfl
theorem kX9_schoolToFill_36 : lkp tX9_schoolToFill 36 = some (.iconst (-1), 0) := rfl
theorem kX9_schoolToFill_37 : lkp tX9_schoolToFill 37 = some (.ireturn, 0) := rfl
theorem kX9_moves_0 : lkp tX9_moves 0 = some (.aload_n 0, 0) := rfl
theorem kX9_moves_1 : lkp tX9_moves 1 = some (.iload_n 1, 0) := rfl
theorem kX9_moves_2 : lkp tX9_moves 2 = some (.iload_n 2, 0) := rfl
theorem kX9_moves_3 : lkp tX9_moves 3 = some (.aload_n 0, 0) := rfl
theorem kX9_moves_4 : lkp tX9_moves 4 = some (.iload_n 2, 0) := rfl
theorem kX9_moves_5 : lkp tX9_moves 5 = some (.bipush 10, 0) := rfl
theorem kX9_moves_7 : lkp tX9_moves 7 = some (.invokevirtual 49, 0) := rfl
theorem kX9_moves_10 : lkp tX9_moves 10 = some (.iload_n 3, 0) := rfl
theorem kX9_moves_11 : lkp tX9_moves 11 = some (.invokevirtual 110, 0) := rfl
theorem kX9_moves_14 : lkp tX9_moves 14 = some (.aload_n 0, 0) := rfl
theorem kX9_moves_15 : lkp tX9_moves 15 = some (.iload_n 2, 0) := rfl
theorem kX9_moves_16 : lkp tX9_moves 16 = some (.bipush 10, 0) := rfl
theorem kX9_moves_18 : lkp tX9_moves 18 = some (.iload_n 3, 0) := rfl
theorem kX9_moves_19 : lkp tX9_moves 19 = some (.invokevirtual 114, 0) := rfl
theorem kX9_moves_22 : lkp tX9_moves 22 = some (.return_, 0) := rfl
theorem kX9_fills_0 : lkp tX9_fills 0 = some (.iconst 0, 0) := rfl
theorem kX9_fills_1 : lkp tX9_fills 1 = some (.istore_n 1, 0) := rfl
theorem kX9_fills_2 : lkp tX9_fills 2 = some (.aload_n 0, 0) := rfl
theorem kX9_fills_3 : lkp tX9_fills 3 = some (.invokevirtual 117, 0) := rfl
theorem kX9_fills_6 : lkp tX9_fills 6 = some (.istore_n 2, 0) := rfl
theorem kX9_fills_7 : lkp tX9_fills 7 = some (.iload_n 2, 0) := rfl
theorem kX9_fills_8 : lkp tX9_fills 8 = some (.iconst (-1), 0) := rfl
theorem kX9_fills_9 : lkp tX9_fills 9 = some (.if_icmp .eq 26, 35) := rfl
theorem kX9_fills_12 : lkp tX9_fills 12 = some (.aload_n 0, 0) := rfl
theorem kX9_fills_13 : lkp tX9_fills 13 = some (.iconst 1, 0) := rfl
theorem kX9_fills_14 : lkp tX9_fills 14 = some (.aload_n 0, 0) := rfl
theorem kX9_fills_15 : lkp tX9_fills 15 = some (.iload_n 2, 0) := rfl
theorem kX9_fills_16 : lkp tX9_fills 16 = some (.iconst 0, 0) := rfl
theorem kX9_fills_17 : lkp tX9_fills 17 = some (.invokevirtual 121, 0) := rfl
theorem kX9_fills_20 : lkp tX9_fills 20 = some (.iload_n 2, 0) := rfl
theorem kX9_fills_21 : lkp tX9_fills 21 = some (.invokevirtual 124, 0) := rfl
theorem kX9_fills_24 : lkp tX9_fills 24 = some (.iinc 1 1, 0) := rfl
theorem kX9_fills_27 : lkp tX9_fills 27 = some (.aload_n 0, 0) := rfl
theorem kX9_fills_28 : lkp tX9_fills 28 = some (.invokevirtual 117, 0) := rfl
theorem kX9_fills_31 : lkp tX9_fills 31 = some (.istore_n 2, 0) := rfl
theorem kX9_fills_32 : lkp tX9_fills 32 = some (.goto (-25), 7) := rfl
theorem kX9_fills_35 : lkp tX9_fills 35 = some (.iload_n 1, 0) := rfl
theorem kX9_fills_36 : lkp tX9_fills 36 = some (.ireturn, 0) := rfl
theorem kX9_problem_0 : lkp tX9_problem 0 = some (.aload_n 0, 0) := rfl
theorem kX9_problem_1 : lkp tX9_problem 1 = some (.iload_n 1, 0) := rfl
theorem kX9_problem_2 : lkp tX9_problem 2 = some (.invokevirtual 127, 0) := rfl
theorem kX9_problem_5 : lkp tX9_problem 5 = some (.ifCond .ne 7, 12) := rfl
theorem kX9_problem_8 : lkp tX9_problem 8 = some (.iconst 1, 0) := rfl
theorem kX9_problem_9 : lkp tX9_problem 9 = some (.goto 17, 26) := rfl
theorem kX9_problem_12 : lkp tX9_problem 12 = some (.iload_n 2, 0) := rfl
theorem kX9_problem_13 : lkp tX9_problem 13 = some (.iconst 0, 0) := rfl
theorem kX9_problem_14 : lkp tX9_problem 14 = some (.iload_n 3, 0) := rfl
theorem kX9_problem_15 : lkp tX9_problem 15 = some (.invokestatic 45, 0) := rfl
theorem kX9_problem_18 : lkp tX9_problem 18 = some (.ifCond .ne 7, 25) := rfl
theorem kX9_problem_21 : lkp tX9_problem 21 = some (.iconst 2, 0) := rfl
theorem kX9_problem_22 : lkp tX9_problem 22 = some (.goto 4, 26) := rfl
theorem kX9_problem_25 : lkp tX9_problem 25 = some (.iconst 0, 0) := rfl
theorem kX9_problem_26 : lkp tX9_problem 26 = some (.ireturn, 0) := rfl
theorem kX9_setSeats_0 : lkp tX9_setSeats 0 = some (.aload_n 0, 0) := rfl
theorem kX9_setSeats_1 : lkp tX9_setSeats 1 = some (.aload_n 0, 0) := rfl
theorem kX9_setSeats_2 : lkp tX9_setSeats 2 = some (.iload_n 1, 0) := rfl
theorem kX9_setSeats_3 : lkp tX9_setSeats 3 = some (.iload_n 2, 0) := rfl
theorem kX9_setSeats_4 : lkp tX9_setSeats 4 = some (.bipush 12, 0) := rfl
theorem kX9_setSeats_6 : lkp tX9_setSeats 6 = some (.invokevirtual 131, 0) := rfl
theorem kX9_setSeats_9 : lkp tX9_setSeats 9 = some (.putfield 39, 0) := rfl
theorem kX9_setSeats_12 : lkp tX9_setSeats 12 = some (.aload_n 0, 0) := rfl
theorem kX9_setSeats_13 : lkp tX9_setSeats 13 = some (.getfield 39, 0) := rfl
theorem kX9_setSeats_16 : lkp tX9_setSeats 16 = some (.ifCond .eq 5, 21) := rfl
theorem kX9_setSeats_19 : lkp tX9_setSeats 19 = some (.iconst 0, 0) := rfl
theorem kX9_setSeats_20 : lkp tX9_setSeats 20 = some (.ireturn, 0) := rfl
theorem kX9_setSeats_21 : lkp tX9_setSeats 21 = some (.aload_n 0, 0) := rfl
theorem kX9_setSeats_22 : lkp tX9_setSeats 22 = some (.invokevirtual 85, 0) := rfl
theorem kX9_setSeats_25 : lkp tX9_setSeats 25 = some (.aload_n 0, 0) := rfl
theorem kX9_setSeats_26 : lkp tX9_setSeats 26 = some (.iload_n 1, 0) := rfl
theorem kX9_setSeats_27 : lkp tX9_setSeats 27 = some (.iconst 2, 0) := rfl
theorem kX9_setSeats_28 : lkp tX9_setSeats 28 = some (.iload_n 2, 0) := rfl
theorem kX9_setSeats_29 : lkp tX9_setSeats 29 = some (.invokevirtual 88, 0) := rfl
theorem kX9_setSeats_32 : lkp tX9_setSeats 32 = some (.aload_n 0, 0) := rfl
theorem kX9_setSeats_33 : lkp tX9_setSeats 33 = some (.invokevirtual 135, 0) := rfl
theorem kX9_setSeats_36 : lkp tX9_setSeats 36 = some (.ireturn, 0) := rfl
theorem kX9_sets_0 : lkp tX9_sets 0 = some (.aload_n 0, 0) := rfl
theorem kX9_sets_1 : lkp tX9_sets 1 = some (.iload_n 1, 0) := rfl
theorem kX9_sets_2 : lkp tX9_sets 2 = some (.iload_n 2, 0) := rfl
theorem kX9_sets_3 : lkp tX9_sets 3 = some (.invokevirtual 53, 0) := rfl
theorem kX9_sets_6 : lkp tX9_sets 6 = some (.istore 4, 0) := rfl
theorem kX9_sets_8 : lkp tX9_sets 8 = some (.aload_n 0, 0) := rfl
theorem kX9_sets_9 : lkp tX9_sets 9 = some (.invokevirtual 85, 0) := rfl
theorem kX9_sets_12 : lkp tX9_sets 12 = some (.aload_n 0, 0) := rfl
theorem kX9_sets_13 : lkp tX9_sets 13 = some (.iload_n 1, 0) := rfl
theorem kX9_sets_14 : lkp tX9_sets 14 = some (.iload_n 2, 0) := rfl
theorem kX9_sets_15 : lkp tX9_sets 15 = some (.iload_n 3, 0) := rfl
theorem kX9_sets_16 : lkp tX9_sets 16 = some (.invokevirtual 88, 0) := rfl
theorem kX9_sets_19 : lkp tX9_sets 19 = some (.iload 4, 0) := rfl
theorem kX9_sets_21 : lkp tX9_sets 21 = some (.ireturn, 0) := rfl
theorem kX9_setRadius_0 : lkp tX9_setRadius 0 = some (.aload_n 0, 0) := rfl
theorem kX9_setRadius_1 : lkp tX9_setRadius 1 = some (.aload_n 0, 0) := rfl
theorem kX9_setRadius_2 : lkp tX9_setRadius 2 = some (.iload_n 1, 0) := rfl
theorem kX9_setRadius_3 : lkp tX9_setRadius 3 = some (.iload_n 2, 0) := rfl
theorem kX9_setRadius_4 : lkp tX9_setRadius 4 = some (.sipush 198, 0) := rfl
theorem kX9_setRadius_7 : lkp tX9_setRadius 7 = some (.invokevirtual 131, 0) := rfl
theorem kX9_setRadius_10 : lkp tX9_setRadius 10 = some (.putfield 39, 0) := rfl
theorem kX9_setRadius_13 : lkp tX9_setRadius 13 = some (.aload_n 0, 0) := rfl
theorem kX9_setRadius_14 : lkp tX9_setRadius 14 = some (.getfield 39, 0) := rfl
theorem kX9_setRadius_17 : lkp tX9_setRadius 17 = some (.ifCond .ne 13, 30) := rfl
theorem kX9_setRadius_20 : lkp tX9_setRadius 20 = some (.aload_n 0, 0) := rfl
theorem kX9_setRadius_21 : lkp tX9_setRadius 21 = some (.iload_n 1, 0) := rfl
theorem kX9_setRadius_22 : lkp tX9_setRadius 22 = some (.iconst 3, 0) := rfl
theorem kX9_setRadius_23 : lkp tX9_setRadius 23 = some (.iload_n 2, 0) := rfl
theorem kX9_setRadius_24 : lkp tX9_setRadius 24 = some (.invokevirtual 138, 0) := rfl
theorem kX9_setRadius_27 : lkp tX9_setRadius 27 = some (.goto 4, 31) := rfl
theorem kX9_setRadius_30 : lkp tX9_setRadius 30 = some (.iconst 0, 0) := rfl
theorem kX9_setRadius_31 : lkp tX9_setRadius 31 = some (.ireturn, 0) := rfl
theorem kX9_setRule_0 : lkp tX9_setRule 0 = some (.aload_n 0, 0) := rfl
theorem kX9_setRule_1 : lkp tX9_setRule 1 = some (.aload_n 0, 0) := rfl
theorem kX9_setRule_2 : lkp tX9_setRule 2 = some (.iload_n 1, 0) := rfl
theorem kX9_setRule_3 : lkp tX9_setRule 3 = some (.iload_n 2, 0) := rfl
theorem kX9_setRule_4 : lkp tX9_setRule 4 = some (.iconst 1, 0) := rfl
theorem kX9_setRule_5 : lkp tX9_setRule 5 = some (.invokevirtual 131, 0) := rfl
theorem kX9_setRule_8 : lkp tX9_setRule 8 = some (.putfield 39, 0) := rfl
theorem kX9_setRule_11 : lkp tX9_setRule 11 = some (.aload_n 0, 0) := rfl
theorem kX9_setRule_12 : lkp tX9_setRule 12 = some (.getfield 39, 0) := rfl
theorem kX9_setRule_15 : lkp tX9_setRule 15 = some (.ifCond .ne 13, 28) := rfl
theorem kX9_setRule_18 : lkp tX9_setRule 18 = some (.aload_n 0, 0) := rfl
theorem kX9_setRule_19 : lkp tX9_setRule 19 = some (.iload_n 1, 0) := rfl
theorem kX9_setRule_20 : lkp tX9_setRule 20 = some (.iconst 4, 0) := rfl
theorem kX9_setRule_21 : lkp tX9_setRule 21 = some (.iload_n 2, 0) := rfl
theorem kX9_setRule_22 : lkp tX9_setRule 22 = some (.invokevirtual 138, 0) := rfl
theorem kX9_setRule_25 : lkp tX9_setRule 25 = some (.goto 4, 29) := rfl
theorem kX9_setRule_28 : lkp tX9_setRule 28 = some (.iconst 0, 0) := rfl
theorem kX9_setRule_29 : lkp tX9_setRule 29 = some (.ireturn, 0) := rfl
theorem kX9_setLimit_0 : lkp tX9_setLimit 0 = some (.aload_n 0, 0) := rfl
theorem kX9_setLimit_1 : lkp tX9_setLimit 1 = some (.aload_n 0, 0) := rfl
theorem kX9_setLimit_2 : lkp tX9_setLimit 2 = some (.iload_n 1, 0) := rfl
theorem kX9_setLimit_3 : lkp tX9_setLimit 3 = some (.iload_n 2, 0) := rfl
theorem kX9_setLimit_4 : lkp tX9_setLimit 4 = some (.bipush 100, 0) := rfl
theorem kX9_setLimit_6 : lkp tX9_setLimit 6 = some (.invokevirtual 131, 0) := rfl
theorem kX9_setLimit_9 : lkp tX9_setLimit 9 = some (.putfield 39, 0) := rfl
theorem kX9_setLimit_12 : lkp tX9_setLimit 12 = some (.aload_n 0, 0) := rfl
theorem kX9_setLimit_13 : lkp tX9_setLimit 13 = some (.getfield 39, 0) := rfl
theorem kX9_setLimit_16 : lkp tX9_setLimit 16 = some (.ifCond .ne 13, 29) := rfl
theorem kX9_setLimit_19 : lkp tX9_setLimit 19 = some (.aload_n 0, 0) := rfl
theorem kX9_setLimit_20 : lkp tX9_setLimit 20 = some (.iload_n 1, 0) := rfl
theorem kX9_setLimit_21 : lkp tX9_setLimit 21 = some (.iconst 5, 0) := rfl
theorem kX9_setLimit_22 : lkp tX9_setLimit 22 = some (.iload_n 2, 0) := rfl
theorem kX9_setLimit_23 : lkp tX9_setLimit 23 = some (.invokevirtual 138, 0) := rfl
theorem kX9_setLimit_26 : lkp tX9_setLimit 26 = some (.goto 4, 30) := rfl
theorem kX9_setLimit_29 : lkp tX9_setLimit 29 = some (.iconst 0, 0) := rfl
theorem kX9_setLimit_30 : lkp tX9_setLimit 30 = some (.ireturn, 0) := rfl
theorem kX9_setPupils_0 : lkp tX9_setPupils 0 = some (.aload_n 0, 0) := rfl
theorem kX9_setPupils_1 : lkp tX9_setPupils 1 = some (.iload_n 1, 0) := rfl
theorem kX9_setPupils_2 : lkp tX9_setPupils 2 = some (.iconst 0, 0) := rfl
theorem kX9_setPupils_3 : lkp tX9_setPupils 3 = some (.bipush 11, 0) := rfl
theorem kX9_setPupils_5 : lkp tX9_setPupils 5 = some (.invokestatic 45, 0) := rfl
theorem kX9_setPupils_8 : lkp tX9_setPupils 8 = some (.ifCond .eq 15, 23) := rfl
theorem kX9_setPupils_11 : lkp tX9_setPupils 11 = some (.aload_n 0, 0) := rfl
theorem kX9_setPupils_12 : lkp tX9_setPupils 12 = some (.iload_n 2, 0) := rfl
theorem kX9_setPupils_13 : lkp tX9_setPupils 13 = some (.invokevirtual 127, 0) := rfl
theorem kX9_setPupils_16 : lkp tX9_setPupils 16 = some (.ifCond .eq 7, 23) := rfl
theorem kX9_setPupils_19 : lkp tX9_setPupils 19 = some (.iconst 0, 0) := rfl
theorem kX9_setPupils_20 : lkp tX9_setPupils 20 = some (.goto 4, 24) := rfl
theorem kX9_setPupils_23 : lkp tX9_setPupils 23 = some (.iconst 1, 0) := rfl
theorem kX9_setPupils_24 : lkp tX9_setPupils 24 = some (.putfield 39, 0) := rfl
theorem kX9_setPupils_27 : lkp tX9_setPupils 27 = some (.aload_n 0, 0) := rfl
theorem kX9_setPupils_28 : lkp tX9_setPupils 28 = some (.getfield 39, 0) := rfl
theorem kX9_setPupils_31 : lkp tX9_setPupils 31 = some (.ifCond .eq 5, 36) := rfl
theorem kX9_setPupils_34 : lkp tX9_setPupils 34 = some (.iconst 0, 0) := rfl
theorem kX9_setPupils_35 : lkp tX9_setPupils 35 = some (.ireturn, 0) := rfl
theorem kX9_setPupils_36 : lkp tX9_setPupils 36 = some (.aload_n 0, 0) := rfl
theorem kX9_setPupils_37 : lkp tX9_setPupils 37 = some (.getfield 9, 0) := rfl
theorem kX9_setPupils_40 : lkp tX9_setPupils 40 = some (.bipush 45, 0) := rfl
theorem kX9_setPupils_42 : lkp tX9_setPupils 42 = some (.iload_n 1, 0) := rfl
theorem kX9_setPupils_43 : lkp tX9_setPupils 43 = some (.iadd, 0) := rfl
theorem kX9_setPupils_44 : lkp tX9_setPupils 44 = some (.iaload, 0) := rfl
theorem kX9_setPupils_45 : lkp tX9_setPupils 45 = some (.iload_n 2, 0) := rfl
theorem kX9_setPupils_46 : lkp tX9_setPupils 46 = some (.invokestatic 62, 0) := rfl
theorem kX9_setPupils_49 : lkp tX9_setPupils 49 = some (.istore 4, 0) := rfl
theorem kX9_setPupils_51 : lkp tX9_setPupils 51 = some (.aload_n 0, 0) := rfl
theorem kX9_setPupils_52 : lkp tX9_setPupils 52 = some (.invokevirtual 85, 0) := rfl
theorem kX9_setPupils_55 : lkp tX9_setPupils 55 = some (.aload_n 0, 0) := rfl
theorem kX9_setPupils_56 : lkp tX9_setPupils 56 = some (.getfield 9, 0) := rfl
theorem kX9_setPupils_59 : lkp tX9_setPupils 59 = some (.bipush 45, 0) := rfl
theorem kX9_setPupils_61 : lkp tX9_setPupils 61 = some (.iload_n 1, 0) := rfl
theorem kX9_setPupils_62 : lkp tX9_setPupils 62 = some (.iadd, 0) := rfl
theorem kX9_setPupils_63 : lkp tX9_setPupils 63 = some (.iload_n 3, 0) := rfl
theorem kX9_setPupils_64 : lkp tX9_setPupils 64 = some (.ifCond .eq 19, 83) := rfl
theorem kX9_setPupils_67 : lkp tX9_setPupils 67 = some (.aload_n 0, 0) := rfl
theorem kX9_setPupils_68 : lkp tX9_setPupils 68 = some (.getfield 9, 0) := rfl
theorem kX9_setPupils_71 : lkp tX9_setPupils 71 = some (.bipush 45, 0) := rfl
theorem kX9_setPupils_73 : lkp tX9_setPupils 73 = some (.iload_n 1, 0) := rfl
theorem kX9_setPupils_74 : lkp tX9_setPupils 74 = some (.iadd, 0) := rfl
theorem kX9_setPupils_75 : lkp tX9_setPupils 75 = some (.iaload, 0) := rfl
theorem kX9_setPupils_76 : lkp tX9_setPupils 76 = some (.iconst 1, 0) := rfl
theorem kX9_setPupils_77 : lkp tX9_setPupils 77 = some (.iload_n 2, 0) := rfl
theorem kX9_setPupils_78 : lkp tX9_setPupils 78 = some (.ishl, 0) := rfl
theorem kX9_setPupils_79 : lkp tX9_setPupils 79 = some (.ior, 0) := rfl
theorem kX9_setPupils_80 : lkp tX9_setPupils 80 = some (.goto 18, 98) := rfl
theorem kX9_setPupils_83 : lkp tX9_setPupils 83 = some (.aload_n 0, 0) := rfl
theorem kX9_setPupils_84 : lkp tX9_setPupils 84 = some (.getfield 9, 0) := rfl
theorem kX9_setPupils_87 : lkp tX9_setPupils 87 = some (.bipush 45, 0) := rfl
theorem kX9_setPupils_89 : lkp tX9_setPupils 89 = some (.iload_n 1, 0) := rfl
theorem kX9_setPupils_90 : lkp tX9_setPupils 90 = some (.iadd, 0) := rfl
theorem kX9_setPupils_91 : lkp tX9_setPupils 91 = some (.iaload, 0) := rfl
theorem kX9_setPupils_92 : lkp tX9_setPupils 92 = some (.iconst 1, 0) := rfl
theorem kX9_setPupils_93 : lkp tX9_setPupils 93 = some (.iload_n 2, 0) := rfl
theorem kX9_setPupils_94 : lkp tX9_setPupils 94 = some (.ishl, 0) := rfl
theorem kX9_setPupils_95 : lkp tX9_setPupils 95 = some (.iconst (-1), 0) := rfl
theorem kX9_setPupils_96 : lkp tX9_setPupils 96 = some (.ixor, 0) := rfl
theorem kX9_setPupils_97 : lkp tX9_setPupils 97 = some (.iand, 0) := rfl
theorem kX9_setPupils_98 : lkp tX9_setPupils 98 = some (.iastore, 0) := rfl
theorem kX9_setPupils_99 : lkp tX9_setPupils 99 = some (.iload 4, 0) := rfl
theorem kX9_setPupils_101 : lkp tX9_setPupils 101 = some (.ireturn, 0) := rfl
theorem kX9_nearMany_0 : lkp tX9_nearMany 0 = some (.iconst 0, 0) := rfl
theorem kX9_nearMany_1 : lkp tX9_nearMany 1 = some (.istore_n 2, 0) := rfl
theorem kX9_nearMany_2 : lkp tX9_nearMany 2 = some (.iconst 0, 0) := rfl
theorem kX9_nearMany_3 : lkp tX9_nearMany 3 = some (.istore_n 3, 0) := rfl
theorem kX9_nearMany_4 : lkp tX9_nearMany 4 = some (.iload_n 3, 0) := rfl
theorem kX9_nearMany_5 : lkp tX9_nearMany 5 = some (.aload_n 0, 0) := rfl
theorem kX9_nearMany_6 : lkp tX9_nearMany 6 = some (.getfield 9, 0) := rfl
theorem kX9_nearMany_9 : lkp tX9_nearMany 9 = some (.iconst 1, 0) := rfl
theorem kX9_nearMany_10 : lkp tX9_nearMany 10 = some (.iaload, 0) := rfl
theorem kX9_nearMany_11 : lkp tX9_nearMany 11 = some (.if_icmp .ge 26, 37) := rfl
theorem kX9_nearMany_14 : lkp tX9_nearMany 14 = some (.iload_n 2, 0) := rfl
theorem kX9_nearMany_15 : lkp tX9_nearMany 15 = some (.aload_n 0, 0) := rfl
theorem kX9_nearMany_16 : lkp tX9_nearMany 16 = some (.iload_n 3, 0) := rfl
theorem kX9_nearMany_17 : lkp tX9_nearMany 17 = some (.iload_n 1, 0) := rfl
theorem kX9_nearMany_18 : lkp tX9_nearMany 18 = some (.invokevirtual 69, 0) := rfl
theorem kX9_nearMany_21 : lkp tX9_nearMany 21 = some (.ifCond .eq 7, 28) := rfl
theorem kX9_nearMany_24 : lkp tX9_nearMany 24 = some (.iconst 1, 0) := rfl
theorem kX9_nearMany_25 : lkp tX9_nearMany 25 = some (.goto 4, 29) := rfl
theorem kX9_nearMany_28 : lkp tX9_nearMany 28 = some (.iconst 0, 0) := rfl
theorem kX9_nearMany_29 : lkp tX9_nearMany 29 = some (.iadd, 0) := rfl
theorem kX9_nearMany_30 : lkp tX9_nearMany 30 = some (.istore_n 2, 0) := rfl
theorem kX9_nearMany_31 : lkp tX9_nearMany 31 = some (.iinc 3 1, 0) := rfl
theorem kX9_nearMany_34 : lkp tX9_nearMany 34 = some (.goto (-30), 4) := rfl
theorem kX9_nearMany_37 : lkp tX9_nearMany 37 = some (.iload_n 2, 0) := rfl
theorem kX9_nearMany_38 : lkp tX9_nearMany 38 = some (.ireturn, 0) := rfl
theorem kX9_school_0 : lkp tX9_school 0 = some (.aload_n 0, 0) := rfl
theorem kX9_school_1 : lkp tX9_school 1 = some (.iconst 0, 0) := rfl
theorem kX9_school_2 : lkp tX9_school 2 = some (.putfield 39, 0) := rfl
theorem kX9_school_5 : lkp tX9_school 5 = some (.aload_n 0, 0) := rfl
theorem kX9_school_6 : lkp tX9_school 6 = some (.iload_n 1, 0) := rfl
theorem kX9_school_7 : lkp tX9_school 7 = some (.invokevirtual 127, 0) := rfl
theorem kX9_school_10 : lkp tX9_school 10 = some (.ifCond .ne 9, 19) := rfl
theorem kX9_school_13 : lkp tX9_school 13 = some (.aload_n 0, 0) := rfl
theorem kX9_school_14 : lkp tX9_school 14 = some (.iconst 1, 0) := rfl
theorem kX9_school_15 : lkp tX9_school 15 = some (.invokevirtual 82, 0) := rfl
theorem kX9_school_18 : lkp tX9_school 18 = some (.ireturn, 0) := rfl
theorem kX9_school_19 : lkp tX9_school 19 = some (.iload_n 2, 0) := rfl
theorem kX9_school_20 : lkp tX9_school 20 = some (.iconst 0, 0) := rfl
theorem kX9_school_21 : lkp tX9_school 21 = some (.iconst 4, 0) := rfl
theorem kX9_school_22 : lkp tX9_school 22 = some (.invokestatic 45, 0) := rfl
theorem kX9_school_25 : lkp tX9_school 25 = some (.ifCond .eq 12, 37) := rfl
theorem kX9_school_28 : lkp tX9_school 28 = some (.aload_n 0, 0) := rfl
theorem kX9_school_29 : lkp tX9_school 29 = some (.iload_n 1, 0) := rfl
theorem kX9_school_30 : lkp tX9_school 30 = some (.iload_n 2, 0) := rfl
theorem kX9_school_31 : lkp tX9_school 31 = some (.iconst 2, 0) := rfl
theorem kX9_school_32 : lkp tX9_school 32 = some (.iadd, 0) := rfl
theorem kX9_school_33 : lkp tX9_school 33 = some (.invokevirtual 53, 0) := rfl
theorem kX9_school_36 : lkp tX9_school 36 = some (.ireturn, 0) := rfl
theorem kX9_school_37 : lkp tX9_school 37 = some (.iload_n 2, 0) := rfl
theorem kX9_school_38 : lkp tX9_school 38 = some (.tableswitch 54 5 8 #[30, 36, 42, 48], 0) := rfl
theorem kX9_school_68 : lkp tX9_school 68 = some (.aload_n 0, 0) := rfl
theorem kX9_school_69 : lkp tX9_school 69 = some (.iload_n 1, 0) := rfl
theorem kX9_school_70 : lkp tX9_school 70 = some (.invokevirtual 78, 0) := rfl
theorem kX9_school_73 : lkp tX9_school 73 = some (.ireturn, 0) := rfl
theorem kX9_school_74 : lkp tX9_school 74 = some (.aload_n 0, 0) := rfl
theorem kX9_school_75 : lkp tX9_school 75 = some (.iload_n 1, 0) := rfl
theorem kX9_school_76 : lkp tX9_school 76 = some (.invokevirtual 104, 0) := rfl
theorem kX9_school_79 : lkp tX9_school 79 = some (.ireturn, 0) := rfl
theorem kX9_school_80 : lkp tX9_school 80 = some (.aload_n 0, 0) := rfl
theorem kX9_school_81 : lkp tX9_school 81 = some (.iload_n 1, 0) := rfl
theorem kX9_school_82 : lkp tX9_school 82 = some (.invokevirtual 107, 0) := rfl
theorem kX9_school_85 : lkp tX9_school 85 = some (.ireturn, 0) := rfl
theorem kX9_school_86 : lkp tX9_school 86 = some (.aload_n 0, 0) := rfl
theorem kX9_school_87 : lkp tX9_school 87 = some (.iload_n 1, 0) := rfl
theorem kX9_school_88 : lkp tX9_school 88 = some (.invokevirtual 141, 0) := rfl
theorem kX9_school_91 : lkp tX9_school 91 = some (.ireturn, 0) := rfl
theorem kX9_school_92 : lkp tX9_school 92 = some (.aload_n 0, 0) := rfl
theorem kX9_school_93 : lkp tX9_school 93 = some (.iconst 2, 0) := rfl
theorem kX9_school_94 : lkp tX9_school 94 = some (.invokevirtual 82, 0) := rfl
theorem kX9_school_97 : lkp tX9_school 97 = some (.ireturn, 0) := rfl
theorem kX9_held_0 : lkp tX9_held 0 = some (.aload_n 0, 0) := rfl
theorem kX9_held_1 : lkp tX9_held 1 = some (.iconst 0, 0) := rfl
theorem kX9_held_2 : lkp tX9_held 2 = some (.putfield 39, 0) := rfl
theorem kX9_held_5 : lkp tX9_held 5 = some (.aload_n 0, 0) := rfl
theorem kX9_held_6 : lkp tX9_held 6 = some (.iload_n 1, 0) := rfl
theorem kX9_held_7 : lkp tX9_held 7 = some (.invokevirtual 127, 0) := rfl
theorem kX9_held_10 : lkp tX9_held 10 = some (.ifCond .ne 9, 19) := rfl
theorem kX9_held_13 : lkp tX9_held 13 = some (.aload_n 0, 0) := rfl
theorem kX9_held_14 : lkp tX9_held 14 = some (.iconst 1, 0) := rfl
theorem kX9_held_15 : lkp tX9_held 15 = some (.invokevirtual 82, 0) := rfl
theorem kX9_held_18 : lkp tX9_held 18 = some (.ireturn, 0) := rfl
theorem kX9_held_19 : lkp tX9_held 19 = some (.aload_n 0, 0) := rfl
theorem kX9_held_20 : lkp tX9_held 20 = some (.iload_n 1, 0) := rfl
theorem kX9_held_21 : lkp tX9_held 21 = some (.iload_n 2, 0) := rfl
theorem kX9_held_22 : lkp tX9_held 22 = some (.invokevirtual 144, 0) := rfl
theorem kX9_held_25 : lkp tX9_held 25 = some (.istore_n 3, 0) := rfl
theorem kX9_held_26 : lkp tX9_held 26 = some (.iload_n 3, 0) := rfl
theorem kX9_held_27 : lkp tX9_held 27 = some (.iconst (-1), 0) := rfl
theorem kX9_held_28 : lkp tX9_held 28 = some (.if_icmp .ne 11, 39) := rfl
theorem kX9_held_31 : lkp tX9_held 31 = some (.aload_n 0, 0) := rfl
theorem kX9_held_32 : lkp tX9_held 32 = some (.iconst 2, 0) := rfl
theorem kX9_held_33 : lkp tX9_held 33 = some (.invokevirtual 82, 0) := rfl
theorem kX9_held_36 : lkp tX9_held 36 = some (.goto 4, 40) := rfl
theorem kX9_held_39 : lkp tX9_held 39 = some (.iload_n 3, 0) := rfl
theorem kX9_held_40 : lkp tX9_held 40 = some (.ireturn, 0) := rfl
theorem kX9_waiting_0 : lkp tX9_waiting 0 = some (.aload_n 0, 0) := rfl
theorem kX9_waiting_1 : lkp tX9_waiting 1 = some (.iconst 0, 0) := rfl
theorem kX9_waiting_2 : lkp tX9_waiting 2 = some (.putfield 39, 0) := rfl
theorem kX9_waiting_5 : lkp tX9_waiting 5 = some (.aload_n 0, 0) := rfl
theorem kX9_waiting_6 : lkp tX9_waiting 6 = some (.iload_n 1, 0) := rfl
theorem kX9_waiting_7 : lkp tX9_waiting 7 = some (.invokevirtual 127, 0) := rfl
theorem kX9_waiting_10 : lkp tX9_waiting 10 = some (.ifCond .ne 9, 19) := rfl
theorem kX9_waiting_13 : lkp tX9_waiting 13 = some (.aload_n 0, 0) := rfl
theorem kX9_waiting_14 : lkp tX9_waiting 14 = some (.iconst 1, 0) := rfl
theorem kX9_waiting_15 : lkp tX9_waiting 15 = some (.invokevirtual 82, 0) := rfl
theorem kX9_waiting_18 : lkp tX9_waiting 18 = some (.ireturn, 0) := rfl
theorem kX9_waiting_19 : lkp tX9_waiting 19 = some (.aload_n 0, 0) := rfl
theorem kX9_waiting_20 : lkp tX9_waiting 20 = some (.iload_n 1, 0) := rfl
theorem kX9_waiting_21 : lkp tX9_waiting 21 = some (.iload_n 2, 0) := rfl
theorem kX9_waiting_22 : lkp tX9_waiting 22 = some (.invokevirtual 121, 0) := rfl
theorem kX9_waiting_25 : lkp tX9_waiting 25 = some (.istore_n 3, 0) := rfl
theorem kX9_waiting_26 : lkp tX9_waiting 26 = some (.iload_n 3, 0) := rfl
theorem kX9_waiting_27 : lkp tX9_waiting 27 = some (.iconst (-1), 0) := rfl
theorem kX9_waiting_28 : lkp tX9_waiting 28 = some (.if_icmp .ne 11, 39) := rfl
theorem kX9_waiting_31 : lkp tX9_waiting 31 = some (.aload_n 0, 0) := rfl
theorem kX9_waiting_32 : lkp tX9_waiting 32 = some (.iconst 2, 0) := rfl
theorem kX9_waiting_33 : lkp tX9_waiting 33 = some (.invokevirtual 82, 0) := rfl
theorem kX9_waiting_36 : lkp tX9_waiting 36 = some (.goto 4, 40) := rfl
theorem kX9_waiting_39 : lkp tX9_waiting 39 = some (.iload_n 3, 0) := rfl
theorem kX9_waiting_40 : lkp tX9_waiting 40 = some (.ireturn, 0) := rfl
theorem kX9_areRight_0 : lkp tX9_areRight 0 = some (.iload_n 0, 0) := rfl
theorem kX9_areRight_1 : lkp tX9_areRight 1 = some (.iconst 0, 0) := rfl
theorem kX9_areRight_2 : lkp tX9_areRight 2 = some (.bipush 99, 0) := rfl
theorem kX9_areRight_4 : lkp tX9_areRight 4 = some (.invokestatic 45, 0) := rfl
theorem kX9_areRight_7 : lkp tX9_areRight 7 = some (.ifCond .eq 38, 45) := rfl
theorem kX9_areRight_10 : lkp tX9_areRight 10 = some (.iload_n 1, 0) := rfl
theorem kX9_areRight_11 : lkp tX9_areRight 11 = some (.iconst 0, 0) := rfl
theorem kX9_areRight_12 : lkp tX9_areRight 12 = some (.bipush 99, 0) := rfl
theorem kX9_areRight_14 : lkp tX9_areRight 14 = some (.invokestatic 45, 0) := rfl
theorem kX9_areRight_17 : lkp tX9_areRight 17 = some (.ifCond .eq 28, 45) := rfl
theorem kX9_areRight_20 : lkp tX9_areRight 20 = some (.iload_n 2, 0) := rfl
theorem kX9_areRight_21 : lkp tX9_areRight 21 = some (.iconst 0, 0) := rfl
theorem kX9_areRight_22 : lkp tX9_areRight 22 = some (.bipush 11, 0) := rfl
theorem kX9_areRight_24 : lkp tX9_areRight 24 = some (.invokestatic 45, 0) := rfl
theorem kX9_areRight_27 : lkp tX9_areRight 27 = some (.ifCond .eq 18, 45) := rfl
theorem kX9_areRight_30 : lkp tX9_areRight 30 = some (.iload_n 3, 0) := rfl
theorem kX9_areRight_31 : lkp tX9_areRight 31 = some (.iconst 0, 0) := rfl
theorem kX9_areRight_32 : lkp tX9_areRight 32 = some (.sipush 999, 0) := rfl
theorem kX9_areRight_35 : lkp tX9_areRight 35 = some (.invokestatic 45, 0) := rfl
theorem kX9_areRight_38 : lkp tX9_areRight 38 = some (.ifCond .eq 7, 45) := rfl
theorem kX9_areRight_41 : lkp tX9_areRight 41 = some (.iconst 1, 0) := rfl
theorem kX9_areRight_42 : lkp tX9_areRight 42 = some (.goto 4, 46) := rfl
theorem kX9_areRight_45 : lkp tX9_areRight 45 = some (.iconst 0, 0) := rfl
theorem kX9_areRight_46 : lkp tX9_areRight 46 = some (.ireturn, 0) := rfl
theorem kX9_comes_0 : lkp tX9_comes 0 = some (.aload_n 0, 0) := rfl
theorem kX9_comes_1 : lkp tX9_comes 1 = some (.getfield 9, 0) := rfl
theorem kX9_comes_4 : lkp tX9_comes 4 = some (.iconst 1, 0) := rfl
theorem kX9_comes_5 : lkp tX9_comes 5 = some (.iaload, 0) := rfl
theorem kX9_comes_6 : lkp tX9_comes 6 = some (.istore 5, 0) := rfl
theorem kX9_comes_8 : lkp tX9_comes 8 = some (.aload_n 0, 0) := rfl
theorem kX9_comes_9 : lkp tX9_comes 9 = some (.iload 5, 0) := rfl
theorem kX9_comes_11 : lkp tX9_comes 11 = some (.iconst 0, 0) := rfl
theorem kX9_comes_12 : lkp tX9_comes 12 = some (.iload_n 1, 0) := rfl
theorem kX9_comes_13 : lkp tX9_comes 13 = some (.invokevirtual 114, 0) := rfl
theorem kX9_comes_16 : lkp tX9_comes 16 = some (.aload_n 0, 0) := rfl
theorem kX9_comes_17 : lkp tX9_comes 17 = some (.iload 5, 0) := rfl
theorem kX9_comes_19 : lkp tX9_comes 19 = some (.iconst 1, 0) := rfl
theorem kX9_comes_20 : lkp tX9_comes 20 = some (.iload_n 2, 0) := rfl
theorem kX9_comes_21 : lkp tX9_comes 21 = some (.invokevirtual 114, 0) := rfl
theorem kX9_comes_24 : lkp tX9_comes 24 = some (.aload_n 0, 0) := rfl
theorem kX9_comes_25 : lkp tX9_comes 25 = some (.iload 5, 0) := rfl
theorem kX9_comes_27 : lkp tX9_comes 27 = some (.iconst 2, 0) := rfl
theorem kX9_comes_28 : lkp tX9_comes 28 = some (.iload_n 3, 0) := rfl
theorem kX9_comes_29 : lkp tX9_comes 29 = some (.invokevirtual 114, 0) := rfl
theorem kX9_comes_32 : lkp tX9_comes 32 = some (.aload_n 0, 0) := rfl
theorem kX9_comes_33 : lkp tX9_comes 33 = some (.iload 5, 0) := rfl
theorem kX9_comes_35 : lkp tX9_comes 35 = some (.iconst 3, 0) := rfl
theorem kX9_comes_36 : lkp tX9_comes 36 = some (.iload 4, 0) := rfl
theorem kX9_comes_38 : lkp tX9_comes 38 = some (.invokevirtual 114, 0) := rfl
theorem kX9_comes_41 : lkp tX9_comes 41 = some (.aload_n 0, 0) := rfl
theorem kX9_comes_42 : lkp tX9_comes 42 = some (.iload 5, 0) := rfl
theorem kX9_comes_44 : lkp tX9_comes 44 = some (.iconst 4, 0) := rfl
theorem kX9_comes_45 : lkp tX9_comes 45 = some (.iconst (-1), 0) := rfl
theorem kX9_comes_46 : lkp tX9_comes 46 = some (.invokevirtual 114, 0) := rfl
theorem kX9_comes_49 : lkp tX9_comes 49 = some (.aload_n 0, 0) := rfl
theorem kX9_comes_50 : lkp tX9_comes 50 = some (.iload 5, 0) := rfl
theorem kX9_comes_52 : lkp tX9_comes 52 = some (.iconst 5, 0) := rfl
theorem kX9_comes_53 : lkp tX9_comes 53 = some (.iconst 0, 0) := rfl
theorem kX9_comes_54 : lkp tX9_comes 54 = some (.invokevirtual 114, 0) := rfl
theorem kX9_comes_57 : lkp tX9_comes 57 = some (.aload_n 0, 0) := rfl
theorem kX9_comes_58 : lkp tX9_comes 58 = some (.iload 5, 0) := rfl
theorem kX9_comes_60 : lkp tX9_comes 60 = some (.bipush 10, 0) := rfl
theorem kX9_comes_62 : lkp tX9_comes 62 = some (.iconst (-1), 0) := rfl
theorem kX9_comes_63 : lkp tX9_comes 63 = some (.invokevirtual 114, 0) := rfl
theorem kX9_comes_66 : lkp tX9_comes 66 = some (.aload_n 0, 0) := rfl
theorem kX9_comes_67 : lkp tX9_comes 67 = some (.iload 5, 0) := rfl
theorem kX9_comes_69 : lkp tX9_comes 69 = some (.bipush 11, 0) := rfl
theorem kX9_comes_71 : lkp tX9_comes 71 = some (.iconst 0, 0) := rfl
theorem kX9_comes_72 : lkp tX9_comes 72 = some (.invokevirtual 114, 0) := rfl
theorem kX9_comes_75 : lkp tX9_comes 75 = some (.aload_n 0, 0) := rfl
theorem kX9_comes_76 : lkp tX9_comes 76 = some (.iload 5, 0) := rfl
theorem kX9_comes_78 : lkp tX9_comes 78 = some (.bipush 12, 0) := rfl
theorem kX9_comes_80 : lkp tX9_comes 80 = some (.iconst 0, 0) := rfl
theorem kX9_comes_81 : lkp tX9_comes 81 = some (.invokevirtual 114, 0) := rfl
theorem kX9_comes_84 : lkp tX9_comes 84 = some (.aload_n 0, 0) := rfl
theorem kX9_comes_85 : lkp tX9_comes 85 = some (.getfield 9, 0) := rfl
theorem kX9_comes_88 : lkp tX9_comes 88 = some (.iconst 1, 0) := rfl
theorem kX9_comes_89 : lkp tX9_comes 89 = some (.dup2, 0) := rfl
theorem kX9_comes_90 : lkp tX9_comes 90 = some (.iaload, 0) := rfl
theorem kX9_comes_91 : lkp tX9_comes 91 = some (.iconst 1, 0) := rfl
theorem kX9_comes_92 : lkp tX9_comes 92 = some (.iadd, 0) := rfl
theorem kX9_comes_93 : lkp tX9_comes 93 = some (.iastore, 0) := rfl
theorem kX9_comes_94 : lkp tX9_comes 94 = some (.iload 5, 0) := rfl
theorem kX9_comes_96 : lkp tX9_comes 96 = some (.ireturn, 0) := rfl
theorem kX9_addChild_0 : lkp tX9_addChild 0 = some (.aload_n 0, 0) := rfl
theorem kX9_addChild_1 : lkp tX9_addChild 1 = some (.iconst 0, 0) := rfl
theorem kX9_addChild_2 : lkp tX9_addChild 2 = some (.putfield 39, 0) := rfl
theorem kX9_addChild_5 : lkp tX9_addChild 5 = some (.iload_n 1, 0) := rfl
theorem kX9_addChild_6 : lkp tX9_addChild 6 = some (.iload_n 2, 0) := rfl
theorem kX9_addChild_7 : lkp tX9_addChild 7 = some (.iload_n 3, 0) := rfl
theorem kX9_addChild_8 : lkp tX9_addChild 8 = some (.iload 4, 0) := rfl
theorem kX9_addChild_10 : lkp tX9_addChild 10 = some (.invokestatic 147, 0) := rfl
theorem kX9_addChild_13 : lkp tX9_addChild 13 = some (.ifCond .ne 9, 22) := rfl
theorem kX9_addChild_16 : lkp tX9_addChild 16 = some (.aload_n 0, 0) := rfl
theorem kX9_addChild_17 : lkp tX9_addChild 17 = some (.iconst 1, 0) := rfl
theorem kX9_addChild_18 : lkp tX9_addChild 18 = some (.invokevirtual 82, 0) := rfl
theorem kX9_addChild_21 : lkp tX9_addChild 21 = some (.ireturn, 0) := rfl
theorem kX9_addChild_22 : lkp tX9_addChild 22 = some (.aload_n 0, 0) := rfl
theorem kX9_addChild_23 : lkp tX9_addChild 23 = some (.getfield 9, 0) := rfl
theorem kX9_addChild_26 : lkp tX9_addChild 26 = some (.iconst 1, 0) := rfl
theorem kX9_addChild_27 : lkp tX9_addChild 27 = some (.iaload, 0) := rfl
theorem kX9_addChild_28 : lkp tX9_addChild 28 = some (.bipush 24, 0) := rfl
theorem kX9_addChild_30 : lkp tX9_addChild 30 = some (.if_icmp .ne 9, 39) := rfl
theorem kX9_addChild_33 : lkp tX9_addChild 33 = some (.aload_n 0, 0) := rfl
theorem kX9_addChild_34 : lkp tX9_addChild 34 = some (.iconst 2, 0) := rfl
theorem kX9_addChild_35 : lkp tX9_addChild 35 = some (.invokevirtual 82, 0) := rfl
theorem kX9_addChild_38 : lkp tX9_addChild 38 = some (.ireturn, 0) := rfl
theorem kX9_addChild_39 : lkp tX9_addChild 39 = some (.aload_n 0, 0) := rfl
theorem kX9_addChild_40 : lkp tX9_addChild 40 = some (.invokevirtual 85, 0) := rfl
theorem kX9_addChild_43 : lkp tX9_addChild 43 = some (.aload_n 0, 0) := rfl
theorem kX9_addChild_44 : lkp tX9_addChild 44 = some (.iload_n 1, 0) := rfl
theorem kX9_addChild_45 : lkp tX9_addChild 45 = some (.iload_n 2, 0) := rfl
theorem kX9_addChild_46 : lkp tX9_addChild 46 = some (.iload_n 3, 0) := rfl
theorem kX9_addChild_47 : lkp tX9_addChild 47 = some (.iload 4, 0) := rfl
theorem kX9_addChild_49 : lkp tX9_addChild 49 = some (.invokevirtual 151, 0) := rfl
theorem kX9_addChild_52 : lkp tX9_addChild 52 = some (.ireturn, 0) := rfl
theorem kX9_isAt_0 : lkp tX9_isAt 0 = some (.aload_n 0, 0) := rfl
theorem kX9_isAt_1 : lkp tX9_isAt 1 = some (.getfield 155, 0) := rfl
theorem kX9_isAt_4 : lkp tX9_isAt 4 = some (.ifCond .ne 35, 39) := rfl
theorem kX9_isAt_7 : lkp tX9_isAt 7 = some (.aload_n 0, 0) := rfl
theorem kX9_isAt_8 : lkp tX9_isAt 8 = some (.getfield 159, 0) := rfl
theorem kX9_isAt_11 : lkp tX9_isAt 11 = some (.aload_n 0, 0) := rfl
theorem kX9_isAt_12 : lkp tX9_isAt 12 = some (.getfield 162, 0) := rfl
theorem kX9_isAt_15 : lkp tX9_isAt 15 = some (.if_icmp .ge 24, 39) := rfl
theorem kX9_isAt_18 : lkp tX9_isAt 18 = some (.aload_n 0, 0) := rfl
theorem kX9_isAt_19 : lkp tX9_isAt 19 = some (.getfield 26, 0) := rfl
theorem kX9_isAt_22 : lkp tX9_isAt 22 = some (.aload_n 0, 0) := rfl
theorem kX9_isAt_23 : lkp tX9_isAt 23 = some (.getfield 159, 0) := rfl
theorem kX9_isAt_26 : lkp tX9_isAt 26 = some (.caload, 0) := rfl
theorem kX9_isAt_27 : lkp tX9_isAt 27 = some (.iload_n 1, 0) := rfl
theorem kX9_isAt_28 : lkp tX9_isAt 28 = some (.iload_n 2, 0) := rfl
theorem kX9_isAt_29 : lkp tX9_isAt 29 = some (.invokestatic 45, 0) := rfl
theorem kX9_isAt_32 : lkp tX9_isAt 32 = some (.ifCond .eq 7, 39) := rfl
theorem kX9_isAt_35 : lkp tX9_isAt 35 = some (.iconst 1, 0) := rfl
theorem kX9_isAt_36 : lkp tX9_isAt 36 = some (.goto 4, 40) := rfl
theorem kX9_isAt_39 : lkp tX9_isAt 39 = some (.iconst 0, 0) := rfl
theorem kX9_isAt_40 : lkp tX9_isAt 40 = some (.ireturn, 0) := rfl
theorem kX9_expects_0 : lkp tX9_expects 0 = some (.aload_n 0, 0) := rfl
theorem kX9_expects_1 : lkp tX9_expects 1 = some (.iload_n 1, 0) := rfl
theorem kX9_expects_2 : lkp tX9_expects 2 = some (.iload_n 1, 0) := rfl
theorem kX9_expects_3 : lkp tX9_expects 3 = some (.invokevirtual 165, 0) := rfl
theorem kX9_expects_6 : lkp tX9_expects 6 = some (.ifCond .eq 16, 22) := rfl
theorem kX9_expects_9 : lkp tX9_expects 9 = some (.aload_n 0, 0) := rfl
theorem kX9_expects_10 : lkp tX9_expects 10 = some (.dup, 0) := rfl
theorem kX9_expects_11 : lkp tX9_expects 11 = some (.getfield 159, 0) := rfl
theorem kX9_expects_14 : lkp tX9_expects 14 = some (.iconst 1, 0) := rfl
theorem kX9_expects_15 : lkp tX9_expects 15 = some (.iadd, 0) := rfl
theorem kX9_expects_16 : lkp tX9_expects 16 = some (.putfield 159, 0) := rfl
theorem kX9_expects_19 : lkp tX9_expects 19 = some (.goto 8, 27) := rfl
theorem kX9_expects_22 : lkp tX9_expects 22 = some (.aload_n 0, 0) := rfl
theorem kX9_expects_23 : lkp tX9_expects 23 = some (.iconst 1, 0) := rfl
theorem kX9_expects_24 : lkp tX9_expects 24 = some (.putfield 155, 0) := rfl
theorem kX9_expects_27 : lkp tX9_expects 27 = some (.return_, 0) := rfl
theorem kX9_digit_0 : lkp tX9_digit 0 = some (.aload_n 0, 0) := rfl
theorem kX9_digit_1 : lkp tX9_digit 1 = some (.bipush 48, 0) := rfl
theorem kX9_digit_3 : lkp tX9_digit 3 = some (.bipush 57, 0) := rfl
theorem kX9_digit_5 : lkp tX9_digit 5 = some (.invokevirtual 165, 0) := rfl
theorem kX9_digit_8 : lkp tX9_digit 8 = some (.ifCond .ne 10, 18) := rfl
theorem kX9_digit_11 : lkp tX9_digit 11 = some (.aload_n 0, 0) := rfl
theorem kX9_digit_12 : lkp tX9_digit 12 = some (.iconst 1, 0) := rfl
theorem kX9_digit_13 : lkp tX9_digit 13 = some (.putfield 155, 0) := rfl
theorem kX9_digit_16 : lkp tX9_digit 16 = some (.iconst 0, 0) := rfl
theorem kX9_digit_17 : lkp tX9_digit 17 = some (.ireturn, 0) := rfl
theorem kX9_digit_18 : lkp tX9_digit 18 = some (.aload_n 0, 0) := rfl
theorem kX9_digit_19 : lkp tX9_digit 19 = some (.dup, 0) := rfl
theorem kX9_digit_20 : lkp tX9_digit 20 = some (.getfield 159, 0) := rfl
theorem kX9_digit_23 : lkp tX9_digit 23 = some (.iconst 1, 0) := rfl
theorem kX9_digit_24 : lkp tX9_digit 24 = some (.iadd, 0) := rfl
theorem kX9_digit_25 : lkp tX9_digit 25 = some (.putfield 159, 0) := rfl
theorem kX9_digit_28 : lkp tX9_digit 28 = some (.aload_n 0, 0) := rfl
theorem kX9_digit_29 : lkp tX9_digit 29 = some (.getfield 26, 0) := rfl
theorem kX9_digit_32 : lkp tX9_digit 32 = some (.aload_n 0, 0) := rfl
theorem kX9_digit_33 : lkp tX9_digit 33 = some (.getfield 159, 0) := rfl
theorem kX9_digit_36 : lkp tX9_digit 36 = some (.iconst 1, 0) := rfl
theorem kX9_digit_37 : lkp tX9_digit 37 = some (.isub, 0) := rfl
theorem kX9_digit_38 : lkp tX9_digit 38 = some (.caload, 0) := rfl
theorem kX9_digit_39 : lkp tX9_digit 39 = some (.bipush 48, 0) := rfl
theorem kX9_digit_41 : lkp tX9_digit 41 = some (.isub, 0) := rfl
theorem kX9_digit_42 : lkp tX9_digit 42 = some (.ireturn, 0) := rfl
theorem kX9_number_0 : lkp tX9_number 0 = some (.aload_n 0, 0) := rfl
theorem kX9_number_1 : lkp tX9_number 1 = some (.invokevirtual 169, 0) := rfl
theorem kX9_number_4 : lkp tX9_number 4 = some (.istore_n 1, 0) := rfl
theorem kX9_number_5 : lkp tX9_number 5 = some (.iconst 1, 0) := rfl
theorem kX9_number_6 : lkp tX9_number 6 = some (.istore_n 2, 0) := rfl
theorem kX9_number_7 : lkp tX9_number 7 = some (.iload_n 2, 0) := rfl
theorem kX9_number_8 : lkp tX9_number 8 = some (.iconst 3, 0) := rfl
theorem kX9_number_9 : lkp tX9_number 9 = some (.if_icmp .ge 30, 39) := rfl
theorem kX9_number_12 : lkp tX9_number 12 = some (.aload_n 0, 0) := rfl
theorem kX9_number_13 : lkp tX9_number 13 = some (.bipush 48, 0) := rfl
theorem kX9_number_15 : lkp tX9_number 15 = some (.bipush 57, 0) := rfl
theorem kX9_number_17 : lkp tX9_number 17 = some (.invokevirtual 165, 0) := rfl
theorem kX9_number_20 : lkp tX9_number 20 = some (.ifCond .eq 19, 39) := rfl
theorem kX9_number_23 : lkp tX9_number 23 = some (.bipush 10, 0) := rfl
theorem kX9_number_25 : lkp tX9_number 25 = some (.iload_n 1, 0) := rfl
theorem kX9_number_26 : lkp tX9_number 26 = some (.imul, 0) := rfl
theorem kX9_number_27 : lkp tX9_number 27 = some (.aload_n 0, 0) := rfl
theorem kX9_number_28 : lkp tX9_number 28 = some (.invokevirtual 169, 0) := rfl
theorem kX9_number_31 : lkp tX9_number 31 = some (.iadd, 0) := rfl
theorem kX9_number_32 : lkp tX9_number 32 = some (.istore_n 1, 0) := rfl
theorem kX9_number_33 : lkp tX9_number 33 = some (.iinc 2 1, 0) := rfl
theorem kX9_number_36 : lkp tX9_number 36 = some (.goto (-29), 7) := rfl
theorem kX9_number_39 : lkp tX9_number 39 = some (.iload_n 1, 0) := rfl
theorem kX9_number_40 : lkp tX9_number 40 = some (.ireturn, 0) := rfl
theorem kX9_isNewChoice_0 : lkp tX9_isNewChoice 0 = some (.aload_n 0, 0) := rfl
theorem kX9_isNewChoice_1 : lkp tX9_isNewChoice 1 = some (.bipush 48, 0) := rfl
theorem kX9_isNewChoice_3 : lkp tX9_isNewChoice 3 = some (.bipush 53, 0) := rfl
theorem kX9_isNewChoice_5 : lkp tX9_isNewChoice 5 = some (.invokevirtual 165, 0) := rfl
theorem kX9_isNewChoice_8 : lkp tX9_isNewChoice 8 = some (.ifCond .eq 15, 23) := rfl
theorem kX9_isNewChoice_11 : lkp tX9_isNewChoice 11 = some (.aload_n 0, 0) := rfl
theorem kX9_isNewChoice_12 : lkp tX9_isNewChoice 12 = some (.getfield 172, 0) := rfl
theorem kX9_isNewChoice_15 : lkp tX9_isNewChoice 15 = some (.iconst 4, 0) := rfl
theorem kX9_isNewChoice_16 : lkp tX9_isNewChoice 16 = some (.if_icmp .ge 7, 23) := rfl
theorem kX9_isNewChoice_19 : lkp tX9_isNewChoice 19 = some (.iconst 1, 0) := rfl
theorem kX9_isNewChoice_20 : lkp tX9_isNewChoice 20 = some (.goto 4, 24) := rfl
theorem kX9_isNewChoice_23 : lkp tX9_isNewChoice 23 = some (.iconst 0, 0) := rfl
theorem kX9_isNewChoice_24 : lkp tX9_isNewChoice 24 = some (.istore_n 1, 0) := rfl
theorem kX9_isNewChoice_25 : lkp tX9_isNewChoice 25 = some (.iconst 0, 0) := rfl
theorem kX9_isNewChoice_26 : lkp tX9_isNewChoice 26 = some (.istore_n 2, 0) := rfl
theorem kX9_isNewChoice_27 : lkp tX9_isNewChoice 27 = some (.iload_n 2, 0) := rfl
theorem kX9_isNewChoice_28 : lkp tX9_isNewChoice 28 = some (.aload_n 0, 0) := rfl
theorem kX9_isNewChoice_29 : lkp tX9_isNewChoice 29 = some (.getfield 172, 0) := rfl
theorem kX9_isNewChoice_32 : lkp tX9_isNewChoice 32 = some (.if_icmp .ge 40, 72) := rfl
theorem kX9_isNewChoice_35 : lkp tX9_isNewChoice 35 = some (.iload_n 1, 0) := rfl
theorem kX9_isNewChoice_36 : lkp tX9_isNewChoice 36 = some (.ifCond .eq 36, 72) := rfl
theorem kX9_isNewChoice_39 : lkp tX9_isNewChoice 39 = some (.aload_n 0, 0) := rfl
theorem kX9_isNewChoice_40 : lkp tX9_isNewChoice 40 = some (.getfield 30, 0) := rfl
theorem kX9_isNewChoice_43 : lkp tX9_isNewChoice 43 = some (.iload_n 2, 0) := rfl
theorem kX9_isNewChoice_44 : lkp tX9_isNewChoice 44 = some (.iaload, 0) := rfl
theorem kX9_isNewChoice_45 : lkp tX9_isNewChoice 45 = some (.aload_n 0, 0) := rfl
theorem kX9_isNewChoice_46 : lkp tX9_isNewChoice 46 = some (.getfield 26, 0) := rfl
theorem kX9_isNewChoice_49 : lkp tX9_isNewChoice 49 = some (.aload_n 0, 0) := rfl
theorem kX9_isNewChoice_50 : lkp tX9_isNewChoice 50 = some (.getfield 159, 0) := rfl
theorem kX9_isNewChoice_53 : lkp tX9_isNewChoice 53 = some (.caload, 0) := rfl
theorem kX9_isNewChoice_54 : lkp tX9_isNewChoice 54 = some (.bipush 48, 0) := rfl
theorem kX9_isNewChoice_56 : lkp tX9_isNewChoice 56 = some (.isub, 0) := rfl
theorem kX9_isNewChoice_57 : lkp tX9_isNewChoice 57 = some (.if_icmp .eq 7, 64) := rfl
theorem kX9_isNewChoice_60 : lkp tX9_isNewChoice 60 = some (.iconst 1, 0) := rfl
theorem kX9_isNewChoice_61 : lkp tX9_isNewChoice 61 = some (.goto 4, 65) := rfl
theorem kX9_isNewChoice_64 : lkp tX9_isNewChoice 64 = some (.iconst 0, 0) := rfl
theorem kX9_isNewChoice_65 : lkp tX9_isNewChoice 65 = some (.istore_n 1, 0) := rfl
theorem kX9_isNewChoice_66 : lkp tX9_isNewChoice 66 = some (.iinc 2 1, 0) := rfl
theorem kX9_isNewChoice_69 : lkp tX9_isNewChoice 69 = some (.goto (-42), 27) := rfl
theorem kX9_isNewChoice_72 : lkp tX9_isNewChoice 72 = some (.iload_n 1, 0) := rfl
theorem kX9_isNewChoice_73 : lkp tX9_isNewChoice 73 = some (.ireturn, 0) := rfl
theorem kX9_readsChoices_0 : lkp tX9_readsChoices 0 = some (.aload_n 0, 0) := rfl
theorem kX9_readsChoices_1 : lkp tX9_readsChoices 1 = some (.iconst 0, 0) := rfl
theorem kX9_readsChoices_2 : lkp tX9_readsChoices 2 = some (.putfield 172, 0) := rfl
theorem kX9_readsChoices_5 : lkp tX9_readsChoices 5 = some (.aload_n 0, 0) := rfl
theorem kX9_readsChoices_6 : lkp tX9_readsChoices 6 = some (.bipush 58, 0) := rfl
theorem kX9_readsChoices_8 : lkp tX9_readsChoices 8 = some (.bipush 58, 0) := rfl
theorem kX9_readsChoices_10 : lkp tX9_readsChoices 10 = some (.invokevirtual 165, 0) := rfl
theorem kX9_readsChoices_13 : lkp tX9_readsChoices 13 = some (.ifCond .ne 4, 17) := rfl
theorem kX9_readsChoices_16 : lkp tX9_readsChoices 16 = some (.return_, 0) := rfl
theorem kX9_readsChoices_17 : lkp tX9_readsChoices 17 = some (.aload_n 0, 0) := rfl
theorem kX9_readsChoices_18 : lkp tX9_readsChoices 18 = some (.dup, 0) := rfl
theorem kX9_readsChoices_19 : lkp tX9_readsChoices 19 = some (.getfield 159, 0) := rfl
theorem kX9_readsChoices_22 : lkp tX9_readsChoices 22 = some (.iconst 1, 0) := rfl
theorem kX9_readsChoices_23 : lkp tX9_readsChoices 23 = some (.iadd, 0) := rfl
theorem kX9_readsChoices_24 : lkp tX9_readsChoices 24 = some (.putfield 159, 0) := rfl
theorem kX9_readsChoices_27 : lkp tX9_readsChoices 27 = some (.aload_n 0, 0) := rfl
theorem kX9_readsChoices_28 : lkp tX9_readsChoices 28 = some (.aload_n 0, 0) := rfl
theorem kX9_readsChoices_29 : lkp tX9_readsChoices 29 = some (.invokevirtual 175, 0) := rfl
theorem kX9_readsChoices_32 : lkp tX9_readsChoices 32 = some (.ifCond .ne 7, 39) := rfl
theorem kX9_readsChoices_35 : lkp tX9_readsChoices 35 = some (.iconst 1, 0) := rfl
theorem kX9_readsChoices_36 : lkp tX9_readsChoices 36 = some (.goto 4, 40) := rfl
theorem kX9_readsChoices_39 : lkp tX9_readsChoices 39 = some (.iconst 0, 0) := rfl
theorem kX9_readsChoices_40 : lkp tX9_readsChoices 40 = some (.putfield 155, 0) := rfl
theorem kX9_readsChoices_43 : lkp tX9_readsChoices 43 = some (.aload_n 0, 0) := rfl
theorem kX9_readsChoices_44 : lkp tX9_readsChoices 44 = some (.invokevirtual 175, 0) := rfl
theorem kX9_readsChoices_47 : lkp tX9_readsChoices 47 = some (.ifCond .eq 47, 94) := rfl
theorem kX9_readsChoices_50 : lkp tX9_readsChoices 50 = some (.aload_n 0, 0) := rfl
theorem kX9_readsChoices_51 : lkp tX9_readsChoices 51 = some (.getfield 30, 0) := rfl
theorem kX9_readsChoices_54 : lkp tX9_readsChoices 54 = some (.aload_n 0, 0) := rfl
theorem kX9_readsChoices_55 : lkp tX9_readsChoices 55 = some (.getfield 172, 0) := rfl
theorem kX9_readsChoices_58 : lkp tX9_readsChoices 58 = some (.aload_n 0, 0) := rfl
theorem kX9_readsChoices_59 : lkp tX9_readsChoices 59 = some (.getfield 26, 0) := rfl
theorem kX9_readsChoices_62 : lkp tX9_readsChoices 62 = some (.aload_n 0, 0) := rfl
theorem kX9_readsChoices_63 : lkp tX9_readsChoices 63 = some (.getfield 159, 0) := rfl
theorem kX9_readsChoices_66 : lkp tX9_readsChoices 66 = some (.caload, 0) := rfl
theorem kX9_readsChoices_67 : lkp tX9_readsChoices 67 = some (.bipush 48, 0) := rfl
theorem kX9_readsChoices_69 : lkp tX9_readsChoices 69 = some (.isub, 0) := rfl
theorem kX9_readsChoices_70 : lkp tX9_readsChoices 70 = some (.iastore, 0) := rfl
theorem kX9_readsChoices_71 : lkp tX9_readsChoices 71 = some (.aload_n 0, 0) := rfl
theorem kX9_readsChoices_72 : lkp tX9_readsChoices 72 = some (.dup, 0) := rfl
theorem kX9_readsChoices_73 : lkp tX9_readsChoices 73 = some (.getfield 172, 0) := rfl
theorem kX9_readsChoices_76 : lkp tX9_readsChoices 76 = some (.iconst 1, 0) := rfl
theorem kX9_readsChoices_77 : lkp tX9_readsChoices 77 = some (.iadd, 0) := rfl
theorem kX9_readsChoices_78 : lkp tX9_readsChoices 78 = some (.putfield 172, 0) := rfl
theorem kX9_readsChoices_81 : lkp tX9_readsChoices 81 = some (.aload_n 0, 0) := rfl
theorem kX9_readsChoices_82 : lkp tX9_readsChoices 82 = some (.dup, 0) := rfl
theorem kX9_readsChoices_83 : lkp tX9_readsChoices 83 = some (.getfield 159, 0) := rfl
theorem kX9_readsChoices_86 : lkp tX9_readsChoices 86 = some (.iconst 1, 0) := rfl
theorem kX9_readsChoices_87 : lkp tX9_readsChoices 87 = some (.iadd, 0) := rfl
theorem kX9_readsChoices_88 : lkp tX9_readsChoices 88 = some (.putfield 159, 0) := rfl
theorem kX9_readsChoices_91 : lkp tX9_readsChoices 91 = some (.goto (-48), 43) := rfl
theorem kX9_readsChoices_94 : lkp tX9_readsChoices 94 = some (.return_, 0) := rfl
theorem kX9_readChild_0 : lkp tX9_readChild 0 = some (.aload_n 0, 0) := rfl
theorem kX9_readChild_1 : lkp tX9_readChild 1 = some (.iconst 0, 0) := rfl
theorem kX9_readChild_2 : lkp tX9_readChild 2 = some (.putfield 39, 0) := rfl
theorem kX9_readChild_5 : lkp tX9_readChild 5 = some (.aload_n 0, 0) := rfl
theorem kX9_readChild_6 : lkp tX9_readChild 6 = some (.aload_n 0, 0) := rfl
theorem kX9_readChild_7 : lkp tX9_readChild 7 = some (.getfield 179, 0) := rfl
theorem kX9_readChild_10 : lkp tX9_readChild 10 = some (.putfield 162, 0) := rfl
theorem kX9_readChild_13 : lkp tX9_readChild 13 = some (.aload_n 0, 0) := rfl
theorem kX9_readChild_14 : lkp tX9_readChild 14 = some (.iconst 0, 0) := rfl
theorem kX9_readChild_15 : lkp tX9_readChild 15 = some (.putfield 179, 0) := rfl
theorem kX9_readChild_18 : lkp tX9_readChild 18 = some (.aload_n 0, 0) := rfl
theorem kX9_readChild_19 : lkp tX9_readChild 19 = some (.iconst 0, 0) := rfl
theorem kX9_readChild_20 : lkp tX9_readChild 20 = some (.putfield 159, 0) := rfl
theorem kX9_readChild_23 : lkp tX9_readChild 23 = some (.aload_n 0, 0) := rfl
theorem kX9_readChild_24 : lkp tX9_readChild 24 = some (.iconst 0, 0) := rfl
theorem kX9_readChild_25 : lkp tX9_readChild 25 = some (.putfield 155, 0) := rfl
theorem kX9_readChild_28 : lkp tX9_readChild 28 = some (.aload_n 0, 0) := rfl
theorem kX9_readChild_29 : lkp tX9_readChild 29 = some (.invokevirtual 182, 0) := rfl
theorem kX9_readChild_32 : lkp tX9_readChild 32 = some (.istore_n 1, 0) := rfl
theorem kX9_readChild_33 : lkp tX9_readChild 33 = some (.aload_n 0, 0) := rfl
theorem kX9_readChild_34 : lkp tX9_readChild 34 = some (.bipush 44, 0) := rfl
theorem kX9_readChild_36 : lkp tX9_readChild 36 = some (.invokevirtual 185, 0) := rfl
theorem kX9_readChild_39 : lkp tX9_readChild 39 = some (.aload_n 0, 0) := rfl
theorem kX9_readChild_40 : lkp tX9_readChild 40 = some (.invokevirtual 182, 0) := rfl
theorem kX9_readChild_43 : lkp tX9_readChild 43 = some (.istore_n 2, 0) := rfl
theorem kX9_readChild_44 : lkp tX9_readChild 44 = some (.aload_n 0, 0) := rfl
theorem kX9_readChild_45 : lkp tX9_readChild 45 = some (.bipush 102, 0) := rfl
theorem kX9_readChild_47 : lkp tX9_readChild 47 = some (.invokevirtual 185, 0) := rfl
theorem kX9_readChild_50 : lkp tX9_readChild 50 = some (.aload_n 0, 0) := rfl
theorem kX9_readChild_51 : lkp tX9_readChild 51 = some (.invokevirtual 182, 0) := rfl
theorem kX9_readChild_54 : lkp tX9_readChild 54 = some (.istore_n 3, 0) := rfl
theorem kX9_readChild_55 : lkp tX9_readChild 55 = some (.aload_n 0, 0) := rfl
theorem kX9_readChild_56 : lkp tX9_readChild 56 = some (.bipush 108, 0) := rfl
theorem kX9_readChild_58 : lkp tX9_readChild 58 = some (.invokevirtual 185, 0) := rfl
theorem kX9_readChild_61 : lkp tX9_readChild 61 = some (.aload_n 0, 0) := rfl
theorem kX9_readChild_62 : lkp tX9_readChild 62 = some (.invokevirtual 182, 0) := rfl
theorem kX9_readChild_65 : lkp tX9_readChild 65 = some (.istore 4, 0) := rfl
theorem kX9_readChild_67 : lkp tX9_readChild 67 = some (.aload_n 0, 0) := rfl
theorem kX9_readChild_68 : lkp tX9_readChild 68 = some (.invokevirtual 189, 0) := rfl
theorem kX9_readChild_71 : lkp tX9_readChild 71 = some (.aload_n 0, 0) := rfl
theorem kX9_readChild_72 : lkp tX9_readChild 72 = some (.getfield 155, 0) := rfl
theorem kX9_readChild_75 : lkp tX9_readChild 75 = some (.ifCond .ne 14, 89) := rfl
theorem kX9_readChild_78 : lkp tX9_readChild 78 = some (.aload_n 0, 0) := rfl
theorem kX9_readChild_79 : lkp tX9_readChild 79 = some (.getfield 159, 0) := rfl
theorem kX9_readChild_82 : lkp tX9_readChild 82 = some (.aload_n 0, 0) := rfl
theorem kX9_readChild_83 : lkp tX9_readChild 83 = some (.getfield 162, 0) := rfl
theorem kX9_readChild_86 : lkp tX9_readChild 86 = some (.if_icmp .ge 17, 103) := rfl
theorem kX9_readChild_89 : lkp tX9_readChild 89 = some (.aload_n 0, 0) := rfl
theorem kX9_readChild_90 : lkp tX9_readChild 90 = some (.aload_n 0, 0) := rfl
theorem kX9_readChild_91 : lkp tX9_readChild 91 = some (.getfield 159, 0) := rfl
theorem kX9_readChild_94 : lkp tX9_readChild 94 = some (.putfield 22, 0) := rfl
theorem kX9_readChild_97 : lkp tX9_readChild 97 = some (.aload_n 0, 0) := rfl
theorem kX9_readChild_98 : lkp tX9_readChild 98 = some (.iconst 1, 0) := rfl
theorem kX9_readChild_99 : lkp tX9_readChild 99 = some (.invokevirtual 82, 0) := rfl
theorem kX9_readChild_102 : lkp tX9_readChild 102 = some (.ireturn, 0) := rfl
theorem kX9_readChild_103 : lkp tX9_readChild 103 = some (.iload_n 1, 0) := rfl
theorem kX9_readChild_104 : lkp tX9_readChild 104 = some (.iload_n 2, 0) := rfl
theorem kX9_readChild_105 : lkp tX9_readChild 105 = some (.iload_n 3, 0) := rfl
theorem kX9_readChild_106 : lkp tX9_readChild 106 = some (.iload 4, 0) := rfl
theorem kX9_readChild_108 : lkp tX9_readChild 108 = some (.invokestatic 147, 0) := rfl
theorem kX9_readChild_111 : lkp tX9_readChild 111 = some (.istore 5, 0) := rfl
theorem kX9_readChild_113 : lkp tX9_readChild 113 = some (.iconst 0, 0) := rfl
theorem kX9_readChild_114 : lkp tX9_readChild 114 = some (.istore 6, 0) := rfl
theorem kX9_readChild_116 : lkp tX9_readChild 116 = some (.iload 6, 0) := rfl
theorem kX9_readChild_118 : lkp tX9_readChild 118 = some (.aload_n 0, 0) := rfl
theorem kX9_readChild_119 : lkp tX9_readChild 119 = some (.getfield 172, 0) := rfl
theorem kX9_readChild_122 : lkp tX9_readChild 122 = some (.if_icmp .ge 35, 157) := rfl
theorem kX9_readChild_125 : lkp tX9_readChild 125 = some (.iload 5, 0) := rfl
theorem kX9_readChild_127 : lkp tX9_readChild 127 = some (.ifCond .eq 21, 148) := rfl
theorem kX9_readChild_130 : lkp tX9_readChild 130 = some (.aload_n 0, 0) := rfl
theorem kX9_readChild_131 : lkp tX9_readChild 131 = some (.aload_n 0, 0) := rfl
theorem kX9_readChild_132 : lkp tX9_readChild 132 = some (.getfield 30, 0) := rfl
theorem kX9_readChild_135 : lkp tX9_readChild 135 = some (.iload 6, 0) := rfl
theorem kX9_readChild_137 : lkp tX9_readChild 137 = some (.iaload, 0) := rfl
theorem kX9_readChild_138 : lkp tX9_readChild 138 = some (.invokevirtual 127, 0) := rfl
theorem kX9_readChild_141 : lkp tX9_readChild 141 = some (.ifCond .eq 7, 148) := rfl
theorem kX9_readChild_144 : lkp tX9_readChild 144 = some (.iconst 1, 0) := rfl
theorem kX9_readChild_145 : lkp tX9_readChild 145 = some (.goto 4, 149) := rfl
theorem kX9_readChild_148 : lkp tX9_readChild 148 = some (.iconst 0, 0) := rfl
theorem kX9_readChild_149 : lkp tX9_readChild 149 = some (.istore 5, 0) := rfl
theorem kX9_readChild_151 : lkp tX9_readChild 151 = some (.iinc 6 1, 0) := rfl
theorem kX9_readChild_154 : lkp tX9_readChild 154 = some (.goto (-38), 116) := rfl
theorem kX9_readChild_157 : lkp tX9_readChild 157 = some (.iload 5, 0) := rfl
theorem kX9_readChild_159 : lkp tX9_readChild 159 = some (.ifCond .ne 9, 168) := rfl
theorem kX9_readChild_162 : lkp tX9_readChild 162 = some (.aload_n 0, 0) := rfl
theorem kX9_readChild_163 : lkp tX9_readChild 163 = some (.iconst 1, 0) := rfl
theorem kX9_readChild_164 : lkp tX9_readChild 164 = some (.invokevirtual 82, 0) := rfl
theorem kX9_readChild_167 : lkp tX9_readChild 167 = some (.ireturn, 0) := rfl
theorem kX9_readChild_168 : lkp tX9_readChild 168 = some (.aload_n 0, 0) := rfl
theorem kX9_readChild_169 : lkp tX9_readChild 169 = some (.getfield 9, 0) := rfl
theorem kX9_readChild_172 : lkp tX9_readChild 172 = some (.iconst 1, 0) := rfl
theorem kX9_readChild_173 : lkp tX9_readChild 173 = some (.iaload, 0) := rfl
theorem kX9_readChild_174 : lkp tX9_readChild 174 = some (.bipush 24, 0) := rfl
theorem kX9_readChild_176 : lkp tX9_readChild 176 = some (.if_icmp .ne 9, 185) := rfl
theorem kX9_readChild_179 : lkp tX9_readChild 179 = some (.aload_n 0, 0) := rfl
theorem kX9_readChild_180 : lkp tX9_readChild 180 = some (.iconst 2, 0) := rfl
theorem kX9_readChild_181 : lkp tX9_readChild 181 = some (.invokevirtual 82, 0) := rfl
theorem kX9_readChild_184 : lkp tX9_readChild 184 = some (.ireturn, 0) := rfl
theorem kX9_readChild_185 : lkp tX9_readChild 185 = some (.aload_n 0, 0) := rfl
theorem kX9_readChild_186 : lkp tX9_readChild 186 = some (.invokevirtual 85, 0) := rfl
theorem kX9_readChild_189 : lkp tX9_readChild 189 = some (.aload_n 0, 0) := rfl
theorem kX9_readChild_190 : lkp tX9_readChild 190 = some (.iload_n 1, 0) := rfl
theorem kX9_readChild_191 : lkp tX9_readChild 191 = some (.iload_n 2, 0) := rfl
theorem kX9_readChild_192 : lkp tX9_readChild 192 = some (.iload_n 3, 0) := rfl
theorem kX9_readChild_193 : lkp tX9_readChild 193 = some (.iload 4, 0) := rfl
theorem kX9_readChild_195 : lkp tX9_readChild 195 = some (.invokevirtual 151, 0) := rfl
theorem kX9_readChild_198 : lkp tX9_readChild 198 = some (.istore 6, 0) := rfl
theorem kX9_readChild_200 : lkp tX9_readChild 200 = some (.aload_n 0, 0) := rfl
theorem kX9_readChild_201 : lkp tX9_readChild 201 = some (.iload 6, 0) := rfl
theorem kX9_readChild_203 : lkp tX9_readChild 203 = some (.iconst 5, 0) := rfl
theorem kX9_readChild_204 : lkp tX9_readChild 204 = some (.aload_n 0, 0) := rfl
theorem kX9_readChild_205 : lkp tX9_readChild 205 = some (.getfield 172, 0) := rfl
theorem kX9_readChild_208 : lkp tX9_readChild 208 = some (.invokevirtual 114, 0) := rfl
theorem kX9_readChild_211 : lkp tX9_readChild 211 = some (.iconst 0, 0) := rfl
theorem kX9_readChild_212 : lkp tX9_readChild 212 = some (.istore 7, 0) := rfl
theorem kX9_readChild_214 : lkp tX9_readChild 214 = some (.iload 7, 0) := rfl
theorem kX9_readChild_216 : lkp tX9_readChild 216 = some (.aload_n 0, 0) := rfl
theorem kX9_readChild_217 : lkp tX9_readChild 217 = some (.getfield 172, 0) := rfl
theorem kX9_readChild_220 : lkp tX9_readChild 220 = some (.if_icmp .ge 27, 247) := rfl
theorem kX9_readChild_223 : lkp tX9_readChild 223 = some (.aload_n 0, 0) := rfl
theorem kX9_readChild_224 : lkp tX9_readChild 224 = some (.iload 6, 0) := rfl
theorem kX9_readChild_226 : lkp tX9_readChild 226 = some (.bipush 6, 0) := rfl
theorem kX9_readChild_228 : lkp tX9_readChild 228 = some (.iload 7, 0) := rfl
theorem kX9_readChild_230 : lkp tX9_readChild 230 = some (.iadd, 0) := rfl
theorem kX9_readChild_231 : lkp tX9_readChild 231 = some (.aload_n 0, 0) := rfl
theorem kX9_readChild_232 : lkp tX9_readChild 232 = some (.getfield 30, 0) := rfl
theorem kX9_readChild_235 : lkp tX9_readChild 235 = some (.iload 7, 0) := rfl
theorem kX9_readChild_237 : lkp tX9_readChild 237 = some (.iaload, 0) := rfl
theorem kX9_readChild_238 : lkp tX9_readChild 238 = some (.invokevirtual 114, 0) := rfl
theorem kX9_readChild_241 : lkp tX9_readChild 241 = some (.iinc 7 1, 0) := rfl
theorem kX9_readChild_244 : lkp tX9_readChild 244 = some (.goto (-30), 214) := rfl
theorem kX9_readChild_247 : lkp tX9_readChild 247 = some (.iload 6, 0) := rfl
theorem kX9_readChild_249 : lkp tX9_readChild 249 = some (.ireturn, 0) := rfl
theorem kX9_choose_0 : lkp tX9_choose 0 = some (.aload_n 0, 0) := rfl
theorem kX9_choose_1 : lkp tX9_choose 1 = some (.iconst 0, 0) := rfl
theorem kX9_choose_2 : lkp tX9_choose 2 = some (.putfield 39, 0) := rfl
theorem kX9_choose_5 : lkp tX9_choose 5 = some (.aload_n 0, 0) := rfl
theorem kX9_choose_6 : lkp tX9_choose 6 = some (.iload_n 1, 0) := rfl
theorem kX9_choose_7 : lkp tX9_choose 7 = some (.invokevirtual 192, 0) := rfl
theorem kX9_choose_10 : lkp tX9_choose 10 = some (.ifCond .eq 11, 21) := rfl
theorem kX9_choose_13 : lkp tX9_choose 13 = some (.aload_n 0, 0) := rfl
theorem kX9_choose_14 : lkp tX9_choose 14 = some (.iload_n 2, 0) := rfl
theorem kX9_choose_15 : lkp tX9_choose 15 = some (.invokevirtual 127, 0) := rfl
theorem kX9_choose_18 : lkp tX9_choose 18 = some (.ifCond .ne 9, 27) := rfl
theorem kX9_choose_21 : lkp tX9_choose 21 = some (.aload_n 0, 0) := rfl
theorem kX9_choose_22 : lkp tX9_choose 22 = some (.iconst 1, 0) := rfl
theorem kX9_choose_23 : lkp tX9_choose 23 = some (.invokevirtual 82, 0) := rfl
theorem kX9_choose_26 : lkp tX9_choose 26 = some (.ireturn, 0) := rfl
theorem kX9_choose_27 : lkp tX9_choose 27 = some (.aload_n 0, 0) := rfl
theorem kX9_choose_28 : lkp tX9_choose 28 = some (.iload_n 1, 0) := rfl
theorem kX9_choose_29 : lkp tX9_choose 29 = some (.iload_n 2, 0) := rfl
theorem kX9_choose_30 : lkp tX9_choose 30 = some (.invokevirtual 75, 0) := rfl
theorem kX9_choose_33 : lkp tX9_choose 33 = some (.istore 4, 0) := rfl
theorem kX9_choose_35 : lkp tX9_choose 35 = some (.aload_n 0, 0) := rfl
theorem kX9_choose_36 : lkp tX9_choose 36 = some (.iload_n 1, 0) := rfl
theorem kX9_choose_37 : lkp tX9_choose 37 = some (.iconst 5, 0) := rfl
theorem kX9_choose_38 : lkp tX9_choose 38 = some (.invokevirtual 49, 0) := rfl
theorem kX9_choose_41 : lkp tX9_choose 41 = some (.iload 4, 0) := rfl
theorem kX9_choose_43 : lkp tX9_choose 43 = some (.iconst (-1), 0) := rfl
theorem kX9_choose_44 : lkp tX9_choose 44 = some (.if_icmp .ne 7, 51) := rfl
theorem kX9_choose_47 : lkp tX9_choose 47 = some (.iconst 0, 0) := rfl
theorem kX9_choose_48 : lkp tX9_choose 48 = some (.goto 4, 52) := rfl
theorem kX9_choose_51 : lkp tX9_choose 51 = some (.iconst 1, 0) := rfl
theorem kX9_choose_52 : lkp tX9_choose 52 = some (.isub, 0) := rfl
theorem kX9_choose_53 : lkp tX9_choose 53 = some (.istore 5, 0) := rfl
theorem kX9_choose_55 : lkp tX9_choose 55 = some (.iload_n 3, 0) := rfl
theorem kX9_choose_56 : lkp tX9_choose 56 = some (.iconst 0, 0) := rfl
theorem kX9_choose_57 : lkp tX9_choose 57 = some (.iload 5, 0) := rfl
theorem kX9_choose_59 : lkp tX9_choose 59 = some (.invokestatic 45, 0) := rfl
theorem kX9_choose_62 : lkp tX9_choose 62 = some (.ifCond .ne 9, 71) := rfl
theorem kX9_choose_65 : lkp tX9_choose 65 = some (.aload_n 0, 0) := rfl
theorem kX9_choose_66 : lkp tX9_choose 66 = some (.iconst 2, 0) := rfl
theorem kX9_choose_67 : lkp tX9_choose 67 = some (.invokevirtual 82, 0) := rfl
theorem kX9_choose_70 : lkp tX9_choose 70 = some (.ireturn, 0) := rfl
theorem kX9_choose_71 : lkp tX9_choose 71 = some (.iload 5, 0) := rfl
theorem kX9_choose_73 : lkp tX9_choose 73 = some (.iconst 4, 0) := rfl
theorem kX9_choose_74 : lkp tX9_choose 74 = some (.if_icmp .ne 9, 83) := rfl
theorem kX9_choose_77 : lkp tX9_choose 77 = some (.aload_n 0, 0) := rfl
theorem kX9_choose_78 : lkp tX9_choose 78 = some (.iconst 3, 0) := rfl
theorem kX9_choose_79 : lkp tX9_choose 79 = some (.invokevirtual 82, 0) := rfl
theorem kX9_choose_82 : lkp tX9_choose 82 = some (.ireturn, 0) := rfl
theorem kX9_choose_83 : lkp tX9_choose 83 = some (.aload_n 0, 0) := rfl
theorem kX9_choose_84 : lkp tX9_choose 84 = some (.invokevirtual 85, 0) := rfl
theorem kX9_choose_87 : lkp tX9_choose 87 = some (.iload 4, 0) := rfl
theorem kX9_choose_89 : lkp tX9_choose 89 = some (.istore 6, 0) := rfl
theorem kX9_choose_91 : lkp tX9_choose 91 = some (.iload 4, 0) := rfl
theorem kX9_choose_93 : lkp tX9_choose 93 = some (.iconst (-1), 0) := rfl
theorem kX9_choose_94 : lkp tX9_choose 94 = some (.if_icmp .eq 38, 132) := rfl
theorem kX9_choose_97 : lkp tX9_choose 97 = some (.iload 6, 0) := rfl
theorem kX9_choose_99 : lkp tX9_choose 99 = some (.iload 5, 0) := rfl
theorem kX9_choose_101 : lkp tX9_choose 101 = some (.if_icmp .ge 31, 132) := rfl
theorem kX9_choose_104 : lkp tX9_choose 104 = some (.aload_n 0, 0) := rfl
theorem kX9_choose_105 : lkp tX9_choose 105 = some (.iload_n 1, 0) := rfl
theorem kX9_choose_106 : lkp tX9_choose 106 = some (.bipush 6, 0) := rfl
theorem kX9_choose_108 : lkp tX9_choose 108 = some (.iload 6, 0) := rfl
theorem kX9_choose_110 : lkp tX9_choose 110 = some (.iadd, 0) := rfl
theorem kX9_choose_111 : lkp tX9_choose 111 = some (.aload_n 0, 0) := rfl
theorem kX9_choose_112 : lkp tX9_choose 112 = some (.iload_n 1, 0) := rfl
theorem kX9_choose_113 : lkp tX9_choose 113 = some (.bipush 6, 0) := rfl
theorem kX9_choose_115 : lkp tX9_choose 115 = some (.iload 6, 0) := rfl
theorem kX9_choose_117 : lkp tX9_choose 117 = some (.iadd, 0) := rfl
theorem kX9_choose_118 : lkp tX9_choose 118 = some (.iconst 1, 0) := rfl
theorem kX9_choose_119 : lkp tX9_choose 119 = some (.iadd, 0) := rfl
theorem kX9_choose_120 : lkp tX9_choose 120 = some (.invokevirtual 49, 0) := rfl
theorem kX9_choose_123 : lkp tX9_choose 123 = some (.invokevirtual 114, 0) := rfl
theorem kX9_choose_126 : lkp tX9_choose 126 = some (.iinc 6 1, 0) := rfl
theorem kX9_choose_129 : lkp tX9_choose 129 = some (.goto (-38), 91) := rfl
theorem kX9_choose_132 : lkp tX9_choose 132 = some (.iload 5, 0) := rfl
theorem kX9_choose_134 : lkp tX9_choose 134 = some (.istore 6, 0) := rfl
theorem kX9_choose_136 : lkp tX9_choose 136 = some (.iload 6, 0) := rfl
theorem kX9_choose_138 : lkp tX9_choose 138 = some (.iload_n 3, 0) := rfl
theorem kX9_choose_139 : lkp tX9_choose 139 = some (.if_icmp .le 31, 170) := rfl
theorem kX9_choose_142 : lkp tX9_choose 142 = some (.aload_n 0, 0) := rfl
theorem kX9_choose_143 : lkp tX9_choose 143 = some (.iload_n 1, 0) := rfl
theorem kX9_choose_144 : lkp tX9_choose 144 = some (.bipush 6, 0) := rfl
theorem kX9_choose_146 : lkp tX9_choose 146 = some (.iload 6, 0) := rfl
theorem kX9_choose_148 : lkp tX9_choose 148 = some (.iadd, 0) := rfl
theorem kX9_choose_149 : lkp tX9_choose 149 = some (.aload_n 0, 0) := rfl
theorem kX9_choose_150 : lkp tX9_choose 150 = some (.iload_n 1, 0) := rfl
theorem kX9_choose_151 : lkp tX9_choose 151 = some (.bipush 6, 0) := rfl
theorem kX9_choose_153 : lkp tX9_choose 153 = some (.iload 6, 0) := rfl
theorem kX9_choose_155 : lkp tX9_choose 155 = some (.iadd, 0) := rfl
theorem kX9_choose_156 : lkp tX9_choose 156 = some (.iconst 1, 0) := rfl
theorem kX9_choose_157 : lkp tX9_choose 157 = some (.isub, 0) := rfl
theorem kX9_choose_158 : lkp tX9_choose 158 = some (.invokevirtual 49, 0) := rfl
theorem kX9_choose_161 : lkp tX9_choose 161 = some (.invokevirtual 114, 0) := rfl
theorem kX9_choose_164 : lkp tX9_choose 164 = some (.iinc 6 (-1), 0) := rfl
theorem kX9_choose_167 : lkp tX9_choose 167 = some (.goto (-31), 136) := rfl
theorem kX9_choose_170 : lkp tX9_choose 170 = some (.aload_n 0, 0) := rfl
theorem kX9_choose_171 : lkp tX9_choose 171 = some (.iload_n 1, 0) := rfl
theorem kX9_choose_172 : lkp tX9_choose 172 = some (.bipush 6, 0) := rfl
theorem kX9_choose_174 : lkp tX9_choose 174 = some (.iload_n 3, 0) := rfl
theorem kX9_choose_175 : lkp tX9_choose 175 = some (.iadd, 0) := rfl
theorem kX9_choose_176 : lkp tX9_choose 176 = some (.iload_n 2, 0) := rfl
theorem kX9_choose_177 : lkp tX9_choose 177 = some (.invokevirtual 114, 0) := rfl
theorem kX9_choose_180 : lkp tX9_choose 180 = some (.aload_n 0, 0) := rfl
theorem kX9_choose_181 : lkp tX9_choose 181 = some (.iload_n 1, 0) := rfl
theorem kX9_choose_182 : lkp tX9_choose 182 = some (.iconst 5, 0) := rfl
theorem kX9_choose_183 : lkp tX9_choose 183 = some (.iload 5, 0) := rfl
theorem kX9_choose_185 : lkp tX9_choose 185 = some (.iconst 1, 0) := rfl
theorem kX9_choose_186 : lkp tX9_choose 186 = some (.iadd, 0) := rfl
theorem kX9_choose_187 : lkp tX9_choose 187 = some (.invokevirtual 114, 0) := rfl
theorem kX9_choose_190 : lkp tX9_choose 190 = some (.iload 5, 0) := rfl
theorem kX9_choose_192 : lkp tX9_choose 192 = some (.iconst 1, 0) := rfl
theorem kX9_choose_193 : lkp tX9_choose 193 = some (.iadd, 0) := rfl
theorem kX9_choose_194 : lkp tX9_choose 194 = some (.ireturn, 0) := rfl
theorem kX9_setNeed_0 : lkp tX9_setNeed 0 = some (.aload_n 0, 0) := rfl
theorem kX9_setNeed_1 : lkp tX9_setNeed 1 = some (.aload_n 0, 0) := rfl
theorem kX9_setNeed_2 : lkp tX9_setNeed 2 = some (.iload_n 1, 0) := rfl
theorem kX9_setNeed_3 : lkp tX9_setNeed 3 = some (.invokevirtual 192, 0) := rfl
theorem kX9_setNeed_6 : lkp tX9_setNeed 6 = some (.ifCond .eq 20, 26) := rfl
theorem kX9_setNeed_9 : lkp tX9_setNeed 9 = some (.iload_n 2, 0) := rfl
theorem kX9_setNeed_10 : lkp tX9_setNeed 10 = some (.iconst (-1), 0) := rfl
theorem kX9_setNeed_11 : lkp tX9_setNeed 11 = some (.if_icmp .eq 11, 22) := rfl
theorem kX9_setNeed_14 : lkp tX9_setNeed 14 = some (.aload_n 0, 0) := rfl
theorem kX9_setNeed_15 : lkp tX9_setNeed 15 = some (.iload_n 2, 0) := rfl
theorem kX9_setNeed_16 : lkp tX9_setNeed 16 = some (.invokevirtual 127, 0) := rfl
theorem kX9_setNeed_19 : lkp tX9_setNeed 19 = some (.ifCond .eq 7, 26) := rfl
theorem kX9_setNeed_22 : lkp tX9_setNeed 22 = some (.iconst 0, 0) := rfl
theorem kX9_setNeed_23 : lkp tX9_setNeed 23 = some (.goto 4, 27) := rfl
theorem kX9_setNeed_26 : lkp tX9_setNeed 26 = some (.iconst 1, 0) := rfl
theorem kX9_setNeed_27 : lkp tX9_setNeed 27 = some (.putfield 39, 0) := rfl
theorem kX9_setNeed_30 : lkp tX9_setNeed 30 = some (.aload_n 0, 0) := rfl
theorem kX9_setNeed_31 : lkp tX9_setNeed 31 = some (.getfield 39, 0) := rfl
theorem kX9_setNeed_34 : lkp tX9_setNeed 34 = some (.ifCond .eq 5, 39) := rfl
theorem kX9_setNeed_37 : lkp tX9_setNeed 37 = some (.iconst 0, 0) := rfl
theorem kX9_setNeed_38 : lkp tX9_setNeed 38 = some (.ireturn, 0) := rfl
theorem kX9_setNeed_39 : lkp tX9_setNeed 39 = some (.aload_n 0, 0) := rfl
theorem kX9_setNeed_40 : lkp tX9_setNeed 40 = some (.iload_n 1, 0) := rfl
theorem kX9_setNeed_41 : lkp tX9_setNeed 41 = some (.iconst 4, 0) := rfl
theorem kX9_setNeed_42 : lkp tX9_setNeed 42 = some (.invokevirtual 49, 0) := rfl
theorem kX9_setNeed_45 : lkp tX9_setNeed 45 = some (.istore_n 3, 0) := rfl
theorem kX9_setNeed_46 : lkp tX9_setNeed 46 = some (.aload_n 0, 0) := rfl
theorem kX9_setNeed_47 : lkp tX9_setNeed 47 = some (.invokevirtual 85, 0) := rfl
theorem kX9_setNeed_50 : lkp tX9_setNeed 50 = some (.aload_n 0, 0) := rfl
theorem kX9_setNeed_51 : lkp tX9_setNeed 51 = some (.iload_n 1, 0) := rfl
theorem kX9_setNeed_52 : lkp tX9_setNeed 52 = some (.iconst 4, 0) := rfl
theorem kX9_setNeed_53 : lkp tX9_setNeed 53 = some (.iload_n 2, 0) := rfl
theorem kX9_setNeed_54 : lkp tX9_setNeed 54 = some (.invokevirtual 114, 0) := rfl
theorem kX9_setNeed_57 : lkp tX9_setNeed 57 = some (.iload_n 3, 0) := rfl
theorem kX9_setNeed_58 : lkp tX9_setNeed 58 = some (.ireturn, 0) := rfl
theorem kX9_child_0 : lkp tX9_child 0 = some (.aload_n 0, 0) := rfl
theorem kX9_child_1 : lkp tX9_child 1 = some (.iconst 0, 0) := rfl
theorem kX9_child_2 : lkp tX9_child 2 = some (.putfield 39, 0) := rfl
theorem kX9_child_5 : lkp tX9_child 5 = some (.aload_n 0, 0) := rfl
theorem kX9_child_6 : lkp tX9_child 6 = some (.iload_n 1, 0) := rfl
theorem kX9_child_7 : lkp tX9_child 7 = some (.invokevirtual 192, 0) := rfl
theorem kX9_child_10 : lkp tX9_child 10 = some (.ifCond .ne 9, 19) := rfl
theorem kX9_child_13 : lkp tX9_child 13 = some (.aload_n 0, 0) := rfl
theorem kX9_child_14 : lkp tX9_child 14 = some (.iconst 1, 0) := rfl
theorem kX9_child_15 : lkp tX9_child 15 = some (.invokevirtual 82, 0) := rfl
theorem kX9_child_18 : lkp tX9_child 18 = some (.ireturn, 0) := rfl
theorem kX9_child_19 : lkp tX9_child 19 = some (.iload_n 2, 0) := rfl
theorem kX9_child_20 : lkp tX9_child 20 = some (.tableswitch 128 0 7 #[48, 55, 62, 69, 76, 84, 112, 120], 0) := rfl
theorem kX9_child_68 : lkp tX9_child 68 = some (.aload_n 0, 0) := rfl
theorem kX9_child_69 : lkp tX9_child 69 = some (.iload_n 1, 0) := rfl
theorem kX9_child_70 : lkp tX9_child 70 = some (.iconst 2, 0) := rfl
theorem kX9_child_71 : lkp tX9_child 71 = some (.invokevirtual 49, 0) := rfl
theorem kX9_child_74 : lkp tX9_child 74 = some (.ireturn, 0) := rfl
theorem kX9_child_75 : lkp tX9_child 75 = some (.aload_n 0, 0) := rfl
theorem kX9_child_76 : lkp tX9_child 76 = some (.iload_n 1, 0) := rfl
theorem kX9_child_77 : lkp tX9_child 77 = some (.iconst 3, 0) := rfl
theorem kX9_child_78 : lkp tX9_child 78 = some (.invokevirtual 49, 0) := rfl
theorem kX9_child_81 : lkp tX9_child 81 = some (.ireturn, 0) := rfl
theorem kX9_child_82 : lkp tX9_child 82 = some (.aload_n 0, 0) := rfl
theorem kX9_child_83 : lkp tX9_child 83 = some (.iload_n 1, 0) := rfl
theorem kX9_child_84 : lkp tX9_child 84 = some (.iconst 4, 0) := rfl
theorem kX9_child_85 : lkp tX9_child 85 = some (.invokevirtual 49, 0) := rfl
theorem kX9_child_88 : lkp tX9_child 88 = some (.ireturn, 0) := rfl
theorem kX9_child_89 : lkp tX9_child 89 = some (.aload_n 0, 0) := rfl
theorem kX9_child_90 : lkp tX9_child 90 = some (.iload_n 1, 0) := rfl
theorem kX9_child_91 : lkp tX9_child 91 = some (.iconst 5, 0) := rfl
theorem kX9_child_92 : lkp tX9_child 92 = some (.invokevirtual 49, 0) := rfl
theorem kX9_child_95 : lkp tX9_child 95 = some (.ireturn, 0) := rfl
theorem kX9_child_96 : lkp tX9_child 96 = some (.aload_n 0, 0) := rfl
theorem kX9_child_97 : lkp tX9_child 97 = some (.iload_n 1, 0) := rfl
theorem kX9_child_98 : lkp tX9_child 98 = some (.bipush 10, 0) := rfl
theorem kX9_child_100 : lkp tX9_child 100 = some (.invokevirtual 49, 0) := rfl
theorem kX9_child_103 : lkp tX9_child 103 = some (.ireturn, 0) := rfl
theorem kX9_child_104 : lkp tX9_child 104 = some (.aload_n 0, 0) := rfl
theorem kX9_child_105 : lkp tX9_child 105 = some (.iload_n 1, 0) := rfl
theorem kX9_child_106 : lkp tX9_child 106 = some (.bipush 10, 0) := rfl
theorem kX9_child_108 : lkp tX9_child 108 = some (.invokevirtual 49, 0) := rfl
theorem kX9_child_111 : lkp tX9_child 111 = some (.iconst (-1), 0) := rfl
theorem kX9_child_112 : lkp tX9_child 112 = some (.if_icmp .ne 7, 119) := rfl
theorem kX9_child_115 : lkp tX9_child 115 = some (.iconst (-1), 0) := rfl
theorem kX9_child_116 : lkp tX9_child 116 = some (.goto 15, 131) := rfl
theorem kX9_child_119 : lkp tX9_child 119 = some (.aload_n 0, 0) := rfl
theorem kX9_child_120 : lkp tX9_child 120 = some (.iload_n 1, 0) := rfl
theorem kX9_child_121 : lkp tX9_child 121 = some (.aload_n 0, 0) := rfl
theorem kX9_child_122 : lkp tX9_child 122 = some (.iload_n 1, 0) := rfl
theorem kX9_child_123 : lkp tX9_child 123 = some (.bipush 10, 0) := rfl
theorem kX9_child_125 : lkp tX9_child 125 = some (.invokevirtual 49, 0) := rfl
theorem kX9_child_128 : lkp tX9_child 128 = some (.invokevirtual 75, 0) := rfl
theorem kX9_child_131 : lkp tX9_child 131 = some (.ireturn, 0) := rfl
theorem kX9_child_132 : lkp tX9_child 132 = some (.aload_n 0, 0) := rfl
theorem kX9_child_133 : lkp tX9_child 133 = some (.iload_n 1, 0) := rfl
theorem kX9_child_134 : lkp tX9_child 134 = some (.bipush 11, 0) := rfl
theorem kX9_child_136 : lkp tX9_child 136 = some (.invokevirtual 49, 0) := rfl
theorem kX9_child_139 : lkp tX9_child 139 = some (.ireturn, 0) := rfl
theorem kX9_child_140 : lkp tX9_child 140 = some (.aload_n 0, 0) := rfl
theorem kX9_child_141 : lkp tX9_child 141 = some (.iload_n 1, 0) := rfl
theorem kX9_child_142 : lkp tX9_child 142 = some (.bipush 12, 0) := rfl
theorem kX9_child_144 : lkp tX9_child 144 = some (.invokevirtual 49, 0) := rfl
theorem kX9_child_147 : lkp tX9_child 147 = some (.ireturn, 0) := rfl
theorem kX9_child_148 : lkp tX9_child 148 = some (.aload_n 0, 0) := rfl
theorem kX9_child_149 : lkp tX9_child 149 = some (.iconst 2, 0) := rfl
theorem kX9_child_150 : lkp tX9_child 150 = some (.invokevirtual 82, 0) := rfl
theorem kX9_child_153 : lkp tX9_child 153 = some (.ireturn, 0) := rfl
theorem kX9_choice_0 : lkp tX9_choice 0 = some (.aload_n 0, 0) := rfl
theorem kX9_choice_1 : lkp tX9_choice 1 = some (.iconst 0, 0) := rfl
theorem kX9_choice_2 : lkp tX9_choice 2 = some (.putfield 39, 0) := rfl
theorem kX9_choice_5 : lkp tX9_choice 5 = some (.aload_n 0, 0) := rfl
theorem kX9_choice_6 : lkp tX9_choice 6 = some (.iload_n 1, 0) := rfl
theorem kX9_choice_7 : lkp tX9_choice 7 = some (.invokevirtual 192, 0) := rfl
theorem kX9_choice_10 : lkp tX9_choice 10 = some (.ifCond .ne 9, 19) := rfl
theorem kX9_choice_13 : lkp tX9_choice 13 = some (.aload_n 0, 0) := rfl
theorem kX9_choice_14 : lkp tX9_choice 14 = some (.iconst 1, 0) := rfl
theorem kX9_choice_15 : lkp tX9_choice 15 = some (.invokevirtual 82, 0) := rfl
theorem kX9_choice_18 : lkp tX9_choice 18 = some (.ireturn, 0) := rfl
theorem kX9_choice_19 : lkp tX9_choice 19 = some (.iload_n 2, 0) := rfl
theorem kX9_choice_20 : lkp tX9_choice 20 = some (.iconst 0, 0) := rfl
theorem kX9_choice_21 : lkp tX9_choice 21 = some (.aload_n 0, 0) := rfl
theorem kX9_choice_22 : lkp tX9_choice 22 = some (.iload_n 1, 0) := rfl
theorem kX9_choice_23 : lkp tX9_choice 23 = some (.iconst 5, 0) := rfl
theorem kX9_choice_24 : lkp tX9_choice 24 = some (.invokevirtual 49, 0) := rfl
theorem kX9_choice_27 : lkp tX9_choice 27 = some (.iconst 1, 0) := rfl
theorem kX9_choice_28 : lkp tX9_choice 28 = some (.isub, 0) := rfl
theorem kX9_choice_29 : lkp tX9_choice 29 = some (.invokestatic 45, 0) := rfl
theorem kX9_choice_32 : lkp tX9_choice 32 = some (.ifCond .eq 15, 47) := rfl
theorem kX9_choice_35 : lkp tX9_choice 35 = some (.aload_n 0, 0) := rfl
theorem kX9_choice_36 : lkp tX9_choice 36 = some (.iload_n 1, 0) := rfl
theorem kX9_choice_37 : lkp tX9_choice 37 = some (.bipush 6, 0) := rfl
theorem kX9_choice_39 : lkp tX9_choice 39 = some (.iload_n 2, 0) := rfl
theorem kX9_choice_40 : lkp tX9_choice 40 = some (.iadd, 0) := rfl
theorem kX9_choice_41 : lkp tX9_choice 41 = some (.invokevirtual 49, 0) := rfl
theorem kX9_choice_44 : lkp tX9_choice 44 = some (.goto 8, 52) := rfl
theorem kX9_choice_47 : lkp tX9_choice 47 = some (.aload_n 0, 0) := rfl
theorem kX9_choice_48 : lkp tX9_choice 48 = some (.iconst 2, 0) := rfl
theorem kX9_choice_49 : lkp tX9_choice 49 = some (.invokevirtual 82, 0) := rfl
theorem kX9_choice_52 : lkp tX9_choice 52 = some (.ireturn, 0) := rfl
theorem kX9_rank_0 : lkp tX9_rank 0 = some (.aload_n 0, 0) := rfl
theorem kX9_rank_1 : lkp tX9_rank 1 = some (.iconst 0, 0) := rfl
theorem kX9_rank_2 : lkp tX9_rank 2 = some (.putfield 39, 0) := rfl
theorem kX9_rank_5 : lkp tX9_rank 5 = some (.aload_n 0, 0) := rfl
theorem kX9_rank_6 : lkp tX9_rank 6 = some (.iload_n 1, 0) := rfl
theorem kX9_rank_7 : lkp tX9_rank 7 = some (.invokevirtual 192, 0) := rfl
theorem kX9_rank_10 : lkp tX9_rank 10 = some (.ifCond .eq 11, 21) := rfl
theorem kX9_rank_13 : lkp tX9_rank 13 = some (.aload_n 0, 0) := rfl
theorem kX9_rank_14 : lkp tX9_rank 14 = some (.iload_n 2, 0) := rfl
theorem kX9_rank_15 : lkp tX9_rank 15 = some (.invokevirtual 127, 0) := rfl
theorem kX9_rank_18 : lkp tX9_rank 18 = some (.ifCond .ne 9, 27) := rfl
theorem kX9_rank_21 : lkp tX9_rank 21 = some (.aload_n 0, 0) := rfl
theorem kX9_rank_22 : lkp tX9_rank 22 = some (.iconst 1, 0) := rfl
theorem kX9_rank_23 : lkp tX9_rank 23 = some (.invokevirtual 82, 0) := rfl
theorem kX9_rank_26 : lkp tX9_rank 26 = some (.ireturn, 0) := rfl
theorem kX9_rank_27 : lkp tX9_rank 27 = some (.iload_n 3, 0) := rfl
theorem kX9_rank_28 : lkp tX9_rank 28 = some (.tableswitch 87 0 4 #[36, 43, 50, 65, 80], 0) := rfl
theorem kX9_rank_64 : lkp tX9_rank 64 = some (.aload_n 0, 0) := rfl
theorem kX9_rank_65 : lkp tX9_rank 65 = some (.iload_n 1, 0) := rfl
theorem kX9_rank_66 : lkp tX9_rank 66 = some (.iload_n 2, 0) := rfl
theorem kX9_rank_67 : lkp tX9_rank 67 = some (.invokevirtual 72, 0) := rfl
theorem kX9_rank_70 : lkp tX9_rank 70 = some (.ireturn, 0) := rfl
theorem kX9_rank_71 : lkp tX9_rank 71 = some (.aload_n 0, 0) := rfl
theorem kX9_rank_72 : lkp tX9_rank 72 = some (.iload_n 1, 0) := rfl
theorem kX9_rank_73 : lkp tX9_rank 73 = some (.iload_n 2, 0) := rfl
theorem kX9_rank_74 : lkp tX9_rank 74 = some (.invokevirtual 59, 0) := rfl
theorem kX9_rank_77 : lkp tX9_rank 77 = some (.ireturn, 0) := rfl
theorem kX9_rank_78 : lkp tX9_rank 78 = some (.aload_n 0, 0) := rfl
theorem kX9_rank_79 : lkp tX9_rank 79 = some (.iload_n 1, 0) := rfl
theorem kX9_rank_80 : lkp tX9_rank 80 = some (.iload_n 2, 0) := rfl
theorem kX9_rank_81 : lkp tX9_rank 81 = some (.invokevirtual 66, 0) := rfl
theorem kX9_rank_84 : lkp tX9_rank 84 = some (.ifCond .eq 7, 91) := rfl
theorem kX9_rank_87 : lkp tX9_rank 87 = some (.iconst 1, 0) := rfl
theorem kX9_rank_88 : lkp tX9_rank 88 = some (.goto 4, 92) := rfl
theorem kX9_rank_91 : lkp tX9_rank 91 = some (.iconst 0, 0) := rfl
theorem kX9_rank_92 : lkp tX9_rank 92 = some (.ireturn, 0) := rfl
theorem kX9_rank_93 : lkp tX9_rank 93 = some (.aload_n 0, 0) := rfl
theorem kX9_rank_94 : lkp tX9_rank 94 = some (.iload_n 1, 0) := rfl
theorem kX9_rank_95 : lkp tX9_rank 95 = some (.iload_n 2, 0) := rfl
theorem kX9_rank_96 : lkp tX9_rank 96 = some (.invokevirtual 92, 0) := rfl
theorem kX9_rank_99 : lkp tX9_rank 99 = some (.ifCond .eq 7, 106) := rfl
theorem kX9_rank_102 : lkp tX9_rank 102 = some (.iconst 1, 0) := rfl
theorem kX9_rank_103 : lkp tX9_rank 103 = some (.goto 4, 107) := rfl
theorem kX9_rank_106 : lkp tX9_rank 106 = some (.iconst 0, 0) := rfl
theorem kX9_rank_107 : lkp tX9_rank 107 = some (.ireturn, 0) := rfl
theorem kX9_rank_108 : lkp tX9_rank 108 = some (.aload_n 0, 0) := rfl
theorem kX9_rank_109 : lkp tX9_rank 109 = some (.iload_n 1, 0) := rfl
theorem kX9_rank_110 : lkp tX9_rank 110 = some (.iload_n 2, 0) := rfl
theorem kX9_rank_111 : lkp tX9_rank 111 = some (.invokevirtual 101, 0) := rfl
theorem kX9_rank_114 : lkp tX9_rank 114 = some (.ireturn, 0) := rfl
theorem kX9_rank_115 : lkp tX9_rank 115 = some (.aload_n 0, 0) := rfl
theorem kX9_rank_116 : lkp tX9_rank 116 = some (.iconst 2, 0) := rfl
theorem kX9_rank_117 : lkp tX9_rank 117 = some (.invokevirtual 82, 0) := rfl
theorem kX9_rank_120 : lkp tX9_rank 120 = some (.ireturn, 0) := rfl
theorem kX9_holdsWorse_0 : lkp tX9_holdsWorse 0 = some (.iconst 0, 0) := rfl
theorem kX9_holdsWorse_1 : lkp tX9_holdsWorse 1 = some (.istore_n 3, 0) := rfl
theorem kX9_holdsWorse_2 : lkp tX9_holdsWorse 2 = some (.iconst 0, 0) := rfl
theorem kX9_holdsWorse_3 : lkp tX9_holdsWorse 3 = some (.istore 4, 0) := rfl
theorem kX9_holdsWorse_5 : lkp tX9_holdsWorse 5 = some (.iload 4, 0) := rfl
theorem kX9_holdsWorse_7 : lkp tX9_holdsWorse 7 = some (.aload_n 0, 0) := rfl
theorem kX9_holdsWorse_8 : lkp tX9_holdsWorse 8 = some (.getfield 9, 0) := rfl
theorem kX9_holdsWorse_11 : lkp tX9_holdsWorse 11 = some (.iconst 1, 0) := rfl
theorem kX9_holdsWorse_12 : lkp tX9_holdsWorse 12 = some (.iaload, 0) := rfl
theorem kX9_holdsWorse_13 : lkp tX9_holdsWorse 13 = some (.if_icmp .ge 48, 61) := rfl
theorem kX9_holdsWorse_16 : lkp tX9_holdsWorse 16 = some (.iload_n 3, 0) := rfl
theorem kX9_holdsWorse_17 : lkp tX9_holdsWorse 17 = some (.ifCond .ne 32, 49) := rfl
theorem kX9_holdsWorse_20 : lkp tX9_holdsWorse 20 = some (.iload 4, 0) := rfl
theorem kX9_holdsWorse_22 : lkp tX9_holdsWorse 22 = some (.iload_n 1, 0) := rfl
theorem kX9_holdsWorse_23 : lkp tX9_holdsWorse 23 = some (.if_icmp .eq 30, 53) := rfl
theorem kX9_holdsWorse_26 : lkp tX9_holdsWorse 26 = some (.aload_n 0, 0) := rfl
theorem kX9_holdsWorse_27 : lkp tX9_holdsWorse 27 = some (.iload 4, 0) := rfl
theorem kX9_holdsWorse_29 : lkp tX9_holdsWorse 29 = some (.bipush 10, 0) := rfl
theorem kX9_holdsWorse_31 : lkp tX9_holdsWorse 31 = some (.invokevirtual 49, 0) := rfl
theorem kX9_holdsWorse_34 : lkp tX9_holdsWorse 34 = some (.iload_n 2, 0) := rfl
theorem kX9_holdsWorse_35 : lkp tX9_holdsWorse 35 = some (.if_icmp .ne 18, 53) := rfl
theorem kX9_holdsWorse_38 : lkp tX9_holdsWorse 38 = some (.aload_n 0, 0) := rfl
theorem kX9_holdsWorse_39 : lkp tX9_holdsWorse 39 = some (.iload_n 1, 0) := rfl
theorem kX9_holdsWorse_40 : lkp tX9_holdsWorse 40 = some (.iload 4, 0) := rfl
theorem kX9_holdsWorse_42 : lkp tX9_holdsWorse 42 = some (.iload_n 2, 0) := rfl
theorem kX9_holdsWorse_43 : lkp tX9_holdsWorse 43 = some (.invokevirtual 95, 0) := rfl
theorem kX9_holdsWorse_46 : lkp tX9_holdsWorse 46 = some (.ifCond .eq 7, 53) := rfl
theorem kX9_holdsWorse_49 : lkp tX9_holdsWorse 49 = some (.iconst 1, 0) := rfl
theorem kX9_holdsWorse_50 : lkp tX9_holdsWorse 50 = some (.goto 4, 54) := rfl
theorem kX9_holdsWorse_53 : lkp tX9_holdsWorse 53 = some (.iconst 0, 0) := rfl
theorem kX9_holdsWorse_54 : lkp tX9_holdsWorse 54 = some (.istore_n 3, 0) := rfl
theorem kX9_holdsWorse_55 : lkp tX9_holdsWorse 55 = some (.iinc 4 1, 0) := rfl
theorem kX9_holdsWorse_58 : lkp tX9_holdsWorse 58 = some (.goto (-53), 5) := rfl
theorem kX9_holdsWorse_61 : lkp tX9_holdsWorse 61 = some (.iload_n 3, 0) := rfl
theorem kX9_holdsWorse_62 : lkp tX9_holdsWorse 62 = some (.ireturn, 0) := rfl
theorem kX9_holdsLike_0 : lkp tX9_holdsLike 0 = some (.iconst 0, 0) := rfl
theorem kX9_holdsLike_1 : lkp tX9_holdsLike 1 = some (.istore_n 3, 0) := rfl
theorem kX9_holdsLike_2 : lkp tX9_holdsLike 2 = some (.iconst 0, 0) := rfl
theorem kX9_holdsLike_3 : lkp tX9_holdsLike 3 = some (.istore 4, 0) := rfl
theorem kX9_holdsLike_5 : lkp tX9_holdsLike 5 = some (.iload 4, 0) := rfl
theorem kX9_holdsLike_7 : lkp tX9_holdsLike 7 = some (.aload_n 0, 0) := rfl
theorem kX9_holdsLike_8 : lkp tX9_holdsLike 8 = some (.getfield 9, 0) := rfl
theorem kX9_holdsLike_11 : lkp tX9_holdsLike 11 = some (.iconst 1, 0) := rfl
theorem kX9_holdsLike_12 : lkp tX9_holdsLike 12 = some (.iaload, 0) := rfl
theorem kX9_holdsLike_13 : lkp tX9_holdsLike 13 = some (.if_icmp .ge 53, 66) := rfl
theorem kX9_holdsLike_16 : lkp tX9_holdsLike 16 = some (.iload_n 3, 0) := rfl
theorem kX9_holdsLike_17 : lkp tX9_holdsLike 17 = some (.ifCond .ne 37, 54) := rfl
theorem kX9_holdsLike_20 : lkp tX9_holdsLike 20 = some (.iload 4, 0) := rfl
theorem kX9_holdsLike_22 : lkp tX9_holdsLike 22 = some (.iload_n 1, 0) := rfl
theorem kX9_holdsLike_23 : lkp tX9_holdsLike 23 = some (.if_icmp .eq 35, 58) := rfl
theorem kX9_holdsLike_26 : lkp tX9_holdsLike 26 = some (.aload_n 0, 0) := rfl
theorem kX9_holdsLike_27 : lkp tX9_holdsLike 27 = some (.iload 4, 0) := rfl
theorem kX9_holdsLike_29 : lkp tX9_holdsLike 29 = some (.bipush 10, 0) := rfl
theorem kX9_holdsLike_31 : lkp tX9_holdsLike 31 = some (.invokevirtual 49, 0) := rfl
theorem kX9_holdsLike_34 : lkp tX9_holdsLike 34 = some (.iload_n 2, 0) := rfl
theorem kX9_holdsLike_35 : lkp tX9_holdsLike 35 = some (.if_icmp .ne 23, 58) := rfl
theorem kX9_holdsLike_38 : lkp tX9_holdsLike 38 = some (.aload_n 0, 0) := rfl
theorem kX9_holdsLike_39 : lkp tX9_holdsLike 39 = some (.iload 4, 0) := rfl
theorem kX9_holdsLike_41 : lkp tX9_holdsLike 41 = some (.iload_n 2, 0) := rfl
theorem kX9_holdsLike_42 : lkp tX9_holdsLike 42 = some (.invokevirtual 72, 0) := rfl
theorem kX9_holdsLike_45 : lkp tX9_holdsLike 45 = some (.aload_n 0, 0) := rfl
theorem kX9_holdsLike_46 : lkp tX9_holdsLike 46 = some (.iload_n 1, 0) := rfl
theorem kX9_holdsLike_47 : lkp tX9_holdsLike 47 = some (.iload_n 2, 0) := rfl
theorem kX9_holdsLike_48 : lkp tX9_holdsLike 48 = some (.invokevirtual 72, 0) := rfl
theorem kX9_holdsLike_51 : lkp tX9_holdsLike 51 = some (.if_icmp .ne 7, 58) := rfl
theorem kX9_holdsLike_54 : lkp tX9_holdsLike 54 = some (.iconst 1, 0) := rfl
theorem kX9_holdsLike_55 : lkp tX9_holdsLike 55 = some (.goto 4, 59) := rfl
theorem kX9_holdsLike_58 : lkp tX9_holdsLike 58 = some (.iconst 0, 0) := rfl
theorem kX9_holdsLike_59 : lkp tX9_holdsLike 59 = some (.istore_n 3, 0) := rfl
theorem kX9_holdsLike_60 : lkp tX9_holdsLike 60 = some (.iinc 4 1, 0) := rfl
theorem kX9_holdsLike_63 : lkp tX9_holdsLike 63 = some (.goto (-58), 5) := rfl
theorem kX9_holdsLike_66 : lkp tX9_holdsLike 66 = some (.iload_n 3, 0) := rfl
theorem kX9_holdsLike_67 : lkp tX9_holdsLike 67 = some (.ireturn, 0) := rfl
theorem kX9_why_0 : lkp tX9_why 0 = some (.aload_n 0, 0) := rfl
theorem kX9_why_1 : lkp tX9_why 1 = some (.iconst 0, 0) := rfl
theorem kX9_why_2 : lkp tX9_why 2 = some (.putfield 39, 0) := rfl
theorem kX9_why_5 : lkp tX9_why 5 = some (.aload_n 0, 0) := rfl
theorem kX9_why_6 : lkp tX9_why 6 = some (.iload_n 1, 0) := rfl
theorem kX9_why_7 : lkp tX9_why 7 = some (.invokevirtual 192, 0) := rfl
theorem kX9_why_10 : lkp tX9_why 10 = some (.ifCond .eq 11, 21) := rfl
theorem kX9_why_13 : lkp tX9_why 13 = some (.aload_n 0, 0) := rfl
theorem kX9_why_14 : lkp tX9_why 14 = some (.iload_n 2, 0) := rfl
theorem kX9_why_15 : lkp tX9_why 15 = some (.invokevirtual 127, 0) := rfl
theorem kX9_why_18 : lkp tX9_why 18 = some (.ifCond .ne 9, 27) := rfl
theorem kX9_why_21 : lkp tX9_why 21 = some (.aload_n 0, 0) := rfl
theorem kX9_why_22 : lkp tX9_why 22 = some (.iconst 1, 0) := rfl
theorem kX9_why_23 : lkp tX9_why 23 = some (.invokevirtual 82, 0) := rfl
theorem kX9_why_26 : lkp tX9_why 26 = some (.ireturn, 0) := rfl
theorem kX9_why_27 : lkp tX9_why 27 = some (.aload_n 0, 0) := rfl
theorem kX9_why_28 : lkp tX9_why 28 = some (.iload_n 1, 0) := rfl
theorem kX9_why_29 : lkp tX9_why 29 = some (.iload_n 2, 0) := rfl
theorem kX9_why_30 : lkp tX9_why 30 = some (.invokevirtual 75, 0) := rfl
theorem kX9_why_33 : lkp tX9_why 33 = some (.istore_n 3, 0) := rfl
theorem kX9_why_34 : lkp tX9_why 34 = some (.aload_n 0, 0) := rfl
theorem kX9_why_35 : lkp tX9_why 35 = some (.iload_n 1, 0) := rfl
theorem kX9_why_36 : lkp tX9_why 36 = some (.bipush 10, 0) := rfl
theorem kX9_why_38 : lkp tX9_why 38 = some (.invokevirtual 49, 0) := rfl
theorem kX9_why_41 : lkp tX9_why 41 = some (.istore 4, 0) := rfl
theorem kX9_why_43 : lkp tX9_why 43 = some (.iload 4, 0) := rfl
theorem kX9_why_45 : lkp tX9_why 45 = some (.iload_n 2, 0) := rfl
theorem kX9_why_46 : lkp tX9_why 46 = some (.if_icmp .ne 5, 51) := rfl
theorem kX9_why_49 : lkp tX9_why 49 = some (.iconst 0, 0) := rfl
theorem kX9_why_50 : lkp tX9_why 50 = some (.ireturn, 0) := rfl
theorem kX9_why_51 : lkp tX9_why 51 = some (.iload_n 3, 0) := rfl
theorem kX9_why_52 : lkp tX9_why 52 = some (.iconst (-1), 0) := rfl
theorem kX9_why_53 : lkp tX9_why 53 = some (.if_icmp .ne 5, 58) := rfl
theorem kX9_why_56 : lkp tX9_why 56 = some (.iconst 1, 0) := rfl
theorem kX9_why_57 : lkp tX9_why 57 = some (.ireturn, 0) := rfl
theorem kX9_why_58 : lkp tX9_why 58 = some (.aload_n 0, 0) := rfl
theorem kX9_why_59 : lkp tX9_why 59 = some (.iload_n 1, 0) := rfl
theorem kX9_why_60 : lkp tX9_why 60 = some (.iload_n 2, 0) := rfl
theorem kX9_why_61 : lkp tX9_why 61 = some (.invokevirtual 92, 0) := rfl
theorem kX9_why_64 : lkp tX9_why 64 = some (.ifCond .ne 5, 69) := rfl
theorem kX9_why_67 : lkp tX9_why 67 = some (.iconst 2, 0) := rfl
theorem kX9_why_68 : lkp tX9_why 68 = some (.ireturn, 0) := rfl
theorem kX9_why_69 : lkp tX9_why 69 = some (.aload_n 0, 0) := rfl
theorem kX9_why_70 : lkp tX9_why 70 = some (.iload_n 2, 0) := rfl
theorem kX9_why_71 : lkp tX9_why 71 = some (.invokevirtual 104, 0) := rfl
theorem kX9_why_74 : lkp tX9_why 74 = some (.ifCond .le 7, 81) := rfl
theorem kX9_why_77 : lkp tX9_why 77 = some (.iconst 3, 0) := rfl
theorem kX9_why_78 : lkp tX9_why 78 = some (.goto 31, 109) := rfl
theorem kX9_why_81 : lkp tX9_why 81 = some (.aload_n 0, 0) := rfl
theorem kX9_why_82 : lkp tX9_why 82 = some (.iload_n 1, 0) := rfl
theorem kX9_why_83 : lkp tX9_why 83 = some (.iload_n 2, 0) := rfl
theorem kX9_why_84 : lkp tX9_why 84 = some (.invokevirtual 195, 0) := rfl
theorem kX9_why_87 : lkp tX9_why 87 = some (.ifCond .eq 7, 94) := rfl
theorem kX9_why_90 : lkp tX9_why 90 = some (.iconst 4, 0) := rfl
theorem kX9_why_91 : lkp tX9_why 91 = some (.goto 18, 109) := rfl
theorem kX9_why_94 : lkp tX9_why 94 = some (.aload_n 0, 0) := rfl
theorem kX9_why_95 : lkp tX9_why 95 = some (.iload_n 1, 0) := rfl
theorem kX9_why_96 : lkp tX9_why 96 = some (.iload_n 2, 0) := rfl
theorem kX9_why_97 : lkp tX9_why 97 = some (.invokevirtual 198, 0) := rfl
theorem kX9_why_100 : lkp tX9_why 100 = some (.ifCond .eq 7, 107) := rfl
theorem kX9_why_103 : lkp tX9_why 103 = some (.iconst 5, 0) := rfl
theorem kX9_why_104 : lkp tX9_why 104 = some (.goto 5, 109) := rfl
theorem kX9_why_107 : lkp tX9_why 107 = some (.bipush 6, 0) := rfl
theorem kX9_why_109 : lkp tX9_why 109 = some (.ireturn, 0) := rfl
theorem kX9_asker_0 : lkp tX9_asker 0 = some (.iconst (-1), 0) := rfl
theorem kX9_asker_1 : lkp tX9_asker 1 = some (.istore_n 2, 0) := rfl
theorem kX9_asker_2 : lkp tX9_asker 2 = some (.iconst 0, 0) := rfl
theorem kX9_asker_3 : lkp tX9_asker 3 = some (.istore_n 3, 0) := rfl
theorem kX9_asker_4 : lkp tX9_asker 4 = some (.iload_n 3, 0) := rfl
theorem kX9_asker_5 : lkp tX9_asker 5 = some (.aload_n 0, 0) := rfl
theorem kX9_asker_6 : lkp tX9_asker 6 = some (.getfield 9, 0) := rfl
theorem kX9_asker_9 : lkp tX9_asker 9 = some (.iconst 1, 0) := rfl
theorem kX9_asker_10 : lkp tX9_asker 10 = some (.iaload, 0) := rfl
theorem kX9_asker_11 : lkp tX9_asker 11 = some (.if_icmp .ge 62, 73) := rfl
theorem kX9_asker_14 : lkp tX9_asker 14 = some (.aload_n 0, 0) := rfl
theorem kX9_asker_15 : lkp tX9_asker 15 = some (.iload_n 3, 0) := rfl
theorem kX9_asker_16 : lkp tX9_asker 16 = some (.bipush 10, 0) := rfl
theorem kX9_asker_18 : lkp tX9_asker 18 = some (.invokevirtual 49, 0) := rfl
theorem kX9_asker_21 : lkp tX9_asker 21 = some (.iconst (-1), 0) := rfl
theorem kX9_asker_22 : lkp tX9_asker 22 = some (.if_icmp .ne 22, 44) := rfl
theorem kX9_asker_25 : lkp tX9_asker 25 = some (.aload_n 0, 0) := rfl
theorem kX9_asker_26 : lkp tX9_asker 26 = some (.getfield 33, 0) := rfl
theorem kX9_asker_29 : lkp tX9_asker 29 = some (.iload_n 3, 0) := rfl
theorem kX9_asker_30 : lkp tX9_asker 30 = some (.iaload, 0) := rfl
theorem kX9_asker_31 : lkp tX9_asker 31 = some (.aload_n 0, 0) := rfl
theorem kX9_asker_32 : lkp tX9_asker 32 = some (.iload_n 3, 0) := rfl
theorem kX9_asker_33 : lkp tX9_asker 33 = some (.iconst 5, 0) := rfl
theorem kX9_asker_34 : lkp tX9_asker 34 = some (.invokevirtual 49, 0) := rfl
theorem kX9_asker_37 : lkp tX9_asker 37 = some (.if_icmp .ge 7, 44) := rfl
theorem kX9_asker_40 : lkp tX9_asker 40 = some (.iconst 1, 0) := rfl
theorem kX9_asker_41 : lkp tX9_asker 41 = some (.goto 4, 45) := rfl
theorem kX9_asker_44 : lkp tX9_asker 44 = some (.iconst 0, 0) := rfl
theorem kX9_asker_45 : lkp tX9_asker 45 = some (.istore 4, 0) := rfl
theorem kX9_asker_47 : lkp tX9_asker 47 = some (.iload 4, 0) := rfl
theorem kX9_asker_49 : lkp tX9_asker 49 = some (.ifCond .eq 16, 65) := rfl
theorem kX9_asker_52 : lkp tX9_asker 52 = some (.iload_n 1, 0) := rfl
theorem kX9_asker_53 : lkp tX9_asker 53 = some (.ifCond .eq 8, 61) := rfl
theorem kX9_asker_56 : lkp tX9_asker 56 = some (.iload_n 2, 0) := rfl
theorem kX9_asker_57 : lkp tX9_asker 57 = some (.iconst (-1), 0) := rfl
theorem kX9_asker_58 : lkp tX9_asker 58 = some (.if_icmp .ne 7, 65) := rfl
theorem kX9_asker_61 : lkp tX9_asker 61 = some (.iload_n 3, 0) := rfl
theorem kX9_asker_62 : lkp tX9_asker 62 = some (.goto 4, 66) := rfl
theorem kX9_asker_65 : lkp tX9_asker 65 = some (.iload_n 2, 0) := rfl
theorem kX9_asker_66 : lkp tX9_asker 66 = some (.istore_n 2, 0) := rfl
theorem kX9_asker_67 : lkp tX9_asker 67 = some (.iinc 3 1, 0) := rfl
theorem kX9_asker_70 : lkp tX9_asker 70 = some (.goto (-66), 4) := rfl
theorem kX9_asker_73 : lkp tX9_asker 73 = some (.iload_n 2, 0) := rfl
theorem kX9_asker_74 : lkp tX9_asker 74 = some (.ireturn, 0) := rfl
theorem kX9_asks_0 : lkp tX9_asks 0 = some (.aload_n 0, 0) := rfl
theorem kX9_asks_1 : lkp tX9_asks 1 = some (.iload_n 2, 0) := rfl
theorem kX9_asks_2 : lkp tX9_asks 2 = some (.invokevirtual 78, 0) := rfl
theorem kX9_asks_5 : lkp tX9_asks 5 = some (.aload_n 0, 0) := rfl
theorem kX9_asks_6 : lkp tX9_asks 6 = some (.iload_n 2, 0) := rfl
theorem kX9_asks_7 : lkp tX9_asks 7 = some (.iconst 2, 0) := rfl
theorem kX9_asks_8 : lkp tX9_asks 8 = some (.invokevirtual 53, 0) := rfl
theorem kX9_asks_11 : lkp tX9_asks 11 = some (.if_icmp .ge 14, 25) := rfl
theorem kX9_asks_14 : lkp tX9_asks 14 = some (.aload_n 0, 0) := rfl
theorem kX9_asks_15 : lkp tX9_asks 15 = some (.iload_n 1, 0) := rfl
theorem kX9_asks_16 : lkp tX9_asks 16 = some (.bipush 10, 0) := rfl
theorem kX9_asks_18 : lkp tX9_asks 18 = some (.iload_n 2, 0) := rfl
theorem kX9_asks_19 : lkp tX9_asks 19 = some (.invokevirtual 114, 0) := rfl
theorem kX9_asks_22 : lkp tX9_asks 22 = some (.goto 39, 61) := rfl
theorem kX9_asks_25 : lkp tX9_asks 25 = some (.aload_n 0, 0) := rfl
theorem kX9_asks_26 : lkp tX9_asks 26 = some (.iload_n 1, 0) := rfl
theorem kX9_asks_27 : lkp tX9_asks 27 = some (.iload_n 2, 0) := rfl
theorem kX9_asks_28 : lkp tX9_asks 28 = some (.invokevirtual 195, 0) := rfl
theorem kX9_asks_31 : lkp tX9_asks 31 = some (.ifCond .eq 30, 61) := rfl
theorem kX9_asks_34 : lkp tX9_asks 34 = some (.aload_n 0, 0) := rfl
theorem kX9_asks_35 : lkp tX9_asks 35 = some (.aload_n 0, 0) := rfl
theorem kX9_asks_36 : lkp tX9_asks 36 = some (.iload_n 2, 0) := rfl
theorem kX9_asks_37 : lkp tX9_asks 37 = some (.aload_n 0, 0) := rfl
theorem kX9_asks_38 : lkp tX9_asks 38 = some (.iload_n 2, 0) := rfl
theorem kX9_asks_39 : lkp tX9_asks 39 = some (.invokevirtual 78, 0) := rfl
theorem kX9_asks_42 : lkp tX9_asks 42 = some (.iconst 1, 0) := rfl
theorem kX9_asks_43 : lkp tX9_asks 43 = some (.isub, 0) := rfl
theorem kX9_asks_44 : lkp tX9_asks 44 = some (.invokevirtual 144, 0) := rfl
theorem kX9_asks_47 : lkp tX9_asks 47 = some (.bipush 10, 0) := rfl
theorem kX9_asks_49 : lkp tX9_asks 49 = some (.iconst (-1), 0) := rfl
theorem kX9_asks_50 : lkp tX9_asks 50 = some (.invokevirtual 114, 0) := rfl
theorem kX9_asks_53 : lkp tX9_asks 53 = some (.aload_n 0, 0) := rfl
theorem kX9_asks_54 : lkp tX9_asks 54 = some (.iload_n 1, 0) := rfl
theorem kX9_asks_55 : lkp tX9_asks 55 = some (.bipush 10, 0) := rfl
theorem kX9_asks_57 : lkp tX9_asks 57 = some (.iload_n 2, 0) := rfl
theorem kX9_asks_58 : lkp tX9_asks 58 = some (.invokevirtual 114, 0) := rfl
theorem kX9_asks_61 : lkp tX9_asks 61 = some (.return_, 0) := rfl
theorem kX9_round_0 : lkp tX9_round 0 = some (.iconst 0, 0) := rfl
theorem kX9_round_1 : lkp tX9_round 1 = some (.istore_n 2, 0) := rfl
theorem kX9_round_2 : lkp tX9_round 2 = some (.iload_n 2, 0) := rfl
theorem kX9_round_3 : lkp tX9_round 3 = some (.aload_n 0, 0) := rfl
theorem kX9_round_4 : lkp tX9_round 4 = some (.getfield 9, 0) := rfl
theorem kX9_round_7 : lkp tX9_round 7 = some (.iconst 1, 0) := rfl
theorem kX9_round_8 : lkp tX9_round 8 = some (.iaload, 0) := rfl
theorem kX9_round_9 : lkp tX9_round 9 = some (.if_icmp .ge 24, 33) := rfl
theorem kX9_round_12 : lkp tX9_round 12 = some (.aload_n 0, 0) := rfl
theorem kX9_round_13 : lkp tX9_round 13 = some (.getfield 33, 0) := rfl
theorem kX9_round_16 : lkp tX9_round 16 = some (.iload_n 2, 0) := rfl
theorem kX9_round_17 : lkp tX9_round 17 = some (.iconst 0, 0) := rfl
theorem kX9_round_18 : lkp tX9_round 18 = some (.iastore, 0) := rfl
theorem kX9_round_19 : lkp tX9_round 19 = some (.aload_n 0, 0) := rfl
theorem kX9_round_20 : lkp tX9_round 20 = some (.iload_n 2, 0) := rfl
theorem kX9_round_21 : lkp tX9_round 21 = some (.bipush 10, 0) := rfl
theorem kX9_round_23 : lkp tX9_round 23 = some (.iconst (-1), 0) := rfl
theorem kX9_round_24 : lkp tX9_round 24 = some (.invokevirtual 114, 0) := rfl
theorem kX9_round_27 : lkp tX9_round 27 = some (.iinc 2 1, 0) := rfl
theorem kX9_round_30 : lkp tX9_round 30 = some (.goto (-28), 2) := rfl
theorem kX9_round_33 : lkp tX9_round 33 = some (.aload_n 0, 0) := rfl
theorem kX9_round_34 : lkp tX9_round 34 = some (.iload_n 1, 0) := rfl
theorem kX9_round_35 : lkp tX9_round 35 = some (.invokevirtual 201, 0) := rfl
theorem kX9_round_38 : lkp tX9_round 38 = some (.istore_n 2, 0) := rfl
theorem kX9_round_39 : lkp tX9_round 39 = some (.iload_n 2, 0) := rfl
theorem kX9_round_40 : lkp tX9_round 40 = some (.iconst (-1), 0) := rfl
theorem kX9_round_41 : lkp tX9_round 41 = some (.if_icmp .eq 43, 84) := rfl
theorem kX9_round_44 : lkp tX9_round 44 = some (.aload_n 0, 0) := rfl
theorem kX9_round_45 : lkp tX9_round 45 = some (.getfield 33, 0) := rfl
theorem kX9_round_48 : lkp tX9_round 48 = some (.iload_n 2, 0) := rfl
theorem kX9_round_49 : lkp tX9_round 49 = some (.dup2, 0) := rfl
theorem kX9_round_50 : lkp tX9_round 50 = some (.iaload, 0) := rfl
theorem kX9_round_51 : lkp tX9_round 51 = some (.iconst 1, 0) := rfl
theorem kX9_round_52 : lkp tX9_round 52 = some (.iadd, 0) := rfl
theorem kX9_round_53 : lkp tX9_round 53 = some (.iastore, 0) := rfl
theorem kX9_round_54 : lkp tX9_round 54 = some (.aload_n 0, 0) := rfl
theorem kX9_round_55 : lkp tX9_round 55 = some (.iload_n 2, 0) := rfl
theorem kX9_round_56 : lkp tX9_round 56 = some (.aload_n 0, 0) := rfl
theorem kX9_round_57 : lkp tX9_round 57 = some (.iload_n 2, 0) := rfl
theorem kX9_round_58 : lkp tX9_round 58 = some (.bipush 6, 0) := rfl
theorem kX9_round_60 : lkp tX9_round 60 = some (.aload_n 0, 0) := rfl
theorem kX9_round_61 : lkp tX9_round 61 = some (.getfield 33, 0) := rfl
theorem kX9_round_64 : lkp tX9_round 64 = some (.iload_n 2, 0) := rfl
theorem kX9_round_65 : lkp tX9_round 65 = some (.iaload, 0) := rfl
theorem kX9_round_66 : lkp tX9_round 66 = some (.iadd, 0) := rfl
theorem kX9_round_67 : lkp tX9_round 67 = some (.iconst 1, 0) := rfl
theorem kX9_round_68 : lkp tX9_round 68 = some (.isub, 0) := rfl
theorem kX9_round_69 : lkp tX9_round 69 = some (.invokevirtual 49, 0) := rfl
theorem kX9_round_72 : lkp tX9_round 72 = some (.invokevirtual 205, 0) := rfl
theorem kX9_round_75 : lkp tX9_round 75 = some (.aload_n 0, 0) := rfl
theorem kX9_round_76 : lkp tX9_round 76 = some (.iload_n 1, 0) := rfl
theorem kX9_round_77 : lkp tX9_round 77 = some (.invokevirtual 201, 0) := rfl
theorem kX9_round_80 : lkp tX9_round 80 = some (.istore_n 2, 0) := rfl
theorem kX9_round_81 : lkp tX9_round 81 = some (.goto (-42), 39) := rfl
theorem kX9_round_84 : lkp tX9_round 84 = some (.return_, 0) := rfl
theorem kX9_marks_0 : lkp tX9_marks 0 = some (.iconst 0, 0) := rfl
theorem kX9_marks_1 : lkp tX9_marks 1 = some (.istore_n 1, 0) := rfl
theorem kX9_marks_2 : lkp tX9_marks 2 = some (.iconst 0, 0) := rfl
theorem kX9_marks_3 : lkp tX9_marks 3 = some (.istore_n 2, 0) := rfl
theorem kX9_marks_4 : lkp tX9_marks 4 = some (.iload_n 2, 0) := rfl
theorem kX9_marks_5 : lkp tX9_marks 5 = some (.aload_n 0, 0) := rfl
theorem kX9_marks_6 : lkp tX9_marks 6 = some (.getfield 9, 0) := rfl
theorem kX9_marks_9 : lkp tX9_marks 9 = some (.iconst 1, 0) := rfl
theorem kX9_marks_10 : lkp tX9_marks 10 = some (.iaload, 0) := rfl
theorem kX9_marks_11 : lkp tX9_marks 11 = some (.if_icmp .ge 121, 132) := rfl
theorem kX9_marks_14 : lkp tX9_marks 14 = some (.iconst 0, 0) := rfl
theorem kX9_marks_15 : lkp tX9_marks 15 = some (.istore_n 3, 0) := rfl
theorem kX9_marks_16 : lkp tX9_marks 16 = some (.iload_n 3, 0) := rfl
theorem kX9_marks_17 : lkp tX9_marks 17 = some (.aload_n 0, 0) := rfl
theorem kX9_marks_18 : lkp tX9_marks 18 = some (.getfield 9, 0) := rfl
theorem kX9_marks_21 : lkp tX9_marks 21 = some (.iconst 1, 0) := rfl
theorem kX9_marks_22 : lkp tX9_marks 22 = some (.iaload, 0) := rfl
theorem kX9_marks_23 : lkp tX9_marks 23 = some (.if_icmp .ge 103, 126) := rfl
theorem kX9_marks_26 : lkp tX9_marks 26 = some (.aload_n 0, 0) := rfl
theorem kX9_marks_27 : lkp tX9_marks 27 = some (.iload_n 3, 0) := rfl
theorem kX9_marks_28 : lkp tX9_marks 28 = some (.bipush 10, 0) := rfl
theorem kX9_marks_30 : lkp tX9_marks 30 = some (.invokevirtual 49, 0) := rfl
theorem kX9_marks_33 : lkp tX9_marks 33 = some (.istore 4, 0) := rfl
theorem kX9_marks_35 : lkp tX9_marks 35 = some (.iload_n 3, 0) := rfl
theorem kX9_marks_36 : lkp tX9_marks 36 = some (.iload_n 2, 0) := rfl
theorem kX9_marks_37 : lkp tX9_marks 37 = some (.if_icmp .eq 39, 76) := rfl
theorem kX9_marks_40 : lkp tX9_marks 40 = some (.iload 4, 0) := rfl
theorem kX9_marks_42 : lkp tX9_marks 42 = some (.iconst (-1), 0) := rfl
theorem kX9_marks_43 : lkp tX9_marks 43 = some (.if_icmp .eq 33, 76) := rfl
theorem kX9_marks_46 : lkp tX9_marks 46 = some (.aload_n 0, 0) := rfl
theorem kX9_marks_47 : lkp tX9_marks 47 = some (.iload_n 3, 0) := rfl
theorem kX9_marks_48 : lkp tX9_marks 48 = some (.iconst 2, 0) := rfl
theorem kX9_marks_49 : lkp tX9_marks 49 = some (.invokevirtual 49, 0) := rfl
theorem kX9_marks_52 : lkp tX9_marks 52 = some (.aload_n 0, 0) := rfl
theorem kX9_marks_53 : lkp tX9_marks 53 = some (.iload_n 2, 0) := rfl
theorem kX9_marks_54 : lkp tX9_marks 54 = some (.iconst 2, 0) := rfl
theorem kX9_marks_55 : lkp tX9_marks 55 = some (.invokevirtual 49, 0) := rfl
theorem kX9_marks_58 : lkp tX9_marks 58 = some (.if_icmp .ne 18, 76) := rfl
theorem kX9_marks_61 : lkp tX9_marks 61 = some (.aload_n 0, 0) := rfl
theorem kX9_marks_62 : lkp tX9_marks 62 = some (.iload_n 2, 0) := rfl
theorem kX9_marks_63 : lkp tX9_marks 63 = some (.iload 4, 0) := rfl
theorem kX9_marks_65 : lkp tX9_marks 65 = some (.invokevirtual 75, 0) := rfl
theorem kX9_marks_68 : lkp tX9_marks 68 = some (.iconst (-1), 0) := rfl
theorem kX9_marks_69 : lkp tX9_marks 69 = some (.if_icmp .eq 7, 76) := rfl
theorem kX9_marks_72 : lkp tX9_marks 72 = some (.iconst 1, 0) := rfl
theorem kX9_marks_73 : lkp tX9_marks 73 = some (.goto 4, 77) := rfl
theorem kX9_marks_76 : lkp tX9_marks 76 = some (.iconst 0, 0) := rfl
theorem kX9_marks_77 : lkp tX9_marks 77 = some (.istore 5, 0) := rfl
theorem kX9_marks_79 : lkp tX9_marks 79 = some (.iload 5, 0) := rfl
theorem kX9_marks_81 : lkp tX9_marks 81 = some (.ifCond .eq 39, 120) := rfl
theorem kX9_marks_84 : lkp tX9_marks 84 = some (.aload_n 0, 0) := rfl
theorem kX9_marks_85 : lkp tX9_marks 85 = some (.iload_n 2, 0) := rfl
theorem kX9_marks_86 : lkp tX9_marks 86 = some (.bipush 11, 0) := rfl
theorem kX9_marks_88 : lkp tX9_marks 88 = some (.invokevirtual 49, 0) := rfl
theorem kX9_marks_91 : lkp tX9_marks 91 = some (.iload 4, 0) := rfl
theorem kX9_marks_93 : lkp tX9_marks 93 = some (.invokestatic 62, 0) := rfl
theorem kX9_marks_96 : lkp tX9_marks 96 = some (.ifCond .ne 24, 120) := rfl
theorem kX9_marks_99 : lkp tX9_marks 99 = some (.iconst 1, 0) := rfl
theorem kX9_marks_100 : lkp tX9_marks 100 = some (.istore_n 1, 0) := rfl
theorem kX9_marks_101 : lkp tX9_marks 101 = some (.aload_n 0, 0) := rfl
theorem kX9_marks_102 : lkp tX9_marks 102 = some (.iload_n 2, 0) := rfl
theorem kX9_marks_103 : lkp tX9_marks 103 = some (.bipush 11, 0) := rfl
theorem kX9_marks_105 : lkp tX9_marks 105 = some (.aload_n 0, 0) := rfl
theorem kX9_marks_106 : lkp tX9_marks 106 = some (.iload_n 2, 0) := rfl
theorem kX9_marks_107 : lkp tX9_marks 107 = some (.bipush 11, 0) := rfl
theorem kX9_marks_109 : lkp tX9_marks 109 = some (.invokevirtual 49, 0) := rfl
theorem kX9_marks_112 : lkp tX9_marks 112 = some (.iconst 1, 0) := rfl
theorem kX9_marks_113 : lkp tX9_marks 113 = some (.iload 4, 0) := rfl
theorem kX9_marks_115 : lkp tX9_marks 115 = some (.ishl, 0) := rfl
theorem kX9_marks_116 : lkp tX9_marks 116 = some (.ior, 0) := rfl
theorem kX9_marks_117 : lkp tX9_marks 117 = some (.invokevirtual 114, 0) := rfl
theorem kX9_marks_120 : lkp tX9_marks 120 = some (.iinc 3 1, 0) := rfl
theorem kX9_marks_123 : lkp tX9_marks 123 = some (.goto (-107), 16) := rfl
theorem kX9_marks_126 : lkp tX9_marks 126 = some (.iinc 2 1, 0) := rfl
theorem kX9_marks_129 : lkp tX9_marks 129 = some (.goto (-125), 4) := rfl
theorem kX9_marks_132 : lkp tX9_marks 132 = some (.iload_n 1, 0) := rfl
theorem kX9_marks_133 : lkp tX9_marks 133 = some (.ireturn, 0) := rfl
theorem kX9_allocates_0 : lkp tX9_allocates 0 = some (.iconst 0, 0) := rfl
theorem kX9_allocates_1 : lkp tX9_allocates 1 = some (.istore_n 2, 0) := rfl
theorem kX9_allocates_2 : lkp tX9_allocates 2 = some (.iload_n 2, 0) := rfl
theorem kX9_allocates_3 : lkp tX9_allocates 3 = some (.aload_n 0, 0) := rfl
theorem kX9_allocates_4 : lkp tX9_allocates 4 = some (.getfield 9, 0) := rfl
theorem kX9_allocates_7 : lkp tX9_allocates 7 = some (.iconst 0, 0) := rfl
theorem kX9_allocates_8 : lkp tX9_allocates 8 = some (.iaload, 0) := rfl
theorem kX9_allocates_9 : lkp tX9_allocates 9 = some (.if_icmp .ge 17, 26) := rfl
theorem kX9_allocates_12 : lkp tX9_allocates 12 = some (.aload_n 0, 0) := rfl
theorem kX9_allocates_13 : lkp tX9_allocates 13 = some (.iload_n 2, 0) := rfl
theorem kX9_allocates_14 : lkp tX9_allocates 14 = some (.bipush 6, 0) := rfl
theorem kX9_allocates_16 : lkp tX9_allocates 16 = some (.iconst 0, 0) := rfl
theorem kX9_allocates_17 : lkp tX9_allocates 17 = some (.invokevirtual 88, 0) := rfl
theorem kX9_allocates_20 : lkp tX9_allocates 20 = some (.iinc 2 1, 0) := rfl
theorem kX9_allocates_23 : lkp tX9_allocates 23 = some (.goto (-21), 2) := rfl
theorem kX9_allocates_26 : lkp tX9_allocates 26 = some (.iconst 0, 0) := rfl
theorem kX9_allocates_27 : lkp tX9_allocates 27 = some (.istore_n 2, 0) := rfl
theorem kX9_allocates_28 : lkp tX9_allocates 28 = some (.iload_n 2, 0) := rfl
theorem kX9_allocates_29 : lkp tX9_allocates 29 = some (.aload_n 0, 0) := rfl
theorem kX9_allocates_30 : lkp tX9_allocates 30 = some (.getfield 9, 0) := rfl
theorem kX9_allocates_33 : lkp tX9_allocates 33 = some (.iconst 1, 0) := rfl
theorem kX9_allocates_34 : lkp tX9_allocates 34 = some (.iaload, 0) := rfl
theorem kX9_allocates_35 : lkp tX9_allocates 35 = some (.if_icmp .ge 25, 60) := rfl
theorem kX9_allocates_38 : lkp tX9_allocates 38 = some (.aload_n 0, 0) := rfl
theorem kX9_allocates_39 : lkp tX9_allocates 39 = some (.iload_n 2, 0) := rfl
theorem kX9_allocates_40 : lkp tX9_allocates 40 = some (.bipush 11, 0) := rfl
theorem kX9_allocates_42 : lkp tX9_allocates 42 = some (.iconst 0, 0) := rfl
theorem kX9_allocates_43 : lkp tX9_allocates 43 = some (.invokevirtual 114, 0) := rfl
theorem kX9_allocates_46 : lkp tX9_allocates 46 = some (.aload_n 0, 0) := rfl
theorem kX9_allocates_47 : lkp tX9_allocates 47 = some (.iload_n 2, 0) := rfl
theorem kX9_allocates_48 : lkp tX9_allocates 48 = some (.bipush 12, 0) := rfl
theorem kX9_allocates_50 : lkp tX9_allocates 50 = some (.iconst 0, 0) := rfl
theorem kX9_allocates_51 : lkp tX9_allocates 51 = some (.invokevirtual 114, 0) := rfl
theorem kX9_allocates_54 : lkp tX9_allocates 54 = some (.iinc 2 1, 0) := rfl
theorem kX9_allocates_57 : lkp tX9_allocates 57 = some (.goto (-29), 28) := rfl
theorem kX9_allocates_60 : lkp tX9_allocates 60 = some (.iconst 1, 0) := rfl
theorem kX9_allocates_61 : lkp tX9_allocates 61 = some (.istore_n 2, 0) := rfl
theorem kX9_allocates_62 : lkp tX9_allocates 62 = some (.aload_n 0, 0) := rfl
theorem kX9_allocates_63 : lkp tX9_allocates 63 = some (.iload_n 1, 0) := rfl
theorem kX9_allocates_64 : lkp tX9_allocates 64 = some (.invokevirtual 209, 0) := rfl
theorem kX9_allocates_67 : lkp tX9_allocates 67 = some (.aload_n 0, 0) := rfl
theorem kX9_allocates_68 : lkp tX9_allocates 68 = some (.invokevirtual 213, 0) := rfl
theorem kX9_allocates_71 : lkp tX9_allocates 71 = some (.ifCond .eq 14, 85) := rfl
theorem kX9_allocates_74 : lkp tX9_allocates 74 = some (.aload_n 0, 0) := rfl
theorem kX9_allocates_75 : lkp tX9_allocates 75 = some (.iload_n 1, 0) := rfl
theorem kX9_allocates_76 : lkp tX9_allocates 76 = some (.invokevirtual 209, 0) := rfl
theorem kX9_allocates_79 : lkp tX9_allocates 79 = some (.iinc 2 1, 0) := rfl
theorem kX9_allocates_82 : lkp tX9_allocates 82 = some (.goto (-15), 67) := rfl
theorem kX9_allocates_85 : lkp tX9_allocates 85 = some (.iload_n 2, 0) := rfl
theorem kX9_allocates_86 : lkp tX9_allocates 86 = some (.ireturn, 0) := rfl
theorem kX9_allocate_0 : lkp tX9_allocate 0 = some (.aload_n 0, 0) := rfl
theorem kX9_allocate_1 : lkp tX9_allocate 1 = some (.iconst 0, 0) := rfl
theorem kX9_allocate_2 : lkp tX9_allocate 2 = some (.putfield 39, 0) := rfl
theorem kX9_allocate_5 : lkp tX9_allocate 5 = some (.aload_n 0, 0) := rfl
theorem kX9_allocate_6 : lkp tX9_allocate 6 = some (.invokevirtual 85, 0) := rfl
theorem kX9_allocate_9 : lkp tX9_allocate 9 = some (.iconst 0, 0) := rfl
theorem kX9_allocate_10 : lkp tX9_allocate 10 = some (.istore_n 1, 0) := rfl
theorem kX9_allocate_11 : lkp tX9_allocate 11 = some (.iload_n 1, 0) := rfl
theorem kX9_allocate_12 : lkp tX9_allocate 12 = some (.aload_n 0, 0) := rfl
theorem kX9_allocate_13 : lkp tX9_allocate 13 = some (.getfield 9, 0) := rfl
theorem kX9_allocate_16 : lkp tX9_allocate 16 = some (.iconst 1, 0) := rfl
theorem kX9_allocate_17 : lkp tX9_allocate 17 = some (.iaload, 0) := rfl
theorem kX9_allocate_18 : lkp tX9_allocate 18 = some (.if_icmp .ge 22, 40) := rfl
theorem kX9_allocate_21 : lkp tX9_allocate 21 = some (.aload_n 0, 0) := rfl
theorem kX9_allocate_22 : lkp tX9_allocate 22 = some (.getfield 36, 0) := rfl
theorem kX9_allocate_25 : lkp tX9_allocate 25 = some (.iload_n 1, 0) := rfl
theorem kX9_allocate_26 : lkp tX9_allocate 26 = some (.aload_n 0, 0) := rfl
theorem kX9_allocate_27 : lkp tX9_allocate 27 = some (.iload_n 1, 0) := rfl
theorem kX9_allocate_28 : lkp tX9_allocate 28 = some (.bipush 10, 0) := rfl
theorem kX9_allocate_30 : lkp tX9_allocate 30 = some (.invokevirtual 49, 0) := rfl
theorem kX9_allocate_33 : lkp tX9_allocate 33 = some (.iastore, 0) := rfl
theorem kX9_allocate_34 : lkp tX9_allocate 34 = some (.iinc 1 1, 0) := rfl
theorem kX9_allocate_37 : lkp tX9_allocate 37 = some (.goto (-26), 11) := rfl
theorem kX9_allocate_40 : lkp tX9_allocate 40 = some (.aload_n 0, 0) := rfl
theorem kX9_allocate_41 : lkp tX9_allocate 41 = some (.iconst 1, 0) := rfl
theorem kX9_allocate_42 : lkp tX9_allocate 42 = some (.invokevirtual 216, 0) := rfl
theorem kX9_allocate_45 : lkp tX9_allocate 45 = some (.istore_n 1, 0) := rfl
theorem kX9_allocate_46 : lkp tX9_allocate 46 = some (.iconst 0, 0) := rfl
theorem kX9_allocate_47 : lkp tX9_allocate 47 = some (.istore_n 2, 0) := rfl
theorem kX9_allocate_48 : lkp tX9_allocate 48 = some (.iload_n 2, 0) := rfl
theorem kX9_allocate_49 : lkp tX9_allocate 49 = some (.aload_n 0, 0) := rfl
theorem kX9_allocate_50 : lkp tX9_allocate 50 = some (.getfield 9, 0) := rfl
theorem kX9_allocate_53 : lkp tX9_allocate 53 = some (.iconst 1, 0) := rfl
theorem kX9_allocate_54 : lkp tX9_allocate 54 = some (.iaload, 0) := rfl
theorem kX9_allocate_55 : lkp tX9_allocate 55 = some (.if_icmp .ge 44, 99) := rfl
theorem kX9_allocate_58 : lkp tX9_allocate 58 = some (.aload_n 0, 0) := rfl
theorem kX9_allocate_59 : lkp tX9_allocate 59 = some (.getfield 36, 0) := rfl
theorem kX9_allocate_62 : lkp tX9_allocate 62 = some (.iload_n 2, 0) := rfl
theorem kX9_allocate_63 : lkp tX9_allocate 63 = some (.iaload, 0) := rfl
theorem kX9_allocate_64 : lkp tX9_allocate 64 = some (.aload_n 0, 0) := rfl
theorem kX9_allocate_65 : lkp tX9_allocate 65 = some (.iload_n 2, 0) := rfl
theorem kX9_allocate_66 : lkp tX9_allocate 66 = some (.bipush 10, 0) := rfl
theorem kX9_allocate_68 : lkp tX9_allocate 68 = some (.invokevirtual 49, 0) := rfl
theorem kX9_allocate_71 : lkp tX9_allocate 71 = some (.if_icmp .eq 22, 93) := rfl
theorem kX9_allocate_74 : lkp tX9_allocate 74 = some (.aload_n 0, 0) := rfl
theorem kX9_allocate_75 : lkp tX9_allocate 75 = some (.iconst 0, 0) := rfl
theorem kX9_allocate_76 : lkp tX9_allocate 76 = some (.iload_n 2, 0) := rfl
theorem kX9_allocate_77 : lkp tX9_allocate 77 = some (.aload_n 0, 0) := rfl
theorem kX9_allocate_78 : lkp tX9_allocate 78 = some (.getfield 36, 0) := rfl
theorem kX9_allocate_81 : lkp tX9_allocate 81 = some (.iload_n 2, 0) := rfl
theorem kX9_allocate_82 : lkp tX9_allocate 82 = some (.iaload, 0) := rfl
theorem kX9_allocate_83 : lkp tX9_allocate 83 = some (.aload_n 0, 0) := rfl
theorem kX9_allocate_84 : lkp tX9_allocate 84 = some (.iload_n 2, 0) := rfl
theorem kX9_allocate_85 : lkp tX9_allocate 85 = some (.bipush 10, 0) := rfl
theorem kX9_allocate_87 : lkp tX9_allocate 87 = some (.invokevirtual 49, 0) := rfl
theorem kX9_allocate_90 : lkp tX9_allocate 90 = some (.invokevirtual 110, 0) := rfl
theorem kX9_allocate_93 : lkp tX9_allocate 93 = some (.iinc 2 1, 0) := rfl
theorem kX9_allocate_96 : lkp tX9_allocate 96 = some (.goto (-48), 48) := rfl
theorem kX9_allocate_99 : lkp tX9_allocate 99 = some (.iload_n 1, 0) := rfl
theorem kX9_allocate_100 : lkp tX9_allocate 100 = some (.ireturn, 0) := rfl
theorem kX9_again_0 : lkp tX9_again 0 = some (.aload_n 0, 0) := rfl
theorem kX9_again_1 : lkp tX9_again 1 = some (.aload_n 0, 0) := rfl
theorem kX9_again_2 : lkp tX9_again 2 = some (.iload_n 1, 0) := rfl
theorem kX9_again_3 : lkp tX9_again 3 = some (.invokevirtual 192, 0) := rfl
theorem kX9_again_6 : lkp tX9_again 6 = some (.ifCond .eq 7, 13) := rfl
theorem kX9_again_9 : lkp tX9_again 9 = some (.iconst 0, 0) := rfl
theorem kX9_again_10 : lkp tX9_again 10 = some (.goto 4, 14) := rfl
theorem kX9_again_13 : lkp tX9_again 13 = some (.iconst 1, 0) := rfl
theorem kX9_again_14 : lkp tX9_again 14 = some (.putfield 39, 0) := rfl
theorem kX9_again_17 : lkp tX9_again 17 = some (.aload_n 0, 0) := rfl
theorem kX9_again_18 : lkp tX9_again 18 = some (.getfield 39, 0) := rfl
theorem kX9_again_21 : lkp tX9_again 21 = some (.ifCond .eq 5, 26) := rfl
theorem kX9_again_24 : lkp tX9_again 24 = some (.iconst 0, 0) := rfl
theorem kX9_again_25 : lkp tX9_again 25 = some (.ireturn, 0) := rfl
theorem kX9_again_26 : lkp tX9_again 26 = some (.iconst 0, 0) := rfl
theorem kX9_again_27 : lkp tX9_again 27 = some (.istore_n 2, 0) := rfl
theorem kX9_again_28 : lkp tX9_again 28 = some (.iload_n 2, 0) := rfl
theorem kX9_again_29 : lkp tX9_again 29 = some (.sipush 689, 0) := rfl
theorem kX9_again_32 : lkp tX9_again 32 = some (.if_icmp .ge 21, 53) := rfl
theorem kX9_again_35 : lkp tX9_again 35 = some (.aload_n 0, 0) := rfl
theorem kX9_again_36 : lkp tX9_again 36 = some (.getfield 19, 0) := rfl
theorem kX9_again_39 : lkp tX9_again 39 = some (.iload_n 2, 0) := rfl
theorem kX9_again_40 : lkp tX9_again 40 = some (.aload_n 0, 0) := rfl
theorem kX9_again_41 : lkp tX9_again 41 = some (.getfield 9, 0) := rfl
theorem kX9_again_44 : lkp tX9_again 44 = some (.iload_n 2, 0) := rfl
theorem kX9_again_45 : lkp tX9_again 45 = some (.iaload, 0) := rfl
theorem kX9_again_46 : lkp tX9_again 46 = some (.iastore, 0) := rfl
theorem kX9_again_47 : lkp tX9_again 47 = some (.iinc 2 1, 0) := rfl
theorem kX9_again_50 : lkp tX9_again 50 = some (.goto (-22), 28) := rfl
theorem kX9_again_53 : lkp tX9_again 53 = some (.aload_n 0, 0) := rfl
theorem kX9_again_54 : lkp tX9_again 54 = some (.iconst 0, 0) := rfl
theorem kX9_again_55 : lkp tX9_again 55 = some (.invokevirtual 216, 0) := rfl
theorem kX9_again_58 : lkp tX9_again 58 = some (.istore_n 2, 0) := rfl
theorem kX9_again_59 : lkp tX9_again 59 = some (.iload_n 2, 0) := rfl
theorem kX9_again_60 : lkp tX9_again 60 = some (.ifCond .le 13, 73) := rfl
theorem kX9_again_63 : lkp tX9_again 63 = some (.aload_n 0, 0) := rfl
theorem kX9_again_64 : lkp tX9_again 64 = some (.iload_n 1, 0) := rfl
theorem kX9_again_65 : lkp tX9_again 65 = some (.bipush 10, 0) := rfl
theorem kX9_again_67 : lkp tX9_again 67 = some (.invokevirtual 49, 0) := rfl
theorem kX9_again_70 : lkp tX9_again 70 = some (.goto 4, 74) := rfl
theorem kX9_again_73 : lkp tX9_again 73 = some (.iconst (-1), 0) := rfl
theorem kX9_again_74 : lkp tX9_again 74 = some (.istore_n 3, 0) := rfl
theorem kX9_again_75 : lkp tX9_again 75 = some (.iconst 0, 0) := rfl
theorem kX9_again_76 : lkp tX9_again 76 = some (.istore 4, 0) := rfl
theorem kX9_again_78 : lkp tX9_again 78 = some (.iload 4, 0) := rfl
theorem kX9_again_80 : lkp tX9_again 80 = some (.sipush 689, 0) := rfl
theorem kX9_again_83 : lkp tX9_again 83 = some (.if_icmp .ge 23, 106) := rfl
theorem kX9_again_86 : lkp tX9_again 86 = some (.aload_n 0, 0) := rfl
theorem kX9_again_87 : lkp tX9_again 87 = some (.getfield 9, 0) := rfl
theorem kX9_again_90 : lkp tX9_again 90 = some (.iload 4, 0) := rfl
theorem kX9_again_92 : lkp tX9_again 92 = some (.aload_n 0, 0) := rfl
theorem kX9_again_93 : lkp tX9_again 93 = some (.getfield 19, 0) := rfl
theorem kX9_again_96 : lkp tX9_again 96 = some (.iload 4, 0) := rfl
theorem kX9_again_98 : lkp tX9_again 98 = some (.iaload, 0) := rfl
theorem kX9_again_99 : lkp tX9_again 99 = some (.iastore, 0) := rfl
theorem kX9_again_100 : lkp tX9_again 100 = some (.iinc 4 1, 0) := rfl
theorem kX9_again_103 : lkp tX9_again 103 = some (.goto (-25), 78) := rfl
theorem kX9_again_106 : lkp tX9_again 106 = some (.iload_n 3, 0) := rfl
theorem kX9_again_107 : lkp tX9_again 107 = some (.ireturn, 0) := rfl
theorem kX9_unstable_0 : lkp tX9_unstable 0 = some (.aload_n 0, 0) := rfl
theorem kX9_unstable_1 : lkp tX9_unstable 1 = some (.iconst 0, 0) := rfl
theorem kX9_unstable_2 : lkp tX9_unstable 2 = some (.putfield 39, 0) := rfl
theorem kX9_unstable_5 : lkp tX9_unstable 5 = some (.iconst 0, 0) := rfl
theorem kX9_unstable_6 : lkp tX9_unstable 6 = some (.istore_n 1, 0) := rfl
theorem kX9_unstable_7 : lkp tX9_unstable 7 = some (.iconst 0, 0) := rfl
theorem kX9_unstable_8 : lkp tX9_unstable 8 = some (.istore_n 2, 0) := rfl
theorem kX9_unstable_9 : lkp tX9_unstable 9 = some (.iload_n 2, 0) := rfl
theorem kX9_unstable_10 : lkp tX9_unstable 10 = some (.aload_n 0, 0) := rfl
theorem kX9_unstable_11 : lkp tX9_unstable 11 = some (.getfield 9, 0) := rfl
theorem kX9_unstable_14 : lkp tX9_unstable 14 = some (.iconst 1, 0) := rfl
theorem kX9_unstable_15 : lkp tX9_unstable 15 = some (.iaload, 0) := rfl
theorem kX9_unstable_16 : lkp tX9_unstable 16 = some (.if_icmp .ge 61, 77) := rfl
theorem kX9_unstable_19 : lkp tX9_unstable 19 = some (.iconst 0, 0) := rfl
theorem kX9_unstable_20 : lkp tX9_unstable 20 = some (.istore_n 3, 0) := rfl
theorem kX9_unstable_21 : lkp tX9_unstable 21 = some (.iload_n 3, 0) := rfl
theorem kX9_unstable_22 : lkp tX9_unstable 22 = some (.aload_n 0, 0) := rfl
theorem kX9_unstable_23 : lkp tX9_unstable 23 = some (.getfield 9, 0) := rfl
theorem kX9_unstable_26 : lkp tX9_unstable 26 = some (.iconst 0, 0) := rfl
theorem kX9_unstable_27 : lkp tX9_unstable 27 = some (.iaload, 0) := rfl
theorem kX9_unstable_28 : lkp tX9_unstable 28 = some (.if_icmp .ge 43, 71) := rfl
theorem kX9_unstable_31 : lkp tX9_unstable 31 = some (.iload_n 1, 0) := rfl
theorem kX9_unstable_32 : lkp tX9_unstable 32 = some (.aload_n 0, 0) := rfl
theorem kX9_unstable_33 : lkp tX9_unstable 33 = some (.iload_n 2, 0) := rfl
theorem kX9_unstable_34 : lkp tX9_unstable 34 = some (.iload_n 3, 0) := rfl
theorem kX9_unstable_35 : lkp tX9_unstable 35 = some (.invokevirtual 92, 0) := rfl
theorem kX9_unstable_38 : lkp tX9_unstable 38 = some (.ifCond .eq 24, 62) := rfl
theorem kX9_unstable_41 : lkp tX9_unstable 41 = some (.aload_n 0, 0) := rfl
theorem kX9_unstable_42 : lkp tX9_unstable 42 = some (.iload_n 3, 0) := rfl
theorem kX9_unstable_43 : lkp tX9_unstable 43 = some (.invokevirtual 104, 0) := rfl
theorem kX9_unstable_46 : lkp tX9_unstable 46 = some (.ifCond .gt 12, 58) := rfl
theorem kX9_unstable_49 : lkp tX9_unstable 49 = some (.aload_n 0, 0) := rfl
theorem kX9_unstable_50 : lkp tX9_unstable 50 = some (.iload_n 2, 0) := rfl
theorem kX9_unstable_51 : lkp tX9_unstable 51 = some (.iload_n 3, 0) := rfl
theorem kX9_unstable_52 : lkp tX9_unstable 52 = some (.invokevirtual 195, 0) := rfl
theorem kX9_unstable_55 : lkp tX9_unstable 55 = some (.ifCond .eq 7, 62) := rfl
theorem kX9_unstable_58 : lkp tX9_unstable 58 = some (.iconst 1, 0) := rfl
theorem kX9_unstable_59 : lkp tX9_unstable 59 = some (.goto 4, 63) := rfl
theorem kX9_unstable_62 : lkp tX9_unstable 62 = some (.iconst 0, 0) := rfl
theorem kX9_unstable_63 : lkp tX9_unstable 63 = some (.iadd, 0) := rfl
theorem kX9_unstable_64 : lkp tX9_unstable 64 = some (.istore_n 1, 0) := rfl
theorem kX9_unstable_65 : lkp tX9_unstable 65 = some (.iinc 3 1, 0) := rfl
theorem kX9_unstable_68 : lkp tX9_unstable 68 = some (.goto (-47), 21) := rfl
theorem kX9_unstable_71 : lkp tX9_unstable 71 = some (.iinc 2 1, 0) := rfl
theorem kX9_unstable_74 : lkp tX9_unstable 74 = some (.goto (-65), 9) := rfl
theorem kX9_unstable_77 : lkp tX9_unstable 77 = some (.iload_n 1, 0) := rfl
theorem kX9_unstable_78 : lkp tX9_unstable 78 = some (.ireturn, 0) := rfl
theorem kX9_withdraw_0 : lkp tX9_withdraw 0 = some (.aload_n 0, 0) := rfl
theorem kX9_withdraw_1 : lkp tX9_withdraw 1 = some (.aload_n 0, 0) := rfl
theorem kX9_withdraw_2 : lkp tX9_withdraw 2 = some (.iload_n 1, 0) := rfl
theorem kX9_withdraw_3 : lkp tX9_withdraw 3 = some (.invokevirtual 192, 0) := rfl
theorem kX9_withdraw_6 : lkp tX9_withdraw 6 = some (.ifCond .ne 7, 13) := rfl
theorem kX9_withdraw_9 : lkp tX9_withdraw 9 = some (.iconst 1, 0) := rfl
theorem kX9_withdraw_10 : lkp tX9_withdraw 10 = some (.goto 19, 29) := rfl
theorem kX9_withdraw_13 : lkp tX9_withdraw 13 = some (.aload_n 0, 0) := rfl
theorem kX9_withdraw_14 : lkp tX9_withdraw 14 = some (.iload_n 1, 0) := rfl
theorem kX9_withdraw_15 : lkp tX9_withdraw 15 = some (.bipush 10, 0) := rfl
theorem kX9_withdraw_17 : lkp tX9_withdraw 17 = some (.invokevirtual 49, 0) := rfl
theorem kX9_withdraw_20 : lkp tX9_withdraw 20 = some (.iconst (-1), 0) := rfl
theorem kX9_withdraw_21 : lkp tX9_withdraw 21 = some (.if_icmp .ne 7, 28) := rfl
theorem kX9_withdraw_24 : lkp tX9_withdraw 24 = some (.iconst 2, 0) := rfl
theorem kX9_withdraw_25 : lkp tX9_withdraw 25 = some (.goto 4, 29) := rfl
theorem kX9_withdraw_28 : lkp tX9_withdraw 28 = some (.iconst 0, 0) := rfl
theorem kX9_withdraw_29 : lkp tX9_withdraw 29 = some (.putfield 39, 0) := rfl
theorem kX9_withdraw_32 : lkp tX9_withdraw 32 = some (.aload_n 0, 0) := rfl
theorem kX9_withdraw_33 : lkp tX9_withdraw 33 = some (.getfield 39, 0) := rfl
theorem kX9_withdraw_36 : lkp tX9_withdraw 36 = some (.ifCond .eq 5, 41) := rfl
theorem kX9_withdraw_39 : lkp tX9_withdraw 39 = some (.iconst 0, 0) := rfl
theorem kX9_withdraw_40 : lkp tX9_withdraw 40 = some (.ireturn, 0) := rfl
theorem kX9_withdraw_41 : lkp tX9_withdraw 41 = some (.aload_n 0, 0) := rfl
theorem kX9_withdraw_42 : lkp tX9_withdraw 42 = some (.invokevirtual 85, 0) := rfl
theorem kX9_withdraw_45 : lkp tX9_withdraw 45 = some (.aload_n 0, 0) := rfl
theorem kX9_withdraw_46 : lkp tX9_withdraw 46 = some (.iconst 3, 0) := rfl
theorem kX9_withdraw_47 : lkp tX9_withdraw 47 = some (.iload_n 1, 0) := rfl
theorem kX9_withdraw_48 : lkp tX9_withdraw 48 = some (.iconst (-1), 0) := rfl
theorem kX9_withdraw_49 : lkp tX9_withdraw 49 = some (.invokevirtual 124, 0) := rfl
theorem kX9_withdraw_52 : lkp tX9_withdraw 52 = some (.aload_n 0, 0) := rfl
theorem kX9_withdraw_53 : lkp tX9_withdraw 53 = some (.iload_n 1, 0) := rfl
theorem kX9_withdraw_54 : lkp tX9_withdraw 54 = some (.iconst 5, 0) := rfl
theorem kX9_withdraw_55 : lkp tX9_withdraw 55 = some (.iconst 0, 0) := rfl
theorem kX9_withdraw_56 : lkp tX9_withdraw 56 = some (.invokevirtual 114, 0) := rfl
theorem kX9_withdraw_59 : lkp tX9_withdraw 59 = some (.aload_n 0, 0) := rfl
theorem kX9_withdraw_60 : lkp tX9_withdraw 60 = some (.invokevirtual 135, 0) := rfl
theorem kX9_withdraw_63 : lkp tX9_withdraw 63 = some (.ireturn, 0) := rfl
theorem kX9_refusal_0 : lkp tX9_refusal 0 = some (.aload_n 0, 0) := rfl
theorem kX9_refusal_1 : lkp tX9_refusal 1 = some (.iload_n 1, 0) := rfl
theorem kX9_refusal_2 : lkp tX9_refusal 2 = some (.iload_n 2, 0) := rfl
theorem kX9_refusal_3 : lkp tX9_refusal 3 = some (.invokevirtual 92, 0) := rfl
theorem kX9_refusal_6 : lkp tX9_refusal 6 = some (.ifCond .ne 5, 11) := rfl
theorem kX9_refusal_9 : lkp tX9_refusal 9 = some (.iconst 1, 0) := rfl
theorem kX9_refusal_10 : lkp tX9_refusal 10 = some (.ireturn, 0) := rfl
theorem kX9_refusal_11 : lkp tX9_refusal 11 = some (.aload_n 0, 0) := rfl
theorem kX9_refusal_12 : lkp tX9_refusal 12 = some (.iload_n 1, 0) := rfl
theorem kX9_refusal_13 : lkp tX9_refusal 13 = some (.bipush 12, 0) := rfl
theorem kX9_refusal_15 : lkp tX9_refusal 15 = some (.invokevirtual 49, 0) := rfl
theorem kX9_refusal_18 : lkp tX9_refusal 18 = some (.iload_n 2, 0) := rfl
theorem kX9_refusal_19 : lkp tX9_refusal 19 = some (.invokestatic 62, 0) := rfl
theorem kX9_refusal_22 : lkp tX9_refusal 22 = some (.ifCond .eq 5, 27) := rfl
theorem kX9_refusal_25 : lkp tX9_refusal 25 = some (.iconst 2, 0) := rfl
theorem kX9_refusal_26 : lkp tX9_refusal 26 = some (.ireturn, 0) := rfl
theorem kX9_refusal_27 : lkp tX9_refusal 27 = some (.aload_n 0, 0) := rfl
theorem kX9_refusal_28 : lkp tX9_refusal 28 = some (.iload_n 2, 0) := rfl
theorem kX9_refusal_29 : lkp tX9_refusal 29 = some (.bipush 6, 0) := rfl
theorem kX9_refusal_31 : lkp tX9_refusal 31 = some (.invokevirtual 53, 0) := rfl
theorem kX9_refusal_34 : lkp tX9_refusal 34 = some (.iconst 3, 0) := rfl
theorem kX9_refusal_35 : lkp tX9_refusal 35 = some (.if_icmp .ne 5, 40) := rfl
theorem kX9_refusal_38 : lkp tX9_refusal 38 = some (.iconst 3, 0) := rfl
theorem kX9_refusal_39 : lkp tX9_refusal 39 = some (.ireturn, 0) := rfl
theorem kX9_refusal_40 : lkp tX9_refusal 40 = some (.iload_n 3, 0) := rfl
theorem kX9_refusal_41 : lkp tX9_refusal 41 = some (.aload_n 0, 0) := rfl
theorem kX9_refusal_42 : lkp tX9_refusal 42 = some (.iload_n 2, 0) := rfl
theorem kX9_refusal_43 : lkp tX9_refusal 43 = some (.iconst 5, 0) := rfl
theorem kX9_refusal_44 : lkp tX9_refusal 44 = some (.invokevirtual 53, 0) := rfl
theorem kX9_refusal_47 : lkp tX9_refusal 47 = some (.iconst 5, 0) := rfl
theorem kX9_refusal_48 : lkp tX9_refusal 48 = some (.aload_n 0, 0) := rfl
theorem kX9_refusal_49 : lkp tX9_refusal 49 = some (.iload_n 1, 0) := rfl
theorem kX9_refusal_50 : lkp tX9_refusal 50 = some (.iload_n 2, 0) := rfl
theorem kX9_refusal_51 : lkp tX9_refusal 51 = some (.invokevirtual 98, 0) := rfl
theorem kX9_refusal_54 : lkp tX9_refusal 54 = some (.imul, 0) := rfl
theorem kX9_refusal_55 : lkp tX9_refusal 55 = some (.iadd, 0) := rfl
theorem kX9_refusal_56 : lkp tX9_refusal 56 = some (.if_icmp .ge 7, 63) := rfl
theorem kX9_refusal_59 : lkp tX9_refusal 59 = some (.iconst 4, 0) := rfl
theorem kX9_refusal_60 : lkp tX9_refusal 60 = some (.goto 4, 64) := rfl
theorem kX9_refusal_63 : lkp tX9_refusal 63 = some (.iconst 0, 0) := rfl
theorem kX9_refusal_64 : lkp tX9_refusal 64 = some (.ireturn, 0) := rfl
theorem kX9_appeal_0 : lkp tX9_appeal 0 = some (.aload_n 0, 0) := rfl
theorem kX9_appeal_1 : lkp tX9_appeal 1 = some (.iconst 0, 0) := rfl
theorem kX9_appeal_2 : lkp tX9_appeal 2 = some (.putfield 39, 0) := rfl
theorem kX9_appeal_5 : lkp tX9_appeal 5 = some (.aload_n 0, 0) := rfl
theorem kX9_appeal_6 : lkp tX9_appeal 6 = some (.iload_n 1, 0) := rfl
theorem kX9_appeal_7 : lkp tX9_appeal 7 = some (.invokevirtual 192, 0) := rfl
theorem kX9_appeal_10 : lkp tX9_appeal 10 = some (.ifCond .eq 11, 21) := rfl
theorem kX9_appeal_13 : lkp tX9_appeal 13 = some (.aload_n 0, 0) := rfl
theorem kX9_appeal_14 : lkp tX9_appeal 14 = some (.iload_n 2, 0) := rfl
theorem kX9_appeal_15 : lkp tX9_appeal 15 = some (.invokevirtual 127, 0) := rfl
theorem kX9_appeal_18 : lkp tX9_appeal 18 = some (.ifCond .ne 9, 27) := rfl
theorem kX9_appeal_21 : lkp tX9_appeal 21 = some (.aload_n 0, 0) := rfl
theorem kX9_appeal_22 : lkp tX9_appeal 22 = some (.iconst 1, 0) := rfl
theorem kX9_appeal_23 : lkp tX9_appeal 23 = some (.invokevirtual 82, 0) := rfl
theorem kX9_appeal_26 : lkp tX9_appeal 26 = some (.ireturn, 0) := rfl
theorem kX9_appeal_27 : lkp tX9_appeal 27 = some (.iload_n 3, 0) := rfl
theorem kX9_appeal_28 : lkp tX9_appeal 28 = some (.iconst 0, 0) := rfl
theorem kX9_appeal_29 : lkp tX9_appeal 29 = some (.bipush 100, 0) := rfl
theorem kX9_appeal_31 : lkp tX9_appeal 31 = some (.invokestatic 45, 0) := rfl
theorem kX9_appeal_34 : lkp tX9_appeal 34 = some (.ifCond .ne 9, 43) := rfl
theorem kX9_appeal_37 : lkp tX9_appeal 37 = some (.aload_n 0, 0) := rfl
theorem kX9_appeal_38 : lkp tX9_appeal 38 = some (.iconst 2, 0) := rfl
theorem kX9_appeal_39 : lkp tX9_appeal 39 = some (.invokevirtual 82, 0) := rfl
theorem kX9_appeal_42 : lkp tX9_appeal 42 = some (.ireturn, 0) := rfl
theorem kX9_appeal_43 : lkp tX9_appeal 43 = some (.aload_n 0, 0) := rfl
theorem kX9_appeal_44 : lkp tX9_appeal 44 = some (.iload_n 1, 0) := rfl
theorem kX9_appeal_45 : lkp tX9_appeal 45 = some (.iload_n 2, 0) := rfl
theorem kX9_appeal_46 : lkp tX9_appeal 46 = some (.iload_n 3, 0) := rfl
theorem kX9_appeal_47 : lkp tX9_appeal 47 = some (.invokevirtual 219, 0) := rfl
theorem kX9_appeal_50 : lkp tX9_appeal 50 = some (.istore 4, 0) := rfl
theorem kX9_appeal_52 : lkp tX9_appeal 52 = some (.iload 4, 0) := rfl
theorem kX9_appeal_54 : lkp tX9_appeal 54 = some (.ifCond .eq 9, 63) := rfl
theorem kX9_appeal_57 : lkp tX9_appeal 57 = some (.iload 4, 0) := rfl
theorem kX9_appeal_59 : lkp tX9_appeal 59 = some (.iconst 2, 0) := rfl
theorem kX9_appeal_60 : lkp tX9_appeal 60 = some (.if_icmp .le 25, 85) := rfl
theorem kX9_appeal_63 : lkp tX9_appeal 63 = some (.aload_n 0, 0) := rfl
theorem kX9_appeal_64 : lkp tX9_appeal 64 = some (.invokevirtual 85, 0) := rfl
theorem kX9_appeal_67 : lkp tX9_appeal 67 = some (.aload_n 0, 0) := rfl
theorem kX9_appeal_68 : lkp tX9_appeal 68 = some (.iload_n 1, 0) := rfl
theorem kX9_appeal_69 : lkp tX9_appeal 69 = some (.bipush 12, 0) := rfl
theorem kX9_appeal_71 : lkp tX9_appeal 71 = some (.aload_n 0, 0) := rfl
theorem kX9_appeal_72 : lkp tX9_appeal 72 = some (.iload_n 1, 0) := rfl
theorem kX9_appeal_73 : lkp tX9_appeal 73 = some (.bipush 12, 0) := rfl
theorem kX9_appeal_75 : lkp tX9_appeal 75 = some (.invokevirtual 49, 0) := rfl
theorem kX9_appeal_78 : lkp tX9_appeal 78 = some (.iconst 1, 0) := rfl
theorem kX9_appeal_79 : lkp tX9_appeal 79 = some (.iload_n 2, 0) := rfl
theorem kX9_appeal_80 : lkp tX9_appeal 80 = some (.ishl, 0) := rfl
theorem kX9_appeal_81 : lkp tX9_appeal 81 = some (.ior, 0) := rfl
theorem kX9_appeal_82 : lkp tX9_appeal 82 = some (.invokevirtual 114, 0) := rfl
theorem kX9_appeal_85 : lkp tX9_appeal 85 = some (.iload 4, 0) := rfl
theorem kX9_appeal_87 : lkp tX9_appeal 87 = some (.ifCond .eq 15, 102) := rfl
theorem kX9_appeal_90 : lkp tX9_appeal 90 = some (.aload_n 0, 0) := rfl
theorem kX9_appeal_91 : lkp tX9_appeal 91 = some (.iload 4, 0) := rfl
theorem kX9_appeal_93 : lkp tX9_appeal 93 = some (.putfield 222, 0) := rfl
theorem kX9_appeal_96 : lkp tX9_appeal 96 = some (.aload_n 0, 0) := rfl
theorem kX9_appeal_97 : lkp tX9_appeal 97 = some (.iconst 3, 0) := rfl
theorem kX9_appeal_98 : lkp tX9_appeal 98 = some (.invokevirtual 82, 0) := rfl
theorem kX9_appeal_101 : lkp tX9_appeal 101 = some (.ireturn, 0) := rfl
theorem kX9_appeal_102 : lkp tX9_appeal 102 = some (.aload_n 0, 0) := rfl
theorem kX9_appeal_103 : lkp tX9_appeal 103 = some (.iload_n 2, 0) := rfl
theorem kX9_appeal_104 : lkp tX9_appeal 104 = some (.bipush 6, 0) := rfl
theorem kX9_appeal_106 : lkp tX9_appeal 106 = some (.aload_n 0, 0) := rfl
theorem kX9_appeal_107 : lkp tX9_appeal 107 = some (.iload_n 2, 0) := rfl
theorem kX9_appeal_108 : lkp tX9_appeal 108 = some (.bipush 6, 0) := rfl
theorem kX9_appeal_110 : lkp tX9_appeal 110 = some (.invokevirtual 53, 0) := rfl
theorem kX9_appeal_113 : lkp tX9_appeal 113 = some (.iconst 1, 0) := rfl
theorem kX9_appeal_114 : lkp tX9_appeal 114 = some (.iadd, 0) := rfl
theorem kX9_appeal_115 : lkp tX9_appeal 115 = some (.invokevirtual 88, 0) := rfl
theorem kX9_appeal_118 : lkp tX9_appeal 118 = some (.aload_n 0, 0) := rfl
theorem kX9_appeal_119 : lkp tX9_appeal 119 = some (.iconst 2, 0) := rfl
theorem kX9_appeal_120 : lkp tX9_appeal 120 = some (.iload_n 1, 0) := rfl
theorem kX9_appeal_121 : lkp tX9_appeal 121 = some (.iload_n 2, 0) := rfl
theorem kX9_appeal_122 : lkp tX9_appeal 122 = some (.invokevirtual 124, 0) := rfl
theorem kX9_appeal_125 : lkp tX9_appeal 125 = some (.aload_n 0, 0) := rfl
theorem kX9_appeal_126 : lkp tX9_appeal 126 = some (.invokevirtual 135, 0) := rfl
theorem kX9_appeal_129 : lkp tX9_appeal 129 = some (.ireturn, 0) := rfl
theorem kX9_reason_0 : lkp tX9_reason 0 = some (.aload_n 0, 0) := rfl
theorem kX9_reason_1 : lkp tX9_reason 1 = some (.aload_n 0, 0) := rfl
theorem kX9_reason_2 : lkp tX9_reason 2 = some (.getfield 222, 0) := rfl
theorem kX9_reason_5 : lkp tX9_reason 5 = some (.ifCond .ne 7, 12) := rfl
theorem kX9_reason_8 : lkp tX9_reason 8 = some (.iconst 1, 0) := rfl
theorem kX9_reason_9 : lkp tX9_reason 9 = some (.goto 4, 13) := rfl
theorem kX9_reason_12 : lkp tX9_reason 12 = some (.iconst 0, 0) := rfl
theorem kX9_reason_13 : lkp tX9_reason 13 = some (.putfield 39, 0) := rfl
theorem kX9_reason_16 : lkp tX9_reason 16 = some (.aload_n 0, 0) := rfl
theorem kX9_reason_17 : lkp tX9_reason 17 = some (.getfield 222, 0) := rfl
theorem kX9_reason_20 : lkp tX9_reason 20 = some (.ireturn, 0) := rfl
theorem kX9_entry_0 : lkp tX9_entry 0 = some (.aload_n 0, 0) := rfl
theorem kX9_entry_1 : lkp tX9_entry 1 = some (.iconst 0, 0) := rfl
theorem kX9_entry_2 : lkp tX9_entry 2 = some (.putfield 39, 0) := rfl
theorem kX9_entry_5 : lkp tX9_entry 5 = some (.iload_n 1, 0) := rfl
theorem kX9_entry_6 : lkp tX9_entry 6 = some (.iconst 0, 0) := rfl
theorem kX9_entry_7 : lkp tX9_entry 7 = some (.aload_n 0, 0) := rfl
theorem kX9_entry_8 : lkp tX9_entry 8 = some (.getfield 9, 0) := rfl
theorem kX9_entry_11 : lkp tX9_entry 11 = some (.iconst 2, 0) := rfl
theorem kX9_entry_12 : lkp tX9_entry 12 = some (.iaload, 0) := rfl
theorem kX9_entry_13 : lkp tX9_entry 13 = some (.iconst 1, 0) := rfl
theorem kX9_entry_14 : lkp tX9_entry 14 = some (.isub, 0) := rfl
theorem kX9_entry_15 : lkp tX9_entry 15 = some (.invokestatic 45, 0) := rfl
theorem kX9_entry_18 : lkp tX9_entry 18 = some (.ifCond .eq 9, 27) := rfl
theorem kX9_entry_21 : lkp tX9_entry 21 = some (.iload_n 1, 0) := rfl
theorem kX9_entry_22 : lkp tX9_entry 22 = some (.bipush 80, 0) := rfl
theorem kX9_entry_24 : lkp tX9_entry 24 = some (.if_icmp .lt 9, 33) := rfl
theorem kX9_entry_27 : lkp tX9_entry 27 = some (.aload_n 0, 0) := rfl
theorem kX9_entry_28 : lkp tX9_entry 28 = some (.iconst 1, 0) := rfl
theorem kX9_entry_29 : lkp tX9_entry 29 = some (.invokevirtual 82, 0) := rfl
theorem kX9_entry_32 : lkp tX9_entry 32 = some (.ireturn, 0) := rfl
theorem kX9_entry_33 : lkp tX9_entry 33 = some (.iload_n 2, 0) := rfl
theorem kX9_entry_34 : lkp tX9_entry 34 = some (.iconst 0, 0) := rfl
theorem kX9_entry_35 : lkp tX9_entry 35 = some (.iconst 3, 0) := rfl
theorem kX9_entry_36 : lkp tX9_entry 36 = some (.invokestatic 45, 0) := rfl
theorem kX9_entry_39 : lkp tX9_entry 39 = some (.ifCond .eq 20, 59) := rfl
theorem kX9_entry_42 : lkp tX9_entry 42 = some (.aload_n 0, 0) := rfl
theorem kX9_entry_43 : lkp tX9_entry 43 = some (.getfield 9, 0) := rfl
theorem kX9_entry_46 : lkp tX9_entry 46 = some (.sipush 369, 0) := rfl
theorem kX9_entry_49 : lkp tX9_entry 49 = some (.iconst 4, 0) := rfl
theorem kX9_entry_50 : lkp tX9_entry 50 = some (.iload_n 1, 0) := rfl
theorem kX9_entry_51 : lkp tX9_entry 51 = some (.imul, 0) := rfl
theorem kX9_entry_52 : lkp tX9_entry 52 = some (.iadd, 0) := rfl
theorem kX9_entry_53 : lkp tX9_entry 53 = some (.iload_n 2, 0) := rfl
theorem kX9_entry_54 : lkp tX9_entry 54 = some (.iadd, 0) := rfl
theorem kX9_entry_55 : lkp tX9_entry 55 = some (.iaload, 0) := rfl
theorem kX9_entry_56 : lkp tX9_entry 56 = some (.goto 8, 64) := rfl
theorem kX9_entry_59 : lkp tX9_entry 59 = some (.aload_n 0, 0) := rfl
theorem kX9_entry_60 : lkp tX9_entry 60 = some (.iconst 2, 0) := rfl
theorem kX9_entry_61 : lkp tX9_entry 61 = some (.invokevirtual 82, 0) := rfl
theorem kX9_entry_64 : lkp tX9_entry 64 = some (.ireturn, 0) := rfl
theorem kX9_sumOf_0 : lkp tX9_sumOf 0 = some (.iconst 0, 0) := rfl
theorem kX9_sumOf_1 : lkp tX9_sumOf 1 = some (.istore_n 2, 0) := rfl
theorem kX9_sumOf_2 : lkp tX9_sumOf 2 = some (.iconst 0, 0) := rfl
theorem kX9_sumOf_3 : lkp tX9_sumOf 3 = some (.istore_n 3, 0) := rfl
theorem kX9_sumOf_4 : lkp tX9_sumOf 4 = some (.iload_n 3, 0) := rfl
theorem kX9_sumOf_5 : lkp tX9_sumOf 5 = some (.aload_n 0, 0) := rfl
theorem kX9_sumOf_6 : lkp tX9_sumOf 6 = some (.getfield 9, 0) := rfl
theorem kX9_sumOf_9 : lkp tX9_sumOf 9 = some (.iconst 0, 0) := rfl
theorem kX9_sumOf_10 : lkp tX9_sumOf 10 = some (.iaload, 0) := rfl
theorem kX9_sumOf_11 : lkp tX9_sumOf 11 = some (.if_icmp .ge 18, 29) := rfl
theorem kX9_sumOf_14 : lkp tX9_sumOf 14 = some (.iload_n 2, 0) := rfl
theorem kX9_sumOf_15 : lkp tX9_sumOf 15 = some (.aload_n 0, 0) := rfl
theorem kX9_sumOf_16 : lkp tX9_sumOf 16 = some (.iload_n 3, 0) := rfl
theorem kX9_sumOf_17 : lkp tX9_sumOf 17 = some (.iload_n 1, 0) := rfl
theorem kX9_sumOf_18 : lkp tX9_sumOf 18 = some (.invokevirtual 53, 0) := rfl
theorem kX9_sumOf_21 : lkp tX9_sumOf 21 = some (.iadd, 0) := rfl
theorem kX9_sumOf_22 : lkp tX9_sumOf 22 = some (.istore_n 2, 0) := rfl
theorem kX9_sumOf_23 : lkp tX9_sumOf 23 = some (.iinc 3 1, 0) := rfl
theorem kX9_sumOf_26 : lkp tX9_sumOf 26 = some (.goto (-22), 4) := rfl
theorem kX9_sumOf_29 : lkp tX9_sumOf 29 = some (.iload_n 2, 0) := rfl
theorem kX9_sumOf_30 : lkp tX9_sumOf 30 = some (.ireturn, 0) := rfl
theorem kX9_sumOfChildren_0 : lkp tX9_sumOfChildren 0 = some (.iconst 0, 0) := rfl
theorem kX9_sumOfChildren_1 : lkp tX9_sumOfChildren 1 = some (.istore_n 2, 0) := rfl
theorem kX9_sumOfChildren_2 : lkp tX9_sumOfChildren 2 = some (.iconst 0, 0) := rfl
theorem kX9_sumOfChildren_3 : lkp tX9_sumOfChildren 3 = some (.istore_n 3, 0) := rfl
theorem kX9_sumOfChildren_4 : lkp tX9_sumOfChildren 4 = some (.iload_n 3, 0) := rfl
theorem kX9_sumOfChildren_5 : lkp tX9_sumOfChildren 5 = some (.aload_n 0, 0) := rfl
theorem kX9_sumOfChildren_6 : lkp tX9_sumOfChildren 6 = some (.getfield 9, 0) := rfl
theorem kX9_sumOfChildren_9 : lkp tX9_sumOfChildren 9 = some (.iconst 1, 0) := rfl
theorem kX9_sumOfChildren_10 : lkp tX9_sumOfChildren 10 = some (.iaload, 0) := rfl
theorem kX9_sumOfChildren_11 : lkp tX9_sumOfChildren 11 = some (.if_icmp .ge 99, 110) := rfl
theorem kX9_sumOfChildren_14 : lkp tX9_sumOfChildren 14 = some (.aload_n 0, 0) := rfl
theorem kX9_sumOfChildren_15 : lkp tX9_sumOfChildren 15 = some (.iload_n 3, 0) := rfl
theorem kX9_sumOfChildren_16 : lkp tX9_sumOfChildren 16 = some (.bipush 10, 0) := rfl
theorem kX9_sumOfChildren_18 : lkp tX9_sumOfChildren 18 = some (.invokevirtual 49, 0) := rfl
theorem kX9_sumOfChildren_21 : lkp tX9_sumOfChildren 21 = some (.istore 4, 0) := rfl
theorem kX9_sumOfChildren_23 : lkp tX9_sumOfChildren 23 = some (.iload_n 1, 0) := rfl
theorem kX9_sumOfChildren_24 : lkp tX9_sumOfChildren 24 = some (.bipush 6, 0) := rfl
theorem kX9_sumOfChildren_26 : lkp tX9_sumOfChildren 26 = some (.if_icmp .ne 29, 55) := rfl
theorem kX9_sumOfChildren_29 : lkp tX9_sumOfChildren 29 = some (.iload_n 2, 0) := rfl
theorem kX9_sumOfChildren_30 : lkp tX9_sumOfChildren 30 = some (.iload 4, 0) := rfl
theorem kX9_sumOfChildren_32 : lkp tX9_sumOfChildren 32 = some (.iconst (-1), 0) := rfl
theorem kX9_sumOfChildren_33 : lkp tX9_sumOfChildren 33 = some (.if_icmp .ne 16, 49) := rfl
theorem kX9_sumOfChildren_36 : lkp tX9_sumOfChildren 36 = some (.aload_n 0, 0) := rfl
theorem kX9_sumOfChildren_37 : lkp tX9_sumOfChildren 37 = some (.iload_n 3, 0) := rfl
theorem kX9_sumOfChildren_38 : lkp tX9_sumOfChildren 38 = some (.iconst 5, 0) := rfl
theorem kX9_sumOfChildren_39 : lkp tX9_sumOfChildren 39 = some (.invokevirtual 49, 0) := rfl
theorem kX9_sumOfChildren_42 : lkp tX9_sumOfChildren 42 = some (.ifCond .le 7, 49) := rfl
theorem kX9_sumOfChildren_45 : lkp tX9_sumOfChildren 45 = some (.iconst 1, 0) := rfl
theorem kX9_sumOfChildren_46 : lkp tX9_sumOfChildren 46 = some (.goto 4, 50) := rfl
theorem kX9_sumOfChildren_49 : lkp tX9_sumOfChildren 49 = some (.iconst 0, 0) := rfl
theorem kX9_sumOfChildren_50 : lkp tX9_sumOfChildren 50 = some (.iadd, 0) := rfl
theorem kX9_sumOfChildren_51 : lkp tX9_sumOfChildren 51 = some (.istore_n 2, 0) := rfl
theorem kX9_sumOfChildren_52 : lkp tX9_sumOfChildren 52 = some (.goto 52, 104) := rfl
theorem kX9_sumOfChildren_55 : lkp tX9_sumOfChildren 55 = some (.iload 4, 0) := rfl
theorem kX9_sumOfChildren_57 : lkp tX9_sumOfChildren 57 = some (.iconst (-1), 0) := rfl
theorem kX9_sumOfChildren_58 : lkp tX9_sumOfChildren 58 = some (.if_icmp .eq 46, 104) := rfl
theorem kX9_sumOfChildren_61 : lkp tX9_sumOfChildren 61 = some (.iload_n 2, 0) := rfl
theorem kX9_sumOfChildren_62 : lkp tX9_sumOfChildren 62 = some (.iload_n 1, 0) := rfl
theorem kX9_sumOfChildren_63 : lkp tX9_sumOfChildren 63 = some (.iconst 4, 0) := rfl
theorem kX9_sumOfChildren_64 : lkp tX9_sumOfChildren 64 = some (.if_icmp .ne 7, 71) := rfl
theorem kX9_sumOfChildren_67 : lkp tX9_sumOfChildren 67 = some (.iconst 1, 0) := rfl
theorem kX9_sumOfChildren_68 : lkp tX9_sumOfChildren 68 = some (.goto 34, 102) := rfl
theorem kX9_sumOfChildren_71 : lkp tX9_sumOfChildren 71 = some (.iload_n 1, 0) := rfl
theorem kX9_sumOfChildren_72 : lkp tX9_sumOfChildren 72 = some (.bipush 7, 0) := rfl
theorem kX9_sumOfChildren_74 : lkp tX9_sumOfChildren 74 = some (.if_icmp .ne 13, 87) := rfl
theorem kX9_sumOfChildren_77 : lkp tX9_sumOfChildren 77 = some (.aload_n 0, 0) := rfl
theorem kX9_sumOfChildren_78 : lkp tX9_sumOfChildren 78 = some (.iload_n 3, 0) := rfl
theorem kX9_sumOfChildren_79 : lkp tX9_sumOfChildren 79 = some (.iload 4, 0) := rfl
theorem kX9_sumOfChildren_81 : lkp tX9_sumOfChildren 81 = some (.invokevirtual 59, 0) := rfl
theorem kX9_sumOfChildren_84 : lkp tX9_sumOfChildren 84 = some (.goto 18, 102) := rfl
theorem kX9_sumOfChildren_87 : lkp tX9_sumOfChildren 87 = some (.aload_n 0, 0) := rfl
theorem kX9_sumOfChildren_88 : lkp tX9_sumOfChildren 88 = some (.iload_n 3, 0) := rfl
theorem kX9_sumOfChildren_89 : lkp tX9_sumOfChildren 89 = some (.iload 4, 0) := rfl
theorem kX9_sumOfChildren_91 : lkp tX9_sumOfChildren 91 = some (.invokevirtual 75, 0) := rfl
theorem kX9_sumOfChildren_94 : lkp tX9_sumOfChildren 94 = some (.ifCond .ne 7, 101) := rfl
theorem kX9_sumOfChildren_97 : lkp tX9_sumOfChildren 97 = some (.iconst 1, 0) := rfl
theorem kX9_sumOfChildren_98 : lkp tX9_sumOfChildren 98 = some (.goto 4, 102) := rfl
theorem kX9_sumOfChildren_101 : lkp tX9_sumOfChildren 101 = some (.iconst 0, 0) := rfl
theorem kX9_sumOfChildren_102 : lkp tX9_sumOfChildren 102 = some (.iadd, 0) := rfl
theorem kX9_sumOfChildren_103 : lkp tX9_sumOfChildren 103 = some (.istore_n 2, 0) := rfl
theorem kX9_sumOfChildren_104 : lkp tX9_sumOfChildren 104 = some (.iinc 3 1, 0) := rfl
theorem kX9_sumOfChildren_107 : lkp tX9_sumOfChildren 107 = some (.goto (-103), 4) := rfl
theorem kX9_sumOfChildren_110 : lkp tX9_sumOfChildren 110 = some (.iload_n 2, 0) := rfl
theorem kX9_sumOfChildren_111 : lkp tX9_sumOfChildren 111 = some (.ireturn, 0) := rfl
theorem kX9_account_0 : lkp tX9_account 0 = some (.aload_n 0, 0) := rfl
theorem kX9_account_1 : lkp tX9_account 1 = some (.iconst 0, 0) := rfl
theorem kX9_account_2 : lkp tX9_account 2 = some (.putfield 39, 0) := rfl
theorem kX9_account_5 : lkp tX9_account 5 = some (.iload_n 1, 0) := rfl
theorem kX9_account_6 : lkp tX9_account 6 = some (.tableswitch 101 0 10 #[58, 58, 65, 71, 78, 78, 78, 78, 84, 91, 96], 0) := rfl
theorem kX9_account_64 : lkp tX9_account 64 = some (.aload_n 0, 0) := rfl
theorem kX9_account_65 : lkp tX9_account 65 = some (.getfield 9, 0) := rfl
theorem kX9_account_68 : lkp tX9_account 68 = some (.iload_n 1, 0) := rfl
theorem kX9_account_69 : lkp tX9_account 69 = some (.iaload, 0) := rfl
theorem kX9_account_70 : lkp tX9_account 70 = some (.ireturn, 0) := rfl
theorem kX9_account_71 : lkp tX9_account 71 = some (.aload_n 0, 0) := rfl
theorem kX9_account_72 : lkp tX9_account 72 = some (.iconst 2, 0) := rfl
theorem kX9_account_73 : lkp tX9_account 73 = some (.invokevirtual 225, 0) := rfl
theorem kX9_account_76 : lkp tX9_account 76 = some (.ireturn, 0) := rfl
theorem kX9_account_77 : lkp tX9_account 77 = some (.aload_n 0, 0) := rfl
theorem kX9_account_78 : lkp tX9_account 78 = some (.bipush 6, 0) := rfl
theorem kX9_account_80 : lkp tX9_account 80 = some (.invokevirtual 225, 0) := rfl
theorem kX9_account_83 : lkp tX9_account 83 = some (.ireturn, 0) := rfl
theorem kX9_account_84 : lkp tX9_account 84 = some (.aload_n 0, 0) := rfl
theorem kX9_account_85 : lkp tX9_account 85 = some (.iload_n 1, 0) := rfl
theorem kX9_account_86 : lkp tX9_account 86 = some (.invokevirtual 228, 0) := rfl
theorem kX9_account_89 : lkp tX9_account 89 = some (.ireturn, 0) := rfl
theorem kX9_account_90 : lkp tX9_account 90 = some (.aload_n 0, 0) := rfl
theorem kX9_account_91 : lkp tX9_account 91 = some (.getfield 9, 0) := rfl
theorem kX9_account_94 : lkp tX9_account 94 = some (.iconst 2, 0) := rfl
theorem kX9_account_95 : lkp tX9_account 95 = some (.iaload, 0) := rfl
theorem kX9_account_96 : lkp tX9_account 96 = some (.ireturn, 0) := rfl
theorem kX9_account_97 : lkp tX9_account 97 = some (.aload_n 0, 0) := rfl
theorem kX9_account_98 : lkp tX9_account 98 = some (.getfield 42, 0) := rfl
theorem kX9_account_101 : lkp tX9_account 101 = some (.ireturn, 0) := rfl
theorem kX9_account_102 : lkp tX9_account 102 = some (.aload_n 0, 0) := rfl
theorem kX9_account_103 : lkp tX9_account 103 = some (.getfield 179, 0) := rfl
theorem kX9_account_106 : lkp tX9_account 106 = some (.ireturn, 0) := rfl
theorem kX9_account_107 : lkp tX9_account 107 = some (.aload_n 0, 0) := rfl
theorem kX9_account_108 : lkp tX9_account 108 = some (.iconst 1, 0) := rfl
theorem kX9_account_109 : lkp tX9_account 109 = some (.invokevirtual 82, 0) := rfl
theorem kX9_account_112 : lkp tX9_account 112 = some (.ireturn, 0) := rfl
theorem kX9_meanDistance_0 : lkp tX9_meanDistance 0 = some (.aload_n 0, 0) := rfl
theorem kX9_meanDistance_1 : lkp tX9_meanDistance 1 = some (.iconst 0, 0) := rfl
theorem kX9_meanDistance_2 : lkp tX9_meanDistance 2 = some (.putfield 39, 0) := rfl
theorem kX9_meanDistance_5 : lkp tX9_meanDistance 5 = some (.aload_n 0, 0) := rfl
theorem kX9_meanDistance_6 : lkp tX9_meanDistance 6 = some (.iconst 4, 0) := rfl
theorem kX9_meanDistance_7 : lkp tX9_meanDistance 7 = some (.invokevirtual 228, 0) := rfl
theorem kX9_meanDistance_10 : lkp tX9_meanDistance 10 = some (.istore_n 1, 0) := rfl
theorem kX9_meanDistance_11 : lkp tX9_meanDistance 11 = some (.iload_n 1, 0) := rfl
theorem kX9_meanDistance_12 : lkp tX9_meanDistance 12 = some (.ifCond .ne 10, 22) := rfl
theorem kX9_meanDistance_15 : lkp tX9_meanDistance 15 = some (.aload_n 0, 0) := rfl
theorem kX9_meanDistance_16 : lkp tX9_meanDistance 16 = some (.iconst 1, 0) := rfl
theorem kX9_meanDistance_17 : lkp tX9_meanDistance 17 = some (.putfield 39, 0) := rfl
theorem kX9_meanDistance_20 : lkp tX9_meanDistance 20 = some (.dconst 0, 0) := rfl
theorem kX9_meanDistance_21 : lkp tX9_meanDistance 21 = some (.dreturn, 0) := rfl
theorem kX9_meanDistance_22 : lkp tX9_meanDistance 22 = some (.aload_n 0, 0) := rfl
theorem kX9_meanDistance_23 : lkp tX9_meanDistance 23 = some (.bipush 7, 0) := rfl
theorem kX9_meanDistance_25 : lkp tX9_meanDistance 25 = some (.invokevirtual 228, 0) := rfl
theorem kX9_meanDistance_28 : lkp tX9_meanDistance 28 = some (.i2d, 0) := rfl
theorem kX9_meanDistance_29 : lkp tX9_meanDistance 29 = some (.iload_n 1, 0) := rfl
theorem kX9_meanDistance_30 : lkp tX9_meanDistance 30 = some (.i2d, 0) := rfl
theorem kX9_meanDistance_31 : lkp tX9_meanDistance 31 = some (.ddiv, 0) := rfl
theorem kX9_meanDistance_32 : lkp tX9_meanDistance 32 = some (.dreturn, 0) := rfl
theorem kX9_feed_0 : lkp tX9_feed 0 = some (.aload_n 0, 0) := rfl
theorem kX9_feed_1 : lkp tX9_feed 1 = some (.iconst 0, 0) := rfl
theorem kX9_feed_2 : lkp tX9_feed 2 = some (.putfield 39, 0) := rfl
theorem kX9_feed_5 : lkp tX9_feed 5 = some (.aload_n 0, 0) := rfl
theorem kX9_feed_6 : lkp tX9_feed 6 = some (.getfield 179, 0) := rfl
theorem kX9_feed_9 : lkp tX9_feed 9 = some (.bipush 40, 0) := rfl
theorem kX9_feed_11 : lkp tX9_feed 11 = some (.if_icmp .ne 9, 20) := rfl
theorem kX9_feed_14 : lkp tX9_feed 14 = some (.aload_n 0, 0) := rfl
theorem kX9_feed_15 : lkp tX9_feed 15 = some (.iconst 1, 0) := rfl
theorem kX9_feed_16 : lkp tX9_feed 16 = some (.invokevirtual 82, 0) := rfl
theorem kX9_feed_19 : lkp tX9_feed 19 = some (.ireturn, 0) := rfl
theorem kX9_feed_20 : lkp tX9_feed 20 = some (.aload_n 0, 0) := rfl
theorem kX9_feed_21 : lkp tX9_feed 21 = some (.getfield 26, 0) := rfl
theorem kX9_feed_24 : lkp tX9_feed 24 = some (.aload_n 0, 0) := rfl
theorem kX9_feed_25 : lkp tX9_feed 25 = some (.getfield 179, 0) := rfl
theorem kX9_feed_28 : lkp tX9_feed 28 = some (.iload_n 1, 0) := rfl
theorem kX9_feed_29 : lkp tX9_feed 29 = some (.castore, 0) := rfl
theorem kX9_feed_30 : lkp tX9_feed 30 = some (.aload_n 0, 0) := rfl
theorem kX9_feed_31 : lkp tX9_feed 31 = some (.dup, 0) := rfl
theorem kX9_feed_32 : lkp tX9_feed 32 = some (.getfield 179, 0) := rfl
theorem kX9_feed_35 : lkp tX9_feed 35 = some (.iconst 1, 0) := rfl
theorem kX9_feed_36 : lkp tX9_feed 36 = some (.iadd, 0) := rfl
theorem kX9_feed_37 : lkp tX9_feed 37 = some (.putfield 179, 0) := rfl
theorem kX9_feed_40 : lkp tX9_feed 40 = some (.aload_n 0, 0) := rfl
theorem kX9_feed_41 : lkp tX9_feed 41 = some (.getfield 179, 0) := rfl
theorem kX9_feed_44 : lkp tX9_feed 44 = some (.ireturn, 0) := rfl
theorem kX9_errorPosition_0 : lkp tX9_errorPosition 0 = some (.aload_n 0, 0) := rfl
theorem kX9_errorPosition_1 : lkp tX9_errorPosition 1 = some (.aload_n 0, 0) := rfl
theorem kX9_errorPosition_2 : lkp tX9_errorPosition 2 = some (.getfield 22, 0) := rfl
theorem kX9_errorPosition_5 : lkp tX9_errorPosition 5 = some (.iconst (-1), 0) := rfl
theorem kX9_errorPosition_6 : lkp tX9_errorPosition 6 = some (.if_icmp .ne 7, 13) := rfl
theorem kX9_errorPosition_9 : lkp tX9_errorPosition 9 = some (.iconst 1, 0) := rfl
theorem kX9_errorPosition_10 : lkp tX9_errorPosition 10 = some (.goto 4, 14) := rfl
theorem kX9_errorPosition_13 : lkp tX9_errorPosition 13 = some (.iconst 0, 0) := rfl
theorem kX9_errorPosition_14 : lkp tX9_errorPosition 14 = some (.putfield 39, 0) := rfl
theorem kX9_errorPosition_17 : lkp tX9_errorPosition 17 = some (.aload_n 0, 0) := rfl
theorem kX9_errorPosition_18 : lkp tX9_errorPosition 18 = some (.getfield 39, 0) := rfl
theorem kX9_errorPosition_21 : lkp tX9_errorPosition 21 = some (.ifCond .ne 10, 31) := rfl
theorem kX9_errorPosition_24 : lkp tX9_errorPosition 24 = some (.aload_n 0, 0) := rfl
theorem kX9_errorPosition_25 : lkp tX9_errorPosition 25 = some (.getfield 22, 0) := rfl
theorem kX9_errorPosition_28 : lkp tX9_errorPosition 28 = some (.goto 4, 32) := rfl
theorem kX9_errorPosition_31 : lkp tX9_errorPosition 31 = some (.iconst 0, 0) := rfl
theorem kX9_errorPosition_32 : lkp tX9_errorPosition 32 = some (.ireturn, 0) := rfl
theorem kX9_undo_0 : lkp tX9_undo 0 = some (.aload_n 0, 0) := rfl
theorem kX9_undo_1 : lkp tX9_undo 1 = some (.iconst 0, 0) := rfl
theorem kX9_undo_2 : lkp tX9_undo 2 = some (.putfield 39, 0) := rfl
theorem kX9_undo_5 : lkp tX9_undo 5 = some (.aload_n 0, 0) := rfl
theorem kX9_undo_6 : lkp tX9_undo 6 = some (.getfield 42, 0) := rfl
theorem kX9_undo_9 : lkp tX9_undo 9 = some (.ifCond .ne 9, 18) := rfl
theorem kX9_undo_12 : lkp tX9_undo 12 = some (.aload_n 0, 0) := rfl
theorem kX9_undo_13 : lkp tX9_undo 13 = some (.iconst 1, 0) := rfl
theorem kX9_undo_14 : lkp tX9_undo 14 = some (.invokevirtual 82, 0) := rfl
theorem kX9_undo_17 : lkp tX9_undo 17 = some (.ireturn, 0) := rfl
theorem kX9_undo_18 : lkp tX9_undo 18 = some (.aload_n 0, 0) := rfl
theorem kX9_undo_19 : lkp tX9_undo 19 = some (.dup, 0) := rfl
theorem kX9_undo_20 : lkp tX9_undo 20 = some (.getfield 42, 0) := rfl
theorem kX9_undo_23 : lkp tX9_undo 23 = some (.iconst 1, 0) := rfl
theorem kX9_undo_24 : lkp tX9_undo 24 = some (.isub, 0) := rfl
theorem kX9_undo_25 : lkp tX9_undo 25 = some (.putfield 42, 0) := rfl
theorem kX9_undo_28 : lkp tX9_undo 28 = some (.iconst 0, 0) := rfl
theorem kX9_undo_29 : lkp tX9_undo 29 = some (.istore_n 1, 0) := rfl
theorem kX9_undo_30 : lkp tX9_undo 30 = some (.iload_n 1, 0) := rfl
theorem kX9_undo_31 : lkp tX9_undo 31 = some (.sipush 689, 0) := rfl
theorem kX9_undo_34 : lkp tX9_undo 34 = some (.if_icmp .ge 30, 64) := rfl
theorem kX9_undo_37 : lkp tX9_undo 37 = some (.aload_n 0, 0) := rfl
theorem kX9_undo_38 : lkp tX9_undo 38 = some (.getfield 9, 0) := rfl
theorem kX9_undo_41 : lkp tX9_undo 41 = some (.iload_n 1, 0) := rfl
theorem kX9_undo_42 : lkp tX9_undo 42 = some (.aload_n 0, 0) := rfl
theorem kX9_undo_43 : lkp tX9_undo 43 = some (.getfield 13, 0) := rfl
theorem kX9_undo_46 : lkp tX9_undo 46 = some (.sipush 689, 0) := rfl
theorem kX9_undo_49 : lkp tX9_undo 49 = some (.aload_n 0, 0) := rfl
theorem kX9_undo_50 : lkp tX9_undo 50 = some (.getfield 42, 0) := rfl
theorem kX9_undo_53 : lkp tX9_undo 53 = some (.imul, 0) := rfl
theorem kX9_undo_54 : lkp tX9_undo 54 = some (.iload_n 1, 0) := rfl
theorem kX9_undo_55 : lkp tX9_undo 55 = some (.iadd, 0) := rfl
theorem kX9_undo_56 : lkp tX9_undo 56 = some (.iaload, 0) := rfl
theorem kX9_undo_57 : lkp tX9_undo 57 = some (.iastore, 0) := rfl
theorem kX9_undo_58 : lkp tX9_undo 58 = some (.iinc 1 1, 0) := rfl
theorem kX9_undo_61 : lkp tX9_undo 61 = some (.goto (-31), 30) := rfl
theorem kX9_undo_64 : lkp tX9_undo 64 = some (.aload_n 0, 0) := rfl
theorem kX9_undo_65 : lkp tX9_undo 65 = some (.getfield 42, 0) := rfl
theorem kX9_undo_68 : lkp tX9_undo 68 = some (.ireturn, 0) := rfl
theorem kX9_save_0 : lkp tX9_save 0 = some (.aload_n 0, 0) := rfl
theorem kX9_save_1 : lkp tX9_save 1 = some (.iconst 0, 0) := rfl
theorem kX9_save_2 : lkp tX9_save 2 = some (.putfield 39, 0) := rfl
theorem kX9_save_5 : lkp tX9_save 5 = some (.aload_n 0, 0) := rfl
theorem kX9_save_6 : lkp tX9_save 6 = some (.iconst 1, 0) := rfl
theorem kX9_save_7 : lkp tX9_save 7 = some (.putfield 231, 0) := rfl
theorem kX9_save_10 : lkp tX9_save 10 = some (.iconst 0, 0) := rfl
theorem kX9_save_11 : lkp tX9_save 11 = some (.istore_n 1, 0) := rfl
theorem kX9_save_12 : lkp tX9_save 12 = some (.iload_n 1, 0) := rfl
theorem kX9_save_13 : lkp tX9_save 13 = some (.sipush 689, 0) := rfl
theorem kX9_save_16 : lkp tX9_save 16 = some (.if_icmp .ge 21, 37) := rfl
theorem kX9_save_19 : lkp tX9_save 19 = some (.aload_n 0, 0) := rfl
theorem kX9_save_20 : lkp tX9_save 20 = some (.getfield 16, 0) := rfl
theorem kX9_save_23 : lkp tX9_save 23 = some (.iload_n 1, 0) := rfl
theorem kX9_save_24 : lkp tX9_save 24 = some (.aload_n 0, 0) := rfl
theorem kX9_save_25 : lkp tX9_save 25 = some (.getfield 9, 0) := rfl
theorem kX9_save_28 : lkp tX9_save 28 = some (.iload_n 1, 0) := rfl
theorem kX9_save_29 : lkp tX9_save 29 = some (.iaload, 0) := rfl
theorem kX9_save_30 : lkp tX9_save 30 = some (.iastore, 0) := rfl
theorem kX9_save_31 : lkp tX9_save 31 = some (.iinc 1 1, 0) := rfl
theorem kX9_save_34 : lkp tX9_save 34 = some (.goto (-22), 12) := rfl
theorem kX9_save_37 : lkp tX9_save 37 = some (.aload_n 0, 0) := rfl
theorem kX9_save_38 : lkp tX9_save 38 = some (.iconst 4, 0) := rfl
theorem kX9_save_39 : lkp tX9_save 39 = some (.invokevirtual 228, 0) := rfl
theorem kX9_save_42 : lkp tX9_save 42 = some (.ireturn, 0) := rfl
theorem kX9_restore_0 : lkp tX9_restore 0 = some (.aload_n 0, 0) := rfl
theorem kX9_restore_1 : lkp tX9_restore 1 = some (.iconst 0, 0) := rfl
theorem kX9_restore_2 : lkp tX9_restore 2 = some (.putfield 39, 0) := rfl
theorem kX9_restore_5 : lkp tX9_restore 5 = some (.aload_n 0, 0) := rfl
theorem kX9_restore_6 : lkp tX9_restore 6 = some (.getfield 231, 0) := rfl
theorem kX9_restore_9 : lkp tX9_restore 9 = some (.ifCond .ne 9, 18) := rfl
theorem kX9_restore_12 : lkp tX9_restore 12 = some (.aload_n 0, 0) := rfl
theorem kX9_restore_13 : lkp tX9_restore 13 = some (.iconst 1, 0) := rfl
theorem kX9_restore_14 : lkp tX9_restore 14 = some (.invokevirtual 82, 0) := rfl
theorem kX9_restore_17 : lkp tX9_restore 17 = some (.ireturn, 0) := rfl
theorem kX9_restore_18 : lkp tX9_restore 18 = some (.iconst 0, 0) := rfl
theorem kX9_restore_19 : lkp tX9_restore 19 = some (.istore_n 1, 0) := rfl
theorem kX9_restore_20 : lkp tX9_restore 20 = some (.iload_n 1, 0) := rfl
theorem kX9_restore_21 : lkp tX9_restore 21 = some (.sipush 689, 0) := rfl
theorem kX9_restore_24 : lkp tX9_restore 24 = some (.if_icmp .ge 21, 45) := rfl
theorem kX9_restore_27 : lkp tX9_restore 27 = some (.aload_n 0, 0) := rfl
theorem kX9_restore_28 : lkp tX9_restore 28 = some (.getfield 9, 0) := rfl
theorem kX9_restore_31 : lkp tX9_restore 31 = some (.iload_n 1, 0) := rfl
theorem kX9_restore_32 : lkp tX9_restore 32 = some (.aload_n 0, 0) := rfl
theorem kX9_restore_33 : lkp tX9_restore 33 = some (.getfield 16, 0) := rfl
theorem kX9_restore_36 : lkp tX9_restore 36 = some (.iload_n 1, 0) := rfl
theorem kX9_restore_37 : lkp tX9_restore 37 = some (.iaload, 0) := rfl
theorem kX9_restore_38 : lkp tX9_restore 38 = some (.iastore, 0) := rfl
theorem kX9_restore_39 : lkp tX9_restore 39 = some (.iinc 1 1, 0) := rfl
theorem kX9_restore_42 : lkp tX9_restore 42 = some (.goto (-22), 20) := rfl
theorem kX9_restore_45 : lkp tX9_restore 45 = some (.aload_n 0, 0) := rfl
theorem kX9_restore_46 : lkp tX9_restore 46 = some (.iconst 0, 0) := rfl
theorem kX9_restore_47 : lkp tX9_restore 47 = some (.putfield 42, 0) := rfl
theorem kX9_restore_50 : lkp tX9_restore 50 = some (.aload_n 0, 0) := rfl
theorem kX9_restore_51 : lkp tX9_restore 51 = some (.iconst 4, 0) := rfl
theorem kX9_restore_52 : lkp tX9_restore 52 = some (.invokevirtual 228, 0) := rfl
theorem kX9_restore_55 : lkp tX9_restore 55 = some (.ireturn, 0) := rfl
