/-! what stands at each place -/
theorem gX0_sum_0 : zget (zMt mX0_sum) 0 = some (.aload_n 0, 1) := rfl
theorem gX0_sum_1 : zget (zMt mX0_sum) 1 = some (.getfield 9, 3) := rfl
theorem gX0_sum_4 : zget (zMt mX0_sum) 4 = some (.iconst 0, 1) := rfl
theorem gX0_sum_5 : zget (zMt mX0_sum) 5 = some (.invokestatic 19, 3) := rfl
theorem gX0_sum_8 : zget (zMt mX0_sum) 8 = some (.ireturn, 1) := rfl
theorem gX0_holds_0 : zget (zMt mX0_holds) 0 = some (.aload_n 0, 1) := rfl
theorem gX0_holds_1 : zget (zMt mX0_holds) 1 = some (.getfield 15, 3) := rfl
theorem gX0_holds_4 : zget (zMt mX0_holds) 4 = some (.iload_n 1, 1) := rfl
theorem gX0_holds_5 : zget (zMt mX0_holds) 5 = some (.invokestatic 23, 3) := rfl
theorem gX0_holds_8 : zget (zMt mX0_holds) 8 = some (.ireturn, 1) := rfl
theorem gX0_choose_0 : zget (zMt mX0_choose) 0 = some (.aload_n 0, 1) := rfl
theorem gX0_choose_1 : zget (zMt mX0_choose) 1 = some (.aload_n 1, 1) := rfl
theorem gX0_choose_2 : zget (zMt mX0_choose) 2 = some (.invokevirtual 27, 3) := rfl
theorem gX0_choose_5 : zget (zMt mX0_choose) 5 = some (.iconst 0, 1) := rfl
theorem gX0_choose_6 : zget (zMt mX0_choose) 6 = some (.istore_n 2, 1) := rfl
theorem gX0_choose_7 : zget (zMt mX0_choose) 7 = some (.iconst 0, 1) := rfl
theorem gX0_choose_8 : zget (zMt mX0_choose) 8 = some (.istore_n 3, 1) := rfl
theorem gX0_choose_9 : zget (zMt mX0_choose) 9 = some (.iload_n 3, 1) := rfl
theorem gX0_choose_10 : zget (zMt mX0_choose) 10 = some (.bipush 30, 2) := rfl
theorem gX0_choose_12 : zget (zMt mX0_choose) 12 = some (.if_icmp .ge 65, 3) := rfl
theorem gX0_choose_15 : zget (zMt mX0_choose) 15 = some (.iload_n 3, 1) := rfl
theorem gX0_choose_16 : zget (zMt mX0_choose) 16 = some (.aload_n 1, 1) := rfl
theorem gX0_choose_17 : zget (zMt mX0_choose) 17 = some (.invokevirtual 31, 3) := rfl
theorem gX0_choose_20 : zget (zMt mX0_choose) 20 = some (.if_icmp .ge 25, 3) := rfl
theorem gX0_choose_23 : zget (zMt mX0_choose) 23 = some (.aload_n 1, 1) := rfl
theorem gX0_choose_24 : zget (zMt mX0_choose) 24 = some (.iload_n 3, 1) := rfl
theorem gX0_choose_25 : zget (zMt mX0_choose) 25 = some (.invokevirtual 37, 3) := rfl
theorem gX0_choose_28 : zget (zMt mX0_choose) 28 = some (.iload_n 2, 1) := rfl
theorem gX0_choose_29 : zget (zMt mX0_choose) 29 = some (.if_icmp .lt 16, 3) := rfl
theorem gX0_choose_32 : zget (zMt mX0_choose) 32 = some (.aload_n 0, 1) := rfl
theorem gX0_choose_33 : zget (zMt mX0_choose) 33 = some (.aload_n 1, 1) := rfl
theorem gX0_choose_34 : zget (zMt mX0_choose) 34 = some (.iload_n 3, 1) := rfl
theorem gX0_choose_35 : zget (zMt mX0_choose) 35 = some (.invokevirtual 41, 3) := rfl
theorem gX0_choose_38 : zget (zMt mX0_choose) 38 = some (.ifCond .eq 7, 3) := rfl
theorem gX0_choose_41 : zget (zMt mX0_choose) 41 = some (.iconst 1, 1) := rfl
theorem gX0_choose_42 : zget (zMt mX0_choose) 42 = some (.goto 4, 3) := rfl
theorem gX0_choose_45 : zget (zMt mX0_choose) 45 = some (.iconst 0, 1) := rfl
theorem gX0_choose_46 : zget (zMt mX0_choose) 46 = some (.istore 4, 2) := rfl
theorem gX0_choose_48 : zget (zMt mX0_choose) 48 = some (.aload_n 0, 1) := rfl
theorem gX0_choose_49 : zget (zMt mX0_choose) 49 = some (.getfield 15, 3) := rfl
theorem gX0_choose_52 : zget (zMt mX0_choose) 52 = some (.iload_n 3, 1) := rfl
theorem gX0_choose_53 : zget (zMt mX0_choose) 53 = some (.iload 4, 2) := rfl
theorem gX0_choose_55 : zget (zMt mX0_choose) 55 = some (.invokestatic 45, 3) := rfl
theorem gX0_choose_58 : zget (zMt mX0_choose) 58 = some (.iload 4, 2) := rfl
theorem gX0_choose_60 : zget (zMt mX0_choose) 60 = some (.ifCond .eq 11, 3) := rfl
theorem gX0_choose_63 : zget (zMt mX0_choose) 63 = some (.aload_n 1, 1) := rfl
theorem gX0_choose_64 : zget (zMt mX0_choose) 64 = some (.iload_n 3, 1) := rfl
theorem gX0_choose_65 : zget (zMt mX0_choose) 65 = some (.invokevirtual 49, 3) := rfl
theorem gX0_choose_68 : zget (zMt mX0_choose) 68 = some (.iconst 1, 1) := rfl
theorem gX0_choose_69 : zget (zMt mX0_choose) 69 = some (.iadd, 1) := rfl
theorem gX0_choose_70 : zget (zMt mX0_choose) 70 = some (.istore_n 2, 1) := rfl
theorem gX0_choose_71 : zget (zMt mX0_choose) 71 = some (.iinc 3 1, 3) := rfl
theorem gX0_choose_74 : zget (zMt mX0_choose) 74 = some (.goto (-65), 3) := rfl
theorem gX0_choose_77 : zget (zMt mX0_choose) 77 = some (.return_, 1) := rfl
theorem gX0_hasClash_0 : zget (zMt mX0_hasClash) 0 = some (.iconst 0, 1) := rfl
theorem gX0_hasClash_1 : zget (zMt mX0_hasClash) 1 = some (.istore_n 2, 1) := rfl
theorem gX0_hasClash_2 : zget (zMt mX0_hasClash) 2 = some (.iload_n 2, 1) := rfl
theorem gX0_hasClash_3 : zget (zMt mX0_hasClash) 3 = some (.aload_n 1, 1) := rfl
theorem gX0_hasClash_4 : zget (zMt mX0_hasClash) 4 = some (.invokevirtual 31, 3) := rfl
theorem gX0_hasClash_7 : zget (zMt mX0_hasClash) 7 = some (.if_icmp .ge 83, 3) := rfl
theorem gX0_hasClash_10 : zget (zMt mX0_hasClash) 10 = some (.iload_n 2, 1) := rfl
theorem gX0_hasClash_11 : zget (zMt mX0_hasClash) 11 = some (.iconst 1, 1) := rfl
theorem gX0_hasClash_12 : zget (zMt mX0_hasClash) 12 = some (.iadd, 1) := rfl
theorem gX0_hasClash_13 : zget (zMt mX0_hasClash) 13 = some (.istore_n 3, 1) := rfl
theorem gX0_hasClash_14 : zget (zMt mX0_hasClash) 14 = some (.iload_n 3, 1) := rfl
theorem gX0_hasClash_15 : zget (zMt mX0_hasClash) 15 = some (.aload_n 1, 1) := rfl
theorem gX0_hasClash_16 : zget (zMt mX0_hasClash) 16 = some (.invokevirtual 31, 3) := rfl
theorem gX0_hasClash_19 : zget (zMt mX0_hasClash) 19 = some (.if_icmp .ge 65, 3) := rfl
theorem gX0_hasClash_22 : zget (zMt mX0_hasClash) 22 = some (.aload_n 1, 1) := rfl
theorem gX0_hasClash_23 : zget (zMt mX0_hasClash) 23 = some (.iload_n 2, 1) := rfl
theorem gX0_hasClash_24 : zget (zMt mX0_hasClash) 24 = some (.invokevirtual 37, 3) := rfl
theorem gX0_hasClash_27 : zget (zMt mX0_hasClash) 27 = some (.aload_n 1, 1) := rfl
theorem gX0_hasClash_28 : zget (zMt mX0_hasClash) 28 = some (.iload_n 3, 1) := rfl
theorem gX0_hasClash_29 : zget (zMt mX0_hasClash) 29 = some (.invokevirtual 49, 3) := rfl
theorem gX0_hasClash_32 : zget (zMt mX0_hasClash) 32 = some (.if_icmp .gt 20, 3) := rfl
theorem gX0_hasClash_35 : zget (zMt mX0_hasClash) 35 = some (.aload_n 1, 1) := rfl
theorem gX0_hasClash_36 : zget (zMt mX0_hasClash) 36 = some (.iload_n 3, 1) := rfl
theorem gX0_hasClash_37 : zget (zMt mX0_hasClash) 37 = some (.invokevirtual 37, 3) := rfl
theorem gX0_hasClash_40 : zget (zMt mX0_hasClash) 40 = some (.aload_n 1, 1) := rfl
theorem gX0_hasClash_41 : zget (zMt mX0_hasClash) 41 = some (.iload_n 2, 1) := rfl
theorem gX0_hasClash_42 : zget (zMt mX0_hasClash) 42 = some (.invokevirtual 49, 3) := rfl
theorem gX0_hasClash_45 : zget (zMt mX0_hasClash) 45 = some (.if_icmp .gt 7, 3) := rfl
theorem gX0_hasClash_48 : zget (zMt mX0_hasClash) 48 = some (.iconst 1, 1) := rfl
theorem gX0_hasClash_49 : zget (zMt mX0_hasClash) 49 = some (.goto 4, 3) := rfl
theorem gX0_hasClash_52 : zget (zMt mX0_hasClash) 52 = some (.iconst 0, 1) := rfl
theorem gX0_hasClash_53 : zget (zMt mX0_hasClash) 53 = some (.istore 4, 2) := rfl
theorem gX0_hasClash_55 : zget (zMt mX0_hasClash) 55 = some (.iload 4, 2) := rfl
theorem gX0_hasClash_57 : zget (zMt mX0_hasClash) 57 = some (.ifCond .eq 21, 3) := rfl
theorem gX0_hasClash_60 : zget (zMt mX0_hasClash) 60 = some (.aload_n 0, 1) := rfl
theorem gX0_hasClash_61 : zget (zMt mX0_hasClash) 61 = some (.iload_n 2, 1) := rfl
theorem gX0_hasClash_62 : zget (zMt mX0_hasClash) 62 = some (.invokevirtual 52, 3) := rfl
theorem gX0_hasClash_65 : zget (zMt mX0_hasClash) 65 = some (.ifCond .eq 13, 3) := rfl
theorem gX0_hasClash_68 : zget (zMt mX0_hasClash) 68 = some (.aload_n 0, 1) := rfl
theorem gX0_hasClash_69 : zget (zMt mX0_hasClash) 69 = some (.iload_n 3, 1) := rfl
theorem gX0_hasClash_70 : zget (zMt mX0_hasClash) 70 = some (.invokevirtual 52, 3) := rfl
theorem gX0_hasClash_73 : zget (zMt mX0_hasClash) 73 = some (.ifCond .eq 5, 3) := rfl
theorem gX0_hasClash_76 : zget (zMt mX0_hasClash) 76 = some (.iconst 1, 1) := rfl
theorem gX0_hasClash_77 : zget (zMt mX0_hasClash) 77 = some (.ireturn, 1) := rfl
theorem gX0_hasClash_78 : zget (zMt mX0_hasClash) 78 = some (.iinc 3 1, 3) := rfl
theorem gX0_hasClash_81 : zget (zMt mX0_hasClash) 81 = some (.goto (-67), 3) := rfl
theorem gX0_hasClash_84 : zget (zMt mX0_hasClash) 84 = some (.iinc 2 1, 3) := rfl
theorem gX0_hasClash_87 : zget (zMt mX0_hasClash) 87 = some (.goto (-85), 3) := rfl
theorem gX0_hasClash_90 : zget (zMt mX0_hasClash) 90 = some (.iconst 0, 1) := rfl
theorem gX0_hasClash_91 : zget (zMt mX0_hasClash) 91 = some (.ireturn, 1) := rfl
theorem gX0_sumUp_0 : zget (zMt mX0_sumUp) 0 = some (.aload_n 0, 1) := rfl
theorem gX0_sumUp_1 : zget (zMt mX0_sumUp) 1 = some (.getfield 9, 3) := rfl
theorem gX0_sumUp_4 : zget (zMt mX0_sumUp) 4 = some (.aload_n 1, 1) := rfl
theorem gX0_sumUp_5 : zget (zMt mX0_sumUp) 5 = some (.invokevirtual 31, 3) := rfl
theorem gX0_sumUp_8 : zget (zMt mX0_sumUp) 8 = some (.iconst 0, 1) := rfl
theorem gX0_sumUp_9 : zget (zMt mX0_sumUp) 9 = some (.invokestatic 56, 3) := rfl
theorem gX0_sumUp_12 : zget (zMt mX0_sumUp) 12 = some (.aload_n 1, 1) := rfl
theorem gX0_sumUp_13 : zget (zMt mX0_sumUp) 13 = some (.invokevirtual 31, 3) := rfl
theorem gX0_sumUp_16 : zget (zMt mX0_sumUp) 16 = some (.iconst 1, 1) := rfl
theorem gX0_sumUp_17 : zget (zMt mX0_sumUp) 17 = some (.isub, 1) := rfl
theorem gX0_sumUp_18 : zget (zMt mX0_sumUp) 18 = some (.istore_n 2, 1) := rfl
theorem gX0_sumUp_19 : zget (zMt mX0_sumUp) 19 = some (.iload_n 2, 1) := rfl
theorem gX0_sumUp_20 : zget (zMt mX0_sumUp) 20 = some (.ifCond .lt 36, 3) := rfl
theorem gX0_sumUp_23 : zget (zMt mX0_sumUp) 23 = some (.aload_n 0, 1) := rfl
theorem gX0_sumUp_24 : zget (zMt mX0_sumUp) 24 = some (.getfield 9, 3) := rfl
theorem gX0_sumUp_27 : zget (zMt mX0_sumUp) 27 = some (.iload_n 2, 1) := rfl
theorem gX0_sumUp_28 : zget (zMt mX0_sumUp) 28 = some (.aload_n 0, 1) := rfl
theorem gX0_sumUp_29 : zget (zMt mX0_sumUp) 29 = some (.getfield 9, 3) := rfl
theorem gX0_sumUp_32 : zget (zMt mX0_sumUp) 32 = some (.iload_n 2, 1) := rfl
theorem gX0_sumUp_33 : zget (zMt mX0_sumUp) 33 = some (.iconst 1, 1) := rfl
theorem gX0_sumUp_34 : zget (zMt mX0_sumUp) 34 = some (.iadd, 1) := rfl
theorem gX0_sumUp_35 : zget (zMt mX0_sumUp) 35 = some (.invokestatic 19, 3) := rfl
theorem gX0_sumUp_38 : zget (zMt mX0_sumUp) 38 = some (.aload_n 0, 1) := rfl
theorem gX0_sumUp_39 : zget (zMt mX0_sumUp) 39 = some (.aload_n 1, 1) := rfl
theorem gX0_sumUp_40 : zget (zMt mX0_sumUp) 40 = some (.iload_n 2, 1) := rfl
theorem gX0_sumUp_41 : zget (zMt mX0_sumUp) 41 = some (.invokevirtual 60, 3) := rfl
theorem gX0_sumUp_44 : zget (zMt mX0_sumUp) 44 = some (.invokestatic 64, 3) := rfl
theorem gX0_sumUp_47 : zget (zMt mX0_sumUp) 47 = some (.invokestatic 56, 3) := rfl
theorem gX0_sumUp_50 : zget (zMt mX0_sumUp) 50 = some (.iinc 2 (-1), 3) := rfl
theorem gX0_sumUp_53 : zget (zMt mX0_sumUp) 53 = some (.goto (-34), 3) := rfl
theorem gX0_sumUp_56 : zget (zMt mX0_sumUp) 56 = some (.return_, 1) := rfl
theorem gX0_sumWith_0 : zget (zMt mX0_sumWith) 0 = some (.iload_n 2, 1) := rfl
theorem gX0_sumWith_1 : zget (zMt mX0_sumWith) 1 = some (.iconst 1, 1) := rfl
theorem gX0_sumWith_2 : zget (zMt mX0_sumWith) 2 = some (.iadd, 1) := rfl
theorem gX0_sumWith_3 : zget (zMt mX0_sumWith) 3 = some (.istore_n 3, 1) := rfl
theorem gX0_sumWith_4 : zget (zMt mX0_sumWith) 4 = some (.iload_n 3, 1) := rfl
theorem gX0_sumWith_5 : zget (zMt mX0_sumWith) 5 = some (.aload_n 1, 1) := rfl
theorem gX0_sumWith_6 : zget (zMt mX0_sumWith) 6 = some (.invokevirtual 31, 3) := rfl
theorem gX0_sumWith_9 : zget (zMt mX0_sumWith) 9 = some (.if_icmp .ge 22, 3) := rfl
theorem gX0_sumWith_12 : zget (zMt mX0_sumWith) 12 = some (.aload_n 1, 1) := rfl
theorem gX0_sumWith_13 : zget (zMt mX0_sumWith) 13 = some (.iload_n 3, 1) := rfl
theorem gX0_sumWith_14 : zget (zMt mX0_sumWith) 14 = some (.invokevirtual 37, 3) := rfl
theorem gX0_sumWith_17 : zget (zMt mX0_sumWith) 17 = some (.aload_n 1, 1) := rfl
theorem gX0_sumWith_18 : zget (zMt mX0_sumWith) 18 = some (.iload_n 2, 1) := rfl
theorem gX0_sumWith_19 : zget (zMt mX0_sumWith) 19 = some (.invokevirtual 49, 3) := rfl
theorem gX0_sumWith_22 : zget (zMt mX0_sumWith) 22 = some (.if_icmp .gt 9, 3) := rfl
theorem gX0_sumWith_25 : zget (zMt mX0_sumWith) 25 = some (.iinc 3 1, 3) := rfl
theorem gX0_sumWith_28 : zget (zMt mX0_sumWith) 28 = some (.goto (-24), 3) := rfl
theorem gX0_sumWith_31 : zget (zMt mX0_sumWith) 31 = some (.aload_n 1, 1) := rfl
theorem gX0_sumWith_32 : zget (zMt mX0_sumWith) 32 = some (.iload_n 2, 1) := rfl
theorem gX0_sumWith_33 : zget (zMt mX0_sumWith) 33 = some (.invokevirtual 70, 3) := rfl
theorem gX0_sumWith_36 : zget (zMt mX0_sumWith) 36 = some (.aload_n 0, 1) := rfl
theorem gX0_sumWith_37 : zget (zMt mX0_sumWith) 37 = some (.getfield 9, 3) := rfl
theorem gX0_sumWith_40 : zget (zMt mX0_sumWith) 40 = some (.iload_n 3, 1) := rfl
theorem gX0_sumWith_41 : zget (zMt mX0_sumWith) 41 = some (.invokestatic 19, 3) := rfl
theorem gX0_sumWith_44 : zget (zMt mX0_sumWith) 44 = some (.iadd, 1) := rfl
theorem gX0_sumWith_45 : zget (zMt mX0_sumWith) 45 = some (.ireturn, 1) := rfl
theorem gX0_isWorthTaking_0 : zget (zMt mX0_isWorthTaking) 0 = some (.aload_n 1, 1) := rfl
theorem gX0_isWorthTaking_1 : zget (zMt mX0_isWorthTaking) 1 = some (.iload_n 2, 1) := rfl
theorem gX0_isWorthTaking_2 : zget (zMt mX0_isWorthTaking) 2 = some (.invokevirtual 70, 3) := rfl
theorem gX0_isWorthTaking_5 : zget (zMt mX0_isWorthTaking) 5 = some (.ifCond .le 24, 3) := rfl
theorem gX0_isWorthTaking_8 : zget (zMt mX0_isWorthTaking) 8 = some (.aload_n 0, 1) := rfl
theorem gX0_isWorthTaking_9 : zget (zMt mX0_isWorthTaking) 9 = some (.aload_n 1, 1) := rfl
theorem gX0_isWorthTaking_10 : zget (zMt mX0_isWorthTaking) 10 = some (.iload_n 2, 1) := rfl
theorem gX0_isWorthTaking_11 : zget (zMt mX0_isWorthTaking) 11 = some (.invokevirtual 60, 3) := rfl
theorem gX0_isWorthTaking_14 : zget (zMt mX0_isWorthTaking) 14 = some (.aload_n 0, 1) := rfl
theorem gX0_isWorthTaking_15 : zget (zMt mX0_isWorthTaking) 15 = some (.getfield 9, 3) := rfl
theorem gX0_isWorthTaking_18 : zget (zMt mX0_isWorthTaking) 18 = some (.iload_n 2, 1) := rfl
theorem gX0_isWorthTaking_19 : zget (zMt mX0_isWorthTaking) 19 = some (.invokestatic 19, 3) := rfl
theorem gX0_isWorthTaking_22 : zget (zMt mX0_isWorthTaking) 22 = some (.if_icmp .ne 7, 3) := rfl
theorem gX0_isWorthTaking_25 : zget (zMt mX0_isWorthTaking) 25 = some (.iconst 1, 1) := rfl
theorem gX0_isWorthTaking_26 : zget (zMt mX0_isWorthTaking) 26 = some (.goto 4, 3) := rfl
theorem gX0_isWorthTaking_29 : zget (zMt mX0_isWorthTaking) 29 = some (.iconst 0, 1) := rfl
theorem gX0_isWorthTaking_30 : zget (zMt mX0_isWorthTaking) 30 = some (.ireturn, 1) := rfl
theorem gX1_start_0 : zget (zMt mX1_start) 0 = some (.aload_n 0, 1) := rfl
theorem gX1_start_1 : zget (zMt mX1_start) 1 = some (.getfield 12, 3) := rfl
theorem gX1_start_4 : zget (zMt mX1_start) 4 = some (.aload_n 1, 1) := rfl
theorem gX1_start_5 : zget (zMt mX1_start) 5 = some (.invokevirtual 22, 3) := rfl
theorem gX1_start_8 : zget (zMt mX1_start) 8 = some (.iconst 0, 1) := rfl
theorem gX1_start_9 : zget (zMt mX1_start) 9 = some (.istore_n 2, 1) := rfl
theorem gX1_start_10 : zget (zMt mX1_start) 10 = some (.iload_n 2, 1) := rfl
theorem gX1_start_11 : zget (zMt mX1_start) 11 = some (.iconst 5, 1) := rfl
theorem gX1_start_12 : zget (zMt mX1_start) 12 = some (.if_icmp .ge 18, 3) := rfl
theorem gX1_start_15 : zget (zMt mX1_start) 15 = some (.aload_n 0, 1) := rfl
theorem gX1_start_16 : zget (zMt mX1_start) 16 = some (.getfield 18, 3) := rfl
theorem gX1_start_19 : zget (zMt mX1_start) 19 = some (.iload_n 2, 1) := rfl
theorem gX1_start_20 : zget (zMt mX1_start) 20 = some (.iconst 0, 1) := rfl
theorem gX1_start_21 : zget (zMt mX1_start) 21 = some (.invokestatic 26, 3) := rfl
theorem gX1_start_24 : zget (zMt mX1_start) 24 = some (.iinc 2 1, 3) := rfl
theorem gX1_start_27 : zget (zMt mX1_start) 27 = some (.goto (-17), 3) := rfl
theorem gX1_start_30 : zget (zMt mX1_start) 30 = some (.return_, 1) := rfl
theorem gX1_noteFix_0 : zget (zMt mX1_noteFix) 0 = some (.aload_n 0, 1) := rfl
theorem gX1_noteFix_1 : zget (zMt mX1_noteFix) 1 = some (.getfield 18, 3) := rfl
theorem gX1_noteFix_4 : zget (zMt mX1_noteFix) 4 = some (.iload_n 1, 1) := rfl
theorem gX1_noteFix_5 : zget (zMt mX1_noteFix) 5 = some (.aload_n 0, 1) := rfl
theorem gX1_noteFix_6 : zget (zMt mX1_noteFix) 6 = some (.getfield 18, 3) := rfl
theorem gX1_noteFix_9 : zget (zMt mX1_noteFix) 9 = some (.iload_n 1, 1) := rfl
theorem gX1_noteFix_10 : zget (zMt mX1_noteFix) 10 = some (.invokestatic 30, 3) := rfl
theorem gX1_noteFix_13 : zget (zMt mX1_noteFix) 13 = some (.iconst 1, 1) := rfl
theorem gX1_noteFix_14 : zget (zMt mX1_noteFix) 14 = some (.iadd, 1) := rfl
theorem gX1_noteFix_15 : zget (zMt mX1_noteFix) 15 = some (.invokestatic 26, 3) := rfl
theorem gX1_noteFix_18 : zget (zMt mX1_noteFix) 18 = some (.return_, 1) := rfl
theorem gX1_takeBack_0 : zget (zMt mX1_takeBack) 0 = some (.aload_n 1, 1) := rfl
theorem gX1_takeBack_1 : zget (zMt mX1_takeBack) 1 = some (.aload_n 0, 1) := rfl
theorem gX1_takeBack_2 : zget (zMt mX1_takeBack) 2 = some (.getfield 12, 3) := rfl
theorem gX1_takeBack_5 : zget (zMt mX1_takeBack) 5 = some (.invokevirtual 22, 3) := rfl
theorem gX1_takeBack_8 : zget (zMt mX1_takeBack) 8 = some (.iconst 0, 1) := rfl
theorem gX1_takeBack_9 : zget (zMt mX1_takeBack) 9 = some (.istore_n 3, 1) := rfl
theorem gX1_takeBack_10 : zget (zMt mX1_takeBack) 10 = some (.iload_n 3, 1) := rfl
theorem gX1_takeBack_11 : zget (zMt mX1_takeBack) 11 = some (.iconst 5, 1) := rfl
theorem gX1_takeBack_12 : zget (zMt mX1_takeBack) 12 = some (.if_icmp .ge 35, 3) := rfl
theorem gX1_takeBack_15 : zget (zMt mX1_takeBack) 15 = some (.aload_n 0, 1) := rfl
theorem gX1_takeBack_16 : zget (zMt mX1_takeBack) 16 = some (.getfield 18, 3) := rfl
theorem gX1_takeBack_19 : zget (zMt mX1_takeBack) 19 = some (.iload_n 3, 1) := rfl
theorem gX1_takeBack_20 : zget (zMt mX1_takeBack) 20 = some (.invokestatic 30, 3) := rfl
theorem gX1_takeBack_23 : zget (zMt mX1_takeBack) 23 = some (.istore 4, 2) := rfl
theorem gX1_takeBack_25 : zget (zMt mX1_takeBack) 25 = some (.iload 4, 2) := rfl
theorem gX1_takeBack_27 : zget (zMt mX1_takeBack) 27 = some (.ifCond .le 14, 3) := rfl
theorem gX1_takeBack_30 : zget (zMt mX1_takeBack) 30 = some (.aload_n 2, 1) := rfl
theorem gX1_takeBack_31 : zget (zMt mX1_takeBack) 31 = some (.iload_n 3, 1) := rfl
theorem gX1_takeBack_32 : zget (zMt mX1_takeBack) 32 = some (.invokevirtual 34, 3) := rfl
theorem gX1_takeBack_35 : zget (zMt mX1_takeBack) 35 = some (.iinc 4 (-1), 3) := rfl
theorem gX1_takeBack_38 : zget (zMt mX1_takeBack) 38 = some (.goto (-13), 3) := rfl
theorem gX1_takeBack_41 : zget (zMt mX1_takeBack) 41 = some (.iinc 3 1, 3) := rfl
theorem gX1_takeBack_44 : zget (zMt mX1_takeBack) 44 = some (.goto (-34), 3) := rfl
theorem gX1_takeBack_47 : zget (zMt mX1_takeBack) 47 = some (.return_, 1) := rfl
theorem gX2_count_0 : zget (zMt mX2_count) 0 = some (.aload_n 0, 1) := rfl
theorem gX2_count_1 : zget (zMt mX2_count) 1 = some (.getfield 21, 3) := rfl
theorem gX2_count_4 : zget (zMt mX2_count) 4 = some (.ireturn, 1) := rfl
theorem gX2_forget_0 : zget (zMt mX2_forget) 0 = some (.aload_n 0, 1) := rfl
theorem gX2_forget_1 : zget (zMt mX2_forget) 1 = some (.iconst 0, 1) := rfl
theorem gX2_forget_2 : zget (zMt mX2_forget) 2 = some (.putfield 21, 3) := rfl
theorem gX2_forget_5 : zget (zMt mX2_forget) 5 = some (.return_, 1) := rfl
theorem gX2_keep_0 : zget (zMt mX2_keep) 0 = some (.aload_n 0, 1) := rfl
theorem gX2_keep_1 : zget (zMt mX2_keep) 1 = some (.aload_n 0, 1) := rfl
theorem gX2_keep_2 : zget (zMt mX2_keep) 2 = some (.getfield 17, 3) := rfl
theorem gX2_keep_5 : zget (zMt mX2_keep) 5 = some (.iconst 1, 1) := rfl
theorem gX2_keep_6 : zget (zMt mX2_keep) 6 = some (.iadd, 1) := rfl
theorem gX2_keep_7 : zget (zMt mX2_keep) 7 = some (.bipush 10, 2) := rfl
theorem gX2_keep_9 : zget (zMt mX2_keep) 9 = some (.if_icmp .ge 12, 3) := rfl
theorem gX2_keep_12 : zget (zMt mX2_keep) 12 = some (.aload_n 0, 1) := rfl
theorem gX2_keep_13 : zget (zMt mX2_keep) 13 = some (.getfield 17, 3) := rfl
theorem gX2_keep_16 : zget (zMt mX2_keep) 16 = some (.iconst 1, 1) := rfl
theorem gX2_keep_17 : zget (zMt mX2_keep) 17 = some (.iadd, 1) := rfl
theorem gX2_keep_18 : zget (zMt mX2_keep) 18 = some (.goto 4, 3) := rfl
theorem gX2_keep_21 : zget (zMt mX2_keep) 21 = some (.iconst 0, 1) := rfl
theorem gX2_keep_22 : zget (zMt mX2_keep) 22 = some (.putfield 17, 3) := rfl
theorem gX2_keep_25 : zget (zMt mX2_keep) 25 = some (.aload_n 0, 1) := rfl
theorem gX2_keep_26 : zget (zMt mX2_keep) 26 = some (.aload_n 0, 1) := rfl
theorem gX2_keep_27 : zget (zMt mX2_keep) 27 = some (.getfield 21, 3) := rfl
theorem gX2_keep_30 : zget (zMt mX2_keep) 30 = some (.iconst 1, 1) := rfl
theorem gX2_keep_31 : zget (zMt mX2_keep) 31 = some (.iadd, 1) := rfl
theorem gX2_keep_32 : zget (zMt mX2_keep) 32 = some (.bipush 10, 2) := rfl
theorem gX2_keep_34 : zget (zMt mX2_keep) 34 = some (.invokestatic 25, 3) := rfl
theorem gX2_keep_37 : zget (zMt mX2_keep) 37 = some (.putfield 21, 3) := rfl
theorem gX2_keep_40 : zget (zMt mX2_keep) 40 = some (.aload_n 0, 1) := rfl
theorem gX2_keep_41 : zget (zMt mX2_keep) 41 = some (.invokevirtual 31, 3) := rfl
theorem gX2_keep_44 : zget (zMt mX2_keep) 44 = some (.astore_n 2, 1) := rfl
theorem gX2_keep_45 : zget (zMt mX2_keep) 45 = some (.aload_n 2, 1) := rfl
theorem gX2_keep_46 : zget (zMt mX2_keep) 46 = some (.ifnull 8, 3) := rfl
theorem gX2_keep_49 : zget (zMt mX2_keep) 49 = some (.aload_n 2, 1) := rfl
theorem gX2_keep_50 : zget (zMt mX2_keep) 50 = some (.aload_n 1, 1) := rfl
theorem gX2_keep_51 : zget (zMt mX2_keep) 51 = some (.invokevirtual 35, 3) := rfl
theorem gX2_keep_54 : zget (zMt mX2_keep) 54 = some (.return_, 1) := rfl
theorem gX2_noteFix_0 : zget (zMt mX2_noteFix) 0 = some (.aload_n 0, 1) := rfl
theorem gX2_noteFix_1 : zget (zMt mX2_noteFix) 1 = some (.invokevirtual 31, 3) := rfl
theorem gX2_noteFix_4 : zget (zMt mX2_noteFix) 4 = some (.astore_n 2, 1) := rfl
theorem gX2_noteFix_5 : zget (zMt mX2_noteFix) 5 = some (.aload_n 2, 1) := rfl
theorem gX2_noteFix_6 : zget (zMt mX2_noteFix) 6 = some (.ifnull 8, 3) := rfl
theorem gX2_noteFix_9 : zget (zMt mX2_noteFix) 9 = some (.aload_n 2, 1) := rfl
theorem gX2_noteFix_10 : zget (zMt mX2_noteFix) 10 = some (.iload_n 1, 1) := rfl
theorem gX2_noteFix_11 : zget (zMt mX2_noteFix) 11 = some (.invokevirtual 39, 3) := rfl
theorem gX2_noteFix_14 : zget (zMt mX2_noteFix) 14 = some (.return_, 1) := rfl
theorem gX2_takeBack_0 : zget (zMt mX2_takeBack) 0 = some (.aload_n 0, 1) := rfl
theorem gX2_takeBack_1 : zget (zMt mX2_takeBack) 1 = some (.invokevirtual 31, 3) := rfl
theorem gX2_takeBack_4 : zget (zMt mX2_takeBack) 4 = some (.astore_n 3, 1) := rfl
theorem gX2_takeBack_5 : zget (zMt mX2_takeBack) 5 = some (.aload_n 3, 1) := rfl
theorem gX2_takeBack_6 : zget (zMt mX2_takeBack) 6 = some (.ifnull 48, 3) := rfl
theorem gX2_takeBack_9 : zget (zMt mX2_takeBack) 9 = some (.aload_n 0, 1) := rfl
theorem gX2_takeBack_10 : zget (zMt mX2_takeBack) 10 = some (.getfield 21, 3) := rfl
theorem gX2_takeBack_13 : zget (zMt mX2_takeBack) 13 = some (.ifCond .le 41, 3) := rfl
theorem gX2_takeBack_16 : zget (zMt mX2_takeBack) 16 = some (.aload_n 3, 1) := rfl
theorem gX2_takeBack_17 : zget (zMt mX2_takeBack) 17 = some (.aload_n 1, 1) := rfl
theorem gX2_takeBack_18 : zget (zMt mX2_takeBack) 18 = some (.aload_n 2, 1) := rfl
theorem gX2_takeBack_19 : zget (zMt mX2_takeBack) 19 = some (.invokevirtual 43, 3) := rfl
theorem gX2_takeBack_22 : zget (zMt mX2_takeBack) 22 = some (.aload_n 0, 1) := rfl
theorem gX2_takeBack_23 : zget (zMt mX2_takeBack) 23 = some (.aload_n 0, 1) := rfl
theorem gX2_takeBack_24 : zget (zMt mX2_takeBack) 24 = some (.getfield 17, 3) := rfl
theorem gX2_takeBack_27 : zget (zMt mX2_takeBack) 27 = some (.ifCond .le 12, 3) := rfl
theorem gX2_takeBack_30 : zget (zMt mX2_takeBack) 30 = some (.aload_n 0, 1) := rfl
theorem gX2_takeBack_31 : zget (zMt mX2_takeBack) 31 = some (.getfield 17, 3) := rfl
theorem gX2_takeBack_34 : zget (zMt mX2_takeBack) 34 = some (.iconst 1, 1) := rfl
theorem gX2_takeBack_35 : zget (zMt mX2_takeBack) 35 = some (.isub, 1) := rfl
theorem gX2_takeBack_36 : zget (zMt mX2_takeBack) 36 = some (.goto 5, 3) := rfl
theorem gX2_takeBack_39 : zget (zMt mX2_takeBack) 39 = some (.bipush 9, 2) := rfl
theorem gX2_takeBack_41 : zget (zMt mX2_takeBack) 41 = some (.putfield 17, 3) := rfl
theorem gX2_takeBack_44 : zget (zMt mX2_takeBack) 44 = some (.aload_n 0, 1) := rfl
theorem gX2_takeBack_45 : zget (zMt mX2_takeBack) 45 = some (.dup, 1) := rfl
theorem gX2_takeBack_46 : zget (zMt mX2_takeBack) 46 = some (.getfield 21, 3) := rfl
theorem gX2_takeBack_49 : zget (zMt mX2_takeBack) 49 = some (.iconst 1, 1) := rfl
theorem gX2_takeBack_50 : zget (zMt mX2_takeBack) 50 = some (.isub, 1) := rfl
theorem gX2_takeBack_51 : zget (zMt mX2_takeBack) 51 = some (.putfield 21, 3) := rfl
theorem gX2_takeBack_54 : zget (zMt mX2_takeBack) 54 = some (.return_, 1) := rfl
theorem gX2_newestDeed_0 : zget (zMt mX2_newestDeed) 0 = some (.aload_n 0, 1) := rfl
theorem gX2_newestDeed_1 : zget (zMt mX2_newestDeed) 1 = some (.getfield 17, 3) := rfl
theorem gX2_newestDeed_4 : zget (zMt mX2_newestDeed) 4 = some (.ifCond .lt 27, 3) := rfl
theorem gX2_newestDeed_7 : zget (zMt mX2_newestDeed) 7 = some (.aload_n 0, 1) := rfl
theorem gX2_newestDeed_8 : zget (zMt mX2_newestDeed) 8 = some (.getfield 17, 3) := rfl
theorem gX2_newestDeed_11 : zget (zMt mX2_newestDeed) 11 = some (.aload_n 0, 1) := rfl
theorem gX2_newestDeed_12 : zget (zMt mX2_newestDeed) 12 = some (.getfield 11, 3) := rfl
theorem gX2_newestDeed_15 : zget (zMt mX2_newestDeed) 15 = some (.arraylength, 1) := rfl
theorem gX2_newestDeed_16 : zget (zMt mX2_newestDeed) 16 = some (.if_icmp .ge 15, 3) := rfl
theorem gX2_newestDeed_19 : zget (zMt mX2_newestDeed) 19 = some (.aload_n 0, 1) := rfl
theorem gX2_newestDeed_20 : zget (zMt mX2_newestDeed) 20 = some (.getfield 11, 3) := rfl
theorem gX2_newestDeed_23 : zget (zMt mX2_newestDeed) 23 = some (.aload_n 0, 1) := rfl
theorem gX2_newestDeed_24 : zget (zMt mX2_newestDeed) 24 = some (.getfield 17, 3) := rfl
theorem gX2_newestDeed_27 : zget (zMt mX2_newestDeed) 27 = some (.aaload, 1) := rfl
theorem gX2_newestDeed_28 : zget (zMt mX2_newestDeed) 28 = some (.goto 4, 3) := rfl
theorem gX2_newestDeed_31 : zget (zMt mX2_newestDeed) 31 = some (.aconst_null, 1) := rfl
theorem gX2_newestDeed_32 : zget (zMt mX2_newestDeed) 32 = some (.areturn, 1) := rfl
theorem gX3_count_0 : zget (zMt mX3_count) 0 = some (.aload_n 0, 1) := rfl
theorem gX3_count_1 : zget (zMt mX3_count) 1 = some (.getfield 24, 3) := rfl
theorem gX3_count_4 : zget (zMt mX3_count) 4 = some (.ireturn, 1) := rfl
theorem gX3_rule_0 : zget (zMt mX3_rule) 0 = some (.aload_n 0, 1) := rfl
theorem gX3_rule_1 : zget (zMt mX3_rule) 1 = some (.getfield 9, 3) := rfl
theorem gX3_rule_4 : zget (zMt mX3_rule) 4 = some (.iload_n 1, 1) := rfl
theorem gX3_rule_5 : zget (zMt mX3_rule) 5 = some (.invokestatic 28, 3) := rfl
theorem gX3_rule_8 : zget (zMt mX3_rule) 8 = some (.ireturn, 1) := rfl
theorem gX3_first_0 : zget (zMt mX3_first) 0 = some (.aload_n 0, 1) := rfl
theorem gX3_first_1 : zget (zMt mX3_first) 1 = some (.getfield 15, 3) := rfl
theorem gX3_first_4 : zget (zMt mX3_first) 4 = some (.iload_n 1, 1) := rfl
theorem gX3_first_5 : zget (zMt mX3_first) 5 = some (.invokestatic 28, 3) := rfl
theorem gX3_first_8 : zget (zMt mX3_first) 8 = some (.ireturn, 1) := rfl
theorem gX3_last_0 : zget (zMt mX3_last) 0 = some (.aload_n 0, 1) := rfl
theorem gX3_last_1 : zget (zMt mX3_last) 1 = some (.getfield 18, 3) := rfl
theorem gX3_last_4 : zget (zMt mX3_last) 4 = some (.iload_n 1, 1) := rfl
theorem gX3_last_5 : zget (zMt mX3_last) 5 = some (.invokestatic 28, 3) := rfl
theorem gX3_last_8 : zget (zMt mX3_last) 8 = some (.ireturn, 1) := rfl
theorem gX3_gain_0 : zget (zMt mX3_gain) 0 = some (.aload_n 0, 1) := rfl
theorem gX3_gain_1 : zget (zMt mX3_gain) 1 = some (.getfield 21, 3) := rfl
theorem gX3_gain_4 : zget (zMt mX3_gain) 4 = some (.iload_n 1, 1) := rfl
theorem gX3_gain_5 : zget (zMt mX3_gain) 5 = some (.invokestatic 28, 3) := rfl
theorem gX3_gain_8 : zget (zMt mX3_gain) 8 = some (.ireturn, 1) := rfl
theorem gX3_fixable_0 : zget (zMt mX3_fixable) 0 = some (.iconst 0, 1) := rfl
theorem gX3_fixable_1 : zget (zMt mX3_fixable) 1 = some (.istore_n 1, 1) := rfl
theorem gX3_fixable_2 : zget (zMt mX3_fixable) 2 = some (.iconst 0, 1) := rfl
theorem gX3_fixable_3 : zget (zMt mX3_fixable) 3 = some (.istore_n 2, 1) := rfl
theorem gX3_fixable_4 : zget (zMt mX3_fixable) 4 = some (.iload_n 2, 1) := rfl
theorem gX3_fixable_5 : zget (zMt mX3_fixable) 5 = some (.aload_n 0, 1) := rfl
theorem gX3_fixable_6 : zget (zMt mX3_fixable) 6 = some (.getfield 24, 3) := rfl
theorem gX3_fixable_9 : zget (zMt mX3_fixable) 9 = some (.if_icmp .ge 20, 3) := rfl
theorem gX3_fixable_12 : zget (zMt mX3_fixable) 12 = some (.aload_n 0, 1) := rfl
theorem gX3_fixable_13 : zget (zMt mX3_fixable) 13 = some (.iload_n 2, 1) := rfl
theorem gX3_fixable_14 : zget (zMt mX3_fixable) 14 = some (.invokevirtual 32, 3) := rfl
theorem gX3_fixable_17 : zget (zMt mX3_fixable) 17 = some (.ifCond .le 6, 3) := rfl
theorem gX3_fixable_20 : zget (zMt mX3_fixable) 20 = some (.iinc 1 1, 3) := rfl
theorem gX3_fixable_23 : zget (zMt mX3_fixable) 23 = some (.iinc 2 1, 3) := rfl
theorem gX3_fixable_26 : zget (zMt mX3_fixable) 26 = some (.goto (-22), 3) := rfl
theorem gX3_fixable_29 : zget (zMt mX3_fixable) 29 = some (.iload_n 1, 1) := rfl
theorem gX3_fixable_30 : zget (zMt mX3_fixable) 30 = some (.ireturn, 1) := rfl
theorem gX3_search_0 : zget (zMt mX3_search) 0 = some (.aload_n 0, 1) := rfl
theorem gX3_search_1 : zget (zMt mX3_search) 1 = some (.iconst 0, 1) := rfl
theorem gX3_search_2 : zget (zMt mX3_search) 2 = some (.putfield 24, 3) := rfl
theorem gX3_search_5 : zget (zMt mX3_search) 5 = some (.iconst 0, 1) := rfl
theorem gX3_search_6 : zget (zMt mX3_search) 6 = some (.istore_n 3, 1) := rfl
theorem gX3_search_7 : zget (zMt mX3_search) 7 = some (.iload_n 3, 1) := rfl
theorem gX3_search_8 : zget (zMt mX3_search) 8 = some (.aload_n 1, 1) := rfl
theorem gX3_search_9 : zget (zMt mX3_search) 9 = some (.invokevirtual 36, 3) := rfl
theorem gX3_search_12 : zget (zMt mX3_search) 12 = some (.if_icmp .ge 53, 3) := rfl
theorem gX3_search_15 : zget (zMt mX3_search) 15 = some (.aload_n 1, 1) := rfl
theorem gX3_search_16 : zget (zMt mX3_search) 16 = some (.iload_n 3, 1) := rfl
theorem gX3_search_17 : zget (zMt mX3_search) 17 = some (.invokestatic 42, 3) := rfl
theorem gX3_search_20 : zget (zMt mX3_search) 20 = some (.istore 4, 2) := rfl
theorem gX3_search_22 : zget (zMt mX3_search) 22 = some (.iload 4, 2) := rfl
theorem gX3_search_24 : zget (zMt mX3_search) 24 = some (.iconst (-1), 1) := rfl
theorem gX3_search_25 : zget (zMt mX3_search) 25 = some (.if_icmp .eq 15, 3) := rfl
theorem gX3_search_28 : zget (zMt mX3_search) 28 = some (.aload_n 0, 1) := rfl
theorem gX3_search_29 : zget (zMt mX3_search) 29 = some (.aload_n 1, 1) := rfl
theorem gX3_search_30 : zget (zMt mX3_search) 30 = some (.aload_n 2, 1) := rfl
theorem gX3_search_31 : zget (zMt mX3_search) 31 = some (.iload 4, 2) := rfl
theorem gX3_search_33 : zget (zMt mX3_search) 33 = some (.iload_n 3, 1) := rfl
theorem gX3_search_34 : zget (zMt mX3_search) 34 = some (.iload_n 3, 1) := rfl
theorem gX3_search_35 : zget (zMt mX3_search) 35 = some (.iconst 1, 1) := rfl
theorem gX3_search_36 : zget (zMt mX3_search) 36 = some (.iadd, 1) := rfl
theorem gX3_search_37 : zget (zMt mX3_search) 37 = some (.invokevirtual 46, 3) := rfl
theorem gX3_search_40 : zget (zMt mX3_search) 40 = some (.aload_n 1, 1) := rfl
theorem gX3_search_41 : zget (zMt mX3_search) 41 = some (.iload_n 3, 1) := rfl
theorem gX3_search_42 : zget (zMt mX3_search) 42 = some (.invokestatic 50, 3) := rfl
theorem gX3_search_45 : zget (zMt mX3_search) 45 = some (.ifCond .eq 14, 3) := rfl
theorem gX3_search_48 : zget (zMt mX3_search) 48 = some (.aload_n 0, 1) := rfl
theorem gX3_search_49 : zget (zMt mX3_search) 49 = some (.aload_n 1, 1) := rfl
theorem gX3_search_50 : zget (zMt mX3_search) 50 = some (.aload_n 2, 1) := rfl
theorem gX3_search_51 : zget (zMt mX3_search) 51 = some (.iconst 4, 1) := rfl
theorem gX3_search_52 : zget (zMt mX3_search) 52 = some (.iload_n 3, 1) := rfl
theorem gX3_search_53 : zget (zMt mX3_search) 53 = some (.iload_n 3, 1) := rfl
theorem gX3_search_54 : zget (zMt mX3_search) 54 = some (.iconst 2, 1) := rfl
theorem gX3_search_55 : zget (zMt mX3_search) 55 = some (.iadd, 1) := rfl
theorem gX3_search_56 : zget (zMt mX3_search) 56 = some (.invokevirtual 46, 3) := rfl
theorem gX3_search_59 : zget (zMt mX3_search) 59 = some (.iinc 3 1, 3) := rfl
theorem gX3_search_62 : zget (zMt mX3_search) 62 = some (.goto (-55), 3) := rfl
theorem gX3_search_65 : zget (zMt mX3_search) 65 = some (.return_, 1) := rfl
theorem gX3_ruleOfPair_0 : zget (zMt mX3_ruleOfPair) 0 = some (.aload_n 0, 1) := rfl
theorem gX3_ruleOfPair_1 : zget (zMt mX3_ruleOfPair) 1 = some (.iload_n 1, 1) := rfl
theorem gX3_ruleOfPair_2 : zget (zMt mX3_ruleOfPair) 2 = some (.invokevirtual 54, 3) := rfl
theorem gX3_ruleOfPair_5 : zget (zMt mX3_ruleOfPair) 5 = some (.istore_n 2, 1) := rfl
theorem gX3_ruleOfPair_6 : zget (zMt mX3_ruleOfPair) 6 = some (.aload_n 0, 1) := rfl
theorem gX3_ruleOfPair_7 : zget (zMt mX3_ruleOfPair) 7 = some (.iload_n 1, 1) := rfl
theorem gX3_ruleOfPair_8 : zget (zMt mX3_ruleOfPair) 8 = some (.iconst 1, 1) := rfl
theorem gX3_ruleOfPair_9 : zget (zMt mX3_ruleOfPair) 9 = some (.iadd, 1) := rfl
theorem gX3_ruleOfPair_10 : zget (zMt mX3_ruleOfPair) 10 = some (.invokevirtual 54, 3) := rfl
theorem gX3_ruleOfPair_13 : zget (zMt mX3_ruleOfPair) 13 = some (.istore_n 3, 1) := rfl
theorem gX3_ruleOfPair_14 : zget (zMt mX3_ruleOfPair) 14 = some (.iload_n 2, 1) := rfl
theorem gX3_ruleOfPair_15 : zget (zMt mX3_ruleOfPair) 15 = some (.bipush 110, 2) := rfl
theorem gX3_ruleOfPair_17 : zget (zMt mX3_ruleOfPair) 17 = some (.if_icmp .ne 20, 3) := rfl
theorem gX3_ruleOfPair_20 : zget (zMt mX3_ruleOfPair) 20 = some (.aload_n 0, 1) := rfl
theorem gX3_ruleOfPair_21 : zget (zMt mX3_ruleOfPair) 21 = some (.iload_n 1, 1) := rfl
theorem gX3_ruleOfPair_22 : zget (zMt mX3_ruleOfPair) 22 = some (.iconst 1, 1) := rfl
theorem gX3_ruleOfPair_23 : zget (zMt mX3_ruleOfPair) 23 = some (.iadd, 1) := rfl
theorem gX3_ruleOfPair_24 : zget (zMt mX3_ruleOfPair) 24 = some (.aload_n 0, 1) := rfl
theorem gX3_ruleOfPair_25 : zget (zMt mX3_ruleOfPair) 25 = some (.iload_n 1, 1) := rfl
theorem gX3_ruleOfPair_26 : zget (zMt mX3_ruleOfPair) 26 = some (.invokevirtual 58, 3) := rfl
theorem gX3_ruleOfPair_29 : zget (zMt mX3_ruleOfPair) 29 = some (.invokevirtual 61, 3) := rfl
theorem gX3_ruleOfPair_32 : zget (zMt mX3_ruleOfPair) 32 = some (.ifCond .eq 5, 3) := rfl
theorem gX3_ruleOfPair_35 : zget (zMt mX3_ruleOfPair) 35 = some (.iconst 0, 1) := rfl
theorem gX3_ruleOfPair_36 : zget (zMt mX3_ruleOfPair) 36 = some (.ireturn, 1) := rfl
theorem gX3_ruleOfPair_37 : zget (zMt mX3_ruleOfPair) 37 = some (.iload_n 2, 1) := rfl
theorem gX3_ruleOfPair_38 : zget (zMt mX3_ruleOfPair) 38 = some (.bipush 123, 2) := rfl
theorem gX3_ruleOfPair_40 : zget (zMt mX3_ruleOfPair) 40 = some (.if_icmp .ne 11, 3) := rfl
theorem gX3_ruleOfPair_43 : zget (zMt mX3_ruleOfPair) 43 = some (.iload_n 3, 1) := rfl
theorem gX3_ruleOfPair_44 : zget (zMt mX3_ruleOfPair) 44 = some (.bipush 125, 2) := rfl
theorem gX3_ruleOfPair_46 : zget (zMt mX3_ruleOfPair) 46 = some (.if_icmp .ne 5, 3) := rfl
theorem gX3_ruleOfPair_49 : zget (zMt mX3_ruleOfPair) 49 = some (.iconst 1, 1) := rfl
theorem gX3_ruleOfPair_50 : zget (zMt mX3_ruleOfPair) 50 = some (.ireturn, 1) := rfl
theorem gX3_ruleOfPair_51 : zget (zMt mX3_ruleOfPair) 51 = some (.iload_n 2, 1) := rfl
theorem gX3_ruleOfPair_52 : zget (zMt mX3_ruleOfPair) 52 = some (.bipush 99, 2) := rfl
theorem gX3_ruleOfPair_54 : zget (zMt mX3_ruleOfPair) 54 = some (.if_icmp .ne 11, 3) := rfl
theorem gX3_ruleOfPair_57 : zget (zMt mX3_ruleOfPair) 57 = some (.iload_n 3, 1) := rfl
theorem gX3_ruleOfPair_58 : zget (zMt mX3_ruleOfPair) 58 = some (.bipush 125, 2) := rfl
theorem gX3_ruleOfPair_60 : zget (zMt mX3_ruleOfPair) 60 = some (.if_icmp .ne 5, 3) := rfl
theorem gX3_ruleOfPair_63 : zget (zMt mX3_ruleOfPair) 63 = some (.iconst 2, 1) := rfl
theorem gX3_ruleOfPair_64 : zget (zMt mX3_ruleOfPair) 64 = some (.ireturn, 1) := rfl
theorem gX3_ruleOfPair_65 : zget (zMt mX3_ruleOfPair) 65 = some (.iload_n 2, 1) := rfl
theorem gX3_ruleOfPair_66 : zget (zMt mX3_ruleOfPair) 66 = some (.bipush 99, 2) := rfl
theorem gX3_ruleOfPair_68 : zget (zMt mX3_ruleOfPair) 68 = some (.if_icmp .ne 13, 3) := rfl
theorem gX3_ruleOfPair_71 : zget (zMt mX3_ruleOfPair) 71 = some (.iload_n 3, 1) := rfl
theorem gX3_ruleOfPair_72 : zget (zMt mX3_ruleOfPair) 72 = some (.bipush 99, 2) := rfl
theorem gX3_ruleOfPair_74 : zget (zMt mX3_ruleOfPair) 74 = some (.if_icmp .ne 7, 3) := rfl
theorem gX3_ruleOfPair_77 : zget (zMt mX3_ruleOfPair) 77 = some (.iconst 3, 1) := rfl
theorem gX3_ruleOfPair_78 : zget (zMt mX3_ruleOfPair) 78 = some (.goto 4, 3) := rfl
theorem gX3_ruleOfPair_81 : zget (zMt mX3_ruleOfPair) 81 = some (.iconst (-1), 1) := rfl
theorem gX3_ruleOfPair_82 : zget (zMt mX3_ruleOfPair) 82 = some (.ireturn, 1) := rfl
theorem gX3_isNameInBlock_0 : zget (zMt mX3_isNameInBlock) 0 = some (.aload_n 0, 1) := rfl
theorem gX3_isNameInBlock_1 : zget (zMt mX3_isNameInBlock) 1 = some (.iload_n 1, 1) := rfl
theorem gX3_isNameInBlock_2 : zget (zMt mX3_isNameInBlock) 2 = some (.invokevirtual 54, 3) := rfl
theorem gX3_isNameInBlock_5 : zget (zMt mX3_isNameInBlock) 5 = some (.bipush 123, 2) := rfl
theorem gX3_isNameInBlock_7 : zget (zMt mX3_isNameInBlock) 7 = some (.if_icmp .ne 31, 3) := rfl
theorem gX3_isNameInBlock_10 : zget (zMt mX3_isNameInBlock) 10 = some (.aload_n 0, 1) := rfl
theorem gX3_isNameInBlock_11 : zget (zMt mX3_isNameInBlock) 11 = some (.iload_n 1, 1) := rfl
theorem gX3_isNameInBlock_12 : zget (zMt mX3_isNameInBlock) 12 = some (.iconst 1, 1) := rfl
theorem gX3_isNameInBlock_13 : zget (zMt mX3_isNameInBlock) 13 = some (.iadd, 1) := rfl
theorem gX3_isNameInBlock_14 : zget (zMt mX3_isNameInBlock) 14 = some (.invokevirtual 54, 3) := rfl
theorem gX3_isNameInBlock_17 : zget (zMt mX3_isNameInBlock) 17 = some (.bipush 110, 2) := rfl
theorem gX3_isNameInBlock_19 : zget (zMt mX3_isNameInBlock) 19 = some (.if_icmp .ne 19, 3) := rfl
theorem gX3_isNameInBlock_22 : zget (zMt mX3_isNameInBlock) 22 = some (.aload_n 0, 1) := rfl
theorem gX3_isNameInBlock_23 : zget (zMt mX3_isNameInBlock) 23 = some (.iload_n 1, 1) := rfl
theorem gX3_isNameInBlock_24 : zget (zMt mX3_isNameInBlock) 24 = some (.iconst 2, 1) := rfl
theorem gX3_isNameInBlock_25 : zget (zMt mX3_isNameInBlock) 25 = some (.iadd, 1) := rfl
theorem gX3_isNameInBlock_26 : zget (zMt mX3_isNameInBlock) 26 = some (.invokevirtual 54, 3) := rfl
theorem gX3_isNameInBlock_29 : zget (zMt mX3_isNameInBlock) 29 = some (.bipush 125, 2) := rfl
theorem gX3_isNameInBlock_31 : zget (zMt mX3_isNameInBlock) 31 = some (.if_icmp .ne 7, 3) := rfl
theorem gX3_isNameInBlock_34 : zget (zMt mX3_isNameInBlock) 34 = some (.iconst 1, 1) := rfl
theorem gX3_isNameInBlock_35 : zget (zMt mX3_isNameInBlock) 35 = some (.goto 4, 3) := rfl
theorem gX3_isNameInBlock_38 : zget (zMt mX3_isNameInBlock) 38 = some (.iconst 0, 1) := rfl
theorem gX3_isNameInBlock_39 : zget (zMt mX3_isNameInBlock) 39 = some (.ireturn, 1) := rfl
theorem gX3_note_0 : zget (zMt mX3_note) 0 = some (.iconst 1, 1) := rfl
theorem gX3_note_1 : zget (zMt mX3_note) 1 = some (.istore 6, 2) := rfl
theorem gX3_note_3 : zget (zMt mX3_note) 3 = some (.iload 4, 2) := rfl
theorem gX3_note_5 : zget (zMt mX3_note) 5 = some (.istore 7, 2) := rfl
theorem gX3_note_7 : zget (zMt mX3_note) 7 = some (.iload 7, 2) := rfl
theorem gX3_note_9 : zget (zMt mX3_note) 9 = some (.iload 5, 2) := rfl
theorem gX3_note_11 : zget (zMt mX3_note) 11 = some (.if_icmp .gt 39, 3) := rfl
theorem gX3_note_14 : zget (zMt mX3_note) 14 = some (.iload 7, 2) := rfl
theorem gX3_note_16 : zget (zMt mX3_note) 16 = some (.aload_n 1, 1) := rfl
theorem gX3_note_17 : zget (zMt mX3_note) 17 = some (.invokevirtual 36, 3) := rfl
theorem gX3_note_20 : zget (zMt mX3_note) 20 = some (.if_icmp .ge 30, 3) := rfl
theorem gX3_note_23 : zget (zMt mX3_note) 23 = some (.iload 6, 2) := rfl
theorem gX3_note_25 : zget (zMt mX3_note) 25 = some (.ifCond .eq 16, 3) := rfl
theorem gX3_note_28 : zget (zMt mX3_note) 28 = some (.aload_n 1, 1) := rfl
theorem gX3_note_29 : zget (zMt mX3_note) 29 = some (.iload 7, 2) := rfl
theorem gX3_note_31 : zget (zMt mX3_note) 31 = some (.invokevirtual 65, 3) := rfl
theorem gX3_note_34 : zget (zMt mX3_note) 34 = some (.ifCond .ne 7, 3) := rfl
theorem gX3_note_37 : zget (zMt mX3_note) 37 = some (.iconst 1, 1) := rfl
theorem gX3_note_38 : zget (zMt mX3_note) 38 = some (.goto 4, 3) := rfl
theorem gX3_note_41 : zget (zMt mX3_note) 41 = some (.iconst 0, 1) := rfl
theorem gX3_note_42 : zget (zMt mX3_note) 42 = some (.istore 6, 2) := rfl
theorem gX3_note_44 : zget (zMt mX3_note) 44 = some (.iinc 7 1, 3) := rfl
theorem gX3_note_47 : zget (zMt mX3_note) 47 = some (.goto (-40), 3) := rfl
theorem gX3_note_50 : zget (zMt mX3_note) 50 = some (.aload_n 0, 1) := rfl
theorem gX3_note_51 : zget (zMt mX3_note) 51 = some (.getfield 9, 3) := rfl
theorem gX3_note_54 : zget (zMt mX3_note) 54 = some (.aload_n 0, 1) := rfl
theorem gX3_note_55 : zget (zMt mX3_note) 55 = some (.getfield 24, 3) := rfl
theorem gX3_note_58 : zget (zMt mX3_note) 58 = some (.iload_n 3, 1) := rfl
theorem gX3_note_59 : zget (zMt mX3_note) 59 = some (.invokestatic 69, 3) := rfl
theorem gX3_note_62 : zget (zMt mX3_note) 62 = some (.aload_n 0, 1) := rfl
theorem gX3_note_63 : zget (zMt mX3_note) 63 = some (.getfield 15, 3) := rfl
theorem gX3_note_66 : zget (zMt mX3_note) 66 = some (.aload_n 0, 1) := rfl
theorem gX3_note_67 : zget (zMt mX3_note) 67 = some (.getfield 24, 3) := rfl
theorem gX3_note_70 : zget (zMt mX3_note) 70 = some (.iload 4, 2) := rfl
theorem gX3_note_72 : zget (zMt mX3_note) 72 = some (.invokestatic 69, 3) := rfl
theorem gX3_note_75 : zget (zMt mX3_note) 75 = some (.aload_n 0, 1) := rfl
theorem gX3_note_76 : zget (zMt mX3_note) 76 = some (.getfield 18, 3) := rfl
theorem gX3_note_79 : zget (zMt mX3_note) 79 = some (.aload_n 0, 1) := rfl
theorem gX3_note_80 : zget (zMt mX3_note) 80 = some (.getfield 24, 3) := rfl
theorem gX3_note_83 : zget (zMt mX3_note) 83 = some (.iload 5, 2) := rfl
theorem gX3_note_85 : zget (zMt mX3_note) 85 = some (.invokestatic 69, 3) := rfl
theorem gX3_note_88 : zget (zMt mX3_note) 88 = some (.aload_n 0, 1) := rfl
theorem gX3_note_89 : zget (zMt mX3_note) 89 = some (.getfield 21, 3) := rfl
theorem gX3_note_92 : zget (zMt mX3_note) 92 = some (.aload_n 0, 1) := rfl
theorem gX3_note_93 : zget (zMt mX3_note) 93 = some (.getfield 24, 3) := rfl
theorem gX3_note_96 : zget (zMt mX3_note) 96 = some (.iload 6, 2) := rfl
theorem gX3_note_98 : zget (zMt mX3_note) 98 = some (.ifCond .eq 11, 3) := rfl
theorem gX3_note_101 : zget (zMt mX3_note) 101 = some (.aload_n 2, 1) := rfl
theorem gX3_note_102 : zget (zMt mX3_note) 102 = some (.iload_n 3, 1) := rfl
theorem gX3_note_103 : zget (zMt mX3_note) 103 = some (.invokevirtual 73, 3) := rfl
theorem gX3_note_106 : zget (zMt mX3_note) 106 = some (.goto 4, 3) := rfl
theorem gX3_note_109 : zget (zMt mX3_note) 109 = some (.iconst 0, 1) := rfl
theorem gX3_note_110 : zget (zMt mX3_note) 110 = some (.invokestatic 69, 3) := rfl
theorem gX3_note_113 : zget (zMt mX3_note) 113 = some (.aload_n 0, 1) := rfl
theorem gX3_note_114 : zget (zMt mX3_note) 114 = some (.aload_n 0, 1) := rfl
theorem gX3_note_115 : zget (zMt mX3_note) 115 = some (.getfield 24, 3) := rfl
theorem gX3_note_118 : zget (zMt mX3_note) 118 = some (.iconst 1, 1) := rfl
theorem gX3_note_119 : zget (zMt mX3_note) 119 = some (.iadd, 1) := rfl
theorem gX3_note_120 : zget (zMt mX3_note) 120 = some (.bipush 30, 2) := rfl
theorem gX3_note_122 : zget (zMt mX3_note) 122 = some (.invokestatic 78, 3) := rfl
theorem gX3_note_125 : zget (zMt mX3_note) 125 = some (.putfield 24, 3) := rfl
theorem gX3_note_128 : zget (zMt mX3_note) 128 = some (.return_, 1) := rfl
theorem gX4_lines_0 : zget (zMt mX4_lines) 0 = some (.aload_n 0, 1) := rfl
theorem gX4_lines_1 : zget (zMt mX4_lines) 1 = some (.getfield 21, 3) := rfl
theorem gX4_lines_4 : zget (zMt mX4_lines) 4 = some (.ireturn, 1) := rfl
theorem gX4_least_0 : zget (zMt mX4_least) 0 = some (.aload_n 0, 1) := rfl
theorem gX4_least_1 : zget (zMt mX4_least) 1 = some (.getfield 9, 3) := rfl
theorem gX4_least_4 : zget (zMt mX4_least) 4 = some (.iconst 0, 1) := rfl
theorem gX4_least_5 : zget (zMt mX4_least) 5 = some (.invokestatic 25, 3) := rfl
theorem gX4_least_8 : zget (zMt mX4_least) 8 = some (.ireturn, 1) := rfl
theorem gX4_divide_0 : zget (zMt mX4_divide) 0 = some (.aload_n 0, 1) := rfl
theorem gX4_divide_1 : zget (zMt mX4_divide) 1 = some (.getfield 9, 3) := rfl
theorem gX4_divide_4 : zget (zMt mX4_divide) 4 = some (.aload_n 1, 1) := rfl
theorem gX4_divide_5 : zget (zMt mX4_divide) 5 = some (.invokevirtual 29, 3) := rfl
theorem gX4_divide_8 : zget (zMt mX4_divide) 8 = some (.iconst 0, 1) := rfl
theorem gX4_divide_9 : zget (zMt mX4_divide) 9 = some (.invokestatic 35, 3) := rfl
theorem gX4_divide_12 : zget (zMt mX4_divide) 12 = some (.aload_n 1, 1) := rfl
theorem gX4_divide_13 : zget (zMt mX4_divide) 13 = some (.invokevirtual 29, 3) := rfl
theorem gX4_divide_16 : zget (zMt mX4_divide) 16 = some (.iconst 1, 1) := rfl
theorem gX4_divide_17 : zget (zMt mX4_divide) 17 = some (.isub, 1) := rfl
theorem gX4_divide_18 : zget (zMt mX4_divide) 18 = some (.istore_n 3, 1) := rfl
theorem gX4_divide_19 : zget (zMt mX4_divide) 19 = some (.iload_n 3, 1) := rfl
theorem gX4_divide_20 : zget (zMt mX4_divide) 20 = some (.ifCond .lt 16, 3) := rfl
theorem gX4_divide_23 : zget (zMt mX4_divide) 23 = some (.aload_n 0, 1) := rfl
theorem gX4_divide_24 : zget (zMt mX4_divide) 24 = some (.aload_n 1, 1) := rfl
theorem gX4_divide_25 : zget (zMt mX4_divide) 25 = some (.iload_n 2, 1) := rfl
theorem gX4_divide_26 : zget (zMt mX4_divide) 26 = some (.iload_n 3, 1) := rfl
theorem gX4_divide_27 : zget (zMt mX4_divide) 27 = some (.invokevirtual 39, 3) := rfl
theorem gX4_divide_30 : zget (zMt mX4_divide) 30 = some (.iinc 3 (-1), 3) := rfl
theorem gX4_divide_33 : zget (zMt mX4_divide) 33 = some (.goto (-14), 3) := rfl
theorem gX4_divide_36 : zget (zMt mX4_divide) 36 = some (.aload_n 0, 1) := rfl
theorem gX4_divide_37 : zget (zMt mX4_divide) 37 = some (.iconst 0, 1) := rfl
theorem gX4_divide_38 : zget (zMt mX4_divide) 38 = some (.putfield 21, 3) := rfl
theorem gX4_divide_41 : zget (zMt mX4_divide) 41 = some (.iconst 0, 1) := rfl
theorem gX4_divide_42 : zget (zMt mX4_divide) 42 = some (.istore_n 3, 1) := rfl
theorem gX4_divide_43 : zget (zMt mX4_divide) 43 = some (.iconst 0, 1) := rfl
theorem gX4_divide_44 : zget (zMt mX4_divide) 44 = some (.istore 4, 2) := rfl
theorem gX4_divide_46 : zget (zMt mX4_divide) 46 = some (.iload 4, 2) := rfl
theorem gX4_divide_48 : zget (zMt mX4_divide) 48 = some (.bipush 30, 2) := rfl
theorem gX4_divide_50 : zget (zMt mX4_divide) 50 = some (.if_icmp .ge 48, 3) := rfl
theorem gX4_divide_53 : zget (zMt mX4_divide) 53 = some (.iload_n 3, 1) := rfl
theorem gX4_divide_54 : zget (zMt mX4_divide) 54 = some (.aload_n 1, 1) := rfl
theorem gX4_divide_55 : zget (zMt mX4_divide) 55 = some (.invokevirtual 29, 3) := rfl
theorem gX4_divide_58 : zget (zMt mX4_divide) 58 = some (.if_icmp .ge 40, 3) := rfl
theorem gX4_divide_61 : zget (zMt mX4_divide) 61 = some (.aload_n 0, 1) := rfl
theorem gX4_divide_62 : zget (zMt mX4_divide) 62 = some (.getfield 18, 3) := rfl
theorem gX4_divide_65 : zget (zMt mX4_divide) 65 = some (.aload_n 0, 1) := rfl
theorem gX4_divide_66 : zget (zMt mX4_divide) 66 = some (.getfield 21, 3) := rfl
theorem gX4_divide_69 : zget (zMt mX4_divide) 69 = some (.iload_n 3, 1) := rfl
theorem gX4_divide_70 : zget (zMt mX4_divide) 70 = some (.invokestatic 35, 3) := rfl
theorem gX4_divide_73 : zget (zMt mX4_divide) 73 = some (.aload_n 0, 1) := rfl
theorem gX4_divide_74 : zget (zMt mX4_divide) 74 = some (.dup, 1) := rfl
theorem gX4_divide_75 : zget (zMt mX4_divide) 75 = some (.getfield 21, 3) := rfl
theorem gX4_divide_78 : zget (zMt mX4_divide) 78 = some (.iconst 1, 1) := rfl
theorem gX4_divide_79 : zget (zMt mX4_divide) 79 = some (.iadd, 1) := rfl
theorem gX4_divide_80 : zget (zMt mX4_divide) 80 = some (.putfield 21, 3) := rfl
theorem gX4_divide_83 : zget (zMt mX4_divide) 83 = some (.aload_n 0, 1) := rfl
theorem gX4_divide_84 : zget (zMt mX4_divide) 84 = some (.getfield 15, 3) := rfl
theorem gX4_divide_87 : zget (zMt mX4_divide) 87 = some (.iload_n 3, 1) := rfl
theorem gX4_divide_88 : zget (zMt mX4_divide) 88 = some (.invokestatic 25, 3) := rfl
theorem gX4_divide_91 : zget (zMt mX4_divide) 91 = some (.istore_n 3, 1) := rfl
theorem gX4_divide_92 : zget (zMt mX4_divide) 92 = some (.iinc 4 1, 3) := rfl
theorem gX4_divide_95 : zget (zMt mX4_divide) 95 = some (.goto (-49), 3) := rfl
theorem gX4_divide_98 : zget (zMt mX4_divide) 98 = some (.aload_n 0, 1) := rfl
theorem gX4_divide_99 : zget (zMt mX4_divide) 99 = some (.getfield 18, 3) := rfl
theorem gX4_divide_102 : zget (zMt mX4_divide) 102 = some (.aload_n 0, 1) := rfl
theorem gX4_divide_103 : zget (zMt mX4_divide) 103 = some (.getfield 21, 3) := rfl
theorem gX4_divide_106 : zget (zMt mX4_divide) 106 = some (.aload_n 1, 1) := rfl
theorem gX4_divide_107 : zget (zMt mX4_divide) 107 = some (.invokevirtual 29, 3) := rfl
theorem gX4_divide_110 : zget (zMt mX4_divide) 110 = some (.invokestatic 35, 3) := rfl
theorem gX4_divide_113 : zget (zMt mX4_divide) 113 = some (.return_, 1) := rfl
theorem gX4_lineHolding_0 : zget (zMt mX4_lineHolding) 0 = some (.iconst 0, 1) := rfl
theorem gX4_lineHolding_1 : zget (zMt mX4_lineHolding) 1 = some (.istore_n 2, 1) := rfl
theorem gX4_lineHolding_2 : zget (zMt mX4_lineHolding) 2 = some (.iload_n 2, 1) := rfl
theorem gX4_lineHolding_3 : zget (zMt mX4_lineHolding) 3 = some (.iconst 1, 1) := rfl
theorem gX4_lineHolding_4 : zget (zMt mX4_lineHolding) 4 = some (.iadd, 1) := rfl
theorem gX4_lineHolding_5 : zget (zMt mX4_lineHolding) 5 = some (.aload_n 0, 1) := rfl
theorem gX4_lineHolding_6 : zget (zMt mX4_lineHolding) 6 = some (.getfield 21, 3) := rfl
theorem gX4_lineHolding_9 : zget (zMt mX4_lineHolding) 9 = some (.if_icmp .ge 23, 3) := rfl
theorem gX4_lineHolding_12 : zget (zMt mX4_lineHolding) 12 = some (.aload_n 0, 1) := rfl
theorem gX4_lineHolding_13 : zget (zMt mX4_lineHolding) 13 = some (.getfield 18, 3) := rfl
theorem gX4_lineHolding_16 : zget (zMt mX4_lineHolding) 16 = some (.iload_n 2, 1) := rfl
theorem gX4_lineHolding_17 : zget (zMt mX4_lineHolding) 17 = some (.iconst 1, 1) := rfl
theorem gX4_lineHolding_18 : zget (zMt mX4_lineHolding) 18 = some (.iadd, 1) := rfl
theorem gX4_lineHolding_19 : zget (zMt mX4_lineHolding) 19 = some (.invokestatic 25, 3) := rfl
theorem gX4_lineHolding_22 : zget (zMt mX4_lineHolding) 22 = some (.iload_n 1, 1) := rfl
theorem gX4_lineHolding_23 : zget (zMt mX4_lineHolding) 23 = some (.if_icmp .gt 9, 3) := rfl
theorem gX4_lineHolding_26 : zget (zMt mX4_lineHolding) 26 = some (.iinc 2 1, 3) := rfl
theorem gX4_lineHolding_29 : zget (zMt mX4_lineHolding) 29 = some (.goto (-27), 3) := rfl
theorem gX4_lineHolding_32 : zget (zMt mX4_lineHolding) 32 = some (.iload_n 2, 1) := rfl
theorem gX4_lineHolding_33 : zget (zMt mX4_lineHolding) 33 = some (.ireturn, 1) := rfl
theorem gX4_widthOfLine_0 : zget (zMt mX4_widthOfLine) 0 = some (.iconst (-1), 1) := rfl
theorem gX4_widthOfLine_1 : zget (zMt mX4_widthOfLine) 1 = some (.istore_n 3, 1) := rfl
theorem gX4_widthOfLine_2 : zget (zMt mX4_widthOfLine) 2 = some (.aload_n 0, 1) := rfl
theorem gX4_widthOfLine_3 : zget (zMt mX4_widthOfLine) 3 = some (.getfield 18, 3) := rfl
theorem gX4_widthOfLine_6 : zget (zMt mX4_widthOfLine) 6 = some (.iload_n 2, 1) := rfl
theorem gX4_widthOfLine_7 : zget (zMt mX4_widthOfLine) 7 = some (.invokestatic 25, 3) := rfl
theorem gX4_widthOfLine_10 : zget (zMt mX4_widthOfLine) 10 = some (.istore 4, 2) := rfl
theorem gX4_widthOfLine_12 : zget (zMt mX4_widthOfLine) 12 = some (.iload 4, 2) := rfl
theorem gX4_widthOfLine_14 : zget (zMt mX4_widthOfLine) 14 = some (.aload_n 0, 1) := rfl
theorem gX4_widthOfLine_15 : zget (zMt mX4_widthOfLine) 15 = some (.getfield 18, 3) := rfl
theorem gX4_widthOfLine_18 : zget (zMt mX4_widthOfLine) 18 = some (.iload_n 2, 1) := rfl
theorem gX4_widthOfLine_19 : zget (zMt mX4_widthOfLine) 19 = some (.iconst 1, 1) := rfl
theorem gX4_widthOfLine_20 : zget (zMt mX4_widthOfLine) 20 = some (.iadd, 1) := rfl
theorem gX4_widthOfLine_21 : zget (zMt mX4_widthOfLine) 21 = some (.invokestatic 25, 3) := rfl
theorem gX4_widthOfLine_24 : zget (zMt mX4_widthOfLine) 24 = some (.if_icmp .ge 20, 3) := rfl
theorem gX4_widthOfLine_27 : zget (zMt mX4_widthOfLine) 27 = some (.iload_n 3, 1) := rfl
theorem gX4_widthOfLine_28 : zget (zMt mX4_widthOfLine) 28 = some (.iconst 1, 1) := rfl
theorem gX4_widthOfLine_29 : zget (zMt mX4_widthOfLine) 29 = some (.aload_n 1, 1) := rfl
theorem gX4_widthOfLine_30 : zget (zMt mX4_widthOfLine) 30 = some (.iload 4, 2) := rfl
theorem gX4_widthOfLine_32 : zget (zMt mX4_widthOfLine) 32 = some (.invokevirtual 43, 3) := rfl
theorem gX4_widthOfLine_35 : zget (zMt mX4_widthOfLine) 35 = some (.iadd, 1) := rfl
theorem gX4_widthOfLine_36 : zget (zMt mX4_widthOfLine) 36 = some (.iadd, 1) := rfl
theorem gX4_widthOfLine_37 : zget (zMt mX4_widthOfLine) 37 = some (.istore_n 3, 1) := rfl
theorem gX4_widthOfLine_38 : zget (zMt mX4_widthOfLine) 38 = some (.iinc 4 1, 3) := rfl
theorem gX4_widthOfLine_41 : zget (zMt mX4_widthOfLine) 41 = some (.goto (-29), 3) := rfl
theorem gX4_widthOfLine_44 : zget (zMt mX4_widthOfLine) 44 = some (.iload_n 3, 1) := rfl
theorem gX4_widthOfLine_45 : zget (zMt mX4_widthOfLine) 45 = some (.ireturn, 1) := rfl
theorem gX4_sumOfCosts_0 : zget (zMt mX4_sumOfCosts) 0 = some (.iconst 0, 1) := rfl
theorem gX4_sumOfCosts_1 : zget (zMt mX4_sumOfCosts) 1 = some (.istore_n 3, 1) := rfl
theorem gX4_sumOfCosts_2 : zget (zMt mX4_sumOfCosts) 2 = some (.iconst 0, 1) := rfl
theorem gX4_sumOfCosts_3 : zget (zMt mX4_sumOfCosts) 3 = some (.istore 4, 2) := rfl
theorem gX4_sumOfCosts_5 : zget (zMt mX4_sumOfCosts) 5 = some (.iload 4, 2) := rfl
theorem gX4_sumOfCosts_7 : zget (zMt mX4_sumOfCosts) 7 = some (.aload_n 0, 1) := rfl
theorem gX4_sumOfCosts_8 : zget (zMt mX4_sumOfCosts) 8 = some (.getfield 21, 3) := rfl
theorem gX4_sumOfCosts_11 : zget (zMt mX4_sumOfCosts) 11 = some (.if_icmp .ge 39, 3) := rfl
theorem gX4_sumOfCosts_14 : zget (zMt mX4_sumOfCosts) 14 = some (.iload_n 3, 1) := rfl
theorem gX4_sumOfCosts_15 : zget (zMt mX4_sumOfCosts) 15 = some (.aload_n 0, 1) := rfl
theorem gX4_sumOfCosts_16 : zget (zMt mX4_sumOfCosts) 16 = some (.aload_n 1, 1) := rfl
theorem gX4_sumOfCosts_17 : zget (zMt mX4_sumOfCosts) 17 = some (.iload 4, 2) := rfl
theorem gX4_sumOfCosts_19 : zget (zMt mX4_sumOfCosts) 19 = some (.invokevirtual 47, 3) := rfl
theorem gX4_sumOfCosts_22 : zget (zMt mX4_sumOfCosts) 22 = some (.iload_n 2, 1) := rfl
theorem gX4_sumOfCosts_23 : zget (zMt mX4_sumOfCosts) 23 = some (.iload 4, 2) := rfl
theorem gX4_sumOfCosts_25 : zget (zMt mX4_sumOfCosts) 25 = some (.aload_n 0, 1) := rfl
theorem gX4_sumOfCosts_26 : zget (zMt mX4_sumOfCosts) 26 = some (.getfield 21, 3) := rfl
theorem gX4_sumOfCosts_29 : zget (zMt mX4_sumOfCosts) 29 = some (.iconst 1, 1) := rfl
theorem gX4_sumOfCosts_30 : zget (zMt mX4_sumOfCosts) 30 = some (.isub, 1) := rfl
theorem gX4_sumOfCosts_31 : zget (zMt mX4_sumOfCosts) 31 = some (.if_icmp .ne 7, 3) := rfl
theorem gX4_sumOfCosts_34 : zget (zMt mX4_sumOfCosts) 34 = some (.iconst 1, 1) := rfl
theorem gX4_sumOfCosts_35 : zget (zMt mX4_sumOfCosts) 35 = some (.goto 4, 3) := rfl
theorem gX4_sumOfCosts_38 : zget (zMt mX4_sumOfCosts) 38 = some (.iconst 0, 1) := rfl
theorem gX4_sumOfCosts_39 : zget (zMt mX4_sumOfCosts) 39 = some (.invokestatic 51, 3) := rfl
theorem gX4_sumOfCosts_42 : zget (zMt mX4_sumOfCosts) 42 = some (.iadd, 1) := rfl
theorem gX4_sumOfCosts_43 : zget (zMt mX4_sumOfCosts) 43 = some (.istore_n 3, 1) := rfl
theorem gX4_sumOfCosts_44 : zget (zMt mX4_sumOfCosts) 44 = some (.iinc 4 1, 3) := rfl
theorem gX4_sumOfCosts_47 : zget (zMt mX4_sumOfCosts) 47 = some (.goto (-42), 3) := rfl
theorem gX4_sumOfCosts_50 : zget (zMt mX4_sumOfCosts) 50 = some (.iload_n 3, 1) := rfl
theorem gX4_sumOfCosts_51 : zget (zMt mX4_sumOfCosts) 51 = some (.ireturn, 1) := rfl
theorem gX4_isSameAs_0 : zget (zMt mX4_isSameAs) 0 = some (.aload_n 0, 1) := rfl
theorem gX4_isSameAs_1 : zget (zMt mX4_isSameAs) 1 = some (.getfield 21, 3) := rfl
theorem gX4_isSameAs_4 : zget (zMt mX4_isSameAs) 4 = some (.aload_n 1, 1) := rfl
theorem gX4_isSameAs_5 : zget (zMt mX4_isSameAs) 5 = some (.getfield 21, 3) := rfl
theorem gX4_isSameAs_8 : zget (zMt mX4_isSameAs) 8 = some (.if_icmp .eq 5, 3) := rfl
theorem gX4_isSameAs_11 : zget (zMt mX4_isSameAs) 11 = some (.iconst 0, 1) := rfl
theorem gX4_isSameAs_12 : zget (zMt mX4_isSameAs) 12 = some (.ireturn, 1) := rfl
theorem gX4_isSameAs_13 : zget (zMt mX4_isSameAs) 13 = some (.iconst 0, 1) := rfl
theorem gX4_isSameAs_14 : zget (zMt mX4_isSameAs) 14 = some (.istore_n 3, 1) := rfl
theorem gX4_isSameAs_15 : zget (zMt mX4_isSameAs) 15 = some (.iload_n 3, 1) := rfl
theorem gX4_isSameAs_16 : zget (zMt mX4_isSameAs) 16 = some (.iload_n 2, 1) := rfl
theorem gX4_isSameAs_17 : zget (zMt mX4_isSameAs) 17 = some (.if_icmp .ge 24, 3) := rfl
theorem gX4_isSameAs_20 : zget (zMt mX4_isSameAs) 20 = some (.aload_n 0, 1) := rfl
theorem gX4_isSameAs_21 : zget (zMt mX4_isSameAs) 21 = some (.iload_n 3, 1) := rfl
theorem gX4_isSameAs_22 : zget (zMt mX4_isSameAs) 22 = some (.invokevirtual 55, 3) := rfl
theorem gX4_isSameAs_25 : zget (zMt mX4_isSameAs) 25 = some (.aload_n 1, 1) := rfl
theorem gX4_isSameAs_26 : zget (zMt mX4_isSameAs) 26 = some (.iload_n 3, 1) := rfl
theorem gX4_isSameAs_27 : zget (zMt mX4_isSameAs) 27 = some (.invokevirtual 55, 3) := rfl
theorem gX4_isSameAs_30 : zget (zMt mX4_isSameAs) 30 = some (.if_icmp .eq 5, 3) := rfl
theorem gX4_isSameAs_33 : zget (zMt mX4_isSameAs) 33 = some (.iconst 0, 1) := rfl
theorem gX4_isSameAs_34 : zget (zMt mX4_isSameAs) 34 = some (.ireturn, 1) := rfl
theorem gX4_isSameAs_35 : zget (zMt mX4_isSameAs) 35 = some (.iinc 3 1, 3) := rfl
theorem gX4_isSameAs_38 : zget (zMt mX4_isSameAs) 38 = some (.goto (-23), 3) := rfl
theorem gX4_isSameAs_41 : zget (zMt mX4_isSameAs) 41 = some (.iconst 1, 1) := rfl
theorem gX4_isSameAs_42 : zget (zMt mX4_isSameAs) 42 = some (.ireturn, 1) := rfl
theorem gX4_chooseLineFrom_0 : zget (zMt mX4_chooseLineFrom) 0 = some (.ldc 58, 2) := rfl
theorem gX4_chooseLineFrom_2 : zget (zMt mX4_chooseLineFrom) 2 = some (.istore 4, 2) := rfl
theorem gX4_chooseLineFrom_4 : zget (zMt mX4_chooseLineFrom) 4 = some (.aload_n 1, 1) := rfl
theorem gX4_chooseLineFrom_5 : zget (zMt mX4_chooseLineFrom) 5 = some (.invokevirtual 29, 3) := rfl
theorem gX4_chooseLineFrom_8 : zget (zMt mX4_chooseLineFrom) 8 = some (.istore 5, 2) := rfl
theorem gX4_chooseLineFrom_10 : zget (zMt mX4_chooseLineFrom) 10 = some (.iconst (-1), 1) := rfl
theorem gX4_chooseLineFrom_11 : zget (zMt mX4_chooseLineFrom) 11 = some (.istore 6, 2) := rfl
theorem gX4_chooseLineFrom_13 : zget (zMt mX4_chooseLineFrom) 13 = some (.iload_n 3, 1) := rfl
theorem gX4_chooseLineFrom_14 : zget (zMt mX4_chooseLineFrom) 14 = some (.istore 7, 2) := rfl
theorem gX4_chooseLineFrom_16 : zget (zMt mX4_chooseLineFrom) 16 = some (.iload 7, 2) := rfl
theorem gX4_chooseLineFrom_18 : zget (zMt mX4_chooseLineFrom) 18 = some (.aload_n 1, 1) := rfl
theorem gX4_chooseLineFrom_19 : zget (zMt mX4_chooseLineFrom) 19 = some (.invokevirtual 29, 3) := rfl
theorem gX4_chooseLineFrom_22 : zget (zMt mX4_chooseLineFrom) 22 = some (.if_icmp .ge 88, 3) := rfl
theorem gX4_chooseLineFrom_25 : zget (zMt mX4_chooseLineFrom) 25 = some (.iload 6, 2) := rfl
theorem gX4_chooseLineFrom_27 : zget (zMt mX4_chooseLineFrom) 27 = some (.iconst 1, 1) := rfl
theorem gX4_chooseLineFrom_28 : zget (zMt mX4_chooseLineFrom) 28 = some (.aload_n 1, 1) := rfl
theorem gX4_chooseLineFrom_29 : zget (zMt mX4_chooseLineFrom) 29 = some (.iload 7, 2) := rfl
theorem gX4_chooseLineFrom_31 : zget (zMt mX4_chooseLineFrom) 31 = some (.invokevirtual 43, 3) := rfl
theorem gX4_chooseLineFrom_34 : zget (zMt mX4_chooseLineFrom) 34 = some (.iadd, 1) := rfl
theorem gX4_chooseLineFrom_35 : zget (zMt mX4_chooseLineFrom) 35 = some (.iadd, 1) := rfl
theorem gX4_chooseLineFrom_36 : zget (zMt mX4_chooseLineFrom) 36 = some (.istore 6, 2) := rfl
theorem gX4_chooseLineFrom_38 : zget (zMt mX4_chooseLineFrom) 38 = some (.iload 7, 2) := rfl
theorem gX4_chooseLineFrom_40 : zget (zMt mX4_chooseLineFrom) 40 = some (.aload_n 1, 1) := rfl
theorem gX4_chooseLineFrom_41 : zget (zMt mX4_chooseLineFrom) 41 = some (.invokevirtual 29, 3) := rfl
theorem gX4_chooseLineFrom_44 : zget (zMt mX4_chooseLineFrom) 44 = some (.iconst 1, 1) := rfl
theorem gX4_chooseLineFrom_45 : zget (zMt mX4_chooseLineFrom) 45 = some (.isub, 1) := rfl
theorem gX4_chooseLineFrom_46 : zget (zMt mX4_chooseLineFrom) 46 = some (.if_icmp .ne 7, 3) := rfl
theorem gX4_chooseLineFrom_49 : zget (zMt mX4_chooseLineFrom) 49 = some (.iconst 1, 1) := rfl
theorem gX4_chooseLineFrom_50 : zget (zMt mX4_chooseLineFrom) 50 = some (.goto 4, 3) := rfl
theorem gX4_chooseLineFrom_53 : zget (zMt mX4_chooseLineFrom) 53 = some (.iconst 0, 1) := rfl
theorem gX4_chooseLineFrom_54 : zget (zMt mX4_chooseLineFrom) 54 = some (.istore 8, 2) := rfl
theorem gX4_chooseLineFrom_56 : zget (zMt mX4_chooseLineFrom) 56 = some (.iload 6, 2) := rfl
theorem gX4_chooseLineFrom_58 : zget (zMt mX4_chooseLineFrom) 58 = some (.iload_n 2, 1) := rfl
theorem gX4_chooseLineFrom_59 : zget (zMt mX4_chooseLineFrom) 59 = some (.iload 8, 2) := rfl
theorem gX4_chooseLineFrom_61 : zget (zMt mX4_chooseLineFrom) 61 = some (.invokestatic 51, 3) := rfl
theorem gX4_chooseLineFrom_64 : zget (zMt mX4_chooseLineFrom) 64 = some (.aload_n 0, 1) := rfl
theorem gX4_chooseLineFrom_65 : zget (zMt mX4_chooseLineFrom) 65 = some (.getfield 9, 3) := rfl
theorem gX4_chooseLineFrom_68 : zget (zMt mX4_chooseLineFrom) 68 = some (.iload 7, 2) := rfl
theorem gX4_chooseLineFrom_70 : zget (zMt mX4_chooseLineFrom) 70 = some (.iconst 1, 1) := rfl
theorem gX4_chooseLineFrom_71 : zget (zMt mX4_chooseLineFrom) 71 = some (.iadd, 1) := rfl
theorem gX4_chooseLineFrom_72 : zget (zMt mX4_chooseLineFrom) 72 = some (.invokestatic 25, 3) := rfl
theorem gX4_chooseLineFrom_75 : zget (zMt mX4_chooseLineFrom) 75 = some (.iadd, 1) := rfl
theorem gX4_chooseLineFrom_76 : zget (zMt mX4_chooseLineFrom) 76 = some (.istore 9, 2) := rfl
theorem gX4_chooseLineFrom_78 : zget (zMt mX4_chooseLineFrom) 78 = some (.aload_n 1, 1) := rfl
theorem gX4_chooseLineFrom_79 : zget (zMt mX4_chooseLineFrom) 79 = some (.iload 7, 2) := rfl
theorem gX4_chooseLineFrom_81 : zget (zMt mX4_chooseLineFrom) 81 = some (.invokevirtual 59, 3) := rfl
theorem gX4_chooseLineFrom_84 : zget (zMt mX4_chooseLineFrom) 84 = some (.ifCond .eq 20, 3) := rfl
theorem gX4_chooseLineFrom_87 : zget (zMt mX4_chooseLineFrom) 87 = some (.iload 9, 2) := rfl
theorem gX4_chooseLineFrom_89 : zget (zMt mX4_chooseLineFrom) 89 = some (.iload 4, 2) := rfl
theorem gX4_chooseLineFrom_91 : zget (zMt mX4_chooseLineFrom) 91 = some (.if_icmp .gt 13, 3) := rfl
theorem gX4_chooseLineFrom_94 : zget (zMt mX4_chooseLineFrom) 94 = some (.iload 9, 2) := rfl
theorem gX4_chooseLineFrom_96 : zget (zMt mX4_chooseLineFrom) 96 = some (.istore 4, 2) := rfl
theorem gX4_chooseLineFrom_98 : zget (zMt mX4_chooseLineFrom) 98 = some (.iload 7, 2) := rfl
theorem gX4_chooseLineFrom_100 : zget (zMt mX4_chooseLineFrom) 100 = some (.iconst 1, 1) := rfl
theorem gX4_chooseLineFrom_101 : zget (zMt mX4_chooseLineFrom) 101 = some (.iadd, 1) := rfl
theorem gX4_chooseLineFrom_102 : zget (zMt mX4_chooseLineFrom) 102 = some (.istore 5, 2) := rfl
theorem gX4_chooseLineFrom_104 : zget (zMt mX4_chooseLineFrom) 104 = some (.iinc 7 1, 3) := rfl
theorem gX4_chooseLineFrom_107 : zget (zMt mX4_chooseLineFrom) 107 = some (.goto (-91), 3) := rfl
theorem gX4_chooseLineFrom_110 : zget (zMt mX4_chooseLineFrom) 110 = some (.aload_n 0, 1) := rfl
theorem gX4_chooseLineFrom_111 : zget (zMt mX4_chooseLineFrom) 111 = some (.getfield 9, 3) := rfl
theorem gX4_chooseLineFrom_114 : zget (zMt mX4_chooseLineFrom) 114 = some (.iload_n 3, 1) := rfl
theorem gX4_chooseLineFrom_115 : zget (zMt mX4_chooseLineFrom) 115 = some (.iload 4, 2) := rfl
theorem gX4_chooseLineFrom_117 : zget (zMt mX4_chooseLineFrom) 117 = some (.invokestatic 35, 3) := rfl
theorem gX4_chooseLineFrom_120 : zget (zMt mX4_chooseLineFrom) 120 = some (.aload_n 0, 1) := rfl
theorem gX4_chooseLineFrom_121 : zget (zMt mX4_chooseLineFrom) 121 = some (.getfield 15, 3) := rfl
theorem gX4_chooseLineFrom_124 : zget (zMt mX4_chooseLineFrom) 124 = some (.iload_n 3, 1) := rfl
theorem gX4_chooseLineFrom_125 : zget (zMt mX4_chooseLineFrom) 125 = some (.iload 5, 2) := rfl
theorem gX4_chooseLineFrom_127 : zget (zMt mX4_chooseLineFrom) 127 = some (.invokestatic 35, 3) := rfl
theorem gX4_chooseLineFrom_130 : zget (zMt mX4_chooseLineFrom) 130 = some (.return_, 1) := rfl
theorem gX5_weightFor_0 : zget (zMt mX5_weightFor) 0 = some (.aload_n 0, 1) := rfl
theorem gX5_weightFor_1 : zget (zMt mX5_weightFor) 1 = some (.getfield 9, 3) := rfl
theorem gX5_weightFor_4 : zget (zMt mX5_weightFor) 4 = some (.iload_n 1, 1) := rfl
theorem gX5_weightFor_5 : zget (zMt mX5_weightFor) 5 = some (.invokestatic 25, 3) := rfl
theorem gX5_weightFor_8 : zget (zMt mX5_weightFor) 8 = some (.ireturn, 1) := rfl
theorem gX5_undoneFor_0 : zget (zMt mX5_undoneFor) 0 = some (.aload_n 0, 1) := rfl
theorem gX5_undoneFor_1 : zget (zMt mX5_undoneFor) 1 = some (.getfield 15, 3) := rfl
theorem gX5_undoneFor_4 : zget (zMt mX5_undoneFor) 4 = some (.iload_n 1, 1) := rfl
theorem gX5_undoneFor_5 : zget (zMt mX5_undoneFor) 5 = some (.invokestatic 25, 3) := rfl
theorem gX5_undoneFor_8 : zget (zMt mX5_undoneFor) 8 = some (.ireturn, 1) := rfl
theorem gX5_rankFor_0 : zget (zMt mX5_rankFor) 0 = some (.iconst 0, 1) := rfl
theorem gX5_rankFor_1 : zget (zMt mX5_rankFor) 1 = some (.istore_n 2, 1) := rfl
theorem gX5_rankFor_2 : zget (zMt mX5_rankFor) 2 = some (.iconst 0, 1) := rfl
theorem gX5_rankFor_3 : zget (zMt mX5_rankFor) 3 = some (.istore_n 3, 1) := rfl
theorem gX5_rankFor_4 : zget (zMt mX5_rankFor) 4 = some (.iload_n 3, 1) := rfl
theorem gX5_rankFor_5 : zget (zMt mX5_rankFor) 5 = some (.iconst 5, 1) := rfl
theorem gX5_rankFor_6 : zget (zMt mX5_rankFor) 6 = some (.if_icmp .ge 40, 3) := rfl
theorem gX5_rankFor_9 : zget (zMt mX5_rankFor) 9 = some (.aload_n 0, 1) := rfl
theorem gX5_rankFor_10 : zget (zMt mX5_rankFor) 10 = some (.iload_n 3, 1) := rfl
theorem gX5_rankFor_11 : zget (zMt mX5_rankFor) 11 = some (.invokevirtual 37, 3) := rfl
theorem gX5_rankFor_14 : zget (zMt mX5_rankFor) 14 = some (.aload_n 0, 1) := rfl
theorem gX5_rankFor_15 : zget (zMt mX5_rankFor) 15 = some (.iload_n 1, 1) := rfl
theorem gX5_rankFor_16 : zget (zMt mX5_rankFor) 16 = some (.invokevirtual 37, 3) := rfl
theorem gX5_rankFor_19 : zget (zMt mX5_rankFor) 19 = some (.isub, 1) := rfl
theorem gX5_rankFor_20 : zget (zMt mX5_rankFor) 20 = some (.istore 4, 2) := rfl
theorem gX5_rankFor_22 : zget (zMt mX5_rankFor) 22 = some (.iload 4, 2) := rfl
theorem gX5_rankFor_24 : zget (zMt mX5_rankFor) 24 = some (.ifCond .gt 13, 3) := rfl
theorem gX5_rankFor_27 : zget (zMt mX5_rankFor) 27 = some (.iload 4, 2) := rfl
theorem gX5_rankFor_29 : zget (zMt mX5_rankFor) 29 = some (.ifCond .ne 11, 3) := rfl
theorem gX5_rankFor_32 : zget (zMt mX5_rankFor) 32 = some (.iload_n 3, 1) := rfl
theorem gX5_rankFor_33 : zget (zMt mX5_rankFor) 33 = some (.iload_n 1, 1) := rfl
theorem gX5_rankFor_34 : zget (zMt mX5_rankFor) 34 = some (.if_icmp .ge 6, 3) := rfl
theorem gX5_rankFor_37 : zget (zMt mX5_rankFor) 37 = some (.iinc 2 1, 3) := rfl
theorem gX5_rankFor_40 : zget (zMt mX5_rankFor) 40 = some (.iinc 3 1, 3) := rfl
theorem gX5_rankFor_43 : zget (zMt mX5_rankFor) 43 = some (.goto (-39), 3) := rfl
theorem gX5_rankFor_46 : zget (zMt mX5_rankFor) 46 = some (.iload_n 2, 1) := rfl
theorem gX5_rankFor_47 : zget (zMt mX5_rankFor) 47 = some (.ireturn, 1) := rfl
theorem gX5_reward_0 : zget (zMt mX5_reward) 0 = some (.aload_n 0, 1) := rfl
theorem gX5_reward_1 : zget (zMt mX5_reward) 1 = some (.getfield 9, 3) := rfl
theorem gX5_reward_4 : zget (zMt mX5_reward) 4 = some (.iload_n 1, 1) := rfl
theorem gX5_reward_5 : zget (zMt mX5_reward) 5 = some (.aload_n 0, 1) := rfl
theorem gX5_reward_6 : zget (zMt mX5_reward) 6 = some (.iload_n 1, 1) := rfl
theorem gX5_reward_7 : zget (zMt mX5_reward) 7 = some (.invokevirtual 37, 3) := rfl
theorem gX5_reward_10 : zget (zMt mX5_reward) 10 = some (.iconst 1, 1) := rfl
theorem gX5_reward_11 : zget (zMt mX5_reward) 11 = some (.iadd, 1) := rfl
theorem gX5_reward_12 : zget (zMt mX5_reward) 12 = some (.bipush 99, 2) := rfl
theorem gX5_reward_14 : zget (zMt mX5_reward) 14 = some (.invokestatic 40, 3) := rfl
theorem gX5_reward_17 : zget (zMt mX5_reward) 17 = some (.invokestatic 29, 3) := rfl
theorem gX5_reward_20 : zget (zMt mX5_reward) 20 = some (.aload_n 0, 1) := rfl
theorem gX5_reward_21 : zget (zMt mX5_reward) 21 = some (.dup, 1) := rfl
theorem gX5_reward_22 : zget (zMt mX5_reward) 22 = some (.getfield 18, 3) := rfl
theorem gX5_reward_25 : zget (zMt mX5_reward) 25 = some (.iconst 1, 1) := rfl
theorem gX5_reward_26 : zget (zMt mX5_reward) 26 = some (.iadd, 1) := rfl
theorem gX5_reward_27 : zget (zMt mX5_reward) 27 = some (.putfield 18, 3) := rfl
theorem gX5_reward_30 : zget (zMt mX5_reward) 30 = some (.return_, 1) := rfl
theorem gX5_punish_0 : zget (zMt mX5_punish) 0 = some (.aload_n 0, 1) := rfl
theorem gX5_punish_1 : zget (zMt mX5_punish) 1 = some (.iload_n 1, 1) := rfl
theorem gX5_punish_2 : zget (zMt mX5_punish) 2 = some (.invokevirtual 37, 3) := rfl
theorem gX5_punish_5 : zget (zMt mX5_punish) 5 = some (.iconst 3, 1) := rfl
theorem gX5_punish_6 : zget (zMt mX5_punish) 6 = some (.iadd, 1) := rfl
theorem gX5_punish_7 : zget (zMt mX5_punish) 7 = some (.iconst 4, 1) := rfl
theorem gX5_punish_8 : zget (zMt mX5_punish) 8 = some (.idiv, 1) := rfl
theorem gX5_punish_9 : zget (zMt mX5_punish) 9 = some (.istore_n 2, 1) := rfl
theorem gX5_punish_10 : zget (zMt mX5_punish) 10 = some (.aload_n 0, 1) := rfl
theorem gX5_punish_11 : zget (zMt mX5_punish) 11 = some (.getfield 9, 3) := rfl
theorem gX5_punish_14 : zget (zMt mX5_punish) 14 = some (.iload_n 1, 1) := rfl
theorem gX5_punish_15 : zget (zMt mX5_punish) 15 = some (.aload_n 0, 1) := rfl
theorem gX5_punish_16 : zget (zMt mX5_punish) 16 = some (.iload_n 1, 1) := rfl
theorem gX5_punish_17 : zget (zMt mX5_punish) 17 = some (.invokevirtual 37, 3) := rfl
theorem gX5_punish_20 : zget (zMt mX5_punish) 20 = some (.iload_n 2, 1) := rfl
theorem gX5_punish_21 : zget (zMt mX5_punish) 21 = some (.isub, 1) := rfl
theorem gX5_punish_22 : zget (zMt mX5_punish) 22 = some (.invokestatic 29, 3) := rfl
theorem gX5_punish_25 : zget (zMt mX5_punish) 25 = some (.aload_n 0, 1) := rfl
theorem gX5_punish_26 : zget (zMt mX5_punish) 26 = some (.getfield 15, 3) := rfl
theorem gX5_punish_29 : zget (zMt mX5_punish) 29 = some (.iload_n 1, 1) := rfl
theorem gX5_punish_30 : zget (zMt mX5_punish) 30 = some (.aload_n 0, 1) := rfl
theorem gX5_punish_31 : zget (zMt mX5_punish) 31 = some (.iload_n 1, 1) := rfl
theorem gX5_punish_32 : zget (zMt mX5_punish) 32 = some (.invokevirtual 33, 3) := rfl
theorem gX5_punish_35 : zget (zMt mX5_punish) 35 = some (.iconst 1, 1) := rfl
theorem gX5_punish_36 : zget (zMt mX5_punish) 36 = some (.iadd, 1) := rfl
theorem gX5_punish_37 : zget (zMt mX5_punish) 37 = some (.invokestatic 29, 3) := rfl
theorem gX5_punish_40 : zget (zMt mX5_punish) 40 = some (.return_, 1) := rfl
theorem gX6_size_0 : zget (zMt mX6_size) 0 = some (.aload_n 0, 1) := rfl
theorem gX6_size_1 : zget (zMt mX6_size) 1 = some (.getfield 26, 3) := rfl
theorem gX6_size_4 : zget (zMt mX6_size) 4 = some (.ireturn, 1) := rfl
theorem gX6_kindAt_0 : zget (zMt mX6_kindAt) 0 = some (.iload_n 1, 1) := rfl
theorem gX6_kindAt_1 : zget (zMt mX6_kindAt) 1 = some (.ifCond .lt 29, 3) := rfl
theorem gX6_kindAt_4 : zget (zMt mX6_kindAt) 4 = some (.iload_n 1, 1) := rfl
theorem gX6_kindAt_5 : zget (zMt mX6_kindAt) 5 = some (.aload_n 0, 1) := rfl
theorem gX6_kindAt_6 : zget (zMt mX6_kindAt) 6 = some (.getfield 26, 3) := rfl
theorem gX6_kindAt_9 : zget (zMt mX6_kindAt) 9 = some (.if_icmp .ge 21, 3) := rfl
theorem gX6_kindAt_12 : zget (zMt mX6_kindAt) 12 = some (.iload_n 1, 1) := rfl
theorem gX6_kindAt_13 : zget (zMt mX6_kindAt) 13 = some (.aload_n 0, 1) := rfl
theorem gX6_kindAt_14 : zget (zMt mX6_kindAt) 14 = some (.getfield 9, 3) := rfl
theorem gX6_kindAt_17 : zget (zMt mX6_kindAt) 17 = some (.arraylength, 1) := rfl
theorem gX6_kindAt_18 : zget (zMt mX6_kindAt) 18 = some (.if_icmp .ge 12, 3) := rfl
theorem gX6_kindAt_21 : zget (zMt mX6_kindAt) 21 = some (.aload_n 0, 1) := rfl
theorem gX6_kindAt_22 : zget (zMt mX6_kindAt) 22 = some (.getfield 9, 3) := rfl
theorem gX6_kindAt_25 : zget (zMt mX6_kindAt) 25 = some (.iload_n 1, 1) := rfl
theorem gX6_kindAt_26 : zget (zMt mX6_kindAt) 26 = some (.caload, 1) := rfl
theorem gX6_kindAt_27 : zget (zMt mX6_kindAt) 27 = some (.goto 5, 3) := rfl
theorem gX6_kindAt_30 : zget (zMt mX6_kindAt) 30 = some (.bipush 32, 2) := rfl
theorem gX6_kindAt_32 : zget (zMt mX6_kindAt) 32 = some (.ireturn, 1) := rfl
theorem gX6_nameAt_0 : zget (zMt mX6_nameAt) 0 = some (.aload_n 0, 1) := rfl
theorem gX6_nameAt_1 : zget (zMt mX6_nameAt) 1 = some (.getfield 15, 3) := rfl
theorem gX6_nameAt_4 : zget (zMt mX6_nameAt) 4 = some (.iload_n 1, 1) := rfl
theorem gX6_nameAt_5 : zget (zMt mX6_nameAt) 5 = some (.invokestatic 30, 3) := rfl
theorem gX6_nameAt_8 : zget (zMt mX6_nameAt) 8 = some (.ireturn, 1) := rfl
theorem gX6_lengthAt_0 : zget (zMt mX6_lengthAt) 0 = some (.aload_n 0, 1) := rfl
theorem gX6_lengthAt_1 : zget (zMt mX6_lengthAt) 1 = some (.getfield 19, 3) := rfl
theorem gX6_lengthAt_4 : zget (zMt mX6_lengthAt) 4 = some (.iload_n 1, 1) := rfl
theorem gX6_lengthAt_5 : zget (zMt mX6_lengthAt) 5 = some (.invokestatic 30, 3) := rfl
theorem gX6_lengthAt_8 : zget (zMt mX6_lengthAt) 8 = some (.ireturn, 1) := rfl
theorem gX6_pinnedAt_0 : zget (zMt mX6_pinnedAt) 0 = some (.aload_n 0, 1) := rfl
theorem gX6_pinnedAt_1 : zget (zMt mX6_pinnedAt) 1 = some (.getfield 22, 3) := rfl
theorem gX6_pinnedAt_4 : zget (zMt mX6_pinnedAt) 4 = some (.iload_n 1, 1) := rfl
theorem gX6_pinnedAt_5 : zget (zMt mX6_pinnedAt) 5 = some (.invokestatic 34, 3) := rfl
theorem gX6_pinnedAt_8 : zget (zMt mX6_pinnedAt) 8 = some (.ireturn, 1) := rfl
theorem gX6_setPinned_0 : zget (zMt mX6_setPinned) 0 = some (.aload_n 0, 1) := rfl
theorem gX6_setPinned_1 : zget (zMt mX6_setPinned) 1 = some (.getfield 22, 3) := rfl
theorem gX6_setPinned_4 : zget (zMt mX6_setPinned) 4 = some (.iload_n 1, 1) := rfl
theorem gX6_setPinned_5 : zget (zMt mX6_setPinned) 5 = some (.iload_n 2, 1) := rfl
theorem gX6_setPinned_6 : zget (zMt mX6_setPinned) 6 = some (.invokestatic 38, 3) := rfl
theorem gX6_setPinned_9 : zget (zMt mX6_setPinned) 9 = some (.return_, 1) := rfl
theorem gX6_widthAt_0 : zget (zMt mX6_widthAt) 0 = some (.aload_n 0, 1) := rfl
theorem gX6_widthAt_1 : zget (zMt mX6_widthAt) 1 = some (.iload_n 1, 1) := rfl
theorem gX6_widthAt_2 : zget (zMt mX6_widthAt) 2 = some (.invokevirtual 42, 3) := rfl
theorem gX6_widthAt_5 : zget (zMt mX6_widthAt) 5 = some (.bipush 110, 2) := rfl
theorem gX6_widthAt_7 : zget (zMt mX6_widthAt) 7 = some (.if_icmp .ne 9, 3) := rfl
theorem gX6_widthAt_10 : zget (zMt mX6_widthAt) 10 = some (.aload_n 0, 1) := rfl
theorem gX6_widthAt_11 : zget (zMt mX6_widthAt) 11 = some (.iload_n 1, 1) := rfl
theorem gX6_widthAt_12 : zget (zMt mX6_widthAt) 12 = some (.invokevirtual 46, 3) := rfl
theorem gX6_widthAt_15 : zget (zMt mX6_widthAt) 15 = some (.ireturn, 1) := rfl
theorem gX6_widthAt_16 : zget (zMt mX6_widthAt) 16 = some (.aload_n 0, 1) := rfl
theorem gX6_widthAt_17 : zget (zMt mX6_widthAt) 17 = some (.iload_n 1, 1) := rfl
theorem gX6_widthAt_18 : zget (zMt mX6_widthAt) 18 = some (.invokevirtual 42, 3) := rfl
theorem gX6_widthAt_21 : zget (zMt mX6_widthAt) 21 = some (.bipush 99, 2) := rfl
theorem gX6_widthAt_23 : zget (zMt mX6_widthAt) 23 = some (.if_icmp .ne 13, 3) := rfl
theorem gX6_widthAt_26 : zget (zMt mX6_widthAt) 26 = some (.aload_n 0, 1) := rfl
theorem gX6_widthAt_27 : zget (zMt mX6_widthAt) 27 = some (.iload_n 1, 1) := rfl
theorem gX6_widthAt_28 : zget (zMt mX6_widthAt) 28 = some (.invokevirtual 46, 3) := rfl
theorem gX6_widthAt_31 : zget (zMt mX6_widthAt) 31 = some (.iconst 4, 1) := rfl
theorem gX6_widthAt_32 : zget (zMt mX6_widthAt) 32 = some (.iadd, 1) := rfl
theorem gX6_widthAt_33 : zget (zMt mX6_widthAt) 33 = some (.goto 4, 3) := rfl
theorem gX6_widthAt_36 : zget (zMt mX6_widthAt) 36 = some (.iconst 1, 1) := rfl
theorem gX6_widthAt_37 : zget (zMt mX6_widthAt) 37 = some (.ireturn, 1) := rfl
theorem gX6_openAhead_0 : zget (zMt mX6_openAhead) 0 = some (.iconst 0, 1) := rfl
theorem gX6_openAhead_1 : zget (zMt mX6_openAhead) 1 = some (.istore_n 2, 1) := rfl
theorem gX6_openAhead_2 : zget (zMt mX6_openAhead) 2 = some (.iconst 0, 1) := rfl
theorem gX6_openAhead_3 : zget (zMt mX6_openAhead) 3 = some (.istore_n 3, 1) := rfl
theorem gX6_openAhead_4 : zget (zMt mX6_openAhead) 4 = some (.iload_n 3, 1) := rfl
theorem gX6_openAhead_5 : zget (zMt mX6_openAhead) 5 = some (.iload_n 1, 1) := rfl
theorem gX6_openAhead_6 : zget (zMt mX6_openAhead) 6 = some (.if_icmp .ge 46, 3) := rfl
theorem gX6_openAhead_9 : zget (zMt mX6_openAhead) 9 = some (.iload_n 3, 1) := rfl
theorem gX6_openAhead_10 : zget (zMt mX6_openAhead) 10 = some (.aload_n 0, 1) := rfl
theorem gX6_openAhead_11 : zget (zMt mX6_openAhead) 11 = some (.getfield 26, 3) := rfl
theorem gX6_openAhead_14 : zget (zMt mX6_openAhead) 14 = some (.if_icmp .ge 38, 3) := rfl
theorem gX6_openAhead_17 : zget (zMt mX6_openAhead) 17 = some (.aload_n 0, 1) := rfl
theorem gX6_openAhead_18 : zget (zMt mX6_openAhead) 18 = some (.iload_n 3, 1) := rfl
theorem gX6_openAhead_19 : zget (zMt mX6_openAhead) 19 = some (.invokevirtual 42, 3) := rfl
theorem gX6_openAhead_22 : zget (zMt mX6_openAhead) 22 = some (.bipush 123, 2) := rfl
theorem gX6_openAhead_24 : zget (zMt mX6_openAhead) 24 = some (.if_icmp .ne 9, 3) := rfl
theorem gX6_openAhead_27 : zget (zMt mX6_openAhead) 27 = some (.iinc 2 1, 3) := rfl
theorem gX6_openAhead_30 : zget (zMt mX6_openAhead) 30 = some (.goto 16, 3) := rfl
theorem gX6_openAhead_33 : zget (zMt mX6_openAhead) 33 = some (.aload_n 0, 1) := rfl
theorem gX6_openAhead_34 : zget (zMt mX6_openAhead) 34 = some (.iload_n 3, 1) := rfl
theorem gX6_openAhead_35 : zget (zMt mX6_openAhead) 35 = some (.invokevirtual 42, 3) := rfl
theorem gX6_openAhead_38 : zget (zMt mX6_openAhead) 38 = some (.bipush 125, 2) := rfl
theorem gX6_openAhead_40 : zget (zMt mX6_openAhead) 40 = some (.if_icmp .ne 6, 3) := rfl
theorem gX6_openAhead_43 : zget (zMt mX6_openAhead) 43 = some (.iinc 2 (-1), 3) := rfl
theorem gX6_openAhead_46 : zget (zMt mX6_openAhead) 46 = some (.iinc 3 1, 3) := rfl
theorem gX6_openAhead_49 : zget (zMt mX6_openAhead) 49 = some (.goto (-45), 3) := rfl
theorem gX6_openAhead_52 : zget (zMt mX6_openAhead) 52 = some (.iload_n 2, 1) := rfl
theorem gX6_openAhead_53 : zget (zMt mX6_openAhead) 53 = some (.ireturn, 1) := rfl
theorem gX6_depthAt_0 : zget (zMt mX6_depthAt) 0 = some (.aload_n 0, 1) := rfl
theorem gX6_depthAt_1 : zget (zMt mX6_depthAt) 1 = some (.iload_n 1, 1) := rfl
theorem gX6_depthAt_2 : zget (zMt mX6_depthAt) 2 = some (.invokevirtual 42, 3) := rfl
theorem gX6_depthAt_5 : zget (zMt mX6_depthAt) 5 = some (.bipush 125, 2) := rfl
theorem gX6_depthAt_7 : zget (zMt mX6_depthAt) 7 = some (.if_icmp .ne 13, 3) := rfl
theorem gX6_depthAt_10 : zget (zMt mX6_depthAt) 10 = some (.aload_n 0, 1) := rfl
theorem gX6_depthAt_11 : zget (zMt mX6_depthAt) 11 = some (.iload_n 1, 1) := rfl
theorem gX6_depthAt_12 : zget (zMt mX6_depthAt) 12 = some (.invokevirtual 50, 3) := rfl
theorem gX6_depthAt_15 : zget (zMt mX6_depthAt) 15 = some (.iconst 1, 1) := rfl
theorem gX6_depthAt_16 : zget (zMt mX6_depthAt) 16 = some (.isub, 1) := rfl
theorem gX6_depthAt_17 : zget (zMt mX6_depthAt) 17 = some (.goto 8, 3) := rfl
theorem gX6_depthAt_20 : zget (zMt mX6_depthAt) 20 = some (.aload_n 0, 1) := rfl
theorem gX6_depthAt_21 : zget (zMt mX6_depthAt) 21 = some (.iload_n 1, 1) := rfl
theorem gX6_depthAt_22 : zget (zMt mX6_depthAt) 22 = some (.invokevirtual 50, 3) := rfl
theorem gX6_depthAt_25 : zget (zMt mX6_depthAt) 25 = some (.ireturn, 1) := rfl
theorem gX6_isNamed_0 : zget (zMt mX6_isNamed) 0 = some (.aload_n 0, 1) := rfl
theorem gX6_isNamed_1 : zget (zMt mX6_isNamed) 1 = some (.iload_n 1, 1) := rfl
theorem gX6_isNamed_2 : zget (zMt mX6_isNamed) 2 = some (.invokevirtual 42, 3) := rfl
theorem gX6_isNamed_5 : zget (zMt mX6_isNamed) 5 = some (.bipush 110, 2) := rfl
theorem gX6_isNamed_7 : zget (zMt mX6_isNamed) 7 = some (.if_icmp .ne 16, 3) := rfl
theorem gX6_isNamed_10 : zget (zMt mX6_isNamed) 10 = some (.aload_n 0, 1) := rfl
theorem gX6_isNamed_11 : zget (zMt mX6_isNamed) 11 = some (.iload_n 1, 1) := rfl
theorem gX6_isNamed_12 : zget (zMt mX6_isNamed) 12 = some (.invokevirtual 53, 3) := rfl
theorem gX6_isNamed_15 : zget (zMt mX6_isNamed) 15 = some (.iload_n 2, 1) := rfl
theorem gX6_isNamed_16 : zget (zMt mX6_isNamed) 16 = some (.if_icmp .ne 7, 3) := rfl
theorem gX6_isNamed_19 : zget (zMt mX6_isNamed) 19 = some (.iconst 1, 1) := rfl
theorem gX6_isNamed_20 : zget (zMt mX6_isNamed) 20 = some (.goto 4, 3) := rfl
theorem gX6_isNamed_23 : zget (zMt mX6_isNamed) 23 = some (.iconst 0, 1) := rfl
theorem gX6_isNamed_24 : zget (zMt mX6_isNamed) 24 = some (.ireturn, 1) := rfl
theorem gX6_timesOf_0 : zget (zMt mX6_timesOf) 0 = some (.iconst 0, 1) := rfl
theorem gX6_timesOf_1 : zget (zMt mX6_timesOf) 1 = some (.istore_n 2, 1) := rfl
theorem gX6_timesOf_2 : zget (zMt mX6_timesOf) 2 = some (.iconst 0, 1) := rfl
theorem gX6_timesOf_3 : zget (zMt mX6_timesOf) 3 = some (.istore_n 3, 1) := rfl
theorem gX6_timesOf_4 : zget (zMt mX6_timesOf) 4 = some (.iload_n 3, 1) := rfl
theorem gX6_timesOf_5 : zget (zMt mX6_timesOf) 5 = some (.aload_n 0, 1) := rfl
theorem gX6_timesOf_6 : zget (zMt mX6_timesOf) 6 = some (.getfield 26, 3) := rfl
theorem gX6_timesOf_9 : zget (zMt mX6_timesOf) 9 = some (.if_icmp .ge 21, 3) := rfl
theorem gX6_timesOf_12 : zget (zMt mX6_timesOf) 12 = some (.aload_n 0, 1) := rfl
theorem gX6_timesOf_13 : zget (zMt mX6_timesOf) 13 = some (.iload_n 3, 1) := rfl
theorem gX6_timesOf_14 : zget (zMt mX6_timesOf) 14 = some (.iload_n 1, 1) := rfl
theorem gX6_timesOf_15 : zget (zMt mX6_timesOf) 15 = some (.invokevirtual 56, 3) := rfl
theorem gX6_timesOf_18 : zget (zMt mX6_timesOf) 18 = some (.ifCond .eq 6, 3) := rfl
theorem gX6_timesOf_21 : zget (zMt mX6_timesOf) 21 = some (.iinc 2 1, 3) := rfl
theorem gX6_timesOf_24 : zget (zMt mX6_timesOf) 24 = some (.iinc 3 1, 3) := rfl
theorem gX6_timesOf_27 : zget (zMt mX6_timesOf) 27 = some (.goto (-23), 3) := rfl
theorem gX6_timesOf_30 : zget (zMt mX6_timesOf) 30 = some (.iload_n 2, 1) := rfl
theorem gX6_timesOf_31 : zget (zMt mX6_timesOf) 31 = some (.ireturn, 1) := rfl
theorem gX6_hasPinned_0 : zget (zMt mX6_hasPinned) 0 = some (.iconst 0, 1) := rfl
theorem gX6_hasPinned_1 : zget (zMt mX6_hasPinned) 1 = some (.istore_n 2, 1) := rfl
theorem gX6_hasPinned_2 : zget (zMt mX6_hasPinned) 2 = some (.iload_n 2, 1) := rfl
theorem gX6_hasPinned_3 : zget (zMt mX6_hasPinned) 3 = some (.aload_n 0, 1) := rfl
theorem gX6_hasPinned_4 : zget (zMt mX6_hasPinned) 4 = some (.getfield 26, 3) := rfl
theorem gX6_hasPinned_7 : zget (zMt mX6_hasPinned) 7 = some (.if_icmp .ge 28, 3) := rfl
theorem gX6_hasPinned_10 : zget (zMt mX6_hasPinned) 10 = some (.aload_n 0, 1) := rfl
theorem gX6_hasPinned_11 : zget (zMt mX6_hasPinned) 11 = some (.iload_n 2, 1) := rfl
theorem gX6_hasPinned_12 : zget (zMt mX6_hasPinned) 12 = some (.iload_n 1, 1) := rfl
theorem gX6_hasPinned_13 : zget (zMt mX6_hasPinned) 13 = some (.invokevirtual 56, 3) := rfl
theorem gX6_hasPinned_16 : zget (zMt mX6_hasPinned) 16 = some (.ifCond .eq 13, 3) := rfl
theorem gX6_hasPinned_19 : zget (zMt mX6_hasPinned) 19 = some (.aload_n 0, 1) := rfl
theorem gX6_hasPinned_20 : zget (zMt mX6_hasPinned) 20 = some (.iload_n 2, 1) := rfl
theorem gX6_hasPinned_21 : zget (zMt mX6_hasPinned) 21 = some (.invokevirtual 60, 3) := rfl
theorem gX6_hasPinned_24 : zget (zMt mX6_hasPinned) 24 = some (.ifCond .eq 5, 3) := rfl
theorem gX6_hasPinned_27 : zget (zMt mX6_hasPinned) 27 = some (.iconst 1, 1) := rfl
theorem gX6_hasPinned_28 : zget (zMt mX6_hasPinned) 28 = some (.ireturn, 1) := rfl
theorem gX6_hasPinned_29 : zget (zMt mX6_hasPinned) 29 = some (.iinc 2 1, 3) := rfl
theorem gX6_hasPinned_32 : zget (zMt mX6_hasPinned) 32 = some (.goto (-30), 3) := rfl
theorem gX6_hasPinned_35 : zget (zMt mX6_hasPinned) 35 = some (.iconst 0, 1) := rfl
theorem gX6_hasPinned_36 : zget (zMt mX6_hasPinned) 36 = some (.ireturn, 1) := rfl
theorem gX6_allMovable_0 : zget (zMt mX6_allMovable) 0 = some (.iload_n 1, 1) := rfl
theorem gX6_allMovable_1 : zget (zMt mX6_allMovable) 1 = some (.istore_n 3, 1) := rfl
theorem gX6_allMovable_2 : zget (zMt mX6_allMovable) 2 = some (.iload_n 3, 1) := rfl
theorem gX6_allMovable_3 : zget (zMt mX6_allMovable) 3 = some (.iload_n 2, 1) := rfl
theorem gX6_allMovable_4 : zget (zMt mX6_allMovable) 4 = some (.if_icmp .gt 59, 3) := rfl
theorem gX6_allMovable_7 : zget (zMt mX6_allMovable) 7 = some (.iload_n 3, 1) := rfl
theorem gX6_allMovable_8 : zget (zMt mX6_allMovable) 8 = some (.aload_n 0, 1) := rfl
theorem gX6_allMovable_9 : zget (zMt mX6_allMovable) 9 = some (.getfield 26, 3) := rfl
theorem gX6_allMovable_12 : zget (zMt mX6_allMovable) 12 = some (.if_icmp .ge 51, 3) := rfl
theorem gX6_allMovable_15 : zget (zMt mX6_allMovable) 15 = some (.aload_n 0, 1) := rfl
theorem gX6_allMovable_16 : zget (zMt mX6_allMovable) 16 = some (.iload_n 3, 1) := rfl
theorem gX6_allMovable_17 : zget (zMt mX6_allMovable) 17 = some (.invokevirtual 42, 3) := rfl
theorem gX6_allMovable_20 : zget (zMt mX6_allMovable) 20 = some (.bipush 110, 2) := rfl
theorem gX6_allMovable_22 : zget (zMt mX6_allMovable) 22 = some (.if_icmp .eq 13, 3) := rfl
theorem gX6_allMovable_25 : zget (zMt mX6_allMovable) 25 = some (.aload_n 0, 1) := rfl
theorem gX6_allMovable_26 : zget (zMt mX6_allMovable) 26 = some (.iload_n 3, 1) := rfl
theorem gX6_allMovable_27 : zget (zMt mX6_allMovable) 27 = some (.invokevirtual 42, 3) := rfl
theorem gX6_allMovable_30 : zget (zMt mX6_allMovable) 30 = some (.bipush 99, 2) := rfl
theorem gX6_allMovable_32 : zget (zMt mX6_allMovable) 32 = some (.if_icmp .ne 7, 3) := rfl
theorem gX6_allMovable_35 : zget (zMt mX6_allMovable) 35 = some (.iconst 1, 1) := rfl
theorem gX6_allMovable_36 : zget (zMt mX6_allMovable) 36 = some (.goto 4, 3) := rfl
theorem gX6_allMovable_39 : zget (zMt mX6_allMovable) 39 = some (.iconst 0, 1) := rfl
theorem gX6_allMovable_40 : zget (zMt mX6_allMovable) 40 = some (.istore 4, 2) := rfl
theorem gX6_allMovable_42 : zget (zMt mX6_allMovable) 42 = some (.iload 4, 2) := rfl
theorem gX6_allMovable_44 : zget (zMt mX6_allMovable) 44 = some (.ifCond .eq 11, 3) := rfl
theorem gX6_allMovable_47 : zget (zMt mX6_allMovable) 47 = some (.aload_n 0, 1) := rfl
theorem gX6_allMovable_48 : zget (zMt mX6_allMovable) 48 = some (.iload_n 3, 1) := rfl
theorem gX6_allMovable_49 : zget (zMt mX6_allMovable) 49 = some (.invokevirtual 60, 3) := rfl
theorem gX6_allMovable_52 : zget (zMt mX6_allMovable) 52 = some (.ifCond .eq 5, 3) := rfl
theorem gX6_allMovable_55 : zget (zMt mX6_allMovable) 55 = some (.iconst 0, 1) := rfl
theorem gX6_allMovable_56 : zget (zMt mX6_allMovable) 56 = some (.ireturn, 1) := rfl
theorem gX6_allMovable_57 : zget (zMt mX6_allMovable) 57 = some (.iinc 3 1, 3) := rfl
theorem gX6_allMovable_60 : zget (zMt mX6_allMovable) 60 = some (.goto (-58), 3) := rfl
theorem gX6_allMovable_63 : zget (zMt mX6_allMovable) 63 = some (.iconst 1, 1) := rfl
theorem gX6_allMovable_64 : zget (zMt mX6_allMovable) 64 = some (.ireturn, 1) := rfl
theorem gX6_canBreakBehind_0 : zget (zMt mX6_canBreakBehind) 0 = some (.iload_n 1, 1) := rfl
theorem gX6_canBreakBehind_1 : zget (zMt mX6_canBreakBehind) 1 = some (.aload_n 0, 1) := rfl
theorem gX6_canBreakBehind_2 : zget (zMt mX6_canBreakBehind) 2 = some (.getfield 26, 3) := rfl
theorem gX6_canBreakBehind_5 : zget (zMt mX6_canBreakBehind) 5 = some (.iconst 1, 1) := rfl
theorem gX6_canBreakBehind_6 : zget (zMt mX6_canBreakBehind) 6 = some (.isub, 1) := rfl
theorem gX6_canBreakBehind_7 : zget (zMt mX6_canBreakBehind) 7 = some (.if_icmp .ne 7, 3) := rfl
theorem gX6_canBreakBehind_10 : zget (zMt mX6_canBreakBehind) 10 = some (.iconst 1, 1) := rfl
theorem gX6_canBreakBehind_11 : zget (zMt mX6_canBreakBehind) 11 = some (.goto 4, 3) := rfl
theorem gX6_canBreakBehind_14 : zget (zMt mX6_canBreakBehind) 14 = some (.iconst 0, 1) := rfl
theorem gX6_canBreakBehind_15 : zget (zMt mX6_canBreakBehind) 15 = some (.istore_n 2, 1) := rfl
theorem gX6_canBreakBehind_16 : zget (zMt mX6_canBreakBehind) 16 = some (.iload_n 2, 1) := rfl
theorem gX6_canBreakBehind_17 : zget (zMt mX6_canBreakBehind) 17 = some (.ifCond .ne 21, 3) := rfl
theorem gX6_canBreakBehind_20 : zget (zMt mX6_canBreakBehind) 20 = some (.aload_n 0, 1) := rfl
theorem gX6_canBreakBehind_21 : zget (zMt mX6_canBreakBehind) 21 = some (.iload_n 1, 1) := rfl
theorem gX6_canBreakBehind_22 : zget (zMt mX6_canBreakBehind) 22 = some (.invokevirtual 60, 3) := rfl
theorem gX6_canBreakBehind_25 : zget (zMt mX6_canBreakBehind) 25 = some (.ifCond .eq 13, 3) := rfl
theorem gX6_canBreakBehind_28 : zget (zMt mX6_canBreakBehind) 28 = some (.aload_n 0, 1) := rfl
theorem gX6_canBreakBehind_29 : zget (zMt mX6_canBreakBehind) 29 = some (.iload_n 1, 1) := rfl
theorem gX6_canBreakBehind_30 : zget (zMt mX6_canBreakBehind) 30 = some (.iconst 1, 1) := rfl
theorem gX6_canBreakBehind_31 : zget (zMt mX6_canBreakBehind) 31 = some (.iadd, 1) := rfl
theorem gX6_canBreakBehind_32 : zget (zMt mX6_canBreakBehind) 32 = some (.invokevirtual 60, 3) := rfl
theorem gX6_canBreakBehind_35 : zget (zMt mX6_canBreakBehind) 35 = some (.ifCond .ne 7, 3) := rfl
theorem gX6_canBreakBehind_38 : zget (zMt mX6_canBreakBehind) 38 = some (.iconst 1, 1) := rfl
theorem gX6_canBreakBehind_39 : zget (zMt mX6_canBreakBehind) 39 = some (.goto 4, 3) := rfl
theorem gX6_canBreakBehind_42 : zget (zMt mX6_canBreakBehind) 42 = some (.iconst 0, 1) := rfl
theorem gX6_canBreakBehind_43 : zget (zMt mX6_canBreakBehind) 43 = some (.ireturn, 1) := rfl
theorem gX6_add_0 : zget (zMt mX6_add) 0 = some (.aload_n 0, 1) := rfl
theorem gX6_add_1 : zget (zMt mX6_add) 1 = some (.getfield 26, 3) := rfl
theorem gX6_add_4 : zget (zMt mX6_add) 4 = some (.bipush 30, 2) := rfl
theorem gX6_add_6 : zget (zMt mX6_add) 6 = some (.if_icmp .ge 25, 3) := rfl
theorem gX6_add_9 : zget (zMt mX6_add) 9 = some (.aload_n 0, 1) := rfl
theorem gX6_add_10 : zget (zMt mX6_add) 10 = some (.aload_n 0, 1) := rfl
theorem gX6_add_11 : zget (zMt mX6_add) 11 = some (.getfield 26, 3) := rfl
theorem gX6_add_14 : zget (zMt mX6_add) 14 = some (.iload_n 1, 1) := rfl
theorem gX6_add_15 : zget (zMt mX6_add) 15 = some (.iload_n 2, 1) := rfl
theorem gX6_add_16 : zget (zMt mX6_add) 16 = some (.iload_n 3, 1) := rfl
theorem gX6_add_17 : zget (zMt mX6_add) 17 = some (.iconst 0, 1) := rfl
theorem gX6_add_18 : zget (zMt mX6_add) 18 = some (.invokevirtual 64, 3) := rfl
theorem gX6_add_21 : zget (zMt mX6_add) 21 = some (.aload_n 0, 1) := rfl
theorem gX6_add_22 : zget (zMt mX6_add) 22 = some (.dup, 1) := rfl
theorem gX6_add_23 : zget (zMt mX6_add) 23 = some (.getfield 26, 3) := rfl
theorem gX6_add_26 : zget (zMt mX6_add) 26 = some (.iconst 1, 1) := rfl
theorem gX6_add_27 : zget (zMt mX6_add) 27 = some (.iadd, 1) := rfl
theorem gX6_add_28 : zget (zMt mX6_add) 28 = some (.putfield 26, 3) := rfl
theorem gX6_add_31 : zget (zMt mX6_add) 31 = some (.return_, 1) := rfl
theorem gX6_replaceName_0 : zget (zMt mX6_replaceName) 0 = some (.iconst 0, 1) := rfl
theorem gX6_replaceName_1 : zget (zMt mX6_replaceName) 1 = some (.istore_n 3, 1) := rfl
theorem gX6_replaceName_2 : zget (zMt mX6_replaceName) 2 = some (.iload_n 3, 1) := rfl
theorem gX6_replaceName_3 : zget (zMt mX6_replaceName) 3 = some (.aload_n 0, 1) := rfl
theorem gX6_replaceName_4 : zget (zMt mX6_replaceName) 4 = some (.getfield 26, 3) := rfl
theorem gX6_replaceName_7 : zget (zMt mX6_replaceName) 7 = some (.if_icmp .ge 27, 3) := rfl
theorem gX6_replaceName_10 : zget (zMt mX6_replaceName) 10 = some (.aload_n 0, 1) := rfl
theorem gX6_replaceName_11 : zget (zMt mX6_replaceName) 11 = some (.iload_n 3, 1) := rfl
theorem gX6_replaceName_12 : zget (zMt mX6_replaceName) 12 = some (.iload_n 1, 1) := rfl
theorem gX6_replaceName_13 : zget (zMt mX6_replaceName) 13 = some (.invokevirtual 56, 3) := rfl
theorem gX6_replaceName_16 : zget (zMt mX6_replaceName) 16 = some (.ifCond .eq 12, 3) := rfl
theorem gX6_replaceName_19 : zget (zMt mX6_replaceName) 19 = some (.aload_n 0, 1) := rfl
theorem gX6_replaceName_20 : zget (zMt mX6_replaceName) 20 = some (.getfield 15, 3) := rfl
theorem gX6_replaceName_23 : zget (zMt mX6_replaceName) 23 = some (.iload_n 3, 1) := rfl
theorem gX6_replaceName_24 : zget (zMt mX6_replaceName) 24 = some (.iload_n 2, 1) := rfl
theorem gX6_replaceName_25 : zget (zMt mX6_replaceName) 25 = some (.invokestatic 68, 3) := rfl
theorem gX6_replaceName_28 : zget (zMt mX6_replaceName) 28 = some (.iinc 3 1, 3) := rfl
theorem gX6_replaceName_31 : zget (zMt mX6_replaceName) 31 = some (.goto (-29), 3) := rfl
theorem gX6_replaceName_34 : zget (zMt mX6_replaceName) 34 = some (.return_, 1) := rfl
theorem gX6_takeAway_0 : zget (zMt mX6_takeAway) 0 = some (.iload_n 1, 1) := rfl
theorem gX6_takeAway_1 : zget (zMt mX6_takeAway) 1 = some (.ifCond .lt 11, 3) := rfl
theorem gX6_takeAway_4 : zget (zMt mX6_takeAway) 4 = some (.iload_n 1, 1) := rfl
theorem gX6_takeAway_5 : zget (zMt mX6_takeAway) 5 = some (.aload_n 0, 1) := rfl
theorem gX6_takeAway_6 : zget (zMt mX6_takeAway) 6 = some (.getfield 26, 3) := rfl
theorem gX6_takeAway_9 : zget (zMt mX6_takeAway) 9 = some (.if_icmp .lt 4, 3) := rfl
theorem gX6_takeAway_12 : zget (zMt mX6_takeAway) 12 = some (.return_, 1) := rfl
theorem gX6_takeAway_13 : zget (zMt mX6_takeAway) 13 = some (.iload_n 1, 1) := rfl
theorem gX6_takeAway_14 : zget (zMt mX6_takeAway) 14 = some (.istore_n 2, 1) := rfl
theorem gX6_takeAway_15 : zget (zMt mX6_takeAway) 15 = some (.iload_n 2, 1) := rfl
theorem gX6_takeAway_16 : zget (zMt mX6_takeAway) 16 = some (.iconst 1, 1) := rfl
theorem gX6_takeAway_17 : zget (zMt mX6_takeAway) 17 = some (.iadd, 1) := rfl
theorem gX6_takeAway_18 : zget (zMt mX6_takeAway) 18 = some (.aload_n 0, 1) := rfl
theorem gX6_takeAway_19 : zget (zMt mX6_takeAway) 19 = some (.getfield 26, 3) := rfl
theorem gX6_takeAway_22 : zget (zMt mX6_takeAway) 22 = some (.if_icmp .ge 18, 3) := rfl
theorem gX6_takeAway_25 : zget (zMt mX6_takeAway) 25 = some (.aload_n 0, 1) := rfl
theorem gX6_takeAway_26 : zget (zMt mX6_takeAway) 26 = some (.aload_n 0, 1) := rfl
theorem gX6_takeAway_27 : zget (zMt mX6_takeAway) 27 = some (.iload_n 2, 1) := rfl
theorem gX6_takeAway_28 : zget (zMt mX6_takeAway) 28 = some (.iconst 1, 1) := rfl
theorem gX6_takeAway_29 : zget (zMt mX6_takeAway) 29 = some (.iadd, 1) := rfl
theorem gX6_takeAway_30 : zget (zMt mX6_takeAway) 30 = some (.iload_n 2, 1) := rfl
theorem gX6_takeAway_31 : zget (zMt mX6_takeAway) 31 = some (.invokevirtual 72, 3) := rfl
theorem gX6_takeAway_34 : zget (zMt mX6_takeAway) 34 = some (.iinc 2 1, 3) := rfl
theorem gX6_takeAway_37 : zget (zMt mX6_takeAway) 37 = some (.goto (-22), 3) := rfl
theorem gX6_takeAway_40 : zget (zMt mX6_takeAway) 40 = some (.aload_n 0, 1) := rfl
theorem gX6_takeAway_41 : zget (zMt mX6_takeAway) 41 = some (.dup, 1) := rfl
theorem gX6_takeAway_42 : zget (zMt mX6_takeAway) 42 = some (.getfield 26, 3) := rfl
theorem gX6_takeAway_45 : zget (zMt mX6_takeAway) 45 = some (.iconst 1, 1) := rfl
theorem gX6_takeAway_46 : zget (zMt mX6_takeAway) 46 = some (.isub, 1) := rfl
theorem gX6_takeAway_47 : zget (zMt mX6_takeAway) 47 = some (.putfield 26, 3) := rfl
theorem gX6_takeAway_50 : zget (zMt mX6_takeAway) 50 = some (.return_, 1) := rfl
theorem gX6_carry_0 : zget (zMt mX6_carry) 0 = some (.aload_n 0, 1) := rfl
theorem gX6_carry_1 : zget (zMt mX6_carry) 1 = some (.iload_n 1, 1) := rfl
theorem gX6_carry_2 : zget (zMt mX6_carry) 2 = some (.invokevirtual 42, 3) := rfl
theorem gX6_carry_5 : zget (zMt mX6_carry) 5 = some (.istore_n 3, 1) := rfl
theorem gX6_carry_6 : zget (zMt mX6_carry) 6 = some (.aload_n 0, 1) := rfl
theorem gX6_carry_7 : zget (zMt mX6_carry) 7 = some (.iload_n 1, 1) := rfl
theorem gX6_carry_8 : zget (zMt mX6_carry) 8 = some (.invokevirtual 53, 3) := rfl
theorem gX6_carry_11 : zget (zMt mX6_carry) 11 = some (.istore 4, 2) := rfl
theorem gX6_carry_13 : zget (zMt mX6_carry) 13 = some (.aload_n 0, 1) := rfl
theorem gX6_carry_14 : zget (zMt mX6_carry) 14 = some (.iload_n 1, 1) := rfl
theorem gX6_carry_15 : zget (zMt mX6_carry) 15 = some (.invokevirtual 46, 3) := rfl
theorem gX6_carry_18 : zget (zMt mX6_carry) 18 = some (.istore 5, 2) := rfl
theorem gX6_carry_20 : zget (zMt mX6_carry) 20 = some (.aload_n 0, 1) := rfl
theorem gX6_carry_21 : zget (zMt mX6_carry) 21 = some (.iload_n 1, 1) := rfl
theorem gX6_carry_22 : zget (zMt mX6_carry) 22 = some (.invokevirtual 60, 3) := rfl
theorem gX6_carry_25 : zget (zMt mX6_carry) 25 = some (.istore 6, 2) := rfl
theorem gX6_carry_27 : zget (zMt mX6_carry) 27 = some (.iload_n 1, 1) := rfl
theorem gX6_carry_28 : zget (zMt mX6_carry) 28 = some (.istore 7, 2) := rfl
theorem gX6_carry_30 : zget (zMt mX6_carry) 30 = some (.iload 7, 2) := rfl
theorem gX6_carry_32 : zget (zMt mX6_carry) 32 = some (.iload_n 2, 1) := rfl
theorem gX6_carry_33 : zget (zMt mX6_carry) 33 = some (.if_icmp .ge 20, 3) := rfl
theorem gX6_carry_36 : zget (zMt mX6_carry) 36 = some (.aload_n 0, 1) := rfl
theorem gX6_carry_37 : zget (zMt mX6_carry) 37 = some (.aload_n 0, 1) := rfl
theorem gX6_carry_38 : zget (zMt mX6_carry) 38 = some (.iload 7, 2) := rfl
theorem gX6_carry_40 : zget (zMt mX6_carry) 40 = some (.iconst 1, 1) := rfl
theorem gX6_carry_41 : zget (zMt mX6_carry) 41 = some (.iadd, 1) := rfl
theorem gX6_carry_42 : zget (zMt mX6_carry) 42 = some (.iload 7, 2) := rfl
theorem gX6_carry_44 : zget (zMt mX6_carry) 44 = some (.invokevirtual 72, 3) := rfl
theorem gX6_carry_47 : zget (zMt mX6_carry) 47 = some (.iinc 7 1, 3) := rfl
theorem gX6_carry_50 : zget (zMt mX6_carry) 50 = some (.goto (-20), 3) := rfl
theorem gX6_carry_53 : zget (zMt mX6_carry) 53 = some (.iload_n 1, 1) := rfl
theorem gX6_carry_54 : zget (zMt mX6_carry) 54 = some (.istore 7, 2) := rfl
theorem gX6_carry_56 : zget (zMt mX6_carry) 56 = some (.iload 7, 2) := rfl
theorem gX6_carry_58 : zget (zMt mX6_carry) 58 = some (.iload_n 2, 1) := rfl
theorem gX6_carry_59 : zget (zMt mX6_carry) 59 = some (.if_icmp .le 20, 3) := rfl
theorem gX6_carry_62 : zget (zMt mX6_carry) 62 = some (.aload_n 0, 1) := rfl
theorem gX6_carry_63 : zget (zMt mX6_carry) 63 = some (.aload_n 0, 1) := rfl
theorem gX6_carry_64 : zget (zMt mX6_carry) 64 = some (.iload 7, 2) := rfl
theorem gX6_carry_66 : zget (zMt mX6_carry) 66 = some (.iconst 1, 1) := rfl
theorem gX6_carry_67 : zget (zMt mX6_carry) 67 = some (.isub, 1) := rfl
theorem gX6_carry_68 : zget (zMt mX6_carry) 68 = some (.iload 7, 2) := rfl
theorem gX6_carry_70 : zget (zMt mX6_carry) 70 = some (.invokevirtual 72, 3) := rfl
theorem gX6_carry_73 : zget (zMt mX6_carry) 73 = some (.iinc 7 (-1), 3) := rfl
theorem gX6_carry_76 : zget (zMt mX6_carry) 76 = some (.goto (-20), 3) := rfl
theorem gX6_carry_79 : zget (zMt mX6_carry) 79 = some (.aload_n 0, 1) := rfl
theorem gX6_carry_80 : zget (zMt mX6_carry) 80 = some (.iload_n 2, 1) := rfl
theorem gX6_carry_81 : zget (zMt mX6_carry) 81 = some (.iload_n 3, 1) := rfl
theorem gX6_carry_82 : zget (zMt mX6_carry) 82 = some (.iload 4, 2) := rfl
theorem gX6_carry_84 : zget (zMt mX6_carry) 84 = some (.iload 5, 2) := rfl
theorem gX6_carry_86 : zget (zMt mX6_carry) 86 = some (.iload 6, 2) := rfl
theorem gX6_carry_88 : zget (zMt mX6_carry) 88 = some (.invokevirtual 64, 3) := rfl
theorem gX6_carry_91 : zget (zMt mX6_carry) 91 = some (.return_, 1) := rfl
theorem gX6_joinWithNext_0 : zget (zMt mX6_joinWithNext) 0 = some (.aload_n 0, 1) := rfl
theorem gX6_joinWithNext_1 : zget (zMt mX6_joinWithNext) 1 = some (.iload_n 1, 1) := rfl
theorem gX6_joinWithNext_2 : zget (zMt mX6_joinWithNext) 2 = some (.invokevirtual 46, 3) := rfl
theorem gX6_joinWithNext_5 : zget (zMt mX6_joinWithNext) 5 = some (.aload_n 0, 1) := rfl
theorem gX6_joinWithNext_6 : zget (zMt mX6_joinWithNext) 6 = some (.iload_n 1, 1) := rfl
theorem gX6_joinWithNext_7 : zget (zMt mX6_joinWithNext) 7 = some (.iconst 1, 1) := rfl
theorem gX6_joinWithNext_8 : zget (zMt mX6_joinWithNext) 8 = some (.iadd, 1) := rfl
theorem gX6_joinWithNext_9 : zget (zMt mX6_joinWithNext) 9 = some (.invokevirtual 46, 3) := rfl
theorem gX6_joinWithNext_12 : zget (zMt mX6_joinWithNext) 12 = some (.iadd, 1) := rfl
theorem gX6_joinWithNext_13 : zget (zMt mX6_joinWithNext) 13 = some (.istore_n 2, 1) := rfl
theorem gX6_joinWithNext_14 : zget (zMt mX6_joinWithNext) 14 = some (.aload_n 0, 1) := rfl
theorem gX6_joinWithNext_15 : zget (zMt mX6_joinWithNext) 15 = some (.getfield 19, 3) := rfl
theorem gX6_joinWithNext_18 : zget (zMt mX6_joinWithNext) 18 = some (.iload_n 1, 1) := rfl
theorem gX6_joinWithNext_19 : zget (zMt mX6_joinWithNext) 19 = some (.iload_n 2, 1) := rfl
theorem gX6_joinWithNext_20 : zget (zMt mX6_joinWithNext) 20 = some (.bipush 9, 2) := rfl
theorem gX6_joinWithNext_22 : zget (zMt mX6_joinWithNext) 22 = some (.invokestatic 76, 3) := rfl
theorem gX6_joinWithNext_25 : zget (zMt mX6_joinWithNext) 25 = some (.invokestatic 68, 3) := rfl
theorem gX6_joinWithNext_28 : zget (zMt mX6_joinWithNext) 28 = some (.aload_n 0, 1) := rfl
theorem gX6_joinWithNext_29 : zget (zMt mX6_joinWithNext) 29 = some (.iload_n 1, 1) := rfl
theorem gX6_joinWithNext_30 : zget (zMt mX6_joinWithNext) 30 = some (.iconst 1, 1) := rfl
theorem gX6_joinWithNext_31 : zget (zMt mX6_joinWithNext) 31 = some (.iadd, 1) := rfl
theorem gX6_joinWithNext_32 : zget (zMt mX6_joinWithNext) 32 = some (.invokevirtual 82, 3) := rfl
theorem gX6_joinWithNext_35 : zget (zMt mX6_joinWithNext) 35 = some (.return_, 1) := rfl
theorem gX6_copyFrom_0 : zget (zMt mX6_copyFrom) 0 = some (.aload_n 0, 1) := rfl
theorem gX6_copyFrom_1 : zget (zMt mX6_copyFrom) 1 = some (.aload_n 1, 1) := rfl
theorem gX6_copyFrom_2 : zget (zMt mX6_copyFrom) 2 = some (.getfield 26, 3) := rfl
theorem gX6_copyFrom_5 : zget (zMt mX6_copyFrom) 5 = some (.putfield 26, 3) := rfl
theorem gX6_copyFrom_8 : zget (zMt mX6_copyFrom) 8 = some (.iconst 0, 1) := rfl
theorem gX6_copyFrom_9 : zget (zMt mX6_copyFrom) 9 = some (.istore_n 2, 1) := rfl
theorem gX6_copyFrom_10 : zget (zMt mX6_copyFrom) 10 = some (.iload_n 2, 1) := rfl
theorem gX6_copyFrom_11 : zget (zMt mX6_copyFrom) 11 = some (.aload_n 0, 1) := rfl
theorem gX6_copyFrom_12 : zget (zMt mX6_copyFrom) 12 = some (.getfield 26, 3) := rfl
theorem gX6_copyFrom_15 : zget (zMt mX6_copyFrom) 15 = some (.if_icmp .ge 16, 3) := rfl
theorem gX6_copyFrom_18 : zget (zMt mX6_copyFrom) 18 = some (.aload_n 0, 1) := rfl
theorem gX6_copyFrom_19 : zget (zMt mX6_copyFrom) 19 = some (.aload_n 1, 1) := rfl
theorem gX6_copyFrom_20 : zget (zMt mX6_copyFrom) 20 = some (.iload_n 2, 1) := rfl
theorem gX6_copyFrom_21 : zget (zMt mX6_copyFrom) 21 = some (.iload_n 2, 1) := rfl
theorem gX6_copyFrom_22 : zget (zMt mX6_copyFrom) 22 = some (.invokevirtual 72, 3) := rfl
theorem gX6_copyFrom_25 : zget (zMt mX6_copyFrom) 25 = some (.iinc 2 1, 3) := rfl
theorem gX6_copyFrom_28 : zget (zMt mX6_copyFrom) 28 = some (.goto (-18), 3) := rfl
theorem gX6_copyFrom_31 : zget (zMt mX6_copyFrom) 31 = some (.return_, 1) := rfl
theorem gX6_copyEntry_0 : zget (zMt mX6_copyEntry) 0 = some (.aload_n 0, 1) := rfl
theorem gX6_copyEntry_1 : zget (zMt mX6_copyEntry) 1 = some (.iload_n 3, 1) := rfl
theorem gX6_copyEntry_2 : zget (zMt mX6_copyEntry) 2 = some (.aload_n 1, 1) := rfl
theorem gX6_copyEntry_3 : zget (zMt mX6_copyEntry) 3 = some (.iload_n 2, 1) := rfl
theorem gX6_copyEntry_4 : zget (zMt mX6_copyEntry) 4 = some (.invokevirtual 42, 3) := rfl
theorem gX6_copyEntry_7 : zget (zMt mX6_copyEntry) 7 = some (.aload_n 1, 1) := rfl
theorem gX6_copyEntry_8 : zget (zMt mX6_copyEntry) 8 = some (.iload_n 2, 1) := rfl
theorem gX6_copyEntry_9 : zget (zMt mX6_copyEntry) 9 = some (.invokevirtual 53, 3) := rfl
theorem gX6_copyEntry_12 : zget (zMt mX6_copyEntry) 12 = some (.aload_n 1, 1) := rfl
theorem gX6_copyEntry_13 : zget (zMt mX6_copyEntry) 13 = some (.iload_n 2, 1) := rfl
theorem gX6_copyEntry_14 : zget (zMt mX6_copyEntry) 14 = some (.invokevirtual 46, 3) := rfl
theorem gX6_copyEntry_17 : zget (zMt mX6_copyEntry) 17 = some (.aload_n 1, 1) := rfl
theorem gX6_copyEntry_18 : zget (zMt mX6_copyEntry) 18 = some (.iload_n 2, 1) := rfl
theorem gX6_copyEntry_19 : zget (zMt mX6_copyEntry) 19 = some (.invokevirtual 60, 3) := rfl
theorem gX6_copyEntry_22 : zget (zMt mX6_copyEntry) 22 = some (.invokevirtual 64, 3) := rfl
theorem gX6_copyEntry_25 : zget (zMt mX6_copyEntry) 25 = some (.return_, 1) := rfl
theorem gX6_put_0 : zget (zMt mX6_put) 0 = some (.iload_n 1, 1) := rfl
theorem gX6_put_1 : zget (zMt mX6_put) 1 = some (.ifCond .lt 19, 3) := rfl
theorem gX6_put_4 : zget (zMt mX6_put) 4 = some (.iload_n 1, 1) := rfl
theorem gX6_put_5 : zget (zMt mX6_put) 5 = some (.aload_n 0, 1) := rfl
theorem gX6_put_6 : zget (zMt mX6_put) 6 = some (.getfield 9, 3) := rfl
theorem gX6_put_9 : zget (zMt mX6_put) 9 = some (.arraylength, 1) := rfl
theorem gX6_put_10 : zget (zMt mX6_put) 10 = some (.if_icmp .ge 10, 3) := rfl
theorem gX6_put_13 : zget (zMt mX6_put) 13 = some (.aload_n 0, 1) := rfl
theorem gX6_put_14 : zget (zMt mX6_put) 14 = some (.getfield 9, 3) := rfl
theorem gX6_put_17 : zget (zMt mX6_put) 17 = some (.iload_n 1, 1) := rfl
theorem gX6_put_18 : zget (zMt mX6_put) 18 = some (.iload_n 2, 1) := rfl
theorem gX6_put_19 : zget (zMt mX6_put) 19 = some (.castore, 1) := rfl
theorem gX6_put_20 : zget (zMt mX6_put) 20 = some (.aload_n 0, 1) := rfl
theorem gX6_put_21 : zget (zMt mX6_put) 21 = some (.getfield 15, 3) := rfl
theorem gX6_put_24 : zget (zMt mX6_put) 24 = some (.iload_n 1, 1) := rfl
theorem gX6_put_25 : zget (zMt mX6_put) 25 = some (.iload_n 3, 1) := rfl
theorem gX6_put_26 : zget (zMt mX6_put) 26 = some (.invokestatic 68, 3) := rfl
theorem gX6_put_29 : zget (zMt mX6_put) 29 = some (.aload_n 0, 1) := rfl
theorem gX6_put_30 : zget (zMt mX6_put) 30 = some (.getfield 19, 3) := rfl
theorem gX6_put_33 : zget (zMt mX6_put) 33 = some (.iload_n 1, 1) := rfl
theorem gX6_put_34 : zget (zMt mX6_put) 34 = some (.iload 4, 2) := rfl
theorem gX6_put_36 : zget (zMt mX6_put) 36 = some (.invokestatic 68, 3) := rfl
theorem gX6_put_39 : zget (zMt mX6_put) 39 = some (.aload_n 0, 1) := rfl
theorem gX6_put_40 : zget (zMt mX6_put) 40 = some (.getfield 22, 3) := rfl
theorem gX6_put_43 : zget (zMt mX6_put) 43 = some (.iload_n 1, 1) := rfl
theorem gX6_put_44 : zget (zMt mX6_put) 44 = some (.iload 5, 2) := rfl
theorem gX6_put_46 : zget (zMt mX6_put) 46 = some (.invokestatic 38, 3) := rfl
theorem gX6_put_49 : zget (zMt mX6_put) 49 = some (.return_, 1) := rfl
theorem gX7_addName_0 : zget (zMt mX7_addName) 0 = some (.iload_n 1, 1) := rfl
theorem gX7_addName_1 : zget (zMt mX7_addName) 1 = some (.invokestatic 62, 3) := rfl
theorem gX7_addName_4 : zget (zMt mX7_addName) 4 = some (.iload_n 2, 1) := rfl
theorem gX7_addName_5 : zget (zMt mX7_addName) 5 = some (.invokestatic 66, 3) := rfl
theorem gX7_addName_8 : zget (zMt mX7_addName) 8 = some (.aload_n 0, 1) := rfl
theorem gX7_addName_9 : zget (zMt mX7_addName) 9 = some (.bipush 110, 2) := rfl
theorem gX7_addName_11 : zget (zMt mX7_addName) 11 = some (.iload_n 1, 1) := rfl
theorem gX7_addName_12 : zget (zMt mX7_addName) 12 = some (.iload_n 2, 1) := rfl
theorem gX7_addName_13 : zget (zMt mX7_addName) 13 = some (.invokevirtual 69, 3) := rfl
theorem gX7_addName_16 : zget (zMt mX7_addName) 16 = some (.ireturn, 1) := rfl
theorem gX7_addComment_0 : zget (zMt mX7_addComment) 0 = some (.iload_n 1, 1) := rfl
theorem gX7_addComment_1 : zget (zMt mX7_addComment) 1 = some (.invokestatic 66, 3) := rfl
theorem gX7_addComment_4 : zget (zMt mX7_addComment) 4 = some (.aload_n 0, 1) := rfl
theorem gX7_addComment_5 : zget (zMt mX7_addComment) 5 = some (.bipush 99, 2) := rfl
theorem gX7_addComment_7 : zget (zMt mX7_addComment) 7 = some (.iconst 0, 1) := rfl
theorem gX7_addComment_8 : zget (zMt mX7_addComment) 8 = some (.iload_n 1, 1) := rfl
theorem gX7_addComment_9 : zget (zMt mX7_addComment) 9 = some (.invokevirtual 69, 3) := rfl
theorem gX7_addComment_12 : zget (zMt mX7_addComment) 12 = some (.ireturn, 1) := rfl
theorem gX7_begin_0 : zget (zMt mX7_begin) 0 = some (.aload_n 0, 1) := rfl
theorem gX7_begin_1 : zget (zMt mX7_begin) 1 = some (.getfield 10, 3) := rfl
theorem gX7_begin_4 : zget (zMt mX7_begin) 4 = some (.aload_n 0, 1) := rfl
theorem gX7_begin_5 : zget (zMt mX7_begin) 5 = some (.bipush 123, 2) := rfl
theorem gX7_begin_7 : zget (zMt mX7_begin) 7 = some (.iconst 0, 1) := rfl
theorem gX7_begin_8 : zget (zMt mX7_begin) 8 = some (.iconst 1, 1) := rfl
theorem gX7_begin_9 : zget (zMt mX7_begin) 9 = some (.invokevirtual 69, 3) := rfl
theorem gX7_begin_12 : zget (zMt mX7_begin) 12 = some (.invokevirtual 73, 3) := rfl
theorem gX7_begin_15 : zget (zMt mX7_begin) 15 = some (.ireturn, 1) := rfl
theorem gX7_end_0 : zget (zMt mX7_end) 0 = some (.aload_n 0, 1) := rfl
theorem gX7_end_1 : zget (zMt mX7_end) 1 = some (.getfield 10, 3) := rfl
theorem gX7_end_4 : zget (zMt mX7_end) 4 = some (.aload_n 0, 1) := rfl
theorem gX7_end_5 : zget (zMt mX7_end) 5 = some (.getfield 10, 3) := rfl
theorem gX7_end_8 : zget (zMt mX7_end) 8 = some (.invokevirtual 77, 3) := rfl
theorem gX7_end_11 : zget (zMt mX7_end) 11 = some (.invokevirtual 81, 3) := rfl
theorem gX7_end_14 : zget (zMt mX7_end) 14 = some (.ifCond .gt 13, 3) := rfl
theorem gX7_end_17 : zget (zMt mX7_end) 17 = some (.new 84, 3) := rfl
theorem gX7_end_20 : zget (zMt mX7_end) 20 = some (.dup, 1) := rfl
theorem gX7_end_21 : zget (zMt mX7_end) 21 = some (.ldc 86, 2) := rfl
theorem gX7_end_23 : zget (zMt mX7_end) 23 = some (.invokespecial 88, 3) := rfl
theorem gX7_end_26 : zget (zMt mX7_end) 26 = some (.athrow, 1) := rfl
theorem gX7_end_27 : zget (zMt mX7_end) 27 = some (.aload_n 0, 1) := rfl
theorem gX7_end_28 : zget (zMt mX7_end) 28 = some (.getfield 10, 3) := rfl
theorem gX7_end_31 : zget (zMt mX7_end) 31 = some (.aload_n 0, 1) := rfl
theorem gX7_end_32 : zget (zMt mX7_end) 32 = some (.bipush 125, 2) := rfl
theorem gX7_end_34 : zget (zMt mX7_end) 34 = some (.iconst 0, 1) := rfl
theorem gX7_end_35 : zget (zMt mX7_end) 35 = some (.iconst 1, 1) := rfl
theorem gX7_end_36 : zget (zMt mX7_end) 36 = some (.invokevirtual 69, 3) := rfl
theorem gX7_end_39 : zget (zMt mX7_end) 39 = some (.invokevirtual 73, 3) := rfl
theorem gX7_end_42 : zget (zMt mX7_end) 42 = some (.ireturn, 1) := rfl
theorem gX7_entries_0 : zget (zMt mX7_entries) 0 = some (.aload_n 0, 1) := rfl
theorem gX7_entries_1 : zget (zMt mX7_entries) 1 = some (.getfield 10, 3) := rfl
theorem gX7_entries_4 : zget (zMt mX7_entries) 4 = some (.invokevirtual 77, 3) := rfl
theorem gX7_entries_7 : zget (zMt mX7_entries) 7 = some (.ireturn, 1) := rfl
theorem gX7_kindOf_0 : zget (zMt mX7_kindOf) 0 = some (.aload_n 0, 1) := rfl
theorem gX7_kindOf_1 : zget (zMt mX7_kindOf) 1 = some (.iload_n 1, 1) := rfl
theorem gX7_kindOf_2 : zget (zMt mX7_kindOf) 2 = some (.invokevirtual 91, 3) := rfl
theorem gX7_kindOf_5 : zget (zMt mX7_kindOf) 5 = some (.aload_n 0, 1) := rfl
theorem gX7_kindOf_6 : zget (zMt mX7_kindOf) 6 = some (.getfield 10, 3) := rfl
theorem gX7_kindOf_9 : zget (zMt mX7_kindOf) 9 = some (.iload_n 1, 1) := rfl
theorem gX7_kindOf_10 : zget (zMt mX7_kindOf) 10 = some (.invokevirtual 94, 3) := rfl
theorem gX7_kindOf_13 : zget (zMt mX7_kindOf) 13 = some (.ireturn, 1) := rfl
theorem gX7_nameOf_0 : zget (zMt mX7_nameOf) 0 = some (.aload_n 0, 1) := rfl
theorem gX7_nameOf_1 : zget (zMt mX7_nameOf) 1 = some (.iload_n 1, 1) := rfl
theorem gX7_nameOf_2 : zget (zMt mX7_nameOf) 2 = some (.invokevirtual 91, 3) := rfl
theorem gX7_nameOf_5 : zget (zMt mX7_nameOf) 5 = some (.aload_n 0, 1) := rfl
theorem gX7_nameOf_6 : zget (zMt mX7_nameOf) 6 = some (.getfield 10, 3) := rfl
theorem gX7_nameOf_9 : zget (zMt mX7_nameOf) 9 = some (.iload_n 1, 1) := rfl
theorem gX7_nameOf_10 : zget (zMt mX7_nameOf) 10 = some (.invokevirtual 94, 3) := rfl
theorem gX7_nameOf_13 : zget (zMt mX7_nameOf) 13 = some (.bipush 110, 2) := rfl
theorem gX7_nameOf_15 : zget (zMt mX7_nameOf) 15 = some (.if_icmp .eq 13, 3) := rfl
theorem gX7_nameOf_18 : zget (zMt mX7_nameOf) 18 = some (.new 84, 3) := rfl
theorem gX7_nameOf_21 : zget (zMt mX7_nameOf) 21 = some (.dup, 1) := rfl
theorem gX7_nameOf_22 : zget (zMt mX7_nameOf) 22 = some (.ldc 98, 2) := rfl
theorem gX7_nameOf_24 : zget (zMt mX7_nameOf) 24 = some (.invokespecial 88, 3) := rfl
theorem gX7_nameOf_27 : zget (zMt mX7_nameOf) 27 = some (.athrow, 1) := rfl
theorem gX7_nameOf_28 : zget (zMt mX7_nameOf) 28 = some (.aload_n 0, 1) := rfl
theorem gX7_nameOf_29 : zget (zMt mX7_nameOf) 29 = some (.getfield 10, 3) := rfl
theorem gX7_nameOf_32 : zget (zMt mX7_nameOf) 32 = some (.iload_n 1, 1) := rfl
theorem gX7_nameOf_33 : zget (zMt mX7_nameOf) 33 = some (.invokevirtual 100, 3) := rfl
theorem gX7_nameOf_36 : zget (zMt mX7_nameOf) 36 = some (.ireturn, 1) := rfl
theorem gX7_widthOf_0 : zget (zMt mX7_widthOf) 0 = some (.aload_n 0, 1) := rfl
theorem gX7_widthOf_1 : zget (zMt mX7_widthOf) 1 = some (.iload_n 1, 1) := rfl
theorem gX7_widthOf_2 : zget (zMt mX7_widthOf) 2 = some (.invokevirtual 91, 3) := rfl
theorem gX7_widthOf_5 : zget (zMt mX7_widthOf) 5 = some (.aload_n 0, 1) := rfl
theorem gX7_widthOf_6 : zget (zMt mX7_widthOf) 6 = some (.getfield 10, 3) := rfl
theorem gX7_widthOf_9 : zget (zMt mX7_widthOf) 9 = some (.iload_n 1, 1) := rfl
theorem gX7_widthOf_10 : zget (zMt mX7_widthOf) 10 = some (.invokevirtual 103, 3) := rfl
theorem gX7_widthOf_13 : zget (zMt mX7_widthOf) 13 = some (.ireturn, 1) := rfl
theorem gX7_depthOf_0 : zget (zMt mX7_depthOf) 0 = some (.aload_n 0, 1) := rfl
theorem gX7_depthOf_1 : zget (zMt mX7_depthOf) 1 = some (.iload_n 1, 1) := rfl
theorem gX7_depthOf_2 : zget (zMt mX7_depthOf) 2 = some (.invokevirtual 91, 3) := rfl
theorem gX7_depthOf_5 : zget (zMt mX7_depthOf) 5 = some (.aload_n 0, 1) := rfl
theorem gX7_depthOf_6 : zget (zMt mX7_depthOf) 6 = some (.getfield 10, 3) := rfl
theorem gX7_depthOf_9 : zget (zMt mX7_depthOf) 9 = some (.iload_n 1, 1) := rfl
theorem gX7_depthOf_10 : zget (zMt mX7_depthOf) 10 = some (.invokevirtual 73, 3) := rfl
theorem gX7_depthOf_13 : zget (zMt mX7_depthOf) 13 = some (.ireturn, 1) := rfl
theorem gX7_occurrences_0 : zget (zMt mX7_occurrences) 0 = some (.iload_n 1, 1) := rfl
theorem gX7_occurrences_1 : zget (zMt mX7_occurrences) 1 = some (.invokestatic 62, 3) := rfl
theorem gX7_occurrences_4 : zget (zMt mX7_occurrences) 4 = some (.aload_n 0, 1) := rfl
theorem gX7_occurrences_5 : zget (zMt mX7_occurrences) 5 = some (.getfield 10, 3) := rfl
theorem gX7_occurrences_8 : zget (zMt mX7_occurrences) 8 = some (.iload_n 1, 1) := rfl
theorem gX7_occurrences_9 : zget (zMt mX7_occurrences) 9 = some (.invokevirtual 106, 3) := rfl
theorem gX7_occurrences_12 : zget (zMt mX7_occurrences) 12 = some (.ireturn, 1) := rfl
theorem gX7_commonest_0 : zget (zMt mX7_commonest) 0 = some (.iconst 0, 1) := rfl
theorem gX7_commonest_1 : zget (zMt mX7_commonest) 1 = some (.istore_n 1, 1) := rfl
theorem gX7_commonest_2 : zget (zMt mX7_commonest) 2 = some (.iconst 0, 1) := rfl
theorem gX7_commonest_3 : zget (zMt mX7_commonest) 3 = some (.istore_n 2, 1) := rfl
theorem gX7_commonest_4 : zget (zMt mX7_commonest) 4 = some (.iconst 0, 1) := rfl
theorem gX7_commonest_5 : zget (zMt mX7_commonest) 5 = some (.istore_n 3, 1) := rfl
theorem gX7_commonest_6 : zget (zMt mX7_commonest) 6 = some (.iload_n 3, 1) := rfl
theorem gX7_commonest_7 : zget (zMt mX7_commonest) 7 = some (.bipush 100, 2) := rfl
theorem gX7_commonest_9 : zget (zMt mX7_commonest) 9 = some (.if_icmp .ge 30, 3) := rfl
theorem gX7_commonest_12 : zget (zMt mX7_commonest) 12 = some (.aload_n 0, 1) := rfl
theorem gX7_commonest_13 : zget (zMt mX7_commonest) 13 = some (.getfield 10, 3) := rfl
theorem gX7_commonest_16 : zget (zMt mX7_commonest) 16 = some (.iload_n 3, 1) := rfl
theorem gX7_commonest_17 : zget (zMt mX7_commonest) 17 = some (.invokevirtual 106, 3) := rfl
theorem gX7_commonest_20 : zget (zMt mX7_commonest) 20 = some (.istore 4, 2) := rfl
theorem gX7_commonest_22 : zget (zMt mX7_commonest) 22 = some (.iload 4, 2) := rfl
theorem gX7_commonest_24 : zget (zMt mX7_commonest) 24 = some (.iload_n 1, 1) := rfl
theorem gX7_commonest_25 : zget (zMt mX7_commonest) 25 = some (.if_icmp .le 8, 3) := rfl
theorem gX7_commonest_28 : zget (zMt mX7_commonest) 28 = some (.iload 4, 2) := rfl
theorem gX7_commonest_30 : zget (zMt mX7_commonest) 30 = some (.istore_n 1, 1) := rfl
theorem gX7_commonest_31 : zget (zMt mX7_commonest) 31 = some (.iload_n 3, 1) := rfl
theorem gX7_commonest_32 : zget (zMt mX7_commonest) 32 = some (.istore_n 2, 1) := rfl
theorem gX7_commonest_33 : zget (zMt mX7_commonest) 33 = some (.iinc 3 1, 3) := rfl
theorem gX7_commonest_36 : zget (zMt mX7_commonest) 36 = some (.goto (-30), 3) := rfl
theorem gX7_commonest_39 : zget (zMt mX7_commonest) 39 = some (.iload_n 1, 1) := rfl
theorem gX7_commonest_40 : zget (zMt mX7_commonest) 40 = some (.ifCond .ne 13, 3) := rfl
theorem gX7_commonest_43 : zget (zMt mX7_commonest) 43 = some (.new 109, 3) := rfl
theorem gX7_commonest_46 : zget (zMt mX7_commonest) 46 = some (.dup, 1) := rfl
theorem gX7_commonest_47 : zget (zMt mX7_commonest) 47 = some (.ldc 111, 2) := rfl
theorem gX7_commonest_49 : zget (zMt mX7_commonest) 49 = some (.invokespecial 113, 3) := rfl
theorem gX7_commonest_52 : zget (zMt mX7_commonest) 52 = some (.athrow, 1) := rfl
theorem gX7_commonest_53 : zget (zMt mX7_commonest) 53 = some (.iload_n 2, 1) := rfl
theorem gX7_commonest_54 : zget (zMt mX7_commonest) 54 = some (.ireturn, 1) := rfl
theorem gX7_pin_0 : zget (zMt mX7_pin) 0 = some (.aload_n 0, 1) := rfl
theorem gX7_pin_1 : zget (zMt mX7_pin) 1 = some (.iload_n 1, 1) := rfl
theorem gX7_pin_2 : zget (zMt mX7_pin) 2 = some (.invokevirtual 91, 3) := rfl
theorem gX7_pin_5 : zget (zMt mX7_pin) 5 = some (.aload_n 0, 1) := rfl
theorem gX7_pin_6 : zget (zMt mX7_pin) 6 = some (.iload_n 2, 1) := rfl
theorem gX7_pin_7 : zget (zMt mX7_pin) 7 = some (.invokevirtual 91, 3) := rfl
theorem gX7_pin_10 : zget (zMt mX7_pin) 10 = some (.iload_n 2, 1) := rfl
theorem gX7_pin_11 : zget (zMt mX7_pin) 11 = some (.iload_n 1, 1) := rfl
theorem gX7_pin_12 : zget (zMt mX7_pin) 12 = some (.if_icmp .ge 13, 3) := rfl
theorem gX7_pin_15 : zget (zMt mX7_pin) 15 = some (.new 114, 3) := rfl
theorem gX7_pin_18 : zget (zMt mX7_pin) 18 = some (.dup, 1) := rfl
theorem gX7_pin_19 : zget (zMt mX7_pin) 19 = some (.ldc 116, 2) := rfl
theorem gX7_pin_21 : zget (zMt mX7_pin) 21 = some (.invokespecial 118, 3) := rfl
theorem gX7_pin_24 : zget (zMt mX7_pin) 24 = some (.athrow, 1) := rfl
theorem gX7_pin_25 : zget (zMt mX7_pin) 25 = some (.iconst 0, 1) := rfl
theorem gX7_pin_26 : zget (zMt mX7_pin) 26 = some (.istore 4, 2) := rfl
theorem gX7_pin_28 : zget (zMt mX7_pin) 28 = some (.iload_n 1, 1) := rfl
theorem gX7_pin_29 : zget (zMt mX7_pin) 29 = some (.istore 5, 2) := rfl
theorem gX7_pin_31 : zget (zMt mX7_pin) 31 = some (.iload 5, 2) := rfl
theorem gX7_pin_33 : zget (zMt mX7_pin) 33 = some (.iload_n 2, 1) := rfl
theorem gX7_pin_34 : zget (zMt mX7_pin) 34 = some (.if_icmp .gt 35, 3) := rfl
theorem gX7_pin_37 : zget (zMt mX7_pin) 37 = some (.aload_n 0, 1) := rfl
theorem gX7_pin_38 : zget (zMt mX7_pin) 38 = some (.getfield 10, 3) := rfl
theorem gX7_pin_41 : zget (zMt mX7_pin) 41 = some (.iload 5, 2) := rfl
theorem gX7_pin_43 : zget (zMt mX7_pin) 43 = some (.invokevirtual 119, 3) := rfl
theorem gX7_pin_46 : zget (zMt mX7_pin) 46 = some (.iload_n 3, 1) := rfl
theorem gX7_pin_47 : zget (zMt mX7_pin) 47 = some (.if_icmp .eq 16, 3) := rfl
theorem gX7_pin_50 : zget (zMt mX7_pin) 50 = some (.aload_n 0, 1) := rfl
theorem gX7_pin_51 : zget (zMt mX7_pin) 51 = some (.getfield 10, 3) := rfl
theorem gX7_pin_54 : zget (zMt mX7_pin) 54 = some (.iload 5, 2) := rfl
theorem gX7_pin_56 : zget (zMt mX7_pin) 56 = some (.iload_n 3, 1) := rfl
theorem gX7_pin_57 : zget (zMt mX7_pin) 57 = some (.invokevirtual 123, 3) := rfl
theorem gX7_pin_60 : zget (zMt mX7_pin) 60 = some (.iinc 4 1, 3) := rfl
theorem gX7_pin_63 : zget (zMt mX7_pin) 63 = some (.iinc 5 1, 3) := rfl
theorem gX7_pin_66 : zget (zMt mX7_pin) 66 = some (.goto (-35), 3) := rfl
theorem gX7_pin_69 : zget (zMt mX7_pin) 69 = some (.aload_n 0, 1) := rfl
theorem gX7_pin_70 : zget (zMt mX7_pin) 70 = some (.iconst 0, 1) := rfl
theorem gX7_pin_71 : zget (zMt mX7_pin) 71 = some (.putfield 58, 3) := rfl
theorem gX7_pin_74 : zget (zMt mX7_pin) 74 = some (.iload 4, 2) := rfl
theorem gX7_pin_76 : zget (zMt mX7_pin) 76 = some (.ireturn, 1) := rfl
theorem gX7_isPinned_0 : zget (zMt mX7_isPinned) 0 = some (.aload_n 0, 1) := rfl
theorem gX7_isPinned_1 : zget (zMt mX7_isPinned) 1 = some (.iload_n 1, 1) := rfl
theorem gX7_isPinned_2 : zget (zMt mX7_isPinned) 2 = some (.invokevirtual 91, 3) := rfl
theorem gX7_isPinned_5 : zget (zMt mX7_isPinned) 5 = some (.aload_n 0, 1) := rfl
theorem gX7_isPinned_6 : zget (zMt mX7_isPinned) 6 = some (.getfield 10, 3) := rfl
theorem gX7_isPinned_9 : zget (zMt mX7_isPinned) 9 = some (.iload_n 1, 1) := rfl
theorem gX7_isPinned_10 : zget (zMt mX7_isPinned) 10 = some (.invokevirtual 119, 3) := rfl
theorem gX7_isPinned_13 : zget (zMt mX7_isPinned) 13 = some (.ireturn, 1) := rfl
theorem gX7_findings_0 : zget (zMt mX7_findings) 0 = some (.aload_n 0, 1) := rfl
theorem gX7_findings_1 : zget (zMt mX7_findings) 1 = some (.getfield 33, 3) := rfl
theorem gX7_findings_4 : zget (zMt mX7_findings) 4 = some (.aload_n 0, 1) := rfl
theorem gX7_findings_5 : zget (zMt mX7_findings) 5 = some (.getfield 10, 3) := rfl
theorem gX7_findings_8 : zget (zMt mX7_findings) 8 = some (.aload_n 0, 1) := rfl
theorem gX7_findings_9 : zget (zMt mX7_findings) 9 = some (.getfield 19, 3) := rfl
theorem gX7_findings_12 : zget (zMt mX7_findings) 12 = some (.invokevirtual 127, 3) := rfl
theorem gX7_findings_15 : zget (zMt mX7_findings) 15 = some (.aload_n 0, 1) := rfl
theorem gX7_findings_16 : zget (zMt mX7_findings) 16 = some (.getfield 33, 3) := rfl
theorem gX7_findings_19 : zget (zMt mX7_findings) 19 = some (.invokevirtual 131, 3) := rfl
theorem gX7_findings_22 : zget (zMt mX7_findings) 22 = some (.ireturn, 1) := rfl
theorem gX7_ruleOf_0 : zget (zMt mX7_ruleOf) 0 = some (.aload_n 0, 1) := rfl
theorem gX7_ruleOf_1 : zget (zMt mX7_ruleOf) 1 = some (.iload_n 1, 1) := rfl
theorem gX7_ruleOf_2 : zget (zMt mX7_ruleOf) 2 = some (.invokevirtual 134, 3) := rfl
theorem gX7_ruleOf_5 : zget (zMt mX7_ruleOf) 5 = some (.aload_n 0, 1) := rfl
theorem gX7_ruleOf_6 : zget (zMt mX7_ruleOf) 6 = some (.getfield 33, 3) := rfl
theorem gX7_ruleOf_9 : zget (zMt mX7_ruleOf) 9 = some (.iload_n 1, 1) := rfl
theorem gX7_ruleOf_10 : zget (zMt mX7_ruleOf) 10 = some (.invokevirtual 137, 3) := rfl
theorem gX7_ruleOf_13 : zget (zMt mX7_ruleOf) 13 = some (.ireturn, 1) := rfl
theorem gX7_firstOf_0 : zget (zMt mX7_firstOf) 0 = some (.aload_n 0, 1) := rfl
theorem gX7_firstOf_1 : zget (zMt mX7_firstOf) 1 = some (.iload_n 1, 1) := rfl
theorem gX7_firstOf_2 : zget (zMt mX7_firstOf) 2 = some (.invokevirtual 134, 3) := rfl
theorem gX7_firstOf_5 : zget (zMt mX7_firstOf) 5 = some (.aload_n 0, 1) := rfl
theorem gX7_firstOf_6 : zget (zMt mX7_firstOf) 6 = some (.getfield 33, 3) := rfl
theorem gX7_firstOf_9 : zget (zMt mX7_firstOf) 9 = some (.iload_n 1, 1) := rfl
theorem gX7_firstOf_10 : zget (zMt mX7_firstOf) 10 = some (.invokevirtual 140, 3) := rfl
theorem gX7_firstOf_13 : zget (zMt mX7_firstOf) 13 = some (.ireturn, 1) := rfl
theorem gX7_lastOf_0 : zget (zMt mX7_lastOf) 0 = some (.aload_n 0, 1) := rfl
theorem gX7_lastOf_1 : zget (zMt mX7_lastOf) 1 = some (.iload_n 1, 1) := rfl
theorem gX7_lastOf_2 : zget (zMt mX7_lastOf) 2 = some (.invokevirtual 134, 3) := rfl
theorem gX7_lastOf_5 : zget (zMt mX7_lastOf) 5 = some (.aload_n 0, 1) := rfl
theorem gX7_lastOf_6 : zget (zMt mX7_lastOf) 6 = some (.getfield 33, 3) := rfl
theorem gX7_lastOf_9 : zget (zMt mX7_lastOf) 9 = some (.iload_n 1, 1) := rfl
theorem gX7_lastOf_10 : zget (zMt mX7_lastOf) 10 = some (.invokevirtual 143, 3) := rfl
theorem gX7_lastOf_13 : zget (zMt mX7_lastOf) 13 = some (.ireturn, 1) := rfl
theorem gX7_canFix_0 : zget (zMt mX7_canFix) 0 = some (.aload_n 0, 1) := rfl
theorem gX7_canFix_1 : zget (zMt mX7_canFix) 1 = some (.iload_n 1, 1) := rfl
theorem gX7_canFix_2 : zget (zMt mX7_canFix) 2 = some (.invokevirtual 134, 3) := rfl
theorem gX7_canFix_5 : zget (zMt mX7_canFix) 5 = some (.aload_n 0, 1) := rfl
theorem gX7_canFix_6 : zget (zMt mX7_canFix) 6 = some (.getfield 33, 3) := rfl
theorem gX7_canFix_9 : zget (zMt mX7_canFix) 9 = some (.iload_n 1, 1) := rfl
theorem gX7_canFix_10 : zget (zMt mX7_canFix) 10 = some (.invokevirtual 146, 3) := rfl
theorem gX7_canFix_13 : zget (zMt mX7_canFix) 13 = some (.ifCond .le 7, 3) := rfl
theorem gX7_canFix_16 : zget (zMt mX7_canFix) 16 = some (.iconst 1, 1) := rfl
theorem gX7_canFix_17 : zget (zMt mX7_canFix) 17 = some (.goto 4, 3) := rfl
theorem gX7_canFix_20 : zget (zMt mX7_canFix) 20 = some (.iconst 0, 1) := rfl
theorem gX7_canFix_21 : zget (zMt mX7_canFix) 21 = some (.ireturn, 1) := rfl
theorem gX7_best_0 : zget (zMt mX7_best) 0 = some (.aload_n 0, 1) := rfl
theorem gX7_best_1 : zget (zMt mX7_best) 1 = some (.invokevirtual 149, 3) := rfl
theorem gX7_best_4 : zget (zMt mX7_best) 4 = some (.aload_n 0, 1) := rfl
theorem gX7_best_5 : zget (zMt mX7_best) 5 = some (.getfield 40, 3) := rfl
theorem gX7_best_8 : zget (zMt mX7_best) 8 = some (.invokevirtual 152, 3) := rfl
theorem gX7_best_11 : zget (zMt mX7_best) 11 = some (.ireturn, 1) := rfl
theorem gX7_bestByTrying_0 : zget (zMt mX7_bestByTrying) 0 = some (.aload_n 0, 1) := rfl
theorem gX7_bestByTrying_1 : zget (zMt mX7_bestByTrying) 1 = some (.getfield 33, 3) := rfl
theorem gX7_bestByTrying_4 : zget (zMt mX7_bestByTrying) 4 = some (.aload_n 0, 1) := rfl
theorem gX7_bestByTrying_5 : zget (zMt mX7_bestByTrying) 5 = some (.getfield 10, 3) := rfl
theorem gX7_bestByTrying_8 : zget (zMt mX7_bestByTrying) 8 = some (.aload_n 0, 1) := rfl
theorem gX7_bestByTrying_9 : zget (zMt mX7_bestByTrying) 9 = some (.getfield 19, 3) := rfl
theorem gX7_bestByTrying_12 : zget (zMt mX7_bestByTrying) 12 = some (.invokevirtual 127, 3) := rfl
theorem gX7_bestByTrying_15 : zget (zMt mX7_bestByTrying) 15 = some (.aload_n 0, 1) := rfl
theorem gX7_bestByTrying_16 : zget (zMt mX7_bestByTrying) 16 = some (.getfield 33, 3) := rfl
theorem gX7_bestByTrying_19 : zget (zMt mX7_bestByTrying) 19 = some (.invokevirtual 155, 3) := rfl
theorem gX7_bestByTrying_22 : zget (zMt mX7_bestByTrying) 22 = some (.bipush 12, 2) := rfl
theorem gX7_bestByTrying_24 : zget (zMt mX7_bestByTrying) 24 = some (.if_icmp .le 13, 3) := rfl
theorem gX7_bestByTrying_27 : zget (zMt mX7_bestByTrying) 27 = some (.new 158, 3) := rfl
theorem gX7_bestByTrying_30 : zget (zMt mX7_bestByTrying) 30 = some (.dup, 1) := rfl
theorem gX7_bestByTrying_31 : zget (zMt mX7_bestByTrying) 31 = some (.ldc 160, 2) := rfl
theorem gX7_bestByTrying_33 : zget (zMt mX7_bestByTrying) 33 = some (.invokespecial 162, 3) := rfl
theorem gX7_bestByTrying_36 : zget (zMt mX7_bestByTrying) 36 = some (.athrow, 1) := rfl
theorem gX7_bestByTrying_37 : zget (zMt mX7_bestByTrying) 37 = some (.aload_n 0, 1) := rfl
theorem gX7_bestByTrying_38 : zget (zMt mX7_bestByTrying) 38 = some (.getfield 33, 3) := rfl
theorem gX7_bestByTrying_41 : zget (zMt mX7_bestByTrying) 41 = some (.iconst 0, 1) := rfl
theorem gX7_bestByTrying_42 : zget (zMt mX7_bestByTrying) 42 = some (.iconst 0, 1) := rfl
theorem gX7_bestByTrying_43 : zget (zMt mX7_bestByTrying) 43 = some (.invokestatic 163, 3) := rfl
theorem gX7_bestByTrying_46 : zget (zMt mX7_bestByTrying) 46 = some (.ireturn, 1) := rfl
theorem gX7_isInBest_0 : zget (zMt mX7_isInBest) 0 = some (.aload_n 0, 1) := rfl
theorem gX7_isInBest_1 : zget (zMt mX7_isInBest) 1 = some (.iload_n 1, 1) := rfl
theorem gX7_isInBest_2 : zget (zMt mX7_isInBest) 2 = some (.invokevirtual 134, 3) := rfl
theorem gX7_isInBest_5 : zget (zMt mX7_isInBest) 5 = some (.aload_n 0, 1) := rfl
theorem gX7_isInBest_6 : zget (zMt mX7_isInBest) 6 = some (.getfield 40, 3) := rfl
theorem gX7_isInBest_9 : zget (zMt mX7_isInBest) 9 = some (.aload_n 0, 1) := rfl
theorem gX7_isInBest_10 : zget (zMt mX7_isInBest) 10 = some (.getfield 33, 3) := rfl
theorem gX7_isInBest_13 : zget (zMt mX7_isInBest) 13 = some (.invokevirtual 167, 3) := rfl
theorem gX7_isInBest_16 : zget (zMt mX7_isInBest) 16 = some (.aload_n 0, 1) := rfl
theorem gX7_isInBest_17 : zget (zMt mX7_isInBest) 17 = some (.getfield 40, 3) := rfl
theorem gX7_isInBest_20 : zget (zMt mX7_isInBest) 20 = some (.iload_n 1, 1) := rfl
theorem gX7_isInBest_21 : zget (zMt mX7_isInBest) 21 = some (.invokevirtual 171, 3) := rfl
theorem gX7_isInBest_24 : zget (zMt mX7_isInBest) 24 = some (.ireturn, 1) := rfl
theorem gX7_fix_0 : zget (zMt mX7_fix) 0 = some (.aload_n 0, 1) := rfl
theorem gX7_fix_1 : zget (zMt mX7_fix) 1 = some (.iload_n 1, 1) := rfl
theorem gX7_fix_2 : zget (zMt mX7_fix) 2 = some (.invokevirtual 134, 3) := rfl
theorem gX7_fix_5 : zget (zMt mX7_fix) 5 = some (.aload_n 0, 1) := rfl
theorem gX7_fix_6 : zget (zMt mX7_fix) 6 = some (.getfield 33, 3) := rfl
theorem gX7_fix_9 : zget (zMt mX7_fix) 9 = some (.iload_n 1, 1) := rfl
theorem gX7_fix_10 : zget (zMt mX7_fix) 10 = some (.invokevirtual 146, 3) := rfl
theorem gX7_fix_13 : zget (zMt mX7_fix) 13 = some (.ifCond .gt 13, 3) := rfl
theorem gX7_fix_16 : zget (zMt mX7_fix) 16 = some (.new 158, 3) := rfl
theorem gX7_fix_19 : zget (zMt mX7_fix) 19 = some (.dup, 1) := rfl
theorem gX7_fix_20 : zget (zMt mX7_fix) 20 = some (.ldc 174, 2) := rfl
theorem gX7_fix_22 : zget (zMt mX7_fix) 22 = some (.invokespecial 162, 3) := rfl
theorem gX7_fix_25 : zget (zMt mX7_fix) 25 = some (.athrow, 1) := rfl
theorem gX7_fix_26 : zget (zMt mX7_fix) 26 = some (.aload_n 0, 1) := rfl
theorem gX7_fix_27 : zget (zMt mX7_fix) 27 = some (.invokevirtual 176, 3) := rfl
theorem gX7_fix_30 : zget (zMt mX7_fix) 30 = some (.aload_n 0, 1) := rfl
theorem gX7_fix_31 : zget (zMt mX7_fix) 31 = some (.iload_n 1, 1) := rfl
theorem gX7_fix_32 : zget (zMt mX7_fix) 32 = some (.invokevirtual 179, 3) := rfl
theorem gX7_fix_35 : zget (zMt mX7_fix) 35 = some (.aload_n 0, 1) := rfl
theorem gX7_fix_36 : zget (zMt mX7_fix) 36 = some (.getfield 10, 3) := rfl
theorem gX7_fix_39 : zget (zMt mX7_fix) 39 = some (.invokevirtual 77, 3) := rfl
theorem gX7_fix_42 : zget (zMt mX7_fix) 42 = some (.ireturn, 1) := rfl
theorem gX7_fixBest_0 : zget (zMt mX7_fixBest) 0 = some (.aload_n 0, 1) := rfl
theorem gX7_fixBest_1 : zget (zMt mX7_fixBest) 1 = some (.invokevirtual 149, 3) := rfl
theorem gX7_fixBest_4 : zget (zMt mX7_fixBest) 4 = some (.aload_n 0, 1) := rfl
theorem gX7_fixBest_5 : zget (zMt mX7_fixBest) 5 = some (.getfield 33, 3) := rfl
theorem gX7_fixBest_8 : zget (zMt mX7_fixBest) 8 = some (.invokevirtual 155, 3) := rfl
theorem gX7_fixBest_11 : zget (zMt mX7_fixBest) 11 = some (.ifCond .ne 13, 3) := rfl
theorem gX7_fixBest_14 : zget (zMt mX7_fixBest) 14 = some (.new 84, 3) := rfl
theorem gX7_fixBest_17 : zget (zMt mX7_fixBest) 17 = some (.dup, 1) := rfl
theorem gX7_fixBest_18 : zget (zMt mX7_fixBest) 18 = some (.ldc 182, 2) := rfl
theorem gX7_fixBest_20 : zget (zMt mX7_fixBest) 20 = some (.invokespecial 88, 3) := rfl
theorem gX7_fixBest_23 : zget (zMt mX7_fixBest) 23 = some (.athrow, 1) := rfl
theorem gX7_fixBest_24 : zget (zMt mX7_fixBest) 24 = some (.aload_n 0, 1) := rfl
theorem gX7_fixBest_25 : zget (zMt mX7_fixBest) 25 = some (.invokevirtual 176, 3) := rfl
theorem gX7_fixBest_28 : zget (zMt mX7_fixBest) 28 = some (.iconst 0, 1) := rfl
theorem gX7_fixBest_29 : zget (zMt mX7_fixBest) 29 = some (.istore_n 1, 1) := rfl
theorem gX7_fixBest_30 : zget (zMt mX7_fixBest) 30 = some (.aload_n 0, 1) := rfl
theorem gX7_fixBest_31 : zget (zMt mX7_fixBest) 31 = some (.getfield 33, 3) := rfl
theorem gX7_fixBest_34 : zget (zMt mX7_fixBest) 34 = some (.invokevirtual 131, 3) := rfl
theorem gX7_fixBest_37 : zget (zMt mX7_fixBest) 37 = some (.iconst 1, 1) := rfl
theorem gX7_fixBest_38 : zget (zMt mX7_fixBest) 38 = some (.isub, 1) := rfl
theorem gX7_fixBest_39 : zget (zMt mX7_fixBest) 39 = some (.istore_n 2, 1) := rfl
theorem gX7_fixBest_40 : zget (zMt mX7_fixBest) 40 = some (.iload_n 2, 1) := rfl
theorem gX7_fixBest_41 : zget (zMt mX7_fixBest) 41 = some (.ifCond .lt 28, 3) := rfl
theorem gX7_fixBest_44 : zget (zMt mX7_fixBest) 44 = some (.aload_n 0, 1) := rfl
theorem gX7_fixBest_45 : zget (zMt mX7_fixBest) 45 = some (.getfield 40, 3) := rfl
theorem gX7_fixBest_48 : zget (zMt mX7_fixBest) 48 = some (.iload_n 2, 1) := rfl
theorem gX7_fixBest_49 : zget (zMt mX7_fixBest) 49 = some (.invokevirtual 171, 3) := rfl
theorem gX7_fixBest_52 : zget (zMt mX7_fixBest) 52 = some (.ifCond .eq 11, 3) := rfl
theorem gX7_fixBest_55 : zget (zMt mX7_fixBest) 55 = some (.aload_n 0, 1) := rfl
theorem gX7_fixBest_56 : zget (zMt mX7_fixBest) 56 = some (.iload_n 2, 1) := rfl
theorem gX7_fixBest_57 : zget (zMt mX7_fixBest) 57 = some (.invokevirtual 179, 3) := rfl
theorem gX7_fixBest_60 : zget (zMt mX7_fixBest) 60 = some (.iinc 1 1, 3) := rfl
theorem gX7_fixBest_63 : zget (zMt mX7_fixBest) 63 = some (.iinc 2 (-1), 3) := rfl
theorem gX7_fixBest_66 : zget (zMt mX7_fixBest) 66 = some (.goto (-26), 3) := rfl
theorem gX7_fixBest_69 : zget (zMt mX7_fixBest) 69 = some (.iload_n 1, 1) := rfl
theorem gX7_fixBest_70 : zget (zMt mX7_fixBest) 70 = some (.ireturn, 1) := rfl
theorem gX7_rename_0 : zget (zMt mX7_rename) 0 = some (.iload_n 1, 1) := rfl
theorem gX7_rename_1 : zget (zMt mX7_rename) 1 = some (.invokestatic 62, 3) := rfl
theorem gX7_rename_4 : zget (zMt mX7_rename) 4 = some (.iload_n 2, 1) := rfl
theorem gX7_rename_5 : zget (zMt mX7_rename) 5 = some (.invokestatic 62, 3) := rfl
theorem gX7_rename_8 : zget (zMt mX7_rename) 8 = some (.iload_n 1, 1) := rfl
theorem gX7_rename_9 : zget (zMt mX7_rename) 9 = some (.iload_n 2, 1) := rfl
theorem gX7_rename_10 : zget (zMt mX7_rename) 10 = some (.if_icmp .ne 13, 3) := rfl
theorem gX7_rename_13 : zget (zMt mX7_rename) 13 = some (.new 114, 3) := rfl
theorem gX7_rename_16 : zget (zMt mX7_rename) 16 = some (.dup, 1) := rfl
theorem gX7_rename_17 : zget (zMt mX7_rename) 17 = some (.ldc 184, 2) := rfl
theorem gX7_rename_19 : zget (zMt mX7_rename) 19 = some (.invokespecial 118, 3) := rfl
theorem gX7_rename_22 : zget (zMt mX7_rename) 22 = some (.athrow, 1) := rfl
theorem gX7_rename_23 : zget (zMt mX7_rename) 23 = some (.aload_n 0, 1) := rfl
theorem gX7_rename_24 : zget (zMt mX7_rename) 24 = some (.getfield 10, 3) := rfl
theorem gX7_rename_27 : zget (zMt mX7_rename) 27 = some (.iload_n 1, 1) := rfl
theorem gX7_rename_28 : zget (zMt mX7_rename) 28 = some (.invokevirtual 106, 3) := rfl
theorem gX7_rename_31 : zget (zMt mX7_rename) 31 = some (.istore_n 3, 1) := rfl
theorem gX7_rename_32 : zget (zMt mX7_rename) 32 = some (.iload_n 3, 1) := rfl
theorem gX7_rename_33 : zget (zMt mX7_rename) 33 = some (.ifCond .ne 13, 3) := rfl
theorem gX7_rename_36 : zget (zMt mX7_rename) 36 = some (.new 109, 3) := rfl
theorem gX7_rename_39 : zget (zMt mX7_rename) 39 = some (.dup, 1) := rfl
theorem gX7_rename_40 : zget (zMt mX7_rename) 40 = some (.ldc 186, 2) := rfl
theorem gX7_rename_42 : zget (zMt mX7_rename) 42 = some (.invokespecial 113, 3) := rfl
theorem gX7_rename_45 : zget (zMt mX7_rename) 45 = some (.athrow, 1) := rfl
theorem gX7_rename_46 : zget (zMt mX7_rename) 46 = some (.aload_n 0, 1) := rfl
theorem gX7_rename_47 : zget (zMt mX7_rename) 47 = some (.getfield 10, 3) := rfl
theorem gX7_rename_50 : zget (zMt mX7_rename) 50 = some (.iload_n 1, 1) := rfl
theorem gX7_rename_51 : zget (zMt mX7_rename) 51 = some (.invokevirtual 188, 3) := rfl
theorem gX7_rename_54 : zget (zMt mX7_rename) 54 = some (.ifCond .ne 14, 3) := rfl
theorem gX7_rename_57 : zget (zMt mX7_rename) 57 = some (.aload_n 0, 1) := rfl
theorem gX7_rename_58 : zget (zMt mX7_rename) 58 = some (.getfield 10, 3) := rfl
theorem gX7_rename_61 : zget (zMt mX7_rename) 61 = some (.iload_n 2, 1) := rfl
theorem gX7_rename_62 : zget (zMt mX7_rename) 62 = some (.invokevirtual 106, 3) := rfl
theorem gX7_rename_65 : zget (zMt mX7_rename) 65 = some (.ifCond .le 13, 3) := rfl
theorem gX7_rename_68 : zget (zMt mX7_rename) 68 = some (.new 158, 3) := rfl
theorem gX7_rename_71 : zget (zMt mX7_rename) 71 = some (.dup, 1) := rfl
theorem gX7_rename_72 : zget (zMt mX7_rename) 72 = some (.ldc 191, 2) := rfl
theorem gX7_rename_74 : zget (zMt mX7_rename) 74 = some (.invokespecial 162, 3) := rfl
theorem gX7_rename_77 : zget (zMt mX7_rename) 77 = some (.athrow, 1) := rfl
theorem gX7_rename_78 : zget (zMt mX7_rename) 78 = some (.aload_n 0, 1) := rfl
theorem gX7_rename_79 : zget (zMt mX7_rename) 79 = some (.invokevirtual 176, 3) := rfl
theorem gX7_rename_82 : zget (zMt mX7_rename) 82 = some (.aload_n 0, 1) := rfl
theorem gX7_rename_83 : zget (zMt mX7_rename) 83 = some (.getfield 10, 3) := rfl
theorem gX7_rename_86 : zget (zMt mX7_rename) 86 = some (.iload_n 1, 1) := rfl
theorem gX7_rename_87 : zget (zMt mX7_rename) 87 = some (.iload_n 2, 1) := rfl
theorem gX7_rename_88 : zget (zMt mX7_rename) 88 = some (.invokevirtual 193, 3) := rfl
theorem gX7_rename_91 : zget (zMt mX7_rename) 91 = some (.iload_n 3, 1) := rfl
theorem gX7_rename_92 : zget (zMt mX7_rename) 92 = some (.ireturn, 1) := rfl
theorem gX7_move_0 : zget (zMt mX7_move) 0 = some (.aload_n 0, 1) := rfl
theorem gX7_move_1 : zget (zMt mX7_move) 1 = some (.iload_n 1, 1) := rfl
theorem gX7_move_2 : zget (zMt mX7_move) 2 = some (.invokevirtual 91, 3) := rfl
theorem gX7_move_5 : zget (zMt mX7_move) 5 = some (.aload_n 0, 1) := rfl
theorem gX7_move_6 : zget (zMt mX7_move) 6 = some (.iload_n 2, 1) := rfl
theorem gX7_move_7 : zget (zMt mX7_move) 7 = some (.invokevirtual 91, 3) := rfl
theorem gX7_move_10 : zget (zMt mX7_move) 10 = some (.iload_n 1, 1) := rfl
theorem gX7_move_11 : zget (zMt mX7_move) 11 = some (.iload_n 2, 1) := rfl
theorem gX7_move_12 : zget (zMt mX7_move) 12 = some (.if_icmp .ne 13, 3) := rfl
theorem gX7_move_15 : zget (zMt mX7_move) 15 = some (.new 114, 3) := rfl
theorem gX7_move_18 : zget (zMt mX7_move) 18 = some (.dup, 1) := rfl
theorem gX7_move_19 : zget (zMt mX7_move) 19 = some (.ldc 197, 2) := rfl
theorem gX7_move_21 : zget (zMt mX7_move) 21 = some (.invokespecial 118, 3) := rfl
theorem gX7_move_24 : zget (zMt mX7_move) 24 = some (.athrow, 1) := rfl
theorem gX7_move_25 : zget (zMt mX7_move) 25 = some (.aload_n 0, 1) := rfl
theorem gX7_move_26 : zget (zMt mX7_move) 26 = some (.getfield 10, 3) := rfl
theorem gX7_move_29 : zget (zMt mX7_move) 29 = some (.iload_n 1, 1) := rfl
theorem gX7_move_30 : zget (zMt mX7_move) 30 = some (.iload_n 2, 1) := rfl
theorem gX7_move_31 : zget (zMt mX7_move) 31 = some (.invokestatic 199, 3) := rfl
theorem gX7_move_34 : zget (zMt mX7_move) 34 = some (.iload_n 1, 1) := rfl
theorem gX7_move_35 : zget (zMt mX7_move) 35 = some (.iload_n 2, 1) := rfl
theorem gX7_move_36 : zget (zMt mX7_move) 36 = some (.invokestatic 205, 3) := rfl
theorem gX7_move_39 : zget (zMt mX7_move) 39 = some (.invokevirtual 208, 3) := rfl
theorem gX7_move_42 : zget (zMt mX7_move) 42 = some (.ifCond .ne 13, 3) := rfl
theorem gX7_move_45 : zget (zMt mX7_move) 45 = some (.new 158, 3) := rfl
theorem gX7_move_48 : zget (zMt mX7_move) 48 = some (.dup, 1) := rfl
theorem gX7_move_49 : zget (zMt mX7_move) 49 = some (.ldc 212, 2) := rfl
theorem gX7_move_51 : zget (zMt mX7_move) 51 = some (.invokespecial 162, 3) := rfl
theorem gX7_move_54 : zget (zMt mX7_move) 54 = some (.athrow, 1) := rfl
theorem gX7_move_55 : zget (zMt mX7_move) 55 = some (.aload_n 0, 1) := rfl
theorem gX7_move_56 : zget (zMt mX7_move) 56 = some (.invokevirtual 176, 3) := rfl
theorem gX7_move_59 : zget (zMt mX7_move) 59 = some (.aload_n 0, 1) := rfl
theorem gX7_move_60 : zget (zMt mX7_move) 60 = some (.getfield 10, 3) := rfl
theorem gX7_move_63 : zget (zMt mX7_move) 63 = some (.iload_n 1, 1) := rfl
theorem gX7_move_64 : zget (zMt mX7_move) 64 = some (.iload_n 2, 1) := rfl
theorem gX7_move_65 : zget (zMt mX7_move) 65 = some (.invokevirtual 214, 3) := rfl
theorem gX7_move_68 : zget (zMt mX7_move) 68 = some (.iload_n 1, 1) := rfl
theorem gX7_move_69 : zget (zMt mX7_move) 69 = some (.iload_n 2, 1) := rfl
theorem gX7_move_70 : zget (zMt mX7_move) 70 = some (.invokestatic 205, 3) := rfl
theorem gX7_move_73 : zget (zMt mX7_move) 73 = some (.iload_n 1, 1) := rfl
theorem gX7_move_74 : zget (zMt mX7_move) 74 = some (.iload_n 2, 1) := rfl
theorem gX7_move_75 : zget (zMt mX7_move) 75 = some (.invokestatic 199, 3) := rfl
theorem gX7_move_78 : zget (zMt mX7_move) 78 = some (.isub, 1) := rfl
theorem gX7_move_79 : zget (zMt mX7_move) 79 = some (.ireturn, 1) := rfl
theorem gX7_undo_0 : zget (zMt mX7_undo) 0 = some (.aload_n 0, 1) := rfl
theorem gX7_undo_1 : zget (zMt mX7_undo) 1 = some (.getfield 26, 3) := rfl
theorem gX7_undo_4 : zget (zMt mX7_undo) 4 = some (.invokevirtual 217, 3) := rfl
theorem gX7_undo_7 : zget (zMt mX7_undo) 7 = some (.ifCond .ne 13, 3) := rfl
theorem gX7_undo_10 : zget (zMt mX7_undo) 10 = some (.new 84, 3) := rfl
theorem gX7_undo_13 : zget (zMt mX7_undo) 13 = some (.dup, 1) := rfl
theorem gX7_undo_14 : zget (zMt mX7_undo) 14 = some (.ldc 218, 2) := rfl
theorem gX7_undo_16 : zget (zMt mX7_undo) 16 = some (.invokespecial 88, 3) := rfl
theorem gX7_undo_19 : zget (zMt mX7_undo) 19 = some (.athrow, 1) := rfl
theorem gX7_undo_20 : zget (zMt mX7_undo) 20 = some (.aload_n 0, 1) := rfl
theorem gX7_undo_21 : zget (zMt mX7_undo) 21 = some (.getfield 26, 3) := rfl
theorem gX7_undo_24 : zget (zMt mX7_undo) 24 = some (.aload_n 0, 1) := rfl
theorem gX7_undo_25 : zget (zMt mX7_undo) 25 = some (.getfield 10, 3) := rfl
theorem gX7_undo_28 : zget (zMt mX7_undo) 28 = some (.aload_n 0, 1) := rfl
theorem gX7_undo_29 : zget (zMt mX7_undo) 29 = some (.getfield 19, 3) := rfl
theorem gX7_undo_32 : zget (zMt mX7_undo) 32 = some (.invokevirtual 220, 3) := rfl
theorem gX7_undo_35 : zget (zMt mX7_undo) 35 = some (.aload_n 0, 1) := rfl
theorem gX7_undo_36 : zget (zMt mX7_undo) 36 = some (.iconst 0, 1) := rfl
theorem gX7_undo_37 : zget (zMt mX7_undo) 37 = some (.putfield 58, 3) := rfl
theorem gX7_undo_40 : zget (zMt mX7_undo) 40 = some (.aload_n 0, 1) := rfl
theorem gX7_undo_41 : zget (zMt mX7_undo) 41 = some (.getfield 26, 3) := rfl
theorem gX7_undo_44 : zget (zMt mX7_undo) 44 = some (.invokevirtual 217, 3) := rfl
theorem gX7_undo_47 : zget (zMt mX7_undo) 47 = some (.ireturn, 1) := rfl
theorem gX7_weight_0 : zget (zMt mX7_weight) 0 = some (.iload_n 1, 1) := rfl
theorem gX7_weight_1 : zget (zMt mX7_weight) 1 = some (.invokestatic 223, 3) := rfl
theorem gX7_weight_4 : zget (zMt mX7_weight) 4 = some (.aload_n 0, 1) := rfl
theorem gX7_weight_5 : zget (zMt mX7_weight) 5 = some (.getfield 19, 3) := rfl
theorem gX7_weight_8 : zget (zMt mX7_weight) 8 = some (.iload_n 1, 1) := rfl
theorem gX7_weight_9 : zget (zMt mX7_weight) 9 = some (.invokevirtual 226, 3) := rfl
theorem gX7_weight_12 : zget (zMt mX7_weight) 12 = some (.ireturn, 1) := rfl
theorem gX7_ruleAt_0 : zget (zMt mX7_ruleAt) 0 = some (.iconst 0, 1) := rfl
theorem gX7_ruleAt_1 : zget (zMt mX7_ruleAt) 1 = some (.istore_n 2, 1) := rfl
theorem gX7_ruleAt_2 : zget (zMt mX7_ruleAt) 2 = some (.iload_n 2, 1) := rfl
theorem gX7_ruleAt_3 : zget (zMt mX7_ruleAt) 3 = some (.iconst 5, 1) := rfl
theorem gX7_ruleAt_4 : zget (zMt mX7_ruleAt) 4 = some (.if_icmp .ge 23, 3) := rfl
theorem gX7_ruleAt_7 : zget (zMt mX7_ruleAt) 7 = some (.aload_n 0, 1) := rfl
theorem gX7_ruleAt_8 : zget (zMt mX7_ruleAt) 8 = some (.getfield 19, 3) := rfl
theorem gX7_ruleAt_11 : zget (zMt mX7_ruleAt) 11 = some (.iload_n 2, 1) := rfl
theorem gX7_ruleAt_12 : zget (zMt mX7_ruleAt) 12 = some (.invokevirtual 229, 3) := rfl
theorem gX7_ruleAt_15 : zget (zMt mX7_ruleAt) 15 = some (.iload_n 1, 1) := rfl
theorem gX7_ruleAt_16 : zget (zMt mX7_ruleAt) 16 = some (.if_icmp .ne 5, 3) := rfl
theorem gX7_ruleAt_19 : zget (zMt mX7_ruleAt) 19 = some (.iload_n 2, 1) := rfl
theorem gX7_ruleAt_20 : zget (zMt mX7_ruleAt) 20 = some (.ireturn, 1) := rfl
theorem gX7_ruleAt_21 : zget (zMt mX7_ruleAt) 21 = some (.iinc 2 1, 3) := rfl
theorem gX7_ruleAt_24 : zget (zMt mX7_ruleAt) 24 = some (.goto (-22), 3) := rfl
theorem gX7_ruleAt_27 : zget (zMt mX7_ruleAt) 27 = some (.new 109, 3) := rfl
theorem gX7_ruleAt_30 : zget (zMt mX7_ruleAt) 30 = some (.dup, 1) := rfl
theorem gX7_ruleAt_31 : zget (zMt mX7_ruleAt) 31 = some (.ldc 232, 2) := rfl
theorem gX7_ruleAt_33 : zget (zMt mX7_ruleAt) 33 = some (.invokespecial 113, 3) := rfl
theorem gX7_ruleAt_36 : zget (zMt mX7_ruleAt) 36 = some (.athrow, 1) := rfl
theorem gX7_undone_0 : zget (zMt mX7_undone) 0 = some (.iload_n 1, 1) := rfl
theorem gX7_undone_1 : zget (zMt mX7_undone) 1 = some (.invokestatic 223, 3) := rfl
theorem gX7_undone_4 : zget (zMt mX7_undone) 4 = some (.aload_n 0, 1) := rfl
theorem gX7_undone_5 : zget (zMt mX7_undone) 5 = some (.getfield 19, 3) := rfl
theorem gX7_undone_8 : zget (zMt mX7_undone) 8 = some (.iload_n 1, 1) := rfl
theorem gX7_undone_9 : zget (zMt mX7_undone) 9 = some (.invokevirtual 234, 3) := rfl
theorem gX7_undone_12 : zget (zMt mX7_undone) 12 = some (.i2l, 1) := rfl
theorem gX7_undone_13 : zget (zMt mX7_undone) 13 = some (.lreturn, 1) := rfl
theorem gX7_setWidth_0 : zget (zMt mX7_setWidth) 0 = some (.iload_n 1, 1) := rfl
theorem gX7_setWidth_1 : zget (zMt mX7_setWidth) 1 = some (.bipush 13, 2) := rfl
theorem gX7_setWidth_3 : zget (zMt mX7_setWidth) 3 = some (.if_icmp .lt 9, 3) := rfl
theorem gX7_setWidth_6 : zget (zMt mX7_setWidth) 6 = some (.iload_n 1, 1) := rfl
theorem gX7_setWidth_7 : zget (zMt mX7_setWidth) 7 = some (.bipush 60, 2) := rfl
theorem gX7_setWidth_9 : zget (zMt mX7_setWidth) 9 = some (.if_icmp .le 13, 3) := rfl
theorem gX7_setWidth_12 : zget (zMt mX7_setWidth) 12 = some (.new 114, 3) := rfl
theorem gX7_setWidth_15 : zget (zMt mX7_setWidth) 15 = some (.dup, 1) := rfl
theorem gX7_setWidth_16 : zget (zMt mX7_setWidth) 16 = some (.ldc 248, 2) := rfl
theorem gX7_setWidth_18 : zget (zMt mX7_setWidth) 18 = some (.invokespecial 118, 3) := rfl
theorem gX7_setWidth_21 : zget (zMt mX7_setWidth) 21 = some (.athrow, 1) := rfl
theorem gX7_setWidth_22 : zget (zMt mX7_setWidth) 22 = some (.aload_n 0, 1) := rfl
theorem gX7_setWidth_23 : zget (zMt mX7_setWidth) 23 = some (.getfield 54, 3) := rfl
theorem gX7_setWidth_26 : zget (zMt mX7_setWidth) 26 = some (.istore_n 2, 1) := rfl
theorem gX7_setWidth_27 : zget (zMt mX7_setWidth) 27 = some (.aload_n 0, 1) := rfl
theorem gX7_setWidth_28 : zget (zMt mX7_setWidth) 28 = some (.iload_n 1, 1) := rfl
theorem gX7_setWidth_29 : zget (zMt mX7_setWidth) 29 = some (.putfield 54, 3) := rfl
theorem gX7_setWidth_32 : zget (zMt mX7_setWidth) 32 = some (.aload_n 0, 1) := rfl
theorem gX7_setWidth_33 : zget (zMt mX7_setWidth) 33 = some (.iconst 0, 1) := rfl
theorem gX7_setWidth_34 : zget (zMt mX7_setWidth) 34 = some (.putfield 58, 3) := rfl
theorem gX7_setWidth_37 : zget (zMt mX7_setWidth) 37 = some (.iload_n 2, 1) := rfl
theorem gX7_setWidth_38 : zget (zMt mX7_setWidth) 38 = some (.ireturn, 1) := rfl
theorem gX7_layOut_0 : zget (zMt mX7_layOut) 0 = some (.aload_n 0, 1) := rfl
theorem gX7_layOut_1 : zget (zMt mX7_layOut) 1 = some (.getfield 47, 3) := rfl
theorem gX7_layOut_4 : zget (zMt mX7_layOut) 4 = some (.aload_n 0, 1) := rfl
theorem gX7_layOut_5 : zget (zMt mX7_layOut) 5 = some (.getfield 10, 3) := rfl
theorem gX7_layOut_8 : zget (zMt mX7_layOut) 8 = some (.aload_n 0, 1) := rfl
theorem gX7_layOut_9 : zget (zMt mX7_layOut) 9 = some (.getfield 54, 3) := rfl
theorem gX7_layOut_12 : zget (zMt mX7_layOut) 12 = some (.invokevirtual 250, 3) := rfl
theorem gX7_layOut_15 : zget (zMt mX7_layOut) 15 = some (.aload_n 0, 1) := rfl
theorem gX7_layOut_16 : zget (zMt mX7_layOut) 16 = some (.iconst 1, 1) := rfl
theorem gX7_layOut_17 : zget (zMt mX7_layOut) 17 = some (.putfield 58, 3) := rfl
theorem gX7_layOut_20 : zget (zMt mX7_layOut) 20 = some (.aload_n 0, 1) := rfl
theorem gX7_layOut_21 : zget (zMt mX7_layOut) 21 = some (.getfield 47, 3) := rfl
theorem gX7_layOut_24 : zget (zMt mX7_layOut) 24 = some (.invokevirtual 254, 3) := rfl
theorem gX7_layOut_27 : zget (zMt mX7_layOut) 27 = some (.ireturn, 1) := rfl
theorem gX7_isLaidOut_0 : zget (zMt mX7_isLaidOut) 0 = some (.aload_n 0, 1) := rfl
theorem gX7_isLaidOut_1 : zget (zMt mX7_isLaidOut) 1 = some (.getfield 58, 3) := rfl
theorem gX7_isLaidOut_4 : zget (zMt mX7_isLaidOut) 4 = some (.ireturn, 1) := rfl
theorem gX7_cost_0 : zget (zMt mX7_cost) 0 = some (.aload_n 0, 1) := rfl
theorem gX7_cost_1 : zget (zMt mX7_cost) 1 = some (.getfield 51, 3) := rfl
theorem gX7_cost_4 : zget (zMt mX7_cost) 4 = some (.aload_n 0, 1) := rfl
theorem gX7_cost_5 : zget (zMt mX7_cost) 5 = some (.getfield 10, 3) := rfl
theorem gX7_cost_8 : zget (zMt mX7_cost) 8 = some (.aload_n 0, 1) := rfl
theorem gX7_cost_9 : zget (zMt mX7_cost) 9 = some (.getfield 54, 3) := rfl
theorem gX7_cost_12 : zget (zMt mX7_cost) 12 = some (.invokevirtual 250, 3) := rfl
theorem gX7_cost_15 : zget (zMt mX7_cost) 15 = some (.aload_n 0, 1) := rfl
theorem gX7_cost_16 : zget (zMt mX7_cost) 16 = some (.getfield 51, 3) := rfl
theorem gX7_cost_19 : zget (zMt mX7_cost) 19 = some (.invokevirtual 257, 3) := rfl
theorem gX7_cost_22 : zget (zMt mX7_cost) 22 = some (.ireturn, 1) := rfl
theorem gX7_costByTrying_0 : zget (zMt mX7_costByTrying) 0 = some (.aload_n 0, 1) := rfl
theorem gX7_costByTrying_1 : zget (zMt mX7_costByTrying) 1 = some (.getfield 10, 3) := rfl
theorem gX7_costByTrying_4 : zget (zMt mX7_costByTrying) 4 = some (.invokevirtual 77, 3) := rfl
theorem gX7_costByTrying_7 : zget (zMt mX7_costByTrying) 7 = some (.bipush 12, 2) := rfl
theorem gX7_costByTrying_9 : zget (zMt mX7_costByTrying) 9 = some (.if_icmp .le 14, 3) := rfl
theorem gX7_costByTrying_12 : zget (zMt mX7_costByTrying) 12 = some (.new 158, 3) := rfl
theorem gX7_costByTrying_15 : zget (zMt mX7_costByTrying) 15 = some (.dup, 1) := rfl
theorem gX7_costByTrying_16 : zget (zMt mX7_costByTrying) 16 = some (.ldc_w 260, 3) := rfl
theorem gX7_costByTrying_19 : zget (zMt mX7_costByTrying) 19 = some (.invokespecial 162, 3) := rfl
theorem gX7_costByTrying_22 : zget (zMt mX7_costByTrying) 22 = some (.athrow, 1) := rfl
theorem gX7_costByTrying_23 : zget (zMt mX7_costByTrying) 23 = some (.aload_n 0, 1) := rfl
theorem gX7_costByTrying_24 : zget (zMt mX7_costByTrying) 24 = some (.getfield 10, 3) := rfl
theorem gX7_costByTrying_27 : zget (zMt mX7_costByTrying) 27 = some (.aload_n 0, 1) := rfl
theorem gX7_costByTrying_28 : zget (zMt mX7_costByTrying) 28 = some (.getfield 54, 3) := rfl
theorem gX7_costByTrying_31 : zget (zMt mX7_costByTrying) 31 = some (.iconst 0, 1) := rfl
theorem gX7_costByTrying_32 : zget (zMt mX7_costByTrying) 32 = some (.invokestatic 262, 3) := rfl
theorem gX7_costByTrying_35 : zget (zMt mX7_costByTrying) 35 = some (.ireturn, 1) := rfl
theorem gX7_lineOf_0 : zget (zMt mX7_lineOf) 0 = some (.aload_n 0, 1) := rfl
theorem gX7_lineOf_1 : zget (zMt mX7_lineOf) 1 = some (.iload_n 1, 1) := rfl
theorem gX7_lineOf_2 : zget (zMt mX7_lineOf) 2 = some (.invokevirtual 91, 3) := rfl
theorem gX7_lineOf_5 : zget (zMt mX7_lineOf) 5 = some (.aload_n 0, 1) := rfl
theorem gX7_lineOf_6 : zget (zMt mX7_lineOf) 6 = some (.invokevirtual 266, 3) := rfl
theorem gX7_lineOf_9 : zget (zMt mX7_lineOf) 9 = some (.aload_n 0, 1) := rfl
theorem gX7_lineOf_10 : zget (zMt mX7_lineOf) 10 = some (.getfield 47, 3) := rfl
theorem gX7_lineOf_13 : zget (zMt mX7_lineOf) 13 = some (.iload_n 1, 1) := rfl
theorem gX7_lineOf_14 : zget (zMt mX7_lineOf) 14 = some (.invokevirtual 269, 3) := rfl
theorem gX7_lineOf_17 : zget (zMt mX7_lineOf) 17 = some (.ireturn, 1) := rfl
theorem gX7_lineWidth_0 : zget (zMt mX7_lineWidth) 0 = some (.aload_n 0, 1) := rfl
theorem gX7_lineWidth_1 : zget (zMt mX7_lineWidth) 1 = some (.invokevirtual 266, 3) := rfl
theorem gX7_lineWidth_4 : zget (zMt mX7_lineWidth) 4 = some (.iload_n 1, 1) := rfl
theorem gX7_lineWidth_5 : zget (zMt mX7_lineWidth) 5 = some (.ifCond .lt 14, 3) := rfl
theorem gX7_lineWidth_8 : zget (zMt mX7_lineWidth) 8 = some (.iload_n 1, 1) := rfl
theorem gX7_lineWidth_9 : zget (zMt mX7_lineWidth) 9 = some (.aload_n 0, 1) := rfl
theorem gX7_lineWidth_10 : zget (zMt mX7_lineWidth) 10 = some (.getfield 47, 3) := rfl
theorem gX7_lineWidth_13 : zget (zMt mX7_lineWidth) 13 = some (.invokevirtual 254, 3) := rfl
theorem gX7_lineWidth_16 : zget (zMt mX7_lineWidth) 16 = some (.if_icmp .lt 14, 3) := rfl
theorem gX7_lineWidth_19 : zget (zMt mX7_lineWidth) 19 = some (.new 109, 3) := rfl
theorem gX7_lineWidth_22 : zget (zMt mX7_lineWidth) 22 = some (.dup, 1) := rfl
theorem gX7_lineWidth_23 : zget (zMt mX7_lineWidth) 23 = some (.ldc_w 272, 3) := rfl
theorem gX7_lineWidth_26 : zget (zMt mX7_lineWidth) 26 = some (.invokespecial 113, 3) := rfl
theorem gX7_lineWidth_29 : zget (zMt mX7_lineWidth) 29 = some (.athrow, 1) := rfl
theorem gX7_lineWidth_30 : zget (zMt mX7_lineWidth) 30 = some (.aload_n 0, 1) := rfl
theorem gX7_lineWidth_31 : zget (zMt mX7_lineWidth) 31 = some (.getfield 47, 3) := rfl
theorem gX7_lineWidth_34 : zget (zMt mX7_lineWidth) 34 = some (.aload_n 0, 1) := rfl
theorem gX7_lineWidth_35 : zget (zMt mX7_lineWidth) 35 = some (.getfield 10, 3) := rfl
theorem gX7_lineWidth_38 : zget (zMt mX7_lineWidth) 38 = some (.iload_n 1, 1) := rfl
theorem gX7_lineWidth_39 : zget (zMt mX7_lineWidth) 39 = some (.invokevirtual 274, 3) := rfl
theorem gX7_lineWidth_42 : zget (zMt mX7_lineWidth) 42 = some (.ireturn, 1) := rfl
theorem gX7_meanWidth_0 : zget (zMt mX7_meanWidth) 0 = some (.aload_n 0, 1) := rfl
theorem gX7_meanWidth_1 : zget (zMt mX7_meanWidth) 1 = some (.getfield 10, 3) := rfl
theorem gX7_meanWidth_4 : zget (zMt mX7_meanWidth) 4 = some (.invokevirtual 77, 3) := rfl
theorem gX7_meanWidth_7 : zget (zMt mX7_meanWidth) 7 = some (.i2d, 1) := rfl
theorem gX7_meanWidth_8 : zget (zMt mX7_meanWidth) 8 = some (.dstore_n 1, 1) := rfl
theorem gX7_meanWidth_9 : zget (zMt mX7_meanWidth) 9 = some (.dload_n 1, 1) := rfl
theorem gX7_meanWidth_10 : zget (zMt mX7_meanWidth) 10 = some (.dconst 0, 1) := rfl
theorem gX7_meanWidth_11 : zget (zMt mX7_meanWidth) 11 = some (.dcmp .g, 1) := rfl
theorem gX7_meanWidth_12 : zget (zMt mX7_meanWidth) 12 = some (.ifCond .gt 14, 3) := rfl
theorem gX7_meanWidth_15 : zget (zMt mX7_meanWidth) 15 = some (.new 240, 3) := rfl
theorem gX7_meanWidth_18 : zget (zMt mX7_meanWidth) 18 = some (.dup, 1) := rfl
theorem gX7_meanWidth_19 : zget (zMt mX7_meanWidth) 19 = some (.ldc_w 278, 3) := rfl
theorem gX7_meanWidth_22 : zget (zMt mX7_meanWidth) 22 = some (.invokespecial 244, 3) := rfl
theorem gX7_meanWidth_25 : zget (zMt mX7_meanWidth) 25 = some (.athrow, 1) := rfl
theorem gX7_meanWidth_26 : zget (zMt mX7_meanWidth) 26 = some (.iconst 0, 1) := rfl
theorem gX7_meanWidth_27 : zget (zMt mX7_meanWidth) 27 = some (.istore_n 3, 1) := rfl
theorem gX7_meanWidth_28 : zget (zMt mX7_meanWidth) 28 = some (.iconst 0, 1) := rfl
theorem gX7_meanWidth_29 : zget (zMt mX7_meanWidth) 29 = some (.istore 4, 2) := rfl
theorem gX7_meanWidth_31 : zget (zMt mX7_meanWidth) 31 = some (.iload 4, 2) := rfl
theorem gX7_meanWidth_33 : zget (zMt mX7_meanWidth) 33 = some (.aload_n 0, 1) := rfl
theorem gX7_meanWidth_34 : zget (zMt mX7_meanWidth) 34 = some (.getfield 10, 3) := rfl
theorem gX7_meanWidth_37 : zget (zMt mX7_meanWidth) 37 = some (.invokevirtual 77, 3) := rfl
theorem gX7_meanWidth_40 : zget (zMt mX7_meanWidth) 40 = some (.if_icmp .ge 21, 3) := rfl
theorem gX7_meanWidth_43 : zget (zMt mX7_meanWidth) 43 = some (.iload_n 3, 1) := rfl
theorem gX7_meanWidth_44 : zget (zMt mX7_meanWidth) 44 = some (.aload_n 0, 1) := rfl
theorem gX7_meanWidth_45 : zget (zMt mX7_meanWidth) 45 = some (.getfield 10, 3) := rfl
theorem gX7_meanWidth_48 : zget (zMt mX7_meanWidth) 48 = some (.iload 4, 2) := rfl
theorem gX7_meanWidth_50 : zget (zMt mX7_meanWidth) 50 = some (.invokevirtual 103, 3) := rfl
theorem gX7_meanWidth_53 : zget (zMt mX7_meanWidth) 53 = some (.iadd, 1) := rfl
theorem gX7_meanWidth_54 : zget (zMt mX7_meanWidth) 54 = some (.istore_n 3, 1) := rfl
theorem gX7_meanWidth_55 : zget (zMt mX7_meanWidth) 55 = some (.iinc 4 1, 3) := rfl
theorem gX7_meanWidth_58 : zget (zMt mX7_meanWidth) 58 = some (.goto (-27), 3) := rfl
theorem gX7_meanWidth_61 : zget (zMt mX7_meanWidth) 61 = some (.iload_n 3, 1) := rfl
theorem gX7_meanWidth_62 : zget (zMt mX7_meanWidth) 62 = some (.i2d, 1) := rfl
theorem gX7_meanWidth_63 : zget (zMt mX7_meanWidth) 63 = some (.dload_n 1, 1) := rfl
theorem gX7_meanWidth_64 : zget (zMt mX7_meanWidth) 64 = some (.ddiv, 1) := rfl
theorem gX7_meanWidth_65 : zget (zMt mX7_meanWidth) 65 = some (.dreturn, 1) := rfl
theorem gX7_isTidy_0 : zget (zMt mX7_isTidy) 0 = some (.aload_n 0, 1) := rfl
theorem gX7_isTidy_1 : zget (zMt mX7_isTidy) 1 = some (.getfield 51, 3) := rfl
theorem gX7_isTidy_4 : zget (zMt mX7_isTidy) 4 = some (.aload_n 0, 1) := rfl
theorem gX7_isTidy_5 : zget (zMt mX7_isTidy) 5 = some (.getfield 10, 3) := rfl
theorem gX7_isTidy_8 : zget (zMt mX7_isTidy) 8 = some (.aload_n 0, 1) := rfl
theorem gX7_isTidy_9 : zget (zMt mX7_isTidy) 9 = some (.getfield 54, 3) := rfl
theorem gX7_isTidy_12 : zget (zMt mX7_isTidy) 12 = some (.invokevirtual 250, 3) := rfl
theorem gX7_isTidy_15 : zget (zMt mX7_isTidy) 15 = some (.aload_n 0, 1) := rfl
theorem gX7_isTidy_16 : zget (zMt mX7_isTidy) 16 = some (.getfield 58, 3) := rfl
theorem gX7_isTidy_19 : zget (zMt mX7_isTidy) 19 = some (.ifCond .eq 12, 3) := rfl
theorem gX7_isTidy_22 : zget (zMt mX7_isTidy) 22 = some (.aload_n 0, 1) := rfl
theorem gX7_isTidy_23 : zget (zMt mX7_isTidy) 23 = some (.invokevirtual 280, 3) := rfl
theorem gX7_isTidy_26 : zget (zMt mX7_isTidy) 26 = some (.ifCond .ne 5, 3) := rfl
theorem gX7_isTidy_29 : zget (zMt mX7_isTidy) 29 = some (.iconst 0, 1) := rfl
theorem gX7_isTidy_30 : zget (zMt mX7_isTidy) 30 = some (.ireturn, 1) := rfl
theorem gX7_isTidy_31 : zget (zMt mX7_isTidy) 31 = some (.aload_n 0, 1) := rfl
theorem gX7_isTidy_32 : zget (zMt mX7_isTidy) 32 = some (.getfield 10, 3) := rfl
theorem gX7_isTidy_35 : zget (zMt mX7_isTidy) 35 = some (.invokevirtual 77, 3) := rfl
theorem gX7_isTidy_38 : zget (zMt mX7_isTidy) 38 = some (.bipush 12, 2) := rfl
theorem gX7_isTidy_40 : zget (zMt mX7_isTidy) 40 = some (.if_icmp .gt 27, 3) := rfl
theorem gX7_isTidy_43 : zget (zMt mX7_isTidy) 43 = some (.aload_n 0, 1) := rfl
theorem gX7_isTidy_44 : zget (zMt mX7_isTidy) 44 = some (.getfield 10, 3) := rfl
theorem gX7_isTidy_47 : zget (zMt mX7_isTidy) 47 = some (.aload_n 0, 1) := rfl
theorem gX7_isTidy_48 : zget (zMt mX7_isTidy) 48 = some (.getfield 54, 3) := rfl
theorem gX7_isTidy_51 : zget (zMt mX7_isTidy) 51 = some (.iconst 0, 1) := rfl
theorem gX7_isTidy_52 : zget (zMt mX7_isTidy) 52 = some (.invokestatic 262, 3) := rfl
theorem gX7_isTidy_55 : zget (zMt mX7_isTidy) 55 = some (.aload_n 0, 1) := rfl
theorem gX7_isTidy_56 : zget (zMt mX7_isTidy) 56 = some (.getfield 51, 3) := rfl
theorem gX7_isTidy_59 : zget (zMt mX7_isTidy) 59 = some (.invokevirtual 257, 3) := rfl
theorem gX7_isTidy_62 : zget (zMt mX7_isTidy) 62 = some (.if_icmp .eq 5, 3) := rfl
theorem gX7_isTidy_65 : zget (zMt mX7_isTidy) 65 = some (.iconst 0, 1) := rfl
theorem gX7_isTidy_66 : zget (zMt mX7_isTidy) 66 = some (.ireturn, 1) := rfl
theorem gX7_isTidy_67 : zget (zMt mX7_isTidy) 67 = some (.aload_n 0, 1) := rfl
theorem gX7_isTidy_68 : zget (zMt mX7_isTidy) 68 = some (.invokevirtual 149, 3) := rfl
theorem gX7_isTidy_71 : zget (zMt mX7_isTidy) 71 = some (.aload_n 0, 1) := rfl
theorem gX7_isTidy_72 : zget (zMt mX7_isTidy) 72 = some (.getfield 40, 3) := rfl
theorem gX7_isTidy_75 : zget (zMt mX7_isTidy) 75 = some (.aload_n 0, 1) := rfl
theorem gX7_isTidy_76 : zget (zMt mX7_isTidy) 76 = some (.getfield 33, 3) := rfl
theorem gX7_isTidy_79 : zget (zMt mX7_isTidy) 79 = some (.invokevirtual 284, 3) := rfl
theorem gX7_isTidy_82 : zget (zMt mX7_isTidy) 82 = some (.ifCond .eq 5, 3) := rfl
theorem gX7_isTidy_85 : zget (zMt mX7_isTidy) 85 = some (.iconst 0, 1) := rfl
theorem gX7_isTidy_86 : zget (zMt mX7_isTidy) 86 = some (.ireturn, 1) := rfl
theorem gX7_isTidy_87 : zget (zMt mX7_isTidy) 87 = some (.aload_n 0, 1) := rfl
theorem gX7_isTidy_88 : zget (zMt mX7_isTidy) 88 = some (.getfield 33, 3) := rfl
theorem gX7_isTidy_91 : zget (zMt mX7_isTidy) 91 = some (.invokevirtual 155, 3) := rfl
theorem gX7_isTidy_94 : zget (zMt mX7_isTidy) 94 = some (.bipush 12, 2) := rfl
theorem gX7_isTidy_96 : zget (zMt mX7_isTidy) 96 = some (.if_icmp .gt 22, 3) := rfl
theorem gX7_isTidy_99 : zget (zMt mX7_isTidy) 99 = some (.aload_n 0, 1) := rfl
theorem gX7_isTidy_100 : zget (zMt mX7_isTidy) 100 = some (.getfield 33, 3) := rfl
theorem gX7_isTidy_103 : zget (zMt mX7_isTidy) 103 = some (.iconst 0, 1) := rfl
theorem gX7_isTidy_104 : zget (zMt mX7_isTidy) 104 = some (.iconst 0, 1) := rfl
theorem gX7_isTidy_105 : zget (zMt mX7_isTidy) 105 = some (.invokestatic 163, 3) := rfl
theorem gX7_isTidy_108 : zget (zMt mX7_isTidy) 108 = some (.aload_n 0, 1) := rfl
theorem gX7_isTidy_109 : zget (zMt mX7_isTidy) 109 = some (.getfield 40, 3) := rfl
theorem gX7_isTidy_112 : zget (zMt mX7_isTidy) 112 = some (.invokevirtual 152, 3) := rfl
theorem gX7_isTidy_115 : zget (zMt mX7_isTidy) 115 = some (.if_icmp .ne 7, 3) := rfl
theorem gX7_isTidy_118 : zget (zMt mX7_isTidy) 118 = some (.iconst 1, 1) := rfl
theorem gX7_isTidy_119 : zget (zMt mX7_isTidy) 119 = some (.goto 4, 3) := rfl
theorem gX7_isTidy_122 : zget (zMt mX7_isTidy) 122 = some (.iconst 0, 1) := rfl
theorem gX7_isTidy_123 : zget (zMt mX7_isTidy) 123 = some (.ireturn, 1) := rfl
theorem gX7_needName_0 : zget (zMt mX7_needName) 0 = some (.iload_n 0, 1) := rfl
theorem gX7_needName_1 : zget (zMt mX7_needName) 1 = some (.ifCond .lt 9, 3) := rfl
theorem gX7_needName_4 : zget (zMt mX7_needName) 4 = some (.iload_n 0, 1) := rfl
theorem gX7_needName_5 : zget (zMt mX7_needName) 5 = some (.bipush 100, 2) := rfl
theorem gX7_needName_7 : zget (zMt mX7_needName) 7 = some (.if_icmp .lt 14, 3) := rfl
theorem gX7_needName_10 : zget (zMt mX7_needName) 10 = some (.new 114, 3) := rfl
theorem gX7_needName_13 : zget (zMt mX7_needName) 13 = some (.dup, 1) := rfl
theorem gX7_needName_14 : zget (zMt mX7_needName) 14 = some (.ldc_w 288, 3) := rfl
theorem gX7_needName_17 : zget (zMt mX7_needName) 17 = some (.invokespecial 118, 3) := rfl
theorem gX7_needName_20 : zget (zMt mX7_needName) 20 = some (.athrow, 1) := rfl
theorem gX7_needName_21 : zget (zMt mX7_needName) 21 = some (.return_, 1) := rfl
theorem gX7_needLength_0 : zget (zMt mX7_needLength) 0 = some (.iload_n 0, 1) := rfl
theorem gX7_needLength_1 : zget (zMt mX7_needLength) 1 = some (.iconst 1, 1) := rfl
theorem gX7_needLength_2 : zget (zMt mX7_needLength) 2 = some (.if_icmp .lt 9, 3) := rfl
theorem gX7_needLength_5 : zget (zMt mX7_needLength) 5 = some (.iload_n 0, 1) := rfl
theorem gX7_needLength_6 : zget (zMt mX7_needLength) 6 = some (.bipush 9, 2) := rfl
theorem gX7_needLength_8 : zget (zMt mX7_needLength) 8 = some (.if_icmp .le 14, 3) := rfl
theorem gX7_needLength_11 : zget (zMt mX7_needLength) 11 = some (.new 114, 3) := rfl
theorem gX7_needLength_14 : zget (zMt mX7_needLength) 14 = some (.dup, 1) := rfl
theorem gX7_needLength_15 : zget (zMt mX7_needLength) 15 = some (.ldc_w 290, 3) := rfl
theorem gX7_needLength_18 : zget (zMt mX7_needLength) 18 = some (.invokespecial 118, 3) := rfl
theorem gX7_needLength_21 : zget (zMt mX7_needLength) 21 = some (.athrow, 1) := rfl
theorem gX7_needLength_22 : zget (zMt mX7_needLength) 22 = some (.return_, 1) := rfl
theorem gX7_needRule_0 : zget (zMt mX7_needRule) 0 = some (.iload_n 0, 1) := rfl
theorem gX7_needRule_1 : zget (zMt mX7_needRule) 1 = some (.ifCond .lt 8, 3) := rfl
theorem gX7_needRule_4 : zget (zMt mX7_needRule) 4 = some (.iload_n 0, 1) := rfl
theorem gX7_needRule_5 : zget (zMt mX7_needRule) 5 = some (.iconst 5, 1) := rfl
theorem gX7_needRule_6 : zget (zMt mX7_needRule) 6 = some (.if_icmp .lt 14, 3) := rfl
theorem gX7_needRule_9 : zget (zMt mX7_needRule) 9 = some (.new 114, 3) := rfl
theorem gX7_needRule_12 : zget (zMt mX7_needRule) 12 = some (.dup, 1) := rfl
theorem gX7_needRule_13 : zget (zMt mX7_needRule) 13 = some (.ldc_w 292, 3) := rfl
theorem gX7_needRule_16 : zget (zMt mX7_needRule) 16 = some (.invokespecial 118, 3) := rfl
theorem gX7_needRule_19 : zget (zMt mX7_needRule) 19 = some (.athrow, 1) := rfl
theorem gX7_needRule_20 : zget (zMt mX7_needRule) 20 = some (.return_, 1) := rfl
theorem gX7_needEntry_0 : zget (zMt mX7_needEntry) 0 = some (.iload_n 1, 1) := rfl
theorem gX7_needEntry_1 : zget (zMt mX7_needEntry) 1 = some (.ifCond .lt 14, 3) := rfl
theorem gX7_needEntry_4 : zget (zMt mX7_needEntry) 4 = some (.iload_n 1, 1) := rfl
theorem gX7_needEntry_5 : zget (zMt mX7_needEntry) 5 = some (.aload_n 0, 1) := rfl
theorem gX7_needEntry_6 : zget (zMt mX7_needEntry) 6 = some (.getfield 10, 3) := rfl
theorem gX7_needEntry_9 : zget (zMt mX7_needEntry) 9 = some (.invokevirtual 77, 3) := rfl
theorem gX7_needEntry_12 : zget (zMt mX7_needEntry) 12 = some (.if_icmp .lt 14, 3) := rfl
theorem gX7_needEntry_15 : zget (zMt mX7_needEntry) 15 = some (.new 294, 3) := rfl
theorem gX7_needEntry_18 : zget (zMt mX7_needEntry) 18 = some (.dup, 1) := rfl
theorem gX7_needEntry_19 : zget (zMt mX7_needEntry) 19 = some (.ldc_w 296, 3) := rfl
theorem gX7_needEntry_22 : zget (zMt mX7_needEntry) 22 = some (.invokespecial 298, 3) := rfl
theorem gX7_needEntry_25 : zget (zMt mX7_needEntry) 25 = some (.athrow, 1) := rfl
theorem gX7_needEntry_26 : zget (zMt mX7_needEntry) 26 = some (.return_, 1) := rfl
theorem gX7_needFinding_0 : zget (zMt mX7_needFinding) 0 = some (.aload_n 0, 1) := rfl
theorem gX7_needFinding_1 : zget (zMt mX7_needFinding) 1 = some (.getfield 33, 3) := rfl
theorem gX7_needFinding_4 : zget (zMt mX7_needFinding) 4 = some (.aload_n 0, 1) := rfl
theorem gX7_needFinding_5 : zget (zMt mX7_needFinding) 5 = some (.getfield 10, 3) := rfl
theorem gX7_needFinding_8 : zget (zMt mX7_needFinding) 8 = some (.aload_n 0, 1) := rfl
theorem gX7_needFinding_9 : zget (zMt mX7_needFinding) 9 = some (.getfield 19, 3) := rfl
theorem gX7_needFinding_12 : zget (zMt mX7_needFinding) 12 = some (.invokevirtual 127, 3) := rfl
theorem gX7_needFinding_15 : zget (zMt mX7_needFinding) 15 = some (.iload_n 1, 1) := rfl
theorem gX7_needFinding_16 : zget (zMt mX7_needFinding) 16 = some (.ifCond .lt 14, 3) := rfl
theorem gX7_needFinding_19 : zget (zMt mX7_needFinding) 19 = some (.iload_n 1, 1) := rfl
theorem gX7_needFinding_20 : zget (zMt mX7_needFinding) 20 = some (.aload_n 0, 1) := rfl
theorem gX7_needFinding_21 : zget (zMt mX7_needFinding) 21 = some (.getfield 33, 3) := rfl
theorem gX7_needFinding_24 : zget (zMt mX7_needFinding) 24 = some (.invokevirtual 131, 3) := rfl
theorem gX7_needFinding_27 : zget (zMt mX7_needFinding) 27 = some (.if_icmp .lt 14, 3) := rfl
theorem gX7_needFinding_30 : zget (zMt mX7_needFinding) 30 = some (.new 109, 3) := rfl
theorem gX7_needFinding_33 : zget (zMt mX7_needFinding) 33 = some (.dup, 1) := rfl
theorem gX7_needFinding_34 : zget (zMt mX7_needFinding) 34 = some (.ldc_w 299, 3) := rfl
theorem gX7_needFinding_37 : zget (zMt mX7_needFinding) 37 = some (.invokespecial 113, 3) := rfl
theorem gX7_needFinding_40 : zget (zMt mX7_needFinding) 40 = some (.athrow, 1) := rfl
theorem gX7_needFinding_41 : zget (zMt mX7_needFinding) 41 = some (.return_, 1) := rfl
theorem gX7_needLayout_0 : zget (zMt mX7_needLayout) 0 = some (.aload_n 0, 1) := rfl
theorem gX7_needLayout_1 : zget (zMt mX7_needLayout) 1 = some (.getfield 58, 3) := rfl
theorem gX7_needLayout_4 : zget (zMt mX7_needLayout) 4 = some (.ifCond .ne 14, 3) := rfl
theorem gX7_needLayout_7 : zget (zMt mX7_needLayout) 7 = some (.new 84, 3) := rfl
theorem gX7_needLayout_10 : zget (zMt mX7_needLayout) 10 = some (.dup, 1) := rfl
theorem gX7_needLayout_11 : zget (zMt mX7_needLayout) 11 = some (.ldc_w 301, 3) := rfl
theorem gX7_needLayout_14 : zget (zMt mX7_needLayout) 14 = some (.invokespecial 88, 3) := rfl
theorem gX7_needLayout_17 : zget (zMt mX7_needLayout) 17 = some (.athrow, 1) := rfl
theorem gX7_needLayout_18 : zget (zMt mX7_needLayout) 18 = some (.return_, 1) := rfl
theorem gX7_append_0 : zget (zMt mX7_append) 0 = some (.aload_n 0, 1) := rfl
theorem gX7_append_1 : zget (zMt mX7_append) 1 = some (.getfield 10, 3) := rfl
theorem gX7_append_4 : zget (zMt mX7_append) 4 = some (.invokevirtual 77, 3) := rfl
theorem gX7_append_7 : zget (zMt mX7_append) 7 = some (.bipush 30, 2) := rfl
theorem gX7_append_9 : zget (zMt mX7_append) 9 = some (.if_icmp .lt 14, 3) := rfl
theorem gX7_append_12 : zget (zMt mX7_append) 12 = some (.new 84, 3) := rfl
theorem gX7_append_15 : zget (zMt mX7_append) 15 = some (.dup, 1) := rfl
theorem gX7_append_16 : zget (zMt mX7_append) 16 = some (.ldc_w 303, 3) := rfl
theorem gX7_append_19 : zget (zMt mX7_append) 19 = some (.invokespecial 88, 3) := rfl
theorem gX7_append_22 : zget (zMt mX7_append) 22 = some (.athrow, 1) := rfl
theorem gX7_append_23 : zget (zMt mX7_append) 23 = some (.aload_n 0, 1) := rfl
theorem gX7_append_24 : zget (zMt mX7_append) 24 = some (.getfield 10, 3) := rfl
theorem gX7_append_27 : zget (zMt mX7_append) 27 = some (.iload_n 1, 1) := rfl
theorem gX7_append_28 : zget (zMt mX7_append) 28 = some (.iload_n 2, 1) := rfl
theorem gX7_append_29 : zget (zMt mX7_append) 29 = some (.iload_n 3, 1) := rfl
theorem gX7_append_30 : zget (zMt mX7_append) 30 = some (.invokevirtual 305, 3) := rfl
theorem gX7_append_33 : zget (zMt mX7_append) 33 = some (.aload_n 0, 1) := rfl
theorem gX7_append_34 : zget (zMt mX7_append) 34 = some (.getfield 26, 3) := rfl
theorem gX7_append_37 : zget (zMt mX7_append) 37 = some (.invokevirtual 309, 3) := rfl
theorem gX7_append_40 : zget (zMt mX7_append) 40 = some (.aload_n 0, 1) := rfl
theorem gX7_append_41 : zget (zMt mX7_append) 41 = some (.iconst 0, 1) := rfl
theorem gX7_append_42 : zget (zMt mX7_append) 42 = some (.putfield 58, 3) := rfl
theorem gX7_append_45 : zget (zMt mX7_append) 45 = some (.aload_n 0, 1) := rfl
theorem gX7_append_46 : zget (zMt mX7_append) 46 = some (.getfield 10, 3) := rfl
theorem gX7_append_49 : zget (zMt mX7_append) 49 = some (.invokevirtual 77, 3) := rfl
theorem gX7_append_52 : zget (zMt mX7_append) 52 = some (.iconst 1, 1) := rfl
theorem gX7_append_53 : zget (zMt mX7_append) 53 = some (.isub, 1) := rfl
theorem gX7_append_54 : zget (zMt mX7_append) 54 = some (.ireturn, 1) := rfl
theorem gX7_startDeed_0 : zget (zMt mX7_startDeed) 0 = some (.aload_n 0, 1) := rfl
theorem gX7_startDeed_1 : zget (zMt mX7_startDeed) 1 = some (.getfield 26, 3) := rfl
theorem gX7_startDeed_4 : zget (zMt mX7_startDeed) 4 = some (.aload_n 0, 1) := rfl
theorem gX7_startDeed_5 : zget (zMt mX7_startDeed) 5 = some (.getfield 10, 3) := rfl
theorem gX7_startDeed_8 : zget (zMt mX7_startDeed) 8 = some (.invokevirtual 312, 3) := rfl
theorem gX7_startDeed_11 : zget (zMt mX7_startDeed) 11 = some (.aload_n 0, 1) := rfl
theorem gX7_startDeed_12 : zget (zMt mX7_startDeed) 12 = some (.iconst 0, 1) := rfl
theorem gX7_startDeed_13 : zget (zMt mX7_startDeed) 13 = some (.putfield 58, 3) := rfl
theorem gX7_startDeed_16 : zget (zMt mX7_startDeed) 16 = some (.return_, 1) := rfl
theorem gX7_chooseBest_0 : zget (zMt mX7_chooseBest) 0 = some (.aload_n 0, 1) := rfl
theorem gX7_chooseBest_1 : zget (zMt mX7_chooseBest) 1 = some (.getfield 33, 3) := rfl
theorem gX7_chooseBest_4 : zget (zMt mX7_chooseBest) 4 = some (.aload_n 0, 1) := rfl
theorem gX7_chooseBest_5 : zget (zMt mX7_chooseBest) 5 = some (.getfield 10, 3) := rfl
theorem gX7_chooseBest_8 : zget (zMt mX7_chooseBest) 8 = some (.aload_n 0, 1) := rfl
theorem gX7_chooseBest_9 : zget (zMt mX7_chooseBest) 9 = some (.getfield 19, 3) := rfl
theorem gX7_chooseBest_12 : zget (zMt mX7_chooseBest) 12 = some (.invokevirtual 127, 3) := rfl
theorem gX7_chooseBest_15 : zget (zMt mX7_chooseBest) 15 = some (.aload_n 0, 1) := rfl
theorem gX7_chooseBest_16 : zget (zMt mX7_chooseBest) 16 = some (.getfield 40, 3) := rfl
theorem gX7_chooseBest_19 : zget (zMt mX7_chooseBest) 19 = some (.aload_n 0, 1) := rfl
theorem gX7_chooseBest_20 : zget (zMt mX7_chooseBest) 20 = some (.getfield 33, 3) := rfl
theorem gX7_chooseBest_23 : zget (zMt mX7_chooseBest) 23 = some (.invokevirtual 167, 3) := rfl
theorem gX7_chooseBest_26 : zget (zMt mX7_chooseBest) 26 = some (.return_, 1) := rfl
theorem gX7_applyFix_0 : zget (zMt mX7_applyFix) 0 = some (.aload_n 0, 1) := rfl
theorem gX7_applyFix_1 : zget (zMt mX7_applyFix) 1 = some (.getfield 33, 3) := rfl
theorem gX7_applyFix_4 : zget (zMt mX7_applyFix) 4 = some (.iload_n 1, 1) := rfl
theorem gX7_applyFix_5 : zget (zMt mX7_applyFix) 5 = some (.invokevirtual 137, 3) := rfl
theorem gX7_applyFix_8 : zget (zMt mX7_applyFix) 8 = some (.istore_n 2, 1) := rfl
theorem gX7_applyFix_9 : zget (zMt mX7_applyFix) 9 = some (.aload_n 0, 1) := rfl
theorem gX7_applyFix_10 : zget (zMt mX7_applyFix) 10 = some (.getfield 33, 3) := rfl
theorem gX7_applyFix_13 : zget (zMt mX7_applyFix) 13 = some (.iload_n 1, 1) := rfl
theorem gX7_applyFix_14 : zget (zMt mX7_applyFix) 14 = some (.invokevirtual 140, 3) := rfl
theorem gX7_applyFix_17 : zget (zMt mX7_applyFix) 17 = some (.istore_n 3, 1) := rfl
theorem gX7_applyFix_18 : zget (zMt mX7_applyFix) 18 = some (.iload_n 2, 1) := rfl
theorem gX7_applyFix_19 : zget (zMt mX7_applyFix) 19 = some (.tableswitch 88 0 3 #[29, 42, 63, 77], 29) := rfl
theorem gX7_applyFix_48 : zget (zMt mX7_applyFix) 48 = some (.aload_n 0, 1) := rfl
theorem gX7_applyFix_49 : zget (zMt mX7_applyFix) 49 = some (.getfield 10, 3) := rfl
theorem gX7_applyFix_52 : zget (zMt mX7_applyFix) 52 = some (.iload_n 3, 1) := rfl
theorem gX7_applyFix_53 : zget (zMt mX7_applyFix) 53 = some (.iconst 1, 1) := rfl
theorem gX7_applyFix_54 : zget (zMt mX7_applyFix) 54 = some (.iadd, 1) := rfl
theorem gX7_applyFix_55 : zget (zMt mX7_applyFix) 55 = some (.invokevirtual 316, 3) := rfl
theorem gX7_applyFix_58 : zget (zMt mX7_applyFix) 58 = some (.goto 67, 3) := rfl
theorem gX7_applyFix_61 : zget (zMt mX7_applyFix) 61 = some (.aload_n 0, 1) := rfl
theorem gX7_applyFix_62 : zget (zMt mX7_applyFix) 62 = some (.getfield 10, 3) := rfl
theorem gX7_applyFix_65 : zget (zMt mX7_applyFix) 65 = some (.iload_n 3, 1) := rfl
theorem gX7_applyFix_66 : zget (zMt mX7_applyFix) 66 = some (.iconst 1, 1) := rfl
theorem gX7_applyFix_67 : zget (zMt mX7_applyFix) 67 = some (.iadd, 1) := rfl
theorem gX7_applyFix_68 : zget (zMt mX7_applyFix) 68 = some (.invokevirtual 316, 3) := rfl
theorem gX7_applyFix_71 : zget (zMt mX7_applyFix) 71 = some (.aload_n 0, 1) := rfl
theorem gX7_applyFix_72 : zget (zMt mX7_applyFix) 72 = some (.getfield 10, 3) := rfl
theorem gX7_applyFix_75 : zget (zMt mX7_applyFix) 75 = some (.iload_n 3, 1) := rfl
theorem gX7_applyFix_76 : zget (zMt mX7_applyFix) 76 = some (.invokevirtual 316, 3) := rfl
theorem gX7_applyFix_79 : zget (zMt mX7_applyFix) 79 = some (.goto 46, 3) := rfl
theorem gX7_applyFix_82 : zget (zMt mX7_applyFix) 82 = some (.aload_n 0, 1) := rfl
theorem gX7_applyFix_83 : zget (zMt mX7_applyFix) 83 = some (.getfield 10, 3) := rfl
theorem gX7_applyFix_86 : zget (zMt mX7_applyFix) 86 = some (.iload_n 3, 1) := rfl
theorem gX7_applyFix_87 : zget (zMt mX7_applyFix) 87 = some (.iload_n 3, 1) := rfl
theorem gX7_applyFix_88 : zget (zMt mX7_applyFix) 88 = some (.iconst 1, 1) := rfl
theorem gX7_applyFix_89 : zget (zMt mX7_applyFix) 89 = some (.iadd, 1) := rfl
theorem gX7_applyFix_90 : zget (zMt mX7_applyFix) 90 = some (.invokevirtual 214, 3) := rfl
theorem gX7_applyFix_93 : zget (zMt mX7_applyFix) 93 = some (.goto 32, 3) := rfl
theorem gX7_applyFix_96 : zget (zMt mX7_applyFix) 96 = some (.aload_n 0, 1) := rfl
theorem gX7_applyFix_97 : zget (zMt mX7_applyFix) 97 = some (.getfield 10, 3) := rfl
theorem gX7_applyFix_100 : zget (zMt mX7_applyFix) 100 = some (.iload_n 3, 1) := rfl
theorem gX7_applyFix_101 : zget (zMt mX7_applyFix) 101 = some (.invokevirtual 319, 3) := rfl
theorem gX7_applyFix_104 : zget (zMt mX7_applyFix) 104 = some (.goto 21, 3) := rfl
theorem gX7_applyFix_107 : zget (zMt mX7_applyFix) 107 = some (.aload_n 0, 1) := rfl
theorem gX7_applyFix_108 : zget (zMt mX7_applyFix) 108 = some (.getfield 10, 3) := rfl
theorem gX7_applyFix_111 : zget (zMt mX7_applyFix) 111 = some (.iload_n 3, 1) := rfl
theorem gX7_applyFix_112 : zget (zMt mX7_applyFix) 112 = some (.iconst 2, 1) := rfl
theorem gX7_applyFix_113 : zget (zMt mX7_applyFix) 113 = some (.iadd, 1) := rfl
theorem gX7_applyFix_114 : zget (zMt mX7_applyFix) 114 = some (.invokevirtual 316, 3) := rfl
theorem gX7_applyFix_117 : zget (zMt mX7_applyFix) 117 = some (.aload_n 0, 1) := rfl
theorem gX7_applyFix_118 : zget (zMt mX7_applyFix) 118 = some (.getfield 10, 3) := rfl
theorem gX7_applyFix_121 : zget (zMt mX7_applyFix) 121 = some (.iload_n 3, 1) := rfl
theorem gX7_applyFix_122 : zget (zMt mX7_applyFix) 122 = some (.invokevirtual 316, 3) := rfl
theorem gX7_applyFix_125 : zget (zMt mX7_applyFix) 125 = some (.aload_n 0, 1) := rfl
theorem gX7_applyFix_126 : zget (zMt mX7_applyFix) 126 = some (.getfield 19, 3) := rfl
theorem gX7_applyFix_129 : zget (zMt mX7_applyFix) 129 = some (.iload_n 2, 1) := rfl
theorem gX7_applyFix_130 : zget (zMt mX7_applyFix) 130 = some (.invokevirtual 322, 3) := rfl
theorem gX7_applyFix_133 : zget (zMt mX7_applyFix) 133 = some (.aload_n 0, 1) := rfl
theorem gX7_applyFix_134 : zget (zMt mX7_applyFix) 134 = some (.getfield 26, 3) := rfl
theorem gX7_applyFix_137 : zget (zMt mX7_applyFix) 137 = some (.iload_n 2, 1) := rfl
theorem gX7_applyFix_138 : zget (zMt mX7_applyFix) 138 = some (.invokevirtual 325, 3) := rfl
theorem gX7_applyFix_141 : zget (zMt mX7_applyFix) 141 = some (.return_, 1) := rfl
theorem gX7_shownIsLikeTried_0 : zget (zMt mX7_shownIsLikeTried) 0 = some (.aload_n 0, 1) := rfl
theorem gX7_shownIsLikeTried_1 : zget (zMt mX7_shownIsLikeTried) 1 = some (.getfield 47, 3) := rfl
theorem gX7_shownIsLikeTried_4 : zget (zMt mX7_shownIsLikeTried) 4 = some (.aload_n 0, 1) := rfl
theorem gX7_shownIsLikeTried_5 : zget (zMt mX7_shownIsLikeTried) 5 = some (.getfield 10, 3) := rfl
theorem gX7_shownIsLikeTried_8 : zget (zMt mX7_shownIsLikeTried) 8 = some (.aload_n 0, 1) := rfl
theorem gX7_shownIsLikeTried_9 : zget (zMt mX7_shownIsLikeTried) 9 = some (.getfield 54, 3) := rfl
theorem gX7_shownIsLikeTried_12 : zget (zMt mX7_shownIsLikeTried) 12 = some (.invokevirtual 328, 3) := rfl
theorem gX7_shownIsLikeTried_15 : zget (zMt mX7_shownIsLikeTried) 15 = some (.aload_n 0, 1) := rfl
theorem gX7_shownIsLikeTried_16 : zget (zMt mX7_shownIsLikeTried) 16 = some (.getfield 51, 3) := rfl
theorem gX7_shownIsLikeTried_19 : zget (zMt mX7_shownIsLikeTried) 19 = some (.invokevirtual 257, 3) := rfl
theorem gX7_shownIsLikeTried_22 : zget (zMt mX7_shownIsLikeTried) 22 = some (.if_icmp .ne 28, 3) := rfl
theorem gX7_shownIsLikeTried_25 : zget (zMt mX7_shownIsLikeTried) 25 = some (.aload_n 0, 1) := rfl
theorem gX7_shownIsLikeTried_26 : zget (zMt mX7_shownIsLikeTried) 26 = some (.getfield 47, 3) := rfl
theorem gX7_shownIsLikeTried_29 : zget (zMt mX7_shownIsLikeTried) 29 = some (.aload_n 0, 1) := rfl
theorem gX7_shownIsLikeTried_30 : zget (zMt mX7_shownIsLikeTried) 30 = some (.getfield 51, 3) := rfl
theorem gX7_shownIsLikeTried_33 : zget (zMt mX7_shownIsLikeTried) 33 = some (.aload_n 0, 1) := rfl
theorem gX7_shownIsLikeTried_34 : zget (zMt mX7_shownIsLikeTried) 34 = some (.getfield 10, 3) := rfl
theorem gX7_shownIsLikeTried_37 : zget (zMt mX7_shownIsLikeTried) 37 = some (.invokevirtual 77, 3) := rfl
theorem gX7_shownIsLikeTried_40 : zget (zMt mX7_shownIsLikeTried) 40 = some (.invokevirtual 331, 3) := rfl
theorem gX7_shownIsLikeTried_43 : zget (zMt mX7_shownIsLikeTried) 43 = some (.ifCond .eq 7, 3) := rfl
theorem gX7_shownIsLikeTried_46 : zget (zMt mX7_shownIsLikeTried) 46 = some (.iconst 1, 1) := rfl
theorem gX7_shownIsLikeTried_47 : zget (zMt mX7_shownIsLikeTried) 47 = some (.goto 4, 3) := rfl
theorem gX7_shownIsLikeTried_50 : zget (zMt mX7_shownIsLikeTried) 50 = some (.iconst 0, 1) := rfl
theorem gX7_shownIsLikeTried_51 : zget (zMt mX7_shownIsLikeTried) 51 = some (.ireturn, 1) := rfl
theorem gX7_costOfLine_0 : zget (zMt mX7_costOfLine) 0 = some (.iload_n 0, 1) := rfl
theorem gX7_costOfLine_1 : zget (zMt mX7_costOfLine) 1 = some (.iload_n 1, 1) := rfl
theorem gX7_costOfLine_2 : zget (zMt mX7_costOfLine) 2 = some (.if_icmp .le 10, 3) := rfl
theorem gX7_costOfLine_5 : zget (zMt mX7_costOfLine) 5 = some (.iload_n 0, 1) := rfl
theorem gX7_costOfLine_6 : zget (zMt mX7_costOfLine) 6 = some (.iload_n 1, 1) := rfl
theorem gX7_costOfLine_7 : zget (zMt mX7_costOfLine) 7 = some (.isub, 1) := rfl
theorem gX7_costOfLine_8 : zget (zMt mX7_costOfLine) 8 = some (.bipush 100, 2) := rfl
theorem gX7_costOfLine_10 : zget (zMt mX7_costOfLine) 10 = some (.imul, 1) := rfl
theorem gX7_costOfLine_11 : zget (zMt mX7_costOfLine) 11 = some (.ireturn, 1) := rfl
theorem gX7_costOfLine_12 : zget (zMt mX7_costOfLine) 12 = some (.iload_n 2, 1) := rfl
theorem gX7_costOfLine_13 : zget (zMt mX7_costOfLine) 13 = some (.ifCond .eq 7, 3) := rfl
theorem gX7_costOfLine_16 : zget (zMt mX7_costOfLine) 16 = some (.iconst 0, 1) := rfl
theorem gX7_costOfLine_17 : zget (zMt mX7_costOfLine) 17 = some (.goto 10, 3) := rfl
theorem gX7_costOfLine_20 : zget (zMt mX7_costOfLine) 20 = some (.iload_n 1, 1) := rfl
theorem gX7_costOfLine_21 : zget (zMt mX7_costOfLine) 21 = some (.iload_n 0, 1) := rfl
theorem gX7_costOfLine_22 : zget (zMt mX7_costOfLine) 22 = some (.isub, 1) := rfl
theorem gX7_costOfLine_23 : zget (zMt mX7_costOfLine) 23 = some (.iload_n 1, 1) := rfl
theorem gX7_costOfLine_24 : zget (zMt mX7_costOfLine) 24 = some (.iload_n 0, 1) := rfl
theorem gX7_costOfLine_25 : zget (zMt mX7_costOfLine) 25 = some (.isub, 1) := rfl
theorem gX7_costOfLine_26 : zget (zMt mX7_costOfLine) 26 = some (.imul, 1) := rfl
theorem gX7_costOfLine_27 : zget (zMt mX7_costOfLine) 27 = some (.ireturn, 1) := rfl
theorem gX7_leastByTrying_0 : zget (zMt mX7_leastByTrying) 0 = some (.iload_n 2, 1) := rfl
theorem gX7_leastByTrying_1 : zget (zMt mX7_leastByTrying) 1 = some (.aload_n 0, 1) := rfl
theorem gX7_leastByTrying_2 : zget (zMt mX7_leastByTrying) 2 = some (.invokevirtual 77, 3) := rfl
theorem gX7_leastByTrying_5 : zget (zMt mX7_leastByTrying) 5 = some (.if_icmp .ge 9, 3) := rfl
theorem gX7_leastByTrying_8 : zget (zMt mX7_leastByTrying) 8 = some (.iload_n 2, 1) := rfl
theorem gX7_leastByTrying_9 : zget (zMt mX7_leastByTrying) 9 = some (.bipush 12, 2) := rfl
theorem gX7_leastByTrying_11 : zget (zMt mX7_leastByTrying) 11 = some (.if_icmp .lt 5, 3) := rfl
theorem gX7_leastByTrying_14 : zget (zMt mX7_leastByTrying) 14 = some (.iconst 0, 1) := rfl
theorem gX7_leastByTrying_15 : zget (zMt mX7_leastByTrying) 15 = some (.ireturn, 1) := rfl
theorem gX7_leastByTrying_16 : zget (zMt mX7_leastByTrying) 16 = some (.ldc_w 335, 3) := rfl
theorem gX7_leastByTrying_19 : zget (zMt mX7_leastByTrying) 19 = some (.istore_n 3, 1) := rfl
theorem gX7_leastByTrying_20 : zget (zMt mX7_leastByTrying) 20 = some (.iconst (-1), 1) := rfl
theorem gX7_leastByTrying_21 : zget (zMt mX7_leastByTrying) 21 = some (.istore 4, 2) := rfl
theorem gX7_leastByTrying_23 : zget (zMt mX7_leastByTrying) 23 = some (.iload_n 2, 1) := rfl
theorem gX7_leastByTrying_24 : zget (zMt mX7_leastByTrying) 24 = some (.istore 5, 2) := rfl
theorem gX7_leastByTrying_26 : zget (zMt mX7_leastByTrying) 26 = some (.iload 5, 2) := rfl
theorem gX7_leastByTrying_28 : zget (zMt mX7_leastByTrying) 28 = some (.aload_n 0, 1) := rfl
theorem gX7_leastByTrying_29 : zget (zMt mX7_leastByTrying) 29 = some (.invokevirtual 77, 3) := rfl
theorem gX7_leastByTrying_32 : zget (zMt mX7_leastByTrying) 32 = some (.if_icmp .ge 76, 3) := rfl
theorem gX7_leastByTrying_35 : zget (zMt mX7_leastByTrying) 35 = some (.iload 4, 2) := rfl
theorem gX7_leastByTrying_37 : zget (zMt mX7_leastByTrying) 37 = some (.iconst 1, 1) := rfl
theorem gX7_leastByTrying_38 : zget (zMt mX7_leastByTrying) 38 = some (.aload_n 0, 1) := rfl
theorem gX7_leastByTrying_39 : zget (zMt mX7_leastByTrying) 39 = some (.iload 5, 2) := rfl
theorem gX7_leastByTrying_41 : zget (zMt mX7_leastByTrying) 41 = some (.invokevirtual 103, 3) := rfl
theorem gX7_leastByTrying_44 : zget (zMt mX7_leastByTrying) 44 = some (.iadd, 1) := rfl
theorem gX7_leastByTrying_45 : zget (zMt mX7_leastByTrying) 45 = some (.iadd, 1) := rfl
theorem gX7_leastByTrying_46 : zget (zMt mX7_leastByTrying) 46 = some (.istore 4, 2) := rfl
theorem gX7_leastByTrying_48 : zget (zMt mX7_leastByTrying) 48 = some (.aload_n 0, 1) := rfl
theorem gX7_leastByTrying_49 : zget (zMt mX7_leastByTrying) 49 = some (.iload 5, 2) := rfl
theorem gX7_leastByTrying_51 : zget (zMt mX7_leastByTrying) 51 = some (.invokevirtual 336, 3) := rfl
theorem gX7_leastByTrying_54 : zget (zMt mX7_leastByTrying) 54 = some (.ifCond .eq 48, 3) := rfl
theorem gX7_leastByTrying_57 : zget (zMt mX7_leastByTrying) 57 = some (.iload 5, 2) := rfl
theorem gX7_leastByTrying_59 : zget (zMt mX7_leastByTrying) 59 = some (.aload_n 0, 1) := rfl
theorem gX7_leastByTrying_60 : zget (zMt mX7_leastByTrying) 60 = some (.invokevirtual 77, 3) := rfl
theorem gX7_leastByTrying_63 : zget (zMt mX7_leastByTrying) 63 = some (.iconst 1, 1) := rfl
theorem gX7_leastByTrying_64 : zget (zMt mX7_leastByTrying) 64 = some (.isub, 1) := rfl
theorem gX7_leastByTrying_65 : zget (zMt mX7_leastByTrying) 65 = some (.if_icmp .ne 7, 3) := rfl
theorem gX7_leastByTrying_68 : zget (zMt mX7_leastByTrying) 68 = some (.iconst 1, 1) := rfl
theorem gX7_leastByTrying_69 : zget (zMt mX7_leastByTrying) 69 = some (.goto 4, 3) := rfl
theorem gX7_leastByTrying_72 : zget (zMt mX7_leastByTrying) 72 = some (.iconst 0, 1) := rfl
theorem gX7_leastByTrying_73 : zget (zMt mX7_leastByTrying) 73 = some (.istore 6, 2) := rfl
theorem gX7_leastByTrying_75 : zget (zMt mX7_leastByTrying) 75 = some (.iload 4, 2) := rfl
theorem gX7_leastByTrying_77 : zget (zMt mX7_leastByTrying) 77 = some (.iload_n 1, 1) := rfl
theorem gX7_leastByTrying_78 : zget (zMt mX7_leastByTrying) 78 = some (.iload 6, 2) := rfl
theorem gX7_leastByTrying_80 : zget (zMt mX7_leastByTrying) 80 = some (.invokestatic 339, 3) := rfl
theorem gX7_leastByTrying_83 : zget (zMt mX7_leastByTrying) 83 = some (.aload_n 0, 1) := rfl
theorem gX7_leastByTrying_84 : zget (zMt mX7_leastByTrying) 84 = some (.iload_n 1, 1) := rfl
theorem gX7_leastByTrying_85 : zget (zMt mX7_leastByTrying) 85 = some (.iload 5, 2) := rfl
theorem gX7_leastByTrying_87 : zget (zMt mX7_leastByTrying) 87 = some (.iconst 1, 1) := rfl
theorem gX7_leastByTrying_88 : zget (zMt mX7_leastByTrying) 88 = some (.iadd, 1) := rfl
theorem gX7_leastByTrying_89 : zget (zMt mX7_leastByTrying) 89 = some (.invokestatic 262, 3) := rfl
theorem gX7_leastByTrying_92 : zget (zMt mX7_leastByTrying) 92 = some (.iadd, 1) := rfl
theorem gX7_leastByTrying_93 : zget (zMt mX7_leastByTrying) 93 = some (.istore 7, 2) := rfl
theorem gX7_leastByTrying_95 : zget (zMt mX7_leastByTrying) 95 = some (.iload_n 3, 1) := rfl
theorem gX7_leastByTrying_96 : zget (zMt mX7_leastByTrying) 96 = some (.iload 7, 2) := rfl
theorem gX7_leastByTrying_98 : zget (zMt mX7_leastByTrying) 98 = some (.invokestatic 199, 3) := rfl
theorem gX7_leastByTrying_101 : zget (zMt mX7_leastByTrying) 101 = some (.istore_n 3, 1) := rfl
theorem gX7_leastByTrying_102 : zget (zMt mX7_leastByTrying) 102 = some (.iinc 5 1, 3) := rfl
theorem gX7_leastByTrying_105 : zget (zMt mX7_leastByTrying) 105 = some (.goto (-79), 3) := rfl
theorem gX7_leastByTrying_108 : zget (zMt mX7_leastByTrying) 108 = some (.iload_n 3, 1) := rfl
theorem gX7_leastByTrying_109 : zget (zMt mX7_leastByTrying) 109 = some (.ireturn, 1) := rfl
theorem gX7_mostByTrying_0 : zget (zMt mX7_mostByTrying) 0 = some (.iload_n 1, 1) := rfl
theorem gX7_mostByTrying_1 : zget (zMt mX7_mostByTrying) 1 = some (.aload_n 0, 1) := rfl
theorem gX7_mostByTrying_2 : zget (zMt mX7_mostByTrying) 2 = some (.invokevirtual 131, 3) := rfl
theorem gX7_mostByTrying_5 : zget (zMt mX7_mostByTrying) 5 = some (.if_icmp .ge 9, 3) := rfl
theorem gX7_mostByTrying_8 : zget (zMt mX7_mostByTrying) 8 = some (.iload_n 1, 1) := rfl
theorem gX7_mostByTrying_9 : zget (zMt mX7_mostByTrying) 9 = some (.bipush 30, 2) := rfl
theorem gX7_mostByTrying_11 : zget (zMt mX7_mostByTrying) 11 = some (.if_icmp .lt 5, 3) := rfl
theorem gX7_mostByTrying_14 : zget (zMt mX7_mostByTrying) 14 = some (.iconst 0, 1) := rfl
theorem gX7_mostByTrying_15 : zget (zMt mX7_mostByTrying) 15 = some (.ireturn, 1) := rfl
theorem gX7_mostByTrying_16 : zget (zMt mX7_mostByTrying) 16 = some (.aload_n 0, 1) := rfl
theorem gX7_mostByTrying_17 : zget (zMt mX7_mostByTrying) 17 = some (.iload_n 1, 1) := rfl
theorem gX7_mostByTrying_18 : zget (zMt mX7_mostByTrying) 18 = some (.iconst 1, 1) := rfl
theorem gX7_mostByTrying_19 : zget (zMt mX7_mostByTrying) 19 = some (.iadd, 1) := rfl
theorem gX7_mostByTrying_20 : zget (zMt mX7_mostByTrying) 20 = some (.iload_n 2, 1) := rfl
theorem gX7_mostByTrying_21 : zget (zMt mX7_mostByTrying) 21 = some (.invokestatic 163, 3) := rfl
theorem gX7_mostByTrying_24 : zget (zMt mX7_mostByTrying) 24 = some (.istore_n 3, 1) := rfl
theorem gX7_mostByTrying_25 : zget (zMt mX7_mostByTrying) 25 = some (.aload_n 0, 1) := rfl
theorem gX7_mostByTrying_26 : zget (zMt mX7_mostByTrying) 26 = some (.iload_n 1, 1) := rfl
theorem gX7_mostByTrying_27 : zget (zMt mX7_mostByTrying) 27 = some (.invokevirtual 146, 3) := rfl
theorem gX7_mostByTrying_30 : zget (zMt mX7_mostByTrying) 30 = some (.ifCond .le 12, 3) := rfl
theorem gX7_mostByTrying_33 : zget (zMt mX7_mostByTrying) 33 = some (.aload_n 0, 1) := rfl
theorem gX7_mostByTrying_34 : zget (zMt mX7_mostByTrying) 34 = some (.iload_n 1, 1) := rfl
theorem gX7_mostByTrying_35 : zget (zMt mX7_mostByTrying) 35 = some (.invokevirtual 140, 3) := rfl
theorem gX7_mostByTrying_38 : zget (zMt mX7_mostByTrying) 38 = some (.iload_n 2, 1) := rfl
theorem gX7_mostByTrying_39 : zget (zMt mX7_mostByTrying) 39 = some (.if_icmp .ge 5, 3) := rfl
theorem gX7_mostByTrying_42 : zget (zMt mX7_mostByTrying) 42 = some (.iload_n 3, 1) := rfl
theorem gX7_mostByTrying_43 : zget (zMt mX7_mostByTrying) 43 = some (.ireturn, 1) := rfl
theorem gX7_mostByTrying_44 : zget (zMt mX7_mostByTrying) 44 = some (.aload_n 0, 1) := rfl
theorem gX7_mostByTrying_45 : zget (zMt mX7_mostByTrying) 45 = some (.iload_n 1, 1) := rfl
theorem gX7_mostByTrying_46 : zget (zMt mX7_mostByTrying) 46 = some (.invokevirtual 146, 3) := rfl
theorem gX7_mostByTrying_49 : zget (zMt mX7_mostByTrying) 49 = some (.aload_n 0, 1) := rfl
theorem gX7_mostByTrying_50 : zget (zMt mX7_mostByTrying) 50 = some (.iload_n 1, 1) := rfl
theorem gX7_mostByTrying_51 : zget (zMt mX7_mostByTrying) 51 = some (.iconst 1, 1) := rfl
theorem gX7_mostByTrying_52 : zget (zMt mX7_mostByTrying) 52 = some (.iadd, 1) := rfl
theorem gX7_mostByTrying_53 : zget (zMt mX7_mostByTrying) 53 = some (.aload_n 0, 1) := rfl
theorem gX7_mostByTrying_54 : zget (zMt mX7_mostByTrying) 54 = some (.iload_n 1, 1) := rfl
theorem gX7_mostByTrying_55 : zget (zMt mX7_mostByTrying) 55 = some (.invokevirtual 143, 3) := rfl
theorem gX7_mostByTrying_58 : zget (zMt mX7_mostByTrying) 58 = some (.iconst 1, 1) := rfl
theorem gX7_mostByTrying_59 : zget (zMt mX7_mostByTrying) 59 = some (.iadd, 1) := rfl
theorem gX7_mostByTrying_60 : zget (zMt mX7_mostByTrying) 60 = some (.invokestatic 163, 3) := rfl
theorem gX7_mostByTrying_63 : zget (zMt mX7_mostByTrying) 63 = some (.iadd, 1) := rfl
theorem gX7_mostByTrying_64 : zget (zMt mX7_mostByTrying) 64 = some (.istore 4, 2) := rfl
theorem gX7_mostByTrying_66 : zget (zMt mX7_mostByTrying) 66 = some (.iload_n 3, 1) := rfl
theorem gX7_mostByTrying_67 : zget (zMt mX7_mostByTrying) 67 = some (.iload 4, 2) := rfl
theorem gX7_mostByTrying_69 : zget (zMt mX7_mostByTrying) 69 = some (.invokestatic 205, 3) := rfl
theorem gX7_mostByTrying_72 : zget (zMt mX7_mostByTrying) 72 = some (.ireturn, 1) := rfl
theorem gX7_read_0 : zget (zMt mX7_read) 0 = some (.iload_n 1, 1) := rfl
theorem gX7_read_1 : zget (zMt mX7_read) 1 = some (.ifCond .lt 15, 3) := rfl
theorem gX7_read_4 : zget (zMt mX7_read) 4 = some (.iload_n 1, 1) := rfl
theorem gX7_read_5 : zget (zMt mX7_read) 5 = some (.aload_n 0, 1) := rfl
theorem gX7_read_6 : zget (zMt mX7_read) 6 = some (.arraylength, 1) := rfl
theorem gX7_read_7 : zget (zMt mX7_read) 7 = some (.if_icmp .ge 9, 3) := rfl
theorem gX7_read_10 : zget (zMt mX7_read) 10 = some (.aload_n 0, 1) := rfl
theorem gX7_read_11 : zget (zMt mX7_read) 11 = some (.iload_n 1, 1) := rfl
theorem gX7_read_12 : zget (zMt mX7_read) 12 = some (.iaload, 1) := rfl
theorem gX7_read_13 : zget (zMt mX7_read) 13 = some (.goto 4, 3) := rfl
theorem gX7_read_16 : zget (zMt mX7_read) 16 = some (.iconst 0, 1) := rfl
theorem gX7_read_17 : zget (zMt mX7_read) 17 = some (.ireturn, 1) := rfl
theorem gX7_write_0 : zget (zMt mX7_write) 0 = some (.iload_n 1, 1) := rfl
theorem gX7_write_1 : zget (zMt mX7_write) 1 = some (.ifCond .lt 13, 3) := rfl
theorem gX7_write_4 : zget (zMt mX7_write) 4 = some (.iload_n 1, 1) := rfl
theorem gX7_write_5 : zget (zMt mX7_write) 5 = some (.aload_n 0, 1) := rfl
theorem gX7_write_6 : zget (zMt mX7_write) 6 = some (.arraylength, 1) := rfl
theorem gX7_write_7 : zget (zMt mX7_write) 7 = some (.if_icmp .ge 7, 3) := rfl
theorem gX7_write_10 : zget (zMt mX7_write) 10 = some (.aload_n 0, 1) := rfl
theorem gX7_write_11 : zget (zMt mX7_write) 11 = some (.iload_n 1, 1) := rfl
theorem gX7_write_12 : zget (zMt mX7_write) 12 = some (.iload_n 2, 1) := rfl
theorem gX7_write_13 : zget (zMt mX7_write) 13 = some (.iastore, 1) := rfl
theorem gX7_write_14 : zget (zMt mX7_write) 14 = some (.return_, 1) := rfl
theorem gX7_readFlag_0 : zget (zMt mX7_readFlag) 0 = some (.iload_n 1, 1) := rfl
theorem gX7_readFlag_1 : zget (zMt mX7_readFlag) 1 = some (.ifCond .lt 19, 3) := rfl
theorem gX7_readFlag_4 : zget (zMt mX7_readFlag) 4 = some (.iload_n 1, 1) := rfl
theorem gX7_readFlag_5 : zget (zMt mX7_readFlag) 5 = some (.aload_n 0, 1) := rfl
theorem gX7_readFlag_6 : zget (zMt mX7_readFlag) 6 = some (.arraylength, 1) := rfl
theorem gX7_readFlag_7 : zget (zMt mX7_readFlag) 7 = some (.if_icmp .ge 13, 3) := rfl
theorem gX7_readFlag_10 : zget (zMt mX7_readFlag) 10 = some (.aload_n 0, 1) := rfl
theorem gX7_readFlag_11 : zget (zMt mX7_readFlag) 11 = some (.iload_n 1, 1) := rfl
theorem gX7_readFlag_12 : zget (zMt mX7_readFlag) 12 = some (.baload, 1) := rfl
theorem gX7_readFlag_13 : zget (zMt mX7_readFlag) 13 = some (.ifCond .eq 7, 3) := rfl
theorem gX7_readFlag_16 : zget (zMt mX7_readFlag) 16 = some (.iconst 1, 1) := rfl
theorem gX7_readFlag_17 : zget (zMt mX7_readFlag) 17 = some (.goto 4, 3) := rfl
theorem gX7_readFlag_20 : zget (zMt mX7_readFlag) 20 = some (.iconst 0, 1) := rfl
theorem gX7_readFlag_21 : zget (zMt mX7_readFlag) 21 = some (.ireturn, 1) := rfl
theorem gX7_writeFlag_0 : zget (zMt mX7_writeFlag) 0 = some (.iload_n 1, 1) := rfl
theorem gX7_writeFlag_1 : zget (zMt mX7_writeFlag) 1 = some (.ifCond .lt 13, 3) := rfl
theorem gX7_writeFlag_4 : zget (zMt mX7_writeFlag) 4 = some (.iload_n 1, 1) := rfl
theorem gX7_writeFlag_5 : zget (zMt mX7_writeFlag) 5 = some (.aload_n 0, 1) := rfl
theorem gX7_writeFlag_6 : zget (zMt mX7_writeFlag) 6 = some (.arraylength, 1) := rfl
theorem gX7_writeFlag_7 : zget (zMt mX7_writeFlag) 7 = some (.if_icmp .ge 7, 3) := rfl
theorem gX7_writeFlag_10 : zget (zMt mX7_writeFlag) 10 = some (.aload_n 0, 1) := rfl
theorem gX7_writeFlag_11 : zget (zMt mX7_writeFlag) 11 = some (.iload_n 1, 1) := rfl
theorem gX7_writeFlag_12 : zget (zMt mX7_writeFlag) 12 = some (.iload_n 2, 1) := rfl
theorem gX7_writeFlag_13 : zget (zMt mX7_writeFlag) 13 = some (.bastore, 1) := rfl
theorem gX7_writeFlag_14 : zget (zMt mX7_writeFlag) 14 = some (.return_, 1) := rfl
