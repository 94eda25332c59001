theorem d0_init_0 : decode b0_init 0 = .ok (.aload_n 0, 1) := by decide +kernel
theorem d0_init_1 : decode b0_init 1 = .ok (.invokespecial 3, 3) := by decide +kernel
theorem d0_init_4 : decode b0_init 4 = .ok (.aload_n 0, 1) := by decide +kernel
theorem d0_init_5 : decode b0_init 5 = .ok (.bipush 6, 2) := by decide +kernel
theorem d0_init_7 : decode b0_init 7 = .ok (.newarray .int, 2) := by decide +kernel
theorem d0_init_9 : decode b0_init 9 = .ok (.putfield 9, 3) := by decide +kernel
theorem d0_init_12 : decode b0_init 12 = .ok (.aload_n 0, 1) := by decide +kernel
theorem d0_init_13 : decode b0_init 13 = .ok (.bipush 6, 2) := by decide +kernel
theorem d0_init_15 : decode b0_init 15 = .ok (.newarray .int, 2) := by decide +kernel
theorem d0_init_17 : decode b0_init 17 = .ok (.putfield 15, 3) := by decide +kernel
theorem d0_init_20 : decode b0_init 20 = .ok (.aload_n 0, 1) := by decide +kernel
theorem d0_init_21 : decode b0_init 21 = .ok (.iconst (-1), 1) := by decide +kernel
theorem d0_init_22 : decode b0_init 22 = .ok (.putfield 18, 3) := by decide +kernel
theorem d0_init_25 : decode b0_init 25 = .ok (.aload_n 0, 1) := by decide +kernel
theorem d0_init_26 : decode b0_init 26 = .ok (.iconst 0, 1) := by decide +kernel
theorem d0_init_27 : decode b0_init 27 = .ok (.putfield 22, 3) := by decide +kernel
theorem d0_init_30 : decode b0_init 30 = .ok (.aload_n 0, 1) := by decide +kernel
theorem d0_init_31 : decode b0_init 31 = .ok (.iconst 0, 1) := by decide +kernel
theorem d0_init_32 : decode b0_init 32 = .ok (.putfield 25, 3) := by decide +kernel
theorem d0_init_35 : decode b0_init 35 = .ok (.aload_n 0, 1) := by decide +kernel
theorem d0_init_36 : decode b0_init 36 = .ok (.iconst 0, 1) := by decide +kernel
theorem d0_init_37 : decode b0_init 37 = .ok (.putfield 28, 3) := by decide +kernel
theorem d0_init_40 : decode b0_init 40 = .ok (.return_, 1) := by decide +kernel
theorem d0_mayHold_0 : decode b0_mayHold 0 = .ok (.aload_n 0, 1) := by decide +kernel
theorem d0_mayHold_1 : decode b0_mayHold 1 = .ok (.getfield 18, 3) := by decide +kernel
theorem d0_mayHold_4 : decode b0_mayHold 4 = .ok (.iconst (-1), 1) := by decide +kernel
theorem d0_mayHold_5 : decode b0_mayHold 5 = .ok (.if_icmp .eq 11, 3) := by decide +kernel
theorem d0_mayHold_8 : decode b0_mayHold 8 = .ok (.aload_n 0, 1) := by decide +kernel
theorem d0_mayHold_9 : decode b0_mayHold 9 = .ok (.getfield 18, 3) := by decide +kernel
theorem d0_mayHold_12 : decode b0_mayHold 12 = .ok (.iload_n 1, 1) := by decide +kernel
theorem d0_mayHold_13 : decode b0_mayHold 13 = .ok (.if_icmp .ne 7, 3) := by decide +kernel
theorem d0_mayHold_16 : decode b0_mayHold 16 = .ok (.iconst 1, 1) := by decide +kernel
theorem d0_mayHold_17 : decode b0_mayHold 17 = .ok (.goto 4, 3) := by decide +kernel
theorem d0_mayHold_20 : decode b0_mayHold 20 = .ok (.iconst 0, 1) := by decide +kernel
theorem d0_mayHold_21 : decode b0_mayHold 21 = .ok (.ireturn, 1) := by decide +kernel
theorem d0_book_0 : decode b0_book 0 = .ok (.aload_n 0, 1) := by decide +kernel
theorem d0_book_1 : decode b0_book 1 = .ok (.iconst 0, 1) := by decide +kernel
theorem d0_book_2 : decode b0_book 2 = .ok (.invokevirtual 32, 3) := by decide +kernel
theorem d0_book_5 : decode b0_book 5 = .ok (.ireturn, 1) := by decide +kernel
theorem d0_given_0 : decode b0_given 0 = .ok (.aload_n 0, 1) := by decide +kernel
theorem d0_given_1 : decode b0_given 1 = .ok (.aload_n 0, 1) := by decide +kernel
theorem d0_given_2 : decode b0_given 2 = .ok (.iload_n 1, 1) := by decide +kernel
theorem d0_given_3 : decode b0_given 3 = .ok (.invokevirtual 36, 3) := by decide +kernel
theorem d0_given_6 : decode b0_given 6 = .ok (.invokevirtual 32, 3) := by decide +kernel
theorem d0_given_9 : decode b0_given 9 = .ok (.ireturn, 1) := by decide +kernel
theorem d0_firstGiven_0 : decode b0_firstGiven 0 = .ok (.iconst 0, 1) := by decide +kernel
theorem d0_firstGiven_1 : decode b0_firstGiven 1 = .ok (.istore_n 2, 1) := by decide +kernel
theorem d0_firstGiven_2 : decode b0_firstGiven 2 = .ok (.iload_n 2, 1) := by decide +kernel
theorem d0_firstGiven_3 : decode b0_firstGiven 3 = .ok (.aload_n 0, 1) := by decide +kernel
theorem d0_firstGiven_4 : decode b0_firstGiven 4 = .ok (.getfield 22, 3) := by decide +kernel
theorem d0_firstGiven_7 : decode b0_firstGiven 7 = .ok (.if_icmp .ge 19, 3) := by decide +kernel
theorem d0_firstGiven_10 : decode b0_firstGiven 10 = .ok (.aload_n 0, 1) := by decide +kernel
theorem d0_firstGiven_11 : decode b0_firstGiven 11 = .ok (.getfield 9, 3) := by decide +kernel
theorem d0_firstGiven_14 : decode b0_firstGiven 14 = .ok (.iload_n 2, 1) := by decide +kernel
theorem d0_firstGiven_15 : decode b0_firstGiven 15 = .ok (.iaload, 1) := by decide +kernel
theorem d0_firstGiven_16 : decode b0_firstGiven 16 = .ok (.iload_n 1, 1) := by decide +kernel
theorem d0_firstGiven_17 : decode b0_firstGiven 17 = .ok (.if_icmp .gt 9, 3) := by decide +kernel
theorem d0_firstGiven_20 : decode b0_firstGiven 20 = .ok (.iinc 2 1, 3) := by decide +kernel
theorem d0_firstGiven_23 : decode b0_firstGiven 23 = .ok (.goto (-21), 3) := by decide +kernel
theorem d0_firstGiven_26 : decode b0_firstGiven 26 = .ok (.iload_n 2, 1) := by decide +kernel
theorem d0_firstGiven_27 : decode b0_firstGiven 27 = .ok (.ireturn, 1) := by decide +kernel
theorem d0_addLot_0 : decode b0_addLot 0 = .ok (.aload_n 0, 1) := by decide +kernel
theorem d0_addLot_1 : decode b0_addLot 1 = .ok (.getfield 22, 3) := by decide +kernel
theorem d0_addLot_4 : decode b0_addLot 4 = .ok (.bipush 6, 2) := by decide +kernel
theorem d0_addLot_6 : decode b0_addLot 6 = .ok (.if_icmp .lt 4, 3) := by decide +kernel
theorem d0_addLot_9 : decode b0_addLot 9 = .ok (.return_, 1) := by decide +kernel
theorem d0_addLot_10 : decode b0_addLot 10 = .ok (.aload_n 0, 1) := by decide +kernel
theorem d0_addLot_11 : decode b0_addLot 11 = .ok (.getfield 22, 3) := by decide +kernel
theorem d0_addLot_14 : decode b0_addLot 14 = .ok (.istore_n 3, 1) := by decide +kernel
theorem d0_addLot_15 : decode b0_addLot 15 = .ok (.iload_n 3, 1) := by decide +kernel
theorem d0_addLot_16 : decode b0_addLot 16 = .ok (.ifCond .le 49, 3) := by decide +kernel
theorem d0_addLot_19 : decode b0_addLot 19 = .ok (.aload_n 0, 1) := by decide +kernel
theorem d0_addLot_20 : decode b0_addLot 20 = .ok (.getfield 9, 3) := by decide +kernel
theorem d0_addLot_23 : decode b0_addLot 23 = .ok (.iload_n 3, 1) := by decide +kernel
theorem d0_addLot_24 : decode b0_addLot 24 = .ok (.iconst 1, 1) := by decide +kernel
theorem d0_addLot_25 : decode b0_addLot 25 = .ok (.isub, 1) := by decide +kernel
theorem d0_addLot_26 : decode b0_addLot 26 = .ok (.iaload, 1) := by decide +kernel
theorem d0_addLot_27 : decode b0_addLot 27 = .ok (.iload_n 2, 1) := by decide +kernel
theorem d0_addLot_28 : decode b0_addLot 28 = .ok (.if_icmp .le 37, 3) := by decide +kernel
theorem d0_addLot_31 : decode b0_addLot 31 = .ok (.aload_n 0, 1) := by decide +kernel
theorem d0_addLot_32 : decode b0_addLot 32 = .ok (.getfield 9, 3) := by decide +kernel
theorem d0_addLot_35 : decode b0_addLot 35 = .ok (.iload_n 3, 1) := by decide +kernel
theorem d0_addLot_36 : decode b0_addLot 36 = .ok (.aload_n 0, 1) := by decide +kernel
theorem d0_addLot_37 : decode b0_addLot 37 = .ok (.getfield 9, 3) := by decide +kernel
theorem d0_addLot_40 : decode b0_addLot 40 = .ok (.iload_n 3, 1) := by decide +kernel
theorem d0_addLot_41 : decode b0_addLot 41 = .ok (.iconst 1, 1) := by decide +kernel
theorem d0_addLot_42 : decode b0_addLot 42 = .ok (.isub, 1) := by decide +kernel
theorem d0_addLot_43 : decode b0_addLot 43 = .ok (.iaload, 1) := by decide +kernel
theorem d0_addLot_44 : decode b0_addLot 44 = .ok (.iastore, 1) := by decide +kernel
theorem d0_addLot_45 : decode b0_addLot 45 = .ok (.aload_n 0, 1) := by decide +kernel
theorem d0_addLot_46 : decode b0_addLot 46 = .ok (.getfield 15, 3) := by decide +kernel
theorem d0_addLot_49 : decode b0_addLot 49 = .ok (.iload_n 3, 1) := by decide +kernel
theorem d0_addLot_50 : decode b0_addLot 50 = .ok (.aload_n 0, 1) := by decide +kernel
theorem d0_addLot_51 : decode b0_addLot 51 = .ok (.getfield 15, 3) := by decide +kernel
theorem d0_addLot_54 : decode b0_addLot 54 = .ok (.iload_n 3, 1) := by decide +kernel
theorem d0_addLot_55 : decode b0_addLot 55 = .ok (.iconst 1, 1) := by decide +kernel
theorem d0_addLot_56 : decode b0_addLot 56 = .ok (.isub, 1) := by decide +kernel
theorem d0_addLot_57 : decode b0_addLot 57 = .ok (.iaload, 1) := by decide +kernel
theorem d0_addLot_58 : decode b0_addLot 58 = .ok (.iastore, 1) := by decide +kernel
theorem d0_addLot_59 : decode b0_addLot 59 = .ok (.iinc 3 (-1), 3) := by decide +kernel
theorem d0_addLot_62 : decode b0_addLot 62 = .ok (.goto (-47), 3) := by decide +kernel
theorem d0_addLot_65 : decode b0_addLot 65 = .ok (.aload_n 0, 1) := by decide +kernel
theorem d0_addLot_66 : decode b0_addLot 66 = .ok (.getfield 9, 3) := by decide +kernel
theorem d0_addLot_69 : decode b0_addLot 69 = .ok (.iload_n 3, 1) := by decide +kernel
theorem d0_addLot_70 : decode b0_addLot 70 = .ok (.iload_n 2, 1) := by decide +kernel
theorem d0_addLot_71 : decode b0_addLot 71 = .ok (.iastore, 1) := by decide +kernel
theorem d0_addLot_72 : decode b0_addLot 72 = .ok (.aload_n 0, 1) := by decide +kernel
theorem d0_addLot_73 : decode b0_addLot 73 = .ok (.getfield 15, 3) := by decide +kernel
theorem d0_addLot_76 : decode b0_addLot 76 = .ok (.iload_n 3, 1) := by decide +kernel
theorem d0_addLot_77 : decode b0_addLot 77 = .ok (.iload_n 1, 1) := by decide +kernel
theorem d0_addLot_78 : decode b0_addLot 78 = .ok (.iastore, 1) := by decide +kernel
theorem d0_addLot_79 : decode b0_addLot 79 = .ok (.aload_n 0, 1) := by decide +kernel
theorem d0_addLot_80 : decode b0_addLot 80 = .ok (.dup, 1) := by decide +kernel
theorem d0_addLot_81 : decode b0_addLot 81 = .ok (.getfield 22, 3) := by decide +kernel
theorem d0_addLot_84 : decode b0_addLot 84 = .ok (.iconst 1, 1) := by decide +kernel
theorem d0_addLot_85 : decode b0_addLot 85 = .ok (.iadd, 1) := by decide +kernel
theorem d0_addLot_86 : decode b0_addLot 86 = .ok (.putfield 22, 3) := by decide +kernel
theorem d0_addLot_89 : decode b0_addLot 89 = .ok (.return_, 1) := by decide +kernel
theorem d0_remove_0 : decode b0_remove 0 = .ok (.iload_n 1, 1) := by decide +kernel
theorem d0_remove_1 : decode b0_remove 1 = .ok (.istore_n 3, 1) := by decide +kernel
theorem d0_remove_2 : decode b0_remove 2 = .ok (.iload_n 2, 1) := by decide +kernel
theorem d0_remove_3 : decode b0_remove 3 = .ok (.istore 4, 2) := by decide +kernel
theorem d0_remove_5 : decode b0_remove 5 = .ok (.iload 4, 2) := by decide +kernel
theorem d0_remove_7 : decode b0_remove 7 = .ok (.aload_n 0, 1) := by decide +kernel
theorem d0_remove_8 : decode b0_remove 8 = .ok (.getfield 22, 3) := by decide +kernel
theorem d0_remove_11 : decode b0_remove 11 = .ok (.if_icmp .ge 39, 3) := by decide +kernel
theorem d0_remove_14 : decode b0_remove 14 = .ok (.iload_n 3, 1) := by decide +kernel
theorem d0_remove_15 : decode b0_remove 15 = .ok (.aload_n 0, 1) := by decide +kernel
theorem d0_remove_16 : decode b0_remove 16 = .ok (.getfield 15, 3) := by decide +kernel
theorem d0_remove_19 : decode b0_remove 19 = .ok (.iload 4, 2) := by decide +kernel
theorem d0_remove_21 : decode b0_remove 21 = .ok (.iaload, 1) := by decide +kernel
theorem d0_remove_22 : decode b0_remove 22 = .ok (.invokestatic 39, 3) := by decide +kernel
theorem d0_remove_25 : decode b0_remove 25 = .ok (.istore 5, 2) := by decide +kernel
theorem d0_remove_27 : decode b0_remove 27 = .ok (.aload_n 0, 1) := by decide +kernel
theorem d0_remove_28 : decode b0_remove 28 = .ok (.getfield 15, 3) := by decide +kernel
theorem d0_remove_31 : decode b0_remove 31 = .ok (.iload 4, 2) := by decide +kernel
theorem d0_remove_33 : decode b0_remove 33 = .ok (.dup2, 1) := by decide +kernel
theorem d0_remove_34 : decode b0_remove 34 = .ok (.iaload, 1) := by decide +kernel
theorem d0_remove_35 : decode b0_remove 35 = .ok (.iload 5, 2) := by decide +kernel
theorem d0_remove_37 : decode b0_remove 37 = .ok (.isub, 1) := by decide +kernel
theorem d0_remove_38 : decode b0_remove 38 = .ok (.iastore, 1) := by decide +kernel
theorem d0_remove_39 : decode b0_remove 39 = .ok (.iload_n 3, 1) := by decide +kernel
theorem d0_remove_40 : decode b0_remove 40 = .ok (.iload 5, 2) := by decide +kernel
theorem d0_remove_42 : decode b0_remove 42 = .ok (.isub, 1) := by decide +kernel
theorem d0_remove_43 : decode b0_remove 43 = .ok (.istore_n 3, 1) := by decide +kernel
theorem d0_remove_44 : decode b0_remove 44 = .ok (.iinc 4 1, 3) := by decide +kernel
theorem d0_remove_47 : decode b0_remove 47 = .ok (.goto (-42), 3) := by decide +kernel
theorem d0_remove_50 : decode b0_remove 50 = .ok (.aload_n 0, 1) := by decide +kernel
theorem d0_remove_51 : decode b0_remove 51 = .ok (.invokevirtual 45, 3) := by decide +kernel
theorem d0_remove_54 : decode b0_remove 54 = .ok (.return_, 1) := by decide +kernel
theorem d0_correctTo_0 : decode b0_correctTo 0 = .ok (.aload_n 0, 1) := by decide +kernel
theorem d0_correctTo_1 : decode b0_correctTo 1 = .ok (.iload_n 1, 1) := by decide +kernel
theorem d0_correctTo_2 : decode b0_correctTo 2 = .ok (.aload_n 0, 1) := by decide +kernel
theorem d0_correctTo_3 : decode b0_correctTo 3 = .ok (.invokevirtual 48, 3) := by decide +kernel
theorem d0_correctTo_6 : decode b0_correctTo 6 = .ok (.isub, 1) := by decide +kernel
theorem d0_correctTo_7 : decode b0_correctTo 7 = .ok (.putfield 25, 3) := by decide +kernel
theorem d0_correctTo_10 : decode b0_correctTo 10 = .ok (.aload_n 0, 1) := by decide +kernel
theorem d0_correctTo_11 : decode b0_correctTo 11 = .ok (.iconst 1, 1) := by decide +kernel
theorem d0_correctTo_12 : decode b0_correctTo 12 = .ok (.putfield 28, 3) := by decide +kernel
theorem d0_correctTo_15 : decode b0_correctTo 15 = .ok (.aload_n 0, 1) := by decide +kernel
theorem d0_correctTo_16 : decode b0_correctTo 16 = .ok (.getfield 25, 3) := by decide +kernel
theorem d0_correctTo_19 : decode b0_correctTo 19 = .ok (.ifCond .ge 16, 3) := by decide +kernel
theorem d0_correctTo_22 : decode b0_correctTo 22 = .ok (.aload_n 0, 1) := by decide +kernel
theorem d0_correctTo_23 : decode b0_correctTo 23 = .ok (.aload_n 0, 1) := by decide +kernel
theorem d0_correctTo_24 : decode b0_correctTo 24 = .ok (.getfield 25, 3) := by decide +kernel
theorem d0_correctTo_27 : decode b0_correctTo 27 = .ok (.ineg, 1) := by decide +kernel
theorem d0_correctTo_28 : decode b0_correctTo 28 = .ok (.iconst 0, 1) := by decide +kernel
theorem d0_correctTo_29 : decode b0_correctTo 29 = .ok (.invokevirtual 52, 3) := by decide +kernel
theorem d0_correctTo_32 : decode b0_correctTo 32 = .ok (.goto 54, 3) := by decide +kernel
theorem d0_correctTo_35 : decode b0_correctTo 35 = .ok (.aload_n 0, 1) := by decide +kernel
theorem d0_correctTo_36 : decode b0_correctTo 36 = .ok (.getfield 25, 3) := by decide +kernel
theorem d0_correctTo_39 : decode b0_correctTo 39 = .ok (.ifCond .le 22, 3) := by decide +kernel
theorem d0_correctTo_42 : decode b0_correctTo 42 = .ok (.aload_n 0, 1) := by decide +kernel
theorem d0_correctTo_43 : decode b0_correctTo 43 = .ok (.getfield 22, 3) := by decide +kernel
theorem d0_correctTo_46 : decode b0_correctTo 46 = .ok (.ifCond .ne 15, 3) := by decide +kernel
theorem d0_correctTo_49 : decode b0_correctTo 49 = .ok (.aload_n 0, 1) := by decide +kernel
theorem d0_correctTo_50 : decode b0_correctTo 50 = .ok (.aload_n 0, 1) := by decide +kernel
theorem d0_correctTo_51 : decode b0_correctTo 51 = .ok (.getfield 25, 3) := by decide +kernel
theorem d0_correctTo_54 : decode b0_correctTo 54 = .ok (.iload_n 2, 1) := by decide +kernel
theorem d0_correctTo_55 : decode b0_correctTo 55 = .ok (.invokevirtual 56, 3) := by decide +kernel
theorem d0_correctTo_58 : decode b0_correctTo 58 = .ok (.goto 28, 3) := by decide +kernel
theorem d0_correctTo_61 : decode b0_correctTo 61 = .ok (.aload_n 0, 1) := by decide +kernel
theorem d0_correctTo_62 : decode b0_correctTo 62 = .ok (.getfield 25, 3) := by decide +kernel
theorem d0_correctTo_65 : decode b0_correctTo 65 = .ok (.ifCond .le 21, 3) := by decide +kernel
theorem d0_correctTo_68 : decode b0_correctTo 68 = .ok (.aload_n 0, 1) := by decide +kernel
theorem d0_correctTo_69 : decode b0_correctTo 69 = .ok (.getfield 15, 3) := by decide +kernel
theorem d0_correctTo_72 : decode b0_correctTo 72 = .ok (.aload_n 0, 1) := by decide +kernel
theorem d0_correctTo_73 : decode b0_correctTo 73 = .ok (.getfield 22, 3) := by decide +kernel
theorem d0_correctTo_76 : decode b0_correctTo 76 = .ok (.iconst 1, 1) := by decide +kernel
theorem d0_correctTo_77 : decode b0_correctTo 77 = .ok (.isub, 1) := by decide +kernel
theorem d0_correctTo_78 : decode b0_correctTo 78 = .ok (.dup2, 1) := by decide +kernel
theorem d0_correctTo_79 : decode b0_correctTo 79 = .ok (.iaload, 1) := by decide +kernel
theorem d0_correctTo_80 : decode b0_correctTo 80 = .ok (.aload_n 0, 1) := by decide +kernel
theorem d0_correctTo_81 : decode b0_correctTo 81 = .ok (.getfield 25, 3) := by decide +kernel
theorem d0_correctTo_84 : decode b0_correctTo 84 = .ok (.iadd, 1) := by decide +kernel
theorem d0_correctTo_85 : decode b0_correctTo 85 = .ok (.iastore, 1) := by decide +kernel
theorem d0_correctTo_86 : decode b0_correctTo 86 = .ok (.return_, 1) := by decide +kernel
theorem d0_sumFrom_0 : decode b0_sumFrom 0 = .ok (.iconst 0, 1) := by decide +kernel
theorem d0_sumFrom_1 : decode b0_sumFrom 1 = .ok (.istore_n 2, 1) := by decide +kernel
theorem d0_sumFrom_2 : decode b0_sumFrom 2 = .ok (.iload_n 1, 1) := by decide +kernel
theorem d0_sumFrom_3 : decode b0_sumFrom 3 = .ok (.istore_n 3, 1) := by decide +kernel
theorem d0_sumFrom_4 : decode b0_sumFrom 4 = .ok (.iload_n 3, 1) := by decide +kernel
theorem d0_sumFrom_5 : decode b0_sumFrom 5 = .ok (.aload_n 0, 1) := by decide +kernel
theorem d0_sumFrom_6 : decode b0_sumFrom 6 = .ok (.getfield 22, 3) := by decide +kernel
theorem d0_sumFrom_9 : decode b0_sumFrom 9 = .ok (.if_icmp .ge 18, 3) := by decide +kernel
theorem d0_sumFrom_12 : decode b0_sumFrom 12 = .ok (.iload_n 2, 1) := by decide +kernel
theorem d0_sumFrom_13 : decode b0_sumFrom 13 = .ok (.aload_n 0, 1) := by decide +kernel
theorem d0_sumFrom_14 : decode b0_sumFrom 14 = .ok (.getfield 15, 3) := by decide +kernel
theorem d0_sumFrom_17 : decode b0_sumFrom 17 = .ok (.iload_n 3, 1) := by decide +kernel
theorem d0_sumFrom_18 : decode b0_sumFrom 18 = .ok (.iaload, 1) := by decide +kernel
theorem d0_sumFrom_19 : decode b0_sumFrom 19 = .ok (.iadd, 1) := by decide +kernel
theorem d0_sumFrom_20 : decode b0_sumFrom 20 = .ok (.istore_n 2, 1) := by decide +kernel
theorem d0_sumFrom_21 : decode b0_sumFrom 21 = .ok (.iinc 3 1, 3) := by decide +kernel
theorem d0_sumFrom_24 : decode b0_sumFrom 24 = .ok (.goto (-20), 3) := by decide +kernel
theorem d0_sumFrom_27 : decode b0_sumFrom 27 = .ok (.iload_n 2, 1) := by decide +kernel
theorem d0_sumFrom_28 : decode b0_sumFrom 28 = .ok (.ireturn, 1) := by decide +kernel
theorem d0_dropEmptyLots_0 : decode b0_dropEmptyLots 0 = .ok (.iconst 0, 1) := by decide +kernel
theorem d0_dropEmptyLots_1 : decode b0_dropEmptyLots 1 = .ok (.istore_n 1, 1) := by decide +kernel
theorem d0_dropEmptyLots_2 : decode b0_dropEmptyLots 2 = .ok (.iconst 0, 1) := by decide +kernel
theorem d0_dropEmptyLots_3 : decode b0_dropEmptyLots 3 = .ok (.istore_n 2, 1) := by decide +kernel
theorem d0_dropEmptyLots_4 : decode b0_dropEmptyLots 4 = .ok (.iload_n 2, 1) := by decide +kernel
theorem d0_dropEmptyLots_5 : decode b0_dropEmptyLots 5 = .ok (.aload_n 0, 1) := by decide +kernel
theorem d0_dropEmptyLots_6 : decode b0_dropEmptyLots 6 = .ok (.getfield 22, 3) := by decide +kernel
theorem d0_dropEmptyLots_9 : decode b0_dropEmptyLots 9 = .ok (.if_icmp .ge 45, 3) := by decide +kernel
theorem d0_dropEmptyLots_12 : decode b0_dropEmptyLots 12 = .ok (.aload_n 0, 1) := by decide +kernel
theorem d0_dropEmptyLots_13 : decode b0_dropEmptyLots 13 = .ok (.getfield 15, 3) := by decide +kernel
theorem d0_dropEmptyLots_16 : decode b0_dropEmptyLots 16 = .ok (.iload_n 2, 1) := by decide +kernel
theorem d0_dropEmptyLots_17 : decode b0_dropEmptyLots 17 = .ok (.iaload, 1) := by decide +kernel
theorem d0_dropEmptyLots_18 : decode b0_dropEmptyLots 18 = .ok (.ifCond .le 30, 3) := by decide +kernel
theorem d0_dropEmptyLots_21 : decode b0_dropEmptyLots 21 = .ok (.aload_n 0, 1) := by decide +kernel
theorem d0_dropEmptyLots_22 : decode b0_dropEmptyLots 22 = .ok (.getfield 9, 3) := by decide +kernel
theorem d0_dropEmptyLots_25 : decode b0_dropEmptyLots 25 = .ok (.iload_n 1, 1) := by decide +kernel
theorem d0_dropEmptyLots_26 : decode b0_dropEmptyLots 26 = .ok (.aload_n 0, 1) := by decide +kernel
theorem d0_dropEmptyLots_27 : decode b0_dropEmptyLots 27 = .ok (.getfield 9, 3) := by decide +kernel
theorem d0_dropEmptyLots_30 : decode b0_dropEmptyLots 30 = .ok (.iload_n 2, 1) := by decide +kernel
theorem d0_dropEmptyLots_31 : decode b0_dropEmptyLots 31 = .ok (.iaload, 1) := by decide +kernel
theorem d0_dropEmptyLots_32 : decode b0_dropEmptyLots 32 = .ok (.iastore, 1) := by decide +kernel
theorem d0_dropEmptyLots_33 : decode b0_dropEmptyLots 33 = .ok (.aload_n 0, 1) := by decide +kernel
theorem d0_dropEmptyLots_34 : decode b0_dropEmptyLots 34 = .ok (.getfield 15, 3) := by decide +kernel
theorem d0_dropEmptyLots_37 : decode b0_dropEmptyLots 37 = .ok (.iload_n 1, 1) := by decide +kernel
theorem d0_dropEmptyLots_38 : decode b0_dropEmptyLots 38 = .ok (.aload_n 0, 1) := by decide +kernel
theorem d0_dropEmptyLots_39 : decode b0_dropEmptyLots 39 = .ok (.getfield 15, 3) := by decide +kernel
theorem d0_dropEmptyLots_42 : decode b0_dropEmptyLots 42 = .ok (.iload_n 2, 1) := by decide +kernel
theorem d0_dropEmptyLots_43 : decode b0_dropEmptyLots 43 = .ok (.iaload, 1) := by decide +kernel
theorem d0_dropEmptyLots_44 : decode b0_dropEmptyLots 44 = .ok (.iastore, 1) := by decide +kernel
theorem d0_dropEmptyLots_45 : decode b0_dropEmptyLots 45 = .ok (.iinc 1 1, 3) := by decide +kernel
theorem d0_dropEmptyLots_48 : decode b0_dropEmptyLots 48 = .ok (.iinc 2 1, 3) := by decide +kernel
theorem d0_dropEmptyLots_51 : decode b0_dropEmptyLots 51 = .ok (.goto (-47), 3) := by decide +kernel
theorem d0_dropEmptyLots_54 : decode b0_dropEmptyLots 54 = .ok (.aload_n 0, 1) := by decide +kernel
theorem d0_dropEmptyLots_55 : decode b0_dropEmptyLots 55 = .ok (.iload_n 1, 1) := by decide +kernel
theorem d0_dropEmptyLots_56 : decode b0_dropEmptyLots 56 = .ok (.putfield 22, 3) := by decide +kernel
theorem d0_dropEmptyLots_59 : decode b0_dropEmptyLots 59 = .ok (.return_, 1) := by decide +kernel
theorem d1_init_0 : decode b1_init 0 = .ok (.aload_n 0, 1) := by decide +kernel
theorem d1_init_1 : decode b1_init 1 = .ok (.invokespecial 1, 3) := by decide +kernel
theorem d1_init_4 : decode b1_init 4 = .ok (.aload_n 0, 1) := by decide +kernel
theorem d1_init_5 : decode b1_init 5 = .ok (.iconst 0, 1) := by decide +kernel
theorem d1_init_6 : decode b1_init 6 = .ok (.putfield 7, 3) := by decide +kernel
theorem d1_init_9 : decode b1_init 9 = .ok (.aload_n 0, 1) := by decide +kernel
theorem d1_init_10 : decode b1_init 10 = .ok (.iload_n 1, 1) := by decide +kernel
theorem d1_init_11 : decode b1_init 11 = .ok (.putfield 13, 3) := by decide +kernel
theorem d1_init_14 : decode b1_init 14 = .ok (.aload_n 0, 1) := by decide +kernel
theorem d1_init_15 : decode b1_init 15 = .ok (.iload_n 2, 1) := by decide +kernel
theorem d1_init_16 : decode b1_init 16 = .ok (.putfield 17, 3) := by decide +kernel
theorem d1_init_19 : decode b1_init 19 = .ok (.return_, 1) := by decide +kernel
theorem d2_init_0 : decode b2_init 0 = .ok (.aload_n 0, 1) := by decide +kernel
theorem d2_init_1 : decode b2_init 1 = .ok (.invokespecial 3, 3) := by decide +kernel
theorem d2_init_4 : decode b2_init 4 = .ok (.aload_n 0, 1) := by decide +kernel
theorem d2_init_5 : decode b2_init 5 = .ok (.iconst 2, 1) := by decide +kernel
theorem d2_init_6 : decode b2_init 6 = .ok (.newarray .boolean, 2) := by decide +kernel
theorem d2_init_8 : decode b2_init 8 = .ok (.putfield 11, 3) := by decide +kernel
theorem d2_init_11 : decode b2_init 11 = .ok (.aload_n 0, 1) := by decide +kernel
theorem d2_init_12 : decode b2_init 12 = .ok (.iconst 0, 1) := by decide +kernel
theorem d2_init_13 : decode b2_init 13 = .ok (.putfield 15, 3) := by decide +kernel
theorem d2_init_16 : decode b2_init 16 = .ok (.aload_n 0, 1) := by decide +kernel
theorem d2_init_17 : decode b2_init 17 = .ok (.iconst 2, 1) := by decide +kernel
theorem d2_init_18 : decode b2_init 18 = .ok (.sipush 1800, 3) := by decide +kernel
theorem d2_init_21 : decode b2_init 21 = .ok (.multianewarray 19 2, 4) := by decide +kernel
theorem d2_init_25 : decode b2_init 25 = .ok (.putfield 21, 3) := by decide +kernel
theorem d2_init_28 : decode b2_init 28 = .ok (.return_, 1) := by decide +kernel
theorem d2_wholeCopies_0 : decode b2_wholeCopies 0 = .ok (.aload_n 0, 1) := by decide +kernel
theorem d2_wholeCopies_1 : decode b2_wholeCopies 1 = .ok (.getfield 11, 3) := by decide +kernel
theorem d2_wholeCopies_4 : decode b2_wholeCopies 4 = .ok (.iconst 0, 1) := by decide +kernel
theorem d2_wholeCopies_5 : decode b2_wholeCopies 5 = .ok (.baload, 1) := by decide +kernel
theorem d2_wholeCopies_6 : decode b2_wholeCopies 6 = .ok (.ifCond .eq 7, 3) := by decide +kernel
theorem d2_wholeCopies_9 : decode b2_wholeCopies 9 = .ok (.iconst 0, 1) := by decide +kernel
theorem d2_wholeCopies_10 : decode b2_wholeCopies 10 = .ok (.goto 4, 3) := by decide +kernel
theorem d2_wholeCopies_13 : decode b2_wholeCopies 13 = .ok (.iconst 1, 1) := by decide +kernel
theorem d2_wholeCopies_14 : decode b2_wholeCopies 14 = .ok (.aload_n 0, 1) := by decide +kernel
theorem d2_wholeCopies_15 : decode b2_wholeCopies 15 = .ok (.getfield 11, 3) := by decide +kernel
theorem d2_wholeCopies_18 : decode b2_wholeCopies 18 = .ok (.iconst 1, 1) := by decide +kernel
theorem d2_wholeCopies_19 : decode b2_wholeCopies 19 = .ok (.baload, 1) := by decide +kernel
theorem d2_wholeCopies_20 : decode b2_wholeCopies 20 = .ok (.ifCond .eq 7, 3) := by decide +kernel
theorem d2_wholeCopies_23 : decode b2_wholeCopies 23 = .ok (.iconst 0, 1) := by decide +kernel
theorem d2_wholeCopies_24 : decode b2_wholeCopies 24 = .ok (.goto 4, 3) := by decide +kernel
theorem d2_wholeCopies_27 : decode b2_wholeCopies 27 = .ok (.iconst 1, 1) := by decide +kernel
theorem d2_wholeCopies_28 : decode b2_wholeCopies 28 = .ok (.iadd, 1) := by decide +kernel
theorem d2_wholeCopies_29 : decode b2_wholeCopies 29 = .ok (.ireturn, 1) := by decide +kernel
theorem d2_write_0 : decode b2_write 0 = .ok (.aload_n 0, 1) := by decide +kernel
theorem d2_write_1 : decode b2_write 1 = .ok (.getfield 15, 3) := by decide +kernel
theorem d2_write_4 : decode b2_write 4 = .ok (.sipush 300, 3) := by decide +kernel
theorem d2_write_7 : decode b2_write 7 = .ok (.if_icmp .lt 4, 3) := by decide +kernel
theorem d2_write_10 : decode b2_write 10 = .ok (.return_, 1) := by decide +kernel
theorem d2_write_11 : decode b2_write 11 = .ok (.iconst 0, 1) := by decide +kernel
theorem d2_write_12 : decode b2_write 12 = .ok (.istore 7, 2) := by decide +kernel
theorem d2_write_14 : decode b2_write 14 = .ok (.iload 7, 2) := by decide +kernel
theorem d2_write_16 : decode b2_write 16 = .ok (.iconst 2, 1) := by decide +kernel
theorem d2_write_17 : decode b2_write 17 = .ok (.if_icmp .ge 86, 3) := by decide +kernel
theorem d2_write_20 : decode b2_write 20 = .ok (.aload_n 0, 1) := by decide +kernel
theorem d2_write_21 : decode b2_write 21 = .ok (.getfield 11, 3) := by decide +kernel
theorem d2_write_24 : decode b2_write 24 = .ok (.iload 7, 2) := by decide +kernel
theorem d2_write_26 : decode b2_write 26 = .ok (.baload, 1) := by decide +kernel
theorem d2_write_27 : decode b2_write 27 = .ok (.ifCond .ne 70, 3) := by decide +kernel
theorem d2_write_30 : decode b2_write 30 = .ok (.aload_n 0, 1) := by decide +kernel
theorem d2_write_31 : decode b2_write 31 = .ok (.getfield 21, 3) := by decide +kernel
theorem d2_write_34 : decode b2_write 34 = .ok (.iload 7, 2) := by decide +kernel
theorem d2_write_36 : decode b2_write 36 = .ok (.aaload, 1) := by decide +kernel
theorem d2_write_37 : decode b2_write 37 = .ok (.astore 8, 2) := by decide +kernel
theorem d2_write_39 : decode b2_write 39 = .ok (.aload_n 0, 1) := by decide +kernel
theorem d2_write_40 : decode b2_write 40 = .ok (.getfield 15, 3) := by decide +kernel
theorem d2_write_43 : decode b2_write 43 = .ok (.bipush 6, 2) := by decide +kernel
theorem d2_write_45 : decode b2_write 45 = .ok (.imul, 1) := by decide +kernel
theorem d2_write_46 : decode b2_write 46 = .ok (.istore 9, 2) := by decide +kernel
theorem d2_write_48 : decode b2_write 48 = .ok (.aload 8, 2) := by decide +kernel
theorem d2_write_50 : decode b2_write 50 = .ok (.iload 9, 2) := by decide +kernel
theorem d2_write_52 : decode b2_write 52 = .ok (.iload_n 1, 1) := by decide +kernel
theorem d2_write_53 : decode b2_write 53 = .ok (.iastore, 1) := by decide +kernel
theorem d2_write_54 : decode b2_write 54 = .ok (.aload 8, 2) := by decide +kernel
theorem d2_write_56 : decode b2_write 56 = .ok (.iload 9, 2) := by decide +kernel
theorem d2_write_58 : decode b2_write 58 = .ok (.iconst 1, 1) := by decide +kernel
theorem d2_write_59 : decode b2_write 59 = .ok (.iadd, 1) := by decide +kernel
theorem d2_write_60 : decode b2_write 60 = .ok (.iload_n 2, 1) := by decide +kernel
theorem d2_write_61 : decode b2_write 61 = .ok (.iastore, 1) := by decide +kernel
theorem d2_write_62 : decode b2_write 62 = .ok (.aload 8, 2) := by decide +kernel
theorem d2_write_64 : decode b2_write 64 = .ok (.iload 9, 2) := by decide +kernel
theorem d2_write_66 : decode b2_write 66 = .ok (.iconst 2, 1) := by decide +kernel
theorem d2_write_67 : decode b2_write 67 = .ok (.iadd, 1) := by decide +kernel
theorem d2_write_68 : decode b2_write 68 = .ok (.iload_n 3, 1) := by decide +kernel
theorem d2_write_69 : decode b2_write 69 = .ok (.iastore, 1) := by decide +kernel
theorem d2_write_70 : decode b2_write 70 = .ok (.aload 8, 2) := by decide +kernel
theorem d2_write_72 : decode b2_write 72 = .ok (.iload 9, 2) := by decide +kernel
theorem d2_write_74 : decode b2_write 74 = .ok (.iconst 3, 1) := by decide +kernel
theorem d2_write_75 : decode b2_write 75 = .ok (.iadd, 1) := by decide +kernel
theorem d2_write_76 : decode b2_write 76 = .ok (.iload 4, 2) := by decide +kernel
theorem d2_write_78 : decode b2_write 78 = .ok (.iastore, 1) := by decide +kernel
theorem d2_write_79 : decode b2_write 79 = .ok (.aload 8, 2) := by decide +kernel
theorem d2_write_81 : decode b2_write 81 = .ok (.iload 9, 2) := by decide +kernel
theorem d2_write_83 : decode b2_write 83 = .ok (.iconst 4, 1) := by decide +kernel
theorem d2_write_84 : decode b2_write 84 = .ok (.iadd, 1) := by decide +kernel
theorem d2_write_85 : decode b2_write 85 = .ok (.iload 5, 2) := by decide +kernel
theorem d2_write_87 : decode b2_write 87 = .ok (.iastore, 1) := by decide +kernel
theorem d2_write_88 : decode b2_write 88 = .ok (.aload 8, 2) := by decide +kernel
theorem d2_write_90 : decode b2_write 90 = .ok (.iload 9, 2) := by decide +kernel
theorem d2_write_92 : decode b2_write 92 = .ok (.iconst 5, 1) := by decide +kernel
theorem d2_write_93 : decode b2_write 93 = .ok (.iadd, 1) := by decide +kernel
theorem d2_write_94 : decode b2_write 94 = .ok (.iload 6, 2) := by decide +kernel
theorem d2_write_96 : decode b2_write 96 = .ok (.iastore, 1) := by decide +kernel
theorem d2_write_97 : decode b2_write 97 = .ok (.iinc 7 1, 3) := by decide +kernel
theorem d2_write_100 : decode b2_write 100 = .ok (.goto (-86), 3) := by decide +kernel
theorem d2_write_103 : decode b2_write 103 = .ok (.aload_n 0, 1) := by decide +kernel
theorem d2_write_104 : decode b2_write 104 = .ok (.dup, 1) := by decide +kernel
theorem d2_write_105 : decode b2_write 105 = .ok (.getfield 15, 3) := by decide +kernel
theorem d2_write_108 : decode b2_write 108 = .ok (.iconst 1, 1) := by decide +kernel
theorem d2_write_109 : decode b2_write 109 = .ok (.iadd, 1) := by decide +kernel
theorem d2_write_110 : decode b2_write 110 = .ok (.putfield 15, 3) := by decide +kernel
theorem d2_write_113 : decode b2_write 113 = .ok (.return_, 1) := by decide +kernel
theorem d2_read_0 : decode b2_read 0 = .ok (.aload_n 0, 1) := by decide +kernel
theorem d2_read_1 : decode b2_read 1 = .ok (.getfield 21, 3) := by decide +kernel
theorem d2_read_4 : decode b2_read 4 = .ok (.aload_n 0, 1) := by decide +kernel
theorem d2_read_5 : decode b2_read 5 = .ok (.getfield 11, 3) := by decide +kernel
theorem d2_read_8 : decode b2_read 8 = .ok (.iconst 0, 1) := by decide +kernel
theorem d2_read_9 : decode b2_read 9 = .ok (.baload, 1) := by decide +kernel
theorem d2_read_10 : decode b2_read 10 = .ok (.ifCond .eq 7, 3) := by decide +kernel
theorem d2_read_13 : decode b2_read 13 = .ok (.iconst 1, 1) := by decide +kernel
theorem d2_read_14 : decode b2_read 14 = .ok (.goto 4, 3) := by decide +kernel
theorem d2_read_17 : decode b2_read 17 = .ok (.iconst 0, 1) := by decide +kernel
theorem d2_read_18 : decode b2_read 18 = .ok (.aaload, 1) := by decide +kernel
theorem d2_read_19 : decode b2_read 19 = .ok (.iload_n 1, 1) := by decide +kernel
theorem d2_read_20 : decode b2_read 20 = .ok (.bipush 6, 2) := by decide +kernel
theorem d2_read_22 : decode b2_read 22 = .ok (.imul, 1) := by decide +kernel
theorem d2_read_23 : decode b2_read 23 = .ok (.iload_n 2, 1) := by decide +kernel
theorem d2_read_24 : decode b2_read 24 = .ok (.iadd, 1) := by decide +kernel
theorem d2_read_25 : decode b2_read 25 = .ok (.iaload, 1) := by decide +kernel
theorem d2_read_26 : decode b2_read 26 = .ok (.ireturn, 1) := by decide +kernel
theorem d2_makeWhole_0 : decode b2_makeWhole 0 = .ok (.iconst 0, 1) := by decide +kernel
theorem d2_makeWhole_1 : decode b2_makeWhole 1 = .ok (.istore_n 1, 1) := by decide +kernel
theorem d2_makeWhole_2 : decode b2_makeWhole 2 = .ok (.iload_n 1, 1) := by decide +kernel
theorem d2_makeWhole_3 : decode b2_makeWhole 3 = .ok (.iconst 2, 1) := by decide +kernel
theorem d2_makeWhole_4 : decode b2_makeWhole 4 = .ok (.if_icmp .ge 51, 3) := by decide +kernel
theorem d2_makeWhole_7 : decode b2_makeWhole 7 = .ok (.aload_n 0, 1) := by decide +kernel
theorem d2_makeWhole_8 : decode b2_makeWhole 8 = .ok (.getfield 11, 3) := by decide +kernel
theorem d2_makeWhole_11 : decode b2_makeWhole 11 = .ok (.iload_n 1, 1) := by decide +kernel
theorem d2_makeWhole_12 : decode b2_makeWhole 12 = .ok (.baload, 1) := by decide +kernel
theorem d2_makeWhole_13 : decode b2_makeWhole 13 = .ok (.ifCond .eq 36, 3) := by decide +kernel
theorem d2_makeWhole_16 : decode b2_makeWhole 16 = .ok (.aload_n 0, 1) := by decide +kernel
theorem d2_makeWhole_17 : decode b2_makeWhole 17 = .ok (.getfield 21, 3) := by decide +kernel
theorem d2_makeWhole_20 : decode b2_makeWhole 20 = .ok (.iconst 1, 1) := by decide +kernel
theorem d2_makeWhole_21 : decode b2_makeWhole 21 = .ok (.iload_n 1, 1) := by decide +kernel
theorem d2_makeWhole_22 : decode b2_makeWhole 22 = .ok (.isub, 1) := by decide +kernel
theorem d2_makeWhole_23 : decode b2_makeWhole 23 = .ok (.aaload, 1) := by decide +kernel
theorem d2_makeWhole_24 : decode b2_makeWhole 24 = .ok (.iconst 0, 1) := by decide +kernel
theorem d2_makeWhole_25 : decode b2_makeWhole 25 = .ok (.aload_n 0, 1) := by decide +kernel
theorem d2_makeWhole_26 : decode b2_makeWhole 26 = .ok (.getfield 21, 3) := by decide +kernel
theorem d2_makeWhole_29 : decode b2_makeWhole 29 = .ok (.iload_n 1, 1) := by decide +kernel
theorem d2_makeWhole_30 : decode b2_makeWhole 30 = .ok (.aaload, 1) := by decide +kernel
theorem d2_makeWhole_31 : decode b2_makeWhole 31 = .ok (.iconst 0, 1) := by decide +kernel
theorem d2_makeWhole_32 : decode b2_makeWhole 32 = .ok (.aload_n 0, 1) := by decide +kernel
theorem d2_makeWhole_33 : decode b2_makeWhole 33 = .ok (.getfield 15, 3) := by decide +kernel
theorem d2_makeWhole_36 : decode b2_makeWhole 36 = .ok (.bipush 6, 2) := by decide +kernel
theorem d2_makeWhole_38 : decode b2_makeWhole 38 = .ok (.imul, 1) := by decide +kernel
theorem d2_makeWhole_39 : decode b2_makeWhole 39 = .ok (.invokestatic 24, 3) := by decide +kernel
theorem d2_makeWhole_42 : decode b2_makeWhole 42 = .ok (.aload_n 0, 1) := by decide +kernel
theorem d2_makeWhole_43 : decode b2_makeWhole 43 = .ok (.getfield 11, 3) := by decide +kernel
theorem d2_makeWhole_46 : decode b2_makeWhole 46 = .ok (.iload_n 1, 1) := by decide +kernel
theorem d2_makeWhole_47 : decode b2_makeWhole 47 = .ok (.iconst 0, 1) := by decide +kernel
theorem d2_makeWhole_48 : decode b2_makeWhole 48 = .ok (.bastore, 1) := by decide +kernel
theorem d2_makeWhole_49 : decode b2_makeWhole 49 = .ok (.iinc 1 1, 3) := by decide +kernel
theorem d2_makeWhole_52 : decode b2_makeWhole 52 = .ok (.goto (-50), 3) := by decide +kernel
theorem d2_makeWhole_55 : decode b2_makeWhole 55 = .ok (.return_, 1) := by decide +kernel
theorem d2_readBooks_0 : decode b2_readBooks 0 = .ok (.iconst 0, 1) := by decide +kernel
theorem d2_readBooks_1 : decode b2_readBooks 1 = .ok (.istore_n 2, 1) := by decide +kernel
theorem d2_readBooks_2 : decode b2_readBooks 2 = .ok (.iload_n 2, 1) := by decide +kernel
theorem d2_readBooks_3 : decode b2_readBooks 3 = .ok (.aload_n 1, 1) := by decide +kernel
theorem d2_readBooks_4 : decode b2_readBooks 4 = .ok (.arraylength, 1) := by decide +kernel
theorem d2_readBooks_5 : decode b2_readBooks 5 = .ok (.if_icmp .ge 13, 3) := by decide +kernel
theorem d2_readBooks_8 : decode b2_readBooks 8 = .ok (.aload_n 1, 1) := by decide +kernel
theorem d2_readBooks_9 : decode b2_readBooks 9 = .ok (.iload_n 2, 1) := by decide +kernel
theorem d2_readBooks_10 : decode b2_readBooks 10 = .ok (.iconst 0, 1) := by decide +kernel
theorem d2_readBooks_11 : decode b2_readBooks 11 = .ok (.iastore, 1) := by decide +kernel
theorem d2_readBooks_12 : decode b2_readBooks 12 = .ok (.iinc 2 1, 3) := by decide +kernel
theorem d2_readBooks_15 : decode b2_readBooks 15 = .ok (.goto (-13), 3) := by decide +kernel
theorem d2_readBooks_18 : decode b2_readBooks 18 = .ok (.iconst 0, 1) := by decide +kernel
theorem d2_readBooks_19 : decode b2_readBooks 19 = .ok (.istore_n 2, 1) := by decide +kernel
theorem d2_readBooks_20 : decode b2_readBooks 20 = .ok (.iload_n 2, 1) := by decide +kernel
theorem d2_readBooks_21 : decode b2_readBooks 21 = .ok (.aload_n 0, 1) := by decide +kernel
theorem d2_readBooks_22 : decode b2_readBooks 22 = .ok (.getfield 15, 3) := by decide +kernel
theorem d2_readBooks_25 : decode b2_readBooks 25 = .ok (.if_icmp .ge 47, 3) := by decide +kernel
theorem d2_readBooks_28 : decode b2_readBooks 28 = .ok (.aload_n 0, 1) := by decide +kernel
theorem d2_readBooks_29 : decode b2_readBooks 29 = .ok (.iload_n 2, 1) := by decide +kernel
theorem d2_readBooks_30 : decode b2_readBooks 30 = .ok (.iconst 3, 1) := by decide +kernel
theorem d2_readBooks_31 : decode b2_readBooks 31 = .ok (.invokevirtual 30, 3) := by decide +kernel
theorem d2_readBooks_34 : decode b2_readBooks 34 = .ok (.istore_n 3, 1) := by decide +kernel
theorem d2_readBooks_35 : decode b2_readBooks 35 = .ok (.iload_n 3, 1) := by decide +kernel
theorem d2_readBooks_36 : decode b2_readBooks 36 = .ok (.ifCond .lt 30, 3) := by decide +kernel
theorem d2_readBooks_39 : decode b2_readBooks 39 = .ok (.iload_n 3, 1) := by decide +kernel
theorem d2_readBooks_40 : decode b2_readBooks 40 = .ok (.aload_n 1, 1) := by decide +kernel
theorem d2_readBooks_41 : decode b2_readBooks 41 = .ok (.arraylength, 1) := by decide +kernel
theorem d2_readBooks_42 : decode b2_readBooks 42 = .ok (.if_icmp .ge 24, 3) := by decide +kernel
theorem d2_readBooks_45 : decode b2_readBooks 45 = .ok (.aload_n 1, 1) := by decide +kernel
theorem d2_readBooks_46 : decode b2_readBooks 46 = .ok (.iload_n 3, 1) := by decide +kernel
theorem d2_readBooks_47 : decode b2_readBooks 47 = .ok (.dup2, 1) := by decide +kernel
theorem d2_readBooks_48 : decode b2_readBooks 48 = .ok (.iaload, 1) := by decide +kernel
theorem d2_readBooks_49 : decode b2_readBooks 49 = .ok (.aload_n 0, 1) := by decide +kernel
theorem d2_readBooks_50 : decode b2_readBooks 50 = .ok (.iload_n 2, 1) := by decide +kernel
theorem d2_readBooks_51 : decode b2_readBooks 51 = .ok (.iconst 0, 1) := by decide +kernel
theorem d2_readBooks_52 : decode b2_readBooks 52 = .ok (.invokevirtual 30, 3) := by decide +kernel
theorem d2_readBooks_55 : decode b2_readBooks 55 = .ok (.aload_n 0, 1) := by decide +kernel
theorem d2_readBooks_56 : decode b2_readBooks 56 = .ok (.iload_n 2, 1) := by decide +kernel
theorem d2_readBooks_57 : decode b2_readBooks 57 = .ok (.iconst 4, 1) := by decide +kernel
theorem d2_readBooks_58 : decode b2_readBooks 58 = .ok (.invokevirtual 30, 3) := by decide +kernel
theorem d2_readBooks_61 : decode b2_readBooks 61 = .ok (.invokestatic 34, 3) := by decide +kernel
theorem d2_readBooks_64 : decode b2_readBooks 64 = .ok (.iadd, 1) := by decide +kernel
theorem d2_readBooks_65 : decode b2_readBooks 65 = .ok (.iastore, 1) := by decide +kernel
theorem d2_readBooks_66 : decode b2_readBooks 66 = .ok (.iinc 2 1, 3) := by decide +kernel
theorem d2_readBooks_69 : decode b2_readBooks 69 = .ok (.goto (-49), 3) := by decide +kernel
theorem d2_readBooks_72 : decode b2_readBooks 72 = .ok (.return_, 1) := by decide +kernel
theorem d2_change_0 : decode b2_change 0 = .ok (.iload_n 0, 1) := by decide +kernel
theorem d2_change_1 : decode b2_change 1 = .ok (.iconst 2, 1) := by decide +kernel
theorem d2_change_2 : decode b2_change 2 = .ok (.if_icmp .eq 8, 3) := by decide +kernel
theorem d2_change_5 : decode b2_change 5 = .ok (.iload_n 0, 1) := by decide +kernel
theorem d2_change_6 : decode b2_change 6 = .ok (.iconst 4, 1) := by decide +kernel
theorem d2_change_7 : decode b2_change 7 = .ok (.if_icmp .ne 8, 3) := by decide +kernel
theorem d2_change_10 : decode b2_change 10 = .ok (.iload_n 1, 1) := by decide +kernel
theorem d2_change_11 : decode b2_change 11 = .ok (.ineg, 1) := by decide +kernel
theorem d2_change_12 : decode b2_change 12 = .ok (.goto 4, 3) := by decide +kernel
theorem d2_change_15 : decode b2_change 15 = .ok (.iload_n 1, 1) := by decide +kernel
theorem d2_change_16 : decode b2_change 16 = .ok (.ireturn, 1) := by decide +kernel
theorem d3_init_0 : decode b3_init 0 = .ok (.aload_n 0, 1) := by decide +kernel
theorem d3_init_1 : decode b3_init 1 = .ok (.invokespecial 1, 3) := by decide +kernel
theorem d3_init_4 : decode b3_init 4 = .ok (.aload_n 0, 1) := by decide +kernel
theorem d3_init_5 : decode b3_init 5 = .ok (.iconst 0, 1) := by decide +kernel
theorem d3_init_6 : decode b3_init 6 = .ok (.putfield 7, 3) := by decide +kernel
theorem d3_init_9 : decode b3_init 9 = .ok (.aload_n 0, 1) := by decide +kernel
theorem d3_init_10 : decode b3_init 10 = .ok (.iconst 0, 1) := by decide +kernel
theorem d3_init_11 : decode b3_init 11 = .ok (.putfield 13, 3) := by decide +kernel
theorem d3_init_14 : decode b3_init 14 = .ok (.aload_n 0, 1) := by decide +kernel
theorem d3_init_15 : decode b3_init 15 = .ok (.iconst 0, 1) := by decide +kernel
theorem d3_init_16 : decode b3_init 16 = .ok (.putfield 16, 3) := by decide +kernel
theorem d3_init_19 : decode b3_init 19 = .ok (.aload_n 0, 1) := by decide +kernel
theorem d3_init_20 : decode b3_init 20 = .ok (.iload_n 1, 1) := by decide +kernel
theorem d3_init_21 : decode b3_init 21 = .ok (.putfield 20, 3) := by decide +kernel
theorem d3_init_24 : decode b3_init 24 = .ok (.aload_n 0, 1) := by decide +kernel
theorem d3_init_25 : decode b3_init 25 = .ok (.iload_n 2, 1) := by decide +kernel
theorem d3_init_26 : decode b3_init 26 = .ok (.putfield 23, 3) := by decide +kernel
theorem d3_init_29 : decode b3_init 29 = .ok (.aload_n 0, 1) := by decide +kernel
theorem d3_init_30 : decode b3_init 30 = .ok (.iload_n 3, 1) := by decide +kernel
theorem d3_init_31 : decode b3_init 31 = .ok (.putfield 26, 3) := by decide +kernel
theorem d3_init_34 : decode b3_init 34 = .ok (.aload_n 0, 1) := by decide +kernel
theorem d3_init_35 : decode b3_init 35 = .ok (.iload 4, 2) := by decide +kernel
theorem d3_init_37 : decode b3_init 37 = .ok (.putfield 29, 3) := by decide +kernel
theorem d3_init_40 : decode b3_init 40 = .ok (.return_, 1) := by decide +kernel
theorem d3_isOpen_0 : decode b3_isOpen 0 = .ok (.iload_n 1, 1) := by decide +kernel
theorem d3_isOpen_1 : decode b3_isOpen 1 = .ok (.aload_n 0, 1) := by decide +kernel
theorem d3_isOpen_2 : decode b3_isOpen 2 = .ok (.getfield 29, 3) := by decide +kernel
theorem d3_isOpen_5 : decode b3_isOpen 5 = .ok (.if_icmp .ge 21, 3) := by decide +kernel
theorem d3_isOpen_8 : decode b3_isOpen 8 = .ok (.aload_n 0, 1) := by decide +kernel
theorem d3_isOpen_9 : decode b3_isOpen 9 = .ok (.getfield 23, 3) := by decide +kernel
theorem d3_isOpen_12 : decode b3_isOpen 12 = .ok (.ifCond .le 14, 3) := by decide +kernel
theorem d3_isOpen_15 : decode b3_isOpen 15 = .ok (.aload_n 0, 1) := by decide +kernel
theorem d3_isOpen_16 : decode b3_isOpen 16 = .ok (.getfield 7, 3) := by decide +kernel
theorem d3_isOpen_19 : decode b3_isOpen 19 = .ok (.ifCond .ne 7, 3) := by decide +kernel
theorem d3_isOpen_22 : decode b3_isOpen 22 = .ok (.iconst 1, 1) := by decide +kernel
theorem d3_isOpen_23 : decode b3_isOpen 23 = .ok (.goto 4, 3) := by decide +kernel
theorem d3_isOpen_26 : decode b3_isOpen 26 = .ok (.iconst 0, 1) := by decide +kernel
theorem d3_isOpen_27 : decode b3_isOpen 27 = .ok (.ireturn, 1) := by decide +kernel
theorem d3_mayTake_0 : decode b3_mayTake 0 = .ok (.aload_n 0, 1) := by decide +kernel
theorem d3_mayTake_1 : decode b3_mayTake 1 = .ok (.iload_n 1, 1) := by decide +kernel
theorem d3_mayTake_2 : decode b3_mayTake 2 = .ok (.invokevirtual 32, 3) := by decide +kernel
theorem d3_mayTake_5 : decode b3_mayTake 5 = .ok (.ifCond .eq 27, 3) := by decide +kernel
theorem d3_mayTake_8 : decode b3_mayTake 8 = .ok (.aload_n 0, 1) := by decide +kernel
theorem d3_mayTake_9 : decode b3_mayTake 9 = .ok (.getfield 13, 3) := by decide +kernel
theorem d3_mayTake_12 : decode b3_mayTake 12 = .ok (.ifCond .eq 16, 3) := by decide +kernel
theorem d3_mayTake_15 : decode b3_mayTake 15 = .ok (.iload_n 1, 1) := by decide +kernel
theorem d3_mayTake_16 : decode b3_mayTake 16 = .ok (.aload_n 0, 1) := by decide +kernel
theorem d3_mayTake_17 : decode b3_mayTake 17 = .ok (.getfield 16, 3) := by decide +kernel
theorem d3_mayTake_20 : decode b3_mayTake 20 = .ok (.isub, 1) := by decide +kernel
theorem d3_mayTake_21 : decode b3_mayTake 21 = .ok (.aload_n 0, 1) := by decide +kernel
theorem d3_mayTake_22 : decode b3_mayTake 22 = .ok (.getfield 26, 3) := by decide +kernel
theorem d3_mayTake_25 : decode b3_mayTake 25 = .ok (.if_icmp .lt 7, 3) := by decide +kernel
theorem d3_mayTake_28 : decode b3_mayTake 28 = .ok (.iconst 1, 1) := by decide +kernel
theorem d3_mayTake_29 : decode b3_mayTake 29 = .ok (.goto 4, 3) := by decide +kernel
theorem d3_mayTake_32 : decode b3_mayTake 32 = .ok (.iconst 0, 1) := by decide +kernel
theorem d3_mayTake_33 : decode b3_mayTake 33 = .ok (.ireturn, 1) := by decide +kernel
theorem d3_take_0 : decode b3_take 0 = .ok (.aload_n 0, 1) := by decide +kernel
theorem d3_take_1 : decode b3_take 1 = .ok (.dup, 1) := by decide +kernel
theorem d3_take_2 : decode b3_take 2 = .ok (.getfield 23, 3) := by decide +kernel
theorem d3_take_5 : decode b3_take 5 = .ok (.iload_n 1, 1) := by decide +kernel
theorem d3_take_6 : decode b3_take 6 = .ok (.isub, 1) := by decide +kernel
theorem d3_take_7 : decode b3_take 7 = .ok (.putfield 23, 3) := by decide +kernel
theorem d3_take_10 : decode b3_take 10 = .ok (.iload_n 1, 1) := by decide +kernel
theorem d3_take_11 : decode b3_take 11 = .ok (.ifCond .le 13, 3) := by decide +kernel
theorem d3_take_14 : decode b3_take 14 = .ok (.aload_n 0, 1) := by decide +kernel
theorem d3_take_15 : decode b3_take 15 = .ok (.iconst 1, 1) := by decide +kernel
theorem d3_take_16 : decode b3_take 16 = .ok (.putfield 13, 3) := by decide +kernel
theorem d3_take_19 : decode b3_take 19 = .ok (.aload_n 0, 1) := by decide +kernel
theorem d3_take_20 : decode b3_take 20 = .ok (.iload_n 2, 1) := by decide +kernel
theorem d3_take_21 : decode b3_take 21 = .ok (.putfield 16, 3) := by decide +kernel
theorem d3_take_24 : decode b3_take 24 = .ok (.return_, 1) := by decide +kernel
theorem d4_init_0 : decode b4_init 0 = .ok (.aload_n 0, 1) := by decide +kernel
theorem d4_init_1 : decode b4_init 1 = .ok (.invokespecial 3, 3) := by decide +kernel
theorem d4_init_4 : decode b4_init 4 = .ok (.aload_n 0, 1) := by decide +kernel
theorem d4_init_5 : decode b4_init 5 = .ok (.iconst (-1), 1) := by decide +kernel
theorem d4_init_6 : decode b4_init 6 = .ok (.putfield 9, 3) := by decide +kernel
theorem d4_init_9 : decode b4_init 9 = .ok (.aload_n 0, 1) := by decide +kernel
theorem d4_init_10 : decode b4_init 10 = .ok (.iconst (-1), 1) := by decide +kernel
theorem d4_init_11 : decode b4_init 11 = .ok (.putfield 15, 3) := by decide +kernel
theorem d4_init_14 : decode b4_init 14 = .ok (.aload_n 0, 1) := by decide +kernel
theorem d4_init_15 : decode b4_init 15 = .ok (.iconst (-1), 1) := by decide +kernel
theorem d4_init_16 : decode b4_init 16 = .ok (.putfield 18, 3) := by decide +kernel
theorem d4_init_19 : decode b4_init 19 = .ok (.aload_n 0, 1) := by decide +kernel
theorem d4_init_20 : decode b4_init 20 = .ok (.iconst 0, 1) := by decide +kernel
theorem d4_init_21 : decode b4_init 21 = .ok (.putfield 21, 3) := by decide +kernel
theorem d4_init_24 : decode b4_init 24 = .ok (.aload_n 0, 1) := by decide +kernel
theorem d4_init_25 : decode b4_init 25 = .ok (.iconst 0, 1) := by decide +kernel
theorem d4_init_26 : decode b4_init 26 = .ok (.putfield 24, 3) := by decide +kernel
theorem d4_init_29 : decode b4_init 29 = .ok (.aload_n 0, 1) := by decide +kernel
theorem d4_init_30 : decode b4_init 30 = .ok (.iconst 0, 1) := by decide +kernel
theorem d4_init_31 : decode b4_init 31 = .ok (.putfield 28, 3) := by decide +kernel
theorem d4_init_34 : decode b4_init 34 = .ok (.aload_n 0, 1) := by decide +kernel
theorem d4_init_35 : decode b4_init 35 = .ok (.iconst 0, 1) := by decide +kernel
theorem d4_init_36 : decode b4_init 36 = .ok (.putfield 31, 3) := by decide +kernel
theorem d4_init_39 : decode b4_init 39 = .ok (.return_, 1) := by decide +kernel
theorem d4_isOpen_0 : decode b4_isOpen 0 = .ok (.aload_n 0, 1) := by decide +kernel
theorem d4_isOpen_1 : decode b4_isOpen 1 = .ok (.getfield 9, 3) := by decide +kernel
theorem d4_isOpen_4 : decode b4_isOpen 4 = .ok (.iconst (-1), 1) := by decide +kernel
theorem d4_isOpen_5 : decode b4_isOpen 5 = .ok (.if_icmp .eq 7, 3) := by decide +kernel
theorem d4_isOpen_8 : decode b4_isOpen 8 = .ok (.iconst 1, 1) := by decide +kernel
theorem d4_isOpen_9 : decode b4_isOpen 9 = .ok (.goto 4, 3) := by decide +kernel
theorem d4_isOpen_12 : decode b4_isOpen 12 = .ok (.iconst 0, 1) := by decide +kernel
theorem d4_isOpen_13 : decode b4_isOpen 13 = .ok (.ireturn, 1) := by decide +kernel
theorem d4_open_0 : decode b4_open 0 = .ok (.aload_n 0, 1) := by decide +kernel
theorem d4_open_1 : decode b4_open 1 = .ok (.iload_n 1, 1) := by decide +kernel
theorem d4_open_2 : decode b4_open 2 = .ok (.putfield 9, 3) := by decide +kernel
theorem d4_open_5 : decode b4_open 5 = .ok (.aload_n 0, 1) := by decide +kernel
theorem d4_open_6 : decode b4_open 6 = .ok (.iload_n 2, 1) := by decide +kernel
theorem d4_open_7 : decode b4_open 7 = .ok (.putfield 15, 3) := by decide +kernel
theorem d4_open_10 : decode b4_open 10 = .ok (.aload_n 0, 1) := by decide +kernel
theorem d4_open_11 : decode b4_open 11 = .ok (.iload_n 3, 1) := by decide +kernel
theorem d4_open_12 : decode b4_open 12 = .ok (.putfield 18, 3) := by decide +kernel
theorem d4_open_15 : decode b4_open 15 = .ok (.aload_n 0, 1) := by decide +kernel
theorem d4_open_16 : decode b4_open 16 = .ok (.iload 4, 2) := by decide +kernel
theorem d4_open_18 : decode b4_open 18 = .ok (.putfield 21, 3) := by decide +kernel
theorem d4_open_21 : decode b4_open 21 = .ok (.aload_n 0, 1) := by decide +kernel
theorem d4_open_22 : decode b4_open 22 = .ok (.iconst 0, 1) := by decide +kernel
theorem d4_open_23 : decode b4_open 23 = .ok (.putfield 28, 3) := by decide +kernel
theorem d4_open_26 : decode b4_open 26 = .ok (.aload_n 0, 1) := by decide +kernel
theorem d4_open_27 : decode b4_open 27 = .ok (.iconst 0, 1) := by decide +kernel
theorem d4_open_28 : decode b4_open 28 = .ok (.putfield 31, 3) := by decide +kernel
theorem d4_open_31 : decode b4_open 31 = .ok (.return_, 1) := by decide +kernel
theorem d4_close_0 : decode b4_close 0 = .ok (.aload_n 0, 1) := by decide +kernel
theorem d4_close_1 : decode b4_close 1 = .ok (.iconst (-1), 1) := by decide +kernel
theorem d4_close_2 : decode b4_close 2 = .ok (.putfield 9, 3) := by decide +kernel
theorem d4_close_5 : decode b4_close 5 = .ok (.aload_n 0, 1) := by decide +kernel
theorem d4_close_6 : decode b4_close 6 = .ok (.iconst (-1), 1) := by decide +kernel
theorem d4_close_7 : decode b4_close 7 = .ok (.putfield 15, 3) := by decide +kernel
theorem d4_close_10 : decode b4_close 10 = .ok (.aload_n 0, 1) := by decide +kernel
theorem d4_close_11 : decode b4_close 11 = .ok (.iconst (-1), 1) := by decide +kernel
theorem d4_close_12 : decode b4_close 12 = .ok (.putfield 18, 3) := by decide +kernel
theorem d4_close_15 : decode b4_close 15 = .ok (.return_, 1) := by decide +kernel
theorem d4_takesCount_0 : decode b4_takesCount 0 = .ok (.aload_n 0, 1) := by decide +kernel
theorem d4_takesCount_1 : decode b4_takesCount 1 = .ok (.invokevirtual 34, 3) := by decide +kernel
theorem d4_takesCount_4 : decode b4_takesCount 4 = .ok (.ifCond .eq 36, 3) := by decide +kernel
theorem d4_takesCount_7 : decode b4_takesCount 7 = .ok (.aload_n 0, 1) := by decide +kernel
theorem d4_takesCount_8 : decode b4_takesCount 8 = .ok (.getfield 9, 3) := by decide +kernel
theorem d4_takesCount_11 : decode b4_takesCount 11 = .ok (.iconst 1, 1) := by decide +kernel
theorem d4_takesCount_12 : decode b4_takesCount 12 = .ok (.if_icmp .eq 28, 3) := by decide +kernel
theorem d4_takesCount_15 : decode b4_takesCount 15 = .ok (.aload_n 0, 1) := by decide +kernel
theorem d4_takesCount_16 : decode b4_takesCount 16 = .ok (.getfield 31, 3) := by decide +kernel
theorem d4_takesCount_19 : decode b4_takesCount 19 = .ok (.ifCond .ne 21, 3) := by decide +kernel
theorem d4_takesCount_22 : decode b4_takesCount 22 = .ok (.aload_n 0, 1) := by decide +kernel
theorem d4_takesCount_23 : decode b4_takesCount 23 = .ok (.getfield 24, 3) := by decide +kernel
theorem d4_takesCount_26 : decode b4_takesCount 26 = .ok (.ifCond .ne 10, 3) := by decide +kernel
theorem d4_takesCount_29 : decode b4_takesCount 29 = .ok (.aload_n 0, 1) := by decide +kernel
theorem d4_takesCount_30 : decode b4_takesCount 30 = .ok (.getfield 28, 3) := by decide +kernel
theorem d4_takesCount_33 : decode b4_takesCount 33 = .ok (.ifCond .ne 7, 3) := by decide +kernel
theorem d4_takesCount_36 : decode b4_takesCount 36 = .ok (.iconst 1, 1) := by decide +kernel
theorem d4_takesCount_37 : decode b4_takesCount 37 = .ok (.goto 4, 3) := by decide +kernel
theorem d4_takesCount_40 : decode b4_takesCount 40 = .ok (.iconst 0, 1) := by decide +kernel
theorem d4_takesCount_41 : decode b4_takesCount 41 = .ok (.ireturn, 1) := by decide +kernel
theorem d4_takesAmount_0 : decode b4_takesAmount 0 = .ok (.aload_n 0, 1) := by decide +kernel
theorem d4_takesAmount_1 : decode b4_takesAmount 1 = .ok (.invokevirtual 34, 3) := by decide +kernel
theorem d4_takesAmount_4 : decode b4_takesAmount 4 = .ok (.ifCond .eq 29, 3) := by decide +kernel
theorem d4_takesAmount_7 : decode b4_takesAmount 7 = .ok (.aload_n 0, 1) := by decide +kernel
theorem d4_takesAmount_8 : decode b4_takesAmount 8 = .ok (.getfield 9, 3) := by decide +kernel
theorem d4_takesAmount_11 : decode b4_takesAmount 11 = .ok (.iconst 2, 1) := by decide +kernel
theorem d4_takesAmount_12 : decode b4_takesAmount 12 = .ok (.if_icmp .eq 21, 3) := by decide +kernel
theorem d4_takesAmount_15 : decode b4_takesAmount 15 = .ok (.aload_n 0, 1) := by decide +kernel
theorem d4_takesAmount_16 : decode b4_takesAmount 16 = .ok (.getfield 31, 3) := by decide +kernel
theorem d4_takesAmount_19 : decode b4_takesAmount 19 = .ok (.ifCond .ne 14, 3) := by decide +kernel
theorem d4_takesAmount_22 : decode b4_takesAmount 22 = .ok (.aload_n 0, 1) := by decide +kernel
theorem d4_takesAmount_23 : decode b4_takesAmount 23 = .ok (.getfield 24, 3) := by decide +kernel
theorem d4_takesAmount_26 : decode b4_takesAmount 26 = .ok (.ifCond .ne 7, 3) := by decide +kernel
theorem d4_takesAmount_29 : decode b4_takesAmount 29 = .ok (.iconst 1, 1) := by decide +kernel
theorem d4_takesAmount_30 : decode b4_takesAmount 30 = .ok (.goto 4, 3) := by decide +kernel
theorem d4_takesAmount_33 : decode b4_takesAmount 33 = .ok (.iconst 0, 1) := by decide +kernel
theorem d4_takesAmount_34 : decode b4_takesAmount 34 = .ok (.ireturn, 1) := by decide +kernel
theorem d5_init_0 : decode b5_init 0 = .ok (.aload_n 0, 1) := by decide +kernel
theorem d5_init_1 : decode b5_init 1 = .ok (.invokespecial 1, 3) := by decide +kernel
theorem d5_init_4 : decode b5_init 4 = .ok (.aload_n 0, 1) := by decide +kernel
theorem d5_init_5 : decode b5_init 5 = .ok (.iconst 0, 1) := by decide +kernel
theorem d5_init_6 : decode b5_init 6 = .ok (.putfield 7, 3) := by decide +kernel
theorem d5_init_9 : decode b5_init 9 = .ok (.aload_n 0, 1) := by decide +kernel
theorem d5_init_10 : decode b5_init 10 = .ok (.iconst 0, 1) := by decide +kernel
theorem d5_init_11 : decode b5_init 11 = .ok (.putfield 13, 3) := by decide +kernel
theorem d5_init_14 : decode b5_init 14 = .ok (.aload_n 0, 1) := by decide +kernel
theorem d5_init_15 : decode b5_init 15 = .ok (.iload_n 1, 1) := by decide +kernel
theorem d5_init_16 : decode b5_init 16 = .ok (.putfield 16, 3) := by decide +kernel
theorem d5_init_19 : decode b5_init 19 = .ok (.aload_n 0, 1) := by decide +kernel
theorem d5_init_20 : decode b5_init 20 = .ok (.iload_n 2, 1) := by decide +kernel
theorem d5_init_21 : decode b5_init 21 = .ok (.putfield 19, 3) := by decide +kernel
theorem d5_init_24 : decode b5_init 24 = .ok (.return_, 1) := by decide +kernel
theorem d5_isLocked_0 : decode b5_isLocked 0 = .ok (.iload_n 1, 1) := by decide +kernel
theorem d5_isLocked_1 : decode b5_isLocked 1 = .ok (.aload_n 0, 1) := by decide +kernel
theorem d5_isLocked_2 : decode b5_isLocked 2 = .ok (.getfield 13, 3) := by decide +kernel
theorem d5_isLocked_5 : decode b5_isLocked 5 = .ok (.if_icmp .ge 7, 3) := by decide +kernel
theorem d5_isLocked_8 : decode b5_isLocked 8 = .ok (.iconst 1, 1) := by decide +kernel
theorem d5_isLocked_9 : decode b5_isLocked 9 = .ok (.goto 4, 3) := by decide +kernel
theorem d5_isLocked_12 : decode b5_isLocked 12 = .ok (.iconst 0, 1) := by decide +kernel
theorem d5_isLocked_13 : decode b5_isLocked 13 = .ok (.ireturn, 1) := by decide +kernel
