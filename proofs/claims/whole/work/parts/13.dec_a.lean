abbrev vwCl : List vw_C := [(RX0, TX0, 8), (RX1, TX1, 13), (RX2, TX2, 6), (RX4, TX4, 3), (RX5, TX5, 6), (RX6, TX6, 8), (RX7, TX7, 2), (RX8, TX8, 8), (RX9, TX9, 42)]
theorem dX0_init_0 : decode cX0_init 0 = .ok (.aload_n 0, 1) := by decide +kernel
theorem dX0_init_1 : decode cX0_init 1 = .ok (.invokespecial 3, 3) := by decide +kernel
theorem dX0_init_4 : decode cX0_init 4 = .ok (.aload_n 0, 1) := by decide +kernel
theorem dX0_init_5 : decode cX0_init 5 = .ok (.bipush 8, 2) := by decide +kernel
theorem dX0_init_7 : decode cX0_init 7 = .ok (.newarray .int, 2) := by decide +kernel
theorem dX0_init_9 : decode cX0_init 9 = .ok (.putfield 9, 3) := by decide +kernel
theorem dX0_init_12 : decode cX0_init 12 = .ok (.aload_n 0, 1) := by decide +kernel
theorem dX0_init_13 : decode cX0_init 13 = .ok (.bipush 8, 2) := by decide +kernel
theorem dX0_init_15 : decode cX0_init 15 = .ok (.newarray .int, 2) := by decide +kernel
theorem dX0_init_17 : decode cX0_init 17 = .ok (.putfield 15, 3) := by decide +kernel
theorem dX0_init_20 : decode cX0_init 20 = .ok (.aload_n 0, 1) := by decide +kernel
theorem dX0_init_21 : decode cX0_init 21 = .ok (.bipush 8, 2) := by decide +kernel
theorem dX0_init_23 : decode cX0_init 23 = .ok (.newarray .int, 2) := by decide +kernel
theorem dX0_init_25 : decode cX0_init 25 = .ok (.putfield 18, 3) := by decide +kernel
theorem dX0_init_28 : decode cX0_init 28 = .ok (.aload_n 0, 1) := by decide +kernel
theorem dX0_init_29 : decode cX0_init 29 = .ok (.iload_n 2, 1) := by decide +kernel
theorem dX0_init_30 : decode cX0_init 30 = .ok (.putfield 21, 3) := by decide +kernel
theorem dX0_init_33 : decode cX0_init 33 = .ok (.aload_n 0, 1) := by decide +kernel
theorem dX0_init_34 : decode cX0_init 34 = .ok (.iload_n 3, 1) := by decide +kernel
theorem dX0_init_35 : decode cX0_init 35 = .ok (.putfield 25, 3) := by decide +kernel
theorem dX0_init_38 : decode cX0_init 38 = .ok (.aload_n 0, 1) := by decide +kernel
theorem dX0_init_39 : decode cX0_init 39 = .ok (.getfield 9, 3) := by decide +kernel
theorem dX0_init_42 : decode cX0_init 42 = .ok (.iload_n 1, 1) := by decide +kernel
theorem dX0_init_43 : decode cX0_init 43 = .ok (.bipush 16, 2) := by decide +kernel
theorem dX0_init_45 : decode cX0_init 45 = .ok (.iastore, 1) := by decide +kernel
theorem dX0_init_46 : decode cX0_init 46 = .ok (.return_, 1) := by decide +kernel
theorem dX0_gradeInside_0 : decode cX0_gradeInside 0 = .ok (.iload_n 0, 1) := by decide +kernel
theorem dX0_gradeInside_1 : decode cX0_gradeInside 1 = .ok (.iconst 2, 1) := by decide +kernel
theorem dX0_gradeInside_2 : decode cX0_gradeInside 2 = .ok (.iload_n 1, 1) := by decide +kernel
theorem dX0_gradeInside_3 : decode cX0_gradeInside 3 = .ok (.imul, 1) := by decide +kernel
theorem dX0_gradeInside_4 : decode cX0_gradeInside 4 = .ok (.ishr, 1) := by decide +kernel
theorem dX0_gradeInside_5 : decode cX0_gradeInside 5 = .ok (.iconst 3, 1) := by decide +kernel
theorem dX0_gradeInside_6 : decode cX0_gradeInside 6 = .ok (.iand, 1) := by decide +kernel
theorem dX0_gradeInside_7 : decode cX0_gradeInside 7 = .ok (.ireturn, 1) := by decide +kernel
theorem dX0_gradeOf_0 : decode cX0_gradeOf 0 = .ok (.aload_n 0, 1) := by decide +kernel
theorem dX0_gradeOf_1 : decode cX0_gradeOf 1 = .ok (.getfield 25, 3) := by decide +kernel
theorem dX0_gradeOf_4 : decode cX0_gradeOf 4 = .ok (.iload_n 1, 1) := by decide +kernel
theorem dX0_gradeOf_5 : decode cX0_gradeOf 5 = .ok (.invokestatic 28, 3) := by decide +kernel
theorem dX0_gradeOf_8 : decode cX0_gradeOf 8 = .ok (.ireturn, 1) := by decide +kernel
theorem dX0_left_0 : decode cX0_left 0 = .ok (.aload_n 0, 1) := by decide +kernel
theorem dX0_left_1 : decode cX0_left 1 = .ok (.getfield 21, 3) := by decide +kernel
theorem dX0_left_4 : decode cX0_left 4 = .ok (.aload_n 0, 1) := by decide +kernel
theorem dX0_left_5 : decode cX0_left 5 = .ok (.getfield 32, 3) := by decide +kernel
theorem dX0_left_8 : decode cX0_left 8 = .ok (.isub, 1) := by decide +kernel
theorem dX0_left_9 : decode cX0_left 9 = .ok (.ireturn, 1) := by decide +kernel
theorem dX0_lastSeen_0 : decode cX0_lastSeen 0 = .ok (.aload_n 0, 1) := by decide +kernel
theorem dX0_lastSeen_1 : decode cX0_lastSeen 1 = .ok (.getfield 32, 3) := by decide +kernel
theorem dX0_lastSeen_4 : decode cX0_lastSeen 4 = .ok (.ifCond .ne 7, 3) := by decide +kernel
theorem dX0_lastSeen_7 : decode cX0_lastSeen 7 = .ok (.iconst (-1), 1) := by decide +kernel
theorem dX0_lastSeen_8 : decode cX0_lastSeen 8 = .ok (.goto 13, 3) := by decide +kernel
theorem dX0_lastSeen_11 : decode cX0_lastSeen 11 = .ok (.aload_n 0, 1) := by decide +kernel
theorem dX0_lastSeen_12 : decode cX0_lastSeen 12 = .ok (.aload_n 0, 1) := by decide +kernel
theorem dX0_lastSeen_13 : decode cX0_lastSeen 13 = .ok (.getfield 32, 3) := by decide +kernel
theorem dX0_lastSeen_16 : decode cX0_lastSeen 16 = .ok (.iconst 1, 1) := by decide +kernel
theorem dX0_lastSeen_17 : decode cX0_lastSeen 17 = .ok (.isub, 1) := by decide +kernel
theorem dX0_lastSeen_18 : decode cX0_lastSeen 18 = .ok (.invokevirtual 35, 3) := by decide +kernel
theorem dX0_lastSeen_21 : decode cX0_lastSeen 21 = .ok (.ireturn, 1) := by decide +kernel
theorem dX0_cutNext_0 : decode cX0_cutNext 0 = .ok (.aload_n 0, 1) := by decide +kernel
theorem dX0_cutNext_1 : decode cX0_cutNext 1 = .ok (.aload_n 0, 1) := by decide +kernel
theorem dX0_cutNext_2 : decode cX0_cutNext 2 = .ok (.getfield 32, 3) := by decide +kernel
theorem dX0_cutNext_5 : decode cX0_cutNext 5 = .ok (.invokevirtual 35, 3) := by decide +kernel
theorem dX0_cutNext_8 : decode cX0_cutNext 8 = .ok (.istore_n 1, 1) := by decide +kernel
theorem dX0_cutNext_9 : decode cX0_cutNext 9 = .ok (.aload_n 0, 1) := by decide +kernel
theorem dX0_cutNext_10 : decode cX0_cutNext 10 = .ok (.dup, 1) := by decide +kernel
theorem dX0_cutNext_11 : decode cX0_cutNext 11 = .ok (.getfield 32, 3) := by decide +kernel
theorem dX0_cutNext_14 : decode cX0_cutNext 14 = .ok (.iconst 1, 1) := by decide +kernel
theorem dX0_cutNext_15 : decode cX0_cutNext 15 = .ok (.iadd, 1) := by decide +kernel
theorem dX0_cutNext_16 : decode cX0_cutNext 16 = .ok (.putfield 32, 3) := by decide +kernel
theorem dX0_cutNext_19 : decode cX0_cutNext 19 = .ok (.aload_n 0, 1) := by decide +kernel
theorem dX0_cutNext_20 : decode cX0_cutNext 20 = .ok (.aload_n 0, 1) := by decide +kernel
theorem dX0_cutNext_21 : decode cX0_cutNext 21 = .ok (.getfield 32, 3) := by decide +kernel
theorem dX0_cutNext_24 : decode cX0_cutNext 24 = .ok (.aload_n 0, 1) := by decide +kernel
theorem dX0_cutNext_25 : decode cX0_cutNext 25 = .ok (.getfield 21, 3) := by decide +kernel
theorem dX0_cutNext_28 : decode cX0_cutNext 28 = .ok (.if_icmp .lt 7, 3) := by decide +kernel
theorem dX0_cutNext_31 : decode cX0_cutNext 31 = .ok (.iconst 1, 1) := by decide +kernel
theorem dX0_cutNext_32 : decode cX0_cutNext 32 = .ok (.goto 4, 3) := by decide +kernel
theorem dX0_cutNext_35 : decode cX0_cutNext 35 = .ok (.iconst 0, 1) := by decide +kernel
theorem dX0_cutNext_36 : decode cX0_cutNext 36 = .ok (.putfield 39, 3) := by decide +kernel
theorem dX0_cutNext_39 : decode cX0_cutNext 39 = .ok (.iload_n 1, 1) := by decide +kernel
theorem dX0_cutNext_40 : decode cX0_cutNext 40 = .ok (.ireturn, 1) := by decide +kernel
theorem dX0_placeBid_0 : decode cX0_placeBid 0 = .ok (.iconst 0, 1) := by decide +kernel
theorem dX0_placeBid_1 : decode cX0_placeBid 1 = .ok (.istore_n 3, 1) := by decide +kernel
theorem dX0_placeBid_2 : decode cX0_placeBid 2 = .ok (.iload_n 3, 1) := by decide +kernel
theorem dX0_placeBid_3 : decode cX0_placeBid 3 = .ok (.aload_n 0, 1) := by decide +kernel
theorem dX0_placeBid_4 : decode cX0_placeBid 4 = .ok (.getfield 43, 3) := by decide +kernel
theorem dX0_placeBid_7 : decode cX0_placeBid 7 = .ok (.if_icmp .ge 27, 3) := by decide +kernel
theorem dX0_placeBid_10 : decode cX0_placeBid 10 = .ok (.aload_n 0, 1) := by decide +kernel
theorem dX0_placeBid_11 : decode cX0_placeBid 11 = .ok (.getfield 15, 3) := by decide +kernel
theorem dX0_placeBid_14 : decode cX0_placeBid 14 = .ok (.iload_n 3, 1) := by decide +kernel
theorem dX0_placeBid_15 : decode cX0_placeBid 15 = .ok (.iaload, 1) := by decide +kernel
theorem dX0_placeBid_16 : decode cX0_placeBid 16 = .ok (.iload_n 1, 1) := by decide +kernel
theorem dX0_placeBid_17 : decode cX0_placeBid 17 = .ok (.if_icmp .ne 11, 3) := by decide +kernel
theorem dX0_placeBid_20 : decode cX0_placeBid 20 = .ok (.aload_n 0, 1) := by decide +kernel
theorem dX0_placeBid_21 : decode cX0_placeBid 21 = .ok (.getfield 18, 3) := by decide +kernel
theorem dX0_placeBid_24 : decode cX0_placeBid 24 = .ok (.iload_n 3, 1) := by decide +kernel
theorem dX0_placeBid_25 : decode cX0_placeBid 25 = .ok (.iload_n 2, 1) := by decide +kernel
theorem dX0_placeBid_26 : decode cX0_placeBid 26 = .ok (.iastore, 1) := by decide +kernel
theorem dX0_placeBid_27 : decode cX0_placeBid 27 = .ok (.return_, 1) := by decide +kernel
theorem dX0_placeBid_28 : decode cX0_placeBid 28 = .ok (.iinc 3 1, 3) := by decide +kernel
theorem dX0_placeBid_31 : decode cX0_placeBid 31 = .ok (.goto (-29), 3) := by decide +kernel
theorem dX0_placeBid_34 : decode cX0_placeBid 34 = .ok (.aload_n 0, 1) := by decide +kernel
theorem dX0_placeBid_35 : decode cX0_placeBid 35 = .ok (.getfield 43, 3) := by decide +kernel
theorem dX0_placeBid_38 : decode cX0_placeBid 38 = .ok (.bipush 8, 2) := by decide +kernel
theorem dX0_placeBid_40 : decode cX0_placeBid 40 = .ok (.if_icmp .ge 33, 3) := by decide +kernel
theorem dX0_placeBid_43 : decode cX0_placeBid 43 = .ok (.aload_n 0, 1) := by decide +kernel
theorem dX0_placeBid_44 : decode cX0_placeBid 44 = .ok (.getfield 15, 3) := by decide +kernel
theorem dX0_placeBid_47 : decode cX0_placeBid 47 = .ok (.aload_n 0, 1) := by decide +kernel
theorem dX0_placeBid_48 : decode cX0_placeBid 48 = .ok (.getfield 43, 3) := by decide +kernel
theorem dX0_placeBid_51 : decode cX0_placeBid 51 = .ok (.iload_n 1, 1) := by decide +kernel
theorem dX0_placeBid_52 : decode cX0_placeBid 52 = .ok (.iastore, 1) := by decide +kernel
theorem dX0_placeBid_53 : decode cX0_placeBid 53 = .ok (.aload_n 0, 1) := by decide +kernel
theorem dX0_placeBid_54 : decode cX0_placeBid 54 = .ok (.getfield 18, 3) := by decide +kernel
theorem dX0_placeBid_57 : decode cX0_placeBid 57 = .ok (.aload_n 0, 1) := by decide +kernel
theorem dX0_placeBid_58 : decode cX0_placeBid 58 = .ok (.getfield 43, 3) := by decide +kernel
theorem dX0_placeBid_61 : decode cX0_placeBid 61 = .ok (.iload_n 2, 1) := by decide +kernel
theorem dX0_placeBid_62 : decode cX0_placeBid 62 = .ok (.iastore, 1) := by decide +kernel
theorem dX0_placeBid_63 : decode cX0_placeBid 63 = .ok (.aload_n 0, 1) := by decide +kernel
theorem dX0_placeBid_64 : decode cX0_placeBid 64 = .ok (.dup, 1) := by decide +kernel
theorem dX0_placeBid_65 : decode cX0_placeBid 65 = .ok (.getfield 43, 3) := by decide +kernel
theorem dX0_placeBid_68 : decode cX0_placeBid 68 = .ok (.iconst 1, 1) := by decide +kernel
theorem dX0_placeBid_69 : decode cX0_placeBid 69 = .ok (.iadd, 1) := by decide +kernel
theorem dX0_placeBid_70 : decode cX0_placeBid 70 = .ok (.putfield 43, 3) := by decide +kernel
theorem dX0_placeBid_73 : decode cX0_placeBid 73 = .ok (.return_, 1) := by decide +kernel
theorem dX0_passAllTo_0 : decode cX0_passAllTo 0 = .ok (.aload_n 0, 1) := by decide +kernel
theorem dX0_passAllTo_1 : decode cX0_passAllTo 1 = .ok (.getfield 9, 3) := by decide +kernel
theorem dX0_passAllTo_4 : decode cX0_passAllTo 4 = .ok (.iconst 0, 1) := by decide +kernel
theorem dX0_passAllTo_5 : decode cX0_passAllTo 5 = .ok (.invokestatic 46, 3) := by decide +kernel
theorem dX0_passAllTo_8 : decode cX0_passAllTo 8 = .ok (.aload_n 0, 1) := by decide +kernel
theorem dX0_passAllTo_9 : decode cX0_passAllTo 9 = .ok (.getfield 9, 3) := by decide +kernel
theorem dX0_passAllTo_12 : decode cX0_passAllTo 12 = .ok (.iload_n 1, 1) := by decide +kernel
theorem dX0_passAllTo_13 : decode cX0_passAllTo 13 = .ok (.bipush 16, 2) := by decide +kernel
theorem dX0_passAllTo_15 : decode cX0_passAllTo 15 = .ok (.iastore, 1) := by decide +kernel
theorem dX0_passAllTo_16 : decode cX0_passAllTo 16 = .ok (.return_, 1) := by decide +kernel
theorem dX1_init_0 : decode cX1_init 0 = .ok (.aload_n 0, 1) := by decide +kernel
theorem dX1_init_1 : decode cX1_init 1 = .ok (.invokespecial 5, 3) := by decide +kernel
theorem dX1_init_4 : decode cX1_init 4 = .ok (.aload_n 0, 1) := by decide +kernel
theorem dX1_init_5 : decode cX1_init 5 = .ok (.iconst 4, 1) := by decide +kernel
theorem dX1_init_6 : decode cX1_init 6 = .ok (.newarray .int, 2) := by decide +kernel
theorem dX1_init_8 : decode cX1_init 8 = .ok (.putfield 11, 3) := by decide +kernel
theorem dX1_init_11 : decode cX1_init 11 = .ok (.aload_n 0, 1) := by decide +kernel
theorem dX1_init_12 : decode cX1_init 12 = .ok (.iconst 3, 1) := by decide +kernel
theorem dX1_init_13 : decode cX1_init 13 = .ok (.newarray .int, 2) := by decide +kernel
theorem dX1_init_15 : decode cX1_init 15 = .ok (.putfield 15, 3) := by decide +kernel
theorem dX1_init_18 : decode cX1_init 18 = .ok (.aload_n 0, 1) := by decide +kernel
theorem dX1_init_19 : decode cX1_init 19 = .ok (.bipush 12, 2) := by decide +kernel
theorem dX1_init_21 : decode cX1_init 21 = .ok (.newarray .int, 2) := by decide +kernel
theorem dX1_init_23 : decode cX1_init 23 = .ok (.putfield 18, 3) := by decide +kernel
theorem dX1_init_26 : decode cX1_init 26 = .ok (.aload_n 0, 1) := by decide +kernel
theorem dX1_init_27 : decode cX1_init 27 = .ok (.bipush 108, 2) := by decide +kernel
theorem dX1_init_29 : decode cX1_init 29 = .ok (.newarray .long, 2) := by decide +kernel
theorem dX1_init_31 : decode cX1_init 31 = .ok (.putfield 21, 3) := by decide +kernel
theorem dX1_init_34 : decode cX1_init 34 = .ok (.aload_n 0, 1) := by decide +kernel
theorem dX1_init_35 : decode cX1_init 35 = .ok (.iconst 3, 1) := by decide +kernel
theorem dX1_init_36 : decode cX1_init 36 = .ok (.newarray .long, 2) := by decide +kernel
theorem dX1_init_38 : decode cX1_init 38 = .ok (.putfield 25, 3) := by decide +kernel
theorem dX1_init_41 : decode cX1_init 41 = .ok (.aload_n 0, 1) := by decide +kernel
theorem dX1_init_42 : decode cX1_init 42 = .ok (.iconst 4, 1) := by decide +kernel
theorem dX1_init_43 : decode cX1_init 43 = .ok (.newarray .int, 2) := by decide +kernel
theorem dX1_init_45 : decode cX1_init 45 = .ok (.putfield 28, 3) := by decide +kernel
theorem dX1_init_48 : decode cX1_init 48 = .ok (.aload_n 0, 1) := by decide +kernel
theorem dX1_init_49 : decode cX1_init 49 = .ok (.iconst 3, 1) := by decide +kernel
theorem dX1_init_50 : decode cX1_init 50 = .ok (.newarray .long, 2) := by decide +kernel
theorem dX1_init_52 : decode cX1_init 52 = .ok (.putfield 31, 3) := by decide +kernel
theorem dX1_init_55 : decode cX1_init 55 = .ok (.aload_n 0, 1) := by decide +kernel
theorem dX1_init_56 : decode cX1_init 56 = .ok (.sipush 729, 3) := by decide +kernel
theorem dX1_init_59 : decode cX1_init 59 = .ok (.newarray .long, 2) := by decide +kernel
theorem dX1_init_61 : decode cX1_init 61 = .ok (.putfield 34, 3) := by decide +kernel
theorem dX1_init_64 : decode cX1_init 64 = .ok (.aload_n 0, 1) := by decide +kernel
theorem dX1_init_65 : decode cX1_init 65 = .ok (.lconst 1, 1) := by decide +kernel
theorem dX1_init_66 : decode cX1_init 66 = .ok (.putfield 37, 3) := by decide +kernel
theorem dX1_init_69 : decode cX1_init 69 = .ok (.return_, 1) := by decide +kernel
theorem dX1_addGrade_0 : decode cX1_addGrade 0 = .ok (.iload_n 1, 1) := by decide +kernel
theorem dX1_addGrade_1 : decode cX1_addGrade 1 = .ok (.ifCond .lt 18, 3) := by decide +kernel
theorem dX1_addGrade_4 : decode cX1_addGrade 4 = .ok (.iload_n 1, 1) := by decide +kernel
theorem dX1_addGrade_5 : decode cX1_addGrade 5 = .ok (.sipush 999, 3) := by decide +kernel
theorem dX1_addGrade_8 : decode cX1_addGrade 8 = .ok (.if_icmp .gt 11, 3) := by decide +kernel
theorem dX1_addGrade_11 : decode cX1_addGrade 11 = .ok (.aload_n 0, 1) := by decide +kernel
theorem dX1_addGrade_12 : decode cX1_addGrade 12 = .ok (.getfield 41, 3) := by decide +kernel
theorem dX1_addGrade_15 : decode cX1_addGrade 15 = .ok (.iconst 4, 1) := by decide +kernel
theorem dX1_addGrade_16 : decode cX1_addGrade 16 = .ok (.if_icmp .lt 5, 3) := by decide +kernel
theorem dX1_addGrade_19 : decode cX1_addGrade 19 = .ok (.iconst (-1), 1) := by decide +kernel
theorem dX1_addGrade_20 : decode cX1_addGrade 20 = .ok (.ireturn, 1) := by decide +kernel
theorem dX1_addGrade_21 : decode cX1_addGrade 21 = .ok (.aload_n 0, 1) := by decide +kernel
theorem dX1_addGrade_22 : decode cX1_addGrade 22 = .ok (.getfield 11, 3) := by decide +kernel
theorem dX1_addGrade_25 : decode cX1_addGrade 25 = .ok (.aload_n 0, 1) := by decide +kernel
theorem dX1_addGrade_26 : decode cX1_addGrade 26 = .ok (.getfield 41, 3) := by decide +kernel
theorem dX1_addGrade_29 : decode cX1_addGrade 29 = .ok (.iload_n 1, 1) := by decide +kernel
theorem dX1_addGrade_30 : decode cX1_addGrade 30 = .ok (.iastore, 1) := by decide +kernel
theorem dX1_addGrade_31 : decode cX1_addGrade 31 = .ok (.aload_n 0, 1) := by decide +kernel
theorem dX1_addGrade_32 : decode cX1_addGrade 32 = .ok (.dup, 1) := by decide +kernel
theorem dX1_addGrade_33 : decode cX1_addGrade 33 = .ok (.getfield 41, 3) := by decide +kernel
theorem dX1_addGrade_36 : decode cX1_addGrade 36 = .ok (.iconst 1, 1) := by decide +kernel
theorem dX1_addGrade_37 : decode cX1_addGrade 37 = .ok (.iadd, 1) := by decide +kernel
theorem dX1_addGrade_38 : decode cX1_addGrade 38 = .ok (.putfield 41, 3) := by decide +kernel
theorem dX1_addGrade_41 : decode cX1_addGrade 41 = .ok (.aload_n 0, 1) := by decide +kernel
theorem dX1_addGrade_42 : decode cX1_addGrade 42 = .ok (.getfield 41, 3) := by decide +kernel
theorem dX1_addGrade_45 : decode cX1_addGrade 45 = .ok (.iconst 1, 1) := by decide +kernel
theorem dX1_addGrade_46 : decode cX1_addGrade 46 = .ok (.isub, 1) := by decide +kernel
theorem dX1_addGrade_47 : decode cX1_addGrade 47 = .ok (.ireturn, 1) := by decide +kernel
theorem dX1_knowsAll_0 : decode cX1_knowsAll 0 = .ok (.iconst 0, 1) := by decide +kernel
theorem dX1_knowsAll_1 : decode cX1_knowsAll 1 = .ok (.istore_n 3, 1) := by decide +kernel
theorem dX1_knowsAll_2 : decode cX1_knowsAll 2 = .ok (.iload_n 3, 1) := by decide +kernel
theorem dX1_knowsAll_3 : decode cX1_knowsAll 3 = .ok (.iload_n 1, 1) := by decide +kernel
theorem dX1_knowsAll_4 : decode cX1_knowsAll 4 = .ok (.if_icmp .ge 23, 3) := by decide +kernel
theorem dX1_knowsAll_7 : decode cX1_knowsAll 7 = .ok (.iload_n 2, 1) := by decide +kernel
theorem dX1_knowsAll_8 : decode cX1_knowsAll 8 = .ok (.iload_n 3, 1) := by decide +kernel
theorem dX1_knowsAll_9 : decode cX1_knowsAll 9 = .ok (.invokestatic 45, 3) := by decide +kernel
theorem dX1_knowsAll_12 : decode cX1_knowsAll 12 = .ok (.aload_n 0, 1) := by decide +kernel
theorem dX1_knowsAll_13 : decode cX1_knowsAll 13 = .ok (.getfield 41, 3) := by decide +kernel
theorem dX1_knowsAll_16 : decode cX1_knowsAll 16 = .ok (.if_icmp .lt 5, 3) := by decide +kernel
theorem dX1_knowsAll_19 : decode cX1_knowsAll 19 = .ok (.iconst 0, 1) := by decide +kernel
theorem dX1_knowsAll_20 : decode cX1_knowsAll 20 = .ok (.ireturn, 1) := by decide +kernel
theorem dX1_knowsAll_21 : decode cX1_knowsAll 21 = .ok (.iinc 3 1, 3) := by decide +kernel
theorem dX1_knowsAll_24 : decode cX1_knowsAll 24 = .ok (.goto (-22), 3) := by decide +kernel
theorem dX1_knowsAll_27 : decode cX1_knowsAll 27 = .ok (.iconst 1, 1) := by decide +kernel
theorem dX1_knowsAll_28 : decode cX1_knowsAll 28 = .ok (.ireturn, 1) := by decide +kernel
theorem dX1_addKind_0 : decode cX1_addKind 0 = .ok (.iload_n 1, 1) := by decide +kernel
theorem dX1_addKind_1 : decode cX1_addKind 1 = .ok (.iconst 1, 1) := by decide +kernel
theorem dX1_addKind_2 : decode cX1_addKind 2 = .ok (.if_icmp .lt 17, 3) := by decide +kernel
theorem dX1_addKind_5 : decode cX1_addKind 5 = .ok (.iload_n 1, 1) := by decide +kernel
theorem dX1_addKind_6 : decode cX1_addKind 6 = .ok (.bipush 99, 2) := by decide +kernel
theorem dX1_addKind_8 : decode cX1_addKind 8 = .ok (.if_icmp .gt 11, 3) := by decide +kernel
theorem dX1_addKind_11 : decode cX1_addKind 11 = .ok (.aload_n 0, 1) := by decide +kernel
theorem dX1_addKind_12 : decode cX1_addKind 12 = .ok (.getfield 51, 3) := by decide +kernel
theorem dX1_addKind_15 : decode cX1_addKind 15 = .ok (.iconst 3, 1) := by decide +kernel
theorem dX1_addKind_16 : decode cX1_addKind 16 = .ok (.if_icmp .lt 5, 3) := by decide +kernel
theorem dX1_addKind_19 : decode cX1_addKind 19 = .ok (.iconst (-1), 1) := by decide +kernel
theorem dX1_addKind_20 : decode cX1_addKind 20 = .ok (.ireturn, 1) := by decide +kernel
theorem dX1_addKind_21 : decode cX1_addKind 21 = .ok (.aload_n 0, 1) := by decide +kernel
theorem dX1_addKind_22 : decode cX1_addKind 22 = .ok (.iconst 0, 1) := by decide +kernel
theorem dX1_addKind_23 : decode cX1_addKind 23 = .ok (.iload_n 2, 1) := by decide +kernel
theorem dX1_addKind_24 : decode cX1_addKind 24 = .ok (.invokevirtual 54, 3) := by decide +kernel
theorem dX1_addKind_27 : decode cX1_addKind 27 = .ok (.ifCond .eq 32, 3) := by decide +kernel
theorem dX1_addKind_30 : decode cX1_addKind 30 = .ok (.aload_n 0, 1) := by decide +kernel
theorem dX1_addKind_31 : decode cX1_addKind 31 = .ok (.iconst 1, 1) := by decide +kernel
theorem dX1_addKind_32 : decode cX1_addKind 32 = .ok (.iload_n 3, 1) := by decide +kernel
theorem dX1_addKind_33 : decode cX1_addKind 33 = .ok (.invokevirtual 54, 3) := by decide +kernel
theorem dX1_addKind_36 : decode cX1_addKind 36 = .ok (.ifCond .eq 23, 3) := by decide +kernel
theorem dX1_addKind_39 : decode cX1_addKind 39 = .ok (.aload_n 0, 1) := by decide +kernel
theorem dX1_addKind_40 : decode cX1_addKind 40 = .ok (.iconst 2, 1) := by decide +kernel
theorem dX1_addKind_41 : decode cX1_addKind 41 = .ok (.iload 4, 2) := by decide +kernel
theorem dX1_addKind_43 : decode cX1_addKind 43 = .ok (.invokevirtual 54, 3) := by decide +kernel
theorem dX1_addKind_46 : decode cX1_addKind 46 = .ok (.ifCond .eq 13, 3) := by decide +kernel
theorem dX1_addKind_49 : decode cX1_addKind 49 = .ok (.aload_n 0, 1) := by decide +kernel
theorem dX1_addKind_50 : decode cX1_addKind 50 = .ok (.iconst 3, 1) := by decide +kernel
theorem dX1_addKind_51 : decode cX1_addKind 51 = .ok (.iload 5, 2) := by decide +kernel
theorem dX1_addKind_53 : decode cX1_addKind 53 = .ok (.invokevirtual 54, 3) := by decide +kernel
theorem dX1_addKind_56 : decode cX1_addKind 56 = .ok (.ifCond .ne 5, 3) := by decide +kernel
theorem dX1_addKind_59 : decode cX1_addKind 59 = .ok (.iconst (-1), 1) := by decide +kernel
theorem dX1_addKind_60 : decode cX1_addKind 60 = .ok (.ireturn, 1) := by decide +kernel
theorem dX1_addKind_61 : decode cX1_addKind 61 = .ok (.iload_n 2, 1) := by decide +kernel
theorem dX1_addKind_62 : decode cX1_addKind 62 = .ok (.iload_n 3, 1) := by decide +kernel
theorem dX1_addKind_63 : decode cX1_addKind 63 = .ok (.iadd, 1) := by decide +kernel
theorem dX1_addKind_64 : decode cX1_addKind 64 = .ok (.iload 4, 2) := by decide +kernel
theorem dX1_addKind_66 : decode cX1_addKind 66 = .ok (.iadd, 1) := by decide +kernel
theorem dX1_addKind_67 : decode cX1_addKind 67 = .ok (.iload 5, 2) := by decide +kernel
theorem dX1_addKind_69 : decode cX1_addKind 69 = .ok (.iadd, 1) := by decide +kernel
theorem dX1_addKind_70 : decode cX1_addKind 70 = .ok (.bipush 16, 2) := by decide +kernel
theorem dX1_addKind_72 : decode cX1_addKind 72 = .ok (.if_icmp .eq 5, 3) := by decide +kernel
theorem dX1_addKind_75 : decode cX1_addKind 75 = .ok (.iconst (-1), 1) := by decide +kernel
theorem dX1_addKind_76 : decode cX1_addKind 76 = .ok (.ireturn, 1) := by decide +kernel
theorem dX1_addKind_77 : decode cX1_addKind 77 = .ok (.aload_n 0, 1) := by decide +kernel
theorem dX1_addKind_78 : decode cX1_addKind 78 = .ok (.getfield 15, 3) := by decide +kernel
theorem dX1_addKind_81 : decode cX1_addKind 81 = .ok (.aload_n 0, 1) := by decide +kernel
theorem dX1_addKind_82 : decode cX1_addKind 82 = .ok (.getfield 51, 3) := by decide +kernel
theorem dX1_addKind_85 : decode cX1_addKind 85 = .ok (.iload_n 1, 1) := by decide +kernel
theorem dX1_addKind_86 : decode cX1_addKind 86 = .ok (.iastore, 1) := by decide +kernel
theorem dX1_addKind_87 : decode cX1_addKind 87 = .ok (.aload_n 0, 1) := by decide +kernel
theorem dX1_addKind_88 : decode cX1_addKind 88 = .ok (.iconst 0, 1) := by decide +kernel
theorem dX1_addKind_89 : decode cX1_addKind 89 = .ok (.iload_n 2, 1) := by decide +kernel
theorem dX1_addKind_90 : decode cX1_addKind 90 = .ok (.invokevirtual 58, 3) := by decide +kernel
theorem dX1_addKind_93 : decode cX1_addKind 93 = .ok (.aload_n 0, 1) := by decide +kernel
theorem dX1_addKind_94 : decode cX1_addKind 94 = .ok (.iconst 1, 1) := by decide +kernel
theorem dX1_addKind_95 : decode cX1_addKind 95 = .ok (.iload_n 3, 1) := by decide +kernel
theorem dX1_addKind_96 : decode cX1_addKind 96 = .ok (.invokevirtual 58, 3) := by decide +kernel
theorem dX1_addKind_99 : decode cX1_addKind 99 = .ok (.aload_n 0, 1) := by decide +kernel
theorem dX1_addKind_100 : decode cX1_addKind 100 = .ok (.iconst 2, 1) := by decide +kernel
theorem dX1_addKind_101 : decode cX1_addKind 101 = .ok (.iload 4, 2) := by decide +kernel
theorem dX1_addKind_103 : decode cX1_addKind 103 = .ok (.invokevirtual 58, 3) := by decide +kernel
theorem dX1_addKind_106 : decode cX1_addKind 106 = .ok (.aload_n 0, 1) := by decide +kernel
theorem dX1_addKind_107 : decode cX1_addKind 107 = .ok (.iconst 3, 1) := by decide +kernel
theorem dX1_addKind_108 : decode cX1_addKind 108 = .ok (.iload 5, 2) := by decide +kernel
theorem dX1_addKind_110 : decode cX1_addKind 110 = .ok (.invokevirtual 58, 3) := by decide +kernel
theorem dX1_addKind_113 : decode cX1_addKind 113 = .ok (.aload_n 0, 1) := by decide +kernel
theorem dX1_addKind_114 : decode cX1_addKind 114 = .ok (.dup, 1) := by decide +kernel
theorem dX1_addKind_115 : decode cX1_addKind 115 = .ok (.getfield 51, 3) := by decide +kernel
theorem dX1_addKind_118 : decode cX1_addKind 118 = .ok (.iconst 1, 1) := by decide +kernel
theorem dX1_addKind_119 : decode cX1_addKind 119 = .ok (.iadd, 1) := by decide +kernel
theorem dX1_addKind_120 : decode cX1_addKind 120 = .ok (.putfield 51, 3) := by decide +kernel
theorem dX1_addKind_123 : decode cX1_addKind 123 = .ok (.aload_n 0, 1) := by decide +kernel
theorem dX1_addKind_124 : decode cX1_addKind 124 = .ok (.getfield 51, 3) := by decide +kernel
theorem dX1_addKind_127 : decode cX1_addKind 127 = .ok (.iconst 1, 1) := by decide +kernel
theorem dX1_addKind_128 : decode cX1_addKind 128 = .ok (.isub, 1) := by decide +kernel
theorem dX1_addKind_129 : decode cX1_addKind 129 = .ok (.ireturn, 1) := by decide +kernel
theorem dX1_canWeigh_0 : decode cX1_canWeigh 0 = .ok (.iload_n 2, 1) := by decide +kernel
theorem dX1_canWeigh_1 : decode cX1_canWeigh 1 = .ok (.ifCond .lt 25, 3) := by decide +kernel
theorem dX1_canWeigh_4 : decode cX1_canWeigh 4 = .ok (.iload_n 2, 1) := by decide +kernel
theorem dX1_canWeigh_5 : decode cX1_canWeigh 5 = .ok (.iload_n 1, 1) := by decide +kernel
theorem dX1_canWeigh_6 : decode cX1_canWeigh 6 = .ok (.aload_n 0, 1) := by decide +kernel
theorem dX1_canWeigh_7 : decode cX1_canWeigh 7 = .ok (.getfield 41, 3) := by decide +kernel
theorem dX1_canWeigh_10 : decode cX1_canWeigh 10 = .ok (.if_icmp .ge 8, 3) := by decide +kernel
theorem dX1_canWeigh_13 : decode cX1_canWeigh 13 = .ok (.bipush 16, 2) := by decide +kernel
theorem dX1_canWeigh_15 : decode cX1_canWeigh 15 = .ok (.goto 4, 3) := by decide +kernel
theorem dX1_canWeigh_18 : decode cX1_canWeigh 18 = .ok (.iconst 0, 1) := by decide +kernel
theorem dX1_canWeigh_19 : decode cX1_canWeigh 19 = .ok (.if_icmp .gt 7, 3) := by decide +kernel
theorem dX1_canWeigh_22 : decode cX1_canWeigh 22 = .ok (.iconst 1, 1) := by decide +kernel
theorem dX1_canWeigh_23 : decode cX1_canWeigh 23 = .ok (.goto 4, 3) := by decide +kernel
theorem dX1_canWeigh_26 : decode cX1_canWeigh 26 = .ok (.iconst 0, 1) := by decide +kernel
theorem dX1_canWeigh_27 : decode cX1_canWeigh 27 = .ok (.ireturn, 1) := by decide +kernel
theorem dX1_keepWeight_0 : decode cX1_keepWeight 0 = .ok (.aload_n 0, 1) := by decide +kernel
theorem dX1_keepWeight_1 : decode cX1_keepWeight 1 = .ok (.getfield 51, 3) := by decide +kernel
theorem dX1_keepWeight_4 : decode cX1_keepWeight 4 = .ok (.iconst 4, 1) := by decide +kernel
theorem dX1_keepWeight_5 : decode cX1_keepWeight 5 = .ok (.imul, 1) := by decide +kernel
theorem dX1_keepWeight_6 : decode cX1_keepWeight 6 = .ok (.iload_n 1, 1) := by decide +kernel
theorem dX1_keepWeight_7 : decode cX1_keepWeight 7 = .ok (.iadd, 1) := by decide +kernel
theorem dX1_keepWeight_8 : decode cX1_keepWeight 8 = .ok (.istore_n 3, 1) := by decide +kernel
theorem dX1_keepWeight_9 : decode cX1_keepWeight 9 = .ok (.aload_n 0, 1) := by decide +kernel
theorem dX1_keepWeight_10 : decode cX1_keepWeight 10 = .ok (.getfield 18, 3) := by decide +kernel
theorem dX1_keepWeight_13 : decode cX1_keepWeight 13 = .ok (.iload_n 3, 1) := by decide +kernel
theorem dX1_keepWeight_14 : decode cX1_keepWeight 14 = .ok (.iload_n 2, 1) := by decide +kernel
theorem dX1_keepWeight_15 : decode cX1_keepWeight 15 = .ok (.iastore, 1) := by decide +kernel
theorem dX1_keepWeight_16 : decode cX1_keepWeight 16 = .ok (.lconst 1, 1) := by decide +kernel
theorem dX1_keepWeight_17 : decode cX1_keepWeight 17 = .ok (.lstore 4, 2) := by decide +kernel
theorem dX1_keepWeight_19 : decode cX1_keepWeight 19 = .ok (.iconst 0, 1) := by decide +kernel
theorem dX1_keepWeight_20 : decode cX1_keepWeight 20 = .ok (.istore 6, 2) := by decide +kernel
theorem dX1_keepWeight_22 : decode cX1_keepWeight 22 = .ok (.iload 6, 2) := by decide +kernel
theorem dX1_keepWeight_24 : decode cX1_keepWeight 24 = .ok (.bipush 9, 2) := by decide +kernel
theorem dX1_keepWeight_26 : decode cX1_keepWeight 26 = .ok (.if_icmp .ge 30, 3) := by decide +kernel
theorem dX1_keepWeight_29 : decode cX1_keepWeight 29 = .ok (.aload_n 0, 1) := by decide +kernel
theorem dX1_keepWeight_30 : decode cX1_keepWeight 30 = .ok (.getfield 21, 3) := by decide +kernel
theorem dX1_keepWeight_33 : decode cX1_keepWeight 33 = .ok (.iload_n 3, 1) := by decide +kernel
theorem dX1_keepWeight_34 : decode cX1_keepWeight 34 = .ok (.bipush 9, 2) := by decide +kernel
theorem dX1_keepWeight_36 : decode cX1_keepWeight 36 = .ok (.imul, 1) := by decide +kernel
theorem dX1_keepWeight_37 : decode cX1_keepWeight 37 = .ok (.iload 6, 2) := by decide +kernel
theorem dX1_keepWeight_39 : decode cX1_keepWeight 39 = .ok (.iadd, 1) := by decide +kernel
theorem dX1_keepWeight_40 : decode cX1_keepWeight 40 = .ok (.lload 4, 2) := by decide +kernel
theorem dX1_keepWeight_42 : decode cX1_keepWeight 42 = .ok (.lastore, 1) := by decide +kernel
theorem dX1_keepWeight_43 : decode cX1_keepWeight 43 = .ok (.lload 4, 2) := by decide +kernel
theorem dX1_keepWeight_45 : decode cX1_keepWeight 45 = .ok (.iload_n 2, 1) := by decide +kernel
theorem dX1_keepWeight_46 : decode cX1_keepWeight 46 = .ok (.i2l, 1) := by decide +kernel
theorem dX1_keepWeight_47 : decode cX1_keepWeight 47 = .ok (.lmul, 1) := by decide +kernel
theorem dX1_keepWeight_48 : decode cX1_keepWeight 48 = .ok (.lstore 4, 2) := by decide +kernel
theorem dX1_keepWeight_50 : decode cX1_keepWeight 50 = .ok (.iinc 6 1, 3) := by decide +kernel
theorem dX1_keepWeight_53 : decode cX1_keepWeight 53 = .ok (.goto (-31), 3) := by decide +kernel
theorem dX1_keepWeight_56 : decode cX1_keepWeight 56 = .ok (.return_, 1) := by decide +kernel
theorem dX1_hasKind_0 : decode cX1_hasKind 0 = .ok (.iload_n 1, 1) := by decide +kernel
theorem dX1_hasKind_1 : decode cX1_hasKind 1 = .ok (.ifCond .lt 15, 3) := by decide +kernel
theorem dX1_hasKind_4 : decode cX1_hasKind 4 = .ok (.iload_n 1, 1) := by decide +kernel
theorem dX1_hasKind_5 : decode cX1_hasKind 5 = .ok (.aload_n 0, 1) := by decide +kernel
theorem dX1_hasKind_6 : decode cX1_hasKind 6 = .ok (.getfield 51, 3) := by decide +kernel
theorem dX1_hasKind_9 : decode cX1_hasKind 9 = .ok (.if_icmp .ge 7, 3) := by decide +kernel
theorem dX1_hasKind_12 : decode cX1_hasKind 12 = .ok (.iconst 1, 1) := by decide +kernel
theorem dX1_hasKind_13 : decode cX1_hasKind 13 = .ok (.goto 4, 3) := by decide +kernel
theorem dX1_hasKind_16 : decode cX1_hasKind 16 = .ok (.iconst 0, 1) := by decide +kernel
theorem dX1_hasKind_17 : decode cX1_hasKind 17 = .ok (.ireturn, 1) := by decide +kernel
theorem dX1_weigh_0 : decode cX1_weigh 0 = .ok (.aload_n 0, 1) := by decide +kernel
theorem dX1_weigh_1 : decode cX1_weigh 1 = .ok (.lconst 0, 1) := by decide +kernel
theorem dX1_weigh_2 : decode cX1_weigh 2 = .ok (.putfield 62, 3) := by decide +kernel
theorem dX1_weigh_5 : decode cX1_weigh 5 = .ok (.iconst 0, 1) := by decide +kernel
theorem dX1_weigh_6 : decode cX1_weigh 6 = .ok (.istore_n 2, 1) := by decide +kernel
theorem dX1_weigh_7 : decode cX1_weigh 7 = .ok (.iload_n 2, 1) := by decide +kernel
theorem dX1_weigh_8 : decode cX1_weigh 8 = .ok (.aload_n 0, 1) := by decide +kernel
theorem dX1_weigh_9 : decode cX1_weigh 9 = .ok (.getfield 51, 3) := by decide +kernel
theorem dX1_weigh_12 : decode cX1_weigh 12 = .ok (.if_icmp .ge 71, 3) := by decide +kernel
theorem dX1_weigh_15 : decode cX1_weigh 15 = .ok (.aload_n 0, 1) := by decide +kernel
theorem dX1_weigh_16 : decode cX1_weigh 16 = .ok (.getfield 15, 3) := by decide +kernel
theorem dX1_weigh_19 : decode cX1_weigh 19 = .ok (.iload_n 2, 1) := by decide +kernel
theorem dX1_weigh_20 : decode cX1_weigh 20 = .ok (.iaload, 1) := by decide +kernel
theorem dX1_weigh_21 : decode cX1_weigh 21 = .ok (.i2l, 1) := by decide +kernel
theorem dX1_weigh_22 : decode cX1_weigh 22 = .ok (.lstore_n 3, 1) := by decide +kernel
theorem dX1_weigh_23 : decode cX1_weigh 23 = .ok (.iconst 0, 1) := by decide +kernel
theorem dX1_weigh_24 : decode cX1_weigh 24 = .ok (.istore 5, 2) := by decide +kernel
theorem dX1_weigh_26 : decode cX1_weigh 26 = .ok (.iload 5, 2) := by decide +kernel
theorem dX1_weigh_28 : decode cX1_weigh 28 = .ok (.aload_n 1, 1) := by decide +kernel
theorem dX1_weigh_29 : decode cX1_weigh 29 = .ok (.getfield 65, 3) := by decide +kernel
theorem dX1_weigh_32 : decode cX1_weigh 32 = .ok (.if_icmp .ge 28, 3) := by decide +kernel
theorem dX1_weigh_35 : decode cX1_weigh 35 = .ok (.lload_n 3, 1) := by decide +kernel
theorem dX1_weigh_36 : decode cX1_weigh 36 = .ok (.aload_n 0, 1) := by decide +kernel
theorem dX1_weigh_37 : decode cX1_weigh 37 = .ok (.getfield 18, 3) := by decide +kernel
theorem dX1_weigh_40 : decode cX1_weigh 40 = .ok (.iload_n 2, 1) := by decide +kernel
theorem dX1_weigh_41 : decode cX1_weigh 41 = .ok (.iconst 4, 1) := by decide +kernel
theorem dX1_weigh_42 : decode cX1_weigh 42 = .ok (.imul, 1) := by decide +kernel
theorem dX1_weigh_43 : decode cX1_weigh 43 = .ok (.aload_n 1, 1) := by decide +kernel
theorem dX1_weigh_44 : decode cX1_weigh 44 = .ok (.iload 5, 2) := by decide +kernel
theorem dX1_weigh_46 : decode cX1_weigh 46 = .ok (.invokevirtual 68, 3) := by decide +kernel
theorem dX1_weigh_49 : decode cX1_weigh 49 = .ok (.iadd, 1) := by decide +kernel
theorem dX1_weigh_50 : decode cX1_weigh 50 = .ok (.iaload, 1) := by decide +kernel
theorem dX1_weigh_51 : decode cX1_weigh 51 = .ok (.i2l, 1) := by decide +kernel
theorem dX1_weigh_52 : decode cX1_weigh 52 = .ok (.lmul, 1) := by decide +kernel
theorem dX1_weigh_53 : decode cX1_weigh 53 = .ok (.lstore_n 3, 1) := by decide +kernel
theorem dX1_weigh_54 : decode cX1_weigh 54 = .ok (.iinc 5 1, 3) := by decide +kernel
theorem dX1_weigh_57 : decode cX1_weigh 57 = .ok (.goto (-31), 3) := by decide +kernel
theorem dX1_weigh_60 : decode cX1_weigh 60 = .ok (.aload_n 0, 1) := by decide +kernel
theorem dX1_weigh_61 : decode cX1_weigh 61 = .ok (.getfield 25, 3) := by decide +kernel
theorem dX1_weigh_64 : decode cX1_weigh 64 = .ok (.iload_n 2, 1) := by decide +kernel
theorem dX1_weigh_65 : decode cX1_weigh 65 = .ok (.lload_n 3, 1) := by decide +kernel
theorem dX1_weigh_66 : decode cX1_weigh 66 = .ok (.lastore, 1) := by decide +kernel
theorem dX1_weigh_67 : decode cX1_weigh 67 = .ok (.aload_n 0, 1) := by decide +kernel
theorem dX1_weigh_68 : decode cX1_weigh 68 = .ok (.dup, 1) := by decide +kernel
theorem dX1_weigh_69 : decode cX1_weigh 69 = .ok (.getfield 62, 3) := by decide +kernel
theorem dX1_weigh_72 : decode cX1_weigh 72 = .ok (.lload_n 3, 1) := by decide +kernel
theorem dX1_weigh_73 : decode cX1_weigh 73 = .ok (.ladd, 1) := by decide +kernel
theorem dX1_weigh_74 : decode cX1_weigh 74 = .ok (.putfield 62, 3) := by decide +kernel
theorem dX1_weigh_77 : decode cX1_weigh 77 = .ok (.iinc 2 1, 3) := by decide +kernel
theorem dX1_weigh_80 : decode cX1_weigh 80 = .ok (.goto (-73), 3) := by decide +kernel
theorem dX1_weigh_83 : decode cX1_weigh 83 = .ok (.aload_n 0, 1) := by decide +kernel
theorem dX1_weigh_84 : decode cX1_weigh 84 = .ok (.getfield 62, 3) := by decide +kernel
theorem dX1_weigh_87 : decode cX1_weigh 87 = .ok (.lconst 0, 1) := by decide +kernel
theorem dX1_weigh_88 : decode cX1_weigh 88 = .ok (.lcmp, 1) := by decide +kernel
theorem dX1_weigh_89 : decode cX1_weigh 89 = .ok (.ifCond .le 7, 3) := by decide +kernel
theorem dX1_weigh_92 : decode cX1_weigh 92 = .ok (.iconst 1, 1) := by decide +kernel
theorem dX1_weigh_93 : decode cX1_weigh 93 = .ok (.goto 4, 3) := by decide +kernel
theorem dX1_weigh_96 : decode cX1_weigh 96 = .ok (.iconst 0, 1) := by decide +kernel
theorem dX1_weigh_97 : decode cX1_weigh 97 = .ok (.ireturn, 1) := by decide +kernel
theorem dX1_expectKind_0 : decode cX1_expectKind 0 = .ok (.aload_n 0, 1) := by decide +kernel
theorem dX1_expectKind_1 : decode cX1_expectKind 1 = .ok (.aload_n 0, 1) := by decide +kernel
theorem dX1_expectKind_2 : decode cX1_expectKind 2 = .ok (.getfield 25, 3) := by decide +kernel
theorem dX1_expectKind_5 : decode cX1_expectKind 5 = .ok (.iload_n 1, 1) := by decide +kernel
theorem dX1_expectKind_6 : decode cX1_expectKind 6 = .ok (.laload, 1) := by decide +kernel
theorem dX1_expectKind_7 : decode cX1_expectKind 7 = .ok (.aload_n 0, 1) := by decide +kernel
theorem dX1_expectKind_8 : decode cX1_expectKind 8 = .ok (.getfield 62, 3) := by decide +kernel
theorem dX1_expectKind_11 : decode cX1_expectKind 11 = .ok (.invokevirtual 72, 3) := by decide +kernel
theorem dX1_expectKind_14 : decode cX1_expectKind 14 = .ok (.return_, 1) := by decide +kernel
theorem dX1_expectRest_0 : decode cX1_expectRest 0 = .ok (.lconst 0, 1) := by decide +kernel
theorem dX1_expectRest_1 : decode cX1_expectRest 1 = .ok (.lstore_n 2, 1) := by decide +kernel
theorem dX1_expectRest_2 : decode cX1_expectRest 2 = .ok (.iconst 0, 1) := by decide +kernel
theorem dX1_expectRest_3 : decode cX1_expectRest 3 = .ok (.istore 4, 2) := by decide +kernel
theorem dX1_expectRest_5 : decode cX1_expectRest 5 = .ok (.iload 4, 2) := by decide +kernel
theorem dX1_expectRest_7 : decode cX1_expectRest 7 = .ok (.aload_n 0, 1) := by decide +kernel
theorem dX1_expectRest_8 : decode cX1_expectRest 8 = .ok (.getfield 51, 3) := by decide +kernel
theorem dX1_expectRest_11 : decode cX1_expectRest 11 = .ok (.if_icmp .ge 60, 3) := by decide +kernel
theorem dX1_expectRest_14 : decode cX1_expectRest 14 = .ok (.iconst 0, 1) := by decide +kernel
theorem dX1_expectRest_15 : decode cX1_expectRest 15 = .ok (.istore 5, 2) := by decide +kernel
theorem dX1_expectRest_17 : decode cX1_expectRest 17 = .ok (.iload 5, 2) := by decide +kernel
theorem dX1_expectRest_19 : decode cX1_expectRest 19 = .ok (.aload_n 0, 1) := by decide +kernel
theorem dX1_expectRest_20 : decode cX1_expectRest 20 = .ok (.getfield 41, 3) := by decide +kernel
theorem dX1_expectRest_23 : decode cX1_expectRest 23 = .ok (.if_icmp .ge 42, 3) := by decide +kernel
theorem dX1_expectRest_26 : decode cX1_expectRest 26 = .ok (.lload_n 2, 1) := by decide +kernel
theorem dX1_expectRest_27 : decode cX1_expectRest 27 = .ok (.aload_n 0, 1) := by decide +kernel
theorem dX1_expectRest_28 : decode cX1_expectRest 28 = .ok (.getfield 25, 3) := by decide +kernel
theorem dX1_expectRest_31 : decode cX1_expectRest 31 = .ok (.iload 4, 2) := by decide +kernel
theorem dX1_expectRest_33 : decode cX1_expectRest 33 = .ok (.laload, 1) := by decide +kernel
theorem dX1_expectRest_34 : decode cX1_expectRest 34 = .ok (.aload_n 0, 1) := by decide +kernel
theorem dX1_expectRest_35 : decode cX1_expectRest 35 = .ok (.getfield 18, 3) := by decide +kernel
theorem dX1_expectRest_38 : decode cX1_expectRest 38 = .ok (.iload 4, 2) := by decide +kernel
theorem dX1_expectRest_40 : decode cX1_expectRest 40 = .ok (.iconst 4, 1) := by decide +kernel
theorem dX1_expectRest_41 : decode cX1_expectRest 41 = .ok (.imul, 1) := by decide +kernel
theorem dX1_expectRest_42 : decode cX1_expectRest 42 = .ok (.iload 5, 2) := by decide +kernel
theorem dX1_expectRest_44 : decode cX1_expectRest 44 = .ok (.iadd, 1) := by decide +kernel
theorem dX1_expectRest_45 : decode cX1_expectRest 45 = .ok (.iaload, 1) := by decide +kernel
theorem dX1_expectRest_46 : decode cX1_expectRest 46 = .ok (.i2l, 1) := by decide +kernel
theorem dX1_expectRest_47 : decode cX1_expectRest 47 = .ok (.lmul, 1) := by decide +kernel
theorem dX1_expectRest_48 : decode cX1_expectRest 48 = .ok (.aload_n 0, 1) := by decide +kernel
theorem dX1_expectRest_49 : decode cX1_expectRest 49 = .ok (.getfield 11, 3) := by decide +kernel
theorem dX1_expectRest_52 : decode cX1_expectRest 52 = .ok (.iload 5, 2) := by decide +kernel
theorem dX1_expectRest_54 : decode cX1_expectRest 54 = .ok (.iaload, 1) := by decide +kernel
theorem dX1_expectRest_55 : decode cX1_expectRest 55 = .ok (.i2l, 1) := by decide +kernel
theorem dX1_expectRest_56 : decode cX1_expectRest 56 = .ok (.lmul, 1) := by decide +kernel
theorem dX1_expectRest_57 : decode cX1_expectRest 57 = .ok (.ladd, 1) := by decide +kernel
theorem dX1_expectRest_58 : decode cX1_expectRest 58 = .ok (.lstore_n 2, 1) := by decide +kernel
theorem dX1_expectRest_59 : decode cX1_expectRest 59 = .ok (.iinc 5 1, 3) := by decide +kernel
theorem dX1_expectRest_62 : decode cX1_expectRest 62 = .ok (.goto (-45), 3) := by decide +kernel
theorem dX1_expectRest_65 : decode cX1_expectRest 65 = .ok (.iinc 4 1, 3) := by decide +kernel
theorem dX1_expectRest_68 : decode cX1_expectRest 68 = .ok (.goto (-63), 3) := by decide +kernel
theorem dX1_expectRest_71 : decode cX1_expectRest 71 = .ok (.aload_n 0, 1) := by decide +kernel
theorem dX1_expectRest_72 : decode cX1_expectRest 72 = .ok (.lload_n 2, 1) := by decide +kernel
theorem dX1_expectRest_73 : decode cX1_expectRest 73 = .ok (.iload_n 1, 1) := by decide +kernel
theorem dX1_expectRest_74 : decode cX1_expectRest 74 = .ok (.i2l, 1) := by decide +kernel
theorem dX1_expectRest_75 : decode cX1_expectRest 75 = .ok (.lmul, 1) := by decide +kernel
theorem dX1_expectRest_76 : decode cX1_expectRest 76 = .ok (.aload_n 0, 1) := by decide +kernel
theorem dX1_expectRest_77 : decode cX1_expectRest 77 = .ok (.getfield 62, 3) := by decide +kernel
theorem dX1_expectRest_80 : decode cX1_expectRest 80 = .ok (.ldc2_w 76, 3) := by decide +kernel
theorem dX1_expectRest_83 : decode cX1_expectRest 83 = .ok (.lmul, 1) := by decide +kernel
theorem dX1_expectRest_84 : decode cX1_expectRest 84 = .ok (.invokevirtual 72, 3) := by decide +kernel
theorem dX1_expectRest_87 : decode cX1_expectRest 87 = .ok (.return_, 1) := by decide +kernel
theorem dX1_expectBest_0 : decode cX1_expectBest 0 = .ok (.aload_n 1, 1) := by decide +kernel
theorem dX1_expectBest_1 : decode cX1_expectBest 1 = .ok (.invokevirtual 78, 3) := by decide +kernel
theorem dX1_expectBest_4 : decode cX1_expectBest 4 = .ok (.istore_n 3, 1) := by decide +kernel
theorem dX1_expectBest_5 : decode cX1_expectBest 5 = .ok (.aload_n 0, 1) := by decide +kernel
theorem dX1_expectBest_6 : decode cX1_expectBest 6 = .ok (.getfield 62, 3) := by decide +kernel
theorem dX1_expectBest_9 : decode cX1_expectBest 9 = .ok (.iload_n 3, 1) := by decide +kernel
theorem dX1_expectBest_10 : decode cX1_expectBest 10 = .ok (.invokestatic 82, 3) := by decide +kernel
theorem dX1_expectBest_13 : decode cX1_expectBest 13 = .ok (.lmul, 1) := by decide +kernel
theorem dX1_expectBest_14 : decode cX1_expectBest 14 = .ok (.lstore 4, 2) := by decide +kernel
theorem dX1_expectBest_16 : decode cX1_expectBest 16 = .ok (.lload 4, 2) := by decide +kernel
theorem dX1_expectBest_18 : decode cX1_expectBest 18 = .ok (.iload_n 3, 1) := by decide +kernel
theorem dX1_expectBest_19 : decode cX1_expectBest 19 = .ok (.i2l, 1) := by decide +kernel
theorem dX1_expectBest_20 : decode cX1_expectBest 20 = .ok (.lmul, 1) := by decide +kernel
theorem dX1_expectBest_21 : decode cX1_expectBest 21 = .ok (.aload_n 2, 1) := by decide +kernel
theorem dX1_expectBest_22 : decode cX1_expectBest 22 = .ok (.aload_n 1, 1) := by decide +kernel
theorem dX1_expectBest_23 : decode cX1_expectBest 23 = .ok (.invokevirtual 86, 3) := by decide +kernel
theorem dX1_expectBest_26 : decode cX1_expectBest 26 = .ok (.invokevirtual 89, 3) := by decide +kernel
theorem dX1_expectBest_29 : decode cX1_expectBest 29 = .ok (.i2l, 1) := by decide +kernel
theorem dX1_expectBest_30 : decode cX1_expectBest 30 = .ok (.lmul, 1) := by decide +kernel
theorem dX1_expectBest_31 : decode cX1_expectBest 31 = .ok (.lstore 6, 2) := by decide +kernel
theorem dX1_expectBest_33 : decode cX1_expectBest 33 = .ok (.aload_n 0, 1) := by decide +kernel
theorem dX1_expectBest_34 : decode cX1_expectBest 34 = .ok (.iload_n 3, 1) := by decide +kernel
theorem dX1_expectBest_35 : decode cX1_expectBest 35 = .ok (.aload_n 2, 1) := by decide +kernel
theorem dX1_expectBest_36 : decode cX1_expectBest 36 = .ok (.invokevirtual 94, 3) := by decide +kernel
theorem dX1_expectBest_39 : decode cX1_expectBest 39 = .ok (.lstore 8, 2) := by decide +kernel
theorem dX1_expectBest_41 : decode cX1_expectBest 41 = .ok (.aload_n 0, 1) := by decide +kernel
theorem dX1_expectBest_42 : decode cX1_expectBest 42 = .ok (.lload 6, 2) := by decide +kernel
theorem dX1_expectBest_44 : decode cX1_expectBest 44 = .ok (.lload 8, 2) := by decide +kernel
theorem dX1_expectBest_46 : decode cX1_expectBest 46 = .ok (.invokestatic 98, 3) := by decide +kernel
theorem dX1_expectBest_49 : decode cX1_expectBest 49 = .ok (.lload 4, 2) := by decide +kernel
theorem dX1_expectBest_51 : decode cX1_expectBest 51 = .ok (.invokevirtual 72, 3) := by decide +kernel
theorem dX1_expectBest_54 : decode cX1_expectBest 54 = .ok (.lload 8, 2) := by decide +kernel
theorem dX1_expectBest_56 : decode cX1_expectBest 56 = .ok (.lload 6, 2) := by decide +kernel
theorem dX1_expectBest_58 : decode cX1_expectBest 58 = .ok (.lcmp, 1) := by decide +kernel
theorem dX1_expectBest_59 : decode cX1_expectBest 59 = .ok (.ifCond .le 7, 3) := by decide +kernel
theorem dX1_expectBest_62 : decode cX1_expectBest 62 = .ok (.iconst 2, 1) := by decide +kernel
theorem dX1_expectBest_63 : decode cX1_expectBest 63 = .ok (.goto 4, 3) := by decide +kernel
theorem dX1_expectBest_66 : decode cX1_expectBest 66 = .ok (.iconst 1, 1) := by decide +kernel
theorem dX1_expectBest_67 : decode cX1_expectBest 67 = .ok (.ireturn, 1) := by decide +kernel
theorem dX1_valueOfCutting_0 : decode cX1_valueOfCutting 0 = .ok (.aload_n 0, 1) := by decide +kernel
theorem dX1_valueOfCutting_1 : decode cX1_valueOfCutting 1 = .ok (.getfield 34, 3) := by decide +kernel
theorem dX1_valueOfCutting_4 : decode cX1_valueOfCutting 4 = .ok (.lconst 0, 1) := by decide +kernel
theorem dX1_valueOfCutting_5 : decode cX1_valueOfCutting 5 = .ok (.invokestatic 104, 3) := by decide +kernel
theorem dX1_valueOfCutting_8 : decode cX1_valueOfCutting 8 = .ok (.iload_n 1, 1) := by decide +kernel
theorem dX1_valueOfCutting_9 : decode cX1_valueOfCutting 9 = .ok (.iconst 1, 1) := by decide +kernel
theorem dX1_valueOfCutting_10 : decode cX1_valueOfCutting 10 = .ok (.isub, 1) := by decide +kernel
theorem dX1_valueOfCutting_11 : decode cX1_valueOfCutting 11 = .ok (.istore_n 3, 1) := by decide +kernel
theorem dX1_valueOfCutting_12 : decode cX1_valueOfCutting 12 = .ok (.iload_n 3, 1) := by decide +kernel
theorem dX1_valueOfCutting_13 : decode cX1_valueOfCutting 13 = .ok (.ifCond .lt 134, 3) := by decide +kernel
theorem dX1_valueOfCutting_16 : decode cX1_valueOfCutting 16 = .ok (.iload_n 1, 1) := by decide +kernel
theorem dX1_valueOfCutting_17 : decode cX1_valueOfCutting 17 = .ok (.iload_n 3, 1) := by decide +kernel
theorem dX1_valueOfCutting_18 : decode cX1_valueOfCutting 18 = .ok (.isub, 1) := by decide +kernel
theorem dX1_valueOfCutting_19 : decode cX1_valueOfCutting 19 = .ok (.iconst 1, 1) := by decide +kernel
theorem dX1_valueOfCutting_20 : decode cX1_valueOfCutting 20 = .ok (.isub, 1) := by decide +kernel
theorem dX1_valueOfCutting_21 : decode cX1_valueOfCutting 21 = .ok (.istore 4, 2) := by decide +kernel
theorem dX1_valueOfCutting_23 : decode cX1_valueOfCutting 23 = .ok (.iconst 0, 1) := by decide +kernel
theorem dX1_valueOfCutting_24 : decode cX1_valueOfCutting 24 = .ok (.istore 5, 2) := by decide +kernel
theorem dX1_valueOfCutting_26 : decode cX1_valueOfCutting 26 = .ok (.iload 5, 2) := by decide +kernel
theorem dX1_valueOfCutting_28 : decode cX1_valueOfCutting 28 = .ok (.iload_n 3, 1) := by decide +kernel
theorem dX1_valueOfCutting_29 : decode cX1_valueOfCutting 29 = .ok (.if_icmp .gt 112, 3) := by decide +kernel
theorem dX1_valueOfCutting_32 : decode cX1_valueOfCutting 32 = .ok (.iconst 0, 1) := by decide +kernel
theorem dX1_valueOfCutting_33 : decode cX1_valueOfCutting 33 = .ok (.istore 6, 2) := by decide +kernel
theorem dX1_valueOfCutting_35 : decode cX1_valueOfCutting 35 = .ok (.iload 6, 2) := by decide +kernel
theorem dX1_valueOfCutting_37 : decode cX1_valueOfCutting 37 = .ok (.iload_n 3, 1) := by decide +kernel
theorem dX1_valueOfCutting_38 : decode cX1_valueOfCutting 38 = .ok (.iload 5, 2) := by decide +kernel
theorem dX1_valueOfCutting_40 : decode cX1_valueOfCutting 40 = .ok (.isub, 1) := by decide +kernel
theorem dX1_valueOfCutting_41 : decode cX1_valueOfCutting 41 = .ok (.if_icmp .gt 94, 3) := by decide +kernel
theorem dX1_valueOfCutting_44 : decode cX1_valueOfCutting 44 = .ok (.iconst 0, 1) := by decide +kernel
theorem dX1_valueOfCutting_45 : decode cX1_valueOfCutting 45 = .ok (.istore 7, 2) := by decide +kernel
theorem dX1_valueOfCutting_47 : decode cX1_valueOfCutting 47 = .ok (.iload 7, 2) := by decide +kernel
theorem dX1_valueOfCutting_49 : decode cX1_valueOfCutting 49 = .ok (.iload_n 3, 1) := by decide +kernel
theorem dX1_valueOfCutting_50 : decode cX1_valueOfCutting 50 = .ok (.iload 5, 2) := by decide +kernel
theorem dX1_valueOfCutting_52 : decode cX1_valueOfCutting 52 = .ok (.isub, 1) := by decide +kernel
theorem dX1_valueOfCutting_53 : decode cX1_valueOfCutting 53 = .ok (.iload 6, 2) := by decide +kernel
theorem dX1_valueOfCutting_55 : decode cX1_valueOfCutting 55 = .ok (.isub, 1) := by decide +kernel
theorem dX1_valueOfCutting_56 : decode cX1_valueOfCutting 56 = .ok (.if_icmp .gt 73, 3) := by decide +kernel
theorem dX1_valueOfCutting_59 : decode cX1_valueOfCutting 59 = .ok (.aload_n 0, 1) := by decide +kernel
theorem dX1_valueOfCutting_60 : decode cX1_valueOfCutting 60 = .ok (.iload_n 3, 1) := by decide +kernel
theorem dX1_valueOfCutting_61 : decode cX1_valueOfCutting 61 = .ok (.iload 5, 2) := by decide +kernel
theorem dX1_valueOfCutting_63 : decode cX1_valueOfCutting 63 = .ok (.isub, 1) := by decide +kernel
theorem dX1_valueOfCutting_64 : decode cX1_valueOfCutting 64 = .ok (.iload 6, 2) := by decide +kernel
theorem dX1_valueOfCutting_66 : decode cX1_valueOfCutting 66 = .ok (.isub, 1) := by decide +kernel
theorem dX1_valueOfCutting_67 : decode cX1_valueOfCutting 67 = .ok (.iload 7, 2) := by decide +kernel
theorem dX1_valueOfCutting_69 : decode cX1_valueOfCutting 69 = .ok (.isub, 1) := by decide +kernel
theorem dX1_valueOfCutting_70 : decode cX1_valueOfCutting 70 = .ok (.iload 5, 2) := by decide +kernel
theorem dX1_valueOfCutting_72 : decode cX1_valueOfCutting 72 = .ok (.iload 6, 2) := by decide +kernel
theorem dX1_valueOfCutting_74 : decode cX1_valueOfCutting 74 = .ok (.iload 7, 2) := by decide +kernel
theorem dX1_valueOfCutting_76 : decode cX1_valueOfCutting 76 = .ok (.invokevirtual 110, 3) := by decide +kernel
theorem dX1_valueOfCutting_79 : decode cX1_valueOfCutting 79 = .ok (.iload 5, 2) := by decide +kernel
theorem dX1_valueOfCutting_81 : decode cX1_valueOfCutting 81 = .ok (.getstatic 114, 3) := by decide +kernel
theorem dX1_valueOfCutting_84 : decode cX1_valueOfCutting 84 = .ok (.iconst 1, 1) := by decide +kernel
theorem dX1_valueOfCutting_85 : decode cX1_valueOfCutting 85 = .ok (.iaload, 1) := by decide +kernel
theorem dX1_valueOfCutting_86 : decode cX1_valueOfCutting 86 = .ok (.imul, 1) := by decide +kernel
theorem dX1_valueOfCutting_87 : decode cX1_valueOfCutting 87 = .ok (.iload 6, 2) := by decide +kernel
theorem dX1_valueOfCutting_89 : decode cX1_valueOfCutting 89 = .ok (.getstatic 114, 3) := by decide +kernel
theorem dX1_valueOfCutting_92 : decode cX1_valueOfCutting 92 = .ok (.iconst 2, 1) := by decide +kernel
theorem dX1_valueOfCutting_93 : decode cX1_valueOfCutting 93 = .ok (.iaload, 1) := by decide +kernel
theorem dX1_valueOfCutting_94 : decode cX1_valueOfCutting 94 = .ok (.imul, 1) := by decide +kernel
theorem dX1_valueOfCutting_95 : decode cX1_valueOfCutting 95 = .ok (.iadd, 1) := by decide +kernel
theorem dX1_valueOfCutting_96 : decode cX1_valueOfCutting 96 = .ok (.iload 7, 2) := by decide +kernel
theorem dX1_valueOfCutting_98 : decode cX1_valueOfCutting 98 = .ok (.getstatic 114, 3) := by decide +kernel
theorem dX1_valueOfCutting_101 : decode cX1_valueOfCutting 101 = .ok (.iconst 3, 1) := by decide +kernel
theorem dX1_valueOfCutting_102 : decode cX1_valueOfCutting 102 = .ok (.iaload, 1) := by decide +kernel
theorem dX1_valueOfCutting_103 : decode cX1_valueOfCutting 103 = .ok (.imul, 1) := by decide +kernel
theorem dX1_valueOfCutting_104 : decode cX1_valueOfCutting 104 = .ok (.iadd, 1) := by decide +kernel
theorem dX1_valueOfCutting_105 : decode cX1_valueOfCutting 105 = .ok (.istore 8, 2) := by decide +kernel
theorem dX1_valueOfCutting_107 : decode cX1_valueOfCutting 107 = .ok (.aload_n 0, 1) := by decide +kernel
theorem dX1_valueOfCutting_108 : decode cX1_valueOfCutting 108 = .ok (.getfield 34, 3) := by decide +kernel
theorem dX1_valueOfCutting_111 : decode cX1_valueOfCutting 111 = .ok (.iload 8, 2) := by decide +kernel
theorem dX1_valueOfCutting_113 : decode cX1_valueOfCutting 113 = .ok (.aload_n 0, 1) := by decide +kernel
theorem dX1_valueOfCutting_114 : decode cX1_valueOfCutting 114 = .ok (.iload 8, 2) := by decide +kernel
theorem dX1_valueOfCutting_116 : decode cX1_valueOfCutting 116 = .ok (.iload 4, 2) := by decide +kernel
theorem dX1_valueOfCutting_118 : decode cX1_valueOfCutting 118 = .ok (.aload_n 2, 1) := by decide +kernel
theorem dX1_valueOfCutting_119 : decode cX1_valueOfCutting 119 = .ok (.invokevirtual 117, 3) := by decide +kernel
theorem dX1_valueOfCutting_122 : decode cX1_valueOfCutting 122 = .ok (.lastore, 1) := by decide +kernel
theorem dX1_valueOfCutting_123 : decode cX1_valueOfCutting 123 = .ok (.iinc 7 1, 3) := by decide +kernel
theorem dX1_valueOfCutting_126 : decode cX1_valueOfCutting 126 = .ok (.goto (-79), 3) := by decide +kernel
theorem dX1_valueOfCutting_129 : decode cX1_valueOfCutting 129 = .ok (.iinc 6 1, 3) := by decide +kernel
theorem dX1_valueOfCutting_132 : decode cX1_valueOfCutting 132 = .ok (.goto (-97), 3) := by decide +kernel
theorem dX1_valueOfCutting_135 : decode cX1_valueOfCutting 135 = .ok (.iinc 5 1, 3) := by decide +kernel
theorem dX1_valueOfCutting_138 : decode cX1_valueOfCutting 138 = .ok (.goto (-112), 3) := by decide +kernel
theorem dX1_valueOfCutting_141 : decode cX1_valueOfCutting 141 = .ok (.iinc 3 (-1), 3) := by decide +kernel
theorem dX1_valueOfCutting_144 : decode cX1_valueOfCutting 144 = .ok (.goto (-132), 3) := by decide +kernel
theorem dX1_valueOfCutting_147 : decode cX1_valueOfCutting 147 = .ok (.aload_n 0, 1) := by decide +kernel
theorem dX1_valueOfCutting_148 : decode cX1_valueOfCutting 148 = .ok (.getfield 34, 3) := by decide +kernel
theorem dX1_valueOfCutting_151 : decode cX1_valueOfCutting 151 = .ok (.iconst 0, 1) := by decide +kernel
theorem dX1_valueOfCutting_152 : decode cX1_valueOfCutting 152 = .ok (.laload, 1) := by decide +kernel
theorem dX1_valueOfCutting_153 : decode cX1_valueOfCutting 153 = .ok (.lreturn, 1) := by decide +kernel
theorem dX1_goFurther_0 : decode cX1_goFurther 0 = .ok (.aload_n 0, 1) := by decide +kernel
theorem dX1_goFurther_1 : decode cX1_goFurther 1 = .ok (.getfield 28, 3) := by decide +kernel
theorem dX1_goFurther_4 : decode cX1_goFurther 4 = .ok (.iconst 0, 1) := by decide +kernel
theorem dX1_goFurther_5 : decode cX1_goFurther 5 = .ok (.iload_n 1, 1) := by decide +kernel
theorem dX1_goFurther_6 : decode cX1_goFurther 6 = .ok (.iastore, 1) := by decide +kernel
theorem dX1_goFurther_7 : decode cX1_goFurther 7 = .ok (.aload_n 0, 1) := by decide +kernel
theorem dX1_goFurther_8 : decode cX1_goFurther 8 = .ok (.getfield 28, 3) := by decide +kernel
theorem dX1_goFurther_11 : decode cX1_goFurther 11 = .ok (.iconst 1, 1) := by decide +kernel
theorem dX1_goFurther_12 : decode cX1_goFurther 12 = .ok (.iload_n 2, 1) := by decide +kernel
theorem dX1_goFurther_13 : decode cX1_goFurther 13 = .ok (.iastore, 1) := by decide +kernel
theorem dX1_goFurther_14 : decode cX1_goFurther 14 = .ok (.aload_n 0, 1) := by decide +kernel
theorem dX1_goFurther_15 : decode cX1_goFurther 15 = .ok (.getfield 28, 3) := by decide +kernel
theorem dX1_goFurther_18 : decode cX1_goFurther 18 = .ok (.iconst 2, 1) := by decide +kernel
theorem dX1_goFurther_19 : decode cX1_goFurther 19 = .ok (.iload_n 3, 1) := by decide +kernel
theorem dX1_goFurther_20 : decode cX1_goFurther 20 = .ok (.iastore, 1) := by decide +kernel
theorem dX1_goFurther_21 : decode cX1_goFurther 21 = .ok (.aload_n 0, 1) := by decide +kernel
theorem dX1_goFurther_22 : decode cX1_goFurther 22 = .ok (.getfield 28, 3) := by decide +kernel
theorem dX1_goFurther_25 : decode cX1_goFurther 25 = .ok (.iconst 3, 1) := by decide +kernel
theorem dX1_goFurther_26 : decode cX1_goFurther 26 = .ok (.iload 4, 2) := by decide +kernel
theorem dX1_goFurther_28 : decode cX1_goFurther 28 = .ok (.iastore, 1) := by decide +kernel
theorem dX1_goFurther_29 : decode cX1_goFurther 29 = .ok (.iconst 0, 1) := by decide +kernel
theorem dX1_goFurther_30 : decode cX1_goFurther 30 = .ok (.istore 5, 2) := by decide +kernel
theorem dX1_goFurther_32 : decode cX1_goFurther 32 = .ok (.iload 5, 2) := by decide +kernel
theorem dX1_goFurther_34 : decode cX1_goFurther 34 = .ok (.aload_n 0, 1) := by decide +kernel
theorem dX1_goFurther_35 : decode cX1_goFurther 35 = .ok (.getfield 51, 3) := by decide +kernel
theorem dX1_goFurther_38 : decode cX1_goFurther 38 = .ok (.if_icmp .ge 70, 3) := by decide +kernel
theorem dX1_goFurther_41 : decode cX1_goFurther 41 = .ok (.aload_n 0, 1) := by decide +kernel
theorem dX1_goFurther_42 : decode cX1_goFurther 42 = .ok (.getfield 25, 3) := by decide +kernel
theorem dX1_goFurther_45 : decode cX1_goFurther 45 = .ok (.iload 5, 2) := by decide +kernel
theorem dX1_goFurther_47 : decode cX1_goFurther 47 = .ok (.laload, 1) := by decide +kernel
theorem dX1_goFurther_48 : decode cX1_goFurther 48 = .ok (.lstore 6, 2) := by decide +kernel
theorem dX1_goFurther_50 : decode cX1_goFurther 50 = .ok (.iconst 0, 1) := by decide +kernel
theorem dX1_goFurther_51 : decode cX1_goFurther 51 = .ok (.istore 8, 2) := by decide +kernel
theorem dX1_goFurther_53 : decode cX1_goFurther 53 = .ok (.iload 8, 2) := by decide +kernel
theorem dX1_goFurther_55 : decode cX1_goFurther 55 = .ok (.iconst 4, 1) := by decide +kernel
theorem dX1_goFurther_56 : decode cX1_goFurther 56 = .ok (.if_icmp .ge 37, 3) := by decide +kernel
theorem dX1_goFurther_59 : decode cX1_goFurther 59 = .ok (.lload 6, 2) := by decide +kernel
theorem dX1_goFurther_61 : decode cX1_goFurther 61 = .ok (.aload_n 0, 1) := by decide +kernel
theorem dX1_goFurther_62 : decode cX1_goFurther 62 = .ok (.getfield 21, 3) := by decide +kernel
theorem dX1_goFurther_65 : decode cX1_goFurther 65 = .ok (.iload 5, 2) := by decide +kernel
theorem dX1_goFurther_67 : decode cX1_goFurther 67 = .ok (.iconst 4, 1) := by decide +kernel
theorem dX1_goFurther_68 : decode cX1_goFurther 68 = .ok (.imul, 1) := by decide +kernel
theorem dX1_goFurther_69 : decode cX1_goFurther 69 = .ok (.iload 8, 2) := by decide +kernel
theorem dX1_goFurther_71 : decode cX1_goFurther 71 = .ok (.iadd, 1) := by decide +kernel
theorem dX1_goFurther_72 : decode cX1_goFurther 72 = .ok (.bipush 9, 2) := by decide +kernel
theorem dX1_goFurther_74 : decode cX1_goFurther 74 = .ok (.imul, 1) := by decide +kernel
theorem dX1_goFurther_75 : decode cX1_goFurther 75 = .ok (.aload_n 0, 1) := by decide +kernel
theorem dX1_goFurther_76 : decode cX1_goFurther 76 = .ok (.getfield 28, 3) := by decide +kernel
theorem dX1_goFurther_79 : decode cX1_goFurther 79 = .ok (.iload 8, 2) := by decide +kernel
theorem dX1_goFurther_81 : decode cX1_goFurther 81 = .ok (.iaload, 1) := by decide +kernel
theorem dX1_goFurther_82 : decode cX1_goFurther 82 = .ok (.iadd, 1) := by decide +kernel
theorem dX1_goFurther_83 : decode cX1_goFurther 83 = .ok (.laload, 1) := by decide +kernel
theorem dX1_goFurther_84 : decode cX1_goFurther 84 = .ok (.lmul, 1) := by decide +kernel
theorem dX1_goFurther_85 : decode cX1_goFurther 85 = .ok (.lstore 6, 2) := by decide +kernel
theorem dX1_goFurther_87 : decode cX1_goFurther 87 = .ok (.iinc 8 1, 3) := by decide +kernel
theorem dX1_goFurther_90 : decode cX1_goFurther 90 = .ok (.goto (-37), 3) := by decide +kernel
theorem dX1_goFurther_93 : decode cX1_goFurther 93 = .ok (.aload_n 0, 1) := by decide +kernel
theorem dX1_goFurther_94 : decode cX1_goFurther 94 = .ok (.getfield 31, 3) := by decide +kernel
theorem dX1_goFurther_97 : decode cX1_goFurther 97 = .ok (.iload 5, 2) := by decide +kernel
theorem dX1_goFurther_99 : decode cX1_goFurther 99 = .ok (.lload 6, 2) := by decide +kernel
theorem dX1_goFurther_101 : decode cX1_goFurther 101 = .ok (.lastore, 1) := by decide +kernel
theorem dX1_goFurther_102 : decode cX1_goFurther 102 = .ok (.iinc 5 1, 3) := by decide +kernel
theorem dX1_goFurther_105 : decode cX1_goFurther 105 = .ok (.goto (-73), 3) := by decide +kernel
theorem dX1_goFurther_108 : decode cX1_goFurther 108 = .ok (.return_, 1) := by decide +kernel
theorem dX1_valueOfNextCut_0 : decode cX1_valueOfNextCut 0 = .ok (.aload_n 3, 1) := by decide +kernel
theorem dX1_valueOfNextCut_1 : decode cX1_valueOfNextCut 1 = .ok (.getstatic 121, 3) := by decide +kernel
theorem dX1_valueOfNextCut_4 : decode cX1_valueOfNextCut 4 = .ok (.invokevirtual 127, 3) := by decide +kernel
theorem dX1_valueOfNextCut_7 : decode cX1_valueOfNextCut 7 = .ok (.istore 4, 2) := by decide +kernel
theorem dX1_valueOfNextCut_9 : decode cX1_valueOfNextCut 9 = .ok (.lconst 0, 1) := by decide +kernel
theorem dX1_valueOfNextCut_10 : decode cX1_valueOfNextCut 10 = .ok (.lstore 5, 2) := by decide +kernel
theorem dX1_valueOfNextCut_12 : decode cX1_valueOfNextCut 12 = .ok (.iconst 0, 1) := by decide +kernel
theorem dX1_valueOfNextCut_13 : decode cX1_valueOfNextCut 13 = .ok (.istore 7, 2) := by decide +kernel
theorem dX1_valueOfNextCut_15 : decode cX1_valueOfNextCut 15 = .ok (.iload 7, 2) := by decide +kernel
theorem dX1_valueOfNextCut_17 : decode cX1_valueOfNextCut 17 = .ok (.aload_n 0, 1) := by decide +kernel
theorem dX1_valueOfNextCut_18 : decode cX1_valueOfNextCut 18 = .ok (.getfield 41, 3) := by decide +kernel
theorem dX1_valueOfNextCut_21 : decode cX1_valueOfNextCut 21 = .ok (.if_icmp .ge 86, 3) := by decide +kernel
theorem dX1_valueOfNextCut_24 : decode cX1_valueOfNextCut 24 = .ok (.aload_n 0, 1) := by decide +kernel
theorem dX1_valueOfNextCut_25 : decode cX1_valueOfNextCut 25 = .ok (.iload 7, 2) := by decide +kernel
theorem dX1_valueOfNextCut_27 : decode cX1_valueOfNextCut 27 = .ok (.invokevirtual 131, 3) := by decide +kernel
theorem dX1_valueOfNextCut_30 : decode cX1_valueOfNextCut 30 = .ok (.iload_n 2, 1) := by decide +kernel
theorem dX1_valueOfNextCut_31 : decode cX1_valueOfNextCut 31 = .ok (.invokestatic 82, 3) := by decide +kernel
theorem dX1_valueOfNextCut_34 : decode cX1_valueOfNextCut 34 = .ok (.lmul, 1) := by decide +kernel
theorem dX1_valueOfNextCut_35 : decode cX1_valueOfNextCut 35 = .ok (.lstore 8, 2) := by decide +kernel
theorem dX1_valueOfNextCut_37 : decode cX1_valueOfNextCut 37 = .ok (.lload 8, 2) := by decide +kernel
theorem dX1_valueOfNextCut_39 : decode cX1_valueOfNextCut 39 = .ok (.lconst 0, 1) := by decide +kernel
theorem dX1_valueOfNextCut_40 : decode cX1_valueOfNextCut 40 = .ok (.lcmp, 1) := by decide +kernel
theorem dX1_valueOfNextCut_41 : decode cX1_valueOfNextCut 41 = .ok (.ifCond .le 60, 3) := by decide +kernel
theorem dX1_valueOfNextCut_44 : decode cX1_valueOfNextCut 44 = .ok (.lload 8, 2) := by decide +kernel
theorem dX1_valueOfNextCut_46 : decode cX1_valueOfNextCut 46 = .ok (.iload_n 2, 1) := by decide +kernel
theorem dX1_valueOfNextCut_47 : decode cX1_valueOfNextCut 47 = .ok (.i2l, 1) := by decide +kernel
theorem dX1_valueOfNextCut_48 : decode cX1_valueOfNextCut 48 = .ok (.lmul, 1) := by decide +kernel
theorem dX1_valueOfNextCut_49 : decode cX1_valueOfNextCut 49 = .ok (.aload_n 3, 1) := by decide +kernel
theorem dX1_valueOfNextCut_50 : decode cX1_valueOfNextCut 50 = .ok (.iload 7, 2) := by decide +kernel
theorem dX1_valueOfNextCut_52 : decode cX1_valueOfNextCut 52 = .ok (.invokevirtual 89, 3) := by decide +kernel
theorem dX1_valueOfNextCut_55 : decode cX1_valueOfNextCut 55 = .ok (.i2l, 1) := by decide +kernel
theorem dX1_valueOfNextCut_56 : decode cX1_valueOfNextCut 56 = .ok (.lmul, 1) := by decide +kernel
theorem dX1_valueOfNextCut_57 : decode cX1_valueOfNextCut 57 = .ok (.lstore 10, 2) := by decide +kernel
theorem dX1_valueOfNextCut_59 : decode cX1_valueOfNextCut 59 = .ok (.aload_n 0, 1) := by decide +kernel
theorem dX1_valueOfNextCut_60 : decode cX1_valueOfNextCut 60 = .ok (.getfield 34, 3) := by decide +kernel
theorem dX1_valueOfNextCut_63 : decode cX1_valueOfNextCut 63 = .ok (.iload_n 1, 1) := by decide +kernel
theorem dX1_valueOfNextCut_64 : decode cX1_valueOfNextCut 64 = .ok (.getstatic 114, 3) := by decide +kernel
theorem dX1_valueOfNextCut_67 : decode cX1_valueOfNextCut 67 = .ok (.iload 7, 2) := by decide +kernel
theorem dX1_valueOfNextCut_69 : decode cX1_valueOfNextCut 69 = .ok (.iaload, 1) := by decide +kernel
theorem dX1_valueOfNextCut_70 : decode cX1_valueOfNextCut 70 = .ok (.iadd, 1) := by decide +kernel
theorem dX1_valueOfNextCut_71 : decode cX1_valueOfNextCut 71 = .ok (.laload, 1) := by decide +kernel
theorem dX1_valueOfNextCut_72 : decode cX1_valueOfNextCut 72 = .ok (.lstore 12, 2) := by decide +kernel
theorem dX1_valueOfNextCut_74 : decode cX1_valueOfNextCut 74 = .ok (.lload 5, 2) := by decide +kernel
theorem dX1_valueOfNextCut_76 : decode cX1_valueOfNextCut 76 = .ok (.lload 8, 2) := by decide +kernel
theorem dX1_valueOfNextCut_78 : decode cX1_valueOfNextCut 78 = .ok (.aload_n 0, 1) := by decide +kernel
theorem dX1_valueOfNextCut_79 : decode cX1_valueOfNextCut 79 = .ok (.getfield 11, 3) := by decide +kernel
theorem dX1_valueOfNextCut_82 : decode cX1_valueOfNextCut 82 = .ok (.iload 7, 2) := by decide +kernel
theorem dX1_valueOfNextCut_84 : decode cX1_valueOfNextCut 84 = .ok (.iaload, 1) := by decide +kernel
theorem dX1_valueOfNextCut_85 : decode cX1_valueOfNextCut 85 = .ok (.iload 4, 2) := by decide +kernel
theorem dX1_valueOfNextCut_87 : decode cX1_valueOfNextCut 87 = .ok (.isub, 1) := by decide +kernel
theorem dX1_valueOfNextCut_88 : decode cX1_valueOfNextCut 88 = .ok (.i2l, 1) := by decide +kernel
theorem dX1_valueOfNextCut_89 : decode cX1_valueOfNextCut 89 = .ok (.lmul, 1) := by decide +kernel
theorem dX1_valueOfNextCut_90 : decode cX1_valueOfNextCut 90 = .ok (.lload 10, 2) := by decide +kernel
theorem dX1_valueOfNextCut_92 : decode cX1_valueOfNextCut 92 = .ok (.lload 12, 2) := by decide +kernel
theorem dX1_valueOfNextCut_94 : decode cX1_valueOfNextCut 94 = .ok (.invokestatic 98, 3) := by decide +kernel
theorem dX1_valueOfNextCut_97 : decode cX1_valueOfNextCut 97 = .ok (.ladd, 1) := by decide +kernel
theorem dX1_valueOfNextCut_98 : decode cX1_valueOfNextCut 98 = .ok (.ladd, 1) := by decide +kernel
theorem dX1_valueOfNextCut_99 : decode cX1_valueOfNextCut 99 = .ok (.lstore 5, 2) := by decide +kernel
theorem dX1_valueOfNextCut_101 : decode cX1_valueOfNextCut 101 = .ok (.iinc 7 1, 3) := by decide +kernel
theorem dX1_valueOfNextCut_104 : decode cX1_valueOfNextCut 104 = .ok (.goto (-89), 3) := by decide +kernel
theorem dX1_valueOfNextCut_107 : decode cX1_valueOfNextCut 107 = .ok (.lload 5, 2) := by decide +kernel
theorem dX1_valueOfNextCut_109 : decode cX1_valueOfNextCut 109 = .ok (.lreturn, 1) := by decide +kernel
theorem dX1_oddsOfNext_0 : decode cX1_oddsOfNext 0 = .ok (.lconst 0, 1) := by decide +kernel
theorem dX1_oddsOfNext_1 : decode cX1_oddsOfNext 1 = .ok (.lstore_n 2, 1) := by decide +kernel
theorem dX1_oddsOfNext_2 : decode cX1_oddsOfNext 2 = .ok (.iconst 0, 1) := by decide +kernel
theorem dX1_oddsOfNext_3 : decode cX1_oddsOfNext 3 = .ok (.istore 4, 2) := by decide +kernel
theorem dX1_oddsOfNext_5 : decode cX1_oddsOfNext 5 = .ok (.iload 4, 2) := by decide +kernel
theorem dX1_oddsOfNext_7 : decode cX1_oddsOfNext 7 = .ok (.aload_n 0, 1) := by decide +kernel
theorem dX1_oddsOfNext_8 : decode cX1_oddsOfNext 8 = .ok (.getfield 51, 3) := by decide +kernel
theorem dX1_oddsOfNext_11 : decode cX1_oddsOfNext 11 = .ok (.if_icmp .ge 32, 3) := by decide +kernel
theorem dX1_oddsOfNext_14 : decode cX1_oddsOfNext 14 = .ok (.lload_n 2, 1) := by decide +kernel
theorem dX1_oddsOfNext_15 : decode cX1_oddsOfNext 15 = .ok (.aload_n 0, 1) := by decide +kernel
theorem dX1_oddsOfNext_16 : decode cX1_oddsOfNext 16 = .ok (.getfield 31, 3) := by decide +kernel
theorem dX1_oddsOfNext_19 : decode cX1_oddsOfNext 19 = .ok (.iload 4, 2) := by decide +kernel
theorem dX1_oddsOfNext_21 : decode cX1_oddsOfNext 21 = .ok (.laload, 1) := by decide +kernel
theorem dX1_oddsOfNext_22 : decode cX1_oddsOfNext 22 = .ok (.aload_n 0, 1) := by decide +kernel
theorem dX1_oddsOfNext_23 : decode cX1_oddsOfNext 23 = .ok (.getfield 18, 3) := by decide +kernel
theorem dX1_oddsOfNext_26 : decode cX1_oddsOfNext 26 = .ok (.iload 4, 2) := by decide +kernel
theorem dX1_oddsOfNext_28 : decode cX1_oddsOfNext 28 = .ok (.iconst 4, 1) := by decide +kernel
theorem dX1_oddsOfNext_29 : decode cX1_oddsOfNext 29 = .ok (.imul, 1) := by decide +kernel
theorem dX1_oddsOfNext_30 : decode cX1_oddsOfNext 30 = .ok (.iload_n 1, 1) := by decide +kernel
theorem dX1_oddsOfNext_31 : decode cX1_oddsOfNext 31 = .ok (.iadd, 1) := by decide +kernel
theorem dX1_oddsOfNext_32 : decode cX1_oddsOfNext 32 = .ok (.iaload, 1) := by decide +kernel
theorem dX1_oddsOfNext_33 : decode cX1_oddsOfNext 33 = .ok (.i2l, 1) := by decide +kernel
theorem dX1_oddsOfNext_34 : decode cX1_oddsOfNext 34 = .ok (.lmul, 1) := by decide +kernel
theorem dX1_oddsOfNext_35 : decode cX1_oddsOfNext 35 = .ok (.ladd, 1) := by decide +kernel
theorem dX1_oddsOfNext_36 : decode cX1_oddsOfNext 36 = .ok (.lstore_n 2, 1) := by decide +kernel
theorem dX1_oddsOfNext_37 : decode cX1_oddsOfNext 37 = .ok (.iinc 4 1, 3) := by decide +kernel
theorem dX1_oddsOfNext_40 : decode cX1_oddsOfNext 40 = .ok (.goto (-35), 3) := by decide +kernel
theorem dX1_oddsOfNext_43 : decode cX1_oddsOfNext 43 = .ok (.lload_n 2, 1) := by decide +kernel
theorem dX1_oddsOfNext_44 : decode cX1_oddsOfNext 44 = .ok (.lreturn, 1) := by decide +kernel
theorem dX1_sixteenToThe_0 : decode cX1_sixteenToThe 0 = .ok (.lconst 1, 1) := by decide +kernel
theorem dX1_sixteenToThe_1 : decode cX1_sixteenToThe 1 = .ok (.iconst 4, 1) := by decide +kernel
theorem dX1_sixteenToThe_2 : decode cX1_sixteenToThe 2 = .ok (.iload_n 0, 1) := by decide +kernel
theorem dX1_sixteenToThe_3 : decode cX1_sixteenToThe 3 = .ok (.imul, 1) := by decide +kernel
theorem dX1_sixteenToThe_4 : decode cX1_sixteenToThe 4 = .ok (.lshl, 1) := by decide +kernel
theorem dX1_sixteenToThe_5 : decode cX1_sixteenToThe 5 = .ok (.lreturn, 1) := by decide +kernel
theorem dX1_keepFraction_0 : decode cX1_keepFraction 0 = .ok (.lload_n 1, 1) := by decide +kernel
theorem dX1_keepFraction_1 : decode cX1_keepFraction 1 = .ok (.lload_n 3, 1) := by decide +kernel
theorem dX1_keepFraction_2 : decode cX1_keepFraction 2 = .ok (.invokestatic 134, 3) := by decide +kernel
theorem dX1_keepFraction_5 : decode cX1_keepFraction 5 = .ok (.lstore 5, 2) := by decide +kernel
theorem dX1_keepFraction_7 : decode cX1_keepFraction 7 = .ok (.lload 5, 2) := by decide +kernel
theorem dX1_keepFraction_9 : decode cX1_keepFraction 9 = .ok (.lconst 0, 1) := by decide +kernel
theorem dX1_keepFraction_10 : decode cX1_keepFraction 10 = .ok (.lcmp, 1) := by decide +kernel
theorem dX1_keepFraction_11 : decode cX1_keepFraction 11 = .ok (.ifCond .le 19, 3) := by decide +kernel
theorem dX1_keepFraction_14 : decode cX1_keepFraction 14 = .ok (.aload_n 0, 1) := by decide +kernel
theorem dX1_keepFraction_15 : decode cX1_keepFraction 15 = .ok (.lload_n 1, 1) := by decide +kernel
theorem dX1_keepFraction_16 : decode cX1_keepFraction 16 = .ok (.lload 5, 2) := by decide +kernel
theorem dX1_keepFraction_18 : decode cX1_keepFraction 18 = .ok (.ldiv, 1) := by decide +kernel
theorem dX1_keepFraction_19 : decode cX1_keepFraction 19 = .ok (.putfield 137, 3) := by decide +kernel
theorem dX1_keepFraction_22 : decode cX1_keepFraction 22 = .ok (.aload_n 0, 1) := by decide +kernel
theorem dX1_keepFraction_23 : decode cX1_keepFraction 23 = .ok (.lload_n 3, 1) := by decide +kernel
theorem dX1_keepFraction_24 : decode cX1_keepFraction 24 = .ok (.lload 5, 2) := by decide +kernel
theorem dX1_keepFraction_26 : decode cX1_keepFraction 26 = .ok (.ldiv, 1) := by decide +kernel
theorem dX1_keepFraction_27 : decode cX1_keepFraction 27 = .ok (.putfield 37, 3) := by decide +kernel
theorem dX1_keepFraction_30 : decode cX1_keepFraction 30 = .ok (.return_, 1) := by decide +kernel
theorem dX1_commonDivisor_0 : decode cX1_commonDivisor 0 = .ok (.lload_n 0, 1) := by decide +kernel
theorem dX1_commonDivisor_1 : decode cX1_commonDivisor 1 = .ok (.lstore 4, 2) := by decide +kernel
theorem dX1_commonDivisor_3 : decode cX1_commonDivisor 3 = .ok (.lload_n 2, 1) := by decide +kernel
theorem dX1_commonDivisor_4 : decode cX1_commonDivisor 4 = .ok (.lstore 6, 2) := by decide +kernel
theorem dX1_commonDivisor_6 : decode cX1_commonDivisor 6 = .ok (.iconst 0, 1) := by decide +kernel
theorem dX1_commonDivisor_7 : decode cX1_commonDivisor 7 = .ok (.istore 8, 2) := by decide +kernel
theorem dX1_commonDivisor_9 : decode cX1_commonDivisor 9 = .ok (.iload 8, 2) := by decide +kernel
theorem dX1_commonDivisor_11 : decode cX1_commonDivisor 11 = .ok (.bipush 100, 2) := by decide +kernel
theorem dX1_commonDivisor_13 : decode cX1_commonDivisor 13 = .ok (.if_icmp .ge 31, 3) := by decide +kernel
theorem dX1_commonDivisor_16 : decode cX1_commonDivisor 16 = .ok (.lload 6, 2) := by decide +kernel
theorem dX1_commonDivisor_18 : decode cX1_commonDivisor 18 = .ok (.lconst 0, 1) := by decide +kernel
theorem dX1_commonDivisor_19 : decode cX1_commonDivisor 19 = .ok (.lcmp, 1) := by decide +kernel
theorem dX1_commonDivisor_20 : decode cX1_commonDivisor 20 = .ok (.ifCond .eq 24, 3) := by decide +kernel
theorem dX1_commonDivisor_23 : decode cX1_commonDivisor 23 = .ok (.lload 4, 2) := by decide +kernel
theorem dX1_commonDivisor_25 : decode cX1_commonDivisor 25 = .ok (.lload 6, 2) := by decide +kernel
theorem dX1_commonDivisor_27 : decode cX1_commonDivisor 27 = .ok (.lrem, 1) := by decide +kernel
theorem dX1_commonDivisor_28 : decode cX1_commonDivisor 28 = .ok (.lstore 9, 2) := by decide +kernel
theorem dX1_commonDivisor_30 : decode cX1_commonDivisor 30 = .ok (.lload 6, 2) := by decide +kernel
theorem dX1_commonDivisor_32 : decode cX1_commonDivisor 32 = .ok (.lstore 4, 2) := by decide +kernel
theorem dX1_commonDivisor_34 : decode cX1_commonDivisor 34 = .ok (.lload 9, 2) := by decide +kernel
theorem dX1_commonDivisor_36 : decode cX1_commonDivisor 36 = .ok (.lstore 6, 2) := by decide +kernel
theorem dX1_commonDivisor_38 : decode cX1_commonDivisor 38 = .ok (.iinc 8 1, 3) := by decide +kernel
theorem dX1_commonDivisor_41 : decode cX1_commonDivisor 41 = .ok (.goto (-32), 3) := by decide +kernel
theorem dX1_commonDivisor_44 : decode cX1_commonDivisor 44 = .ok (.lload 4, 2) := by decide +kernel
theorem dX1_commonDivisor_46 : decode cX1_commonDivisor 46 = .ok (.lreturn, 1) := by decide +kernel
theorem dX2_init_0 : decode cX2_init 0 = .ok (.aload_n 0, 1) := by decide +kernel
theorem dX2_init_1 : decode cX2_init 1 = .ok (.invokespecial 3, 3) := by decide +kernel
theorem dX2_init_4 : decode cX2_init 4 = .ok (.aload_n 0, 1) := by decide +kernel
theorem dX2_init_5 : decode cX2_init 5 = .ok (.new 9, 3) := by decide +kernel
theorem dX2_init_8 : decode cX2_init 8 = .ok (.dup, 1) := by decide +kernel
theorem dX2_init_9 : decode cX2_init 9 = .ok (.invokespecial 11, 3) := by decide +kernel
theorem dX2_init_12 : decode cX2_init 12 = .ok (.putfield 12, 3) := by decide +kernel
theorem dX2_init_15 : decode cX2_init 15 = .ok (.aload_n 0, 1) := by decide +kernel
theorem dX2_init_16 : decode cX2_init 16 = .ok (.bipush 12, 2) := by decide +kernel
theorem dX2_init_18 : decode cX2_init 18 = .ok (.newarray .int, 2) := by decide +kernel
theorem dX2_init_20 : decode cX2_init 20 = .ok (.putfield 20, 3) := by decide +kernel
theorem dX2_init_23 : decode cX2_init 23 = .ok (.aload_n 0, 1) := by decide +kernel
theorem dX2_init_24 : decode cX2_init 24 = .ok (.bipush 12, 2) := by decide +kernel
theorem dX2_init_26 : decode cX2_init 26 = .ok (.newarray .int, 2) := by decide +kernel
theorem dX2_init_28 : decode cX2_init 28 = .ok (.putfield 24, 3) := by decide +kernel
theorem dX2_init_31 : decode cX2_init 31 = .ok (.aload_n 0, 1) := by decide +kernel
theorem dX2_init_32 : decode cX2_init 32 = .ok (.bipush 12, 2) := by decide +kernel
theorem dX2_init_34 : decode cX2_init 34 = .ok (.newarray .boolean, 2) := by decide +kernel
theorem dX2_init_36 : decode cX2_init 36 = .ok (.putfield 27, 3) := by decide +kernel
theorem dX2_init_39 : decode cX2_init 39 = .ok (.aload_n 0, 1) := by decide +kernel
theorem dX2_init_40 : decode cX2_init 40 = .ok (.iconst (-1), 1) := by decide +kernel
theorem dX2_init_41 : decode cX2_init 41 = .ok (.putfield 31, 3) := by decide +kernel
theorem dX2_init_44 : decode cX2_init 44 = .ok (.return_, 1) := by decide +kernel
theorem dX2_read_0 : decode cX2_read 0 = .ok (.aload_n 0, 1) := by decide +kernel
theorem dX2_read_1 : decode cX2_read 1 = .ok (.invokevirtual 35, 3) := by decide +kernel
theorem dX2_read_4 : decode cX2_read 4 = .ok (.aload_n 0, 1) := by decide +kernel
theorem dX2_read_5 : decode cX2_read 5 = .ok (.getfield 12, 3) := by decide +kernel
theorem dX2_read_8 : decode cX2_read 8 = .ok (.aload_n 1, 1) := by decide +kernel
theorem dX2_read_9 : decode cX2_read 9 = .ok (.iload_n 2, 1) := by decide +kernel
theorem dX2_read_10 : decode cX2_read 10 = .ok (.invokevirtual 38, 3) := by decide +kernel
theorem dX2_read_13 : decode cX2_read 13 = .ok (.iconst 0, 1) := by decide +kernel
theorem dX2_read_14 : decode cX2_read 14 = .ok (.istore_n 3, 1) := by decide +kernel
theorem dX2_read_15 : decode cX2_read 15 = .ok (.iload_n 3, 1) := by decide +kernel
theorem dX2_read_16 : decode cX2_read 16 = .ok (.sipush 400, 3) := by decide +kernel
theorem dX2_read_19 : decode cX2_read 19 = .ok (.if_icmp .ge 28, 3) := by decide +kernel
theorem dX2_read_22 : decode cX2_read 22 = .ok (.aload_n 0, 1) := by decide +kernel
theorem dX2_read_23 : decode cX2_read 23 = .ok (.getfield 12, 3) := by decide +kernel
theorem dX2_read_26 : decode cX2_read 26 = .ok (.getfield 44, 3) := by decide +kernel
theorem dX2_read_29 : decode cX2_read 29 = .ok (.ifCond .eq 18, 3) := by decide +kernel
theorem dX2_read_32 : decode cX2_read 32 = .ok (.aload_n 0, 1) := by decide +kernel
theorem dX2_read_33 : decode cX2_read 33 = .ok (.invokevirtual 47, 3) := by decide +kernel
theorem dX2_read_36 : decode cX2_read 36 = .ok (.ifCond .ne 5, 3) := by decide +kernel
theorem dX2_read_39 : decode cX2_read 39 = .ok (.iconst (-1), 1) := by decide +kernel
theorem dX2_read_40 : decode cX2_read 40 = .ok (.ireturn, 1) := by decide +kernel
theorem dX2_read_41 : decode cX2_read 41 = .ok (.iinc 3 1, 3) := by decide +kernel
theorem dX2_read_44 : decode cX2_read 44 = .ok (.goto (-29), 3) := by decide +kernel
theorem dX2_read_47 : decode cX2_read 47 = .ok (.aload_n 0, 1) := by decide +kernel
theorem dX2_read_48 : decode cX2_read 48 = .ok (.getfield 24, 3) := by decide +kernel
theorem dX2_read_51 : decode cX2_read 51 = .ok (.iconst 0, 1) := by decide +kernel
theorem dX2_read_52 : decode cX2_read 52 = .ok (.aload_n 0, 1) := by decide +kernel
theorem dX2_read_53 : decode cX2_read 53 = .ok (.getfield 20, 3) := by decide +kernel
theorem dX2_read_56 : decode cX2_read 56 = .ok (.iconst 0, 1) := by decide +kernel
theorem dX2_read_57 : decode cX2_read 57 = .ok (.bipush 12, 2) := by decide +kernel
theorem dX2_read_59 : decode cX2_read 59 = .ok (.invokestatic 51, 3) := by decide +kernel
theorem dX2_read_62 : decode cX2_read 62 = .ok (.iload_n 3, 1) := by decide +kernel
theorem dX2_read_63 : decode cX2_read 63 = .ok (.ireturn, 1) := by decide +kernel
theorem dX2_coins_0 : decode cX2_coins 0 = .ok (.aload_n 0, 1) := by decide +kernel
theorem dX2_coins_1 : decode cX2_coins 1 = .ok (.getfield 20, 3) := by decide +kernel
theorem dX2_coins_4 : decode cX2_coins 4 = .ok (.aload_n 1, 1) := by decide +kernel
theorem dX2_coins_5 : decode cX2_coins 5 = .ok (.getfield 57, 3) := by decide +kernel
theorem dX2_coins_8 : decode cX2_coins 8 = .ok (.iaload, 1) := by decide +kernel
theorem dX2_coins_9 : decode cX2_coins 9 = .ok (.ireturn, 1) := by decide +kernel
theorem dX2_saysOther_0 : decode cX2_saysOther 0 = .ok (.aload_n 0, 1) := by decide +kernel
theorem dX2_saysOther_1 : decode cX2_saysOther 1 = .ok (.getfield 20, 3) := by decide +kernel
theorem dX2_saysOther_4 : decode cX2_saysOther 4 = .ok (.aload_n 1, 1) := by decide +kernel
theorem dX2_saysOther_5 : decode cX2_saysOther 5 = .ok (.getfield 57, 3) := by decide +kernel
theorem dX2_saysOther_8 : decode cX2_saysOther 8 = .ok (.iaload, 1) := by decide +kernel
theorem dX2_saysOther_9 : decode cX2_saysOther 9 = .ok (.iconst 1, 1) := by decide +kernel
theorem dX2_saysOther_10 : decode cX2_saysOther 10 = .ok (.if_icmp .ne 7, 3) := by decide +kernel
theorem dX2_saysOther_13 : decode cX2_saysOther 13 = .ok (.iconst 1, 1) := by decide +kernel
theorem dX2_saysOther_14 : decode cX2_saysOther 14 = .ok (.goto 4, 3) := by decide +kernel
theorem dX2_saysOther_17 : decode cX2_saysOther 17 = .ok (.iconst 0, 1) := by decide +kernel
theorem dX2_saysOther_18 : decode cX2_saysOther 18 = .ok (.ireturn, 1) := by decide +kernel
theorem dX2_offerBehind_0 : decode cX2_offerBehind 0 = .ok (.iload_n 1, 1) := by decide +kernel
theorem dX2_offerBehind_1 : decode cX2_offerBehind 1 = .ok (.ifCond .lt 8, 3) := by decide +kernel
theorem dX2_offerBehind_4 : decode cX2_offerBehind 4 = .ok (.iload_n 1, 1) := by decide +kernel
theorem dX2_offerBehind_5 : decode cX2_offerBehind 5 = .ok (.iconst 4, 1) := by decide +kernel
theorem dX2_offerBehind_6 : decode cX2_offerBehind 6 = .ok (.if_icmp .lt 15, 3) := by decide +kernel
theorem dX2_offerBehind_9 : decode cX2_offerBehind 9 = .ok (.aload_n 0, 1) := by decide +kernel
theorem dX2_offerBehind_10 : decode cX2_offerBehind 10 = .ok (.getfield 20, 3) := by decide +kernel
theorem dX2_offerBehind_13 : decode cX2_offerBehind 13 = .ok (.getstatic 60, 3) := by decide +kernel
theorem dX2_offerBehind_16 : decode cX2_offerBehind 16 = .ok (.getfield 57, 3) := by decide +kernel
theorem dX2_offerBehind_19 : decode cX2_offerBehind 19 = .ok (.iaload, 1) := by decide +kernel
theorem dX2_offerBehind_20 : decode cX2_offerBehind 20 = .ok (.ireturn, 1) := by decide +kernel
theorem dX2_offerBehind_21 : decode cX2_offerBehind 21 = .ok (.aload_n 0, 1) := by decide +kernel
theorem dX2_offerBehind_22 : decode cX2_offerBehind 22 = .ok (.getfield 20, 3) := by decide +kernel
theorem dX2_offerBehind_25 : decode cX2_offerBehind 25 = .ok (.getstatic 64, 3) := by decide +kernel
theorem dX2_offerBehind_28 : decode cX2_offerBehind 28 = .ok (.getfield 57, 3) := by decide +kernel
theorem dX2_offerBehind_31 : decode cX2_offerBehind 31 = .ok (.iload_n 1, 1) := by decide +kernel
theorem dX2_offerBehind_32 : decode cX2_offerBehind 32 = .ok (.iadd, 1) := by decide +kernel
theorem dX2_offerBehind_33 : decode cX2_offerBehind 33 = .ok (.iaload, 1) := by decide +kernel
theorem dX2_offerBehind_34 : decode cX2_offerBehind 34 = .ok (.ireturn, 1) := by decide +kernel
theorem dX2_startDraft_0 : decode cX2_startDraft 0 = .ok (.aload_n 0, 1) := by decide +kernel
theorem dX2_startDraft_1 : decode cX2_startDraft 1 = .ok (.iconst 0, 1) := by decide +kernel
theorem dX2_startDraft_2 : decode cX2_startDraft 2 = .ok (.putfield 67, 3) := by decide +kernel
theorem dX2_startDraft_5 : decode cX2_startDraft 5 = .ok (.aload_n 0, 1) := by decide +kernel
theorem dX2_startDraft_6 : decode cX2_startDraft 6 = .ok (.iconst (-1), 1) := by decide +kernel
theorem dX2_startDraft_7 : decode cX2_startDraft 7 = .ok (.putfield 31, 3) := by decide +kernel
theorem dX2_startDraft_10 : decode cX2_startDraft 10 = .ok (.iconst 0, 1) := by decide +kernel
theorem dX2_startDraft_11 : decode cX2_startDraft 11 = .ok (.istore_n 1, 1) := by decide +kernel
theorem dX2_startDraft_12 : decode cX2_startDraft 12 = .ok (.iload_n 1, 1) := by decide +kernel
theorem dX2_startDraft_13 : decode cX2_startDraft 13 = .ok (.bipush 12, 2) := by decide +kernel
theorem dX2_startDraft_15 : decode cX2_startDraft 15 = .ok (.if_icmp .ge 23, 3) := by decide +kernel
theorem dX2_startDraft_18 : decode cX2_startDraft 18 = .ok (.aload_n 0, 1) := by decide +kernel
theorem dX2_startDraft_19 : decode cX2_startDraft 19 = .ok (.getfield 24, 3) := by decide +kernel
theorem dX2_startDraft_22 : decode cX2_startDraft 22 = .ok (.iload_n 1, 1) := by decide +kernel
theorem dX2_startDraft_23 : decode cX2_startDraft 23 = .ok (.iconst 0, 1) := by decide +kernel
theorem dX2_startDraft_24 : decode cX2_startDraft 24 = .ok (.iastore, 1) := by decide +kernel
theorem dX2_startDraft_25 : decode cX2_startDraft 25 = .ok (.aload_n 0, 1) := by decide +kernel
theorem dX2_startDraft_26 : decode cX2_startDraft 26 = .ok (.getfield 27, 3) := by decide +kernel
theorem dX2_startDraft_29 : decode cX2_startDraft 29 = .ok (.iload_n 1, 1) := by decide +kernel
theorem dX2_startDraft_30 : decode cX2_startDraft 30 = .ok (.iconst 0, 1) := by decide +kernel
theorem dX2_startDraft_31 : decode cX2_startDraft 31 = .ok (.bastore, 1) := by decide +kernel
theorem dX2_startDraft_32 : decode cX2_startDraft 32 = .ok (.iinc 1 1, 3) := by decide +kernel
theorem dX2_startDraft_35 : decode cX2_startDraft 35 = .ok (.goto (-23), 3) := by decide +kernel
theorem dX2_startDraft_38 : decode cX2_startDraft 38 = .ok (.return_, 1) := by decide +kernel
theorem dX2_readLine_0 : decode cX2_readLine 0 = .ok (.aload_n 0, 1) := by decide +kernel
theorem dX2_readLine_1 : decode cX2_readLine 1 = .ok (.invokevirtual 70, 3) := by decide +kernel
theorem dX2_readLine_4 : decode cX2_readLine 4 = .ok (.astore_n 1, 1) := by decide +kernel
theorem dX2_readLine_5 : decode cX2_readLine 5 = .ok (.aload_n 1, 1) := by decide +kernel
theorem dX2_readLine_6 : decode cX2_readLine 6 = .ok (.ifnonnull 9, 3) := by decide +kernel
theorem dX2_readLine_9 : decode cX2_readLine 9 = .ok (.aload_n 0, 1) := by decide +kernel
theorem dX2_readLine_10 : decode cX2_readLine 10 = .ok (.iconst 1, 1) := by decide +kernel
theorem dX2_readLine_11 : decode cX2_readLine 11 = .ok (.invokevirtual 74, 3) := by decide +kernel
theorem dX2_readLine_14 : decode cX2_readLine 14 = .ok (.ireturn, 1) := by decide +kernel
theorem dX2_readLine_15 : decode cX2_readLine 15 = .ok (.aload_n 1, 1) := by decide +kernel
theorem dX2_readLine_16 : decode cX2_readLine 16 = .ok (.getfield 57, 3) := by decide +kernel
theorem dX2_readLine_19 : decode cX2_readLine 19 = .ok (.istore_n 2, 1) := by decide +kernel
theorem dX2_readLine_20 : decode cX2_readLine 20 = .ok (.aload_n 1, 1) := by decide +kernel
theorem dX2_readLine_21 : decode cX2_readLine 21 = .ok (.getstatic 64, 3) := by decide +kernel
theorem dX2_readLine_24 : decode cX2_readLine 24 = .ok (.if_acmp .ne 30, 3) := by decide +kernel
theorem dX2_readLine_27 : decode cX2_readLine 27 = .ok (.aload_n 0, 1) := by decide +kernel
theorem dX2_readLine_28 : decode cX2_readLine 28 = .ok (.getfield 12, 3) := by decide +kernel
theorem dX2_readLine_31 : decode cX2_readLine 31 = .ok (.invokevirtual 78, 3) := by decide +kernel
theorem dX2_readLine_34 : decode cX2_readLine 34 = .ok (.aload_n 0, 1) := by decide +kernel
theorem dX2_readLine_35 : decode cX2_readLine 35 = .ok (.iconst 3, 1) := by decide +kernel
theorem dX2_readLine_36 : decode cX2_readLine 36 = .ok (.invokevirtual 81, 3) := by decide +kernel
theorem dX2_readLine_39 : decode cX2_readLine 39 = .ok (.ifCond .ne 5, 3) := by decide +kernel
theorem dX2_readLine_42 : decode cX2_readLine 42 = .ok (.iconst 0, 1) := by decide +kernel
theorem dX2_readLine_43 : decode cX2_readLine 43 = .ok (.ireturn, 1) := by decide +kernel
theorem dX2_readLine_44 : decode cX2_readLine 44 = .ok (.iload_n 2, 1) := by decide +kernel
theorem dX2_readLine_45 : decode cX2_readLine 45 = .ok (.aload_n 0, 1) := by decide +kernel
theorem dX2_readLine_46 : decode cX2_readLine 46 = .ok (.getfield 12, 3) := by decide +kernel
theorem dX2_readLine_49 : decode cX2_readLine 49 = .ok (.getfield 84, 3) := by decide +kernel
theorem dX2_readLine_52 : decode cX2_readLine 52 = .ok (.iadd, 1) := by decide +kernel
theorem dX2_readLine_53 : decode cX2_readLine 53 = .ok (.istore_n 2, 1) := by decide +kernel
theorem dX2_readLine_54 : decode cX2_readLine 54 = .ok (.aload_n 0, 1) := by decide +kernel
theorem dX2_readLine_55 : decode cX2_readLine 55 = .ok (.getfield 27, 3) := by decide +kernel
theorem dX2_readLine_58 : decode cX2_readLine 58 = .ok (.iload_n 2, 1) := by decide +kernel
theorem dX2_readLine_59 : decode cX2_readLine 59 = .ok (.baload, 1) := by decide +kernel
theorem dX2_readLine_60 : decode cX2_readLine 60 = .ok (.ifCond .eq 9, 3) := by decide +kernel
theorem dX2_readLine_63 : decode cX2_readLine 63 = .ok (.aload_n 0, 1) := by decide +kernel
theorem dX2_readLine_64 : decode cX2_readLine 64 = .ok (.iconst 3, 1) := by decide +kernel
theorem dX2_readLine_65 : decode cX2_readLine 65 = .ok (.invokevirtual 74, 3) := by decide +kernel
theorem dX2_readLine_68 : decode cX2_readLine 68 = .ok (.ireturn, 1) := by decide +kernel
theorem dX2_readLine_69 : decode cX2_readLine 69 = .ok (.aload_n 0, 1) := by decide +kernel
theorem dX2_readLine_70 : decode cX2_readLine 70 = .ok (.getfield 27, 3) := by decide +kernel
theorem dX2_readLine_73 : decode cX2_readLine 73 = .ok (.iload_n 2, 1) := by decide +kernel
theorem dX2_readLine_74 : decode cX2_readLine 74 = .ok (.iconst 1, 1) := by decide +kernel
theorem dX2_readLine_75 : decode cX2_readLine 75 = .ok (.bastore, 1) := by decide +kernel
theorem dX2_readLine_76 : decode cX2_readLine 76 = .ok (.aload_n 0, 1) := by decide +kernel
theorem dX2_readLine_77 : decode cX2_readLine 77 = .ok (.getfield 12, 3) := by decide +kernel
theorem dX2_readLine_80 : decode cX2_readLine 80 = .ok (.invokevirtual 78, 3) := by decide +kernel
theorem dX2_readLine_83 : decode cX2_readLine 83 = .ok (.aload_n 0, 1) := by decide +kernel
theorem dX2_readLine_84 : decode cX2_readLine 84 = .ok (.aload_n 1, 1) := by decide +kernel
theorem dX2_readLine_85 : decode cX2_readLine 85 = .ok (.iload_n 2, 1) := by decide +kernel
theorem dX2_readLine_86 : decode cX2_readLine 86 = .ok (.invokevirtual 87, 3) := by decide +kernel
theorem dX2_readLine_89 : decode cX2_readLine 89 = .ok (.ifCond .ne 5, 3) := by decide +kernel
theorem dX2_readLine_92 : decode cX2_readLine 92 = .ok (.iconst 0, 1) := by decide +kernel
theorem dX2_readLine_93 : decode cX2_readLine 93 = .ok (.ireturn, 1) := by decide +kernel
theorem dX2_readLine_94 : decode cX2_readLine 94 = .ok (.aload_n 0, 1) := by decide +kernel
theorem dX2_readLine_95 : decode cX2_readLine 95 = .ok (.getfield 12, 3) := by decide +kernel
theorem dX2_readLine_98 : decode cX2_readLine 98 = .ok (.invokevirtual 78, 3) := by decide +kernel
theorem dX2_readLine_101 : decode cX2_readLine 101 = .ok (.aload_n 0, 1) := by decide +kernel
theorem dX2_readLine_102 : decode cX2_readLine 102 = .ok (.getfield 12, 3) := by decide +kernel
theorem dX2_readLine_105 : decode cX2_readLine 105 = .ok (.getfield 44, 3) := by decide +kernel
theorem dX2_readLine_108 : decode cX2_readLine 108 = .ok (.iconst 3, 1) := by decide +kernel
theorem dX2_readLine_109 : decode cX2_readLine 109 = .ok (.if_icmp .eq 9, 3) := by decide +kernel
theorem dX2_readLine_112 : decode cX2_readLine 112 = .ok (.aload_n 0, 1) := by decide +kernel
theorem dX2_readLine_113 : decode cX2_readLine 113 = .ok (.iconst 1, 1) := by decide +kernel
theorem dX2_readLine_114 : decode cX2_readLine 114 = .ok (.invokevirtual 74, 3) := by decide +kernel
theorem dX2_readLine_117 : decode cX2_readLine 117 = .ok (.ireturn, 1) := by decide +kernel
theorem dX2_readLine_118 : decode cX2_readLine 118 = .ok (.aload_n 0, 1) := by decide +kernel
theorem dX2_readLine_119 : decode cX2_readLine 119 = .ok (.getfield 12, 3) := by decide +kernel
theorem dX2_readLine_122 : decode cX2_readLine 122 = .ok (.invokevirtual 78, 3) := by decide +kernel
theorem dX2_readLine_125 : decode cX2_readLine 125 = .ok (.iconst 1, 1) := by decide +kernel
theorem dX2_readLine_126 : decode cX2_readLine 126 = .ok (.ireturn, 1) := by decide +kernel
theorem dX2_keepSaying_0 : decode cX2_keepSaying 0 = .ok (.aload_n 1, 1) := by decide +kernel
theorem dX2_keepSaying_1 : decode cX2_keepSaying 1 = .ok (.invokevirtual 91, 3) := by decide +kernel
theorem dX2_keepSaying_4 : decode cX2_keepSaying 4 = .ok (.ifCond .eq 66, 3) := by decide +kernel
theorem dX2_keepSaying_7 : decode cX2_keepSaying 7 = .ok (.aload_n 0, 1) := by decide +kernel
theorem dX2_keepSaying_8 : decode cX2_keepSaying 8 = .ok (.getfield 24, 3) := by decide +kernel
theorem dX2_keepSaying_11 : decode cX2_keepSaying 11 = .ok (.iload_n 2, 1) := by decide +kernel
theorem dX2_keepSaying_12 : decode cX2_keepSaying 12 = .ok (.aload_n 0, 1) := by decide +kernel
theorem dX2_keepSaying_13 : decode cX2_keepSaying 13 = .ok (.getfield 12, 3) := by decide +kernel
theorem dX2_keepSaying_16 : decode cX2_keepSaying 16 = .ok (.aload_n 1, 1) := by decide +kernel
theorem dX2_keepSaying_17 : decode cX2_keepSaying 17 = .ok (.getfield 94, 3) := by decide +kernel
theorem dX2_keepSaying_20 : decode cX2_keepSaying 20 = .ok (.invokevirtual 98, 3) := by decide +kernel
theorem dX2_keepSaying_23 : decode cX2_keepSaying 23 = .ok (.ifCond .eq 7, 3) := by decide +kernel
theorem dX2_keepSaying_26 : decode cX2_keepSaying 26 = .ok (.iconst 1, 1) := by decide +kernel
theorem dX2_keepSaying_27 : decode cX2_keepSaying 27 = .ok (.goto 4, 3) := by decide +kernel
theorem dX2_keepSaying_30 : decode cX2_keepSaying 30 = .ok (.iconst 0, 1) := by decide +kernel
theorem dX2_keepSaying_31 : decode cX2_keepSaying 31 = .ok (.iastore, 1) := by decide +kernel
theorem dX2_keepSaying_32 : decode cX2_keepSaying 32 = .ok (.aload_n 0, 1) := by decide +kernel
theorem dX2_keepSaying_33 : decode cX2_keepSaying 33 = .ok (.getfield 24, 3) := by decide +kernel
theorem dX2_keepSaying_36 : decode cX2_keepSaying 36 = .ok (.iload_n 2, 1) := by decide +kernel
theorem dX2_keepSaying_37 : decode cX2_keepSaying 37 = .ok (.iaload, 1) := by decide +kernel
theorem dX2_keepSaying_38 : decode cX2_keepSaying 38 = .ok (.iconst 1, 1) := by decide +kernel
theorem dX2_keepSaying_39 : decode cX2_keepSaying 39 = .ok (.if_icmp .eq 25, 3) := by decide +kernel
theorem dX2_keepSaying_42 : decode cX2_keepSaying 42 = .ok (.aload_n 0, 1) := by decide +kernel
theorem dX2_keepSaying_43 : decode cX2_keepSaying 43 = .ok (.getfield 12, 3) := by decide +kernel
theorem dX2_keepSaying_46 : decode cX2_keepSaying 46 = .ok (.aload_n 1, 1) := by decide +kernel
theorem dX2_keepSaying_47 : decode cX2_keepSaying 47 = .ok (.getfield 102, 3) := by decide +kernel
theorem dX2_keepSaying_50 : decode cX2_keepSaying 50 = .ok (.invokevirtual 98, 3) := by decide +kernel
theorem dX2_keepSaying_53 : decode cX2_keepSaying 53 = .ok (.ifCond .ne 11, 3) := by decide +kernel
theorem dX2_keepSaying_56 : decode cX2_keepSaying 56 = .ok (.aload_n 0, 1) := by decide +kernel
theorem dX2_keepSaying_57 : decode cX2_keepSaying 57 = .ok (.iconst 1, 1) := by decide +kernel
theorem dX2_keepSaying_58 : decode cX2_keepSaying 58 = .ok (.invokevirtual 74, 3) := by decide +kernel
theorem dX2_keepSaying_61 : decode cX2_keepSaying 61 = .ok (.ifCond .eq 7, 3) := by decide +kernel
theorem dX2_keepSaying_64 : decode cX2_keepSaying 64 = .ok (.iconst 1, 1) := by decide +kernel
theorem dX2_keepSaying_65 : decode cX2_keepSaying 65 = .ok (.goto 4, 3) := by decide +kernel
theorem dX2_keepSaying_68 : decode cX2_keepSaying 68 = .ok (.iconst 0, 1) := by decide +kernel
theorem dX2_keepSaying_69 : decode cX2_keepSaying 69 = .ok (.ireturn, 1) := by decide +kernel
theorem dX2_keepSaying_70 : decode cX2_keepSaying 70 = .ok (.aload_n 0, 1) := by decide +kernel
theorem dX2_keepSaying_71 : decode cX2_keepSaying 71 = .ok (.aload_n 1, 1) := by decide +kernel
theorem dX2_keepSaying_72 : decode cX2_keepSaying 72 = .ok (.getfield 105, 3) := by decide +kernel
theorem dX2_keepSaying_75 : decode cX2_keepSaying 75 = .ok (.invokevirtual 81, 3) := by decide +kernel
theorem dX2_keepSaying_78 : decode cX2_keepSaying 78 = .ok (.ifCond .ne 5, 3) := by decide +kernel
theorem dX2_keepSaying_81 : decode cX2_keepSaying 81 = .ok (.iconst 0, 1) := by decide +kernel
theorem dX2_keepSaying_82 : decode cX2_keepSaying 82 = .ok (.ireturn, 1) := by decide +kernel
theorem dX2_keepSaying_83 : decode cX2_keepSaying 83 = .ok (.aload_n 0, 1) := by decide +kernel
theorem dX2_keepSaying_84 : decode cX2_keepSaying 84 = .ok (.getfield 24, 3) := by decide +kernel
theorem dX2_keepSaying_87 : decode cX2_keepSaying 87 = .ok (.iload_n 2, 1) := by decide +kernel
theorem dX2_keepSaying_88 : decode cX2_keepSaying 88 = .ok (.aload_n 0, 1) := by decide +kernel
theorem dX2_keepSaying_89 : decode cX2_keepSaying 89 = .ok (.getfield 12, 3) := by decide +kernel
theorem dX2_keepSaying_92 : decode cX2_keepSaying 92 = .ok (.getfield 84, 3) := by decide +kernel
theorem dX2_keepSaying_95 : decode cX2_keepSaying 95 = .ok (.iastore, 1) := by decide +kernel
theorem dX2_keepSaying_96 : decode cX2_keepSaying 96 = .ok (.iconst 1, 1) := by decide +kernel
theorem dX2_keepSaying_97 : decode cX2_keepSaying 97 = .ok (.ireturn, 1) := by decide +kernel
theorem dX2_lineHere_0 : decode cX2_lineHere 0 = .ok (.getstatic 108, 3) := by decide +kernel
theorem dX2_lineHere_3 : decode cX2_lineHere 3 = .ok (.astore_n 1, 1) := by decide +kernel
theorem dX2_lineHere_4 : decode cX2_lineHere 4 = .ok (.aload_n 1, 1) := by decide +kernel
theorem dX2_lineHere_5 : decode cX2_lineHere 5 = .ok (.arraylength, 1) := by decide +kernel
theorem dX2_lineHere_6 : decode cX2_lineHere 6 = .ok (.istore_n 2, 1) := by decide +kernel
theorem dX2_lineHere_7 : decode cX2_lineHere 7 = .ok (.iconst 0, 1) := by decide +kernel
theorem dX2_lineHere_8 : decode cX2_lineHere 8 = .ok (.istore_n 3, 1) := by decide +kernel
theorem dX2_lineHere_9 : decode cX2_lineHere 9 = .ok (.iload_n 3, 1) := by decide +kernel
theorem dX2_lineHere_10 : decode cX2_lineHere 10 = .ok (.iload_n 2, 1) := by decide +kernel
theorem dX2_lineHere_11 : decode cX2_lineHere 11 = .ok (.if_icmp .ge 32, 3) := by decide +kernel
theorem dX2_lineHere_14 : decode cX2_lineHere 14 = .ok (.aload_n 1, 1) := by decide +kernel
theorem dX2_lineHere_15 : decode cX2_lineHere 15 = .ok (.iload_n 3, 1) := by decide +kernel
theorem dX2_lineHere_16 : decode cX2_lineHere 16 = .ok (.aaload, 1) := by decide +kernel
theorem dX2_lineHere_17 : decode cX2_lineHere 17 = .ok (.astore 4, 2) := by decide +kernel
theorem dX2_lineHere_19 : decode cX2_lineHere 19 = .ok (.aload_n 0, 1) := by decide +kernel
theorem dX2_lineHere_20 : decode cX2_lineHere 20 = .ok (.getfield 12, 3) := by decide +kernel
theorem dX2_lineHere_23 : decode cX2_lineHere 23 = .ok (.aload 4, 2) := by decide +kernel
theorem dX2_lineHere_25 : decode cX2_lineHere 25 = .ok (.getfield 112, 3) := by decide +kernel
theorem dX2_lineHere_28 : decode cX2_lineHere 28 = .ok (.invokevirtual 98, 3) := by decide +kernel
theorem dX2_lineHere_31 : decode cX2_lineHere 31 = .ok (.ifCond .eq 6, 3) := by decide +kernel
theorem dX2_lineHere_34 : decode cX2_lineHere 34 = .ok (.aload 4, 2) := by decide +kernel
theorem dX2_lineHere_36 : decode cX2_lineHere 36 = .ok (.areturn, 1) := by decide +kernel
theorem dX2_lineHere_37 : decode cX2_lineHere 37 = .ok (.iinc 3 1, 3) := by decide +kernel
theorem dX2_lineHere_40 : decode cX2_lineHere 40 = .ok (.goto (-31), 3) := by decide +kernel
theorem dX2_lineHere_43 : decode cX2_lineHere 43 = .ok (.aconst_null, 1) := by decide +kernel
theorem dX2_lineHere_44 : decode cX2_lineHere 44 = .ok (.areturn, 1) := by decide +kernel
theorem dX2_isNumberUpTo_0 : decode cX2_isNumberUpTo 0 = .ok (.aload_n 0, 1) := by decide +kernel
theorem dX2_isNumberUpTo_1 : decode cX2_isNumberUpTo 1 = .ok (.getfield 12, 3) := by decide +kernel
theorem dX2_isNumberUpTo_4 : decode cX2_isNumberUpTo 4 = .ok (.getfield 44, 3) := by decide +kernel
theorem dX2_isNumberUpTo_7 : decode cX2_isNumberUpTo 7 = .ok (.iconst 2, 1) := by decide +kernel
theorem dX2_isNumberUpTo_8 : decode cX2_isNumberUpTo 8 = .ok (.if_icmp .eq 9, 3) := by decide +kernel
theorem dX2_isNumberUpTo_11 : decode cX2_isNumberUpTo 11 = .ok (.aload_n 0, 1) := by decide +kernel
theorem dX2_isNumberUpTo_12 : decode cX2_isNumberUpTo 12 = .ok (.iconst 1, 1) := by decide +kernel
theorem dX2_isNumberUpTo_13 : decode cX2_isNumberUpTo 13 = .ok (.invokevirtual 74, 3) := by decide +kernel
theorem dX2_isNumberUpTo_16 : decode cX2_isNumberUpTo 16 = .ok (.ireturn, 1) := by decide +kernel
theorem dX2_isNumberUpTo_17 : decode cX2_isNumberUpTo 17 = .ok (.aload_n 0, 1) := by decide +kernel
theorem dX2_isNumberUpTo_18 : decode cX2_isNumberUpTo 18 = .ok (.getfield 12, 3) := by decide +kernel
theorem dX2_isNumberUpTo_21 : decode cX2_isNumberUpTo 21 = .ok (.getfield 84, 3) := by decide +kernel
theorem dX2_isNumberUpTo_24 : decode cX2_isNumberUpTo 24 = .ok (.iload_n 1, 1) := by decide +kernel
theorem dX2_isNumberUpTo_25 : decode cX2_isNumberUpTo 25 = .ok (.if_icmp .le 11, 3) := by decide +kernel
theorem dX2_isNumberUpTo_28 : decode cX2_isNumberUpTo 28 = .ok (.aload_n 0, 1) := by decide +kernel
theorem dX2_isNumberUpTo_29 : decode cX2_isNumberUpTo 29 = .ok (.iconst 2, 1) := by decide +kernel
theorem dX2_isNumberUpTo_30 : decode cX2_isNumberUpTo 30 = .ok (.invokevirtual 74, 3) := by decide +kernel
theorem dX2_isNumberUpTo_33 : decode cX2_isNumberUpTo 33 = .ok (.ifCond .eq 7, 3) := by decide +kernel
theorem dX2_isNumberUpTo_36 : decode cX2_isNumberUpTo 36 = .ok (.iconst 1, 1) := by decide +kernel
theorem dX2_isNumberUpTo_37 : decode cX2_isNumberUpTo 37 = .ok (.goto 4, 3) := by decide +kernel
theorem dX2_isNumberUpTo_40 : decode cX2_isNumberUpTo 40 = .ok (.iconst 0, 1) := by decide +kernel
theorem dX2_isNumberUpTo_41 : decode cX2_isNumberUpTo 41 = .ok (.ireturn, 1) := by decide +kernel
theorem dX2_blame_0 : decode cX2_blame 0 = .ok (.aload_n 0, 1) := by decide +kernel
theorem dX2_blame_1 : decode cX2_blame 1 = .ok (.iload_n 1, 1) := by decide +kernel
theorem dX2_blame_2 : decode cX2_blame 2 = .ok (.putfield 67, 3) := by decide +kernel
theorem dX2_blame_5 : decode cX2_blame 5 = .ok (.aload_n 0, 1) := by decide +kernel
theorem dX2_blame_6 : decode cX2_blame 6 = .ok (.aload_n 0, 1) := by decide +kernel
theorem dX2_blame_7 : decode cX2_blame 7 = .ok (.getfield 12, 3) := by decide +kernel
theorem dX2_blame_10 : decode cX2_blame 10 = .ok (.getfield 115, 3) := by decide +kernel
theorem dX2_blame_13 : decode cX2_blame 13 = .ok (.putfield 31, 3) := by decide +kernel
theorem dX2_blame_16 : decode cX2_blame 16 = .ok (.iconst 0, 1) := by decide +kernel
theorem dX2_blame_17 : decode cX2_blame 17 = .ok (.ireturn, 1) := by decide +kernel
theorem dX3_isChoice_0 : decode cX3_isChoice 0 = .ok (.aload_n 0, 1) := by decide +kernel
theorem dX3_isChoice_1 : decode cX3_isChoice 1 = .ok (.getfield 58, 3) := by decide +kernel
theorem dX3_isChoice_4 : decode cX3_isChoice 4 = .ok (.invokevirtual 67, 3) := by decide +kernel
theorem dX3_isChoice_7 : decode cX3_isChoice 7 = .ok (.ifCond .ne 7, 3) := by decide +kernel
theorem dX3_isChoice_10 : decode cX3_isChoice 10 = .ok (.iconst 1, 1) := by decide +kernel
theorem dX3_isChoice_11 : decode cX3_isChoice 11 = .ok (.goto 4, 3) := by decide +kernel
theorem dX3_isChoice_14 : decode cX3_isChoice 14 = .ok (.iconst 0, 1) := by decide +kernel
theorem dX3_isChoice_15 : decode cX3_isChoice 15 = .ok (.ireturn, 1) := by decide +kernel
theorem dX4_init_0 : decode cX4_init 0 = .ok (.aload_n 0, 1) := by decide +kernel
theorem dX4_init_1 : decode cX4_init 1 = .ok (.invokespecial 3, 3) := by decide +kernel
theorem dX4_init_4 : decode cX4_init 4 = .ok (.aload_n 0, 1) := by decide +kernel
theorem dX4_init_5 : decode cX4_init 5 = .ok (.bipush 8, 2) := by decide +kernel
theorem dX4_init_7 : decode cX4_init 7 = .ok (.newarray .int, 2) := by decide +kernel
theorem dX4_init_9 : decode cX4_init 9 = .ok (.putfield 9, 3) := by decide +kernel
theorem dX4_init_12 : decode cX4_init 12 = .ok (.aload_n 0, 1) := by decide +kernel
theorem dX4_init_13 : decode cX4_init 13 = .ok (.bipush 8, 2) := by decide +kernel
theorem dX4_init_15 : decode cX4_init 15 = .ok (.newarray .int, 2) := by decide +kernel
theorem dX4_init_17 : decode cX4_init 17 = .ok (.putfield 15, 3) := by decide +kernel
theorem dX4_init_20 : decode cX4_init 20 = .ok (.return_, 1) := by decide +kernel
theorem dX4_add_0 : decode cX4_add 0 = .ok (.iload_n 1, 1) := by decide +kernel
theorem dX4_add_1 : decode cX4_add 1 = .ok (.ifCond .lt 18, 3) := by decide +kernel
theorem dX4_add_4 : decode cX4_add 4 = .ok (.iload_n 1, 1) := by decide +kernel
theorem dX4_add_5 : decode cX4_add 5 = .ok (.ldc 18, 2) := by decide +kernel
theorem dX4_add_7 : decode cX4_add 7 = .ok (.if_icmp .gt 12, 3) := by decide +kernel
theorem dX4_add_10 : decode cX4_add 10 = .ok (.aload_n 0, 1) := by decide +kernel
theorem dX4_add_11 : decode cX4_add 11 = .ok (.getfield 19, 3) := by decide +kernel
theorem dX4_add_14 : decode cX4_add 14 = .ok (.bipush 8, 2) := by decide +kernel
theorem dX4_add_16 : decode cX4_add 16 = .ok (.if_icmp .lt 5, 3) := by decide +kernel
theorem dX4_add_19 : decode cX4_add 19 = .ok (.iconst (-1), 1) := by decide +kernel
theorem dX4_add_20 : decode cX4_add 20 = .ok (.ireturn, 1) := by decide +kernel
theorem dX4_add_21 : decode cX4_add 21 = .ok (.aload_n 0, 1) := by decide +kernel
theorem dX4_add_22 : decode cX4_add 22 = .ok (.getfield 9, 3) := by decide +kernel
theorem dX4_add_25 : decode cX4_add 25 = .ok (.aload_n 0, 1) := by decide +kernel
theorem dX4_add_26 : decode cX4_add 26 = .ok (.getfield 19, 3) := by decide +kernel
theorem dX4_add_29 : decode cX4_add 29 = .ok (.iload_n 1, 1) := by decide +kernel
theorem dX4_add_30 : decode cX4_add 30 = .ok (.iastore, 1) := by decide +kernel
theorem dX4_add_31 : decode cX4_add 31 = .ok (.aload_n 0, 1) := by decide +kernel
theorem dX4_add_32 : decode cX4_add 32 = .ok (.dup, 1) := by decide +kernel
theorem dX4_add_33 : decode cX4_add 33 = .ok (.getfield 19, 3) := by decide +kernel
theorem dX4_add_36 : decode cX4_add 36 = .ok (.iconst 1, 1) := by decide +kernel
theorem dX4_add_37 : decode cX4_add 37 = .ok (.iadd, 1) := by decide +kernel
theorem dX4_add_38 : decode cX4_add 38 = .ok (.putfield 19, 3) := by decide +kernel
theorem dX4_add_41 : decode cX4_add 41 = .ok (.aload_n 0, 1) := by decide +kernel
theorem dX4_add_42 : decode cX4_add 42 = .ok (.getfield 19, 3) := by decide +kernel
theorem dX4_add_45 : decode cX4_add 45 = .ok (.iconst 1, 1) := by decide +kernel
theorem dX4_add_46 : decode cX4_add 46 = .ok (.isub, 1) := by decide +kernel
theorem dX4_add_47 : decode cX4_add 47 = .ok (.ireturn, 1) := by decide +kernel
theorem dX4_has_0 : decode cX4_has 0 = .ok (.iload_n 1, 1) := by decide +kernel
theorem dX4_has_1 : decode cX4_has 1 = .ok (.ifCond .lt 15, 3) := by decide +kernel
theorem dX4_has_4 : decode cX4_has 4 = .ok (.iload_n 1, 1) := by decide +kernel
theorem dX4_has_5 : decode cX4_has 5 = .ok (.aload_n 0, 1) := by decide +kernel
theorem dX4_has_6 : decode cX4_has 6 = .ok (.getfield 19, 3) := by decide +kernel
theorem dX4_has_9 : decode cX4_has 9 = .ok (.if_icmp .ge 7, 3) := by decide +kernel
theorem dX4_has_12 : decode cX4_has 12 = .ok (.iconst 1, 1) := by decide +kernel
theorem dX4_has_13 : decode cX4_has 13 = .ok (.goto 4, 3) := by decide +kernel
theorem dX4_has_16 : decode cX4_has 16 = .ok (.iconst 0, 1) := by decide +kernel
theorem dX4_has_17 : decode cX4_has 17 = .ok (.ireturn, 1) := by decide +kernel
theorem dX4_canPay_0 : decode cX4_canPay 0 = .ok (.aload_n 0, 1) := by decide +kernel
theorem dX4_canPay_1 : decode cX4_canPay 1 = .ok (.aload_n 1, 1) := by decide +kernel
theorem dX4_canPay_2 : decode cX4_canPay 2 = .ok (.iload_n 2, 1) := by decide +kernel
theorem dX4_canPay_3 : decode cX4_canPay 3 = .ok (.invokevirtual 23, 3) := by decide +kernel
theorem dX4_canPay_6 : decode cX4_canPay 6 = .ok (.iconst 0, 1) := by decide +kernel
theorem dX4_canPay_7 : decode cX4_canPay 7 = .ok (.istore_n 3, 1) := by decide +kernel
theorem dX4_canPay_8 : decode cX4_canPay 8 = .ok (.iload_n 3, 1) := by decide +kernel
theorem dX4_canPay_9 : decode cX4_canPay 9 = .ok (.aload_n 0, 1) := by decide +kernel
theorem dX4_canPay_10 : decode cX4_canPay 10 = .ok (.getfield 19, 3) := by decide +kernel
theorem dX4_canPay_13 : decode cX4_canPay 13 = .ok (.if_icmp .ge 26, 3) := by decide +kernel
theorem dX4_canPay_16 : decode cX4_canPay 16 = .ok (.aload_n 0, 1) := by decide +kernel
theorem dX4_canPay_17 : decode cX4_canPay 17 = .ok (.getfield 9, 3) := by decide +kernel
theorem dX4_canPay_20 : decode cX4_canPay 20 = .ok (.iload_n 3, 1) := by decide +kernel
theorem dX4_canPay_21 : decode cX4_canPay 21 = .ok (.iaload, 1) := by decide +kernel
theorem dX4_canPay_22 : decode cX4_canPay 22 = .ok (.aload_n 0, 1) := by decide +kernel
theorem dX4_canPay_23 : decode cX4_canPay 23 = .ok (.getfield 15, 3) := by decide +kernel
theorem dX4_canPay_26 : decode cX4_canPay 26 = .ok (.iload_n 3, 1) := by decide +kernel
theorem dX4_canPay_27 : decode cX4_canPay 27 = .ok (.iaload, 1) := by decide +kernel
theorem dX4_canPay_28 : decode cX4_canPay 28 = .ok (.if_icmp .ge 5, 3) := by decide +kernel
theorem dX4_canPay_31 : decode cX4_canPay 31 = .ok (.iconst 0, 1) := by decide +kernel
theorem dX4_canPay_32 : decode cX4_canPay 32 = .ok (.ireturn, 1) := by decide +kernel
theorem dX4_canPay_33 : decode cX4_canPay 33 = .ok (.iinc 3 1, 3) := by decide +kernel
theorem dX4_canPay_36 : decode cX4_canPay 36 = .ok (.goto (-28), 3) := by decide +kernel
theorem dX4_canPay_39 : decode cX4_canPay 39 = .ok (.iconst 1, 1) := by decide +kernel
theorem dX4_canPay_40 : decode cX4_canPay 40 = .ok (.ireturn, 1) := by decide +kernel
theorem dX4_take_0 : decode cX4_take 0 = .ok (.aload_n 0, 1) := by decide +kernel
theorem dX4_take_1 : decode cX4_take 1 = .ok (.aload_n 1, 1) := by decide +kernel
theorem dX4_take_2 : decode cX4_take 2 = .ok (.iload_n 2, 1) := by decide +kernel
theorem dX4_take_3 : decode cX4_take 3 = .ok (.invokevirtual 23, 3) := by decide +kernel
theorem dX4_take_6 : decode cX4_take 6 = .ok (.iconst 0, 1) := by decide +kernel
theorem dX4_take_7 : decode cX4_take 7 = .ok (.istore_n 3, 1) := by decide +kernel
theorem dX4_take_8 : decode cX4_take 8 = .ok (.iload_n 3, 1) := by decide +kernel
theorem dX4_take_9 : decode cX4_take 9 = .ok (.aload_n 0, 1) := by decide +kernel
theorem dX4_take_10 : decode cX4_take 10 = .ok (.getfield 19, 3) := by decide +kernel
theorem dX4_take_13 : decode cX4_take 13 = .ok (.if_icmp .ge 24, 3) := by decide +kernel
theorem dX4_take_16 : decode cX4_take 16 = .ok (.aload_n 0, 1) := by decide +kernel
theorem dX4_take_17 : decode cX4_take 17 = .ok (.getfield 9, 3) := by decide +kernel
theorem dX4_take_20 : decode cX4_take 20 = .ok (.iload_n 3, 1) := by decide +kernel
theorem dX4_take_21 : decode cX4_take 21 = .ok (.dup2, 1) := by decide +kernel
theorem dX4_take_22 : decode cX4_take 22 = .ok (.iaload, 1) := by decide +kernel
theorem dX4_take_23 : decode cX4_take 23 = .ok (.aload_n 0, 1) := by decide +kernel
theorem dX4_take_24 : decode cX4_take 24 = .ok (.getfield 15, 3) := by decide +kernel
theorem dX4_take_27 : decode cX4_take 27 = .ok (.iload_n 3, 1) := by decide +kernel
theorem dX4_take_28 : decode cX4_take 28 = .ok (.iaload, 1) := by decide +kernel
theorem dX4_take_29 : decode cX4_take 29 = .ok (.isub, 1) := by decide +kernel
theorem dX4_take_30 : decode cX4_take 30 = .ok (.iastore, 1) := by decide +kernel
theorem dX4_take_31 : decode cX4_take 31 = .ok (.iinc 3 1, 3) := by decide +kernel
theorem dX4_take_34 : decode cX4_take 34 = .ok (.goto (-26), 3) := by decide +kernel
theorem dX4_take_37 : decode cX4_take 37 = .ok (.return_, 1) := by decide +kernel
theorem dX4_give_0 : decode cX4_give 0 = .ok (.aload_n 0, 1) := by decide +kernel
theorem dX4_give_1 : decode cX4_give 1 = .ok (.aload_n 1, 1) := by decide +kernel
theorem dX4_give_2 : decode cX4_give 2 = .ok (.iload_n 2, 1) := by decide +kernel
theorem dX4_give_3 : decode cX4_give 3 = .ok (.invokevirtual 23, 3) := by decide +kernel
theorem dX4_give_6 : decode cX4_give 6 = .ok (.iconst 0, 1) := by decide +kernel
theorem dX4_give_7 : decode cX4_give 7 = .ok (.istore_n 3, 1) := by decide +kernel
theorem dX4_give_8 : decode cX4_give 8 = .ok (.iload_n 3, 1) := by decide +kernel
theorem dX4_give_9 : decode cX4_give 9 = .ok (.aload_n 0, 1) := by decide +kernel
theorem dX4_give_10 : decode cX4_give 10 = .ok (.getfield 19, 3) := by decide +kernel
theorem dX4_give_13 : decode cX4_give 13 = .ok (.if_icmp .ge 24, 3) := by decide +kernel
theorem dX4_give_16 : decode cX4_give 16 = .ok (.aload_n 0, 1) := by decide +kernel
theorem dX4_give_17 : decode cX4_give 17 = .ok (.getfield 9, 3) := by decide +kernel
theorem dX4_give_20 : decode cX4_give 20 = .ok (.iload_n 3, 1) := by decide +kernel
theorem dX4_give_21 : decode cX4_give 21 = .ok (.dup2, 1) := by decide +kernel
theorem dX4_give_22 : decode cX4_give 22 = .ok (.iaload, 1) := by decide +kernel
theorem dX4_give_23 : decode cX4_give 23 = .ok (.aload_n 0, 1) := by decide +kernel
theorem dX4_give_24 : decode cX4_give 24 = .ok (.getfield 15, 3) := by decide +kernel
theorem dX4_give_27 : decode cX4_give 27 = .ok (.iload_n 3, 1) := by decide +kernel
theorem dX4_give_28 : decode cX4_give 28 = .ok (.iaload, 1) := by decide +kernel
theorem dX4_give_29 : decode cX4_give 29 = .ok (.iadd, 1) := by decide +kernel
theorem dX4_give_30 : decode cX4_give 30 = .ok (.iastore, 1) := by decide +kernel
theorem dX4_give_31 : decode cX4_give 31 = .ok (.iinc 3 1, 3) := by decide +kernel
theorem dX4_give_34 : decode cX4_give 34 = .ok (.goto (-26), 3) := by decide +kernel
theorem dX4_give_37 : decode cX4_give 37 = .ok (.return_, 1) := by decide +kernel
theorem dX4_divide_0 : decode cX4_divide 0 = .ok (.iload_n 2, 1) := by decide +kernel
theorem dX4_divide_1 : decode cX4_divide 1 = .ok (.istore_n 3, 1) := by decide +kernel
theorem dX4_divide_2 : decode cX4_divide 2 = .ok (.iconst 0, 1) := by decide +kernel
theorem dX4_divide_3 : decode cX4_divide 3 = .ok (.istore 4, 2) := by decide +kernel
theorem dX4_divide_5 : decode cX4_divide 5 = .ok (.iload 4, 2) := by decide +kernel
theorem dX4_divide_7 : decode cX4_divide 7 = .ok (.aload_n 0, 1) := by decide +kernel
theorem dX4_divide_8 : decode cX4_divide 8 = .ok (.getfield 19, 3) := by decide +kernel
theorem dX4_divide_11 : decode cX4_divide 11 = .ok (.if_icmp .ge 38, 3) := by decide +kernel
theorem dX4_divide_14 : decode cX4_divide 14 = .ok (.aload_n 0, 1) := by decide +kernel
theorem dX4_divide_15 : decode cX4_divide 15 = .ok (.getfield 15, 3) := by decide +kernel
theorem dX4_divide_18 : decode cX4_divide 18 = .ok (.iload 4, 2) := by decide +kernel
theorem dX4_divide_20 : decode cX4_divide 20 = .ok (.aload_n 1, 1) := by decide +kernel
theorem dX4_divide_21 : decode cX4_divide 21 = .ok (.getfield 27, 3) := by decide +kernel
theorem dX4_divide_24 : decode cX4_divide 24 = .ok (.iload 4, 2) := by decide +kernel
theorem dX4_divide_26 : decode cX4_divide 26 = .ok (.iaload, 1) := by decide +kernel
theorem dX4_divide_27 : decode cX4_divide 27 = .ok (.iload_n 2, 1) := by decide +kernel
theorem dX4_divide_28 : decode cX4_divide 28 = .ok (.imul, 1) := by decide +kernel
theorem dX4_divide_29 : decode cX4_divide 29 = .ok (.bipush 16, 2) := by decide +kernel
theorem dX4_divide_31 : decode cX4_divide 31 = .ok (.idiv, 1) := by decide +kernel
theorem dX4_divide_32 : decode cX4_divide 32 = .ok (.iastore, 1) := by decide +kernel
theorem dX4_divide_33 : decode cX4_divide 33 = .ok (.iload_n 3, 1) := by decide +kernel
theorem dX4_divide_34 : decode cX4_divide 34 = .ok (.aload_n 0, 1) := by decide +kernel
theorem dX4_divide_35 : decode cX4_divide 35 = .ok (.getfield 15, 3) := by decide +kernel
theorem dX4_divide_38 : decode cX4_divide 38 = .ok (.iload 4, 2) := by decide +kernel
theorem dX4_divide_40 : decode cX4_divide 40 = .ok (.iaload, 1) := by decide +kernel
theorem dX4_divide_41 : decode cX4_divide 41 = .ok (.isub, 1) := by decide +kernel
theorem dX4_divide_42 : decode cX4_divide 42 = .ok (.istore_n 3, 1) := by decide +kernel
theorem dX4_divide_43 : decode cX4_divide 43 = .ok (.iinc 4 1, 3) := by decide +kernel
theorem dX4_divide_46 : decode cX4_divide 46 = .ok (.goto (-41), 3) := by decide +kernel
theorem dX4_divide_49 : decode cX4_divide 49 = .ok (.iconst 0, 1) := by decide +kernel
theorem dX4_divide_50 : decode cX4_divide 50 = .ok (.istore 4, 2) := by decide +kernel
theorem dX4_divide_52 : decode cX4_divide 52 = .ok (.iload 4, 2) := by decide +kernel
theorem dX4_divide_54 : decode cX4_divide 54 = .ok (.aload_n 0, 1) := by decide +kernel
theorem dX4_divide_55 : decode cX4_divide 55 = .ok (.getfield 19, 3) := by decide +kernel
theorem dX4_divide_58 : decode cX4_divide 58 = .ok (.if_icmp .ge 37, 3) := by decide +kernel
theorem dX4_divide_61 : decode cX4_divide 61 = .ok (.iload_n 3, 1) := by decide +kernel
theorem dX4_divide_62 : decode cX4_divide 62 = .ok (.ifCond .le 33, 3) := by decide +kernel
theorem dX4_divide_65 : decode cX4_divide 65 = .ok (.aload_n 1, 1) := by decide +kernel
theorem dX4_divide_66 : decode cX4_divide 66 = .ok (.getfield 27, 3) := by decide +kernel
theorem dX4_divide_69 : decode cX4_divide 69 = .ok (.iload 4, 2) := by decide +kernel
theorem dX4_divide_71 : decode cX4_divide 71 = .ok (.iaload, 1) := by decide +kernel
theorem dX4_divide_72 : decode cX4_divide 72 = .ok (.ifCond .le 17, 3) := by decide +kernel
theorem dX4_divide_75 : decode cX4_divide 75 = .ok (.aload_n 0, 1) := by decide +kernel
theorem dX4_divide_76 : decode cX4_divide 76 = .ok (.getfield 15, 3) := by decide +kernel
theorem dX4_divide_79 : decode cX4_divide 79 = .ok (.iload 4, 2) := by decide +kernel
theorem dX4_divide_81 : decode cX4_divide 81 = .ok (.dup2, 1) := by decide +kernel
theorem dX4_divide_82 : decode cX4_divide 82 = .ok (.iaload, 1) := by decide +kernel
theorem dX4_divide_83 : decode cX4_divide 83 = .ok (.iconst 1, 1) := by decide +kernel
theorem dX4_divide_84 : decode cX4_divide 84 = .ok (.iadd, 1) := by decide +kernel
theorem dX4_divide_85 : decode cX4_divide 85 = .ok (.iastore, 1) := by decide +kernel
theorem dX4_divide_86 : decode cX4_divide 86 = .ok (.iinc 3 (-1), 3) := by decide +kernel
theorem dX4_divide_89 : decode cX4_divide 89 = .ok (.iinc 4 1, 3) := by decide +kernel
theorem dX4_divide_92 : decode cX4_divide 92 = .ok (.goto (-40), 3) := by decide +kernel
theorem dX4_divide_95 : decode cX4_divide 95 = .ok (.return_, 1) := by decide +kernel
theorem dX5_init_0 : decode cX5_init 0 = .ok (.aload_n 0, 1) := by decide +kernel
theorem dX5_init_1 : decode cX5_init 1 = .ok (.invokespecial 3, 3) := by decide +kernel
theorem dX5_init_4 : decode cX5_init 4 = .ok (.return_, 1) := by decide +kernel
theorem dX5_begin_0 : decode cX5_begin 0 = .ok (.aload_n 0, 1) := by decide +kernel
theorem dX5_begin_1 : decode cX5_begin 1 = .ok (.aload_n 1, 1) := by decide +kernel
theorem dX5_begin_2 : decode cX5_begin 2 = .ok (.putfield 9, 3) := by decide +kernel
theorem dX5_begin_5 : decode cX5_begin 5 = .ok (.aload_n 0, 1) := by decide +kernel
theorem dX5_begin_6 : decode cX5_begin 6 = .ok (.iload_n 2, 1) := by decide +kernel
theorem dX5_begin_7 : decode cX5_begin 7 = .ok (.putfield 15, 3) := by decide +kernel
theorem dX5_begin_10 : decode cX5_begin 10 = .ok (.aload_n 0, 1) := by decide +kernel
theorem dX5_begin_11 : decode cX5_begin 11 = .ok (.iconst 0, 1) := by decide +kernel
theorem dX5_begin_12 : decode cX5_begin 12 = .ok (.putfield 19, 3) := by decide +kernel
theorem dX5_begin_15 : decode cX5_begin 15 = .ok (.aload_n 0, 1) := by decide +kernel
theorem dX5_begin_16 : decode cX5_begin 16 = .ok (.invokevirtual 22, 3) := by decide +kernel
theorem dX5_begin_19 : decode cX5_begin 19 = .ok (.return_, 1) := by decide +kernel
theorem dX5_advance_0 : decode cX5_advance 0 = .ok (.aload_n 0, 1) := by decide +kernel
theorem dX5_advance_1 : decode cX5_advance 1 = .ok (.invokevirtual 25, 3) := by decide +kernel
theorem dX5_advance_4 : decode cX5_advance 4 = .ok (.aload_n 0, 1) := by decide +kernel
theorem dX5_advance_5 : decode cX5_advance 5 = .ok (.aload_n 0, 1) := by decide +kernel
theorem dX5_advance_6 : decode cX5_advance 6 = .ok (.getfield 19, 3) := by decide +kernel
theorem dX5_advance_9 : decode cX5_advance 9 = .ok (.putfield 28, 3) := by decide +kernel
theorem dX5_advance_12 : decode cX5_advance 12 = .ok (.aload_n 0, 1) := by decide +kernel
theorem dX5_advance_13 : decode cX5_advance 13 = .ok (.aload_n 0, 1) := by decide +kernel
theorem dX5_advance_14 : decode cX5_advance 14 = .ok (.getfield 28, 3) := by decide +kernel
theorem dX5_advance_17 : decode cX5_advance 17 = .ok (.invokevirtual 31, 3) := by decide +kernel
theorem dX5_advance_20 : decode cX5_advance 20 = .ok (.istore_n 1, 1) := by decide +kernel
theorem dX5_advance_21 : decode cX5_advance 21 = .ok (.iload_n 1, 1) := by decide +kernel
theorem dX5_advance_22 : decode cX5_advance 22 = .ok (.iconst (-1), 1) := by decide +kernel
theorem dX5_advance_23 : decode cX5_advance 23 = .ok (.if_icmp .ne 11, 3) := by decide +kernel
theorem dX5_advance_26 : decode cX5_advance 26 = .ok (.aload_n 0, 1) := by decide +kernel
theorem dX5_advance_27 : decode cX5_advance 27 = .ok (.iconst 0, 1) := by decide +kernel
theorem dX5_advance_28 : decode cX5_advance 28 = .ok (.putfield 35, 3) := by decide +kernel
theorem dX5_advance_31 : decode cX5_advance 31 = .ok (.goto 66, 3) := by decide +kernel
theorem dX5_advance_34 : decode cX5_advance 34 = .ok (.iload_n 1, 1) := by decide +kernel
theorem dX5_advance_35 : decode cX5_advance 35 = .ok (.invokestatic 38, 3) := by decide +kernel
theorem dX5_advance_38 : decode cX5_advance 38 = .ok (.ifCond .eq 15, 3) := by decide +kernel
theorem dX5_advance_41 : decode cX5_advance 41 = .ok (.aload_n 0, 1) := by decide +kernel
theorem dX5_advance_42 : decode cX5_advance 42 = .ok (.iconst 1, 1) := by decide +kernel
theorem dX5_advance_43 : decode cX5_advance 43 = .ok (.putfield 35, 3) := by decide +kernel
theorem dX5_advance_46 : decode cX5_advance 46 = .ok (.aload_n 0, 1) := by decide +kernel
theorem dX5_advance_47 : decode cX5_advance 47 = .ok (.invokevirtual 42, 3) := by decide +kernel
theorem dX5_advance_50 : decode cX5_advance 50 = .ok (.goto 47, 3) := by decide +kernel
theorem dX5_advance_53 : decode cX5_advance 53 = .ok (.iload_n 1, 1) := by decide +kernel
theorem dX5_advance_54 : decode cX5_advance 54 = .ok (.invokestatic 45, 3) := by decide +kernel
theorem dX5_advance_57 : decode cX5_advance 57 = .ok (.ifCond .eq 15, 3) := by decide +kernel
theorem dX5_advance_60 : decode cX5_advance 60 = .ok (.aload_n 0, 1) := by decide +kernel
theorem dX5_advance_61 : decode cX5_advance 61 = .ok (.iconst 2, 1) := by decide +kernel
theorem dX5_advance_62 : decode cX5_advance 62 = .ok (.putfield 35, 3) := by decide +kernel
theorem dX5_advance_65 : decode cX5_advance 65 = .ok (.aload_n 0, 1) := by decide +kernel
theorem dX5_advance_66 : decode cX5_advance 66 = .ok (.invokevirtual 48, 3) := by decide +kernel
theorem dX5_advance_69 : decode cX5_advance 69 = .ok (.goto 28, 3) := by decide +kernel
theorem dX5_advance_72 : decode cX5_advance 72 = .ok (.aload_n 0, 1) := by decide +kernel
theorem dX5_advance_73 : decode cX5_advance 73 = .ok (.iload_n 1, 1) := by decide +kernel
theorem dX5_advance_74 : decode cX5_advance 74 = .ok (.bipush 59, 2) := by decide +kernel
theorem dX5_advance_76 : decode cX5_advance 76 = .ok (.if_icmp .ne 7, 3) := by decide +kernel
theorem dX5_advance_79 : decode cX5_advance 79 = .ok (.iconst 3, 1) := by decide +kernel
theorem dX5_advance_80 : decode cX5_advance 80 = .ok (.goto 4, 3) := by decide +kernel
theorem dX5_advance_83 : decode cX5_advance 83 = .ok (.iconst 4, 1) := by decide +kernel
theorem dX5_advance_84 : decode cX5_advance 84 = .ok (.putfield 35, 3) := by decide +kernel
theorem dX5_advance_87 : decode cX5_advance 87 = .ok (.aload_n 0, 1) := by decide +kernel
theorem dX5_advance_88 : decode cX5_advance 88 = .ok (.dup, 1) := by decide +kernel
theorem dX5_advance_89 : decode cX5_advance 89 = .ok (.getfield 19, 3) := by decide +kernel
theorem dX5_advance_92 : decode cX5_advance 92 = .ok (.iconst 1, 1) := by decide +kernel
theorem dX5_advance_93 : decode cX5_advance 93 = .ok (.iadd, 1) := by decide +kernel
theorem dX5_advance_94 : decode cX5_advance 94 = .ok (.putfield 19, 3) := by decide +kernel
theorem dX5_advance_97 : decode cX5_advance 97 = .ok (.return_, 1) := by decide +kernel
theorem dX5_stands_0 : decode cX5_stands 0 = .ok (.aload_n 0, 1) := by decide +kernel
theorem dX5_stands_1 : decode cX5_stands 1 = .ok (.getfield 35, 3) := by decide +kernel
theorem dX5_stands_4 : decode cX5_stands 4 = .ok (.iconst 1, 1) := by decide +kernel
theorem dX5_stands_5 : decode cX5_stands 5 = .ok (.if_icmp .ne 19, 3) := by decide +kernel
theorem dX5_stands_8 : decode cX5_stands 8 = .ok (.aload_n 0, 1) := by decide +kernel
theorem dX5_stands_9 : decode cX5_stands 9 = .ok (.getfield 19, 3) := by decide +kernel
theorem dX5_stands_12 : decode cX5_stands 12 = .ok (.aload_n 0, 1) := by decide +kernel
theorem dX5_stands_13 : decode cX5_stands 13 = .ok (.getfield 28, 3) := by decide +kernel
theorem dX5_stands_16 : decode cX5_stands 16 = .ok (.isub, 1) := by decide +kernel
theorem dX5_stands_17 : decode cX5_stands 17 = .ok (.aload_n 1, 1) := by decide +kernel
theorem dX5_stands_18 : decode cX5_stands 18 = .ok (.invokevirtual 51, 3) := by decide +kernel
theorem dX5_stands_21 : decode cX5_stands 21 = .ok (.if_icmp .eq 5, 3) := by decide +kernel
theorem dX5_stands_24 : decode cX5_stands 24 = .ok (.iconst 0, 1) := by decide +kernel
theorem dX5_stands_25 : decode cX5_stands 25 = .ok (.ireturn, 1) := by decide +kernel
theorem dX5_stands_26 : decode cX5_stands 26 = .ok (.iconst 0, 1) := by decide +kernel
theorem dX5_stands_27 : decode cX5_stands 27 = .ok (.istore_n 2, 1) := by decide +kernel
theorem dX5_stands_28 : decode cX5_stands 28 = .ok (.iload_n 2, 1) := by decide +kernel
theorem dX5_stands_29 : decode cX5_stands 29 = .ok (.aload_n 1, 1) := by decide +kernel
theorem dX5_stands_30 : decode cX5_stands 30 = .ok (.invokevirtual 51, 3) := by decide +kernel
theorem dX5_stands_33 : decode cX5_stands 33 = .ok (.if_icmp .ge 29, 3) := by decide +kernel
theorem dX5_stands_36 : decode cX5_stands 36 = .ok (.aload_n 0, 1) := by decide +kernel
theorem dX5_stands_37 : decode cX5_stands 37 = .ok (.aload_n 0, 1) := by decide +kernel
theorem dX5_stands_38 : decode cX5_stands 38 = .ok (.getfield 28, 3) := by decide +kernel
theorem dX5_stands_41 : decode cX5_stands 41 = .ok (.iload_n 2, 1) := by decide +kernel
theorem dX5_stands_42 : decode cX5_stands 42 = .ok (.iadd, 1) := by decide +kernel
theorem dX5_stands_43 : decode cX5_stands 43 = .ok (.invokevirtual 31, 3) := by decide +kernel
theorem dX5_stands_46 : decode cX5_stands 46 = .ok (.aload_n 1, 1) := by decide +kernel
theorem dX5_stands_47 : decode cX5_stands 47 = .ok (.iload_n 2, 1) := by decide +kernel
theorem dX5_stands_48 : decode cX5_stands 48 = .ok (.invokevirtual 57, 3) := by decide +kernel
theorem dX5_stands_51 : decode cX5_stands 51 = .ok (.if_icmp .eq 5, 3) := by decide +kernel
theorem dX5_stands_54 : decode cX5_stands 54 = .ok (.iconst 0, 1) := by decide +kernel
theorem dX5_stands_55 : decode cX5_stands 55 = .ok (.ireturn, 1) := by decide +kernel
theorem dX5_stands_56 : decode cX5_stands 56 = .ok (.iinc 2 1, 3) := by decide +kernel
theorem dX5_stands_59 : decode cX5_stands 59 = .ok (.goto (-31), 3) := by decide +kernel
theorem dX5_stands_62 : decode cX5_stands 62 = .ok (.iconst 1, 1) := by decide +kernel
theorem dX5_stands_63 : decode cX5_stands 63 = .ok (.ireturn, 1) := by decide +kernel
theorem dX5_skipBlanks_0 : decode cX5_skipBlanks 0 = .ok (.aload_n 0, 1) := by decide +kernel
theorem dX5_skipBlanks_1 : decode cX5_skipBlanks 1 = .ok (.getfield 19, 3) := by decide +kernel
theorem dX5_skipBlanks_4 : decode cX5_skipBlanks 4 = .ok (.aload_n 0, 1) := by decide +kernel
theorem dX5_skipBlanks_5 : decode cX5_skipBlanks 5 = .ok (.getfield 15, 3) := by decide +kernel
theorem dX5_skipBlanks_8 : decode cX5_skipBlanks 8 = .ok (.if_icmp .ge 30, 3) := by decide +kernel
theorem dX5_skipBlanks_11 : decode cX5_skipBlanks 11 = .ok (.aload_n 0, 1) := by decide +kernel
theorem dX5_skipBlanks_12 : decode cX5_skipBlanks 12 = .ok (.aload_n 0, 1) := by decide +kernel
theorem dX5_skipBlanks_13 : decode cX5_skipBlanks 13 = .ok (.getfield 19, 3) := by decide +kernel
theorem dX5_skipBlanks_16 : decode cX5_skipBlanks 16 = .ok (.invokevirtual 31, 3) := by decide +kernel
theorem dX5_skipBlanks_19 : decode cX5_skipBlanks 19 = .ok (.invokestatic 61, 3) := by decide +kernel
theorem dX5_skipBlanks_22 : decode cX5_skipBlanks 22 = .ok (.ifCond .eq 16, 3) := by decide +kernel
theorem dX5_skipBlanks_25 : decode cX5_skipBlanks 25 = .ok (.aload_n 0, 1) := by decide +kernel
theorem dX5_skipBlanks_26 : decode cX5_skipBlanks 26 = .ok (.dup, 1) := by decide +kernel
theorem dX5_skipBlanks_27 : decode cX5_skipBlanks 27 = .ok (.getfield 19, 3) := by decide +kernel
theorem dX5_skipBlanks_30 : decode cX5_skipBlanks 30 = .ok (.iconst 1, 1) := by decide +kernel
theorem dX5_skipBlanks_31 : decode cX5_skipBlanks 31 = .ok (.iadd, 1) := by decide +kernel
theorem dX5_skipBlanks_32 : decode cX5_skipBlanks 32 = .ok (.putfield 19, 3) := by decide +kernel
theorem dX5_skipBlanks_35 : decode cX5_skipBlanks 35 = .ok (.goto (-35), 3) := by decide +kernel
theorem dX5_skipBlanks_38 : decode cX5_skipBlanks 38 = .ok (.return_, 1) := by decide +kernel
theorem dX5_passLetters_0 : decode cX5_passLetters 0 = .ok (.aload_n 0, 1) := by decide +kernel
theorem dX5_passLetters_1 : decode cX5_passLetters 1 = .ok (.getfield 19, 3) := by decide +kernel
theorem dX5_passLetters_4 : decode cX5_passLetters 4 = .ok (.aload_n 0, 1) := by decide +kernel
theorem dX5_passLetters_5 : decode cX5_passLetters 5 = .ok (.getfield 15, 3) := by decide +kernel
theorem dX5_passLetters_8 : decode cX5_passLetters 8 = .ok (.if_icmp .ge 30, 3) := by decide +kernel
theorem dX5_passLetters_11 : decode cX5_passLetters 11 = .ok (.aload_n 0, 1) := by decide +kernel
theorem dX5_passLetters_12 : decode cX5_passLetters 12 = .ok (.aload_n 0, 1) := by decide +kernel
theorem dX5_passLetters_13 : decode cX5_passLetters 13 = .ok (.getfield 19, 3) := by decide +kernel
theorem dX5_passLetters_16 : decode cX5_passLetters 16 = .ok (.invokevirtual 31, 3) := by decide +kernel
theorem dX5_passLetters_19 : decode cX5_passLetters 19 = .ok (.invokestatic 38, 3) := by decide +kernel
theorem dX5_passLetters_22 : decode cX5_passLetters 22 = .ok (.ifCond .eq 16, 3) := by decide +kernel
theorem dX5_passLetters_25 : decode cX5_passLetters 25 = .ok (.aload_n 0, 1) := by decide +kernel
theorem dX5_passLetters_26 : decode cX5_passLetters 26 = .ok (.dup, 1) := by decide +kernel
theorem dX5_passLetters_27 : decode cX5_passLetters 27 = .ok (.getfield 19, 3) := by decide +kernel
theorem dX5_passLetters_30 : decode cX5_passLetters 30 = .ok (.iconst 1, 1) := by decide +kernel
theorem dX5_passLetters_31 : decode cX5_passLetters 31 = .ok (.iadd, 1) := by decide +kernel
theorem dX5_passLetters_32 : decode cX5_passLetters 32 = .ok (.putfield 19, 3) := by decide +kernel
theorem dX5_passLetters_35 : decode cX5_passLetters 35 = .ok (.goto (-35), 3) := by decide +kernel
theorem dX5_passLetters_38 : decode cX5_passLetters 38 = .ok (.return_, 1) := by decide +kernel
theorem dX5_passDigits_0 : decode cX5_passDigits 0 = .ok (.aload_n 0, 1) := by decide +kernel
theorem dX5_passDigits_1 : decode cX5_passDigits 1 = .ok (.iconst 0, 1) := by decide +kernel
theorem dX5_passDigits_2 : decode cX5_passDigits 2 = .ok (.putfield 64, 3) := by decide +kernel
theorem dX5_passDigits_5 : decode cX5_passDigits 5 = .ok (.aload_n 0, 1) := by decide +kernel
theorem dX5_passDigits_6 : decode cX5_passDigits 6 = .ok (.getfield 19, 3) := by decide +kernel
theorem dX5_passDigits_9 : decode cX5_passDigits 9 = .ok (.aload_n 0, 1) := by decide +kernel
theorem dX5_passDigits_10 : decode cX5_passDigits 10 = .ok (.getfield 15, 3) := by decide +kernel
theorem dX5_passDigits_13 : decode cX5_passDigits 13 = .ok (.if_icmp .ge 58, 3) := by decide +kernel
theorem dX5_passDigits_16 : decode cX5_passDigits 16 = .ok (.aload_n 0, 1) := by decide +kernel
theorem dX5_passDigits_17 : decode cX5_passDigits 17 = .ok (.aload_n 0, 1) := by decide +kernel
theorem dX5_passDigits_18 : decode cX5_passDigits 18 = .ok (.getfield 19, 3) := by decide +kernel
theorem dX5_passDigits_21 : decode cX5_passDigits 21 = .ok (.invokevirtual 31, 3) := by decide +kernel
theorem dX5_passDigits_24 : decode cX5_passDigits 24 = .ok (.invokestatic 45, 3) := by decide +kernel
theorem dX5_passDigits_27 : decode cX5_passDigits 27 = .ok (.ifCond .eq 44, 3) := by decide +kernel
theorem dX5_passDigits_30 : decode cX5_passDigits 30 = .ok (.aload_n 0, 1) := by decide +kernel
theorem dX5_passDigits_31 : decode cX5_passDigits 31 = .ok (.ldc 67, 2) := by decide +kernel
theorem dX5_passDigits_33 : decode cX5_passDigits 33 = .ok (.aload_n 0, 1) := by decide +kernel
theorem dX5_passDigits_34 : decode cX5_passDigits 34 = .ok (.getfield 64, 3) := by decide +kernel
theorem dX5_passDigits_37 : decode cX5_passDigits 37 = .ok (.bipush 10, 2) := by decide +kernel
theorem dX5_passDigits_39 : decode cX5_passDigits 39 = .ok (.imul, 1) := by decide +kernel
theorem dX5_passDigits_40 : decode cX5_passDigits 40 = .ok (.aload_n 0, 1) := by decide +kernel
theorem dX5_passDigits_41 : decode cX5_passDigits 41 = .ok (.aload_n 0, 1) := by decide +kernel
theorem dX5_passDigits_42 : decode cX5_passDigits 42 = .ok (.getfield 19, 3) := by decide +kernel
theorem dX5_passDigits_45 : decode cX5_passDigits 45 = .ok (.invokevirtual 31, 3) := by decide +kernel
theorem dX5_passDigits_48 : decode cX5_passDigits 48 = .ok (.bipush 48, 2) := by decide +kernel
theorem dX5_passDigits_50 : decode cX5_passDigits 50 = .ok (.isub, 1) := by decide +kernel
theorem dX5_passDigits_51 : decode cX5_passDigits 51 = .ok (.iadd, 1) := by decide +kernel
theorem dX5_passDigits_52 : decode cX5_passDigits 52 = .ok (.invokestatic 68, 3) := by decide +kernel
theorem dX5_passDigits_55 : decode cX5_passDigits 55 = .ok (.putfield 64, 3) := by decide +kernel
theorem dX5_passDigits_58 : decode cX5_passDigits 58 = .ok (.aload_n 0, 1) := by decide +kernel
theorem dX5_passDigits_59 : decode cX5_passDigits 59 = .ok (.dup, 1) := by decide +kernel
theorem dX5_passDigits_60 : decode cX5_passDigits 60 = .ok (.getfield 19, 3) := by decide +kernel
theorem dX5_passDigits_63 : decode cX5_passDigits 63 = .ok (.iconst 1, 1) := by decide +kernel
theorem dX5_passDigits_64 : decode cX5_passDigits 64 = .ok (.iadd, 1) := by decide +kernel
theorem dX5_passDigits_65 : decode cX5_passDigits 65 = .ok (.putfield 19, 3) := by decide +kernel
theorem dX5_passDigits_68 : decode cX5_passDigits 68 = .ok (.goto (-63), 3) := by decide +kernel
theorem dX5_passDigits_71 : decode cX5_passDigits 71 = .ok (.return_, 1) := by decide +kernel
theorem dX5_signAt_0 : decode cX5_signAt 0 = .ok (.aload_n 0, 1) := by decide +kernel
theorem dX5_signAt_1 : decode cX5_signAt 1 = .ok (.getfield 9, 3) := by decide +kernel
theorem dX5_signAt_4 : decode cX5_signAt 4 = .ok (.ifnull 22, 3) := by decide +kernel
theorem dX5_signAt_7 : decode cX5_signAt 7 = .ok (.iload_n 1, 1) := by decide +kernel
theorem dX5_signAt_8 : decode cX5_signAt 8 = .ok (.ifCond .lt 18, 3) := by decide +kernel
theorem dX5_signAt_11 : decode cX5_signAt 11 = .ok (.iload_n 1, 1) := by decide +kernel
theorem dX5_signAt_12 : decode cX5_signAt 12 = .ok (.aload_n 0, 1) := by decide +kernel
theorem dX5_signAt_13 : decode cX5_signAt 13 = .ok (.getfield 15, 3) := by decide +kernel
theorem dX5_signAt_16 : decode cX5_signAt 16 = .ok (.if_icmp .ge 10, 3) := by decide +kernel
theorem dX5_signAt_19 : decode cX5_signAt 19 = .ok (.iload_n 1, 1) := by decide +kernel
theorem dX5_signAt_20 : decode cX5_signAt 20 = .ok (.sipush 400, 3) := by decide +kernel
theorem dX5_signAt_23 : decode cX5_signAt 23 = .ok (.if_icmp .lt 5, 3) := by decide +kernel
theorem dX5_signAt_26 : decode cX5_signAt 26 = .ok (.iconst (-1), 1) := by decide +kernel
theorem dX5_signAt_27 : decode cX5_signAt 27 = .ok (.ireturn, 1) := by decide +kernel
theorem dX5_signAt_28 : decode cX5_signAt 28 = .ok (.aload_n 0, 1) := by decide +kernel
theorem dX5_signAt_29 : decode cX5_signAt 29 = .ok (.getfield 9, 3) := by decide +kernel
theorem dX5_signAt_32 : decode cX5_signAt 32 = .ok (.getfield 76, 3) := by decide +kernel
theorem dX5_signAt_35 : decode cX5_signAt 35 = .ok (.iload_n 1, 1) := by decide +kernel
theorem dX5_signAt_36 : decode cX5_signAt 36 = .ok (.baload, 1) := by decide +kernel
theorem dX5_signAt_37 : decode cX5_signAt 37 = .ok (.sipush 255, 3) := by decide +kernel
theorem dX5_signAt_40 : decode cX5_signAt 40 = .ok (.iand, 1) := by decide +kernel
theorem dX5_signAt_41 : decode cX5_signAt 41 = .ok (.ireturn, 1) := by decide +kernel
theorem dX5_isBlank_0 : decode cX5_isBlank 0 = .ok (.iload_n 0, 1) := by decide +kernel
theorem dX5_isBlank_1 : decode cX5_isBlank 1 = .ok (.bipush 10, 2) := by decide +kernel
theorem dX5_isBlank_3 : decode cX5_isBlank 3 = .ok (.if_icmp .eq 9, 3) := by decide +kernel
theorem dX5_isBlank_6 : decode cX5_isBlank 6 = .ok (.iload_n 0, 1) := by decide +kernel
theorem dX5_isBlank_7 : decode cX5_isBlank 7 = .ok (.bipush 32, 2) := by decide +kernel
theorem dX5_isBlank_9 : decode cX5_isBlank 9 = .ok (.if_icmp .ne 7, 3) := by decide +kernel
theorem dX5_isBlank_12 : decode cX5_isBlank 12 = .ok (.iconst 1, 1) := by decide +kernel
theorem dX5_isBlank_13 : decode cX5_isBlank 13 = .ok (.goto 4, 3) := by decide +kernel
theorem dX5_isBlank_16 : decode cX5_isBlank 16 = .ok (.iconst 0, 1) := by decide +kernel
theorem dX5_isBlank_17 : decode cX5_isBlank 17 = .ok (.ireturn, 1) := by decide +kernel
theorem dX5_isLetter_0 : decode cX5_isLetter 0 = .ok (.iload_n 0, 1) := by decide +kernel
theorem dX5_isLetter_1 : decode cX5_isLetter 1 = .ok (.bipush 97, 2) := by decide +kernel
theorem dX5_isLetter_3 : decode cX5_isLetter 3 = .ok (.if_icmp .lt 13, 3) := by decide +kernel
theorem dX5_isLetter_6 : decode cX5_isLetter 6 = .ok (.iload_n 0, 1) := by decide +kernel
theorem dX5_isLetter_7 : decode cX5_isLetter 7 = .ok (.bipush 122, 2) := by decide +kernel
theorem dX5_isLetter_9 : decode cX5_isLetter 9 = .ok (.if_icmp .gt 7, 3) := by decide +kernel
theorem dX5_isLetter_12 : decode cX5_isLetter 12 = .ok (.iconst 1, 1) := by decide +kernel
theorem dX5_isLetter_13 : decode cX5_isLetter 13 = .ok (.goto 4, 3) := by decide +kernel
theorem dX5_isLetter_16 : decode cX5_isLetter 16 = .ok (.iconst 0, 1) := by decide +kernel
theorem dX5_isLetter_17 : decode cX5_isLetter 17 = .ok (.ireturn, 1) := by decide +kernel
theorem dX5_isDigit_0 : decode cX5_isDigit 0 = .ok (.iload_n 0, 1) := by decide +kernel
theorem dX5_isDigit_1 : decode cX5_isDigit 1 = .ok (.bipush 48, 2) := by decide +kernel
theorem dX5_isDigit_3 : decode cX5_isDigit 3 = .ok (.if_icmp .lt 13, 3) := by decide +kernel
theorem dX5_isDigit_6 : decode cX5_isDigit 6 = .ok (.iload_n 0, 1) := by decide +kernel
theorem dX5_isDigit_7 : decode cX5_isDigit 7 = .ok (.bipush 57, 2) := by decide +kernel
theorem dX5_isDigit_9 : decode cX5_isDigit 9 = .ok (.if_icmp .gt 7, 3) := by decide +kernel
theorem dX5_isDigit_12 : decode cX5_isDigit 12 = .ok (.iconst 1, 1) := by decide +kernel
theorem dX5_isDigit_13 : decode cX5_isDigit 13 = .ok (.goto 4, 3) := by decide +kernel
theorem dX5_isDigit_16 : decode cX5_isDigit 16 = .ok (.iconst 0, 1) := by decide +kernel
theorem dX5_isDigit_17 : decode cX5_isDigit 17 = .ok (.ireturn, 1) := by decide +kernel
theorem dX6_init_0 : decode cX6_init 0 = .ok (.aload_n 0, 1) := by decide +kernel
theorem dX6_init_1 : decode cX6_init 1 = .ok (.invokespecial 3, 3) := by decide +kernel
theorem dX6_init_4 : decode cX6_init 4 = .ok (.aload_n 0, 1) := by decide +kernel
theorem dX6_init_5 : decode cX6_init 5 = .ok (.bipush 8, 2) := by decide +kernel
theorem dX6_init_7 : decode cX6_init 7 = .ok (.newarray .int, 2) := by decide +kernel
theorem dX6_init_9 : decode cX6_init 9 = .ok (.putfield 9, 3) := by decide +kernel
theorem dX6_init_12 : decode cX6_init 12 = .ok (.aload_n 0, 1) := by decide +kernel
theorem dX6_init_13 : decode cX6_init 13 = .ok (.bipush 8, 2) := by decide +kernel
theorem dX6_init_15 : decode cX6_init 15 = .ok (.newarray .int, 2) := by decide +kernel
theorem dX6_init_17 : decode cX6_init 17 = .ok (.putfield 15, 3) := by decide +kernel
theorem dX6_init_20 : decode cX6_init 20 = .ok (.return_, 1) := by decide +kernel
theorem dX6_tell_0 : decode cX6_tell 0 = .ok (.aload_n 0, 1) := by decide +kernel
theorem dX6_tell_1 : decode cX6_tell 1 = .ok (.getfield 18, 3) := by decide +kernel
theorem dX6_tell_4 : decode cX6_tell 4 = .ok (.ifCond .ne 5, 3) := by decide +kernel
theorem dX6_tell_7 : decode cX6_tell 7 = .ok (.iconst (-1), 1) := by decide +kernel
theorem dX6_tell_8 : decode cX6_tell 8 = .ok (.ireturn, 1) := by decide +kernel
theorem dX6_tell_9 : decode cX6_tell 9 = .ok (.iload_n 1, 1) := by decide +kernel
theorem dX6_tell_10 : decode cX6_tell 10 = .ok (.tableswitch 50 0 3 #[30, 35, 40, 45], 30) := by decide +kernel
theorem dX6_tell_40 : decode cX6_tell 40 = .ok (.aload_n 0, 1) := by decide +kernel
theorem dX6_tell_41 : decode cX6_tell 41 = .ok (.getfield 22, 3) := by decide +kernel
theorem dX6_tell_44 : decode cX6_tell 44 = .ok (.ireturn, 1) := by decide +kernel
theorem dX6_tell_45 : decode cX6_tell 45 = .ok (.aload_n 0, 1) := by decide +kernel
theorem dX6_tell_46 : decode cX6_tell 46 = .ok (.getfield 26, 3) := by decide +kernel
theorem dX6_tell_49 : decode cX6_tell 49 = .ok (.ireturn, 1) := by decide +kernel
theorem dX6_tell_50 : decode cX6_tell 50 = .ok (.aload_n 0, 1) := by decide +kernel
theorem dX6_tell_51 : decode cX6_tell 51 = .ok (.getfield 29, 3) := by decide +kernel
theorem dX6_tell_54 : decode cX6_tell 54 = .ok (.ireturn, 1) := by decide +kernel
theorem dX6_tell_55 : decode cX6_tell 55 = .ok (.aload_n 0, 1) := by decide +kernel
theorem dX6_tell_56 : decode cX6_tell 56 = .ok (.getfield 32, 3) := by decide +kernel
theorem dX6_tell_59 : decode cX6_tell 59 = .ok (.ireturn, 1) := by decide +kernel
theorem dX6_tell_60 : decode cX6_tell 60 = .ok (.iconst (-1), 1) := by decide +kernel
theorem dX6_tell_61 : decode cX6_tell 61 = .ok (.ireturn, 1) := by decide +kernel
theorem dX6_hold_0 : decode cX6_hold 0 = .ok (.aload_n 0, 1) := by decide +kernel
theorem dX6_hold_1 : decode cX6_hold 1 = .ok (.iconst 1, 1) := by decide +kernel
theorem dX6_hold_2 : decode cX6_hold 2 = .ok (.putfield 18, 3) := by decide +kernel
theorem dX6_hold_5 : decode cX6_hold 5 = .ok (.aload_n 0, 1) := by decide +kernel
theorem dX6_hold_6 : decode cX6_hold 6 = .ok (.iconst 0, 1) := by decide +kernel
theorem dX6_hold_7 : decode cX6_hold 7 = .ok (.putfield 22, 3) := by decide +kernel
theorem dX6_hold_10 : decode cX6_hold 10 = .ok (.aload_n 0, 1) := by decide +kernel
theorem dX6_hold_11 : decode cX6_hold 11 = .ok (.iconst 0, 1) := by decide +kernel
theorem dX6_hold_12 : decode cX6_hold 12 = .ok (.putfield 26, 3) := by decide +kernel
theorem dX6_hold_15 : decode cX6_hold 15 = .ok (.aload_n 0, 1) := by decide +kernel
theorem dX6_hold_16 : decode cX6_hold 16 = .ok (.iconst 0, 1) := by decide +kernel
theorem dX6_hold_17 : decode cX6_hold 17 = .ok (.putfield 29, 3) := by decide +kernel
theorem dX6_hold_20 : decode cX6_hold 20 = .ok (.aload_n 0, 1) := by decide +kernel
theorem dX6_hold_21 : decode cX6_hold 21 = .ok (.aload_n 1, 1) := by decide +kernel
theorem dX6_hold_22 : decode cX6_hold 22 = .ok (.aload_n 2, 1) := by decide +kernel
theorem dX6_hold_23 : decode cX6_hold 23 = .ok (.aload_n 3, 1) := by decide +kernel
theorem dX6_hold_24 : decode cX6_hold 24 = .ok (.invokevirtual 35, 3) := by decide +kernel
theorem dX6_hold_27 : decode cX6_hold 27 = .ok (.aload_n 1, 1) := by decide +kernel
theorem dX6_hold_28 : decode cX6_hold 28 = .ok (.iconst 0, 1) := by decide +kernel
theorem dX6_hold_29 : decode cX6_hold 29 = .ok (.putfield 39, 3) := by decide +kernel
theorem dX6_hold_32 : decode cX6_hold 32 = .ok (.iconst 0, 1) := by decide +kernel
theorem dX6_hold_33 : decode cX6_hold 33 = .ok (.istore 4, 2) := by decide +kernel
theorem dX6_hold_35 : decode cX6_hold 35 = .ok (.iload 4, 2) := by decide +kernel
theorem dX6_hold_37 : decode cX6_hold 37 = .ok (.aload_n 0, 1) := by decide +kernel
theorem dX6_hold_38 : decode cX6_hold 38 = .ok (.getfield 44, 3) := by decide +kernel
theorem dX6_hold_41 : decode cX6_hold 41 = .ok (.if_icmp .ge 92, 3) := by decide +kernel
theorem dX6_hold_44 : decode cX6_hold 44 = .ok (.aload_n 0, 1) := by decide +kernel
theorem dX6_hold_45 : decode cX6_hold 45 = .ok (.iload 4, 2) := by decide +kernel
theorem dX6_hold_47 : decode cX6_hold 47 = .ok (.aload_n 3, 1) := by decide +kernel
theorem dX6_hold_48 : decode cX6_hold 48 = .ok (.invokevirtual 47, 3) := by decide +kernel
theorem dX6_hold_51 : decode cX6_hold 51 = .ok (.ifCond .eq 5, 3) := by decide +kernel
theorem dX6_hold_54 : decode cX6_hold 54 = .ok (.iconst (-1), 1) := by decide +kernel
theorem dX6_hold_55 : decode cX6_hold 55 = .ok (.ireturn, 1) := by decide +kernel
theorem dX6_hold_56 : decode cX6_hold 56 = .ok (.aload_n 0, 1) := by decide +kernel
theorem dX6_hold_57 : decode cX6_hold 57 = .ok (.iload 4, 2) := by decide +kernel
theorem dX6_hold_59 : decode cX6_hold 59 = .ok (.aload_n 3, 1) := by decide +kernel
theorem dX6_hold_60 : decode cX6_hold 60 = .ok (.invokevirtual 51, 3) := by decide +kernel
theorem dX6_hold_63 : decode cX6_hold 63 = .ok (.istore 5, 2) := by decide +kernel
theorem dX6_hold_65 : decode cX6_hold 65 = .ok (.aload_n 2, 1) := by decide +kernel
theorem dX6_hold_66 : decode cX6_hold 66 = .ok (.getfield 55, 3) := by decide +kernel
theorem dX6_hold_69 : decode cX6_hold 69 = .ok (.aload_n 0, 1) := by decide +kernel
theorem dX6_hold_70 : decode cX6_hold 70 = .ok (.getfield 9, 3) := by decide +kernel
theorem dX6_hold_73 : decode cX6_hold 73 = .ok (.iload 4, 2) := by decide +kernel
theorem dX6_hold_75 : decode cX6_hold 75 = .ok (.iaload, 1) := by decide +kernel
theorem dX6_hold_76 : decode cX6_hold 76 = .ok (.iaload, 1) := by decide +kernel
theorem dX6_hold_77 : decode cX6_hold 77 = .ok (.iload 5, 2) := by decide +kernel
theorem dX6_hold_79 : decode cX6_hold 79 = .ok (.if_icmp .lt 27, 3) := by decide +kernel
theorem dX6_hold_82 : decode cX6_hold 82 = .ok (.aload_n 0, 1) := by decide +kernel
theorem dX6_hold_83 : decode cX6_hold 83 = .ok (.aload_n 0, 1) := by decide +kernel
theorem dX6_hold_84 : decode cX6_hold 84 = .ok (.getfield 9, 3) := by decide +kernel
theorem dX6_hold_87 : decode cX6_hold 87 = .ok (.iload 4, 2) := by decide +kernel
theorem dX6_hold_89 : decode cX6_hold 89 = .ok (.iaload, 1) := by decide +kernel
theorem dX6_hold_90 : decode cX6_hold 90 = .ok (.iload 5, 2) := by decide +kernel
theorem dX6_hold_92 : decode cX6_hold 92 = .ok (.aload_n 1, 1) := by decide +kernel
theorem dX6_hold_93 : decode cX6_hold 93 = .ok (.aload_n 2, 1) := by decide +kernel
theorem dX6_hold_94 : decode cX6_hold 94 = .ok (.aload_n 3, 1) := by decide +kernel
theorem dX6_hold_95 : decode cX6_hold 95 = .ok (.invokevirtual 60, 3) := by decide +kernel
theorem dX6_hold_98 : decode cX6_hold 98 = .ok (.aload_n 0, 1) := by decide +kernel
theorem dX6_hold_99 : decode cX6_hold 99 = .ok (.getfield 9, 3) := by decide +kernel
theorem dX6_hold_102 : decode cX6_hold 102 = .ok (.iload 4, 2) := by decide +kernel
theorem dX6_hold_104 : decode cX6_hold 104 = .ok (.iaload, 1) := by decide +kernel
theorem dX6_hold_105 : decode cX6_hold 105 = .ok (.ireturn, 1) := by decide +kernel
theorem dX6_hold_106 : decode cX6_hold 106 = .ok (.aload_n 0, 1) := by decide +kernel
theorem dX6_hold_107 : decode cX6_hold 107 = .ok (.iload 4, 2) := by decide +kernel
theorem dX6_hold_109 : decode cX6_hold 109 = .ok (.aload_n 1, 1) := by decide +kernel
theorem dX6_hold_110 : decode cX6_hold 110 = .ok (.aload_n 2, 1) := by decide +kernel
theorem dX6_hold_111 : decode cX6_hold 111 = .ok (.aload_n 3, 1) := by decide +kernel
theorem dX6_hold_112 : decode cX6_hold 112 = .ok (.invokevirtual 64, 3) := by decide +kernel
theorem dX6_hold_115 : decode cX6_hold 115 = .ok (.aload_n 3, 1) := by decide +kernel
theorem dX6_hold_116 : decode cX6_hold 116 = .ok (.getstatic 68, 3) := by decide +kernel
theorem dX6_hold_119 : decode cX6_hold 119 = .ok (.invokevirtual 74, 3) := by decide +kernel
theorem dX6_hold_122 : decode cX6_hold 122 = .ok (.ifCond .ne 5, 3) := by decide +kernel
theorem dX6_hold_125 : decode cX6_hold 125 = .ok (.iconst (-1), 1) := by decide +kernel
theorem dX6_hold_126 : decode cX6_hold 126 = .ok (.ireturn, 1) := by decide +kernel
theorem dX6_hold_127 : decode cX6_hold 127 = .ok (.iinc 4 1, 3) := by decide +kernel
theorem dX6_hold_130 : decode cX6_hold 130 = .ok (.goto (-95), 3) := by decide +kernel
theorem dX6_hold_133 : decode cX6_hold 133 = .ok (.iconst (-1), 1) := by decide +kernel
theorem dX6_hold_134 : decode cX6_hold 134 = .ok (.ireturn, 1) := by decide +kernel
theorem dX6_rankBids_0 : decode cX6_rankBids 0 = .ok (.aload_n 0, 1) := by decide +kernel
theorem dX6_rankBids_1 : decode cX6_rankBids 1 = .ok (.iconst 0, 1) := by decide +kernel
theorem dX6_rankBids_2 : decode cX6_rankBids 2 = .ok (.putfield 44, 3) := by decide +kernel
theorem dX6_rankBids_5 : decode cX6_rankBids 5 = .ok (.aload_n 0, 1) := by decide +kernel
theorem dX6_rankBids_6 : decode cX6_rankBids 6 = .ok (.iconst 0, 1) := by decide +kernel
theorem dX6_rankBids_7 : decode cX6_rankBids 7 = .ok (.putfield 32, 3) := by decide +kernel
theorem dX6_rankBids_10 : decode cX6_rankBids 10 = .ok (.iconst 0, 1) := by decide +kernel
theorem dX6_rankBids_11 : decode cX6_rankBids 11 = .ok (.istore 4, 2) := by decide +kernel
theorem dX6_rankBids_13 : decode cX6_rankBids 13 = .ok (.iload 4, 2) := by decide +kernel
theorem dX6_rankBids_15 : decode cX6_rankBids 15 = .ok (.aload_n 1, 1) := by decide +kernel
theorem dX6_rankBids_16 : decode cX6_rankBids 16 = .ok (.getfield 39, 3) := by decide +kernel
theorem dX6_rankBids_19 : decode cX6_rankBids 19 = .ok (.if_icmp .ge 98, 3) := by decide +kernel
theorem dX6_rankBids_22 : decode cX6_rankBids 22 = .ok (.aload_n 1, 1) := by decide +kernel
theorem dX6_rankBids_23 : decode cX6_rankBids 23 = .ok (.getfield 80, 3) := by decide +kernel
theorem dX6_rankBids_26 : decode cX6_rankBids 26 = .ok (.iload 4, 2) := by decide +kernel
theorem dX6_rankBids_28 : decode cX6_rankBids 28 = .ok (.iaload, 1) := by decide +kernel
theorem dX6_rankBids_29 : decode cX6_rankBids 29 = .ok (.istore 5, 2) := by decide +kernel
theorem dX6_rankBids_31 : decode cX6_rankBids 31 = .ok (.aload_n 1, 1) := by decide +kernel
theorem dX6_rankBids_32 : decode cX6_rankBids 32 = .ok (.getfield 81, 3) := by decide +kernel
theorem dX6_rankBids_35 : decode cX6_rankBids 35 = .ok (.iload 4, 2) := by decide +kernel
theorem dX6_rankBids_37 : decode cX6_rankBids 37 = .ok (.iaload, 1) := by decide +kernel
theorem dX6_rankBids_38 : decode cX6_rankBids 38 = .ok (.istore 6, 2) := by decide +kernel
theorem dX6_rankBids_40 : decode cX6_rankBids 40 = .ok (.iload 6, 2) := by decide +kernel
theorem dX6_rankBids_42 : decode cX6_rankBids 42 = .ok (.aload_n 3, 1) := by decide +kernel
theorem dX6_rankBids_43 : decode cX6_rankBids 43 = .ok (.getstatic 84, 3) := by decide +kernel
theorem dX6_rankBids_46 : decode cX6_rankBids 46 = .ok (.invokevirtual 87, 3) := by decide +kernel
theorem dX6_rankBids_49 : decode cX6_rankBids 49 = .ok (.if_icmp .lt 29, 3) := by decide +kernel
theorem dX6_rankBids_52 : decode cX6_rankBids 52 = .ok (.aload_n 1, 1) := by decide +kernel
theorem dX6_rankBids_53 : decode cX6_rankBids 53 = .ok (.getfield 90, 3) := by decide +kernel
theorem dX6_rankBids_56 : decode cX6_rankBids 56 = .ok (.iload 5, 2) := by decide +kernel
theorem dX6_rankBids_58 : decode cX6_rankBids 58 = .ok (.iaload, 1) := by decide +kernel
theorem dX6_rankBids_59 : decode cX6_rankBids 59 = .ok (.ifCond .gt 19, 3) := by decide +kernel
theorem dX6_rankBids_62 : decode cX6_rankBids 62 = .ok (.aload_n 2, 1) := by decide +kernel
theorem dX6_rankBids_63 : decode cX6_rankBids 63 = .ok (.getfield 55, 3) := by decide +kernel
theorem dX6_rankBids_66 : decode cX6_rankBids 66 = .ok (.iload 5, 2) := by decide +kernel
theorem dX6_rankBids_68 : decode cX6_rankBids 68 = .ok (.iaload, 1) := by decide +kernel
theorem dX6_rankBids_69 : decode cX6_rankBids 69 = .ok (.iload 6, 2) := by decide +kernel
theorem dX6_rankBids_71 : decode cX6_rankBids 71 = .ok (.aload_n 3, 1) := by decide +kernel
theorem dX6_rankBids_72 : decode cX6_rankBids 72 = .ok (.invokestatic 93, 3) := by decide +kernel
theorem dX6_rankBids_75 : decode cX6_rankBids 75 = .ok (.if_icmp .ge 7, 3) := by decide +kernel
theorem dX6_rankBids_78 : decode cX6_rankBids 78 = .ok (.iconst 1, 1) := by decide +kernel
theorem dX6_rankBids_79 : decode cX6_rankBids 79 = .ok (.goto 4, 3) := by decide +kernel
theorem dX6_rankBids_82 : decode cX6_rankBids 82 = .ok (.iconst 0, 1) := by decide +kernel
theorem dX6_rankBids_83 : decode cX6_rankBids 83 = .ok (.istore 7, 2) := by decide +kernel
theorem dX6_rankBids_85 : decode cX6_rankBids 85 = .ok (.iload 7, 2) := by decide +kernel
theorem dX6_rankBids_87 : decode cX6_rankBids 87 = .ok (.ifCond .eq 16, 3) := by decide +kernel
theorem dX6_rankBids_90 : decode cX6_rankBids 90 = .ok (.aload_n 0, 1) := by decide +kernel
theorem dX6_rankBids_91 : decode cX6_rankBids 91 = .ok (.dup, 1) := by decide +kernel
theorem dX6_rankBids_92 : decode cX6_rankBids 92 = .ok (.getfield 32, 3) := by decide +kernel
theorem dX6_rankBids_95 : decode cX6_rankBids 95 = .ok (.iconst 1, 1) := by decide +kernel
theorem dX6_rankBids_96 : decode cX6_rankBids 96 = .ok (.iadd, 1) := by decide +kernel
theorem dX6_rankBids_97 : decode cX6_rankBids 97 = .ok (.putfield 32, 3) := by decide +kernel
theorem dX6_rankBids_100 : decode cX6_rankBids 100 = .ok (.goto 11, 3) := by decide +kernel
theorem dX6_rankBids_103 : decode cX6_rankBids 103 = .ok (.aload_n 0, 1) := by decide +kernel
theorem dX6_rankBids_104 : decode cX6_rankBids 104 = .ok (.iload 5, 2) := by decide +kernel
theorem dX6_rankBids_106 : decode cX6_rankBids 106 = .ok (.iload 6, 2) := by decide +kernel
theorem dX6_rankBids_108 : decode cX6_rankBids 108 = .ok (.invokevirtual 96, 3) := by decide +kernel
theorem dX6_rankBids_111 : decode cX6_rankBids 111 = .ok (.iinc 4 1, 3) := by decide +kernel
theorem dX6_rankBids_114 : decode cX6_rankBids 114 = .ok (.goto (-101), 3) := by decide +kernel
theorem dX6_rankBids_117 : decode cX6_rankBids 117 = .ok (.return_, 1) := by decide +kernel
theorem dX6_rank_0 : decode cX6_rank 0 = .ok (.aload_n 0, 1) := by decide +kernel
theorem dX6_rank_1 : decode cX6_rank 1 = .ok (.getfield 44, 3) := by decide +kernel
theorem dX6_rank_4 : decode cX6_rank 4 = .ok (.bipush 8, 2) := by decide +kernel
theorem dX6_rank_6 : decode cX6_rank 6 = .ok (.if_icmp .lt 4, 3) := by decide +kernel
theorem dX6_rank_9 : decode cX6_rank 9 = .ok (.return_, 1) := by decide +kernel
theorem dX6_rank_10 : decode cX6_rank 10 = .ok (.aload_n 0, 1) := by decide +kernel
theorem dX6_rank_11 : decode cX6_rank 11 = .ok (.getfield 44, 3) := by decide +kernel
theorem dX6_rank_14 : decode cX6_rank 14 = .ok (.istore_n 3, 1) := by decide +kernel
theorem dX6_rank_15 : decode cX6_rank 15 = .ok (.iload_n 3, 1) := by decide +kernel
theorem dX6_rank_16 : decode cX6_rank 16 = .ok (.ifCond .le 49, 3) := by decide +kernel
theorem dX6_rank_19 : decode cX6_rank 19 = .ok (.aload_n 0, 1) := by decide +kernel
theorem dX6_rank_20 : decode cX6_rank 20 = .ok (.getfield 15, 3) := by decide +kernel
theorem dX6_rank_23 : decode cX6_rank 23 = .ok (.iload_n 3, 1) := by decide +kernel
theorem dX6_rank_24 : decode cX6_rank 24 = .ok (.iconst 1, 1) := by decide +kernel
theorem dX6_rank_25 : decode cX6_rank 25 = .ok (.isub, 1) := by decide +kernel
theorem dX6_rank_26 : decode cX6_rank 26 = .ok (.iaload, 1) := by decide +kernel
theorem dX6_rank_27 : decode cX6_rank 27 = .ok (.iload_n 2, 1) := by decide +kernel
theorem dX6_rank_28 : decode cX6_rank 28 = .ok (.if_icmp .ge 37, 3) := by decide +kernel
theorem dX6_rank_31 : decode cX6_rank 31 = .ok (.aload_n 0, 1) := by decide +kernel
theorem dX6_rank_32 : decode cX6_rank 32 = .ok (.getfield 15, 3) := by decide +kernel
theorem dX6_rank_35 : decode cX6_rank 35 = .ok (.iload_n 3, 1) := by decide +kernel
theorem dX6_rank_36 : decode cX6_rank 36 = .ok (.aload_n 0, 1) := by decide +kernel
theorem dX6_rank_37 : decode cX6_rank 37 = .ok (.getfield 15, 3) := by decide +kernel
theorem dX6_rank_40 : decode cX6_rank 40 = .ok (.iload_n 3, 1) := by decide +kernel
theorem dX6_rank_41 : decode cX6_rank 41 = .ok (.iconst 1, 1) := by decide +kernel
theorem dX6_rank_42 : decode cX6_rank 42 = .ok (.isub, 1) := by decide +kernel
theorem dX6_rank_43 : decode cX6_rank 43 = .ok (.iaload, 1) := by decide +kernel
theorem dX6_rank_44 : decode cX6_rank 44 = .ok (.iastore, 1) := by decide +kernel
theorem dX6_rank_45 : decode cX6_rank 45 = .ok (.aload_n 0, 1) := by decide +kernel
theorem dX6_rank_46 : decode cX6_rank 46 = .ok (.getfield 9, 3) := by decide +kernel
theorem dX6_rank_49 : decode cX6_rank 49 = .ok (.iload_n 3, 1) := by decide +kernel
theorem dX6_rank_50 : decode cX6_rank 50 = .ok (.aload_n 0, 1) := by decide +kernel
theorem dX6_rank_51 : decode cX6_rank 51 = .ok (.getfield 9, 3) := by decide +kernel
theorem dX6_rank_54 : decode cX6_rank 54 = .ok (.iload_n 3, 1) := by decide +kernel
theorem dX6_rank_55 : decode cX6_rank 55 = .ok (.iconst 1, 1) := by decide +kernel
theorem dX6_rank_56 : decode cX6_rank 56 = .ok (.isub, 1) := by decide +kernel
theorem dX6_rank_57 : decode cX6_rank 57 = .ok (.iaload, 1) := by decide +kernel
theorem dX6_rank_58 : decode cX6_rank 58 = .ok (.iastore, 1) := by decide +kernel
theorem dX6_rank_59 : decode cX6_rank 59 = .ok (.iinc 3 (-1), 3) := by decide +kernel
theorem dX6_rank_62 : decode cX6_rank 62 = .ok (.goto (-47), 3) := by decide +kernel
theorem dX6_rank_65 : decode cX6_rank 65 = .ok (.aload_n 0, 1) := by decide +kernel
theorem dX6_rank_66 : decode cX6_rank 66 = .ok (.getfield 15, 3) := by decide +kernel
theorem dX6_rank_69 : decode cX6_rank 69 = .ok (.iload_n 3, 1) := by decide +kernel
theorem dX6_rank_70 : decode cX6_rank 70 = .ok (.iload_n 2, 1) := by decide +kernel
theorem dX6_rank_71 : decode cX6_rank 71 = .ok (.iastore, 1) := by decide +kernel
theorem dX6_rank_72 : decode cX6_rank 72 = .ok (.aload_n 0, 1) := by decide +kernel
theorem dX6_rank_73 : decode cX6_rank 73 = .ok (.getfield 9, 3) := by decide +kernel
theorem dX6_rank_76 : decode cX6_rank 76 = .ok (.iload_n 3, 1) := by decide +kernel
theorem dX6_rank_77 : decode cX6_rank 77 = .ok (.iload_n 1, 1) := by decide +kernel
theorem dX6_rank_78 : decode cX6_rank 78 = .ok (.iastore, 1) := by decide +kernel
theorem dX6_rank_79 : decode cX6_rank 79 = .ok (.aload_n 0, 1) := by decide +kernel
theorem dX6_rank_80 : decode cX6_rank 80 = .ok (.dup, 1) := by decide +kernel
theorem dX6_rank_81 : decode cX6_rank 81 = .ok (.getfield 44, 3) := by decide +kernel
theorem dX6_rank_84 : decode cX6_rank 84 = .ok (.iconst 1, 1) := by decide +kernel
theorem dX6_rank_85 : decode cX6_rank 85 = .ok (.iadd, 1) := by decide +kernel
theorem dX6_rank_86 : decode cX6_rank 86 = .ok (.putfield 44, 3) := by decide +kernel
theorem dX6_rank_89 : decode cX6_rank 89 = .ok (.return_, 1) := by decide +kernel
theorem dX6_isBarredTie_0 : decode cX6_isBarredTie 0 = .ok (.aload_n 2, 1) := by decide +kernel
theorem dX6_isBarredTie_1 : decode cX6_isBarredTie 1 = .ok (.getstatic 100, 3) := by decide +kernel
theorem dX6_isBarredTie_4 : decode cX6_isBarredTie 4 = .ok (.invokevirtual 74, 3) := by decide +kernel
theorem dX6_isBarredTie_7 : decode cX6_isBarredTie 7 = .ok (.ifCond .eq 34, 3) := by decide +kernel
theorem dX6_isBarredTie_10 : decode cX6_isBarredTie 10 = .ok (.iload_n 1, 1) := by decide +kernel
theorem dX6_isBarredTie_11 : decode cX6_isBarredTie 11 = .ok (.iconst 1, 1) := by decide +kernel
theorem dX6_isBarredTie_12 : decode cX6_isBarredTie 12 = .ok (.iadd, 1) := by decide +kernel
theorem dX6_isBarredTie_13 : decode cX6_isBarredTie 13 = .ok (.aload_n 0, 1) := by decide +kernel
theorem dX6_isBarredTie_14 : decode cX6_isBarredTie 14 = .ok (.getfield 44, 3) := by decide +kernel
theorem dX6_isBarredTie_17 : decode cX6_isBarredTie 17 = .ok (.if_icmp .ge 24, 3) := by decide +kernel
theorem dX6_isBarredTie_20 : decode cX6_isBarredTie 20 = .ok (.aload_n 0, 1) := by decide +kernel
theorem dX6_isBarredTie_21 : decode cX6_isBarredTie 21 = .ok (.getfield 15, 3) := by decide +kernel
theorem dX6_isBarredTie_24 : decode cX6_isBarredTie 24 = .ok (.iload_n 1, 1) := by decide +kernel
theorem dX6_isBarredTie_25 : decode cX6_isBarredTie 25 = .ok (.iaload, 1) := by decide +kernel
theorem dX6_isBarredTie_26 : decode cX6_isBarredTie 26 = .ok (.aload_n 0, 1) := by decide +kernel
theorem dX6_isBarredTie_27 : decode cX6_isBarredTie 27 = .ok (.getfield 15, 3) := by decide +kernel
theorem dX6_isBarredTie_30 : decode cX6_isBarredTie 30 = .ok (.iload_n 1, 1) := by decide +kernel
theorem dX6_isBarredTie_31 : decode cX6_isBarredTie 31 = .ok (.iconst 1, 1) := by decide +kernel
theorem dX6_isBarredTie_32 : decode cX6_isBarredTie 32 = .ok (.iadd, 1) := by decide +kernel
theorem dX6_isBarredTie_33 : decode cX6_isBarredTie 33 = .ok (.iaload, 1) := by decide +kernel
theorem dX6_isBarredTie_34 : decode cX6_isBarredTie 34 = .ok (.if_icmp .ne 7, 3) := by decide +kernel
theorem dX6_isBarredTie_37 : decode cX6_isBarredTie 37 = .ok (.iconst 1, 1) := by decide +kernel
theorem dX6_isBarredTie_38 : decode cX6_isBarredTie 38 = .ok (.goto 4, 3) := by decide +kernel
theorem dX6_isBarredTie_41 : decode cX6_isBarredTie 41 = .ok (.iconst 0, 1) := by decide +kernel
theorem dX6_isBarredTie_42 : decode cX6_isBarredTie 42 = .ok (.ireturn, 1) := by decide +kernel
theorem dX6_priceFor_0 : decode cX6_priceFor 0 = .ok (.aload_n 2, 1) := by decide +kernel
theorem dX6_priceFor_1 : decode cX6_priceFor 1 = .ok (.getstatic 103, 3) := by decide +kernel
theorem dX6_priceFor_4 : decode cX6_priceFor 4 = .ok (.invokevirtual 74, 3) := by decide +kernel
theorem dX6_priceFor_7 : decode cX6_priceFor 7 = .ok (.ifCond .ne 10, 3) := by decide +kernel
theorem dX6_priceFor_10 : decode cX6_priceFor 10 = .ok (.aload_n 0, 1) := by decide +kernel
theorem dX6_priceFor_11 : decode cX6_priceFor 11 = .ok (.getfield 15, 3) := by decide +kernel
theorem dX6_priceFor_14 : decode cX6_priceFor 14 = .ok (.iload_n 1, 1) := by decide +kernel
theorem dX6_priceFor_15 : decode cX6_priceFor 15 = .ok (.iaload, 1) := by decide +kernel
theorem dX6_priceFor_16 : decode cX6_priceFor 16 = .ok (.ireturn, 1) := by decide +kernel
theorem dX6_priceFor_17 : decode cX6_priceFor 17 = .ok (.iload_n 1, 1) := by decide +kernel
theorem dX6_priceFor_18 : decode cX6_priceFor 18 = .ok (.iconst 1, 1) := by decide +kernel
theorem dX6_priceFor_19 : decode cX6_priceFor 19 = .ok (.iadd, 1) := by decide +kernel
theorem dX6_priceFor_20 : decode cX6_priceFor 20 = .ok (.aload_n 0, 1) := by decide +kernel
theorem dX6_priceFor_21 : decode cX6_priceFor 21 = .ok (.getfield 44, 3) := by decide +kernel
theorem dX6_priceFor_24 : decode cX6_priceFor 24 = .ok (.if_icmp .ge 14, 3) := by decide +kernel
theorem dX6_priceFor_27 : decode cX6_priceFor 27 = .ok (.aload_n 0, 1) := by decide +kernel
theorem dX6_priceFor_28 : decode cX6_priceFor 28 = .ok (.getfield 15, 3) := by decide +kernel
theorem dX6_priceFor_31 : decode cX6_priceFor 31 = .ok (.iload_n 1, 1) := by decide +kernel
theorem dX6_priceFor_32 : decode cX6_priceFor 32 = .ok (.iconst 1, 1) := by decide +kernel
theorem dX6_priceFor_33 : decode cX6_priceFor 33 = .ok (.iadd, 1) := by decide +kernel
theorem dX6_priceFor_34 : decode cX6_priceFor 34 = .ok (.iaload, 1) := by decide +kernel
theorem dX6_priceFor_35 : decode cX6_priceFor 35 = .ok (.goto 4, 3) := by decide +kernel
theorem dX6_priceFor_38 : decode cX6_priceFor 38 = .ok (.iconst 1, 1) := by decide +kernel
theorem dX6_priceFor_39 : decode cX6_priceFor 39 = .ok (.istore_n 3, 1) := by decide +kernel
theorem dX6_priceFor_40 : decode cX6_priceFor 40 = .ok (.iload_n 3, 1) := by decide +kernel
theorem dX6_priceFor_41 : decode cX6_priceFor 41 = .ok (.aload_n 2, 1) := by decide +kernel
theorem dX6_priceFor_42 : decode cX6_priceFor 42 = .ok (.getstatic 84, 3) := by decide +kernel
theorem dX6_priceFor_45 : decode cX6_priceFor 45 = .ok (.invokevirtual 87, 3) := by decide +kernel
theorem dX6_priceFor_48 : decode cX6_priceFor 48 = .ok (.invokestatic 106, 3) := by decide +kernel
theorem dX6_priceFor_51 : decode cX6_priceFor 51 = .ok (.ireturn, 1) := by decide +kernel
theorem dX6_settle_0 : decode cX6_settle 0 = .ok (.aload_n 0, 1) := by decide +kernel
theorem dX6_settle_1 : decode cX6_settle 1 = .ok (.iload_n 2, 1) := by decide +kernel
theorem dX6_settle_2 : decode cX6_settle 2 = .ok (.putfield 22, 3) := by decide +kernel
theorem dX6_settle_5 : decode cX6_settle 5 = .ok (.aload_n 0, 1) := by decide +kernel
theorem dX6_settle_6 : decode cX6_settle 6 = .ok (.iload_n 2, 1) := by decide +kernel
theorem dX6_settle_7 : decode cX6_settle 7 = .ok (.aload 5, 2) := by decide +kernel
theorem dX6_settle_9 : decode cX6_settle 9 = .ok (.getstatic 112, 3) := by decide +kernel
theorem dX6_settle_12 : decode cX6_settle 12 = .ok (.invokevirtual 87, 3) := by decide +kernel
theorem dX6_settle_15 : decode cX6_settle 15 = .ok (.imul, 1) := by decide +kernel
theorem dX6_settle_16 : decode cX6_settle 16 = .ok (.bipush 100, 2) := by decide +kernel
theorem dX6_settle_18 : decode cX6_settle 18 = .ok (.idiv, 1) := by decide +kernel
theorem dX6_settle_19 : decode cX6_settle 19 = .ok (.putfield 29, 3) := by decide +kernel
theorem dX6_settle_22 : decode cX6_settle 22 = .ok (.aload 4, 2) := by decide +kernel
theorem dX6_settle_24 : decode cX6_settle 24 = .ok (.getfield 55, 3) := by decide +kernel
theorem dX6_settle_27 : decode cX6_settle 27 = .ok (.iload_n 1, 1) := by decide +kernel
theorem dX6_settle_28 : decode cX6_settle 28 = .ok (.dup2, 1) := by decide +kernel
theorem dX6_settle_29 : decode cX6_settle 29 = .ok (.iaload, 1) := by decide +kernel
theorem dX6_settle_30 : decode cX6_settle 30 = .ok (.iload_n 2, 1) := by decide +kernel
theorem dX6_settle_31 : decode cX6_settle 31 = .ok (.isub, 1) := by decide +kernel
theorem dX6_settle_32 : decode cX6_settle 32 = .ok (.iastore, 1) := by decide +kernel
theorem dX6_settle_33 : decode cX6_settle 33 = .ok (.aload 4, 2) := by decide +kernel
theorem dX6_settle_35 : decode cX6_settle 35 = .ok (.aload_n 3, 1) := by decide +kernel
theorem dX6_settle_36 : decode cX6_settle 36 = .ok (.iload_n 2, 1) := by decide +kernel
theorem dX6_settle_37 : decode cX6_settle 37 = .ok (.aload_n 0, 1) := by decide +kernel
theorem dX6_settle_38 : decode cX6_settle 38 = .ok (.getfield 29, 3) := by decide +kernel
theorem dX6_settle_41 : decode cX6_settle 41 = .ok (.isub, 1) := by decide +kernel
theorem dX6_settle_42 : decode cX6_settle 42 = .ok (.invokevirtual 115, 3) := by decide +kernel
theorem dX6_settle_45 : decode cX6_settle 45 = .ok (.aload_n 3, 1) := by decide +kernel
theorem dX6_settle_46 : decode cX6_settle 46 = .ok (.iload_n 1, 1) := by decide +kernel
theorem dX6_settle_47 : decode cX6_settle 47 = .ok (.invokevirtual 119, 3) := by decide +kernel
theorem dX6_settle_50 : decode cX6_settle 50 = .ok (.return_, 1) := by decide +kernel
theorem dX6_forfeit_0 : decode cX6_forfeit 0 = .ok (.aload_n 0, 1) := by decide +kernel
theorem dX6_forfeit_1 : decode cX6_forfeit 1 = .ok (.getfield 15, 3) := by decide +kernel
theorem dX6_forfeit_4 : decode cX6_forfeit 4 = .ok (.iload_n 1, 1) := by decide +kernel
theorem dX6_forfeit_5 : decode cX6_forfeit 5 = .ok (.iaload, 1) := by decide +kernel
theorem dX6_forfeit_6 : decode cX6_forfeit 6 = .ok (.aload 4, 2) := by decide +kernel
theorem dX6_forfeit_8 : decode cX6_forfeit 8 = .ok (.invokestatic 93, 3) := by decide +kernel
theorem dX6_forfeit_11 : decode cX6_forfeit 11 = .ok (.istore 5, 2) := by decide +kernel
theorem dX6_forfeit_13 : decode cX6_forfeit 13 = .ok (.aload_n 3, 1) := by decide +kernel
theorem dX6_forfeit_14 : decode cX6_forfeit 14 = .ok (.getfield 55, 3) := by decide +kernel
theorem dX6_forfeit_17 : decode cX6_forfeit 17 = .ok (.aload_n 0, 1) := by decide +kernel
theorem dX6_forfeit_18 : decode cX6_forfeit 18 = .ok (.getfield 9, 3) := by decide +kernel
theorem dX6_forfeit_21 : decode cX6_forfeit 21 = .ok (.iload_n 1, 1) := by decide +kernel
theorem dX6_forfeit_22 : decode cX6_forfeit 22 = .ok (.iaload, 1) := by decide +kernel
theorem dX6_forfeit_23 : decode cX6_forfeit 23 = .ok (.dup2, 1) := by decide +kernel
theorem dX6_forfeit_24 : decode cX6_forfeit 24 = .ok (.iaload, 1) := by decide +kernel
theorem dX6_forfeit_25 : decode cX6_forfeit 25 = .ok (.iload 5, 2) := by decide +kernel
theorem dX6_forfeit_27 : decode cX6_forfeit 27 = .ok (.isub, 1) := by decide +kernel
theorem dX6_forfeit_28 : decode cX6_forfeit 28 = .ok (.iastore, 1) := by decide +kernel
theorem dX6_forfeit_29 : decode cX6_forfeit 29 = .ok (.aload_n 3, 1) := by decide +kernel
theorem dX6_forfeit_30 : decode cX6_forfeit 30 = .ok (.aload_n 2, 1) := by decide +kernel
theorem dX6_forfeit_31 : decode cX6_forfeit 31 = .ok (.iload 5, 2) := by decide +kernel
theorem dX6_forfeit_33 : decode cX6_forfeit 33 = .ok (.invokevirtual 115, 3) := by decide +kernel
theorem dX6_forfeit_36 : decode cX6_forfeit 36 = .ok (.aload_n 0, 1) := by decide +kernel
theorem dX6_forfeit_37 : decode cX6_forfeit 37 = .ok (.dup, 1) := by decide +kernel
theorem dX6_forfeit_38 : decode cX6_forfeit 38 = .ok (.getfield 26, 3) := by decide +kernel
theorem dX6_forfeit_41 : decode cX6_forfeit 41 = .ok (.iconst 1, 1) := by decide +kernel
theorem dX6_forfeit_42 : decode cX6_forfeit 42 = .ok (.iadd, 1) := by decide +kernel
theorem dX6_forfeit_43 : decode cX6_forfeit 43 = .ok (.putfield 26, 3) := by decide +kernel
theorem dX6_forfeit_46 : decode cX6_forfeit 46 = .ok (.return_, 1) := by decide +kernel
theorem dX6_depositOf_0 : decode cX6_depositOf 0 = .ok (.iload_n 0, 1) := by decide +kernel
theorem dX6_depositOf_1 : decode cX6_depositOf 1 = .ok (.aload_n 1, 1) := by decide +kernel
theorem dX6_depositOf_2 : decode cX6_depositOf 2 = .ok (.getstatic 123, 3) := by decide +kernel
theorem dX6_depositOf_5 : decode cX6_depositOf 5 = .ok (.invokevirtual 87, 3) := by decide +kernel
theorem dX6_depositOf_8 : decode cX6_depositOf 8 = .ok (.imul, 1) := by decide +kernel
theorem dX6_depositOf_9 : decode cX6_depositOf 9 = .ok (.bipush 100, 2) := by decide +kernel
theorem dX6_depositOf_11 : decode cX6_depositOf 11 = .ok (.idiv, 1) := by decide +kernel
theorem dX6_depositOf_12 : decode cX6_depositOf 12 = .ok (.ireturn, 1) := by decide +kernel
theorem dX7_init_0 : decode cX7_init 0 = .ok (.aload_n 0, 1) := by decide +kernel
theorem dX7_init_1 : decode cX7_init 1 = .ok (.invokespecial 1, 3) := by decide +kernel
theorem dX7_init_4 : decode cX7_init 4 = .ok (.aload_n 0, 1) := by decide +kernel
theorem dX7_init_5 : decode cX7_init 5 = .ok (.sipush 400, 3) := by decide +kernel
theorem dX7_init_8 : decode cX7_init 8 = .ok (.newarray .byte, 2) := by decide +kernel
theorem dX7_init_10 : decode cX7_init 10 = .ok (.putfield 9, 3) := by decide +kernel
theorem dX7_init_13 : decode cX7_init 13 = .ok (.return_, 1) := by decide +kernel
theorem dX7_hasRoom_0 : decode cX7_hasRoom 0 = .ok (.aload_n 0, 1) := by decide +kernel
theorem dX7_hasRoom_1 : decode cX7_hasRoom 1 = .ok (.getfield 13, 3) := by decide +kernel
theorem dX7_hasRoom_4 : decode cX7_hasRoom 4 = .ok (.bipush 20, 2) := by decide +kernel
theorem dX7_hasRoom_6 : decode cX7_hasRoom 6 = .ok (.iadd, 1) := by decide +kernel
theorem dX7_hasRoom_7 : decode cX7_hasRoom 7 = .ok (.sipush 400, 3) := by decide +kernel
theorem dX7_hasRoom_10 : decode cX7_hasRoom 10 = .ok (.if_icmp .gt 7, 3) := by decide +kernel
theorem dX7_hasRoom_13 : decode cX7_hasRoom 13 = .ok (.iconst 1, 1) := by decide +kernel
theorem dX7_hasRoom_14 : decode cX7_hasRoom 14 = .ok (.goto 4, 3) := by decide +kernel
theorem dX7_hasRoom_17 : decode cX7_hasRoom 17 = .ok (.iconst 0, 1) := by decide +kernel
theorem dX7_hasRoom_18 : decode cX7_hasRoom 18 = .ok (.ireturn, 1) := by decide +kernel
theorem dX7_append_0 : decode cX7_append 0 = .ok (.bipush 24, 2) := by decide +kernel
theorem dX7_append_2 : decode cX7_append 2 = .ok (.istore_n 2, 1) := by decide +kernel
theorem dX7_append_3 : decode cX7_append 3 = .ok (.iload_n 2, 1) := by decide +kernel
theorem dX7_append_4 : decode cX7_append 4 = .ok (.ifCond .lt 42, 3) := by decide +kernel
theorem dX7_append_7 : decode cX7_append 7 = .ok (.aload_n 0, 1) := by decide +kernel
theorem dX7_append_8 : decode cX7_append 8 = .ok (.getfield 13, 3) := by decide +kernel
theorem dX7_append_11 : decode cX7_append 11 = .ok (.sipush 400, 3) := by decide +kernel
theorem dX7_append_14 : decode cX7_append 14 = .ok (.if_icmp .ge 32, 3) := by decide +kernel
theorem dX7_append_17 : decode cX7_append 17 = .ok (.aload_n 0, 1) := by decide +kernel
theorem dX7_append_18 : decode cX7_append 18 = .ok (.getfield 9, 3) := by decide +kernel
theorem dX7_append_21 : decode cX7_append 21 = .ok (.aload_n 0, 1) := by decide +kernel
theorem dX7_append_22 : decode cX7_append 22 = .ok (.getfield 13, 3) := by decide +kernel
theorem dX7_append_25 : decode cX7_append 25 = .ok (.iload_n 1, 1) := by decide +kernel
theorem dX7_append_26 : decode cX7_append 26 = .ok (.iload_n 2, 1) := by decide +kernel
theorem dX7_append_27 : decode cX7_append 27 = .ok (.ishr, 1) := by decide +kernel
theorem dX7_append_28 : decode cX7_append 28 = .ok (.i2b, 1) := by decide +kernel
theorem dX7_append_29 : decode cX7_append 29 = .ok (.bastore, 1) := by decide +kernel
theorem dX7_append_30 : decode cX7_append 30 = .ok (.aload_n 0, 1) := by decide +kernel
theorem dX7_append_31 : decode cX7_append 31 = .ok (.dup, 1) := by decide +kernel
theorem dX7_append_32 : decode cX7_append 32 = .ok (.getfield 13, 3) := by decide +kernel
theorem dX7_append_35 : decode cX7_append 35 = .ok (.iconst 1, 1) := by decide +kernel
theorem dX7_append_36 : decode cX7_append 36 = .ok (.iadd, 1) := by decide +kernel
theorem dX7_append_37 : decode cX7_append 37 = .ok (.putfield 13, 3) := by decide +kernel
theorem dX7_append_40 : decode cX7_append 40 = .ok (.iinc 2 (-8), 3) := by decide +kernel
theorem dX7_append_43 : decode cX7_append 43 = .ok (.goto (-40), 3) := by decide +kernel
theorem dX7_append_46 : decode cX7_append 46 = .ok (.return_, 1) := by decide +kernel
theorem dX8_init_0 : decode cX8_init 0 = .ok (.aload_n 0, 1) := by decide +kernel
theorem dX8_init_1 : decode cX8_init 1 = .ok (.invokespecial 1, 3) := by decide +kernel
theorem dX8_init_4 : decode cX8_init 4 = .ok (.aload_n 0, 1) := by decide +kernel
theorem dX8_init_5 : decode cX8_init 5 = .ok (.new 7, 3) := by decide +kernel
theorem dX8_init_8 : decode cX8_init 8 = .ok (.dup, 1) := by decide +kernel
theorem dX8_init_9 : decode cX8_init 9 = .ok (.invokespecial 9, 3) := by decide +kernel
theorem dX8_init_12 : decode cX8_init 12 = .ok (.putfield 10, 3) := by decide +kernel
theorem dX8_init_15 : decode cX8_init 15 = .ok (.aload_n 0, 1) := by decide +kernel
theorem dX8_init_16 : decode cX8_init 16 = .ok (.new 16, 3) := by decide +kernel
theorem dX8_init_19 : decode cX8_init 19 = .ok (.dup, 1) := by decide +kernel
theorem dX8_init_20 : decode cX8_init 20 = .ok (.invokespecial 18, 3) := by decide +kernel
theorem dX8_init_23 : decode cX8_init 23 = .ok (.putfield 19, 3) := by decide +kernel
theorem dX8_init_26 : decode cX8_init 26 = .ok (.aload_n 0, 1) := by decide +kernel
theorem dX8_init_27 : decode cX8_init 27 = .ok (.new 23, 3) := by decide +kernel
theorem dX8_init_30 : decode cX8_init 30 = .ok (.dup, 1) := by decide +kernel
theorem dX8_init_31 : decode cX8_init 31 = .ok (.invokespecial 25, 3) := by decide +kernel
theorem dX8_init_34 : decode cX8_init 34 = .ok (.putfield 26, 3) := by decide +kernel
theorem dX8_init_37 : decode cX8_init 37 = .ok (.aload_n 0, 1) := by decide +kernel
theorem dX8_init_38 : decode cX8_init 38 = .ok (.new 30, 3) := by decide +kernel
theorem dX8_init_41 : decode cX8_init 41 = .ok (.dup, 1) := by decide +kernel
theorem dX8_init_42 : decode cX8_init 42 = .ok (.invokespecial 32, 3) := by decide +kernel
theorem dX8_init_45 : decode cX8_init 45 = .ok (.putfield 33, 3) := by decide +kernel
theorem dX8_init_48 : decode cX8_init 48 = .ok (.aload_n 0, 1) := by decide +kernel
theorem dX8_init_49 : decode cX8_init 49 = .ok (.bipush 10, 2) := by decide +kernel
theorem dX8_init_51 : decode cX8_init 51 = .ok (.anewarray 37, 3) := by decide +kernel
theorem dX8_init_54 : decode cX8_init 54 = .ok (.putfield 39, 3) := by decide +kernel
theorem dX8_init_57 : decode cX8_init 57 = .ok (.aload_n 0, 1) := by decide +kernel
theorem dX8_init_58 : decode cX8_init 58 = .ok (.new 43, 3) := by decide +kernel
theorem dX8_init_61 : decode cX8_init 61 = .ok (.dup, 1) := by decide +kernel
theorem dX8_init_62 : decode cX8_init 62 = .ok (.invokespecial 45, 3) := by decide +kernel
theorem dX8_init_65 : decode cX8_init 65 = .ok (.putfield 46, 3) := by decide +kernel
theorem dX8_init_68 : decode cX8_init 68 = .ok (.return_, 1) := by decide +kernel
theorem dX8_feed_0 : decode cX8_feed 0 = .ok (.aload_n 0, 1) := by decide +kernel
theorem dX8_feed_1 : decode cX8_feed 1 = .ok (.getfield 10, 3) := by decide +kernel
theorem dX8_feed_4 : decode cX8_feed 4 = .ok (.invokevirtual 50, 3) := by decide +kernel
theorem dX8_feed_7 : decode cX8_feed 7 = .ok (.ifCond .ne 5, 3) := by decide +kernel
theorem dX8_feed_10 : decode cX8_feed 10 = .ok (.iconst (-1), 1) := by decide +kernel
theorem dX8_feed_11 : decode cX8_feed 11 = .ok (.ireturn, 1) := by decide +kernel
theorem dX8_feed_12 : decode cX8_feed 12 = .ok (.aload_n 0, 1) := by decide +kernel
theorem dX8_feed_13 : decode cX8_feed 13 = .ok (.getfield 10, 3) := by decide +kernel
theorem dX8_feed_16 : decode cX8_feed 16 = .ok (.iload_n 1, 1) := by decide +kernel
theorem dX8_feed_17 : decode cX8_feed 17 = .ok (.invokevirtual 54, 3) := by decide +kernel
theorem dX8_feed_20 : decode cX8_feed 20 = .ok (.aload_n 0, 1) := by decide +kernel
theorem dX8_feed_21 : decode cX8_feed 21 = .ok (.getfield 10, 3) := by decide +kernel
theorem dX8_feed_24 : decode cX8_feed 24 = .ok (.iload_n 2, 1) := by decide +kernel
theorem dX8_feed_25 : decode cX8_feed 25 = .ok (.invokevirtual 54, 3) := by decide +kernel
theorem dX8_feed_28 : decode cX8_feed 28 = .ok (.aload_n 0, 1) := by decide +kernel
theorem dX8_feed_29 : decode cX8_feed 29 = .ok (.getfield 10, 3) := by decide +kernel
theorem dX8_feed_32 : decode cX8_feed 32 = .ok (.iload_n 3, 1) := by decide +kernel
theorem dX8_feed_33 : decode cX8_feed 33 = .ok (.invokevirtual 54, 3) := by decide +kernel
theorem dX8_feed_36 : decode cX8_feed 36 = .ok (.aload_n 0, 1) := by decide +kernel
theorem dX8_feed_37 : decode cX8_feed 37 = .ok (.getfield 10, 3) := by decide +kernel
theorem dX8_feed_40 : decode cX8_feed 40 = .ok (.iload 4, 2) := by decide +kernel
theorem dX8_feed_42 : decode cX8_feed 42 = .ok (.invokevirtual 54, 3) := by decide +kernel
theorem dX8_feed_45 : decode cX8_feed 45 = .ok (.aload_n 0, 1) := by decide +kernel
theorem dX8_feed_46 : decode cX8_feed 46 = .ok (.getfield 10, 3) := by decide +kernel
theorem dX8_feed_49 : decode cX8_feed 49 = .ok (.iload 5, 2) := by decide +kernel
theorem dX8_feed_51 : decode cX8_feed 51 = .ok (.invokevirtual 54, 3) := by decide +kernel
theorem dX8_feed_54 : decode cX8_feed 54 = .ok (.aload_n 0, 1) := by decide +kernel
theorem dX8_feed_55 : decode cX8_feed 55 = .ok (.getfield 10, 3) := by decide +kernel
theorem dX8_feed_58 : decode cX8_feed 58 = .ok (.getfield 58, 3) := by decide +kernel
theorem dX8_feed_61 : decode cX8_feed 61 = .ok (.ireturn, 1) := by decide +kernel
theorem dX8_customs_0 : decode cX8_customs 0 = .ok (.iload_n 1, 1) := by decide +kernel
theorem dX8_customs_1 : decode cX8_customs 1 = .ok (.ifCond .lt 14, 3) := by decide +kernel
theorem dX8_customs_4 : decode cX8_customs 4 = .ok (.iload_n 1, 1) := by decide +kernel
theorem dX8_customs_5 : decode cX8_customs 5 = .ok (.aload_n 0, 1) := by decide +kernel
theorem dX8_customs_6 : decode cX8_customs 6 = .ok (.getfield 10, 3) := by decide +kernel
theorem dX8_customs_9 : decode cX8_customs 9 = .ok (.getfield 58, 3) := by decide +kernel
theorem dX8_customs_12 : decode cX8_customs 12 = .ok (.if_icmp .le 6, 3) := by decide +kernel
theorem dX8_customs_15 : decode cX8_customs 15 = .ok (.bipush (-2), 2) := by decide +kernel
theorem dX8_customs_17 : decode cX8_customs 17 = .ok (.ireturn, 1) := by decide +kernel
theorem dX8_customs_18 : decode cX8_customs 18 = .ok (.aload_n 0, 1) := by decide +kernel
theorem dX8_customs_19 : decode cX8_customs 19 = .ok (.getfield 19, 3) := by decide +kernel
theorem dX8_customs_22 : decode cX8_customs 22 = .ok (.aload_n 0, 1) := by decide +kernel
theorem dX8_customs_23 : decode cX8_customs 23 = .ok (.getfield 10, 3) := by decide +kernel
theorem dX8_customs_26 : decode cX8_customs 26 = .ok (.iload_n 1, 1) := by decide +kernel
theorem dX8_customs_27 : decode cX8_customs 27 = .ok (.invokevirtual 62, 3) := by decide +kernel
theorem dX8_customs_30 : decode cX8_customs 30 = .ok (.istore_n 2, 1) := by decide +kernel
theorem dX8_customs_31 : decode cX8_customs 31 = .ok (.aload_n 0, 1) := by decide +kernel
theorem dX8_customs_32 : decode cX8_customs 32 = .ok (.getfield 10, 3) := by decide +kernel
theorem dX8_customs_35 : decode cX8_customs 35 = .ok (.iconst 0, 1) := by decide +kernel
theorem dX8_customs_36 : decode cX8_customs 36 = .ok (.putfield 58, 3) := by decide +kernel
theorem dX8_customs_39 : decode cX8_customs 39 = .ok (.iload_n 2, 1) := by decide +kernel
theorem dX8_customs_40 : decode cX8_customs 40 = .ok (.ireturn, 1) := by decide +kernel
theorem dX8_fault_0 : decode cX8_fault 0 = .ok (.iload_n 1, 1) := by decide +kernel
theorem dX8_fault_1 : decode cX8_fault 1 = .ok (.lookupswitch 43 #[(0, 27), (1, 35)], 27) := by decide +kernel
theorem dX8_fault_28 : decode cX8_fault 28 = .ok (.aload_n 0, 1) := by decide +kernel
theorem dX8_fault_29 : decode cX8_fault 29 = .ok (.getfield 19, 3) := by decide +kernel
theorem dX8_fault_32 : decode cX8_fault 32 = .ok (.getfield 66, 3) := by decide +kernel
theorem dX8_fault_35 : decode cX8_fault 35 = .ok (.ireturn, 1) := by decide +kernel
theorem dX8_fault_36 : decode cX8_fault 36 = .ok (.aload_n 0, 1) := by decide +kernel
theorem dX8_fault_37 : decode cX8_fault 37 = .ok (.getfield 19, 3) := by decide +kernel
theorem dX8_fault_40 : decode cX8_fault 40 = .ok (.getfield 69, 3) := by decide +kernel
theorem dX8_fault_43 : decode cX8_fault 43 = .ok (.ireturn, 1) := by decide +kernel
theorem dX8_fault_44 : decode cX8_fault 44 = .ok (.iconst (-1), 1) := by decide +kernel
theorem dX8_fault_45 : decode cX8_fault 45 = .ok (.ireturn, 1) := by decide +kernel
theorem dX8_grade_0 : decode cX8_grade 0 = .ok (.aload_n 0, 1) := by decide +kernel
theorem dX8_grade_1 : decode cX8_grade 1 = .ok (.getfield 26, 3) := by decide +kernel
theorem dX8_grade_4 : decode cX8_grade 4 = .ok (.iload_n 1, 1) := by decide +kernel
theorem dX8_grade_5 : decode cX8_grade 5 = .ok (.invokevirtual 72, 3) := by decide +kernel
theorem dX8_grade_8 : decode cX8_grade 8 = .ok (.ireturn, 1) := by decide +kernel
theorem dX8_kind_0 : decode cX8_kind 0 = .ok (.aload_n 0, 1) := by decide +kernel
theorem dX8_kind_1 : decode cX8_kind 1 = .ok (.getfield 26, 3) := by decide +kernel
theorem dX8_kind_4 : decode cX8_kind 4 = .ok (.iload_n 1, 1) := by decide +kernel
theorem dX8_kind_5 : decode cX8_kind 5 = .ok (.iload_n 2, 1) := by decide +kernel
theorem dX8_kind_6 : decode cX8_kind 6 = .ok (.iload_n 3, 1) := by decide +kernel
theorem dX8_kind_7 : decode cX8_kind 7 = .ok (.iload 4, 2) := by decide +kernel
theorem dX8_kind_9 : decode cX8_kind 9 = .ok (.iload 5, 2) := by decide +kernel
theorem dX8_kind_11 : decode cX8_kind 11 = .ok (.invokevirtual 76, 3) := by decide +kernel
theorem dX8_kind_14 : decode cX8_kind 14 = .ok (.ireturn, 1) := by decide +kernel
theorem dX8_man_0 : decode cX8_man 0 = .ok (.aload_n 0, 1) := by decide +kernel
theorem dX8_man_1 : decode cX8_man 1 = .ok (.getfield 33, 3) := by decide +kernel
theorem dX8_man_4 : decode cX8_man 4 = .ok (.iload_n 1, 1) := by decide +kernel
theorem dX8_man_5 : decode cX8_man 5 = .ok (.invokevirtual 80, 3) := by decide +kernel
theorem dX8_man_8 : decode cX8_man 8 = .ok (.ireturn, 1) := by decide +kernel
theorem dX8_boulder_0 : decode cX8_boulder 0 = .ok (.aload_n 0, 1) := by decide +kernel
theorem dX8_boulder_1 : decode cX8_boulder 1 = .ok (.getfield 83, 3) := by decide +kernel
theorem dX8_boulder_4 : decode cX8_boulder 4 = .ok (.bipush 10, 2) := by decide +kernel
theorem dX8_boulder_6 : decode cX8_boulder 6 = .ok (.if_icmp .ge 14, 3) := by decide +kernel
theorem dX8_boulder_9 : decode cX8_boulder 9 = .ok (.aload_n 0, 1) := by decide +kernel
theorem dX8_boulder_10 : decode cX8_boulder 10 = .ok (.getfield 33, 3) := by decide +kernel
theorem dX8_boulder_13 : decode cX8_boulder 13 = .ok (.iload_n 1, 1) := by decide +kernel
theorem dX8_boulder_14 : decode cX8_boulder 14 = .ok (.invokevirtual 86, 3) := by decide +kernel
theorem dX8_boulder_17 : decode cX8_boulder 17 = .ok (.ifCond .ne 5, 3) := by decide +kernel
theorem dX8_boulder_20 : decode cX8_boulder 20 = .ok (.iconst (-1), 1) := by decide +kernel
theorem dX8_boulder_21 : decode cX8_boulder 21 = .ok (.ireturn, 1) := by decide +kernel
theorem dX8_boulder_22 : decode cX8_boulder 22 = .ok (.iload_n 2, 1) := by decide +kernel
theorem dX8_boulder_23 : decode cX8_boulder 23 = .ok (.iconst 1, 1) := by decide +kernel
theorem dX8_boulder_24 : decode cX8_boulder 24 = .ok (.if_icmp .lt 21, 3) := by decide +kernel
theorem dX8_boulder_27 : decode cX8_boulder 27 = .ok (.iload_n 2, 1) := by decide +kernel
theorem dX8_boulder_28 : decode cX8_boulder 28 = .ok (.bipush 8, 2) := by decide +kernel
theorem dX8_boulder_30 : decode cX8_boulder 30 = .ok (.if_icmp .gt 15, 3) := by decide +kernel
theorem dX8_boulder_33 : decode cX8_boulder 33 = .ok (.aload_n 0, 1) := by decide +kernel
theorem dX8_boulder_34 : decode cX8_boulder 34 = .ok (.getfield 26, 3) := by decide +kernel
theorem dX8_boulder_37 : decode cX8_boulder 37 = .ok (.iload_n 2, 1) := by decide +kernel
theorem dX8_boulder_38 : decode cX8_boulder 38 = .ok (.iload_n 3, 1) := by decide +kernel
theorem dX8_boulder_39 : decode cX8_boulder 39 = .ok (.invokevirtual 90, 3) := by decide +kernel
theorem dX8_boulder_42 : decode cX8_boulder 42 = .ok (.ifCond .ne 5, 3) := by decide +kernel
theorem dX8_boulder_45 : decode cX8_boulder 45 = .ok (.iconst (-1), 1) := by decide +kernel
theorem dX8_boulder_46 : decode cX8_boulder 46 = .ok (.ireturn, 1) := by decide +kernel
theorem dX8_boulder_47 : decode cX8_boulder 47 = .ok (.aload_n 0, 1) := by decide +kernel
theorem dX8_boulder_48 : decode cX8_boulder 48 = .ok (.getfield 39, 3) := by decide +kernel
theorem dX8_boulder_51 : decode cX8_boulder 51 = .ok (.aload_n 0, 1) := by decide +kernel
theorem dX8_boulder_52 : decode cX8_boulder 52 = .ok (.getfield 83, 3) := by decide +kernel
theorem dX8_boulder_55 : decode cX8_boulder 55 = .ok (.new 37, 3) := by decide +kernel
theorem dX8_boulder_58 : decode cX8_boulder 58 = .ok (.dup, 1) := by decide +kernel
theorem dX8_boulder_59 : decode cX8_boulder 59 = .ok (.iload_n 1, 1) := by decide +kernel
theorem dX8_boulder_60 : decode cX8_boulder 60 = .ok (.iload_n 2, 1) := by decide +kernel
theorem dX8_boulder_61 : decode cX8_boulder 61 = .ok (.iload_n 3, 1) := by decide +kernel
theorem dX8_boulder_62 : decode cX8_boulder 62 = .ok (.invokespecial 94, 3) := by decide +kernel
theorem dX8_boulder_65 : decode cX8_boulder 65 = .ok (.aastore, 1) := by decide +kernel
theorem dX8_boulder_66 : decode cX8_boulder 66 = .ok (.aload_n 0, 1) := by decide +kernel
theorem dX8_boulder_67 : decode cX8_boulder 67 = .ok (.dup, 1) := by decide +kernel
theorem dX8_boulder_68 : decode cX8_boulder 68 = .ok (.getfield 83, 3) := by decide +kernel
theorem dX8_boulder_71 : decode cX8_boulder 71 = .ok (.iconst 1, 1) := by decide +kernel
theorem dX8_boulder_72 : decode cX8_boulder 72 = .ok (.iadd, 1) := by decide +kernel
theorem dX8_boulder_73 : decode cX8_boulder 73 = .ok (.putfield 83, 3) := by decide +kernel
theorem dX8_boulder_76 : decode cX8_boulder 76 = .ok (.aload_n 0, 1) := by decide +kernel
theorem dX8_boulder_77 : decode cX8_boulder 77 = .ok (.getfield 83, 3) := by decide +kernel
theorem dX8_boulder_80 : decode cX8_boulder 80 = .ok (.iconst 1, 1) := by decide +kernel
theorem dX8_boulder_81 : decode cX8_boulder 81 = .ok (.isub, 1) := by decide +kernel
theorem dX8_boulder_82 : decode cX8_boulder 82 = .ok (.ireturn, 1) := by decide +kernel
theorem dX8_share_0 : decode cX8_share 0 = .ok (.aload_n 0, 1) := by decide +kernel
theorem dX8_share_1 : decode cX8_share 1 = .ok (.iload_n 1, 1) := by decide +kernel
theorem dX8_share_2 : decode cX8_share 2 = .ok (.invokevirtual 97, 3) := by decide +kernel
theorem dX8_share_5 : decode cX8_share 5 = .ok (.astore 5, 2) := by decide +kernel
theorem dX8_share_7 : decode cX8_share 7 = .ok (.aload 5, 2) := by decide +kernel
theorem dX8_share_9 : decode cX8_share 9 = .ok (.ifnull 30, 3) := by decide +kernel
theorem dX8_share_12 : decode cX8_share 12 = .ok (.aload_n 0, 1) := by decide +kernel
theorem dX8_share_13 : decode cX8_share 13 = .ok (.getfield 33, 3) := by decide +kernel
theorem dX8_share_16 : decode cX8_share 16 = .ok (.iload_n 2, 1) := by decide +kernel
theorem dX8_share_17 : decode cX8_share 17 = .ok (.invokevirtual 86, 3) := by decide +kernel
theorem dX8_share_20 : decode cX8_share 20 = .ok (.ifCond .eq 19, 3) := by decide +kernel
theorem dX8_share_23 : decode cX8_share 23 = .ok (.aload_n 0, 1) := by decide +kernel
theorem dX8_share_24 : decode cX8_share 24 = .ok (.getfield 33, 3) := by decide +kernel
theorem dX8_share_27 : decode cX8_share 27 = .ok (.iload_n 3, 1) := by decide +kernel
theorem dX8_share_28 : decode cX8_share 28 = .ok (.invokevirtual 86, 3) := by decide +kernel
theorem dX8_share_31 : decode cX8_share 31 = .ok (.ifCond .eq 8, 3) := by decide +kernel
theorem dX8_share_34 : decode cX8_share 34 = .ok (.iload_n 2, 1) := by decide +kernel
theorem dX8_share_35 : decode cX8_share 35 = .ok (.iload_n 3, 1) := by decide +kernel
theorem dX8_share_36 : decode cX8_share 36 = .ok (.if_icmp .ne 5, 3) := by decide +kernel
theorem dX8_share_39 : decode cX8_share 39 = .ok (.iconst 0, 1) := by decide +kernel
theorem dX8_share_40 : decode cX8_share 40 = .ok (.ireturn, 1) := by decide +kernel
theorem dX8_share_41 : decode cX8_share 41 = .ok (.iload 4, 2) := by decide +kernel
theorem dX8_share_43 : decode cX8_share 43 = .ok (.iconst 1, 1) := by decide +kernel
theorem dX8_share_44 : decode cX8_share 44 = .ok (.if_icmp .lt 15, 3) := by decide +kernel
theorem dX8_share_47 : decode cX8_share 47 = .ok (.iload 4, 2) := by decide +kernel
theorem dX8_share_49 : decode cX8_share 49 = .ok (.aload 5, 2) := by decide +kernel
theorem dX8_share_51 : decode cX8_share 51 = .ok (.getfield 101, 3) := by decide +kernel
theorem dX8_share_54 : decode cX8_share 54 = .ok (.iload_n 2, 1) := by decide +kernel
theorem dX8_share_55 : decode cX8_share 55 = .ok (.iaload, 1) := by decide +kernel
theorem dX8_share_56 : decode cX8_share 56 = .ok (.if_icmp .le 5, 3) := by decide +kernel
theorem dX8_share_59 : decode cX8_share 59 = .ok (.iconst 0, 1) := by decide +kernel
theorem dX8_share_60 : decode cX8_share 60 = .ok (.ireturn, 1) := by decide +kernel
theorem dX8_share_61 : decode cX8_share 61 = .ok (.aload 5, 2) := by decide +kernel
theorem dX8_share_63 : decode cX8_share 63 = .ok (.getfield 101, 3) := by decide +kernel
theorem dX8_share_66 : decode cX8_share 66 = .ok (.iload_n 2, 1) := by decide +kernel
theorem dX8_share_67 : decode cX8_share 67 = .ok (.dup2, 1) := by decide +kernel
theorem dX8_share_68 : decode cX8_share 68 = .ok (.iaload, 1) := by decide +kernel
theorem dX8_share_69 : decode cX8_share 69 = .ok (.iload 4, 2) := by decide +kernel
theorem dX8_share_71 : decode cX8_share 71 = .ok (.isub, 1) := by decide +kernel
theorem dX8_share_72 : decode cX8_share 72 = .ok (.iastore, 1) := by decide +kernel
theorem dX8_share_73 : decode cX8_share 73 = .ok (.aload 5, 2) := by decide +kernel
theorem dX8_share_75 : decode cX8_share 75 = .ok (.getfield 101, 3) := by decide +kernel
theorem dX8_share_78 : decode cX8_share 78 = .ok (.iload_n 3, 1) := by decide +kernel
theorem dX8_share_79 : decode cX8_share 79 = .ok (.dup2, 1) := by decide +kernel
theorem dX8_share_80 : decode cX8_share 80 = .ok (.iaload, 1) := by decide +kernel
theorem dX8_share_81 : decode cX8_share 81 = .ok (.iload 4, 2) := by decide +kernel
theorem dX8_share_83 : decode cX8_share 83 = .ok (.iadd, 1) := by decide +kernel
theorem dX8_share_84 : decode cX8_share 84 = .ok (.iastore, 1) := by decide +kernel
theorem dX8_share_85 : decode cX8_share 85 = .ok (.iconst 1, 1) := by decide +kernel
theorem dX8_share_86 : decode cX8_share 86 = .ok (.ireturn, 1) := by decide +kernel
theorem dX8_bid_0 : decode cX8_bid 0 = .ok (.aload_n 0, 1) := by decide +kernel
theorem dX8_bid_1 : decode cX8_bid 1 = .ok (.iload_n 2, 1) := by decide +kernel
theorem dX8_bid_2 : decode cX8_bid 2 = .ok (.invokevirtual 97, 3) := by decide +kernel
theorem dX8_bid_5 : decode cX8_bid 5 = .ok (.astore 4, 2) := by decide +kernel
theorem dX8_bid_7 : decode cX8_bid 7 = .ok (.aload 4, 2) := by decide +kernel
theorem dX8_bid_9 : decode cX8_bid 9 = .ok (.ifnull 25, 3) := by decide +kernel
theorem dX8_bid_12 : decode cX8_bid 12 = .ok (.aload_n 0, 1) := by decide +kernel
theorem dX8_bid_13 : decode cX8_bid 13 = .ok (.getfield 33, 3) := by decide +kernel
theorem dX8_bid_16 : decode cX8_bid 16 = .ok (.iload_n 1, 1) := by decide +kernel
theorem dX8_bid_17 : decode cX8_bid 17 = .ok (.invokevirtual 86, 3) := by decide +kernel
theorem dX8_bid_20 : decode cX8_bid 20 = .ok (.ifCond .eq 14, 3) := by decide +kernel
theorem dX8_bid_23 : decode cX8_bid 23 = .ok (.iload_n 3, 1) := by decide +kernel
theorem dX8_bid_24 : decode cX8_bid 24 = .ok (.iconst 1, 1) := by decide +kernel
theorem dX8_bid_25 : decode cX8_bid 25 = .ok (.if_icmp .lt 9, 3) := by decide +kernel
theorem dX8_bid_28 : decode cX8_bid 28 = .ok (.iload_n 3, 1) := by decide +kernel
theorem dX8_bid_29 : decode cX8_bid 29 = .ok (.ldc 105, 2) := by decide +kernel
theorem dX8_bid_31 : decode cX8_bid 31 = .ok (.if_icmp .le 5, 3) := by decide +kernel
theorem dX8_bid_34 : decode cX8_bid 34 = .ok (.iconst (-1), 1) := by decide +kernel
theorem dX8_bid_35 : decode cX8_bid 35 = .ok (.ireturn, 1) := by decide +kernel
theorem dX8_bid_36 : decode cX8_bid 36 = .ok (.aload 4, 2) := by decide +kernel
theorem dX8_bid_38 : decode cX8_bid 38 = .ok (.getfield 101, 3) := by decide +kernel
theorem dX8_bid_41 : decode cX8_bid 41 = .ok (.iload_n 1, 1) := by decide +kernel
theorem dX8_bid_42 : decode cX8_bid 42 = .ok (.iaload, 1) := by decide +kernel
theorem dX8_bid_43 : decode cX8_bid 43 = .ok (.ifCond .le 5, 3) := by decide +kernel
theorem dX8_bid_46 : decode cX8_bid 46 = .ok (.iconst (-1), 1) := by decide +kernel
theorem dX8_bid_47 : decode cX8_bid 47 = .ok (.ireturn, 1) := by decide +kernel
theorem dX8_bid_48 : decode cX8_bid 48 = .ok (.aload 4, 2) := by decide +kernel
theorem dX8_bid_50 : decode cX8_bid 50 = .ok (.iload_n 1, 1) := by decide +kernel
theorem dX8_bid_51 : decode cX8_bid 51 = .ok (.iload_n 3, 1) := by decide +kernel
theorem dX8_bid_52 : decode cX8_bid 52 = .ok (.invokevirtual 106, 3) := by decide +kernel
theorem dX8_bid_55 : decode cX8_bid 55 = .ok (.aload 4, 2) := by decide +kernel
theorem dX8_bid_57 : decode cX8_bid 57 = .ok (.getfield 110, 3) := by decide +kernel
theorem dX8_bid_60 : decode cX8_bid 60 = .ok (.ireturn, 1) := by decide +kernel
theorem dX8_open_0 : decode cX8_open 0 = .ok (.aload_n 0, 1) := by decide +kernel
theorem dX8_open_1 : decode cX8_open 1 = .ok (.iload_n 1, 1) := by decide +kernel
theorem dX8_open_2 : decode cX8_open 2 = .ok (.invokevirtual 97, 3) := by decide +kernel
theorem dX8_open_5 : decode cX8_open 5 = .ok (.astore_n 2, 1) := by decide +kernel
theorem dX8_open_6 : decode cX8_open 6 = .ok (.aload_n 2, 1) := by decide +kernel
theorem dX8_open_7 : decode cX8_open 7 = .ok (.ifnonnull 6, 3) := by decide +kernel
theorem dX8_open_10 : decode cX8_open 10 = .ok (.bipush (-2), 2) := by decide +kernel
theorem dX8_open_12 : decode cX8_open 12 = .ok (.ireturn, 1) := by decide +kernel
theorem dX8_open_13 : decode cX8_open 13 = .ok (.aload_n 0, 1) := by decide +kernel
theorem dX8_open_14 : decode cX8_open 14 = .ok (.getfield 46, 3) := by decide +kernel
theorem dX8_open_17 : decode cX8_open 17 = .ok (.aload_n 2, 1) := by decide +kernel
theorem dX8_open_18 : decode cX8_open 18 = .ok (.aload_n 0, 1) := by decide +kernel
theorem dX8_open_19 : decode cX8_open 19 = .ok (.getfield 33, 3) := by decide +kernel
theorem dX8_open_22 : decode cX8_open 22 = .ok (.aload_n 0, 1) := by decide +kernel
theorem dX8_open_23 : decode cX8_open 23 = .ok (.getfield 19, 3) := by decide +kernel
theorem dX8_open_26 : decode cX8_open 26 = .ok (.invokevirtual 113, 3) := by decide +kernel
theorem dX8_open_29 : decode cX8_open 29 = .ok (.istore_n 3, 1) := by decide +kernel
theorem dX8_open_30 : decode cX8_open 30 = .ok (.aload_n 0, 1) := by decide +kernel
theorem dX8_open_31 : decode cX8_open 31 = .ok (.dup, 1) := by decide +kernel
theorem dX8_open_32 : decode cX8_open 32 = .ok (.getfield 117, 3) := by decide +kernel
theorem dX8_open_35 : decode cX8_open 35 = .ok (.aload_n 0, 1) := by decide +kernel
theorem dX8_open_36 : decode cX8_open 36 = .ok (.getfield 46, 3) := by decide +kernel
theorem dX8_open_39 : decode cX8_open 39 = .ok (.getfield 120, 3) := by decide +kernel
theorem dX8_open_42 : decode cX8_open 42 = .ok (.iadd, 1) := by decide +kernel
theorem dX8_open_43 : decode cX8_open 43 = .ok (.putfield 117, 3) := by decide +kernel
theorem dX8_open_46 : decode cX8_open 46 = .ok (.iload_n 3, 1) := by decide +kernel
theorem dX8_open_47 : decode cX8_open 47 = .ok (.ireturn, 1) := by decide +kernel
theorem dX8_sale_0 : decode cX8_sale 0 = .ok (.aload_n 0, 1) := by decide +kernel
theorem dX8_sale_1 : decode cX8_sale 1 = .ok (.getfield 46, 3) := by decide +kernel
theorem dX8_sale_4 : decode cX8_sale 4 = .ok (.iload_n 1, 1) := by decide +kernel
theorem dX8_sale_5 : decode cX8_sale 5 = .ok (.invokevirtual 123, 3) := by decide +kernel
theorem dX8_sale_8 : decode cX8_sale 8 = .ok (.ireturn, 1) := by decide +kernel
theorem dX8_cut_0 : decode cX8_cut 0 = .ok (.aload_n 0, 1) := by decide +kernel
theorem dX8_cut_1 : decode cX8_cut 1 = .ok (.iload_n 1, 1) := by decide +kernel
theorem dX8_cut_2 : decode cX8_cut 2 = .ok (.invokevirtual 97, 3) := by decide +kernel
theorem dX8_cut_5 : decode cX8_cut 5 = .ok (.astore_n 2, 1) := by decide +kernel
theorem dX8_cut_6 : decode cX8_cut 6 = .ok (.aload_n 0, 1) := by decide +kernel
theorem dX8_cut_7 : decode cX8_cut 7 = .ok (.getfield 19, 3) := by decide +kernel
theorem dX8_cut_10 : decode cX8_cut 10 = .ok (.getstatic 126, 3) := by decide +kernel
theorem dX8_cut_13 : decode cX8_cut 13 = .ok (.invokevirtual 132, 3) := by decide +kernel
theorem dX8_cut_16 : decode cX8_cut 16 = .ok (.istore_n 3, 1) := by decide +kernel
theorem dX8_cut_17 : decode cX8_cut 17 = .ok (.aload_n 2, 1) := by decide +kernel
theorem dX8_cut_18 : decode cX8_cut 18 = .ok (.ifnull 15, 3) := by decide +kernel
theorem dX8_cut_21 : decode cX8_cut 21 = .ok (.aload_n 0, 1) := by decide +kernel
theorem dX8_cut_22 : decode cX8_cut 22 = .ok (.getfield 33, 3) := by decide +kernel
theorem dX8_cut_25 : decode cX8_cut 25 = .ok (.aload_n 2, 1) := by decide +kernel
theorem dX8_cut_26 : decode cX8_cut 26 = .ok (.iload_n 3, 1) := by decide +kernel
theorem dX8_cut_27 : decode cX8_cut 27 = .ok (.invokevirtual 136, 3) := by decide +kernel
theorem dX8_cut_30 : decode cX8_cut 30 = .ok (.ifCond .ne 5, 3) := by decide +kernel
theorem dX8_cut_33 : decode cX8_cut 33 = .ok (.iconst (-1), 1) := by decide +kernel
theorem dX8_cut_34 : decode cX8_cut 34 = .ok (.ireturn, 1) := by decide +kernel
theorem dX8_cut_35 : decode cX8_cut 35 = .ok (.aload_n 0, 1) := by decide +kernel
theorem dX8_cut_36 : decode cX8_cut 36 = .ok (.getfield 33, 3) := by decide +kernel
theorem dX8_cut_39 : decode cX8_cut 39 = .ok (.aload_n 2, 1) := by decide +kernel
theorem dX8_cut_40 : decode cX8_cut 40 = .ok (.iload_n 3, 1) := by decide +kernel
theorem dX8_cut_41 : decode cX8_cut 41 = .ok (.invokevirtual 140, 3) := by decide +kernel
theorem dX8_cut_44 : decode cX8_cut 44 = .ok (.aload_n 0, 1) := by decide +kernel
theorem dX8_cut_45 : decode cX8_cut 45 = .ok (.dup, 1) := by decide +kernel
theorem dX8_cut_46 : decode cX8_cut 46 = .ok (.getfield 117, 3) := by decide +kernel
theorem dX8_cut_49 : decode cX8_cut 49 = .ok (.iload_n 3, 1) := by decide +kernel
theorem dX8_cut_50 : decode cX8_cut 50 = .ok (.iadd, 1) := by decide +kernel
theorem dX8_cut_51 : decode cX8_cut 51 = .ok (.putfield 117, 3) := by decide +kernel
theorem dX8_cut_54 : decode cX8_cut 54 = .ok (.aload_n 2, 1) := by decide +kernel
theorem dX8_cut_55 : decode cX8_cut 55 = .ok (.invokevirtual 144, 3) := by decide +kernel
theorem dX8_cut_58 : decode cX8_cut 58 = .ok (.istore 4, 2) := by decide +kernel
theorem dX8_cut_60 : decode cX8_cut 60 = .ok (.aload_n 0, 1) := by decide +kernel
theorem dX8_cut_61 : decode cX8_cut 61 = .ok (.getfield 33, 3) := by decide +kernel
theorem dX8_cut_64 : decode cX8_cut 64 = .ok (.aload_n 2, 1) := by decide +kernel
theorem dX8_cut_65 : decode cX8_cut 65 = .ok (.aload_n 0, 1) := by decide +kernel
theorem dX8_cut_66 : decode cX8_cut 66 = .ok (.getfield 26, 3) := by decide +kernel
theorem dX8_cut_69 : decode cX8_cut 69 = .ok (.getfield 148, 3) := by decide +kernel
theorem dX8_cut_72 : decode cX8_cut 72 = .ok (.iload 4, 2) := by decide +kernel
theorem dX8_cut_74 : decode cX8_cut 74 = .ok (.iaload, 1) := by decide +kernel
theorem dX8_cut_75 : decode cX8_cut 75 = .ok (.invokevirtual 151, 3) := by decide +kernel
theorem dX8_cut_78 : decode cX8_cut 78 = .ok (.iload 4, 2) := by decide +kernel
theorem dX8_cut_80 : decode cX8_cut 80 = .ok (.ireturn, 1) := by decide +kernel
theorem dX8_sell_0 : decode cX8_sell 0 = .ok (.aload_n 0, 1) := by decide +kernel
theorem dX8_sell_1 : decode cX8_sell 1 = .ok (.iload_n 1, 1) := by decide +kernel
theorem dX8_sell_2 : decode cX8_sell 2 = .ok (.invokevirtual 97, 3) := by decide +kernel
theorem dX8_sell_5 : decode cX8_sell 5 = .ok (.astore_n 2, 1) := by decide +kernel
theorem dX8_sell_6 : decode cX8_sell 6 = .ok (.aload_n 2, 1) := by decide +kernel
theorem dX8_sell_7 : decode cX8_sell 7 = .ok (.ifnonnull 5, 3) := by decide +kernel
theorem dX8_sell_10 : decode cX8_sell 10 = .ok (.iconst (-1), 1) := by decide +kernel
theorem dX8_sell_11 : decode cX8_sell 11 = .ok (.ireturn, 1) := by decide +kernel
theorem dX8_sell_12 : decode cX8_sell 12 = .ok (.aload_n 2, 1) := by decide +kernel
theorem dX8_sell_13 : decode cX8_sell 13 = .ok (.invokevirtual 154, 3) := by decide +kernel
theorem dX8_sell_16 : decode cX8_sell 16 = .ok (.aload_n 0, 1) := by decide +kernel
theorem dX8_sell_17 : decode cX8_sell 17 = .ok (.getfield 19, 3) := by decide +kernel
theorem dX8_sell_20 : decode cX8_sell 20 = .ok (.aload_n 2, 1) := by decide +kernel
theorem dX8_sell_21 : decode cX8_sell 21 = .ok (.invokevirtual 157, 3) := by decide +kernel
theorem dX8_sell_24 : decode cX8_sell 24 = .ok (.invokevirtual 160, 3) := by decide +kernel
theorem dX8_sell_27 : decode cX8_sell 27 = .ok (.imul, 1) := by decide +kernel
theorem dX8_sell_28 : decode cX8_sell 28 = .ok (.istore_n 3, 1) := by decide +kernel
theorem dX8_sell_29 : decode cX8_sell 29 = .ok (.aload_n 0, 1) := by decide +kernel
theorem dX8_sell_30 : decode cX8_sell 30 = .ok (.getfield 33, 3) := by decide +kernel
theorem dX8_sell_33 : decode cX8_sell 33 = .ok (.aload_n 2, 1) := by decide +kernel
theorem dX8_sell_34 : decode cX8_sell 34 = .ok (.iload_n 3, 1) := by decide +kernel
theorem dX8_sell_35 : decode cX8_sell 35 = .ok (.invokevirtual 151, 3) := by decide +kernel
theorem dX8_sell_38 : decode cX8_sell 38 = .ok (.aload_n 0, 1) := by decide +kernel
theorem dX8_sell_39 : decode cX8_sell 39 = .ok (.dup, 1) := by decide +kernel
theorem dX8_sell_40 : decode cX8_sell 40 = .ok (.getfield 117, 3) := by decide +kernel
theorem dX8_sell_43 : decode cX8_sell 43 = .ok (.iload_n 3, 1) := by decide +kernel
theorem dX8_sell_44 : decode cX8_sell 44 = .ok (.isub, 1) := by decide +kernel
theorem dX8_sell_45 : decode cX8_sell 45 = .ok (.putfield 117, 3) := by decide +kernel
theorem dX8_sell_48 : decode cX8_sell 48 = .ok (.aload_n 2, 1) := by decide +kernel
theorem dX8_sell_49 : decode cX8_sell 49 = .ok (.iconst 1, 1) := by decide +kernel
theorem dX8_sell_50 : decode cX8_sell 50 = .ok (.putfield 163, 3) := by decide +kernel
theorem dX8_sell_53 : decode cX8_sell 53 = .ok (.iload_n 3, 1) := by decide +kernel
theorem dX8_sell_54 : decode cX8_sell 54 = .ok (.ireturn, 1) := by decide +kernel
theorem dX8_look_0 : decode cX8_look 0 = .ok (.aload_n 0, 1) := by decide +kernel
theorem dX8_look_1 : decode cX8_look 1 = .ok (.iload_n 1, 1) := by decide +kernel
theorem dX8_look_2 : decode cX8_look 2 = .ok (.invokevirtual 167, 3) := by decide +kernel
theorem dX8_look_5 : decode cX8_look 5 = .ok (.astore_n 3, 1) := by decide +kernel
theorem dX8_look_6 : decode cX8_look 6 = .ok (.aload_n 3, 1) := by decide +kernel
theorem dX8_look_7 : decode cX8_look 7 = .ok (.ifnonnull 13, 3) := by decide +kernel
theorem dX8_look_10 : decode cX8_look 10 = .ok (.new 170, 3) := by decide +kernel
theorem dX8_look_13 : decode cX8_look 13 = .ok (.dup, 1) := by decide +kernel
theorem dX8_look_14 : decode cX8_look 14 = .ok (.ldc 172, 2) := by decide +kernel
theorem dX8_look_16 : decode cX8_look 16 = .ok (.invokespecial 174, 3) := by decide +kernel
theorem dX8_look_19 : decode cX8_look 19 = .ok (.athrow, 1) := by decide +kernel
theorem dX8_look_20 : decode cX8_look 20 = .ok (.iload_n 2, 1) := by decide +kernel
theorem dX8_look_21 : decode cX8_look 21 = .ok (.tableswitch 59 0 3 #[31, 36, 41, 54], 31) := by decide +kernel
theorem dX8_look_52 : decode cX8_look 52 = .ok (.aload_n 3, 1) := by decide +kernel
theorem dX8_look_53 : decode cX8_look 53 = .ok (.getfield 177, 3) := by decide +kernel
theorem dX8_look_56 : decode cX8_look 56 = .ok (.ireturn, 1) := by decide +kernel
theorem dX8_look_57 : decode cX8_look 57 = .ok (.aload_n 3, 1) := by decide +kernel
theorem dX8_look_58 : decode cX8_look 58 = .ok (.getfield 180, 3) := by decide +kernel
theorem dX8_look_61 : decode cX8_look 61 = .ok (.ireturn, 1) := by decide +kernel
theorem dX8_look_62 : decode cX8_look 62 = .ok (.aload_n 3, 1) := by decide +kernel
theorem dX8_look_63 : decode cX8_look 63 = .ok (.getfield 163, 3) := by decide +kernel
theorem dX8_look_66 : decode cX8_look 66 = .ok (.ifCond .eq 7, 3) := by decide +kernel
theorem dX8_look_69 : decode cX8_look 69 = .ok (.iconst 1, 1) := by decide +kernel
theorem dX8_look_70 : decode cX8_look 70 = .ok (.goto 4, 3) := by decide +kernel
theorem dX8_look_73 : decode cX8_look 73 = .ok (.iconst 0, 1) := by decide +kernel
theorem dX8_look_74 : decode cX8_look 74 = .ok (.ireturn, 1) := by decide +kernel
theorem dX8_look_75 : decode cX8_look 75 = .ok (.aload_n 3, 1) := by decide +kernel
theorem dX8_look_76 : decode cX8_look 76 = .ok (.getfield 110, 3) := by decide +kernel
theorem dX8_look_79 : decode cX8_look 79 = .ok (.ireturn, 1) := by decide +kernel
theorem dX8_look_80 : decode cX8_look 80 = .ok (.new 183, 3) := by decide +kernel
theorem dX8_look_83 : decode cX8_look 83 = .ok (.dup, 1) := by decide +kernel
theorem dX8_look_84 : decode cX8_look 84 = .ok (.ldc 185, 2) := by decide +kernel
theorem dX8_look_86 : decode cX8_look 86 = .ok (.invokespecial 187, 3) := by decide +kernel
theorem dX8_look_89 : decode cX8_look 89 = .ok (.athrow, 1) := by decide +kernel
theorem dX8_parts_0 : decode cX8_parts 0 = .ok (.aload_n 0, 1) := by decide +kernel
theorem dX8_parts_1 : decode cX8_parts 1 = .ok (.iload_n 1, 1) := by decide +kernel
theorem dX8_parts_2 : decode cX8_parts 2 = .ok (.invokevirtual 167, 3) := by decide +kernel
theorem dX8_parts_5 : decode cX8_parts 5 = .ok (.astore_n 3, 1) := by decide +kernel
theorem dX8_parts_6 : decode cX8_parts 6 = .ok (.aload_n 3, 1) := by decide +kernel
theorem dX8_parts_7 : decode cX8_parts 7 = .ok (.ifnull 14, 3) := by decide +kernel
theorem dX8_parts_10 : decode cX8_parts 10 = .ok (.aload_n 0, 1) := by decide +kernel
theorem dX8_parts_11 : decode cX8_parts 11 = .ok (.getfield 33, 3) := by decide +kernel
theorem dX8_parts_14 : decode cX8_parts 14 = .ok (.iload_n 2, 1) := by decide +kernel
theorem dX8_parts_15 : decode cX8_parts 15 = .ok (.invokevirtual 86, 3) := by decide +kernel
theorem dX8_parts_18 : decode cX8_parts 18 = .ok (.ifCond .ne 5, 3) := by decide +kernel
theorem dX8_parts_21 : decode cX8_parts 21 = .ok (.iconst (-1), 1) := by decide +kernel
theorem dX8_parts_22 : decode cX8_parts 22 = .ok (.ireturn, 1) := by decide +kernel
theorem dX8_parts_23 : decode cX8_parts 23 = .ok (.aload_n 3, 1) := by decide +kernel
theorem dX8_parts_24 : decode cX8_parts 24 = .ok (.getfield 101, 3) := by decide +kernel
theorem dX8_parts_27 : decode cX8_parts 27 = .ok (.iload_n 2, 1) := by decide +kernel
theorem dX8_parts_28 : decode cX8_parts 28 = .ok (.iaload, 1) := by decide +kernel
theorem dX8_parts_29 : decode cX8_parts 29 = .ok (.ireturn, 1) := by decide +kernel
theorem dX8_purse_0 : decode cX8_purse 0 = .ok (.aload_n 0, 1) := by decide +kernel
theorem dX8_purse_1 : decode cX8_purse 1 = .ok (.getfield 33, 3) := by decide +kernel
theorem dX8_purse_4 : decode cX8_purse 4 = .ok (.iload_n 1, 1) := by decide +kernel
theorem dX8_purse_5 : decode cX8_purse 5 = .ok (.invokevirtual 86, 3) := by decide +kernel
theorem dX8_purse_8 : decode cX8_purse 8 = .ok (.ifCond .eq 15, 3) := by decide +kernel
theorem dX8_purse_11 : decode cX8_purse 11 = .ok (.aload_n 0, 1) := by decide +kernel
theorem dX8_purse_12 : decode cX8_purse 12 = .ok (.getfield 33, 3) := by decide +kernel
theorem dX8_purse_15 : decode cX8_purse 15 = .ok (.getfield 188, 3) := by decide +kernel
theorem dX8_purse_18 : decode cX8_purse 18 = .ok (.iload_n 1, 1) := by decide +kernel
theorem dX8_purse_19 : decode cX8_purse 19 = .ok (.iaload, 1) := by decide +kernel
theorem dX8_purse_20 : decode cX8_purse 20 = .ok (.goto 4, 3) := by decide +kernel
theorem dX8_purse_23 : decode cX8_purse 23 = .ok (.iconst (-1), 1) := by decide +kernel
theorem dX8_purse_24 : decode cX8_purse 24 = .ok (.ireturn, 1) := by decide +kernel
theorem dX8_rest_0 : decode cX8_rest 0 = .ok (.aload_n 0, 1) := by decide +kernel
theorem dX8_rest_1 : decode cX8_rest 1 = .ok (.iload_n 1, 1) := by decide +kernel
theorem dX8_rest_2 : decode cX8_rest 2 = .ok (.invokevirtual 97, 3) := by decide +kernel
theorem dX8_rest_5 : decode cX8_rest 5 = .ok (.astore_n 3, 1) := by decide +kernel
theorem dX8_rest_6 : decode cX8_rest 6 = .ok (.aload_n 3, 1) := by decide +kernel
theorem dX8_rest_7 : decode cX8_rest 7 = .ok (.ifnull 23, 3) := by decide +kernel
theorem dX8_rest_10 : decode cX8_rest 10 = .ok (.iload_n 2, 1) := by decide +kernel
theorem dX8_rest_11 : decode cX8_rest 11 = .ok (.ifCond .lt 19, 3) := by decide +kernel
theorem dX8_rest_14 : decode cX8_rest 14 = .ok (.iload_n 2, 1) := by decide +kernel
theorem dX8_rest_15 : decode cX8_rest 15 = .ok (.iconst 1, 1) := by decide +kernel
theorem dX8_rest_16 : decode cX8_rest 16 = .ok (.if_icmp .gt 14, 3) := by decide +kernel
theorem dX8_rest_19 : decode cX8_rest 19 = .ok (.aload_n 0, 1) := by decide +kernel
theorem dX8_rest_20 : decode cX8_rest 20 = .ok (.getfield 26, 3) := by decide +kernel
theorem dX8_rest_23 : decode cX8_rest 23 = .ok (.aload_n 3, 1) := by decide +kernel
theorem dX8_rest_24 : decode cX8_rest 24 = .ok (.invokevirtual 191, 3) := by decide +kernel
theorem dX8_rest_27 : decode cX8_rest 27 = .ok (.ifCond .ne 7, 3) := by decide +kernel
theorem dX8_rest_30 : decode cX8_rest 30 = .ok (.ldc2_w 195, 3) := by decide +kernel
theorem dX8_rest_33 : decode cX8_rest 33 = .ok (.lreturn, 1) := by decide +kernel
theorem dX8_rest_34 : decode cX8_rest 34 = .ok (.aload_n 0, 1) := by decide +kernel
theorem dX8_rest_35 : decode cX8_rest 35 = .ok (.getfield 26, 3) := by decide +kernel
theorem dX8_rest_38 : decode cX8_rest 38 = .ok (.aload_n 3, 1) := by decide +kernel
theorem dX8_rest_39 : decode cX8_rest 39 = .ok (.invokevirtual 154, 3) := by decide +kernel
theorem dX8_rest_42 : decode cX8_rest 42 = .ok (.invokevirtual 197, 3) := by decide +kernel
theorem dX8_rest_45 : decode cX8_rest 45 = .ok (.iload_n 2, 1) := by decide +kernel
theorem dX8_rest_46 : decode cX8_rest 46 = .ok (.ifCond .ne 13, 3) := by decide +kernel
theorem dX8_rest_49 : decode cX8_rest 49 = .ok (.aload_n 0, 1) := by decide +kernel
theorem dX8_rest_50 : decode cX8_rest 50 = .ok (.getfield 26, 3) := by decide +kernel
theorem dX8_rest_53 : decode cX8_rest 53 = .ok (.getfield 200, 3) := by decide +kernel
theorem dX8_rest_56 : decode cX8_rest 56 = .ok (.goto 10, 3) := by decide +kernel
theorem dX8_rest_59 : decode cX8_rest 59 = .ok (.aload_n 0, 1) := by decide +kernel
theorem dX8_rest_60 : decode cX8_rest 60 = .ok (.getfield 26, 3) := by decide +kernel
theorem dX8_rest_63 : decode cX8_rest 63 = .ok (.getfield 204, 3) := by decide +kernel
theorem dX8_rest_66 : decode cX8_rest 66 = .ok (.lreturn, 1) := by decide +kernel
theorem dX8_best_0 : decode cX8_best 0 = .ok (.aload_n 0, 1) := by decide +kernel
theorem dX8_best_1 : decode cX8_best 1 = .ok (.iload_n 1, 1) := by decide +kernel
theorem dX8_best_2 : decode cX8_best 2 = .ok (.invokevirtual 97, 3) := by decide +kernel
theorem dX8_best_5 : decode cX8_best 5 = .ok (.astore_n 3, 1) := by decide +kernel
theorem dX8_best_6 : decode cX8_best 6 = .ok (.aload_n 3, 1) := by decide +kernel
theorem dX8_best_7 : decode cX8_best 7 = .ok (.ifnull 23, 3) := by decide +kernel
theorem dX8_best_10 : decode cX8_best 10 = .ok (.iload_n 2, 1) := by decide +kernel
theorem dX8_best_11 : decode cX8_best 11 = .ok (.ifCond .lt 19, 3) := by decide +kernel
theorem dX8_best_14 : decode cX8_best 14 = .ok (.iload_n 2, 1) := by decide +kernel
theorem dX8_best_15 : decode cX8_best 15 = .ok (.iconst 2, 1) := by decide +kernel
theorem dX8_best_16 : decode cX8_best 16 = .ok (.if_icmp .gt 14, 3) := by decide +kernel
theorem dX8_best_19 : decode cX8_best 19 = .ok (.aload_n 0, 1) := by decide +kernel
theorem dX8_best_20 : decode cX8_best 20 = .ok (.getfield 26, 3) := by decide +kernel
theorem dX8_best_23 : decode cX8_best 23 = .ok (.aload_n 3, 1) := by decide +kernel
theorem dX8_best_24 : decode cX8_best 24 = .ok (.invokevirtual 191, 3) := by decide +kernel
theorem dX8_best_27 : decode cX8_best 27 = .ok (.ifCond .ne 7, 3) := by decide +kernel
theorem dX8_best_30 : decode cX8_best 30 = .ok (.ldc2_w 209, 3) := by decide +kernel
theorem dX8_best_33 : decode cX8_best 33 = .ok (.lreturn, 1) := by decide +kernel
theorem dX8_best_34 : decode cX8_best 34 = .ok (.aload_n 0, 1) := by decide +kernel
theorem dX8_best_35 : decode cX8_best 35 = .ok (.getfield 26, 3) := by decide +kernel
theorem dX8_best_38 : decode cX8_best 38 = .ok (.aload_n 3, 1) := by decide +kernel
theorem dX8_best_39 : decode cX8_best 39 = .ok (.aload_n 0, 1) := by decide +kernel
theorem dX8_best_40 : decode cX8_best 40 = .ok (.getfield 19, 3) := by decide +kernel
theorem dX8_best_43 : decode cX8_best 43 = .ok (.invokevirtual 211, 3) := by decide +kernel
theorem dX8_best_46 : decode cX8_best 46 = .ok (.istore 4, 2) := by decide +kernel
theorem dX8_best_48 : decode cX8_best 48 = .ok (.iload_n 2, 1) := by decide +kernel
theorem dX8_best_49 : decode cX8_best 49 = .ok (.iconst 2, 1) := by decide +kernel
theorem dX8_best_50 : decode cX8_best 50 = .ok (.if_icmp .ne 7, 3) := by decide +kernel
theorem dX8_best_53 : decode cX8_best 53 = .ok (.iload 4, 2) := by decide +kernel
theorem dX8_best_55 : decode cX8_best 55 = .ok (.i2l, 1) := by decide +kernel
theorem dX8_best_56 : decode cX8_best 56 = .ok (.lreturn, 1) := by decide +kernel
theorem dX8_best_57 : decode cX8_best 57 = .ok (.iload_n 2, 1) := by decide +kernel
theorem dX8_best_58 : decode cX8_best 58 = .ok (.ifCond .ne 13, 3) := by decide +kernel
theorem dX8_best_61 : decode cX8_best 61 = .ok (.aload_n 0, 1) := by decide +kernel
theorem dX8_best_62 : decode cX8_best 62 = .ok (.getfield 26, 3) := by decide +kernel
theorem dX8_best_65 : decode cX8_best 65 = .ok (.getfield 200, 3) := by decide +kernel
theorem dX8_best_68 : decode cX8_best 68 = .ok (.goto 10, 3) := by decide +kernel
theorem dX8_best_71 : decode cX8_best 71 = .ok (.aload_n 0, 1) := by decide +kernel
theorem dX8_best_72 : decode cX8_best 72 = .ok (.getfield 26, 3) := by decide +kernel
theorem dX8_best_75 : decode cX8_best 75 = .ok (.getfield 204, 3) := by decide +kernel
theorem dX8_best_78 : decode cX8_best 78 = .ok (.lreturn, 1) := by decide +kernel
theorem dX8_likely_0 : decode cX8_likely 0 = .ok (.aload_n 0, 1) := by decide +kernel
theorem dX8_likely_1 : decode cX8_likely 1 = .ok (.iload_n 1, 1) := by decide +kernel
theorem dX8_likely_2 : decode cX8_likely 2 = .ok (.invokevirtual 97, 3) := by decide +kernel
theorem dX8_likely_5 : decode cX8_likely 5 = .ok (.astore 4, 2) := by decide +kernel
theorem dX8_likely_7 : decode cX8_likely 7 = .ok (.aload 4, 2) := by decide +kernel
theorem dX8_likely_9 : decode cX8_likely 9 = .ok (.ifnull 23, 3) := by decide +kernel
theorem dX8_likely_12 : decode cX8_likely 12 = .ok (.aload_n 0, 1) := by decide +kernel
theorem dX8_likely_13 : decode cX8_likely 13 = .ok (.getfield 26, 3) := by decide +kernel
theorem dX8_likely_16 : decode cX8_likely 16 = .ok (.iload_n 2, 1) := by decide +kernel
theorem dX8_likely_17 : decode cX8_likely 17 = .ok (.invokevirtual 215, 3) := by decide +kernel
theorem dX8_likely_20 : decode cX8_likely 20 = .ok (.ifCond .eq 12, 3) := by decide +kernel
theorem dX8_likely_23 : decode cX8_likely 23 = .ok (.iload_n 3, 1) := by decide +kernel
theorem dX8_likely_24 : decode cX8_likely 24 = .ok (.ifCond .lt 8, 3) := by decide +kernel
theorem dX8_likely_27 : decode cX8_likely 27 = .ok (.iload_n 3, 1) := by decide +kernel
theorem dX8_likely_28 : decode cX8_likely 28 = .ok (.iconst 1, 1) := by decide +kernel
theorem dX8_likely_29 : decode cX8_likely 29 = .ok (.if_icmp .le 7, 3) := by decide +kernel
theorem dX8_likely_32 : decode cX8_likely 32 = .ok (.ldc2_w 195, 3) := by decide +kernel
theorem dX8_likely_35 : decode cX8_likely 35 = .ok (.lreturn, 1) := by decide +kernel
theorem dX8_likely_36 : decode cX8_likely 36 = .ok (.aload_n 0, 1) := by decide +kernel
theorem dX8_likely_37 : decode cX8_likely 37 = .ok (.getfield 26, 3) := by decide +kernel
theorem dX8_likely_40 : decode cX8_likely 40 = .ok (.aload 4, 2) := by decide +kernel
theorem dX8_likely_42 : decode cX8_likely 42 = .ok (.invokevirtual 191, 3) := by decide +kernel
theorem dX8_likely_45 : decode cX8_likely 45 = .ok (.ifCond .ne 7, 3) := by decide +kernel
theorem dX8_likely_48 : decode cX8_likely 48 = .ok (.ldc2_w 195, 3) := by decide +kernel
theorem dX8_likely_51 : decode cX8_likely 51 = .ok (.lreturn, 1) := by decide +kernel
theorem dX8_likely_52 : decode cX8_likely 52 = .ok (.aload_n 0, 1) := by decide +kernel
theorem dX8_likely_53 : decode cX8_likely 53 = .ok (.getfield 26, 3) := by decide +kernel
theorem dX8_likely_56 : decode cX8_likely 56 = .ok (.iload_n 2, 1) := by decide +kernel
theorem dX8_likely_57 : decode cX8_likely 57 = .ok (.invokevirtual 218, 3) := by decide +kernel
theorem dX8_likely_60 : decode cX8_likely 60 = .ok (.iload_n 3, 1) := by decide +kernel
theorem dX8_likely_61 : decode cX8_likely 61 = .ok (.ifCond .ne 13, 3) := by decide +kernel
theorem dX8_likely_64 : decode cX8_likely 64 = .ok (.aload_n 0, 1) := by decide +kernel
theorem dX8_likely_65 : decode cX8_likely 65 = .ok (.getfield 26, 3) := by decide +kernel
theorem dX8_likely_68 : decode cX8_likely 68 = .ok (.getfield 200, 3) := by decide +kernel
theorem dX8_likely_71 : decode cX8_likely 71 = .ok (.goto 10, 3) := by decide +kernel
theorem dX8_likely_74 : decode cX8_likely 74 = .ok (.aload_n 0, 1) := by decide +kernel
theorem dX8_likely_75 : decode cX8_likely 75 = .ok (.getfield 26, 3) := by decide +kernel
theorem dX8_likely_78 : decode cX8_likely 78 = .ok (.getfield 204, 3) := by decide +kernel
theorem dX8_likely_81 : decode cX8_likely 81 = .ok (.lreturn, 1) := by decide +kernel
theorem dX8_count_0 : decode cX8_count 0 = .ok (.iload_n 1, 1) := by decide +kernel
theorem dX8_count_1 : decode cX8_count 1 = .ok (.tableswitch 69 0 4 #[35, 43, 51, 59, 64], 35) := by decide +kernel
theorem dX8_count_36 : decode cX8_count 36 = .ok (.aload_n 0, 1) := by decide +kernel
theorem dX8_count_37 : decode cX8_count 37 = .ok (.getfield 26, 3) := by decide +kernel
theorem dX8_count_40 : decode cX8_count 40 = .ok (.getfield 221, 3) := by decide +kernel
theorem dX8_count_43 : decode cX8_count 43 = .ok (.ireturn, 1) := by decide +kernel
theorem dX8_count_44 : decode cX8_count 44 = .ok (.aload_n 0, 1) := by decide +kernel
theorem dX8_count_45 : decode cX8_count 45 = .ok (.getfield 26, 3) := by decide +kernel
theorem dX8_count_48 : decode cX8_count 48 = .ok (.getfield 224, 3) := by decide +kernel
theorem dX8_count_51 : decode cX8_count 51 = .ok (.ireturn, 1) := by decide +kernel
theorem dX8_count_52 : decode cX8_count 52 = .ok (.aload_n 0, 1) := by decide +kernel
theorem dX8_count_53 : decode cX8_count 53 = .ok (.getfield 33, 3) := by decide +kernel
theorem dX8_count_56 : decode cX8_count 56 = .ok (.getfield 227, 3) := by decide +kernel
theorem dX8_count_59 : decode cX8_count 59 = .ok (.ireturn, 1) := by decide +kernel
theorem dX8_count_60 : decode cX8_count 60 = .ok (.aload_n 0, 1) := by decide +kernel
theorem dX8_count_61 : decode cX8_count 61 = .ok (.getfield 83, 3) := by decide +kernel
theorem dX8_count_64 : decode cX8_count 64 = .ok (.ireturn, 1) := by decide +kernel
theorem dX8_count_65 : decode cX8_count 65 = .ok (.aload_n 0, 1) := by decide +kernel
theorem dX8_count_66 : decode cX8_count 66 = .ok (.getfield 117, 3) := by decide +kernel
theorem dX8_count_69 : decode cX8_count 69 = .ok (.ireturn, 1) := by decide +kernel
theorem dX8_count_70 : decode cX8_count 70 = .ok (.ldc 228, 2) := by decide +kernel
theorem dX8_count_72 : decode cX8_count 72 = .ok (.ireturn, 1) := by decide +kernel
theorem dX8_known_0 : decode cX8_known 0 = .ok (.iload_n 1, 1) := by decide +kernel
theorem dX8_known_1 : decode cX8_known 1 = .ok (.ifCond .lt 20, 3) := by decide +kernel
theorem dX8_known_4 : decode cX8_known 4 = .ok (.iload_n 1, 1) := by decide +kernel
theorem dX8_known_5 : decode cX8_known 5 = .ok (.aload_n 0, 1) := by decide +kernel
theorem dX8_known_6 : decode cX8_known 6 = .ok (.getfield 83, 3) := by decide +kernel
theorem dX8_known_9 : decode cX8_known 9 = .ok (.if_icmp .ge 12, 3) := by decide +kernel
theorem dX8_known_12 : decode cX8_known 12 = .ok (.aload_n 0, 1) := by decide +kernel
theorem dX8_known_13 : decode cX8_known 13 = .ok (.getfield 39, 3) := by decide +kernel
theorem dX8_known_16 : decode cX8_known 16 = .ok (.iload_n 1, 1) := by decide +kernel
theorem dX8_known_17 : decode cX8_known 17 = .ok (.aaload, 1) := by decide +kernel
theorem dX8_known_18 : decode cX8_known 18 = .ok (.goto 4, 3) := by decide +kernel
theorem dX8_known_21 : decode cX8_known 21 = .ok (.aconst_null, 1) := by decide +kernel
theorem dX8_known_22 : decode cX8_known 22 = .ok (.areturn, 1) := by decide +kernel
theorem dX8_unspent_0 : decode cX8_unspent 0 = .ok (.aload_n 0, 1) := by decide +kernel
theorem dX8_unspent_1 : decode cX8_unspent 1 = .ok (.iload_n 1, 1) := by decide +kernel
theorem dX8_unspent_2 : decode cX8_unspent 2 = .ok (.invokevirtual 167, 3) := by decide +kernel
theorem dX8_unspent_5 : decode cX8_unspent 5 = .ok (.astore_n 2, 1) := by decide +kernel
theorem dX8_unspent_6 : decode cX8_unspent 6 = .ok (.aload_n 2, 1) := by decide +kernel
theorem dX8_unspent_7 : decode cX8_unspent 7 = .ok (.ifnull 10, 3) := by decide +kernel
theorem dX8_unspent_10 : decode cX8_unspent 10 = .ok (.aload_n 2, 1) := by decide +kernel
theorem dX8_unspent_11 : decode cX8_unspent 11 = .ok (.getfield 163, 3) := by decide +kernel
theorem dX8_unspent_14 : decode cX8_unspent 14 = .ok (.ifCond .eq 7, 3) := by decide +kernel
theorem dX8_unspent_17 : decode cX8_unspent 17 = .ok (.aconst_null, 1) := by decide +kernel
theorem dX8_unspent_18 : decode cX8_unspent 18 = .ok (.goto 4, 3) := by decide +kernel
theorem dX8_unspent_21 : decode cX8_unspent 21 = .ok (.aload_n 2, 1) := by decide +kernel
theorem dX8_unspent_22 : decode cX8_unspent 22 = .ok (.areturn, 1) := by decide +kernel
theorem dJ9_max_7cf53_0 : decode cJ9_max_7cf53 0 = .ok (.iload_n 0, 1) := by decide +kernel
theorem dJ9_max_7cf53_1 : decode cJ9_max_7cf53 1 = .ok (.iload_n 1, 1) := by decide +kernel
theorem dJ9_max_7cf53_2 : decode cJ9_max_7cf53 2 = .ok (.if_icmp .lt 7, 3) := by decide +kernel
theorem dJ9_max_7cf53_5 : decode cJ9_max_7cf53 5 = .ok (.iload_n 0, 1) := by decide +kernel
theorem dJ9_max_7cf53_6 : decode cJ9_max_7cf53 6 = .ok (.goto 4, 3) := by decide +kernel
theorem dJ9_max_7cf53_9 : decode cJ9_max_7cf53 9 = .ok (.iload_n 1, 1) := by decide +kernel
theorem dJ9_max_7cf53_10 : decode cJ9_max_7cf53 10 = .ok (.ireturn, 1) := by decide +kernel
theorem dJ9_max_f86c9_0 : decode cJ9_max_f86c9 0 = .ok (.lload_n 0, 1) := by decide +kernel
theorem dJ9_max_f86c9_1 : decode cJ9_max_f86c9 1 = .ok (.lload_n 2, 1) := by decide +kernel
theorem dJ9_max_f86c9_2 : decode cJ9_max_f86c9 2 = .ok (.lcmp, 1) := by decide +kernel
theorem dJ9_max_f86c9_3 : decode cJ9_max_f86c9 3 = .ok (.ifCond .lt 7, 3) := by decide +kernel
theorem dJ9_max_f86c9_6 : decode cJ9_max_f86c9 6 = .ok (.lload_n 0, 1) := by decide +kernel
theorem dJ9_max_f86c9_7 : decode cJ9_max_f86c9 7 = .ok (.goto 4, 3) := by decide +kernel
theorem dJ9_max_f86c9_10 : decode cJ9_max_f86c9 10 = .ok (.lload_n 2, 1) := by decide +kernel
theorem dJ9_max_f86c9_11 : decode cJ9_max_f86c9 11 = .ok (.lreturn, 1) := by decide +kernel
theorem dJ9_min_7cf53_0 : decode cJ9_min_7cf53 0 = .ok (.iload_n 0, 1) := by decide +kernel
theorem dJ9_min_7cf53_1 : decode cJ9_min_7cf53 1 = .ok (.iload_n 1, 1) := by decide +kernel
theorem dJ9_min_7cf53_2 : decode cJ9_min_7cf53 2 = .ok (.if_icmp .gt 7, 3) := by decide +kernel
theorem dJ9_min_7cf53_5 : decode cJ9_min_7cf53 5 = .ok (.iload_n 0, 1) := by decide +kernel
theorem dJ9_min_7cf53_6 : decode cJ9_min_7cf53 6 = .ok (.goto 4, 3) := by decide +kernel
theorem dJ9_min_7cf53_9 : decode cJ9_min_7cf53 9 = .ok (.iload_n 1, 1) := by decide +kernel
theorem dJ9_min_7cf53_10 : decode cJ9_min_7cf53 10 = .ok (.ireturn, 1) := by decide +kernel
theorem dJ0_length_8abf5_0 : decode cJ0_length_8abf5 0 = .ok (.aload_n 0, 1) := by decide +kernel
theorem dJ0_length_8abf5_1 : decode cJ0_length_8abf5 1 = .ok (.getfield 9, 3) := by decide +kernel
theorem dJ0_length_8abf5_4 : decode cJ0_length_8abf5 4 = .ok (.arraylength, 1) := by decide +kernel
theorem dJ0_length_8abf5_5 : decode cJ0_length_8abf5 5 = .ok (.aload_n 0, 1) := by decide +kernel
theorem dJ0_length_8abf5_6 : decode cJ0_length_8abf5 6 = .ok (.invokevirtual 335, 3) := by decide +kernel
theorem dJ0_length_8abf5_9 : decode cJ0_length_8abf5 9 = .ok (.ishr, 1) := by decide +kernel
theorem dJ0_length_8abf5_10 : decode cJ0_length_8abf5 10 = .ok (.ireturn, 1) := by decide +kernel
theorem dJ0_isEmpty_aae02_0 : decode cJ0_isEmpty_aae02 0 = .ok (.aload_n 0, 1) := by decide +kernel
theorem dJ0_isEmpty_aae02_1 : decode cJ0_isEmpty_aae02 1 = .ok (.getfield 9, 3) := by decide +kernel
theorem dJ0_isEmpty_aae02_4 : decode cJ0_isEmpty_aae02 4 = .ok (.arraylength, 1) := by decide +kernel
theorem dJ0_isEmpty_aae02_5 : decode cJ0_isEmpty_aae02 5 = .ok (.ifCond .ne 7, 3) := by decide +kernel
theorem dJ0_isEmpty_aae02_8 : decode cJ0_isEmpty_aae02 8 = .ok (.iconst 1, 1) := by decide +kernel
theorem dJ0_isEmpty_aae02_9 : decode cJ0_isEmpty_aae02 9 = .ok (.goto 4, 3) := by decide +kernel
theorem dJ0_isEmpty_aae02_12 : decode cJ0_isEmpty_aae02 12 = .ok (.iconst 0, 1) := by decide +kernel
theorem dJ0_isEmpty_aae02_13 : decode cJ0_isEmpty_aae02 13 = .ok (.ireturn, 1) := by decide +kernel
theorem dJ0_charAt_5068e_0 : decode cJ0_charAt_5068e 0 = .ok (.aload_n 0, 1) := by decide +kernel
theorem dJ0_charAt_5068e_1 : decode cJ0_charAt_5068e 1 = .ok (.invokevirtual 492, 3) := by decide +kernel
theorem dJ0_charAt_5068e_4 : decode cJ0_charAt_5068e 4 = .ok (.ifCond .eq 12, 3) := by decide +kernel
theorem dJ0_charAt_5068e_7 : decode cJ0_charAt_5068e 7 = .ok (.aload_n 0, 1) := by decide +kernel
theorem dJ0_charAt_5068e_8 : decode cJ0_charAt_5068e 8 = .ok (.getfield 9, 3) := by decide +kernel
theorem dJ0_charAt_5068e_11 : decode cJ0_charAt_5068e 11 = .ok (.iload_n 1, 1) := by decide +kernel
theorem dJ0_charAt_5068e_12 : decode cJ0_charAt_5068e 12 = .ok (.invokestatic 495, 3) := by decide +kernel
theorem dJ0_charAt_5068e_15 : decode cJ0_charAt_5068e 15 = .ok (.ireturn, 1) := by decide +kernel
theorem dJ0_charAt_5068e_16 : decode cJ0_charAt_5068e 16 = .ok (.aload_n 0, 1) := by decide +kernel
theorem dJ0_charAt_5068e_17 : decode cJ0_charAt_5068e 17 = .ok (.getfield 9, 3) := by decide +kernel
theorem dJ0_charAt_5068e_20 : decode cJ0_charAt_5068e 20 = .ok (.iload_n 1, 1) := by decide +kernel
theorem dJ0_charAt_5068e_21 : decode cJ0_charAt_5068e 21 = .ok (.invokestatic 498, 3) := by decide +kernel
theorem dJ0_charAt_5068e_24 : decode cJ0_charAt_5068e 24 = .ok (.ireturn, 1) := by decide +kernel
theorem dJ0_coder_7d493_0 : decode cJ0_coder_7d493 0 = .ok (.getstatic 38, 3) := by decide +kernel
theorem dJ0_coder_7d493_3 : decode cJ0_coder_7d493 3 = .ok (.ifCond .eq 10, 3) := by decide +kernel
theorem dJ0_coder_7d493_6 : decode cJ0_coder_7d493 6 = .ok (.aload_n 0, 1) := by decide +kernel
theorem dJ0_coder_7d493_7 : decode cJ0_coder_7d493 7 = .ok (.getfield 15, 3) := by decide +kernel
theorem dJ0_coder_7d493_10 : decode cJ0_coder_7d493 10 = .ok (.goto 4, 3) := by decide +kernel
theorem dJ0_coder_7d493_13 : decode cJ0_coder_7d493 13 = .ok (.iconst 1, 1) := by decide +kernel
theorem dJ0_coder_7d493_14 : decode cJ0_coder_7d493 14 = .ok (.ireturn, 1) := by decide +kernel
theorem dJ0_isLatin1_aae02_0 : decode cJ0_isLatin1_aae02 0 = .ok (.getstatic 38, 3) := by decide +kernel
theorem dJ0_isLatin1_aae02_3 : decode cJ0_isLatin1_aae02 3 = .ok (.ifCond .eq 14, 3) := by decide +kernel
theorem dJ0_isLatin1_aae02_6 : decode cJ0_isLatin1_aae02 6 = .ok (.aload_n 0, 1) := by decide +kernel
theorem dJ0_isLatin1_aae02_7 : decode cJ0_isLatin1_aae02 7 = .ok (.getfield 15, 3) := by decide +kernel
theorem dJ0_isLatin1_aae02_10 : decode cJ0_isLatin1_aae02 10 = .ok (.ifCond .ne 7, 3) := by decide +kernel
theorem dJ0_isLatin1_aae02_13 : decode cJ0_isLatin1_aae02 13 = .ok (.iconst 1, 1) := by decide +kernel
theorem dJ0_isLatin1_aae02_14 : decode cJ0_isLatin1_aae02 14 = .ok (.goto 4, 3) := by decide +kernel
theorem dJ0_isLatin1_aae02_17 : decode cJ0_isLatin1_aae02 17 = .ok (.iconst 0, 1) := by decide +kernel
theorem dJ0_isLatin1_aae02_18 : decode cJ0_isLatin1_aae02 18 = .ok (.ireturn, 1) := by decide +kernel
theorem dJ0_checkIndex_df160_0 : decode cJ0_checkIndex_df160 0 = .ok (.iload_n 0, 1) := by decide +kernel
theorem dJ0_checkIndex_df160_1 : decode cJ0_checkIndex_df160 1 = .ok (.iload_n 1, 1) := by decide +kernel
theorem dJ0_checkIndex_df160_2 : decode cJ0_checkIndex_df160 2 = .ok (.getstatic 1053, 3) := by decide +kernel
theorem dJ0_checkIndex_df160_5 : decode cJ0_checkIndex_df160 5 = .ok (.invokestatic 1059, 3) := by decide +kernel
theorem dJ0_checkIndex_df160_8 : decode cJ0_checkIndex_df160 8 = .ok (.pop, 1) := by decide +kernel
theorem dJ0_checkIndex_df160_9 : decode cJ0_checkIndex_df160 9 = .ok (.return_, 1) := by decide +kernel
theorem dJ1_charAt_3b067_0 : decode cJ1_charAt_3b067 0 = .ok (.iload_n 1, 1) := by decide +kernel
theorem dJ1_charAt_3b067_1 : decode cJ1_charAt_3b067 1 = .ok (.aload_n 0, 1) := by decide +kernel
theorem dJ1_charAt_3b067_2 : decode cJ1_charAt_3b067 2 = .ok (.arraylength, 1) := by decide +kernel
theorem dJ1_charAt_3b067_3 : decode cJ1_charAt_3b067 3 = .ok (.invokestatic 9, 3) := by decide +kernel
theorem dJ1_charAt_3b067_6 : decode cJ1_charAt_3b067 6 = .ok (.aload_n 0, 1) := by decide +kernel
theorem dJ1_charAt_3b067_7 : decode cJ1_charAt_3b067 7 = .ok (.iload_n 1, 1) := by decide +kernel
theorem dJ1_charAt_3b067_8 : decode cJ1_charAt_3b067 8 = .ok (.baload, 1) := by decide +kernel
theorem dJ1_charAt_3b067_9 : decode cJ1_charAt_3b067 9 = .ok (.sipush 255, 3) := by decide +kernel
theorem dJ1_charAt_3b067_12 : decode cJ1_charAt_3b067 12 = .ok (.iand, 1) := by decide +kernel
theorem dJ1_charAt_3b067_13 : decode cJ1_charAt_3b067 13 = .ok (.i2c, 1) := by decide +kernel
theorem dJ1_charAt_3b067_14 : decode cJ1_charAt_3b067 14 = .ok (.ireturn, 1) := by decide +kernel
theorem dJ2_getChar_3b067_0 : decode cJ2_getChar_3b067 0 = .ok (.getstatic 44, 3) := by decide +kernel
theorem dJ2_getChar_3b067_3 : decode cJ2_getChar_3b067 3 = .ok (.ifCond .ne 25, 3) := by decide +kernel
theorem dJ2_getChar_3b067_6 : decode cJ2_getChar_3b067 6 = .ok (.iload_n 1, 1) := by decide +kernel
theorem dJ2_getChar_3b067_7 : decode cJ2_getChar_3b067 7 = .ok (.ifCond .lt 11, 3) := by decide +kernel
theorem dJ2_getChar_3b067_10 : decode cJ2_getChar_3b067 10 = .ok (.iload_n 1, 1) := by decide +kernel
theorem dJ2_getChar_3b067_11 : decode cJ2_getChar_3b067 11 = .ok (.aload_n 0, 1) := by decide +kernel
theorem dJ2_getChar_3b067_12 : decode cJ2_getChar_3b067 12 = .ok (.invokestatic 48, 3) := by decide +kernel
theorem dJ2_getChar_3b067_15 : decode cJ2_getChar_3b067 15 = .ok (.if_icmp .lt 13, 3) := by decide +kernel
theorem dJ2_getChar_3b067_18 : decode cJ2_getChar_3b067 18 = .ok (.new 52, 3) := by decide +kernel
theorem dJ2_getChar_3b067_21 : decode cJ2_getChar_3b067 21 = .ok (.dup, 1) := by decide +kernel
theorem dJ2_getChar_3b067_22 : decode cJ2_getChar_3b067 22 = .ok (.ldc 54, 2) := by decide +kernel
theorem dJ2_getChar_3b067_24 : decode cJ2_getChar_3b067 24 = .ok (.invokespecial 56, 3) := by decide +kernel
theorem dJ2_getChar_3b067_27 : decode cJ2_getChar_3b067 27 = .ok (.athrow, 1) := by decide +kernel
theorem dJ2_getChar_3b067_28 : decode cJ2_getChar_3b067 28 = .ok (.iload_n 1, 1) := by decide +kernel
theorem dJ2_getChar_3b067_29 : decode cJ2_getChar_3b067 29 = .ok (.iconst 1, 1) := by decide +kernel
theorem dJ2_getChar_3b067_30 : decode cJ2_getChar_3b067 30 = .ok (.ishl, 1) := by decide +kernel
theorem dJ2_getChar_3b067_31 : decode cJ2_getChar_3b067 31 = .ok (.istore_n 1, 1) := by decide +kernel
theorem dJ2_getChar_3b067_32 : decode cJ2_getChar_3b067 32 = .ok (.aload_n 0, 1) := by decide +kernel
theorem dJ2_getChar_3b067_33 : decode cJ2_getChar_3b067 33 = .ok (.iload_n 1, 1) := by decide +kernel
theorem dJ2_getChar_3b067_34 : decode cJ2_getChar_3b067 34 = .ok (.iinc 1 1, 3) := by decide +kernel
theorem dJ2_getChar_3b067_37 : decode cJ2_getChar_3b067 37 = .ok (.baload, 1) := by decide +kernel
theorem dJ2_getChar_3b067_38 : decode cJ2_getChar_3b067 38 = .ok (.sipush 255, 3) := by decide +kernel
theorem dJ2_getChar_3b067_41 : decode cJ2_getChar_3b067 41 = .ok (.iand, 1) := by decide +kernel
theorem dJ2_getChar_3b067_42 : decode cJ2_getChar_3b067 42 = .ok (.getstatic 59, 3) := by decide +kernel
theorem dJ2_getChar_3b067_45 : decode cJ2_getChar_3b067 45 = .ok (.ishl, 1) := by decide +kernel
theorem dJ2_getChar_3b067_46 : decode cJ2_getChar_3b067 46 = .ok (.aload_n 0, 1) := by decide +kernel
theorem dJ2_getChar_3b067_47 : decode cJ2_getChar_3b067 47 = .ok (.iload_n 1, 1) := by decide +kernel
theorem dJ2_getChar_3b067_48 : decode cJ2_getChar_3b067 48 = .ok (.baload, 1) := by decide +kernel
theorem dJ2_getChar_3b067_49 : decode cJ2_getChar_3b067 49 = .ok (.sipush 255, 3) := by decide +kernel
theorem dJ2_getChar_3b067_52 : decode cJ2_getChar_3b067 52 = .ok (.iand, 1) := by decide +kernel
theorem dJ2_getChar_3b067_53 : decode cJ2_getChar_3b067 53 = .ok (.getstatic 63, 3) := by decide +kernel
theorem dJ2_getChar_3b067_56 : decode cJ2_getChar_3b067 56 = .ok (.ishl, 1) := by decide +kernel
theorem dJ2_getChar_3b067_57 : decode cJ2_getChar_3b067 57 = .ok (.ior, 1) := by decide +kernel
theorem dJ2_getChar_3b067_58 : decode cJ2_getChar_3b067 58 = .ok (.i2c, 1) := by decide +kernel
theorem dJ2_getChar_3b067_59 : decode cJ2_getChar_3b067 59 = .ok (.ireturn, 1) := by decide +kernel
theorem dJ2_length_9d52b_0 : decode cJ2_length_9d52b 0 = .ok (.aload_n 0, 1) := by decide +kernel
theorem dJ2_length_9d52b_1 : decode cJ2_length_9d52b 1 = .ok (.arraylength, 1) := by decide +kernel
theorem dJ2_length_9d52b_2 : decode cJ2_length_9d52b 2 = .ok (.iconst 1, 1) := by decide +kernel
theorem dJ2_length_9d52b_3 : decode cJ2_length_9d52b 3 = .ok (.ishr, 1) := by decide +kernel
theorem dJ2_length_9d52b_4 : decode cJ2_length_9d52b 4 = .ok (.ireturn, 1) := by decide +kernel
theorem dJ2_charAt_3b067_0 : decode cJ2_charAt_3b067 0 = .ok (.iload_n 1, 1) := by decide +kernel
theorem dJ2_charAt_3b067_1 : decode cJ2_charAt_3b067 1 = .ok (.aload_n 0, 1) := by decide +kernel
theorem dJ2_charAt_3b067_2 : decode cJ2_charAt_3b067 2 = .ok (.invokestatic 67, 3) := by decide +kernel
theorem dJ2_charAt_3b067_5 : decode cJ2_charAt_3b067 5 = .ok (.aload_n 0, 1) := by decide +kernel
theorem dJ2_charAt_3b067_6 : decode cJ2_charAt_3b067 6 = .ok (.iload_n 1, 1) := by decide +kernel
theorem dJ2_charAt_3b067_7 : decode cJ2_charAt_3b067 7 = .ok (.invokestatic 71, 3) := by decide +kernel
theorem dJ2_charAt_3b067_10 : decode cJ2_charAt_3b067 10 = .ok (.ireturn, 1) := by decide +kernel
theorem dJ2_checkIndex_2214a_0 : decode cJ2_checkIndex_2214a 0 = .ok (.iload_n 0, 1) := by decide +kernel
theorem dJ2_checkIndex_2214a_1 : decode cJ2_checkIndex_2214a 1 = .ok (.aload_n 1, 1) := by decide +kernel
theorem dJ2_checkIndex_2214a_2 : decode cJ2_checkIndex_2214a 2 = .ok (.invokestatic 48, 3) := by decide +kernel
theorem dJ2_checkIndex_2214a_5 : decode cJ2_checkIndex_2214a 5 = .ok (.invokestatic 414, 3) := by decide +kernel
theorem dJ2_checkIndex_2214a_8 : decode cJ2_checkIndex_2214a 8 = .ok (.return_, 1) := by decide +kernel
theorem dJ7_fill_d0a16_0 : decode cJ7_fill_d0a16 0 = .ok (.iconst 0, 1) := by decide +kernel
theorem dJ7_fill_d0a16_1 : decode cJ7_fill_d0a16 1 = .ok (.istore_n 3, 1) := by decide +kernel
theorem dJ7_fill_d0a16_2 : decode cJ7_fill_d0a16 2 = .ok (.aload_n 0, 1) := by decide +kernel
theorem dJ7_fill_d0a16_3 : decode cJ7_fill_d0a16 3 = .ok (.arraylength, 1) := by decide +kernel
theorem dJ7_fill_d0a16_4 : decode cJ7_fill_d0a16 4 = .ok (.istore 4, 2) := by decide +kernel
theorem dJ7_fill_d0a16_6 : decode cJ7_fill_d0a16 6 = .ok (.iload_n 3, 1) := by decide +kernel
theorem dJ7_fill_d0a16_7 : decode cJ7_fill_d0a16 7 = .ok (.iload 4, 2) := by decide +kernel
theorem dJ7_fill_d0a16_9 : decode cJ7_fill_d0a16 9 = .ok (.if_icmp .ge 13, 3) := by decide +kernel
theorem dJ7_fill_d0a16_12 : decode cJ7_fill_d0a16 12 = .ok (.aload_n 0, 1) := by decide +kernel
theorem dJ7_fill_d0a16_13 : decode cJ7_fill_d0a16 13 = .ok (.iload_n 3, 1) := by decide +kernel
theorem dJ7_fill_d0a16_14 : decode cJ7_fill_d0a16 14 = .ok (.lload_n 1, 1) := by decide +kernel
theorem dJ7_fill_d0a16_15 : decode cJ7_fill_d0a16 15 = .ok (.lastore, 1) := by decide +kernel
theorem dJ7_fill_d0a16_16 : decode cJ7_fill_d0a16 16 = .ok (.iinc 3 1, 3) := by decide +kernel
theorem dJ7_fill_d0a16_19 : decode cJ7_fill_d0a16 19 = .ok (.goto (-13), 3) := by decide +kernel
theorem dJ7_fill_d0a16_22 : decode cJ7_fill_d0a16 22 = .ok (.return_, 1) := by decide +kernel
theorem dJ7_fill_53178_0 : decode cJ7_fill_53178 0 = .ok (.iconst 0, 1) := by decide +kernel
theorem dJ7_fill_53178_1 : decode cJ7_fill_53178 1 = .ok (.istore_n 2, 1) := by decide +kernel
theorem dJ7_fill_53178_2 : decode cJ7_fill_53178 2 = .ok (.aload_n 0, 1) := by decide +kernel
theorem dJ7_fill_53178_3 : decode cJ7_fill_53178 3 = .ok (.arraylength, 1) := by decide +kernel
theorem dJ7_fill_53178_4 : decode cJ7_fill_53178 4 = .ok (.istore_n 3, 1) := by decide +kernel
theorem dJ7_fill_53178_5 : decode cJ7_fill_53178 5 = .ok (.iload_n 2, 1) := by decide +kernel
theorem dJ7_fill_53178_6 : decode cJ7_fill_53178 6 = .ok (.iload_n 3, 1) := by decide +kernel
theorem dJ7_fill_53178_7 : decode cJ7_fill_53178 7 = .ok (.if_icmp .ge 13, 3) := by decide +kernel
theorem dJ7_fill_53178_10 : decode cJ7_fill_53178 10 = .ok (.aload_n 0, 1) := by decide +kernel
theorem dJ7_fill_53178_11 : decode cJ7_fill_53178 11 = .ok (.iload_n 2, 1) := by decide +kernel
theorem dJ7_fill_53178_12 : decode cJ7_fill_53178 12 = .ok (.iload_n 1, 1) := by decide +kernel
theorem dJ7_fill_53178_13 : decode cJ7_fill_53178 13 = .ok (.iastore, 1) := by decide +kernel
theorem dJ7_fill_53178_14 : decode cJ7_fill_53178 14 = .ok (.iinc 2 1, 3) := by decide +kernel
theorem dJ7_fill_53178_17 : decode cJ7_fill_53178 17 = .ok (.goto (-12), 3) := by decide +kernel
theorem dJ7_fill_53178_20 : decode cJ7_fill_53178 20 = .ok (.return_, 1) := by decide +kernel
theorem dJ3_checkIndex_8e157_0 : decode cJ3_checkIndex_8e157 0 = .ok (.iload_n 0, 1) := by decide +kernel
theorem dJ3_checkIndex_8e157_1 : decode cJ3_checkIndex_8e157 1 = .ok (.ifCond .lt 8, 3) := by decide +kernel
theorem dJ3_checkIndex_8e157_4 : decode cJ3_checkIndex_8e157 4 = .ok (.iload_n 0, 1) := by decide +kernel
theorem dJ3_checkIndex_8e157_5 : decode cJ3_checkIndex_8e157 5 = .ok (.iload_n 1, 1) := by decide +kernel
theorem dJ3_checkIndex_8e157_6 : decode cJ3_checkIndex_8e157 6 = .ok (.if_icmp .lt 10, 3) := by decide +kernel
theorem dJ3_checkIndex_8e157_9 : decode cJ3_checkIndex_8e157 9 = .ok (.aload_n 2, 1) := by decide +kernel
theorem dJ3_checkIndex_8e157_10 : decode cJ3_checkIndex_8e157 10 = .ok (.iload_n 0, 1) := by decide +kernel
theorem dJ3_checkIndex_8e157_11 : decode cJ3_checkIndex_8e157 11 = .ok (.iload_n 1, 1) := by decide +kernel
theorem dJ3_checkIndex_8e157_12 : decode cJ3_checkIndex_8e157 12 = .ok (.invokestatic 95, 3) := by decide +kernel
theorem dJ3_checkIndex_8e157_15 : decode cJ3_checkIndex_8e157 15 = .ok (.athrow, 1) := by decide +kernel
theorem dJ3_checkIndex_8e157_16 : decode cJ3_checkIndex_8e157 16 = .ok (.iload_n 0, 1) := by decide +kernel
theorem dJ3_checkIndex_8e157_17 : decode cJ3_checkIndex_8e157 17 = .ok (.ireturn, 1) := by decide +kernel
