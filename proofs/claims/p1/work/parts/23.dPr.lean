theorem d_Fr_init_0 : decode b_Fr_init 0 = .ok (.aload_n 0, 1) := by decide +kernel
theorem d_Fr_init_1 : decode b_Fr_init 1 = .ok (.invokespecial 3, 3) := by decide +kernel
theorem d_Fr_init_4 : decode b_Fr_init 4 = .ok (.aload_n 0, 1) := by decide +kernel
theorem d_Fr_init_5 : decode b_Fr_init 5 = .ok (.new 9, 3) := by decide +kernel
theorem d_Fr_init_8 : decode b_Fr_init 8 = .ok (.dup, 1) := by decide +kernel
theorem d_Fr_init_9 : decode b_Fr_init 9 = .ok (.invokespecial 11, 3) := by decide +kernel
theorem d_Fr_init_12 : decode b_Fr_init 12 = .ok (.putfield 12, 3) := by decide +kernel
theorem d_Fr_init_15 : decode b_Fr_init 15 = .ok (.aload_n 0, 1) := by decide +kernel
theorem d_Fr_init_16 : decode b_Fr_init 16 = .ok (.bipush (8), 2) := by decide +kernel
theorem d_Fr_init_18 : decode b_Fr_init 18 = .ok (.newarray .boolean, 2) := by decide +kernel
theorem d_Fr_init_20 : decode b_Fr_init 20 = .ok (.putfield 18, 3) := by decide +kernel
theorem d_Fr_init_23 : decode b_Fr_init 23 = .ok (.aload_n 0, 1) := by decide +kernel
theorem d_Fr_init_24 : decode b_Fr_init 24 = .ok (.new 22, 3) := by decide +kernel
theorem d_Fr_init_27 : decode b_Fr_init 27 = .ok (.dup, 1) := by decide +kernel
theorem d_Fr_init_28 : decode b_Fr_init 28 = .ok (.invokespecial 24, 3) := by decide +kernel
theorem d_Fr_init_31 : decode b_Fr_init 31 = .ok (.putfield 25, 3) := by decide +kernel
theorem d_Fr_init_34 : decode b_Fr_init 34 = .ok (.aload_n 0, 1) := by decide +kernel
theorem d_Fr_init_35 : decode b_Fr_init 35 = .ok (.new 22, 3) := by decide +kernel
theorem d_Fr_init_38 : decode b_Fr_init 38 = .ok (.dup, 1) := by decide +kernel
theorem d_Fr_init_39 : decode b_Fr_init 39 = .ok (.invokespecial 24, 3) := by decide +kernel
theorem d_Fr_init_42 : decode b_Fr_init 42 = .ok (.putfield 29, 3) := by decide +kernel
theorem d_Fr_init_45 : decode b_Fr_init 45 = .ok (.aload_n 0, 1) := by decide +kernel
theorem d_Fr_init_46 : decode b_Fr_init 46 = .ok (.iconst (0), 1) := by decide +kernel
theorem d_Fr_init_47 : decode b_Fr_init 47 = .ok (.putfield 32, 3) := by decide +kernel
theorem d_Fr_init_50 : decode b_Fr_init 50 = .ok (.return_, 1) := by decide +kernel
theorem d_Fr_follow_0 : decode b_Fr_follow 0 = .ok (.aload_n 0, 1) := by decide +kernel
theorem d_Fr_follow_1 : decode b_Fr_follow 1 = .ok (.getfield 25, 3) := by decide +kernel
theorem d_Fr_follow_4 : decode b_Fr_follow 4 = .ok (.aload_n 1, 1) := by decide +kernel
theorem d_Fr_follow_5 : decode b_Fr_follow 5 = .ok (.invokevirtual 36, 3) := by decide +kernel
theorem d_Fr_follow_8 : decode b_Fr_follow 8 = .ok (.aload_n 0, 1) := by decide +kernel
theorem d_Fr_follow_9 : decode b_Fr_follow 9 = .ok (.aload_n 0, 1) := by decide +kernel
theorem d_Fr_follow_10 : decode b_Fr_follow 10 = .ok (.getfield 25, 3) := by decide +kernel
theorem d_Fr_follow_13 : decode b_Fr_follow 13 = .ok (.iload_n 2, 1) := by decide +kernel
theorem d_Fr_follow_14 : decode b_Fr_follow 14 = .ok (.aload_n 3, 1) := by decide +kernel
theorem d_Fr_follow_15 : decode b_Fr_follow 15 = .ok (.aload 4, 2) := by decide +kernel
theorem d_Fr_follow_17 : decode b_Fr_follow 17 = .ok (.aload_n 0, 1) := by decide +kernel
theorem d_Fr_follow_18 : decode b_Fr_follow 18 = .ok (.getfield 25, 3) := by decide +kernel
theorem d_Fr_follow_21 : decode b_Fr_follow 21 = .ok (.getfield 40, 3) := by decide +kernel
theorem d_Fr_follow_24 : decode b_Fr_follow 24 = .ok (.aaload, 1) := by decide +kernel
theorem d_Fr_follow_25 : decode b_Fr_follow 25 = .ok (.aload 5, 2) := by decide +kernel
theorem d_Fr_follow_27 : decode b_Fr_follow 27 = .ok (.invokevirtual 43, 3) := by decide +kernel
theorem d_Fr_follow_30 : decode b_Fr_follow 30 = .ok (.aload_n 0, 1) := by decide +kernel
theorem d_Fr_follow_31 : decode b_Fr_follow 31 = .ok (.getfield 25, 3) := by decide +kernel
theorem d_Fr_follow_34 : decode b_Fr_follow 34 = .ok (.getfield 47, 3) := by decide +kernel
theorem d_Fr_follow_37 : decode b_Fr_follow 37 = .ok (.ifCond .eq (28), 3) := by decide +kernel
theorem d_Fr_follow_40 : decode b_Fr_follow 40 = .ok (.aload_n 0, 1) := by decide +kernel
theorem d_Fr_follow_41 : decode b_Fr_follow 41 = .ok (.aload_n 0, 1) := by decide +kernel
theorem d_Fr_follow_42 : decode b_Fr_follow 42 = .ok (.getfield 29, 3) := by decide +kernel
theorem d_Fr_follow_45 : decode b_Fr_follow 45 = .ok (.aload_n 0, 1) := by decide +kernel
theorem d_Fr_follow_46 : decode b_Fr_follow 46 = .ok (.getfield 32, 3) := by decide +kernel
theorem d_Fr_follow_49 : decode b_Fr_follow 49 = .ok (.aload_n 3, 1) := by decide +kernel
theorem d_Fr_follow_50 : decode b_Fr_follow 50 = .ok (.aload 4, 2) := by decide +kernel
theorem d_Fr_follow_52 : decode b_Fr_follow 52 = .ok (.aload_n 0, 1) := by decide +kernel
theorem d_Fr_follow_53 : decode b_Fr_follow 53 = .ok (.getfield 29, 3) := by decide +kernel
theorem d_Fr_follow_56 : decode b_Fr_follow 56 = .ok (.getfield 40, 3) := by decide +kernel
theorem d_Fr_follow_59 : decode b_Fr_follow 59 = .ok (.aaload, 1) := by decide +kernel
theorem d_Fr_follow_60 : decode b_Fr_follow 60 = .ok (.aload 5, 2) := by decide +kernel
theorem d_Fr_follow_62 : decode b_Fr_follow 62 = .ok (.invokevirtual 43, 3) := by decide +kernel
theorem d_Fr_follow_65 : decode b_Fr_follow 65 = .ok (.return_, 1) := by decide +kernel
theorem d_Fr_runAlone_0 : decode b_Fr_runAlone 0 = .ok (.iload_n 2, 1) := by decide +kernel
theorem d_Fr_runAlone_1 : decode b_Fr_runAlone 1 = .ok (.istore 6, 2) := by decide +kernel
theorem d_Fr_runAlone_3 : decode b_Fr_runAlone 3 = .ok (.aload_n 0, 1) := by decide +kernel
theorem d_Fr_runAlone_4 : decode b_Fr_runAlone 4 = .ok (.getfield 18, 3) := by decide +kernel
theorem d_Fr_runAlone_7 : decode b_Fr_runAlone 7 = .ok (.aload_n 1, 1) := by decide +kernel
theorem d_Fr_runAlone_8 : decode b_Fr_runAlone 8 = .ok (.getfield 51, 3) := by decide +kernel
theorem d_Fr_runAlone_11 : decode b_Fr_runAlone 11 = .ok (.iconst (1), 1) := by decide +kernel
theorem d_Fr_runAlone_12 : decode b_Fr_runAlone 12 = .ok (.bastore, 1) := by decide +kernel
theorem d_Fr_runAlone_13 : decode b_Fr_runAlone 13 = .ok (.iconst (0), 1) := by decide +kernel
theorem d_Fr_runAlone_14 : decode b_Fr_runAlone 14 = .ok (.istore 7, 2) := by decide +kernel
theorem d_Fr_runAlone_16 : decode b_Fr_runAlone 16 = .ok (.iload 7, 2) := by decide +kernel
theorem d_Fr_runAlone_18 : decode b_Fr_runAlone 18 = .ok (.sipush (200), 3) := by decide +kernel
theorem d_Fr_runAlone_21 : decode b_Fr_runAlone 21 = .ok (.if_icmp .ge (114), 3) := by decide +kernel
theorem d_Fr_runAlone_24 : decode b_Fr_runAlone 24 = .ok (.aload_n 1, 1) := by decide +kernel
theorem d_Fr_runAlone_25 : decode b_Fr_runAlone 25 = .ok (.getfield 54, 3) := by decide +kernel
theorem d_Fr_runAlone_28 : decode b_Fr_runAlone 28 = .ok (.ifCond .le (107), 3) := by decide +kernel
theorem d_Fr_runAlone_31 : decode b_Fr_runAlone 31 = .ok (.aload_n 3, 1) := by decide +kernel
theorem d_Fr_runAlone_32 : decode b_Fr_runAlone 32 = .ok (.aload_n 1, 1) := by decide +kernel
theorem d_Fr_runAlone_33 : decode b_Fr_runAlone 33 = .ok (.aload 4, 2) := by decide +kernel
theorem d_Fr_runAlone_35 : decode b_Fr_runAlone 35 = .ok (.aload 5, 2) := by decide +kernel
theorem d_Fr_runAlone_37 : decode b_Fr_runAlone 37 = .ok (.iload 6, 2) := by decide +kernel
theorem d_Fr_runAlone_39 : decode b_Fr_runAlone 39 = .ok (.aaload, 1) := by decide +kernel
theorem d_Fr_runAlone_40 : decode b_Fr_runAlone 40 = .ok (.iload 6, 2) := by decide +kernel
theorem d_Fr_runAlone_42 : decode b_Fr_runAlone 42 = .ok (.invokevirtual 57, 3) := by decide +kernel
theorem d_Fr_runAlone_45 : decode b_Fr_runAlone 45 = .ok (.istore 8, 2) := by decide +kernel
theorem d_Fr_runAlone_47 : decode b_Fr_runAlone 47 = .ok (.iload 8, 2) := by decide +kernel
theorem d_Fr_runAlone_49 : decode b_Fr_runAlone 49 = .ok (.iconst (4), 1) := by decide +kernel
theorem d_Fr_runAlone_50 : decode b_Fr_runAlone 50 = .ok (.if_icmp .eq (9), 3) := by decide +kernel
theorem d_Fr_runAlone_53 : decode b_Fr_runAlone 53 = .ok (.iload 8, 2) := by decide +kernel
theorem d_Fr_runAlone_55 : decode b_Fr_runAlone 55 = .ok (.iconst (5), 1) := by decide +kernel
theorem d_Fr_runAlone_56 : decode b_Fr_runAlone 56 = .ok (.if_icmp .ne (4), 3) := by decide +kernel
theorem d_Fr_runAlone_59 : decode b_Fr_runAlone 59 = .ok (.return_, 1) := by decide +kernel
theorem d_Fr_runAlone_60 : decode b_Fr_runAlone 60 = .ok (.iload 8, 2) := by decide +kernel
theorem d_Fr_runAlone_62 : decode b_Fr_runAlone 62 = .ok (.iconst (1), 1) := by decide +kernel
theorem d_Fr_runAlone_63 : decode b_Fr_runAlone 63 = .ok (.if_icmp .ne (27), 3) := by decide +kernel
theorem d_Fr_runAlone_66 : decode b_Fr_runAlone 66 = .ok (.aload_n 0, 1) := by decide +kernel
theorem d_Fr_runAlone_67 : decode b_Fr_runAlone 67 = .ok (.getfield 12, 3) := by decide +kernel
theorem d_Fr_runAlone_70 : decode b_Fr_runAlone 70 = .ok (.aload_n 1, 1) := by decide +kernel
theorem d_Fr_runAlone_71 : decode b_Fr_runAlone 71 = .ok (.getfield 51, 3) := by decide +kernel
theorem d_Fr_runAlone_74 : decode b_Fr_runAlone 74 = .ok (.aload_n 1, 1) := by decide +kernel
theorem d_Fr_runAlone_75 : decode b_Fr_runAlone 75 = .ok (.getfield 63, 3) := by decide +kernel
theorem d_Fr_runAlone_78 : decode b_Fr_runAlone 78 = .ok (.iconst (1), 1) := by decide +kernel
theorem d_Fr_runAlone_79 : decode b_Fr_runAlone 79 = .ok (.isub, 1) := by decide +kernel
theorem d_Fr_runAlone_80 : decode b_Fr_runAlone 80 = .ok (.aload_n 3, 1) := by decide +kernel
theorem d_Fr_runAlone_81 : decode b_Fr_runAlone 81 = .ok (.getfield 66, 3) := by decide +kernel
theorem d_Fr_runAlone_84 : decode b_Fr_runAlone 84 = .ok (.invokevirtual 69, 3) := by decide +kernel
theorem d_Fr_runAlone_87 : decode b_Fr_runAlone 87 = .ok (.goto (42), 3) := by decide +kernel
theorem d_Fr_runAlone_90 : decode b_Fr_runAlone 90 = .ok (.iload 8, 2) := by decide +kernel
theorem d_Fr_runAlone_92 : decode b_Fr_runAlone 92 = .ok (.iconst (2), 1) := by decide +kernel
theorem d_Fr_runAlone_93 : decode b_Fr_runAlone 93 = .ok (.if_icmp .ne (12), 3) := by decide +kernel
theorem d_Fr_runAlone_96 : decode b_Fr_runAlone 96 = .ok (.aload_n 3, 1) := by decide +kernel
theorem d_Fr_runAlone_97 : decode b_Fr_runAlone 97 = .ok (.getfield 66, 3) := by decide +kernel
theorem d_Fr_runAlone_100 : decode b_Fr_runAlone 100 = .ok (.istore 6, 2) := by decide +kernel
theorem d_Fr_runAlone_102 : decode b_Fr_runAlone 102 = .ok (.goto (27), 3) := by decide +kernel
theorem d_Fr_runAlone_105 : decode b_Fr_runAlone 105 = .ok (.iload 8, 2) := by decide +kernel
theorem d_Fr_runAlone_107 : decode b_Fr_runAlone 107 = .ok (.iconst (3), 1) := by decide +kernel
theorem d_Fr_runAlone_108 : decode b_Fr_runAlone 108 = .ok (.if_icmp .ne (21), 3) := by decide +kernel
theorem d_Fr_runAlone_111 : decode b_Fr_runAlone 111 = .ok (.aload_n 0, 1) := by decide +kernel
theorem d_Fr_runAlone_112 : decode b_Fr_runAlone 112 = .ok (.getfield 29, 3) := by decide +kernel
theorem d_Fr_runAlone_115 : decode b_Fr_runAlone 115 = .ok (.aload_n 1, 1) := by decide +kernel
theorem d_Fr_runAlone_116 : decode b_Fr_runAlone 116 = .ok (.aload_n 3, 1) := by decide +kernel
theorem d_Fr_runAlone_117 : decode b_Fr_runAlone 117 = .ok (.getfield 66, 3) := by decide +kernel
theorem d_Fr_runAlone_120 : decode b_Fr_runAlone 120 = .ok (.invokevirtual 73, 3) := by decide +kernel
theorem d_Fr_runAlone_123 : decode b_Fr_runAlone 123 = .ok (.aload_n 0, 1) := by decide +kernel
theorem d_Fr_runAlone_124 : decode b_Fr_runAlone 124 = .ok (.iload 6, 2) := by decide +kernel
theorem d_Fr_runAlone_126 : decode b_Fr_runAlone 126 = .ok (.putfield 32, 3) := by decide +kernel
theorem d_Fr_runAlone_129 : decode b_Fr_runAlone 129 = .ok (.iinc 7 (1), 3) := by decide +kernel
theorem d_Fr_runAlone_132 : decode b_Fr_runAlone 132 = .ok (.goto (-116), 3) := by decide +kernel
theorem d_Fr_runAlone_135 : decode b_Fr_runAlone 135 = .ok (.return_, 1) := by decide +kernel
theorem d_Ms_init_0 : decode b_Ms_init 0 = .ok (.aload_n 0, 1) := by decide +kernel
theorem d_Ms_init_1 : decode b_Ms_init 1 = .ok (.invokespecial 3, 3) := by decide +kernel
theorem d_Ms_init_4 : decode b_Ms_init 4 = .ok (.aload_n 0, 1) := by decide +kernel
theorem d_Ms_init_5 : decode b_Ms_init 5 = .ok (.iconst (0), 1) := by decide +kernel
theorem d_Ms_init_6 : decode b_Ms_init 6 = .ok (.putfield 9, 3) := by decide +kernel
theorem d_Ms_init_9 : decode b_Ms_init 9 = .ok (.aload_n 0, 1) := by decide +kernel
theorem d_Ms_init_10 : decode b_Ms_init 10 = .ok (.iconst (0), 1) := by decide +kernel
theorem d_Ms_init_11 : decode b_Ms_init 11 = .ok (.putfield 15, 3) := by decide +kernel
theorem d_Ms_init_14 : decode b_Ms_init 14 = .ok (.aload_n 0, 1) := by decide +kernel
theorem d_Ms_init_15 : decode b_Ms_init 15 = .ok (.iconst (0), 1) := by decide +kernel
theorem d_Ms_init_16 : decode b_Ms_init 16 = .ok (.putfield 19, 3) := by decide +kernel
theorem d_Ms_init_19 : decode b_Ms_init 19 = .ok (.aload_n 0, 1) := by decide +kernel
theorem d_Ms_init_20 : decode b_Ms_init 20 = .ok (.iconst (0), 1) := by decide +kernel
theorem d_Ms_init_21 : decode b_Ms_init 21 = .ok (.putfield 22, 3) := by decide +kernel
theorem d_Ms_init_24 : decode b_Ms_init 24 = .ok (.aload_n 0, 1) := by decide +kernel
theorem d_Ms_init_25 : decode b_Ms_init 25 = .ok (.iconst (0), 1) := by decide +kernel
theorem d_Ms_init_26 : decode b_Ms_init 26 = .ok (.putfield 25, 3) := by decide +kernel
theorem d_Ms_init_29 : decode b_Ms_init 29 = .ok (.aload_n 0, 1) := by decide +kernel
theorem d_Ms_init_30 : decode b_Ms_init 30 = .ok (.iconst (0), 1) := by decide +kernel
theorem d_Ms_init_31 : decode b_Ms_init 31 = .ok (.putfield 28, 3) := by decide +kernel
theorem d_Ms_init_34 : decode b_Ms_init 34 = .ok (.aload_n 0, 1) := by decide +kernel
theorem d_Ms_init_35 : decode b_Ms_init 35 = .ok (.iconst (0), 1) := by decide +kernel
theorem d_Ms_init_36 : decode b_Ms_init 36 = .ok (.putfield 31, 3) := by decide +kernel
theorem d_Ms_init_39 : decode b_Ms_init 39 = .ok (.aload_n 0, 1) := by decide +kernel
theorem d_Ms_init_40 : decode b_Ms_init 40 = .ok (.bipush (121), 2) := by decide +kernel
theorem d_Ms_init_42 : decode b_Ms_init 42 = .ok (.newarray .byte, 2) := by decide +kernel
theorem d_Ms_init_44 : decode b_Ms_init 44 = .ok (.putfield 34, 3) := by decide +kernel
theorem d_Ms_init_47 : decode b_Ms_init 47 = .ok (.return_, 1) := by decide +kernel
theorem d_Ms_address_0 : decode b_Ms_address 0 = .ok (.aload_n 0, 1) := by decide +kernel
theorem d_Ms_address_1 : decode b_Ms_address 1 = .ok (.iconst (0), 1) := by decide +kernel
theorem d_Ms_address_2 : decode b_Ms_address 2 = .ok (.putfield 9, 3) := by decide +kernel
theorem d_Ms_address_5 : decode b_Ms_address 5 = .ok (.aload_n 0, 1) := by decide +kernel
theorem d_Ms_address_6 : decode b_Ms_address 6 = .ok (.iload_n 1, 1) := by decide +kernel
theorem d_Ms_address_7 : decode b_Ms_address 7 = .ok (.putfield 15, 3) := by decide +kernel
theorem d_Ms_address_10 : decode b_Ms_address 10 = .ok (.aload_n 0, 1) := by decide +kernel
theorem d_Ms_address_11 : decode b_Ms_address 11 = .ok (.iload_n 2, 1) := by decide +kernel
theorem d_Ms_address_12 : decode b_Ms_address 12 = .ok (.putfield 19, 3) := by decide +kernel
theorem d_Ms_address_15 : decode b_Ms_address 15 = .ok (.aload_n 0, 1) := by decide +kernel
theorem d_Ms_address_16 : decode b_Ms_address 16 = .ok (.iload_n 3, 1) := by decide +kernel
theorem d_Ms_address_17 : decode b_Ms_address 17 = .ok (.putfield 22, 3) := by decide +kernel
theorem d_Ms_address_20 : decode b_Ms_address 20 = .ok (.aload_n 0, 1) := by decide +kernel
theorem d_Ms_address_21 : decode b_Ms_address 21 = .ok (.iload 4, 2) := by decide +kernel
theorem d_Ms_address_23 : decode b_Ms_address 23 = .ok (.putfield 25, 3) := by decide +kernel
theorem d_Ms_address_26 : decode b_Ms_address 26 = .ok (.aload_n 0, 1) := by decide +kernel
theorem d_Ms_address_27 : decode b_Ms_address 27 = .ok (.iconst (0), 1) := by decide +kernel
theorem d_Ms_address_28 : decode b_Ms_address 28 = .ok (.putfield 28, 3) := by decide +kernel
theorem d_Ms_address_31 : decode b_Ms_address 31 = .ok (.return_, 1) := by decide +kernel
theorem d_Ms_copyFrom_0 : decode b_Ms_copyFrom 0 = .ok (.aload_n 0, 1) := by decide +kernel
theorem d_Ms_copyFrom_1 : decode b_Ms_copyFrom 1 = .ok (.aload_n 1, 1) := by decide +kernel
theorem d_Ms_copyFrom_2 : decode b_Ms_copyFrom 2 = .ok (.getfield 15, 3) := by decide +kernel
theorem d_Ms_copyFrom_5 : decode b_Ms_copyFrom 5 = .ok (.aload_n 1, 1) := by decide +kernel
theorem d_Ms_copyFrom_6 : decode b_Ms_copyFrom 6 = .ok (.getfield 19, 3) := by decide +kernel
theorem d_Ms_copyFrom_9 : decode b_Ms_copyFrom 9 = .ok (.aload_n 1, 1) := by decide +kernel
theorem d_Ms_copyFrom_10 : decode b_Ms_copyFrom 10 = .ok (.getfield 22, 3) := by decide +kernel
theorem d_Ms_copyFrom_13 : decode b_Ms_copyFrom 13 = .ok (.aload_n 1, 1) := by decide +kernel
theorem d_Ms_copyFrom_14 : decode b_Ms_copyFrom 14 = .ok (.getfield 25, 3) := by decide +kernel
theorem d_Ms_copyFrom_17 : decode b_Ms_copyFrom 17 = .ok (.invokevirtual 38, 3) := by decide +kernel
theorem d_Ms_copyFrom_20 : decode b_Ms_copyFrom 20 = .ok (.aload_n 0, 1) := by decide +kernel
theorem d_Ms_copyFrom_21 : decode b_Ms_copyFrom 21 = .ok (.aload_n 1, 1) := by decide +kernel
theorem d_Ms_copyFrom_22 : decode b_Ms_copyFrom 22 = .ok (.getfield 9, 3) := by decide +kernel
theorem d_Ms_copyFrom_25 : decode b_Ms_copyFrom 25 = .ok (.putfield 9, 3) := by decide +kernel
theorem d_Ms_copyFrom_28 : decode b_Ms_copyFrom 28 = .ok (.aload_n 0, 1) := by decide +kernel
theorem d_Ms_copyFrom_29 : decode b_Ms_copyFrom 29 = .ok (.aload_n 1, 1) := by decide +kernel
theorem d_Ms_copyFrom_30 : decode b_Ms_copyFrom 30 = .ok (.getfield 28, 3) := by decide +kernel
theorem d_Ms_copyFrom_33 : decode b_Ms_copyFrom 33 = .ok (.putfield 28, 3) := by decide +kernel
theorem d_Ms_copyFrom_36 : decode b_Ms_copyFrom 36 = .ok (.aload_n 1, 1) := by decide +kernel
theorem d_Ms_copyFrom_37 : decode b_Ms_copyFrom 37 = .ok (.getfield 34, 3) := by decide +kernel
theorem d_Ms_copyFrom_40 : decode b_Ms_copyFrom 40 = .ok (.iconst (0), 1) := by decide +kernel
theorem d_Ms_copyFrom_41 : decode b_Ms_copyFrom 41 = .ok (.aload_n 0, 1) := by decide +kernel
theorem d_Ms_copyFrom_42 : decode b_Ms_copyFrom 42 = .ok (.getfield 34, 3) := by decide +kernel
theorem d_Ms_copyFrom_45 : decode b_Ms_copyFrom 45 = .ok (.iconst (0), 1) := by decide +kernel
theorem d_Ms_copyFrom_46 : decode b_Ms_copyFrom 46 = .ok (.aload_n 0, 1) := by decide +kernel
theorem d_Ms_copyFrom_47 : decode b_Ms_copyFrom 47 = .ok (.getfield 28, 3) := by decide +kernel
theorem d_Ms_copyFrom_50 : decode b_Ms_copyFrom 50 = .ok (.invokestatic 42, 3) := by decide +kernel
theorem d_Ms_copyFrom_53 : decode b_Ms_copyFrom 53 = .ok (.return_, 1) := by decide +kernel
theorem d_Ms_pack_0 : decode b_Ms_pack 0 = .ok (.aload_n 0, 1) := by decide +kernel
theorem d_Ms_pack_1 : decode b_Ms_pack 1 = .ok (.iconst (1), 1) := by decide +kernel
theorem d_Ms_pack_2 : decode b_Ms_pack 2 = .ok (.putfield 9, 3) := by decide +kernel
theorem d_Ms_pack_5 : decode b_Ms_pack 5 = .ok (.aload_n 0, 1) := by decide +kernel
theorem d_Ms_pack_6 : decode b_Ms_pack 6 = .ok (.aload_n 1, 1) := by decide +kernel
theorem d_Ms_pack_7 : decode b_Ms_pack 7 = .ok (.getfield 48, 3) := by decide +kernel
theorem d_Ms_pack_10 : decode b_Ms_pack 10 = .ok (.invokevirtual 51, 3) := by decide +kernel
theorem d_Ms_pack_13 : decode b_Ms_pack 13 = .ok (.aload_n 0, 1) := by decide +kernel
theorem d_Ms_pack_14 : decode b_Ms_pack 14 = .ok (.aload_n 1, 1) := by decide +kernel
theorem d_Ms_pack_15 : decode b_Ms_pack 15 = .ok (.getfield 55, 3) := by decide +kernel
theorem d_Ms_pack_18 : decode b_Ms_pack 18 = .ok (.invokevirtual 51, 3) := by decide +kernel
theorem d_Ms_pack_21 : decode b_Ms_pack 21 = .ok (.aload_n 0, 1) := by decide +kernel
theorem d_Ms_pack_22 : decode b_Ms_pack 22 = .ok (.aload_n 1, 1) := by decide +kernel
theorem d_Ms_pack_23 : decode b_Ms_pack 23 = .ok (.getfield 58, 3) := by decide +kernel
theorem d_Ms_pack_26 : decode b_Ms_pack 26 = .ok (.invokevirtual 51, 3) := by decide +kernel
theorem d_Ms_pack_29 : decode b_Ms_pack 29 = .ok (.aload_n 0, 1) := by decide +kernel
theorem d_Ms_pack_30 : decode b_Ms_pack 30 = .ok (.aload_n 1, 1) := by decide +kernel
theorem d_Ms_pack_31 : decode b_Ms_pack 31 = .ok (.getfield 61, 3) := by decide +kernel
theorem d_Ms_pack_34 : decode b_Ms_pack 34 = .ok (.invokevirtual 51, 3) := by decide +kernel
theorem d_Ms_pack_37 : decode b_Ms_pack 37 = .ok (.aload_n 0, 1) := by decide +kernel
theorem d_Ms_pack_38 : decode b_Ms_pack 38 = .ok (.aload_n 1, 1) := by decide +kernel
theorem d_Ms_pack_39 : decode b_Ms_pack 39 = .ok (.getfield 62, 3) := by decide +kernel
theorem d_Ms_pack_42 : decode b_Ms_pack 42 = .ok (.invokevirtual 51, 3) := by decide +kernel
theorem d_Ms_pack_45 : decode b_Ms_pack 45 = .ok (.aload_n 0, 1) := by decide +kernel
theorem d_Ms_pack_46 : decode b_Ms_pack 46 = .ok (.aload_n 1, 1) := by decide +kernel
theorem d_Ms_pack_47 : decode b_Ms_pack 47 = .ok (.getfield 65, 3) := by decide +kernel
theorem d_Ms_pack_50 : decode b_Ms_pack 50 = .ok (.invokevirtual 51, 3) := by decide +kernel
theorem d_Ms_pack_53 : decode b_Ms_pack 53 = .ok (.aload_n 0, 1) := by decide +kernel
theorem d_Ms_pack_54 : decode b_Ms_pack 54 = .ok (.aload_n 1, 1) := by decide +kernel
theorem d_Ms_pack_55 : decode b_Ms_pack 55 = .ok (.getfield 68, 3) := by decide +kernel
theorem d_Ms_pack_58 : decode b_Ms_pack 58 = .ok (.ifCond .eq (7), 3) := by decide +kernel
theorem d_Ms_pack_61 : decode b_Ms_pack 61 = .ok (.iconst (1), 1) := by decide +kernel
theorem d_Ms_pack_62 : decode b_Ms_pack 62 = .ok (.goto (4), 3) := by decide +kernel
theorem d_Ms_pack_65 : decode b_Ms_pack 65 = .ok (.iconst (0), 1) := by decide +kernel
theorem d_Ms_pack_66 : decode b_Ms_pack 66 = .ok (.invokevirtual 51, 3) := by decide +kernel
theorem d_Ms_pack_69 : decode b_Ms_pack 69 = .ok (.aload_n 0, 1) := by decide +kernel
theorem d_Ms_pack_70 : decode b_Ms_pack 70 = .ok (.aload_n 1, 1) := by decide +kernel
theorem d_Ms_pack_71 : decode b_Ms_pack 71 = .ok (.getfield 71, 3) := by decide +kernel
theorem d_Ms_pack_74 : decode b_Ms_pack 74 = .ok (.bipush (8), 2) := by decide +kernel
theorem d_Ms_pack_76 : decode b_Ms_pack 76 = .ok (.ishr, 1) := by decide +kernel
theorem d_Ms_pack_77 : decode b_Ms_pack 77 = .ok (.invokevirtual 51, 3) := by decide +kernel
theorem d_Ms_pack_80 : decode b_Ms_pack 80 = .ok (.aload_n 0, 1) := by decide +kernel
theorem d_Ms_pack_81 : decode b_Ms_pack 81 = .ok (.aload_n 1, 1) := by decide +kernel
theorem d_Ms_pack_82 : decode b_Ms_pack 82 = .ok (.getfield 71, 3) := by decide +kernel
theorem d_Ms_pack_85 : decode b_Ms_pack 85 = .ok (.invokevirtual 51, 3) := by decide +kernel
theorem d_Ms_pack_88 : decode b_Ms_pack 88 = .ok (.aload_n 0, 1) := by decide +kernel
theorem d_Ms_pack_89 : decode b_Ms_pack 89 = .ok (.aload_n 1, 1) := by decide +kernel
theorem d_Ms_pack_90 : decode b_Ms_pack 90 = .ok (.getfield 74, 3) := by decide +kernel
theorem d_Ms_pack_93 : decode b_Ms_pack 93 = .ok (.invokevirtual 51, 3) := by decide +kernel
theorem d_Ms_pack_96 : decode b_Ms_pack 96 = .ok (.iconst (0), 1) := by decide +kernel
theorem d_Ms_pack_97 : decode b_Ms_pack 97 = .ok (.istore_n 2, 1) := by decide +kernel
theorem d_Ms_pack_98 : decode b_Ms_pack 98 = .ok (.iload_n 2, 1) := by decide +kernel
theorem d_Ms_pack_99 : decode b_Ms_pack 99 = .ok (.aload_n 1, 1) := by decide +kernel
theorem d_Ms_pack_100 : decode b_Ms_pack 100 = .ok (.getfield 74, 3) := by decide +kernel
theorem d_Ms_pack_103 : decode b_Ms_pack 103 = .ok (.if_icmp .ge (19), 3) := by decide +kernel
theorem d_Ms_pack_106 : decode b_Ms_pack 106 = .ok (.aload_n 0, 1) := by decide +kernel
theorem d_Ms_pack_107 : decode b_Ms_pack 107 = .ok (.aload_n 1, 1) := by decide +kernel
theorem d_Ms_pack_108 : decode b_Ms_pack 108 = .ok (.getfield 77, 3) := by decide +kernel
theorem d_Ms_pack_111 : decode b_Ms_pack 111 = .ok (.iload_n 2, 1) := by decide +kernel
theorem d_Ms_pack_112 : decode b_Ms_pack 112 = .ok (.laload, 1) := by decide +kernel
theorem d_Ms_pack_113 : decode b_Ms_pack 113 = .ok (.invokevirtual 81, 3) := by decide +kernel
theorem d_Ms_pack_116 : decode b_Ms_pack 116 = .ok (.iinc 2 (1), 3) := by decide +kernel
theorem d_Ms_pack_119 : decode b_Ms_pack 119 = .ok (.goto (-21), 3) := by decide +kernel
theorem d_Ms_pack_122 : decode b_Ms_pack 122 = .ok (.aload_n 0, 1) := by decide +kernel
theorem d_Ms_pack_123 : decode b_Ms_pack 123 = .ok (.aload_n 1, 1) := by decide +kernel
theorem d_Ms_pack_124 : decode b_Ms_pack 124 = .ok (.getfield 85, 3) := by decide +kernel
theorem d_Ms_pack_127 : decode b_Ms_pack 127 = .ok (.invokevirtual 51, 3) := by decide +kernel
theorem d_Ms_pack_130 : decode b_Ms_pack 130 = .ok (.iconst (0), 1) := by decide +kernel
theorem d_Ms_pack_131 : decode b_Ms_pack 131 = .ok (.istore_n 2, 1) := by decide +kernel
theorem d_Ms_pack_132 : decode b_Ms_pack 132 = .ok (.iload_n 2, 1) := by decide +kernel
theorem d_Ms_pack_133 : decode b_Ms_pack 133 = .ok (.aload_n 1, 1) := by decide +kernel
theorem d_Ms_pack_134 : decode b_Ms_pack 134 = .ok (.getfield 85, 3) := by decide +kernel
theorem d_Ms_pack_137 : decode b_Ms_pack 137 = .ok (.if_icmp .ge (29), 3) := by decide +kernel
theorem d_Ms_pack_140 : decode b_Ms_pack 140 = .ok (.aload_n 0, 1) := by decide +kernel
theorem d_Ms_pack_141 : decode b_Ms_pack 141 = .ok (.aload_n 1, 1) := by decide +kernel
theorem d_Ms_pack_142 : decode b_Ms_pack 142 = .ok (.getfield 88, 3) := by decide +kernel
theorem d_Ms_pack_145 : decode b_Ms_pack 145 = .ok (.iload_n 2, 1) := by decide +kernel
theorem d_Ms_pack_146 : decode b_Ms_pack 146 = .ok (.laload, 1) := by decide +kernel
theorem d_Ms_pack_147 : decode b_Ms_pack 147 = .ok (.invokevirtual 81, 3) := by decide +kernel
theorem d_Ms_pack_150 : decode b_Ms_pack 150 = .ok (.aload_n 0, 1) := by decide +kernel
theorem d_Ms_pack_151 : decode b_Ms_pack 151 = .ok (.aload_n 1, 1) := by decide +kernel
theorem d_Ms_pack_152 : decode b_Ms_pack 152 = .ok (.getfield 91, 3) := by decide +kernel
theorem d_Ms_pack_155 : decode b_Ms_pack 155 = .ok (.iload_n 2, 1) := by decide +kernel
theorem d_Ms_pack_156 : decode b_Ms_pack 156 = .ok (.laload, 1) := by decide +kernel
theorem d_Ms_pack_157 : decode b_Ms_pack 157 = .ok (.invokevirtual 81, 3) := by decide +kernel
theorem d_Ms_pack_160 : decode b_Ms_pack 160 = .ok (.iinc 2 (1), 3) := by decide +kernel
theorem d_Ms_pack_163 : decode b_Ms_pack 163 = .ok (.goto (-31), 3) := by decide +kernel
theorem d_Ms_pack_166 : decode b_Ms_pack 166 = .ok (.return_, 1) := by decide +kernel
theorem d_Ms_unpack_0 : decode b_Ms_unpack 0 = .ok (.aload_n 0, 1) := by decide +kernel
theorem d_Ms_unpack_1 : decode b_Ms_unpack 1 = .ok (.iconst (0), 1) := by decide +kernel
theorem d_Ms_unpack_2 : decode b_Ms_unpack 2 = .ok (.putfield 31, 3) := by decide +kernel
theorem d_Ms_unpack_5 : decode b_Ms_unpack 5 = .ok (.aload_n 1, 1) := by decide +kernel
theorem d_Ms_unpack_6 : decode b_Ms_unpack 6 = .ok (.aload_n 0, 1) := by decide +kernel
theorem d_Ms_unpack_7 : decode b_Ms_unpack 7 = .ok (.invokevirtual 94, 3) := by decide +kernel
theorem d_Ms_unpack_10 : decode b_Ms_unpack 10 = .ok (.putfield 48, 3) := by decide +kernel
theorem d_Ms_unpack_13 : decode b_Ms_unpack 13 = .ok (.aload_n 1, 1) := by decide +kernel
theorem d_Ms_unpack_14 : decode b_Ms_unpack 14 = .ok (.aload_n 0, 1) := by decide +kernel
theorem d_Ms_unpack_15 : decode b_Ms_unpack 15 = .ok (.invokevirtual 94, 3) := by decide +kernel
theorem d_Ms_unpack_18 : decode b_Ms_unpack 18 = .ok (.putfield 55, 3) := by decide +kernel
theorem d_Ms_unpack_21 : decode b_Ms_unpack 21 = .ok (.aload_n 1, 1) := by decide +kernel
theorem d_Ms_unpack_22 : decode b_Ms_unpack 22 = .ok (.aload_n 0, 1) := by decide +kernel
theorem d_Ms_unpack_23 : decode b_Ms_unpack 23 = .ok (.invokevirtual 94, 3) := by decide +kernel
theorem d_Ms_unpack_26 : decode b_Ms_unpack 26 = .ok (.putfield 58, 3) := by decide +kernel
theorem d_Ms_unpack_29 : decode b_Ms_unpack 29 = .ok (.aload_n 1, 1) := by decide +kernel
theorem d_Ms_unpack_30 : decode b_Ms_unpack 30 = .ok (.aload_n 0, 1) := by decide +kernel
theorem d_Ms_unpack_31 : decode b_Ms_unpack 31 = .ok (.invokevirtual 94, 3) := by decide +kernel
theorem d_Ms_unpack_34 : decode b_Ms_unpack 34 = .ok (.putfield 61, 3) := by decide +kernel
theorem d_Ms_unpack_37 : decode b_Ms_unpack 37 = .ok (.aload_n 1, 1) := by decide +kernel
theorem d_Ms_unpack_38 : decode b_Ms_unpack 38 = .ok (.aload_n 0, 1) := by decide +kernel
theorem d_Ms_unpack_39 : decode b_Ms_unpack 39 = .ok (.invokevirtual 94, 3) := by decide +kernel
theorem d_Ms_unpack_42 : decode b_Ms_unpack 42 = .ok (.putfield 62, 3) := by decide +kernel
theorem d_Ms_unpack_45 : decode b_Ms_unpack 45 = .ok (.aload_n 1, 1) := by decide +kernel
theorem d_Ms_unpack_46 : decode b_Ms_unpack 46 = .ok (.aload_n 0, 1) := by decide +kernel
theorem d_Ms_unpack_47 : decode b_Ms_unpack 47 = .ok (.invokevirtual 94, 3) := by decide +kernel
theorem d_Ms_unpack_50 : decode b_Ms_unpack 50 = .ok (.putfield 65, 3) := by decide +kernel
theorem d_Ms_unpack_53 : decode b_Ms_unpack 53 = .ok (.aload_n 1, 1) := by decide +kernel
theorem d_Ms_unpack_54 : decode b_Ms_unpack 54 = .ok (.aload_n 0, 1) := by decide +kernel
theorem d_Ms_unpack_55 : decode b_Ms_unpack 55 = .ok (.invokevirtual 94, 3) := by decide +kernel
theorem d_Ms_unpack_58 : decode b_Ms_unpack 58 = .ok (.iconst (1), 1) := by decide +kernel
theorem d_Ms_unpack_59 : decode b_Ms_unpack 59 = .ok (.if_icmp .ne (7), 3) := by decide +kernel
theorem d_Ms_unpack_62 : decode b_Ms_unpack 62 = .ok (.iconst (1), 1) := by decide +kernel
theorem d_Ms_unpack_63 : decode b_Ms_unpack 63 = .ok (.goto (4), 3) := by decide +kernel
theorem d_Ms_unpack_66 : decode b_Ms_unpack 66 = .ok (.iconst (0), 1) := by decide +kernel
theorem d_Ms_unpack_67 : decode b_Ms_unpack 67 = .ok (.putfield 68, 3) := by decide +kernel
theorem d_Ms_unpack_70 : decode b_Ms_unpack 70 = .ok (.aload_n 1, 1) := by decide +kernel
theorem d_Ms_unpack_71 : decode b_Ms_unpack 71 = .ok (.aload_n 0, 1) := by decide +kernel
theorem d_Ms_unpack_72 : decode b_Ms_unpack 72 = .ok (.invokevirtual 94, 3) := by decide +kernel
theorem d_Ms_unpack_75 : decode b_Ms_unpack 75 = .ok (.bipush (8), 2) := by decide +kernel
theorem d_Ms_unpack_77 : decode b_Ms_unpack 77 = .ok (.ishl, 1) := by decide +kernel
theorem d_Ms_unpack_78 : decode b_Ms_unpack 78 = .ok (.putfield 71, 3) := by decide +kernel
theorem d_Ms_unpack_81 : decode b_Ms_unpack 81 = .ok (.aload_n 1, 1) := by decide +kernel
theorem d_Ms_unpack_82 : decode b_Ms_unpack 82 = .ok (.dup, 1) := by decide +kernel
theorem d_Ms_unpack_83 : decode b_Ms_unpack 83 = .ok (.getfield 71, 3) := by decide +kernel
theorem d_Ms_unpack_86 : decode b_Ms_unpack 86 = .ok (.aload_n 0, 1) := by decide +kernel
theorem d_Ms_unpack_87 : decode b_Ms_unpack 87 = .ok (.invokevirtual 94, 3) := by decide +kernel
theorem d_Ms_unpack_90 : decode b_Ms_unpack 90 = .ok (.ior, 1) := by decide +kernel
theorem d_Ms_unpack_91 : decode b_Ms_unpack 91 = .ok (.putfield 71, 3) := by decide +kernel
theorem d_Ms_unpack_94 : decode b_Ms_unpack 94 = .ok (.aload_n 1, 1) := by decide +kernel
theorem d_Ms_unpack_95 : decode b_Ms_unpack 95 = .ok (.aload_n 0, 1) := by decide +kernel
theorem d_Ms_unpack_96 : decode b_Ms_unpack 96 = .ok (.invokevirtual 94, 3) := by decide +kernel
theorem d_Ms_unpack_99 : decode b_Ms_unpack 99 = .ok (.bipush (6), 2) := by decide +kernel
theorem d_Ms_unpack_101 : decode b_Ms_unpack 101 = .ok (.invokestatic 98, 3) := by decide +kernel
theorem d_Ms_unpack_104 : decode b_Ms_unpack 104 = .ok (.putfield 74, 3) := by decide +kernel
theorem d_Ms_unpack_107 : decode b_Ms_unpack 107 = .ok (.iconst (0), 1) := by decide +kernel
theorem d_Ms_unpack_108 : decode b_Ms_unpack 108 = .ok (.istore_n 2, 1) := by decide +kernel
theorem d_Ms_unpack_109 : decode b_Ms_unpack 109 = .ok (.iload_n 2, 1) := by decide +kernel
theorem d_Ms_unpack_110 : decode b_Ms_unpack 110 = .ok (.aload_n 1, 1) := by decide +kernel
theorem d_Ms_unpack_111 : decode b_Ms_unpack 111 = .ok (.getfield 74, 3) := by decide +kernel
theorem d_Ms_unpack_114 : decode b_Ms_unpack 114 = .ok (.if_icmp .ge (19), 3) := by decide +kernel
theorem d_Ms_unpack_117 : decode b_Ms_unpack 117 = .ok (.aload_n 1, 1) := by decide +kernel
theorem d_Ms_unpack_118 : decode b_Ms_unpack 118 = .ok (.getfield 77, 3) := by decide +kernel
theorem d_Ms_unpack_121 : decode b_Ms_unpack 121 = .ok (.iload_n 2, 1) := by decide +kernel
theorem d_Ms_unpack_122 : decode b_Ms_unpack 122 = .ok (.aload_n 0, 1) := by decide +kernel
theorem d_Ms_unpack_123 : decode b_Ms_unpack 123 = .ok (.invokevirtual 104, 3) := by decide +kernel
theorem d_Ms_unpack_126 : decode b_Ms_unpack 126 = .ok (.lastore, 1) := by decide +kernel
theorem d_Ms_unpack_127 : decode b_Ms_unpack 127 = .ok (.iinc 2 (1), 3) := by decide +kernel
theorem d_Ms_unpack_130 : decode b_Ms_unpack 130 = .ok (.goto (-21), 3) := by decide +kernel
theorem d_Ms_unpack_133 : decode b_Ms_unpack 133 = .ok (.aload_n 1, 1) := by decide +kernel
theorem d_Ms_unpack_134 : decode b_Ms_unpack 134 = .ok (.aload_n 0, 1) := by decide +kernel
theorem d_Ms_unpack_135 : decode b_Ms_unpack 135 = .ok (.invokevirtual 94, 3) := by decide +kernel
theorem d_Ms_unpack_138 : decode b_Ms_unpack 138 = .ok (.bipush (8), 2) := by decide +kernel
theorem d_Ms_unpack_140 : decode b_Ms_unpack 140 = .ok (.invokestatic 98, 3) := by decide +kernel
theorem d_Ms_unpack_143 : decode b_Ms_unpack 143 = .ok (.putfield 85, 3) := by decide +kernel
theorem d_Ms_unpack_146 : decode b_Ms_unpack 146 = .ok (.iconst (0), 1) := by decide +kernel
theorem d_Ms_unpack_147 : decode b_Ms_unpack 147 = .ok (.istore_n 2, 1) := by decide +kernel
theorem d_Ms_unpack_148 : decode b_Ms_unpack 148 = .ok (.iload_n 2, 1) := by decide +kernel
theorem d_Ms_unpack_149 : decode b_Ms_unpack 149 = .ok (.aload_n 1, 1) := by decide +kernel
theorem d_Ms_unpack_150 : decode b_Ms_unpack 150 = .ok (.getfield 85, 3) := by decide +kernel
theorem d_Ms_unpack_153 : decode b_Ms_unpack 153 = .ok (.if_icmp .ge (29), 3) := by decide +kernel
theorem d_Ms_unpack_156 : decode b_Ms_unpack 156 = .ok (.aload_n 1, 1) := by decide +kernel
theorem d_Ms_unpack_157 : decode b_Ms_unpack 157 = .ok (.getfield 88, 3) := by decide +kernel
theorem d_Ms_unpack_160 : decode b_Ms_unpack 160 = .ok (.iload_n 2, 1) := by decide +kernel
theorem d_Ms_unpack_161 : decode b_Ms_unpack 161 = .ok (.aload_n 0, 1) := by decide +kernel
theorem d_Ms_unpack_162 : decode b_Ms_unpack 162 = .ok (.invokevirtual 104, 3) := by decide +kernel
theorem d_Ms_unpack_165 : decode b_Ms_unpack 165 = .ok (.lastore, 1) := by decide +kernel
theorem d_Ms_unpack_166 : decode b_Ms_unpack 166 = .ok (.aload_n 1, 1) := by decide +kernel
theorem d_Ms_unpack_167 : decode b_Ms_unpack 167 = .ok (.getfield 91, 3) := by decide +kernel
theorem d_Ms_unpack_170 : decode b_Ms_unpack 170 = .ok (.iload_n 2, 1) := by decide +kernel
theorem d_Ms_unpack_171 : decode b_Ms_unpack 171 = .ok (.aload_n 0, 1) := by decide +kernel
theorem d_Ms_unpack_172 : decode b_Ms_unpack 172 = .ok (.invokevirtual 104, 3) := by decide +kernel
theorem d_Ms_unpack_175 : decode b_Ms_unpack 175 = .ok (.lastore, 1) := by decide +kernel
theorem d_Ms_unpack_176 : decode b_Ms_unpack 176 = .ok (.iinc 2 (1), 3) := by decide +kernel
theorem d_Ms_unpack_179 : decode b_Ms_unpack 179 = .ok (.goto (-31), 3) := by decide +kernel
theorem d_Ms_unpack_182 : decode b_Ms_unpack 182 = .ok (.return_, 1) := by decide +kernel
theorem d_Ms_putValue_0 : decode b_Ms_putValue 0 = .ok (.lload_n 1, 1) := by decide +kernel
theorem d_Ms_putValue_1 : decode b_Ms_putValue 1 = .ok (.invokestatic 108, 3) := by decide +kernel
theorem d_Ms_putValue_4 : decode b_Ms_putValue 4 = .ok (.ifCond .eq (19), 3) := by decide +kernel
theorem d_Ms_putValue_7 : decode b_Ms_putValue 7 = .ok (.aload_n 0, 1) := by decide +kernel
theorem d_Ms_putValue_8 : decode b_Ms_putValue 8 = .ok (.iconst (1), 1) := by decide +kernel
theorem d_Ms_putValue_9 : decode b_Ms_putValue 9 = .ok (.invokevirtual 51, 3) := by decide +kernel
theorem d_Ms_putValue_12 : decode b_Ms_putValue 12 = .ok (.aload_n 0, 1) := by decide +kernel
theorem d_Ms_putValue_13 : decode b_Ms_putValue 13 = .ok (.lload_n 1, 1) := by decide +kernel
theorem d_Ms_putValue_14 : decode b_Ms_putValue 14 = .ok (.ldc2_w 112, 3) := by decide +kernel
theorem d_Ms_putValue_17 : decode b_Ms_putValue 17 = .ok (.lsub, 1) := by decide +kernel
theorem d_Ms_putValue_18 : decode b_Ms_putValue 18 = .ok (.l2i, 1) := by decide +kernel
theorem d_Ms_putValue_19 : decode b_Ms_putValue 19 = .ok (.invokevirtual 51, 3) := by decide +kernel
theorem d_Ms_putValue_22 : decode b_Ms_putValue 22 = .ok (.return_, 1) := by decide +kernel
theorem d_Ms_putValue_23 : decode b_Ms_putValue 23 = .ok (.aload_n 0, 1) := by decide +kernel
theorem d_Ms_putValue_24 : decode b_Ms_putValue 24 = .ok (.iconst (0), 1) := by decide +kernel
theorem d_Ms_putValue_25 : decode b_Ms_putValue 25 = .ok (.invokevirtual 51, 3) := by decide +kernel
theorem d_Ms_putValue_28 : decode b_Ms_putValue 28 = .ok (.bipush (24), 2) := by decide +kernel
theorem d_Ms_putValue_30 : decode b_Ms_putValue 30 = .ok (.istore_n 3, 1) := by decide +kernel
theorem d_Ms_putValue_31 : decode b_Ms_putValue 31 = .ok (.iload_n 3, 1) := by decide +kernel
theorem d_Ms_putValue_32 : decode b_Ms_putValue 32 = .ok (.ifCond .lt (17), 3) := by decide +kernel
theorem d_Ms_putValue_35 : decode b_Ms_putValue 35 = .ok (.aload_n 0, 1) := by decide +kernel
theorem d_Ms_putValue_36 : decode b_Ms_putValue 36 = .ok (.lload_n 1, 1) := by decide +kernel
theorem d_Ms_putValue_37 : decode b_Ms_putValue 37 = .ok (.l2i, 1) := by decide +kernel
theorem d_Ms_putValue_38 : decode b_Ms_putValue 38 = .ok (.iload_n 3, 1) := by decide +kernel
theorem d_Ms_putValue_39 : decode b_Ms_putValue 39 = .ok (.ishr, 1) := by decide +kernel
theorem d_Ms_putValue_40 : decode b_Ms_putValue 40 = .ok (.invokevirtual 51, 3) := by decide +kernel
theorem d_Ms_putValue_43 : decode b_Ms_putValue 43 = .ok (.iinc 3 (-8), 3) := by decide +kernel
theorem d_Ms_putValue_46 : decode b_Ms_putValue 46 = .ok (.goto (-15), 3) := by decide +kernel
theorem d_Ms_putValue_49 : decode b_Ms_putValue 49 = .ok (.return_, 1) := by decide +kernel
theorem d_Ms_takeValue_0 : decode b_Ms_takeValue 0 = .ok (.aload_n 0, 1) := by decide +kernel
theorem d_Ms_takeValue_1 : decode b_Ms_takeValue 1 = .ok (.invokevirtual 94, 3) := by decide +kernel
theorem d_Ms_takeValue_4 : decode b_Ms_takeValue 4 = .ok (.iconst (1), 1) := by decide +kernel
theorem d_Ms_takeValue_5 : decode b_Ms_takeValue 5 = .ok (.if_icmp .ne (13), 3) := by decide +kernel
theorem d_Ms_takeValue_8 : decode b_Ms_takeValue 8 = .ok (.ldc2_w 112, 3) := by decide +kernel
theorem d_Ms_takeValue_11 : decode b_Ms_takeValue 11 = .ok (.aload_n 0, 1) := by decide +kernel
theorem d_Ms_takeValue_12 : decode b_Ms_takeValue 12 = .ok (.invokevirtual 94, 3) := by decide +kernel
theorem d_Ms_takeValue_15 : decode b_Ms_takeValue 15 = .ok (.i2l, 1) := by decide +kernel
theorem d_Ms_takeValue_16 : decode b_Ms_takeValue 16 = .ok (.ladd, 1) := by decide +kernel
theorem d_Ms_takeValue_17 : decode b_Ms_takeValue 17 = .ok (.lreturn, 1) := by decide +kernel
theorem d_Ms_takeValue_18 : decode b_Ms_takeValue 18 = .ok (.iconst (0), 1) := by decide +kernel
theorem d_Ms_takeValue_19 : decode b_Ms_takeValue 19 = .ok (.istore_n 1, 1) := by decide +kernel
theorem d_Ms_takeValue_20 : decode b_Ms_takeValue 20 = .ok (.iconst (0), 1) := by decide +kernel
theorem d_Ms_takeValue_21 : decode b_Ms_takeValue 21 = .ok (.istore_n 2, 1) := by decide +kernel
theorem d_Ms_takeValue_22 : decode b_Ms_takeValue 22 = .ok (.iload_n 2, 1) := by decide +kernel
theorem d_Ms_takeValue_23 : decode b_Ms_takeValue 23 = .ok (.iconst (4), 1) := by decide +kernel
theorem d_Ms_takeValue_24 : decode b_Ms_takeValue 24 = .ok (.if_icmp .ge (19), 3) := by decide +kernel
theorem d_Ms_takeValue_27 : decode b_Ms_takeValue 27 = .ok (.iload_n 1, 1) := by decide +kernel
theorem d_Ms_takeValue_28 : decode b_Ms_takeValue 28 = .ok (.bipush (8), 2) := by decide +kernel
theorem d_Ms_takeValue_30 : decode b_Ms_takeValue 30 = .ok (.ishl, 1) := by decide +kernel
theorem d_Ms_takeValue_31 : decode b_Ms_takeValue 31 = .ok (.aload_n 0, 1) := by decide +kernel
theorem d_Ms_takeValue_32 : decode b_Ms_takeValue 32 = .ok (.invokevirtual 94, 3) := by decide +kernel
theorem d_Ms_takeValue_35 : decode b_Ms_takeValue 35 = .ok (.ior, 1) := by decide +kernel
theorem d_Ms_takeValue_36 : decode b_Ms_takeValue 36 = .ok (.istore_n 1, 1) := by decide +kernel
theorem d_Ms_takeValue_37 : decode b_Ms_takeValue 37 = .ok (.iinc 2 (1), 3) := by decide +kernel
theorem d_Ms_takeValue_40 : decode b_Ms_takeValue 40 = .ok (.goto (-18), 3) := by decide +kernel
theorem d_Ms_takeValue_43 : decode b_Ms_takeValue 43 = .ok (.iload_n 1, 1) := by decide +kernel
theorem d_Ms_takeValue_44 : decode b_Ms_takeValue 44 = .ok (.i2l, 1) := by decide +kernel
theorem d_Ms_takeValue_45 : decode b_Ms_takeValue 45 = .ok (.lreturn, 1) := by decide +kernel
theorem d_Ms_put_0 : decode b_Ms_put 0 = .ok (.aload_n 0, 1) := by decide +kernel
theorem d_Ms_put_1 : decode b_Ms_put 1 = .ok (.getfield 28, 3) := by decide +kernel
theorem d_Ms_put_4 : decode b_Ms_put 4 = .ok (.bipush (121), 2) := by decide +kernel
theorem d_Ms_put_6 : decode b_Ms_put 6 = .ok (.if_icmp .ge (24), 3) := by decide +kernel
theorem d_Ms_put_9 : decode b_Ms_put 9 = .ok (.aload_n 0, 1) := by decide +kernel
theorem d_Ms_put_10 : decode b_Ms_put 10 = .ok (.getfield 34, 3) := by decide +kernel
theorem d_Ms_put_13 : decode b_Ms_put 13 = .ok (.aload_n 0, 1) := by decide +kernel
theorem d_Ms_put_14 : decode b_Ms_put 14 = .ok (.getfield 28, 3) := by decide +kernel
theorem d_Ms_put_17 : decode b_Ms_put 17 = .ok (.iload_n 1, 1) := by decide +kernel
theorem d_Ms_put_18 : decode b_Ms_put 18 = .ok (.i2b, 1) := by decide +kernel
theorem d_Ms_put_19 : decode b_Ms_put 19 = .ok (.bastore, 1) := by decide +kernel
theorem d_Ms_put_20 : decode b_Ms_put 20 = .ok (.aload_n 0, 1) := by decide +kernel
theorem d_Ms_put_21 : decode b_Ms_put 21 = .ok (.dup, 1) := by decide +kernel
theorem d_Ms_put_22 : decode b_Ms_put 22 = .ok (.getfield 28, 3) := by decide +kernel
theorem d_Ms_put_25 : decode b_Ms_put 25 = .ok (.iconst (1), 1) := by decide +kernel
theorem d_Ms_put_26 : decode b_Ms_put 26 = .ok (.iadd, 1) := by decide +kernel
theorem d_Ms_put_27 : decode b_Ms_put 27 = .ok (.putfield 28, 3) := by decide +kernel
theorem d_Ms_put_30 : decode b_Ms_put 30 = .ok (.return_, 1) := by decide +kernel
theorem d_Ms_take_0 : decode b_Ms_take 0 = .ok (.aload_n 0, 1) := by decide +kernel
theorem d_Ms_take_1 : decode b_Ms_take 1 = .ok (.getfield 31, 3) := by decide +kernel
theorem d_Ms_take_4 : decode b_Ms_take 4 = .ok (.aload_n 0, 1) := by decide +kernel
theorem d_Ms_take_5 : decode b_Ms_take 5 = .ok (.getfield 28, 3) := by decide +kernel
theorem d_Ms_take_8 : decode b_Ms_take 8 = .ok (.if_icmp .lt (5), 3) := by decide +kernel
theorem d_Ms_take_11 : decode b_Ms_take 11 = .ok (.iconst (0), 1) := by decide +kernel
theorem d_Ms_take_12 : decode b_Ms_take 12 = .ok (.ireturn, 1) := by decide +kernel
theorem d_Ms_take_13 : decode b_Ms_take 13 = .ok (.aload_n 0, 1) := by decide +kernel
theorem d_Ms_take_14 : decode b_Ms_take 14 = .ok (.dup, 1) := by decide +kernel
theorem d_Ms_take_15 : decode b_Ms_take 15 = .ok (.getfield 31, 3) := by decide +kernel
theorem d_Ms_take_18 : decode b_Ms_take 18 = .ok (.iconst (1), 1) := by decide +kernel
theorem d_Ms_take_19 : decode b_Ms_take 19 = .ok (.iadd, 1) := by decide +kernel
theorem d_Ms_take_20 : decode b_Ms_take 20 = .ok (.putfield 31, 3) := by decide +kernel
theorem d_Ms_take_23 : decode b_Ms_take 23 = .ok (.aload_n 0, 1) := by decide +kernel
theorem d_Ms_take_24 : decode b_Ms_take 24 = .ok (.getfield 34, 3) := by decide +kernel
theorem d_Ms_take_27 : decode b_Ms_take 27 = .ok (.aload_n 0, 1) := by decide +kernel
theorem d_Ms_take_28 : decode b_Ms_take 28 = .ok (.getfield 31, 3) := by decide +kernel
theorem d_Ms_take_31 : decode b_Ms_take 31 = .ok (.iconst (1), 1) := by decide +kernel
theorem d_Ms_take_32 : decode b_Ms_take 32 = .ok (.isub, 1) := by decide +kernel
theorem d_Ms_take_33 : decode b_Ms_take 33 = .ok (.baload, 1) := by decide +kernel
theorem d_Ms_take_34 : decode b_Ms_take 34 = .ok (.sipush (255), 3) := by decide +kernel
theorem d_Ms_take_37 : decode b_Ms_take 37 = .ok (.iand, 1) := by decide +kernel
theorem d_Ms_take_38 : decode b_Ms_take 38 = .ok (.ireturn, 1) := by decide +kernel
theorem d_Ms_tell_0 : decode b_Ms_tell 0 = .ok (.iload_n 1, 1) := by decide +kernel
theorem d_Ms_tell_1 : decode b_Ms_tell 1 = .ok (.tableswitch (77) (0) (5) #[39, 52, 57, 62, 67, 72], 39) := by decide +kernel
theorem d_Ms_tell_40 : decode b_Ms_tell 40 = .ok (.aload_n 0, 1) := by decide +kernel
theorem d_Ms_tell_41 : decode b_Ms_tell 41 = .ok (.getfield 9, 3) := by decide +kernel
theorem d_Ms_tell_44 : decode b_Ms_tell 44 = .ok (.ifCond .eq (7), 3) := by decide +kernel
theorem d_Ms_tell_47 : decode b_Ms_tell 47 = .ok (.iconst (0), 1) := by decide +kernel
theorem d_Ms_tell_48 : decode b_Ms_tell 48 = .ok (.goto (4), 3) := by decide +kernel
theorem d_Ms_tell_51 : decode b_Ms_tell 51 = .ok (.iconst (1), 1) := by decide +kernel
theorem d_Ms_tell_52 : decode b_Ms_tell 52 = .ok (.ireturn, 1) := by decide +kernel
theorem d_Ms_tell_53 : decode b_Ms_tell 53 = .ok (.aload_n 0, 1) := by decide +kernel
theorem d_Ms_tell_54 : decode b_Ms_tell 54 = .ok (.getfield 15, 3) := by decide +kernel
theorem d_Ms_tell_57 : decode b_Ms_tell 57 = .ok (.ireturn, 1) := by decide +kernel
theorem d_Ms_tell_58 : decode b_Ms_tell 58 = .ok (.aload_n 0, 1) := by decide +kernel
theorem d_Ms_tell_59 : decode b_Ms_tell 59 = .ok (.getfield 19, 3) := by decide +kernel
theorem d_Ms_tell_62 : decode b_Ms_tell 62 = .ok (.ireturn, 1) := by decide +kernel
theorem d_Ms_tell_63 : decode b_Ms_tell 63 = .ok (.aload_n 0, 1) := by decide +kernel
theorem d_Ms_tell_64 : decode b_Ms_tell 64 = .ok (.getfield 22, 3) := by decide +kernel
theorem d_Ms_tell_67 : decode b_Ms_tell 67 = .ok (.ireturn, 1) := by decide +kernel
theorem d_Ms_tell_68 : decode b_Ms_tell 68 = .ok (.aload_n 0, 1) := by decide +kernel
theorem d_Ms_tell_69 : decode b_Ms_tell 69 = .ok (.getfield 25, 3) := by decide +kernel
theorem d_Ms_tell_72 : decode b_Ms_tell 72 = .ok (.ireturn, 1) := by decide +kernel
theorem d_Ms_tell_73 : decode b_Ms_tell 73 = .ok (.aload_n 0, 1) := by decide +kernel
theorem d_Ms_tell_74 : decode b_Ms_tell 74 = .ok (.getfield 28, 3) := by decide +kernel
theorem d_Ms_tell_77 : decode b_Ms_tell 77 = .ok (.ireturn, 1) := by decide +kernel
theorem d_Ms_tell_78 : decode b_Ms_tell 78 = .ok (.iload_n 1, 1) := by decide +kernel
theorem d_Ms_tell_79 : decode b_Ms_tell 79 = .ok (.bipush (10), 2) := by decide +kernel
theorem d_Ms_tell_81 : decode b_Ms_tell 81 = .ok (.if_icmp .lt (30), 3) := by decide +kernel
theorem d_Ms_tell_84 : decode b_Ms_tell 84 = .ok (.iload_n 1, 1) := by decide +kernel
theorem d_Ms_tell_85 : decode b_Ms_tell 85 = .ok (.bipush (10), 2) := by decide +kernel
theorem d_Ms_tell_87 : decode b_Ms_tell 87 = .ok (.isub, 1) := by decide +kernel
theorem d_Ms_tell_88 : decode b_Ms_tell 88 = .ok (.aload_n 0, 1) := by decide +kernel
theorem d_Ms_tell_89 : decode b_Ms_tell 89 = .ok (.getfield 28, 3) := by decide +kernel
theorem d_Ms_tell_92 : decode b_Ms_tell 92 = .ok (.if_icmp .ge (19), 3) := by decide +kernel
theorem d_Ms_tell_95 : decode b_Ms_tell 95 = .ok (.aload_n 0, 1) := by decide +kernel
theorem d_Ms_tell_96 : decode b_Ms_tell 96 = .ok (.getfield 34, 3) := by decide +kernel
theorem d_Ms_tell_99 : decode b_Ms_tell 99 = .ok (.iload_n 1, 1) := by decide +kernel
theorem d_Ms_tell_100 : decode b_Ms_tell 100 = .ok (.bipush (10), 2) := by decide +kernel
theorem d_Ms_tell_102 : decode b_Ms_tell 102 = .ok (.isub, 1) := by decide +kernel
theorem d_Ms_tell_103 : decode b_Ms_tell 103 = .ok (.baload, 1) := by decide +kernel
theorem d_Ms_tell_104 : decode b_Ms_tell 104 = .ok (.sipush (255), 3) := by decide +kernel
theorem d_Ms_tell_107 : decode b_Ms_tell 107 = .ok (.iand, 1) := by decide +kernel
theorem d_Ms_tell_108 : decode b_Ms_tell 108 = .ok (.goto (4), 3) := by decide +kernel
theorem d_Ms_tell_111 : decode b_Ms_tell 111 = .ok (.iconst (-1), 1) := by decide +kernel
theorem d_Ms_tell_112 : decode b_Ms_tell 112 = .ok (.ireturn, 1) := by decide +kernel
theorem d_Pr_init_0 : decode b_Pr_init 0 = .ok (.aload_n 0, 1) := by decide +kernel
theorem d_Pr_init_1 : decode b_Pr_init 1 = .ok (.invokespecial 3, 3) := by decide +kernel
theorem d_Pr_init_4 : decode b_Pr_init 4 = .ok (.aload_n 0, 1) := by decide +kernel
theorem d_Pr_init_5 : decode b_Pr_init 5 = .ok (.new 9, 3) := by decide +kernel
theorem d_Pr_init_8 : decode b_Pr_init 8 = .ok (.dup, 1) := by decide +kernel
theorem d_Pr_init_9 : decode b_Pr_init 9 = .ok (.invokespecial 11, 3) := by decide +kernel
theorem d_Pr_init_12 : decode b_Pr_init 12 = .ok (.putfield 12, 3) := by decide +kernel
theorem d_Pr_init_15 : decode b_Pr_init 15 = .ok (.aload_n 0, 1) := by decide +kernel
theorem d_Pr_init_16 : decode b_Pr_init 16 = .ok (.iconst (0), 1) := by decide +kernel
theorem d_Pr_init_17 : decode b_Pr_init 17 = .ok (.putfield 18, 3) := by decide +kernel
theorem d_Pr_init_20 : decode b_Pr_init 20 = .ok (.aload_n 0, 1) := by decide +kernel
theorem d_Pr_init_21 : decode b_Pr_init 21 = .ok (.iconst (0), 1) := by decide +kernel
theorem d_Pr_init_22 : decode b_Pr_init 22 = .ok (.putfield 22, 3) := by decide +kernel
theorem d_Pr_init_25 : decode b_Pr_init 25 = .ok (.aload_n 0, 1) := by decide +kernel
theorem d_Pr_init_26 : decode b_Pr_init 26 = .ok (.lconst 0, 1) := by decide +kernel
theorem d_Pr_init_27 : decode b_Pr_init 27 = .ok (.putfield 25, 3) := by decide +kernel
theorem d_Pr_init_30 : decode b_Pr_init 30 = .ok (.aload_n 0, 1) := by decide +kernel
theorem d_Pr_init_31 : decode b_Pr_init 31 = .ok (.lconst 0, 1) := by decide +kernel
theorem d_Pr_init_32 : decode b_Pr_init 32 = .ok (.putfield 29, 3) := by decide +kernel
theorem d_Pr_init_35 : decode b_Pr_init 35 = .ok (.aload_n 0, 1) := by decide +kernel
theorem d_Pr_init_36 : decode b_Pr_init 36 = .ok (.iconst (0), 1) := by decide +kernel
theorem d_Pr_init_37 : decode b_Pr_init 37 = .ok (.putfield 32, 3) := by decide +kernel
theorem d_Pr_init_40 : decode b_Pr_init 40 = .ok (.return_, 1) := by decide +kernel
theorem d_Pr_perform_0 : decode b_Pr_perform 0 = .ok (.aload_n 1, 1) := by decide +kernel
theorem d_Pr_perform_1 : decode b_Pr_perform 1 = .ok (.dup, 1) := by decide +kernel
theorem d_Pr_perform_2 : decode b_Pr_perform 2 = .ok (.getfield 35, 3) := by decide +kernel
theorem d_Pr_perform_5 : decode b_Pr_perform 5 = .ok (.iconst (1), 1) := by decide +kernel
theorem d_Pr_perform_6 : decode b_Pr_perform 6 = .ok (.isub, 1) := by decide +kernel
theorem d_Pr_perform_7 : decode b_Pr_perform 7 = .ok (.putfield 35, 3) := by decide +kernel
theorem d_Pr_perform_10 : decode b_Pr_perform 10 = .ok (.aload_n 0, 1) := by decide +kernel
theorem d_Pr_perform_11 : decode b_Pr_perform 11 = .ok (.aload_n 1, 1) := by decide +kernel
theorem d_Pr_perform_12 : decode b_Pr_perform 12 = .ok (.aload_n 2, 1) := by decide +kernel
theorem d_Pr_perform_13 : decode b_Pr_perform 13 = .ok (.invokevirtual 40, 3) := by decide +kernel
theorem d_Pr_perform_16 : decode b_Pr_perform 16 = .ok (.ifCond .eq (19), 3) := by decide +kernel
theorem d_Pr_perform_19 : decode b_Pr_perform 19 = .ok (.aload_n 0, 1) := by decide +kernel
theorem d_Pr_perform_20 : decode b_Pr_perform 20 = .ok (.aload_n 1, 1) := by decide +kernel
theorem d_Pr_perform_21 : decode b_Pr_perform 21 = .ok (.invokevirtual 44, 3) := by decide +kernel
theorem d_Pr_perform_24 : decode b_Pr_perform 24 = .ok (.ifCond .eq (11), 3) := by decide +kernel
theorem d_Pr_perform_27 : decode b_Pr_perform 27 = .ok (.aload_n 0, 1) := by decide +kernel
theorem d_Pr_perform_28 : decode b_Pr_perform 28 = .ok (.aload_n 1, 1) := by decide +kernel
theorem d_Pr_perform_29 : decode b_Pr_perform 29 = .ok (.invokevirtual 48, 3) := by decide +kernel
theorem d_Pr_perform_32 : decode b_Pr_perform 32 = .ok (.ifCond .ne (5), 3) := by decide +kernel
theorem d_Pr_perform_35 : decode b_Pr_perform 35 = .ok (.iconst (5), 1) := by decide +kernel
theorem d_Pr_perform_36 : decode b_Pr_perform 36 = .ok (.ireturn, 1) := by decide +kernel
theorem d_Pr_perform_37 : decode b_Pr_perform 37 = .ok (.aload_n 1, 1) := by decide +kernel
theorem d_Pr_perform_38 : decode b_Pr_perform 38 = .ok (.dup, 1) := by decide +kernel
theorem d_Pr_perform_39 : decode b_Pr_perform 39 = .ok (.getfield 51, 3) := by decide +kernel
theorem d_Pr_perform_42 : decode b_Pr_perform 42 = .ok (.getstatic 54, 3) := by decide +kernel
theorem d_Pr_perform_45 : decode b_Pr_perform 45 = .ok (.aload_n 0, 1) := by decide +kernel
theorem d_Pr_perform_46 : decode b_Pr_perform 46 = .ok (.getfield 18, 3) := by decide +kernel
theorem d_Pr_perform_49 : decode b_Pr_perform 49 = .ok (.iaload, 1) := by decide +kernel
theorem d_Pr_perform_50 : decode b_Pr_perform 50 = .ok (.iadd, 1) := by decide +kernel
theorem d_Pr_perform_51 : decode b_Pr_perform 51 = .ok (.putfield 51, 3) := by decide +kernel
theorem d_Pr_perform_54 : decode b_Pr_perform 54 = .ok (.aload_n 1, 1) := by decide +kernel
theorem d_Pr_perform_55 : decode b_Pr_perform 55 = .ok (.dup, 1) := by decide +kernel
theorem d_Pr_perform_56 : decode b_Pr_perform 56 = .ok (.getfield 58, 3) := by decide +kernel
theorem d_Pr_perform_59 : decode b_Pr_perform 59 = .ok (.getstatic 61, 3) := by decide +kernel
theorem d_Pr_perform_62 : decode b_Pr_perform 62 = .ok (.aload_n 0, 1) := by decide +kernel
theorem d_Pr_perform_63 : decode b_Pr_perform 63 = .ok (.getfield 18, 3) := by decide +kernel
theorem d_Pr_perform_66 : decode b_Pr_perform 66 = .ok (.iaload, 1) := by decide +kernel
theorem d_Pr_perform_67 : decode b_Pr_perform 67 = .ok (.isub, 1) := by decide +kernel
theorem d_Pr_perform_68 : decode b_Pr_perform 68 = .ok (.putfield 58, 3) := by decide +kernel
theorem d_Pr_perform_71 : decode b_Pr_perform 71 = .ok (.aload_n 0, 1) := by decide +kernel
theorem d_Pr_perform_72 : decode b_Pr_perform 72 = .ok (.getfield 18, 3) := by decide +kernel
theorem d_Pr_perform_75 : decode b_Pr_perform 75 = .ok (.bipush (14), 2) := by decide +kernel
theorem d_Pr_perform_77 : decode b_Pr_perform 77 = .ok (.if_icmp .lt (11), 3) := by decide +kernel
theorem d_Pr_perform_80 : decode b_Pr_perform 80 = .ok (.aload_n 0, 1) := by decide +kernel
theorem d_Pr_perform_81 : decode b_Pr_perform 81 = .ok (.aload_n 1, 1) := by decide +kernel
theorem d_Pr_perform_82 : decode b_Pr_perform 82 = .ok (.invokevirtual 64, 3) := by decide +kernel
theorem d_Pr_perform_85 : decode b_Pr_perform 85 = .ok (.goto (11), 3) := by decide +kernel
theorem d_Pr_perform_88 : decode b_Pr_perform 88 = .ok (.aload_n 0, 1) := by decide +kernel
theorem d_Pr_perform_89 : decode b_Pr_perform 89 = .ok (.aload_n 1, 1) := by decide +kernel
theorem d_Pr_perform_90 : decode b_Pr_perform 90 = .ok (.aload_n 3, 1) := by decide +kernel
theorem d_Pr_perform_91 : decode b_Pr_perform 91 = .ok (.iload 4, 2) := by decide +kernel
theorem d_Pr_perform_93 : decode b_Pr_perform 93 = .ok (.invokevirtual 68, 3) := by decide +kernel
theorem d_Pr_perform_96 : decode b_Pr_perform 96 = .ok (.istore 5, 2) := by decide +kernel
theorem d_Pr_perform_98 : decode b_Pr_perform 98 = .ok (.aload_n 0, 1) := by decide +kernel
theorem d_Pr_perform_99 : decode b_Pr_perform 99 = .ok (.getfield 12, 3) := by decide +kernel
theorem d_Pr_perform_102 : decode b_Pr_perform 102 = .ok (.aload_n 1, 1) := by decide +kernel
theorem d_Pr_perform_103 : decode b_Pr_perform 103 = .ok (.invokevirtual 72, 3) := by decide +kernel
theorem d_Pr_perform_106 : decode b_Pr_perform 106 = .ok (.iload 5, 2) := by decide +kernel
theorem d_Pr_perform_108 : decode b_Pr_perform 108 = .ok (.ireturn, 1) := by decide +kernel
theorem d_Pr_read_0 : decode b_Pr_read 0 = .ok (.aload_n 0, 1) := by decide +kernel
theorem d_Pr_read_1 : decode b_Pr_read 1 = .ok (.aload_n 2, 1) := by decide +kernel
theorem d_Pr_read_2 : decode b_Pr_read 2 = .ok (.aload_n 1, 1) := by decide +kernel
theorem d_Pr_read_3 : decode b_Pr_read 3 = .ok (.getfield 51, 3) := by decide +kernel
theorem d_Pr_read_6 : decode b_Pr_read 6 = .ok (.invokevirtual 76, 3) := by decide +kernel
theorem d_Pr_read_9 : decode b_Pr_read 9 = .ok (.putfield 18, 3) := by decide +kernel
theorem d_Pr_read_12 : decode b_Pr_read 12 = .ok (.aload_n 0, 1) := by decide +kernel
theorem d_Pr_read_13 : decode b_Pr_read 13 = .ok (.getfield 18, 3) := by decide +kernel
theorem d_Pr_read_16 : decode b_Pr_read 16 = .ok (.ifCond .lt (12), 3) := by decide +kernel
theorem d_Pr_read_19 : decode b_Pr_read 19 = .ok (.aload_n 0, 1) := by decide +kernel
theorem d_Pr_read_20 : decode b_Pr_read 20 = .ok (.getfield 18, 3) := by decide +kernel
theorem d_Pr_read_23 : decode b_Pr_read 23 = .ok (.bipush (19), 2) := by decide +kernel
theorem d_Pr_read_25 : decode b_Pr_read 25 = .ok (.if_icmp .le (5), 3) := by decide +kernel
theorem d_Pr_read_28 : decode b_Pr_read 28 = .ok (.iconst (0), 1) := by decide +kernel
theorem d_Pr_read_29 : decode b_Pr_read 29 = .ok (.ireturn, 1) := by decide +kernel
theorem d_Pr_read_30 : decode b_Pr_read 30 = .ok (.aload_n 0, 1) := by decide +kernel
theorem d_Pr_read_31 : decode b_Pr_read 31 = .ok (.getstatic 54, 3) := by decide +kernel
theorem d_Pr_read_34 : decode b_Pr_read 34 = .ok (.aload_n 0, 1) := by decide +kernel
theorem d_Pr_read_35 : decode b_Pr_read 35 = .ok (.getfield 18, 3) := by decide +kernel
theorem d_Pr_read_38 : decode b_Pr_read 38 = .ok (.iaload, 1) := by decide +kernel
theorem d_Pr_read_39 : decode b_Pr_read 39 = .ok (.iconst (2), 1) := by decide +kernel
theorem d_Pr_read_40 : decode b_Pr_read 40 = .ok (.if_icmp .ne (16), 3) := by decide +kernel
theorem d_Pr_read_43 : decode b_Pr_read 43 = .ok (.aload_n 2, 1) := by decide +kernel
theorem d_Pr_read_44 : decode b_Pr_read 44 = .ok (.aload_n 1, 1) := by decide +kernel
theorem d_Pr_read_45 : decode b_Pr_read 45 = .ok (.getfield 51, 3) := by decide +kernel
theorem d_Pr_read_48 : decode b_Pr_read 48 = .ok (.iconst (1), 1) := by decide +kernel
theorem d_Pr_read_49 : decode b_Pr_read 49 = .ok (.iadd, 1) := by decide +kernel
theorem d_Pr_read_50 : decode b_Pr_read 50 = .ok (.invokevirtual 76, 3) := by decide +kernel
theorem d_Pr_read_53 : decode b_Pr_read 53 = .ok (.goto (4), 3) := by decide +kernel
theorem d_Pr_read_56 : decode b_Pr_read 56 = .ok (.iconst (0), 1) := by decide +kernel
theorem d_Pr_read_57 : decode b_Pr_read 57 = .ok (.putfield 22, 3) := by decide +kernel
theorem d_Pr_read_60 : decode b_Pr_read 60 = .ok (.aload_n 0, 1) := by decide +kernel
theorem d_Pr_read_61 : decode b_Pr_read 61 = .ok (.getfield 22, 3) := by decide +kernel
theorem d_Pr_read_64 : decode b_Pr_read 64 = .ok (.ifCond .lt (7), 3) := by decide +kernel
theorem d_Pr_read_67 : decode b_Pr_read 67 = .ok (.iconst (1), 1) := by decide +kernel
theorem d_Pr_read_68 : decode b_Pr_read 68 = .ok (.goto (4), 3) := by decide +kernel
theorem d_Pr_read_71 : decode b_Pr_read 71 = .ok (.iconst (0), 1) := by decide +kernel
theorem d_Pr_read_72 : decode b_Pr_read 72 = .ok (.ireturn, 1) := by decide +kernel
theorem d_Pr_takesFit_0 : decode b_Pr_takesFit 0 = .ok (.getstatic 61, 3) := by decide +kernel
theorem d_Pr_takesFit_3 : decode b_Pr_takesFit 3 = .ok (.aload_n 0, 1) := by decide +kernel
theorem d_Pr_takesFit_4 : decode b_Pr_takesFit 4 = .ok (.getfield 18, 3) := by decide +kernel
theorem d_Pr_takesFit_7 : decode b_Pr_takesFit 7 = .ok (.iaload, 1) := by decide +kernel
theorem d_Pr_takesFit_8 : decode b_Pr_takesFit 8 = .ok (.istore_n 2, 1) := by decide +kernel
theorem d_Pr_takesFit_9 : decode b_Pr_takesFit 9 = .ok (.aload_n 1, 1) := by decide +kernel
theorem d_Pr_takesFit_10 : decode b_Pr_takesFit 10 = .ok (.getfield 58, 3) := by decide +kernel
theorem d_Pr_takesFit_13 : decode b_Pr_takesFit 13 = .ok (.iload_n 2, 1) := by decide +kernel
theorem d_Pr_takesFit_14 : decode b_Pr_takesFit 14 = .ok (.if_icmp .lt (23), 3) := by decide +kernel
theorem d_Pr_takesFit_17 : decode b_Pr_takesFit 17 = .ok (.aload_n 1, 1) := by decide +kernel
theorem d_Pr_takesFit_18 : decode b_Pr_takesFit 18 = .ok (.getfield 58, 3) := by decide +kernel
theorem d_Pr_takesFit_21 : decode b_Pr_takesFit 21 = .ok (.iload_n 2, 1) := by decide +kernel
theorem d_Pr_takesFit_22 : decode b_Pr_takesFit 22 = .ok (.isub, 1) := by decide +kernel
theorem d_Pr_takesFit_23 : decode b_Pr_takesFit 23 = .ok (.getstatic 82, 3) := by decide +kernel
theorem d_Pr_takesFit_26 : decode b_Pr_takesFit 26 = .ok (.aload_n 0, 1) := by decide +kernel
theorem d_Pr_takesFit_27 : decode b_Pr_takesFit 27 = .ok (.getfield 18, 3) := by decide +kernel
theorem d_Pr_takesFit_30 : decode b_Pr_takesFit 30 = .ok (.iaload, 1) := by decide +kernel
theorem d_Pr_takesFit_31 : decode b_Pr_takesFit 31 = .ok (.iadd, 1) := by decide +kernel
theorem d_Pr_takesFit_32 : decode b_Pr_takesFit 32 = .ok (.bipush (6), 2) := by decide +kernel
theorem d_Pr_takesFit_34 : decode b_Pr_takesFit 34 = .ok (.if_icmp .le (5), 3) := by decide +kernel
theorem d_Pr_takesFit_37 : decode b_Pr_takesFit 37 = .ok (.iconst (0), 1) := by decide +kernel
theorem d_Pr_takesFit_38 : decode b_Pr_takesFit 38 = .ok (.ireturn, 1) := by decide +kernel
theorem d_Pr_takesFit_39 : decode b_Pr_takesFit 39 = .ok (.iload_n 2, 1) := by decide +kernel
theorem d_Pr_takesFit_40 : decode b_Pr_takesFit 40 = .ok (.ifCond .ne (5), 3) := by decide +kernel
theorem d_Pr_takesFit_43 : decode b_Pr_takesFit 43 = .ok (.iconst (1), 1) := by decide +kernel
theorem d_Pr_takesFit_44 : decode b_Pr_takesFit 44 = .ok (.ireturn, 1) := by decide +kernel
theorem d_Pr_takesFit_45 : decode b_Pr_takesFit 45 = .ok (.aload_n 0, 1) := by decide +kernel
theorem d_Pr_takesFit_46 : decode b_Pr_takesFit 46 = .ok (.aload_n 1, 1) := by decide +kernel
theorem d_Pr_takesFit_47 : decode b_Pr_takesFit 47 = .ok (.getfield 85, 3) := by decide +kernel
theorem d_Pr_takesFit_50 : decode b_Pr_takesFit 50 = .ok (.aload_n 1, 1) := by decide +kernel
theorem d_Pr_takesFit_51 : decode b_Pr_takesFit 51 = .ok (.getfield 58, 3) := by decide +kernel
theorem d_Pr_takesFit_54 : decode b_Pr_takesFit 54 = .ok (.iconst (1), 1) := by decide +kernel
theorem d_Pr_takesFit_55 : decode b_Pr_takesFit 55 = .ok (.isub, 1) := by decide +kernel
theorem d_Pr_takesFit_56 : decode b_Pr_takesFit 56 = .ok (.laload, 1) := by decide +kernel
theorem d_Pr_takesFit_57 : decode b_Pr_takesFit 57 = .ok (.putfield 29, 3) := by decide +kernel
theorem d_Pr_takesFit_60 : decode b_Pr_takesFit 60 = .ok (.aload_n 0, 1) := by decide +kernel
theorem d_Pr_takesFit_61 : decode b_Pr_takesFit 61 = .ok (.aload_n 1, 1) := by decide +kernel
theorem d_Pr_takesFit_62 : decode b_Pr_takesFit 62 = .ok (.getfield 85, 3) := by decide +kernel
theorem d_Pr_takesFit_65 : decode b_Pr_takesFit 65 = .ok (.aload_n 1, 1) := by decide +kernel
theorem d_Pr_takesFit_66 : decode b_Pr_takesFit 66 = .ok (.getfield 58, 3) := by decide +kernel
theorem d_Pr_takesFit_69 : decode b_Pr_takesFit 69 = .ok (.iload_n 2, 1) := by decide +kernel
theorem d_Pr_takesFit_70 : decode b_Pr_takesFit 70 = .ok (.isub, 1) := by decide +kernel
theorem d_Pr_takesFit_71 : decode b_Pr_takesFit 71 = .ok (.laload, 1) := by decide +kernel
theorem d_Pr_takesFit_72 : decode b_Pr_takesFit 72 = .ok (.putfield 25, 3) := by decide +kernel
theorem d_Pr_takesFit_75 : decode b_Pr_takesFit 75 = .ok (.aload_n 0, 1) := by decide +kernel
theorem d_Pr_takesFit_76 : decode b_Pr_takesFit 76 = .ok (.getfield 25, 3) := by decide +kernel
theorem d_Pr_takesFit_79 : decode b_Pr_takesFit 79 = .ok (.getstatic 89, 3) := by decide +kernel
theorem d_Pr_takesFit_82 : decode b_Pr_takesFit 82 = .ok (.aload_n 0, 1) := by decide +kernel
theorem d_Pr_takesFit_83 : decode b_Pr_takesFit 83 = .ok (.getfield 18, 3) := by decide +kernel
theorem d_Pr_takesFit_86 : decode b_Pr_takesFit 86 = .ok (.iaload, 1) := by decide +kernel
theorem d_Pr_takesFit_87 : decode b_Pr_takesFit 87 = .ok (.invokestatic 92, 3) := by decide +kernel
theorem d_Pr_takesFit_90 : decode b_Pr_takesFit 90 = .ok (.ifCond .eq (25), 3) := by decide +kernel
theorem d_Pr_takesFit_93 : decode b_Pr_takesFit 93 = .ok (.aload_n 0, 1) := by decide +kernel
theorem d_Pr_takesFit_94 : decode b_Pr_takesFit 94 = .ok (.getfield 29, 3) := by decide +kernel
theorem d_Pr_takesFit_97 : decode b_Pr_takesFit 97 = .ok (.getstatic 96, 3) := by decide +kernel
theorem d_Pr_takesFit_100 : decode b_Pr_takesFit 100 = .ok (.aload_n 0, 1) := by decide +kernel
theorem d_Pr_takesFit_101 : decode b_Pr_takesFit 101 = .ok (.getfield 18, 3) := by decide +kernel
theorem d_Pr_takesFit_104 : decode b_Pr_takesFit 104 = .ok (.iaload, 1) := by decide +kernel
theorem d_Pr_takesFit_105 : decode b_Pr_takesFit 105 = .ok (.invokestatic 92, 3) := by decide +kernel
theorem d_Pr_takesFit_108 : decode b_Pr_takesFit 108 = .ok (.ifCond .eq (7), 3) := by decide +kernel
theorem d_Pr_takesFit_111 : decode b_Pr_takesFit 111 = .ok (.iconst (1), 1) := by decide +kernel
theorem d_Pr_takesFit_112 : decode b_Pr_takesFit 112 = .ok (.goto (4), 3) := by decide +kernel
theorem d_Pr_takesFit_115 : decode b_Pr_takesFit 115 = .ok (.iconst (0), 1) := by decide +kernel
theorem d_Pr_takesFit_116 : decode b_Pr_takesFit 116 = .ok (.ireturn, 1) := by decide +kernel
theorem d_Pr_isOfKind_0 : decode b_Pr_isOfKind 0 = .ok (.iload_n 2, 1) := by decide +kernel
theorem d_Pr_isOfKind_1 : decode b_Pr_isOfKind 1 = .ok (.ifCond .eq (20), 3) := by decide +kernel
theorem d_Pr_isOfKind_4 : decode b_Pr_isOfKind 4 = .ok (.lload_n 0, 1) := by decide +kernel
theorem d_Pr_isOfKind_5 : decode b_Pr_isOfKind 5 = .ok (.invokestatic 99, 3) := by decide +kernel
theorem d_Pr_isOfKind_8 : decode b_Pr_isOfKind 8 = .ok (.iload_n 2, 1) := by decide +kernel
theorem d_Pr_isOfKind_9 : decode b_Pr_isOfKind 9 = .ok (.iconst (2), 1) := by decide +kernel
theorem d_Pr_isOfKind_10 : decode b_Pr_isOfKind 10 = .ok (.if_icmp .ne (7), 3) := by decide +kernel
theorem d_Pr_isOfKind_13 : decode b_Pr_isOfKind 13 = .ok (.iconst (1), 1) := by decide +kernel
theorem d_Pr_isOfKind_14 : decode b_Pr_isOfKind 14 = .ok (.goto (4), 3) := by decide +kernel
theorem d_Pr_isOfKind_17 : decode b_Pr_isOfKind 17 = .ok (.iconst (0), 1) := by decide +kernel
theorem d_Pr_isOfKind_18 : decode b_Pr_isOfKind 18 = .ok (.if_icmp .ne (7), 3) := by decide +kernel
theorem d_Pr_isOfKind_21 : decode b_Pr_isOfKind 21 = .ok (.iconst (1), 1) := by decide +kernel
theorem d_Pr_isOfKind_22 : decode b_Pr_isOfKind 22 = .ok (.goto (4), 3) := by decide +kernel
theorem d_Pr_isOfKind_25 : decode b_Pr_isOfKind 25 = .ok (.iconst (0), 1) := by decide +kernel
theorem d_Pr_isOfKind_26 : decode b_Pr_isOfKind 26 = .ok (.ireturn, 1) := by decide +kernel
theorem d_Pr_boundsFit_0 : decode b_Pr_boundsFit 0 = .ok (.aload_n 0, 1) := by decide +kernel
theorem d_Pr_boundsFit_1 : decode b_Pr_boundsFit 1 = .ok (.getfield 18, 3) := by decide +kernel
theorem d_Pr_boundsFit_4 : decode b_Pr_boundsFit 4 = .ok (.tableswitch (170) (5) (14) #[56, 170, 73, 88, 103, 170, 170, 170, 129, 155], 56) := by decide +kernel
theorem d_Pr_boundsFit_60 : decode b_Pr_boundsFit 60 = .ok (.aload_n 0, 1) := by decide +kernel
theorem d_Pr_boundsFit_61 : decode b_Pr_boundsFit 61 = .ok (.getfield 22, 3) := by decide +kernel
theorem d_Pr_boundsFit_64 : decode b_Pr_boundsFit 64 = .ok (.aload_n 1, 1) := by decide +kernel
theorem d_Pr_boundsFit_65 : decode b_Pr_boundsFit 65 = .ok (.getfield 58, 3) := by decide +kernel
theorem d_Pr_boundsFit_68 : decode b_Pr_boundsFit 68 = .ok (.if_icmp .ge (7), 3) := by decide +kernel
theorem d_Pr_boundsFit_71 : decode b_Pr_boundsFit 71 = .ok (.iconst (1), 1) := by decide +kernel
theorem d_Pr_boundsFit_72 : decode b_Pr_boundsFit 72 = .ok (.goto (4), 3) := by decide +kernel
theorem d_Pr_boundsFit_75 : decode b_Pr_boundsFit 75 = .ok (.iconst (0), 1) := by decide +kernel
theorem d_Pr_boundsFit_76 : decode b_Pr_boundsFit 76 = .ok (.ireturn, 1) := by decide +kernel
theorem d_Pr_boundsFit_77 : decode b_Pr_boundsFit 77 = .ok (.aload_n 0, 1) := by decide +kernel
theorem d_Pr_boundsFit_78 : decode b_Pr_boundsFit 78 = .ok (.getfield 22, 3) := by decide +kernel
theorem d_Pr_boundsFit_81 : decode b_Pr_boundsFit 81 = .ok (.bipush (8), 2) := by decide +kernel
theorem d_Pr_boundsFit_83 : decode b_Pr_boundsFit 83 = .ok (.if_icmp .ge (7), 3) := by decide +kernel
theorem d_Pr_boundsFit_86 : decode b_Pr_boundsFit 86 = .ok (.iconst (1), 1) := by decide +kernel
theorem d_Pr_boundsFit_87 : decode b_Pr_boundsFit 87 = .ok (.goto (4), 3) := by decide +kernel
theorem d_Pr_boundsFit_90 : decode b_Pr_boundsFit 90 = .ok (.iconst (0), 1) := by decide +kernel
theorem d_Pr_boundsFit_91 : decode b_Pr_boundsFit 91 = .ok (.ireturn, 1) := by decide +kernel
theorem d_Pr_boundsFit_92 : decode b_Pr_boundsFit 92 = .ok (.aload_n 1, 1) := by decide +kernel
theorem d_Pr_boundsFit_93 : decode b_Pr_boundsFit 93 = .ok (.getfield 103, 3) := by decide +kernel
theorem d_Pr_boundsFit_96 : decode b_Pr_boundsFit 96 = .ok (.bipush (16), 2) := by decide +kernel
theorem d_Pr_boundsFit_98 : decode b_Pr_boundsFit 98 = .ok (.if_icmp .ge (7), 3) := by decide +kernel
theorem d_Pr_boundsFit_101 : decode b_Pr_boundsFit 101 = .ok (.iconst (1), 1) := by decide +kernel
theorem d_Pr_boundsFit_102 : decode b_Pr_boundsFit 102 = .ok (.goto (4), 3) := by decide +kernel
theorem d_Pr_boundsFit_105 : decode b_Pr_boundsFit 105 = .ok (.iconst (0), 1) := by decide +kernel
theorem d_Pr_boundsFit_106 : decode b_Pr_boundsFit 106 = .ok (.ireturn, 1) := by decide +kernel
theorem d_Pr_boundsFit_107 : decode b_Pr_boundsFit 107 = .ok (.aload_n 0, 1) := by decide +kernel
theorem d_Pr_boundsFit_108 : decode b_Pr_boundsFit 108 = .ok (.getfield 29, 3) := by decide +kernel
theorem d_Pr_boundsFit_111 : decode b_Pr_boundsFit 111 = .ok (.lconst 0, 1) := by decide +kernel
theorem d_Pr_boundsFit_112 : decode b_Pr_boundsFit 112 = .ok (.lcmp, 1) := by decide +kernel
theorem d_Pr_boundsFit_113 : decode b_Pr_boundsFit 113 = .ok (.ifCond .lt (18), 3) := by decide +kernel
theorem d_Pr_boundsFit_116 : decode b_Pr_boundsFit 116 = .ok (.aload_n 0, 1) := by decide +kernel
theorem d_Pr_boundsFit_117 : decode b_Pr_boundsFit 117 = .ok (.getfield 29, 3) := by decide +kernel
theorem d_Pr_boundsFit_120 : decode b_Pr_boundsFit 120 = .ok (.ldc2_w 106, 3) := by decide +kernel
theorem d_Pr_boundsFit_123 : decode b_Pr_boundsFit 123 = .ok (.lcmp, 1) := by decide +kernel
theorem d_Pr_boundsFit_124 : decode b_Pr_boundsFit 124 = .ok (.ifCond .ge (7), 3) := by decide +kernel
theorem d_Pr_boundsFit_127 : decode b_Pr_boundsFit 127 = .ok (.iconst (1), 1) := by decide +kernel
theorem d_Pr_boundsFit_128 : decode b_Pr_boundsFit 128 = .ok (.goto (4), 3) := by decide +kernel
theorem d_Pr_boundsFit_131 : decode b_Pr_boundsFit 131 = .ok (.iconst (0), 1) := by decide +kernel
theorem d_Pr_boundsFit_132 : decode b_Pr_boundsFit 132 = .ok (.ireturn, 1) := by decide +kernel
theorem d_Pr_boundsFit_133 : decode b_Pr_boundsFit 133 = .ok (.aload_n 0, 1) := by decide +kernel
theorem d_Pr_boundsFit_134 : decode b_Pr_boundsFit 134 = .ok (.getfield 29, 3) := by decide +kernel
theorem d_Pr_boundsFit_137 : decode b_Pr_boundsFit 137 = .ok (.lconst 0, 1) := by decide +kernel
theorem d_Pr_boundsFit_138 : decode b_Pr_boundsFit 138 = .ok (.lcmp, 1) := by decide +kernel
theorem d_Pr_boundsFit_139 : decode b_Pr_boundsFit 139 = .ok (.ifCond .lt (18), 3) := by decide +kernel
theorem d_Pr_boundsFit_142 : decode b_Pr_boundsFit 142 = .ok (.aload_n 0, 1) := by decide +kernel
theorem d_Pr_boundsFit_143 : decode b_Pr_boundsFit 143 = .ok (.getfield 29, 3) := by decide +kernel
theorem d_Pr_boundsFit_146 : decode b_Pr_boundsFit 146 = .ok (.ldc2_w 108, 3) := by decide +kernel
theorem d_Pr_boundsFit_149 : decode b_Pr_boundsFit 149 = .ok (.lcmp, 1) := by decide +kernel
theorem d_Pr_boundsFit_150 : decode b_Pr_boundsFit 150 = .ok (.ifCond .gt (7), 3) := by decide +kernel
theorem d_Pr_boundsFit_153 : decode b_Pr_boundsFit 153 = .ok (.iconst (1), 1) := by decide +kernel
theorem d_Pr_boundsFit_154 : decode b_Pr_boundsFit 154 = .ok (.goto (4), 3) := by decide +kernel
theorem d_Pr_boundsFit_157 : decode b_Pr_boundsFit 157 = .ok (.iconst (0), 1) := by decide +kernel
theorem d_Pr_boundsFit_158 : decode b_Pr_boundsFit 158 = .ok (.ireturn, 1) := by decide +kernel
theorem d_Pr_boundsFit_159 : decode b_Pr_boundsFit 159 = .ok (.aload_n 1, 1) := by decide +kernel
theorem d_Pr_boundsFit_160 : decode b_Pr_boundsFit 160 = .ok (.getfield 110, 3) := by decide +kernel
theorem d_Pr_boundsFit_163 : decode b_Pr_boundsFit 163 = .ok (.bipush (8), 2) := by decide +kernel
theorem d_Pr_boundsFit_165 : decode b_Pr_boundsFit 165 = .ok (.if_icmp .ge (7), 3) := by decide +kernel
theorem d_Pr_boundsFit_168 : decode b_Pr_boundsFit 168 = .ok (.iconst (1), 1) := by decide +kernel
theorem d_Pr_boundsFit_169 : decode b_Pr_boundsFit 169 = .ok (.goto (4), 3) := by decide +kernel
theorem d_Pr_boundsFit_172 : decode b_Pr_boundsFit 172 = .ok (.iconst (0), 1) := by decide +kernel
theorem d_Pr_boundsFit_173 : decode b_Pr_boundsFit 173 = .ok (.ireturn, 1) := by decide +kernel
theorem d_Pr_boundsFit_174 : decode b_Pr_boundsFit 174 = .ok (.iconst (1), 1) := by decide +kernel
theorem d_Pr_boundsFit_175 : decode b_Pr_boundsFit 175 = .ok (.ireturn, 1) := by decide +kernel
theorem d_Pr_doPlain_0 : decode b_Pr_doPlain 0 = .ok (.aload_n 0, 1) := by decide +kernel
theorem d_Pr_doPlain_1 : decode b_Pr_doPlain 1 = .ok (.getfield 18, 3) := by decide +kernel
theorem d_Pr_doPlain_4 : decode b_Pr_doPlain 4 = .ok (.tableswitch (250) (0) (13) #[72, 74, 87, 106, 125, 144, 250, 167, 181, 187, 194, 205, 232, 238], 72) := by decide +kernel
theorem d_Pr_doPlain_76 : decode b_Pr_doPlain 76 = .ok (.iconst (4), 1) := by decide +kernel
theorem d_Pr_doPlain_77 : decode b_Pr_doPlain 77 = .ok (.ireturn, 1) := by decide +kernel
theorem d_Pr_doPlain_78 : decode b_Pr_doPlain 78 = .ok (.aload_n 1, 1) := by decide +kernel
theorem d_Pr_doPlain_79 : decode b_Pr_doPlain 79 = .ok (.aload_n 0, 1) := by decide +kernel
theorem d_Pr_doPlain_80 : decode b_Pr_doPlain 80 = .ok (.getfield 22, 3) := by decide +kernel
theorem d_Pr_doPlain_83 : decode b_Pr_doPlain 83 = .ok (.i2b, 1) := by decide +kernel
theorem d_Pr_doPlain_84 : decode b_Pr_doPlain 84 = .ok (.i2l, 1) := by decide +kernel
theorem d_Pr_doPlain_85 : decode b_Pr_doPlain 85 = .ok (.invokevirtual 113, 3) := by decide +kernel
theorem d_Pr_doPlain_88 : decode b_Pr_doPlain 88 = .ok (.goto (166), 3) := by decide +kernel
theorem d_Pr_doPlain_91 : decode b_Pr_doPlain 91 = .ok (.aload_n 1, 1) := by decide +kernel
theorem d_Pr_doPlain_92 : decode b_Pr_doPlain 92 = .ok (.aload_n 0, 1) := by decide +kernel
theorem d_Pr_doPlain_93 : decode b_Pr_doPlain 93 = .ok (.getfield 25, 3) := by decide +kernel
theorem d_Pr_doPlain_96 : decode b_Pr_doPlain 96 = .ok (.l2i, 1) := by decide +kernel
theorem d_Pr_doPlain_97 : decode b_Pr_doPlain 97 = .ok (.aload_n 0, 1) := by decide +kernel
theorem d_Pr_doPlain_98 : decode b_Pr_doPlain 98 = .ok (.getfield 29, 3) := by decide +kernel
theorem d_Pr_doPlain_101 : decode b_Pr_doPlain 101 = .ok (.l2i, 1) := by decide +kernel
theorem d_Pr_doPlain_102 : decode b_Pr_doPlain 102 = .ok (.iadd, 1) := by decide +kernel
theorem d_Pr_doPlain_103 : decode b_Pr_doPlain 103 = .ok (.i2l, 1) := by decide +kernel
theorem d_Pr_doPlain_104 : decode b_Pr_doPlain 104 = .ok (.invokevirtual 113, 3) := by decide +kernel
theorem d_Pr_doPlain_107 : decode b_Pr_doPlain 107 = .ok (.goto (147), 3) := by decide +kernel
theorem d_Pr_doPlain_110 : decode b_Pr_doPlain 110 = .ok (.aload_n 1, 1) := by decide +kernel
theorem d_Pr_doPlain_111 : decode b_Pr_doPlain 111 = .ok (.aload_n 0, 1) := by decide +kernel
theorem d_Pr_doPlain_112 : decode b_Pr_doPlain 112 = .ok (.getfield 25, 3) := by decide +kernel
theorem d_Pr_doPlain_115 : decode b_Pr_doPlain 115 = .ok (.l2i, 1) := by decide +kernel
theorem d_Pr_doPlain_116 : decode b_Pr_doPlain 116 = .ok (.aload_n 0, 1) := by decide +kernel
theorem d_Pr_doPlain_117 : decode b_Pr_doPlain 117 = .ok (.getfield 29, 3) := by decide +kernel
theorem d_Pr_doPlain_120 : decode b_Pr_doPlain 120 = .ok (.l2i, 1) := by decide +kernel
theorem d_Pr_doPlain_121 : decode b_Pr_doPlain 121 = .ok (.isub, 1) := by decide +kernel
theorem d_Pr_doPlain_122 : decode b_Pr_doPlain 122 = .ok (.i2l, 1) := by decide +kernel
theorem d_Pr_doPlain_123 : decode b_Pr_doPlain 123 = .ok (.invokevirtual 113, 3) := by decide +kernel
theorem d_Pr_doPlain_126 : decode b_Pr_doPlain 126 = .ok (.goto (128), 3) := by decide +kernel
theorem d_Pr_doPlain_129 : decode b_Pr_doPlain 129 = .ok (.aload_n 1, 1) := by decide +kernel
theorem d_Pr_doPlain_130 : decode b_Pr_doPlain 130 = .ok (.aload_n 0, 1) := by decide +kernel
theorem d_Pr_doPlain_131 : decode b_Pr_doPlain 131 = .ok (.getfield 25, 3) := by decide +kernel
theorem d_Pr_doPlain_134 : decode b_Pr_doPlain 134 = .ok (.l2i, 1) := by decide +kernel
theorem d_Pr_doPlain_135 : decode b_Pr_doPlain 135 = .ok (.aload_n 0, 1) := by decide +kernel
theorem d_Pr_doPlain_136 : decode b_Pr_doPlain 136 = .ok (.getfield 29, 3) := by decide +kernel
theorem d_Pr_doPlain_139 : decode b_Pr_doPlain 139 = .ok (.l2i, 1) := by decide +kernel
theorem d_Pr_doPlain_140 : decode b_Pr_doPlain 140 = .ok (.imul, 1) := by decide +kernel
theorem d_Pr_doPlain_141 : decode b_Pr_doPlain 141 = .ok (.i2l, 1) := by decide +kernel
theorem d_Pr_doPlain_142 : decode b_Pr_doPlain 142 = .ok (.invokevirtual 113, 3) := by decide +kernel
theorem d_Pr_doPlain_145 : decode b_Pr_doPlain 145 = .ok (.goto (109), 3) := by decide +kernel
theorem d_Pr_doPlain_148 : decode b_Pr_doPlain 148 = .ok (.aload_n 1, 1) := by decide +kernel
theorem d_Pr_doPlain_149 : decode b_Pr_doPlain 149 = .ok (.aload_n 1, 1) := by decide +kernel
theorem d_Pr_doPlain_150 : decode b_Pr_doPlain 150 = .ok (.getfield 85, 3) := by decide +kernel
theorem d_Pr_doPlain_153 : decode b_Pr_doPlain 153 = .ok (.aload_n 1, 1) := by decide +kernel
theorem d_Pr_doPlain_154 : decode b_Pr_doPlain 154 = .ok (.getfield 58, 3) := by decide +kernel
theorem d_Pr_doPlain_157 : decode b_Pr_doPlain 157 = .ok (.iconst (1), 1) := by decide +kernel
theorem d_Pr_doPlain_158 : decode b_Pr_doPlain 158 = .ok (.isub, 1) := by decide +kernel
theorem d_Pr_doPlain_159 : decode b_Pr_doPlain 159 = .ok (.aload_n 0, 1) := by decide +kernel
theorem d_Pr_doPlain_160 : decode b_Pr_doPlain 160 = .ok (.getfield 22, 3) := by decide +kernel
theorem d_Pr_doPlain_163 : decode b_Pr_doPlain 163 = .ok (.isub, 1) := by decide +kernel
theorem d_Pr_doPlain_164 : decode b_Pr_doPlain 164 = .ok (.laload, 1) := by decide +kernel
theorem d_Pr_doPlain_165 : decode b_Pr_doPlain 165 = .ok (.invokevirtual 113, 3) := by decide +kernel
theorem d_Pr_doPlain_168 : decode b_Pr_doPlain 168 = .ok (.goto (86), 3) := by decide +kernel
theorem d_Pr_doPlain_171 : decode b_Pr_doPlain 171 = .ok (.aload_n 1, 1) := by decide +kernel
theorem d_Pr_doPlain_172 : decode b_Pr_doPlain 172 = .ok (.aload_n 2, 1) := by decide +kernel
theorem d_Pr_doPlain_173 : decode b_Pr_doPlain 173 = .ok (.aload_n 0, 1) := by decide +kernel
theorem d_Pr_doPlain_174 : decode b_Pr_doPlain 174 = .ok (.getfield 22, 3) := by decide +kernel
theorem d_Pr_doPlain_177 : decode b_Pr_doPlain 177 = .ok (.iaload, 1) := by decide +kernel
theorem d_Pr_doPlain_178 : decode b_Pr_doPlain 178 = .ok (.i2l, 1) := by decide +kernel
theorem d_Pr_doPlain_179 : decode b_Pr_doPlain 179 = .ok (.invokevirtual 113, 3) := by decide +kernel
theorem d_Pr_doPlain_182 : decode b_Pr_doPlain 182 = .ok (.goto (72), 3) := by decide +kernel
theorem d_Pr_doPlain_185 : decode b_Pr_doPlain 185 = .ok (.aload_n 0, 1) := by decide +kernel
theorem d_Pr_doPlain_186 : decode b_Pr_doPlain 186 = .ok (.aload_n 1, 1) := by decide +kernel
theorem d_Pr_doPlain_187 : decode b_Pr_doPlain 187 = .ok (.invokevirtual 117, 3) := by decide +kernel
theorem d_Pr_doPlain_190 : decode b_Pr_doPlain 190 = .ok (.ireturn, 1) := by decide +kernel
theorem d_Pr_doPlain_191 : decode b_Pr_doPlain 191 = .ok (.aload_n 0, 1) := by decide +kernel
theorem d_Pr_doPlain_192 : decode b_Pr_doPlain 192 = .ok (.aload_n 1, 1) := by decide +kernel
theorem d_Pr_doPlain_193 : decode b_Pr_doPlain 193 = .ok (.iload_n 3, 1) := by decide +kernel
theorem d_Pr_doPlain_194 : decode b_Pr_doPlain 194 = .ok (.invokevirtual 120, 3) := by decide +kernel
theorem d_Pr_doPlain_197 : decode b_Pr_doPlain 197 = .ok (.ireturn, 1) := by decide +kernel
theorem d_Pr_doPlain_198 : decode b_Pr_doPlain 198 = .ok (.aload_n 1, 1) := by decide +kernel
theorem d_Pr_doPlain_199 : decode b_Pr_doPlain 199 = .ok (.aload_n 0, 1) := by decide +kernel
theorem d_Pr_doPlain_200 : decode b_Pr_doPlain 200 = .ok (.getfield 22, 3) := by decide +kernel
theorem d_Pr_doPlain_203 : decode b_Pr_doPlain 203 = .ok (.putfield 51, 3) := by decide +kernel
theorem d_Pr_doPlain_206 : decode b_Pr_doPlain 206 = .ok (.goto (48), 3) := by decide +kernel
theorem d_Pr_doPlain_209 : decode b_Pr_doPlain 209 = .ok (.aload_n 1, 1) := by decide +kernel
theorem d_Pr_doPlain_210 : decode b_Pr_doPlain 210 = .ok (.aload_n 0, 1) := by decide +kernel
theorem d_Pr_doPlain_211 : decode b_Pr_doPlain 211 = .ok (.getfield 29, 3) := by decide +kernel
theorem d_Pr_doPlain_214 : decode b_Pr_doPlain 214 = .ok (.lconst 0, 1) := by decide +kernel
theorem d_Pr_doPlain_215 : decode b_Pr_doPlain 215 = .ok (.lcmp, 1) := by decide +kernel
theorem d_Pr_doPlain_216 : decode b_Pr_doPlain 216 = .ok (.ifCond .eq (10), 3) := by decide +kernel
theorem d_Pr_doPlain_219 : decode b_Pr_doPlain 219 = .ok (.aload_n 0, 1) := by decide +kernel
theorem d_Pr_doPlain_220 : decode b_Pr_doPlain 220 = .ok (.getfield 22, 3) := by decide +kernel
theorem d_Pr_doPlain_223 : decode b_Pr_doPlain 223 = .ok (.goto (7), 3) := by decide +kernel
theorem d_Pr_doPlain_226 : decode b_Pr_doPlain 226 = .ok (.aload_n 1, 1) := by decide +kernel
theorem d_Pr_doPlain_227 : decode b_Pr_doPlain 227 = .ok (.getfield 51, 3) := by decide +kernel
theorem d_Pr_doPlain_230 : decode b_Pr_doPlain 230 = .ok (.putfield 51, 3) := by decide +kernel
theorem d_Pr_doPlain_233 : decode b_Pr_doPlain 233 = .ok (.goto (21), 3) := by decide +kernel
theorem d_Pr_doPlain_236 : decode b_Pr_doPlain 236 = .ok (.aload_n 0, 1) := by decide +kernel
theorem d_Pr_doPlain_237 : decode b_Pr_doPlain 237 = .ok (.aload_n 1, 1) := by decide +kernel
theorem d_Pr_doPlain_238 : decode b_Pr_doPlain 238 = .ok (.invokevirtual 124, 3) := by decide +kernel
theorem d_Pr_doPlain_241 : decode b_Pr_doPlain 241 = .ok (.ireturn, 1) := by decide +kernel
theorem d_Pr_doPlain_242 : decode b_Pr_doPlain 242 = .ok (.aload_n 1, 1) := by decide +kernel
theorem d_Pr_doPlain_243 : decode b_Pr_doPlain 243 = .ok (.aload_n 0, 1) := by decide +kernel
theorem d_Pr_doPlain_244 : decode b_Pr_doPlain 244 = .ok (.getfield 29, 3) := by decide +kernel
theorem d_Pr_doPlain_247 : decode b_Pr_doPlain 247 = .ok (.l2i, 1) := by decide +kernel
theorem d_Pr_doPlain_248 : decode b_Pr_doPlain 248 = .ok (.putfield 127, 3) := by decide +kernel
theorem d_Pr_doPlain_251 : decode b_Pr_doPlain 251 = .ok (.goto (3), 3) := by decide +kernel
theorem d_Pr_doPlain_254 : decode b_Pr_doPlain 254 = .ok (.iconst (0), 1) := by decide +kernel
theorem d_Pr_doPlain_255 : decode b_Pr_doPlain 255 = .ok (.ireturn, 1) := by decide +kernel
theorem d_Pr_doPairs_0 : decode b_Pr_doPairs 0 = .ok (.aload_n 0, 1) := by decide +kernel
theorem d_Pr_doPairs_1 : decode b_Pr_doPairs 1 = .ok (.getfield 25, 3) := by decide +kernel
theorem d_Pr_doPairs_4 : decode b_Pr_doPairs 4 = .ok (.invokestatic 99, 3) := by decide +kernel
theorem d_Pr_doPairs_7 : decode b_Pr_doPairs 7 = .ok (.ifCond .eq (15), 3) := by decide +kernel
theorem d_Pr_doPairs_10 : decode b_Pr_doPairs 10 = .ok (.aload_n 0, 1) := by decide +kernel
theorem d_Pr_doPairs_11 : decode b_Pr_doPairs 11 = .ok (.getfield 25, 3) := by decide +kernel
theorem d_Pr_doPairs_14 : decode b_Pr_doPairs 14 = .ok (.ldc2_w 130, 3) := by decide +kernel
theorem d_Pr_doPairs_17 : decode b_Pr_doPairs 17 = .ok (.lsub, 1) := by decide +kernel
theorem d_Pr_doPairs_18 : decode b_Pr_doPairs 18 = .ok (.l2i, 1) := by decide +kernel
theorem d_Pr_doPairs_19 : decode b_Pr_doPairs 19 = .ok (.goto (4), 3) := by decide +kernel
theorem d_Pr_doPairs_22 : decode b_Pr_doPairs 22 = .ok (.iconst (0), 1) := by decide +kernel
theorem d_Pr_doPairs_23 : decode b_Pr_doPairs 23 = .ok (.istore_n 2, 1) := by decide +kernel
theorem d_Pr_doPairs_24 : decode b_Pr_doPairs 24 = .ok (.aload_n 0, 1) := by decide +kernel
theorem d_Pr_doPairs_25 : decode b_Pr_doPairs 25 = .ok (.getfield 18, 3) := by decide +kernel
theorem d_Pr_doPairs_28 : decode b_Pr_doPairs 28 = .ok (.tableswitch (131) (14) (19) #[40, 55, 68, 81, 94, 107], 40) := by decide +kernel
theorem d_Pr_doPairs_68 : decode b_Pr_doPairs 68 = .ok (.aload_n 1, 1) := by decide +kernel
theorem d_Pr_doPairs_69 : decode b_Pr_doPairs 69 = .ok (.aload_n 0, 1) := by decide +kernel
theorem d_Pr_doPairs_70 : decode b_Pr_doPairs 70 = .ok (.getfield 25, 3) := by decide +kernel
theorem d_Pr_doPairs_73 : decode b_Pr_doPairs 73 = .ok (.aload_n 0, 1) := by decide +kernel
theorem d_Pr_doPairs_74 : decode b_Pr_doPairs 74 = .ok (.getfield 29, 3) := by decide +kernel
theorem d_Pr_doPairs_77 : decode b_Pr_doPairs 77 = .ok (.invokevirtual 132, 3) := by decide +kernel
theorem d_Pr_doPairs_80 : decode b_Pr_doPairs 80 = .ok (.goto (79), 3) := by decide +kernel
theorem d_Pr_doPairs_83 : decode b_Pr_doPairs 83 = .ok (.aload_n 1, 1) := by decide +kernel
theorem d_Pr_doPairs_84 : decode b_Pr_doPairs 84 = .ok (.aload_n 1, 1) := by decide +kernel
theorem d_Pr_doPairs_85 : decode b_Pr_doPairs 85 = .ok (.getfield 136, 3) := by decide +kernel
theorem d_Pr_doPairs_88 : decode b_Pr_doPairs 88 = .ok (.iload_n 2, 1) := by decide +kernel
theorem d_Pr_doPairs_89 : decode b_Pr_doPairs 89 = .ok (.laload, 1) := by decide +kernel
theorem d_Pr_doPairs_90 : decode b_Pr_doPairs 90 = .ok (.invokevirtual 113, 3) := by decide +kernel
theorem d_Pr_doPairs_93 : decode b_Pr_doPairs 93 = .ok (.goto (66), 3) := by decide +kernel
theorem d_Pr_doPairs_96 : decode b_Pr_doPairs 96 = .ok (.aload_n 1, 1) := by decide +kernel
theorem d_Pr_doPairs_97 : decode b_Pr_doPairs 97 = .ok (.aload_n 1, 1) := by decide +kernel
theorem d_Pr_doPairs_98 : decode b_Pr_doPairs 98 = .ok (.getfield 139, 3) := by decide +kernel
theorem d_Pr_doPairs_101 : decode b_Pr_doPairs 101 = .ok (.iload_n 2, 1) := by decide +kernel
theorem d_Pr_doPairs_102 : decode b_Pr_doPairs 102 = .ok (.laload, 1) := by decide +kernel
theorem d_Pr_doPairs_103 : decode b_Pr_doPairs 103 = .ok (.invokevirtual 113, 3) := by decide +kernel
theorem d_Pr_doPairs_106 : decode b_Pr_doPairs 106 = .ok (.goto (53), 3) := by decide +kernel
theorem d_Pr_doPairs_109 : decode b_Pr_doPairs 109 = .ok (.aload_n 1, 1) := by decide +kernel
theorem d_Pr_doPairs_110 : decode b_Pr_doPairs 110 = .ok (.getfield 136, 3) := by decide +kernel
theorem d_Pr_doPairs_113 : decode b_Pr_doPairs 113 = .ok (.iload_n 2, 1) := by decide +kernel
theorem d_Pr_doPairs_114 : decode b_Pr_doPairs 114 = .ok (.aload_n 0, 1) := by decide +kernel
theorem d_Pr_doPairs_115 : decode b_Pr_doPairs 115 = .ok (.getfield 29, 3) := by decide +kernel
theorem d_Pr_doPairs_118 : decode b_Pr_doPairs 118 = .ok (.lastore, 1) := by decide +kernel
theorem d_Pr_doPairs_119 : decode b_Pr_doPairs 119 = .ok (.goto (40), 3) := by decide +kernel
theorem d_Pr_doPairs_122 : decode b_Pr_doPairs 122 = .ok (.aload_n 1, 1) := by decide +kernel
theorem d_Pr_doPairs_123 : decode b_Pr_doPairs 123 = .ok (.getfield 139, 3) := by decide +kernel
theorem d_Pr_doPairs_126 : decode b_Pr_doPairs 126 = .ok (.iload_n 2, 1) := by decide +kernel
theorem d_Pr_doPairs_127 : decode b_Pr_doPairs 127 = .ok (.aload_n 0, 1) := by decide +kernel
theorem d_Pr_doPairs_128 : decode b_Pr_doPairs 128 = .ok (.getfield 29, 3) := by decide +kernel
theorem d_Pr_doPairs_131 : decode b_Pr_doPairs 131 = .ok (.lastore, 1) := by decide +kernel
theorem d_Pr_doPairs_132 : decode b_Pr_doPairs 132 = .ok (.goto (27), 3) := by decide +kernel
theorem d_Pr_doPairs_135 : decode b_Pr_doPairs 135 = .ok (.aload_n 1, 1) := by decide +kernel
theorem d_Pr_doPairs_136 : decode b_Pr_doPairs 136 = .ok (.aload_n 0, 1) := by decide +kernel
theorem d_Pr_doPairs_137 : decode b_Pr_doPairs 137 = .ok (.getfield 25, 3) := by decide +kernel
theorem d_Pr_doPairs_140 : decode b_Pr_doPairs 140 = .ok (.aload_n 0, 1) := by decide +kernel
theorem d_Pr_doPairs_141 : decode b_Pr_doPairs 141 = .ok (.getfield 29, 3) := by decide +kernel
theorem d_Pr_doPairs_144 : decode b_Pr_doPairs 144 = .ok (.lcmp, 1) := by decide +kernel
theorem d_Pr_doPairs_145 : decode b_Pr_doPairs 145 = .ok (.ifCond .ne (7), 3) := by decide +kernel
theorem d_Pr_doPairs_148 : decode b_Pr_doPairs 148 = .ok (.lconst 1, 1) := by decide +kernel
theorem d_Pr_doPairs_149 : decode b_Pr_doPairs 149 = .ok (.goto (4), 3) := by decide +kernel
theorem d_Pr_doPairs_152 : decode b_Pr_doPairs 152 = .ok (.lconst 0, 1) := by decide +kernel
theorem d_Pr_doPairs_153 : decode b_Pr_doPairs 153 = .ok (.invokevirtual 113, 3) := by decide +kernel
theorem d_Pr_doPairs_156 : decode b_Pr_doPairs 156 = .ok (.goto (3), 3) := by decide +kernel
theorem d_Pr_doPairs_159 : decode b_Pr_doPairs 159 = .ok (.iconst (0), 1) := by decide +kernel
theorem d_Pr_doPairs_160 : decode b_Pr_doPairs 160 = .ok (.ireturn, 1) := by decide +kernel
theorem d_Pr_say_0 : decode b_Pr_say 0 = .ok (.aload_n 1, 1) := by decide +kernel
theorem d_Pr_say_1 : decode b_Pr_say 1 = .ok (.dup, 1) := by decide +kernel
theorem d_Pr_say_2 : decode b_Pr_say 2 = .ok (.getfield 103, 3) := by decide +kernel
theorem d_Pr_say_5 : decode b_Pr_say 5 = .ok (.iconst (1), 1) := by decide +kernel
theorem d_Pr_say_6 : decode b_Pr_say 6 = .ok (.iadd, 1) := by decide +kernel
theorem d_Pr_say_7 : decode b_Pr_say 7 = .ok (.putfield 103, 3) := by decide +kernel
theorem d_Pr_say_10 : decode b_Pr_say 10 = .ok (.aload_n 0, 1) := by decide +kernel
theorem d_Pr_say_11 : decode b_Pr_say 11 = .ok (.aload_n 0, 1) := by decide +kernel
theorem d_Pr_say_12 : decode b_Pr_say 12 = .ok (.getfield 29, 3) := by decide +kernel
theorem d_Pr_say_15 : decode b_Pr_say 15 = .ok (.l2i, 1) := by decide +kernel
theorem d_Pr_say_16 : decode b_Pr_say 16 = .ok (.putfield 32, 3) := by decide +kernel
theorem d_Pr_say_19 : decode b_Pr_say 19 = .ok (.iconst (1), 1) := by decide +kernel
theorem d_Pr_say_20 : decode b_Pr_say 20 = .ok (.ireturn, 1) := by decide +kernel
theorem d_Pr_go_0 : decode b_Pr_go 0 = .ok (.aload_n 0, 1) := by decide +kernel
theorem d_Pr_go_1 : decode b_Pr_go 1 = .ok (.getfield 29, 3) := by decide +kernel
theorem d_Pr_go_4 : decode b_Pr_go 4 = .ok (.iload_n 2, 1) := by decide +kernel
theorem d_Pr_go_5 : decode b_Pr_go 5 = .ok (.i2l, 1) := by decide +kernel
theorem d_Pr_go_6 : decode b_Pr_go 6 = .ok (.lcmp, 1) := by decide +kernel
theorem d_Pr_go_7 : decode b_Pr_go 7 = .ok (.ifCond .ne (5), 3) := by decide +kernel
theorem d_Pr_go_10 : decode b_Pr_go 10 = .ok (.iconst (0), 1) := by decide +kernel
theorem d_Pr_go_11 : decode b_Pr_go 11 = .ok (.ireturn, 1) := by decide +kernel
theorem d_Pr_go_12 : decode b_Pr_go 12 = .ok (.aload_n 1, 1) := by decide +kernel
theorem d_Pr_go_13 : decode b_Pr_go 13 = .ok (.dup, 1) := by decide +kernel
theorem d_Pr_go_14 : decode b_Pr_go 14 = .ok (.getfield 142, 3) := by decide +kernel
theorem d_Pr_go_17 : decode b_Pr_go 17 = .ok (.iconst (1), 1) := by decide +kernel
theorem d_Pr_go_18 : decode b_Pr_go 18 = .ok (.iadd, 1) := by decide +kernel
theorem d_Pr_go_19 : decode b_Pr_go 19 = .ok (.putfield 142, 3) := by decide +kernel
theorem d_Pr_go_22 : decode b_Pr_go 22 = .ok (.aload_n 0, 1) := by decide +kernel
theorem d_Pr_go_23 : decode b_Pr_go 23 = .ok (.aload_n 0, 1) := by decide +kernel
theorem d_Pr_go_24 : decode b_Pr_go 24 = .ok (.getfield 29, 3) := by decide +kernel
theorem d_Pr_go_27 : decode b_Pr_go 27 = .ok (.l2i, 1) := by decide +kernel
theorem d_Pr_go_28 : decode b_Pr_go 28 = .ok (.putfield 32, 3) := by decide +kernel
theorem d_Pr_go_31 : decode b_Pr_go 31 = .ok (.iconst (2), 1) := by decide +kernel
theorem d_Pr_go_32 : decode b_Pr_go 32 = .ok (.ireturn, 1) := by decide +kernel
theorem d_Pr_divide_0 : decode b_Pr_divide 0 = .ok (.aload_n 1, 1) := by decide +kernel
theorem d_Pr_divide_1 : decode b_Pr_divide 1 = .ok (.getfield 145, 3) := by decide +kernel
theorem d_Pr_divide_4 : decode b_Pr_divide 4 = .ok (.iconst (4), 1) := by decide +kernel
theorem d_Pr_divide_5 : decode b_Pr_divide 5 = .ok (.if_icmp .ge (32), 3) := by decide +kernel
theorem d_Pr_divide_8 : decode b_Pr_divide 8 = .ok (.aload_n 1, 1) := by decide +kernel
theorem d_Pr_divide_9 : decode b_Pr_divide 9 = .ok (.getfield 148, 3) := by decide +kernel
theorem d_Pr_divide_12 : decode b_Pr_divide 12 = .ok (.ifCond .ne (25), 3) := by decide +kernel
theorem d_Pr_divide_15 : decode b_Pr_divide 15 = .ok (.aload_n 0, 1) := by decide +kernel
theorem d_Pr_divide_16 : decode b_Pr_divide 16 = .ok (.getfield 29, 3) := by decide +kernel
theorem d_Pr_divide_19 : decode b_Pr_divide 19 = .ok (.lconst 1, 1) := by decide +kernel
theorem d_Pr_divide_20 : decode b_Pr_divide 20 = .ok (.lcmp, 1) := by decide +kernel
theorem d_Pr_divide_21 : decode b_Pr_divide 21 = .ok (.ifCond .lt (16), 3) := by decide +kernel
theorem d_Pr_divide_24 : decode b_Pr_divide 24 = .ok (.aload_n 0, 1) := by decide +kernel
theorem d_Pr_divide_25 : decode b_Pr_divide 25 = .ok (.getfield 29, 3) := by decide +kernel
theorem d_Pr_divide_28 : decode b_Pr_divide 28 = .ok (.aload_n 1, 1) := by decide +kernel
theorem d_Pr_divide_29 : decode b_Pr_divide 29 = .ok (.getfield 35, 3) := by decide +kernel
theorem d_Pr_divide_32 : decode b_Pr_divide 32 = .ok (.i2l, 1) := by decide +kernel
theorem d_Pr_divide_33 : decode b_Pr_divide 33 = .ok (.lcmp, 1) := by decide +kernel
theorem d_Pr_divide_34 : decode b_Pr_divide 34 = .ok (.ifCond .le (12), 3) := by decide +kernel
theorem d_Pr_divide_37 : decode b_Pr_divide 37 = .ok (.aload_n 1, 1) := by decide +kernel
theorem d_Pr_divide_38 : decode b_Pr_divide 38 = .ok (.ldc2_w 152, 3) := by decide +kernel
theorem d_Pr_divide_41 : decode b_Pr_divide 41 = .ok (.invokevirtual 113, 3) := by decide +kernel
theorem d_Pr_divide_44 : decode b_Pr_divide 44 = .ok (.iconst (0), 1) := by decide +kernel
theorem d_Pr_divide_45 : decode b_Pr_divide 45 = .ok (.ireturn, 1) := by decide +kernel
theorem d_Pr_divide_46 : decode b_Pr_divide 46 = .ok (.aload_n 0, 1) := by decide +kernel
theorem d_Pr_divide_47 : decode b_Pr_divide 47 = .ok (.aload_n 0, 1) := by decide +kernel
theorem d_Pr_divide_48 : decode b_Pr_divide 48 = .ok (.getfield 29, 3) := by decide +kernel
theorem d_Pr_divide_51 : decode b_Pr_divide 51 = .ok (.l2i, 1) := by decide +kernel
theorem d_Pr_divide_52 : decode b_Pr_divide 52 = .ok (.putfield 32, 3) := by decide +kernel
theorem d_Pr_divide_55 : decode b_Pr_divide 55 = .ok (.aload_n 1, 1) := by decide +kernel
theorem d_Pr_divide_56 : decode b_Pr_divide 56 = .ok (.dup, 1) := by decide +kernel
theorem d_Pr_divide_57 : decode b_Pr_divide 57 = .ok (.getfield 35, 3) := by decide +kernel
theorem d_Pr_divide_60 : decode b_Pr_divide 60 = .ok (.aload_n 0, 1) := by decide +kernel
theorem d_Pr_divide_61 : decode b_Pr_divide 61 = .ok (.getfield 32, 3) := by decide +kernel
theorem d_Pr_divide_64 : decode b_Pr_divide 64 = .ok (.isub, 1) := by decide +kernel
theorem d_Pr_divide_65 : decode b_Pr_divide 65 = .ok (.putfield 35, 3) := by decide +kernel
theorem d_Pr_divide_68 : decode b_Pr_divide 68 = .ok (.aload_n 1, 1) := by decide +kernel
theorem d_Pr_divide_69 : decode b_Pr_divide 69 = .ok (.iconst (1), 1) := by decide +kernel
theorem d_Pr_divide_70 : decode b_Pr_divide 70 = .ok (.putfield 148, 3) := by decide +kernel
theorem d_Pr_divide_73 : decode b_Pr_divide 73 = .ok (.aload_n 1, 1) := by decide +kernel
theorem d_Pr_divide_74 : decode b_Pr_divide 74 = .ok (.lconst 0, 1) := by decide +kernel
theorem d_Pr_divide_75 : decode b_Pr_divide 75 = .ok (.invokevirtual 113, 3) := by decide +kernel
theorem d_Pr_divide_78 : decode b_Pr_divide 78 = .ok (.iconst (3), 1) := by decide +kernel
theorem d_Pr_divide_79 : decode b_Pr_divide 79 = .ok (.ireturn, 1) := by decide +kernel
theorem d_Si_init_0 : decode b_Si_init 0 = .ok (.aload_n 0, 1) := by decide +kernel
theorem d_Si_init_1 : decode b_Si_init 1 = .ok (.invokespecial 3, 3) := by decide +kernel
theorem d_Si_init_4 : decode b_Si_init 4 = .ok (.aload_n 0, 1) := by decide +kernel
theorem d_Si_init_5 : decode b_Si_init 5 = .ok (.iconst (1), 1) := by decide +kernel
theorem d_Si_init_6 : decode b_Si_init 6 = .ok (.putfield 9, 3) := by decide +kernel
theorem d_Si_init_9 : decode b_Si_init 9 = .ok (.aload_n 0, 1) := by decide +kernel
theorem d_Si_init_10 : decode b_Si_init 10 = .ok (.iconst (0), 1) := by decide +kernel
theorem d_Si_init_11 : decode b_Si_init 11 = .ok (.putfield 15, 3) := by decide +kernel
theorem d_Si_init_14 : decode b_Si_init 14 = .ok (.aload_n 0, 1) := by decide +kernel
theorem d_Si_init_15 : decode b_Si_init 15 = .ok (.new 19, 3) := by decide +kernel
theorem d_Si_init_18 : decode b_Si_init 18 = .ok (.dup, 1) := by decide +kernel
theorem d_Si_init_19 : decode b_Si_init 19 = .ok (.invokespecial 21, 3) := by decide +kernel
theorem d_Si_init_22 : decode b_Si_init 22 = .ok (.putfield 22, 3) := by decide +kernel
theorem d_Si_init_25 : decode b_Si_init 25 = .ok (.aload_n 0, 1) := by decide +kernel
theorem d_Si_init_26 : decode b_Si_init 26 = .ok (.new 19, 3) := by decide +kernel
theorem d_Si_init_29 : decode b_Si_init 29 = .ok (.dup, 1) := by decide +kernel
theorem d_Si_init_30 : decode b_Si_init 30 = .ok (.invokespecial 21, 3) := by decide +kernel
theorem d_Si_init_33 : decode b_Si_init 33 = .ok (.putfield 26, 3) := by decide +kernel
theorem d_Si_init_36 : decode b_Si_init 36 = .ok (.aload_n 0, 1) := by decide +kernel
theorem d_Si_init_37 : decode b_Si_init 37 = .ok (.new 19, 3) := by decide +kernel
theorem d_Si_init_40 : decode b_Si_init 40 = .ok (.dup, 1) := by decide +kernel
theorem d_Si_init_41 : decode b_Si_init 41 = .ok (.invokespecial 21, 3) := by decide +kernel
theorem d_Si_init_44 : decode b_Si_init 44 = .ok (.putfield 29, 3) := by decide +kernel
theorem d_Si_init_47 : decode b_Si_init 47 = .ok (.aload_n 0, 1) := by decide +kernel
theorem d_Si_init_48 : decode b_Si_init 48 = .ok (.iload_n 1, 1) := by decide +kernel
theorem d_Si_init_49 : decode b_Si_init 49 = .ok (.putfield 32, 3) := by decide +kernel
theorem d_Si_init_52 : decode b_Si_init 52 = .ok (.return_, 1) := by decide +kernel
theorem d_Si_beginCopy_0 : decode b_Si_beginCopy 0 = .ok (.aload_n 0, 1) := by decide +kernel
theorem d_Si_beginCopy_1 : decode b_Si_beginCopy 1 = .ok (.getfield 29, 3) := by decide +kernel
theorem d_Si_beginCopy_4 : decode b_Si_beginCopy 4 = .ok (.aload_n 0, 1) := by decide +kernel
theorem d_Si_beginCopy_5 : decode b_Si_beginCopy 5 = .ok (.getfield 22, 3) := by decide +kernel
theorem d_Si_beginCopy_8 : decode b_Si_beginCopy 8 = .ok (.invokevirtual 35, 3) := by decide +kernel
theorem d_Si_beginCopy_11 : decode b_Si_beginCopy 11 = .ok (.aload_n 0, 1) := by decide +kernel
theorem d_Si_beginCopy_12 : decode b_Si_beginCopy 12 = .ok (.aload_n 0, 1) := by decide +kernel
theorem d_Si_beginCopy_13 : decode b_Si_beginCopy 13 = .ok (.getfield 29, 3) := by decide +kernel
theorem d_Si_beginCopy_16 : decode b_Si_beginCopy 16 = .ok (.invokevirtual 39, 3) := by decide +kernel
theorem d_Si_beginCopy_19 : decode b_Si_beginCopy 19 = .ok (.iconst (1), 1) := by decide +kernel
theorem d_Si_beginCopy_20 : decode b_Si_beginCopy 20 = .ok (.iadd, 1) := by decide +kernel
theorem d_Si_beginCopy_21 : decode b_Si_beginCopy 21 = .ok (.putfield 15, 3) := by decide +kernel
theorem d_Si_beginCopy_24 : decode b_Si_beginCopy 24 = .ok (.aload_n 0, 1) := by decide +kernel
theorem d_Si_beginCopy_25 : decode b_Si_beginCopy 25 = .ok (.getfield 15, 3) := by decide +kernel
theorem d_Si_beginCopy_28 : decode b_Si_beginCopy 28 = .ok (.ireturn, 1) := by decide +kernel
theorem d_Si_seal_0 : decode b_Si_seal 0 = .ok (.aload_n 0, 1) := by decide +kernel
theorem d_Si_seal_1 : decode b_Si_seal 1 = .ok (.getfield 26, 3) := by decide +kernel
theorem d_Si_seal_4 : decode b_Si_seal 4 = .ok (.astore_n 3, 1) := by decide +kernel
theorem d_Si_seal_5 : decode b_Si_seal 5 = .ok (.aload_n 0, 1) := by decide +kernel
theorem d_Si_seal_6 : decode b_Si_seal 6 = .ok (.aload_n 0, 1) := by decide +kernel
theorem d_Si_seal_7 : decode b_Si_seal 7 = .ok (.getfield 29, 3) := by decide +kernel
theorem d_Si_seal_10 : decode b_Si_seal 10 = .ok (.putfield 26, 3) := by decide +kernel
theorem d_Si_seal_13 : decode b_Si_seal 13 = .ok (.aload_n 0, 1) := by decide +kernel
theorem d_Si_seal_14 : decode b_Si_seal 14 = .ok (.aload_n 3, 1) := by decide +kernel
theorem d_Si_seal_15 : decode b_Si_seal 15 = .ok (.putfield 29, 3) := by decide +kernel
theorem d_Si_seal_18 : decode b_Si_seal 18 = .ok (.aload_n 1, 1) := by decide +kernel
theorem d_Si_seal_19 : decode b_Si_seal 19 = .ok (.aload_n 0, 1) := by decide +kernel
theorem d_Si_seal_20 : decode b_Si_seal 20 = .ok (.getfield 26, 3) := by decide +kernel
theorem d_Si_seal_23 : decode b_Si_seal 23 = .ok (.getfield 43, 3) := by decide +kernel
theorem d_Si_seal_26 : decode b_Si_seal 26 = .ok (.invokevirtual 47, 3) := by decide +kernel
theorem d_Si_seal_29 : decode b_Si_seal 29 = .ok (.iconst (0), 1) := by decide +kernel
theorem d_Si_seal_30 : decode b_Si_seal 30 = .ok (.istore 4, 2) := by decide +kernel
theorem d_Si_seal_32 : decode b_Si_seal 32 = .ok (.iload 4, 2) := by decide +kernel
theorem d_Si_seal_34 : decode b_Si_seal 34 = .ok (.bipush (8), 2) := by decide +kernel
theorem d_Si_seal_36 : decode b_Si_seal 36 = .ok (.if_icmp .ge (87), 3) := by decide +kernel
theorem d_Si_seal_39 : decode b_Si_seal 39 = .ok (.aload_n 0, 1) := by decide +kernel
theorem d_Si_seal_40 : decode b_Si_seal 40 = .ok (.getfield 26, 3) := by decide +kernel
theorem d_Si_seal_43 : decode b_Si_seal 43 = .ok (.getfield 53, 3) := by decide +kernel
theorem d_Si_seal_46 : decode b_Si_seal 46 = .ok (.iload 4, 2) := by decide +kernel
theorem d_Si_seal_48 : decode b_Si_seal 48 = .ok (.iaload, 1) := by decide +kernel
theorem d_Si_seal_49 : decode b_Si_seal 49 = .ok (.iconst (-1), 1) := by decide +kernel
theorem d_Si_seal_50 : decode b_Si_seal 50 = .ok (.if_icmp .eq (67), 3) := by decide +kernel
theorem d_Si_seal_53 : decode b_Si_seal 53 = .ok (.aload_n 2, 1) := by decide +kernel
theorem d_Si_seal_54 : decode b_Si_seal 54 = .ok (.iload 4, 2) := by decide +kernel
theorem d_Si_seal_56 : decode b_Si_seal 56 = .ok (.aload_n 0, 1) := by decide +kernel
theorem d_Si_seal_57 : decode b_Si_seal 57 = .ok (.getfield 26, 3) := by decide +kernel
theorem d_Si_seal_60 : decode b_Si_seal 60 = .ok (.getfield 57, 3) := by decide +kernel
theorem d_Si_seal_63 : decode b_Si_seal 63 = .ok (.iload 4, 2) := by decide +kernel
theorem d_Si_seal_65 : decode b_Si_seal 65 = .ok (.iaload, 1) := by decide +kernel
theorem d_Si_seal_66 : decode b_Si_seal 66 = .ok (.aload_n 0, 1) := by decide +kernel
theorem d_Si_seal_67 : decode b_Si_seal 67 = .ok (.getfield 32, 3) := by decide +kernel
theorem d_Si_seal_70 : decode b_Si_seal 70 = .ok (.aload_n 0, 1) := by decide +kernel
theorem d_Si_seal_71 : decode b_Si_seal 71 = .ok (.getfield 26, 3) := by decide +kernel
theorem d_Si_seal_74 : decode b_Si_seal 74 = .ok (.getfield 53, 3) := by decide +kernel
theorem d_Si_seal_77 : decode b_Si_seal 77 = .ok (.iload 4, 2) := by decide +kernel
theorem d_Si_seal_79 : decode b_Si_seal 79 = .ok (.iaload, 1) := by decide +kernel
theorem d_Si_seal_80 : decode b_Si_seal 80 = .ok (.invokevirtual 60, 3) := by decide +kernel
theorem d_Si_seal_83 : decode b_Si_seal 83 = .ok (.aload_n 0, 1) := by decide +kernel
theorem d_Si_seal_84 : decode b_Si_seal 84 = .ok (.getfield 22, 3) := by decide +kernel
theorem d_Si_seal_87 : decode b_Si_seal 87 = .ok (.getfield 57, 3) := by decide +kernel
theorem d_Si_seal_90 : decode b_Si_seal 90 = .ok (.iload 4, 2) := by decide +kernel
theorem d_Si_seal_92 : decode b_Si_seal 92 = .ok (.iaload, 1) := by decide +kernel
theorem d_Si_seal_93 : decode b_Si_seal 93 = .ok (.aload_n 0, 1) := by decide +kernel
theorem d_Si_seal_94 : decode b_Si_seal 94 = .ok (.getfield 26, 3) := by decide +kernel
theorem d_Si_seal_97 : decode b_Si_seal 97 = .ok (.getfield 57, 3) := by decide +kernel
theorem d_Si_seal_100 : decode b_Si_seal 100 = .ok (.iload 4, 2) := by decide +kernel
theorem d_Si_seal_102 : decode b_Si_seal 102 = .ok (.iaload, 1) := by decide +kernel
theorem d_Si_seal_103 : decode b_Si_seal 103 = .ok (.if_icmp .ne (14), 3) := by decide +kernel
theorem d_Si_seal_106 : decode b_Si_seal 106 = .ok (.aload_n 0, 1) := by decide +kernel
theorem d_Si_seal_107 : decode b_Si_seal 107 = .ok (.getfield 22, 3) := by decide +kernel
theorem d_Si_seal_110 : decode b_Si_seal 110 = .ok (.getfield 53, 3) := by decide +kernel
theorem d_Si_seal_113 : decode b_Si_seal 113 = .ok (.iload 4, 2) := by decide +kernel
theorem d_Si_seal_115 : decode b_Si_seal 115 = .ok (.iconst (-1), 1) := by decide +kernel
theorem d_Si_seal_116 : decode b_Si_seal 116 = .ok (.iastore, 1) := by decide +kernel
theorem d_Si_seal_117 : decode b_Si_seal 117 = .ok (.iinc 4 (1), 3) := by decide +kernel
theorem d_Si_seal_120 : decode b_Si_seal 120 = .ok (.goto (-88), 3) := by decide +kernel
theorem d_Si_seal_123 : decode b_Si_seal 123 = .ok (.return_, 1) := by decide +kernel
theorem d_Si_goDown_0 : decode b_Si_goDown 0 = .ok (.aload_n 0, 1) := by decide +kernel
theorem d_Si_goDown_1 : decode b_Si_goDown 1 = .ok (.iconst (0), 1) := by decide +kernel
theorem d_Si_goDown_2 : decode b_Si_goDown 2 = .ok (.putfield 9, 3) := by decide +kernel
theorem d_Si_goDown_5 : decode b_Si_goDown 5 = .ok (.aload_n 0, 1) := by decide +kernel
theorem d_Si_goDown_6 : decode b_Si_goDown 6 = .ok (.iconst (0), 1) := by decide +kernel
theorem d_Si_goDown_7 : decode b_Si_goDown 7 = .ok (.putfield 15, 3) := by decide +kernel
theorem d_Si_goDown_10 : decode b_Si_goDown 10 = .ok (.return_, 1) := by decide +kernel
theorem d_Si_comeUp_0 : decode b_Si_comeUp 0 = .ok (.aload_n 0, 1) := by decide +kernel
theorem d_Si_comeUp_1 : decode b_Si_comeUp 1 = .ok (.iconst (1), 1) := by decide +kernel
theorem d_Si_comeUp_2 : decode b_Si_comeUp 2 = .ok (.putfield 9, 3) := by decide +kernel
theorem d_Si_comeUp_5 : decode b_Si_comeUp 5 = .ok (.aload_n 0, 1) := by decide +kernel
theorem d_Si_comeUp_6 : decode b_Si_comeUp 6 = .ok (.getfield 22, 3) := by decide +kernel
theorem d_Si_comeUp_9 : decode b_Si_comeUp 9 = .ok (.aload_n 0, 1) := by decide +kernel
theorem d_Si_comeUp_10 : decode b_Si_comeUp 10 = .ok (.getfield 26, 3) := by decide +kernel
theorem d_Si_comeUp_13 : decode b_Si_comeUp 13 = .ok (.invokevirtual 35, 3) := by decide +kernel
theorem d_Si_comeUp_16 : decode b_Si_comeUp 16 = .ok (.return_, 1) := by decide +kernel
theorem d_Si_sendArrivals_0 : decode b_Si_sendArrivals 0 = .ok (.iconst (0), 1) := by decide +kernel
theorem d_Si_sendArrivals_1 : decode b_Si_sendArrivals 1 = .ok (.istore_n 2, 1) := by decide +kernel
theorem d_Si_sendArrivals_2 : decode b_Si_sendArrivals 2 = .ok (.iload_n 2, 1) := by decide +kernel
theorem d_Si_sendArrivals_3 : decode b_Si_sendArrivals 3 = .ok (.bipush (8), 2) := by decide +kernel
theorem d_Si_sendArrivals_5 : decode b_Si_sendArrivals 5 = .ok (.if_icmp .ge (65), 3) := by decide +kernel
theorem d_Si_sendArrivals_8 : decode b_Si_sendArrivals 8 = .ok (.aload_n 0, 1) := by decide +kernel
theorem d_Si_sendArrivals_9 : decode b_Si_sendArrivals 9 = .ok (.getfield 22, 3) := by decide +kernel
theorem d_Si_sendArrivals_12 : decode b_Si_sendArrivals 12 = .ok (.getfield 66, 3) := by decide +kernel
theorem d_Si_sendArrivals_15 : decode b_Si_sendArrivals 15 = .ok (.iload_n 2, 1) := by decide +kernel
theorem d_Si_sendArrivals_16 : decode b_Si_sendArrivals 16 = .ok (.aaload, 1) := by decide +kernel
theorem d_Si_sendArrivals_17 : decode b_Si_sendArrivals 17 = .ok (.astore_n 3, 1) := by decide +kernel
theorem d_Si_sendArrivals_18 : decode b_Si_sendArrivals 18 = .ok (.aload_n 0, 1) := by decide +kernel
theorem d_Si_sendArrivals_19 : decode b_Si_sendArrivals 19 = .ok (.getfield 22, 3) := by decide +kernel
theorem d_Si_sendArrivals_22 : decode b_Si_sendArrivals 22 = .ok (.getfield 70, 3) := by decide +kernel
theorem d_Si_sendArrivals_25 : decode b_Si_sendArrivals 25 = .ok (.iload_n 2, 1) := by decide +kernel
theorem d_Si_sendArrivals_26 : decode b_Si_sendArrivals 26 = .ok (.iaload, 1) := by decide +kernel
theorem d_Si_sendArrivals_27 : decode b_Si_sendArrivals 27 = .ok (.iconst (2), 1) := by decide +kernel
theorem d_Si_sendArrivals_28 : decode b_Si_sendArrivals 28 = .ok (.if_icmp .ne (36), 3) := by decide +kernel
theorem d_Si_sendArrivals_31 : decode b_Si_sendArrivals 31 = .ok (.aload_n 0, 1) := by decide +kernel
theorem d_Si_sendArrivals_32 : decode b_Si_sendArrivals 32 = .ok (.getfield 26, 3) := by decide +kernel
theorem d_Si_sendArrivals_35 : decode b_Si_sendArrivals 35 = .ok (.iload_n 2, 1) := by decide +kernel
theorem d_Si_sendArrivals_36 : decode b_Si_sendArrivals 36 = .ok (.aload_n 3, 1) := by decide +kernel
theorem d_Si_sendArrivals_37 : decode b_Si_sendArrivals 37 = .ok (.getfield 73, 3) := by decide +kernel
theorem d_Si_sendArrivals_40 : decode b_Si_sendArrivals 40 = .ok (.invokevirtual 78, 3) := by decide +kernel
theorem d_Si_sendArrivals_43 : decode b_Si_sendArrivals 43 = .ok (.ifCond .eq (21), 3) := by decide +kernel
theorem d_Si_sendArrivals_46 : decode b_Si_sendArrivals 46 = .ok (.aload_n 1, 1) := by decide +kernel
theorem d_Si_sendArrivals_47 : decode b_Si_sendArrivals 47 = .ok (.aload_n 3, 1) := by decide +kernel
theorem d_Si_sendArrivals_48 : decode b_Si_sendArrivals 48 = .ok (.aload_n 0, 1) := by decide +kernel
theorem d_Si_sendArrivals_49 : decode b_Si_sendArrivals 49 = .ok (.getfield 32, 3) := by decide +kernel
theorem d_Si_sendArrivals_52 : decode b_Si_sendArrivals 52 = .ok (.aload_n 0, 1) := by decide +kernel
theorem d_Si_sendArrivals_53 : decode b_Si_sendArrivals 53 = .ok (.getfield 22, 3) := by decide +kernel
theorem d_Si_sendArrivals_56 : decode b_Si_sendArrivals 56 = .ok (.getfield 82, 3) := by decide +kernel
theorem d_Si_sendArrivals_59 : decode b_Si_sendArrivals 59 = .ok (.iload_n 2, 1) := by decide +kernel
theorem d_Si_sendArrivals_60 : decode b_Si_sendArrivals 60 = .ok (.iaload, 1) := by decide +kernel
theorem d_Si_sendArrivals_61 : decode b_Si_sendArrivals 61 = .ok (.invokevirtual 85, 3) := by decide +kernel
theorem d_Si_sendArrivals_64 : decode b_Si_sendArrivals 64 = .ok (.iinc 2 (1), 3) := by decide +kernel
theorem d_Si_sendArrivals_67 : decode b_Si_sendArrivals 67 = .ok (.goto (-65), 3) := by decide +kernel
theorem d_Si_sendArrivals_70 : decode b_Si_sendArrivals 70 = .ok (.return_, 1) := by decide +kernel
theorem d_Si_receive_0 : decode b_Si_receive 0 = .ok (.aload_n 0, 1) := by decide +kernel
theorem d_Si_receive_1 : decode b_Si_receive 1 = .ok (.getfield 9, 3) := by decide +kernel
theorem d_Si_receive_4 : decode b_Si_receive 4 = .ok (.ifCond .ne (4), 3) := by decide +kernel
theorem d_Si_receive_7 : decode b_Si_receive 7 = .ok (.return_, 1) := by decide +kernel
theorem d_Si_receive_8 : decode b_Si_receive 8 = .ok (.aload_n 1, 1) := by decide +kernel
theorem d_Si_receive_9 : decode b_Si_receive 9 = .ok (.getfield 89, 3) := by decide +kernel
theorem d_Si_receive_12 : decode b_Si_receive 12 = .ok (.istore_n 3, 1) := by decide +kernel
theorem d_Si_receive_13 : decode b_Si_receive 13 = .ok (.aload_n 1, 1) := by decide +kernel
theorem d_Si_receive_14 : decode b_Si_receive 14 = .ok (.getfield 92, 3) := by decide +kernel
theorem d_Si_receive_17 : decode b_Si_receive 17 = .ok (.ifCond .ne (31), 3) := by decide +kernel
theorem d_Si_receive_20 : decode b_Si_receive 20 = .ok (.aload_n 0, 1) := by decide +kernel
theorem d_Si_receive_21 : decode b_Si_receive 21 = .ok (.getfield 22, 3) := by decide +kernel
theorem d_Si_receive_24 : decode b_Si_receive 24 = .ok (.iload_n 3, 1) := by decide +kernel
theorem d_Si_receive_25 : decode b_Si_receive 25 = .ok (.aload_n 1, 1) := by decide +kernel
theorem d_Si_receive_26 : decode b_Si_receive 26 = .ok (.getfield 95, 3) := by decide +kernel
theorem d_Si_receive_29 : decode b_Si_receive 29 = .ok (.invokevirtual 78, 3) := by decide +kernel
theorem d_Si_receive_32 : decode b_Si_receive 32 = .ok (.ifCond .eq (106), 3) := by decide +kernel
theorem d_Si_receive_35 : decode b_Si_receive 35 = .ok (.aload_n 0, 1) := by decide +kernel
theorem d_Si_receive_36 : decode b_Si_receive 36 = .ok (.getfield 22, 3) := by decide +kernel
theorem d_Si_receive_39 : decode b_Si_receive 39 = .ok (.getfield 70, 3) := by decide +kernel
theorem d_Si_receive_42 : decode b_Si_receive 42 = .ok (.iload_n 3, 1) := by decide +kernel
theorem d_Si_receive_43 : decode b_Si_receive 43 = .ok (.iconst (0), 1) := by decide +kernel
theorem d_Si_receive_44 : decode b_Si_receive 44 = .ok (.iastore, 1) := by decide +kernel
theorem d_Si_receive_45 : decode b_Si_receive 45 = .ok (.goto (93), 3) := by decide +kernel
theorem d_Si_receive_48 : decode b_Si_receive 48 = .ok (.aload_n 1, 1) := by decide +kernel
theorem d_Si_receive_49 : decode b_Si_receive 49 = .ok (.getfield 95, 3) := by decide +kernel
theorem d_Si_receive_52 : decode b_Si_receive 52 = .ok (.aload_n 0, 1) := by decide +kernel
theorem d_Si_receive_53 : decode b_Si_receive 53 = .ok (.getfield 22, 3) := by decide +kernel
theorem d_Si_receive_56 : decode b_Si_receive 56 = .ok (.getfield 57, 3) := by decide +kernel
theorem d_Si_receive_59 : decode b_Si_receive 59 = .ok (.iload_n 3, 1) := by decide +kernel
theorem d_Si_receive_60 : decode b_Si_receive 60 = .ok (.iaload, 1) := by decide +kernel
theorem d_Si_receive_61 : decode b_Si_receive 61 = .ok (.if_icmp .le (44), 3) := by decide +kernel
theorem d_Si_receive_64 : decode b_Si_receive 64 = .ok (.aload_n 1, 1) := by decide +kernel
theorem d_Si_receive_65 : decode b_Si_receive 65 = .ok (.aload_n 0, 1) := by decide +kernel
theorem d_Si_receive_66 : decode b_Si_receive 66 = .ok (.getfield 22, 3) := by decide +kernel
theorem d_Si_receive_69 : decode b_Si_receive 69 = .ok (.getfield 66, 3) := by decide +kernel
theorem d_Si_receive_72 : decode b_Si_receive 72 = .ok (.iload_n 3, 1) := by decide +kernel
theorem d_Si_receive_73 : decode b_Si_receive 73 = .ok (.aaload, 1) := by decide +kernel
theorem d_Si_receive_74 : decode b_Si_receive 74 = .ok (.invokevirtual 96, 3) := by decide +kernel
theorem d_Si_receive_77 : decode b_Si_receive 77 = .ok (.aload_n 0, 1) := by decide +kernel
theorem d_Si_receive_78 : decode b_Si_receive 78 = .ok (.getfield 22, 3) := by decide +kernel
theorem d_Si_receive_81 : decode b_Si_receive 81 = .ok (.iload_n 3, 1) := by decide +kernel
theorem d_Si_receive_82 : decode b_Si_receive 82 = .ok (.aload_n 1, 1) := by decide +kernel
theorem d_Si_receive_83 : decode b_Si_receive 83 = .ok (.getfield 95, 3) := by decide +kernel
theorem d_Si_receive_86 : decode b_Si_receive 86 = .ok (.invokevirtual 100, 3) := by decide +kernel
theorem d_Si_receive_89 : decode b_Si_receive 89 = .ok (.aload_n 0, 1) := by decide +kernel
theorem d_Si_receive_90 : decode b_Si_receive 90 = .ok (.getfield 22, 3) := by decide +kernel
theorem d_Si_receive_93 : decode b_Si_receive 93 = .ok (.getfield 53, 3) := by decide +kernel
theorem d_Si_receive_96 : decode b_Si_receive 96 = .ok (.iload_n 3, 1) := by decide +kernel
theorem d_Si_receive_97 : decode b_Si_receive 97 = .ok (.aload_n 1, 1) := by decide +kernel
theorem d_Si_receive_98 : decode b_Si_receive 98 = .ok (.getfield 104, 3) := by decide +kernel
theorem d_Si_receive_101 : decode b_Si_receive 101 = .ok (.iastore, 1) := by decide +kernel
theorem d_Si_receive_102 : decode b_Si_receive 102 = .ok (.goto (36), 3) := by decide +kernel
theorem d_Si_receive_105 : decode b_Si_receive 105 = .ok (.aload_n 0, 1) := by decide +kernel
theorem d_Si_receive_106 : decode b_Si_receive 106 = .ok (.getfield 26, 3) := by decide +kernel
theorem d_Si_receive_109 : decode b_Si_receive 109 = .ok (.getfield 57, 3) := by decide +kernel
theorem d_Si_receive_112 : decode b_Si_receive 112 = .ok (.iload_n 3, 1) := by decide +kernel
theorem d_Si_receive_113 : decode b_Si_receive 113 = .ok (.iaload, 1) := by decide +kernel
theorem d_Si_receive_114 : decode b_Si_receive 114 = .ok (.aload_n 1, 1) := by decide +kernel
theorem d_Si_receive_115 : decode b_Si_receive 115 = .ok (.getfield 95, 3) := by decide +kernel
theorem d_Si_receive_118 : decode b_Si_receive 118 = .ok (.if_icmp .lt (20), 3) := by decide +kernel
theorem d_Si_receive_121 : decode b_Si_receive 121 = .ok (.aload_n 2, 1) := by decide +kernel
theorem d_Si_receive_122 : decode b_Si_receive 122 = .ok (.iload_n 3, 1) := by decide +kernel
theorem d_Si_receive_123 : decode b_Si_receive 123 = .ok (.aload_n 1, 1) := by decide +kernel
theorem d_Si_receive_124 : decode b_Si_receive 124 = .ok (.getfield 95, 3) := by decide +kernel
theorem d_Si_receive_127 : decode b_Si_receive 127 = .ok (.aload_n 0, 1) := by decide +kernel
theorem d_Si_receive_128 : decode b_Si_receive 128 = .ok (.getfield 32, 3) := by decide +kernel
theorem d_Si_receive_131 : decode b_Si_receive 131 = .ok (.aload_n 1, 1) := by decide +kernel
theorem d_Si_receive_132 : decode b_Si_receive 132 = .ok (.getfield 104, 3) := by decide +kernel
theorem d_Si_receive_135 : decode b_Si_receive 135 = .ok (.invokevirtual 60, 3) := by decide +kernel
theorem d_Si_receive_138 : decode b_Si_receive 138 = .ok (.return_, 1) := by decide +kernel
theorem d_Si_tell_0 : decode b_Si_tell 0 = .ok (.iload_n 1, 1) := by decide +kernel
theorem d_Si_tell_1 : decode b_Si_tell 1 = .ok (.ifCond .ne (16), 3) := by decide +kernel
theorem d_Si_tell_4 : decode b_Si_tell 4 = .ok (.aload_n 0, 1) := by decide +kernel
theorem d_Si_tell_5 : decode b_Si_tell 5 = .ok (.getfield 9, 3) := by decide +kernel
theorem d_Si_tell_8 : decode b_Si_tell 8 = .ok (.ifCond .eq (7), 3) := by decide +kernel
theorem d_Si_tell_11 : decode b_Si_tell 11 = .ok (.iconst (1), 1) := by decide +kernel
theorem d_Si_tell_12 : decode b_Si_tell 12 = .ok (.goto (4), 3) := by decide +kernel
theorem d_Si_tell_15 : decode b_Si_tell 15 = .ok (.iconst (0), 1) := by decide +kernel
theorem d_Si_tell_16 : decode b_Si_tell 16 = .ok (.ireturn, 1) := by decide +kernel
theorem d_Si_tell_17 : decode b_Si_tell 17 = .ok (.iload_n 1, 1) := by decide +kernel
theorem d_Si_tell_18 : decode b_Si_tell 18 = .ok (.iconst (1), 1) := by decide +kernel
theorem d_Si_tell_19 : decode b_Si_tell 19 = .ok (.if_icmp .ne (8), 3) := by decide +kernel
theorem d_Si_tell_22 : decode b_Si_tell 22 = .ok (.aload_n 0, 1) := by decide +kernel
theorem d_Si_tell_23 : decode b_Si_tell 23 = .ok (.getfield 15, 3) := by decide +kernel
theorem d_Si_tell_26 : decode b_Si_tell 26 = .ok (.ireturn, 1) := by decide +kernel
theorem d_Si_tell_27 : decode b_Si_tell 27 = .ok (.aload_n 0, 1) := by decide +kernel
theorem d_Si_tell_28 : decode b_Si_tell 28 = .ok (.getfield 9, 3) := by decide +kernel
theorem d_Si_tell_31 : decode b_Si_tell 31 = .ok (.ifCond .eq (14), 3) := by decide +kernel
theorem d_Si_tell_34 : decode b_Si_tell 34 = .ok (.iload_n 1, 1) := by decide +kernel
theorem d_Si_tell_35 : decode b_Si_tell 35 = .ok (.iconst (2), 1) := by decide +kernel
theorem d_Si_tell_36 : decode b_Si_tell 36 = .ok (.if_icmp .lt (9), 3) := by decide +kernel
theorem d_Si_tell_39 : decode b_Si_tell 39 = .ok (.iload_n 1, 1) := by decide +kernel
theorem d_Si_tell_40 : decode b_Si_tell 40 = .ok (.bipush (18), 2) := by decide +kernel
theorem d_Si_tell_42 : decode b_Si_tell 42 = .ok (.if_icmp .lt (5), 3) := by decide +kernel
theorem d_Si_tell_45 : decode b_Si_tell 45 = .ok (.iconst (-1), 1) := by decide +kernel
theorem d_Si_tell_46 : decode b_Si_tell 46 = .ok (.ireturn, 1) := by decide +kernel
theorem d_Si_tell_47 : decode b_Si_tell 47 = .ok (.iload_n 1, 1) := by decide +kernel
theorem d_Si_tell_48 : decode b_Si_tell 48 = .ok (.bipush (10), 2) := by decide +kernel
theorem d_Si_tell_50 : decode b_Si_tell 50 = .ok (.if_icmp .ge (17), 3) := by decide +kernel
theorem d_Si_tell_53 : decode b_Si_tell 53 = .ok (.aload_n 0, 1) := by decide +kernel
theorem d_Si_tell_54 : decode b_Si_tell 54 = .ok (.getfield 22, 3) := by decide +kernel
theorem d_Si_tell_57 : decode b_Si_tell 57 = .ok (.getfield 82, 3) := by decide +kernel
theorem d_Si_tell_60 : decode b_Si_tell 60 = .ok (.iload_n 1, 1) := by decide +kernel
theorem d_Si_tell_61 : decode b_Si_tell 61 = .ok (.iconst (2), 1) := by decide +kernel
theorem d_Si_tell_62 : decode b_Si_tell 62 = .ok (.isub, 1) := by decide +kernel
theorem d_Si_tell_63 : decode b_Si_tell 63 = .ok (.iaload, 1) := by decide +kernel
theorem d_Si_tell_64 : decode b_Si_tell 64 = .ok (.goto (17), 3) := by decide +kernel
theorem d_Si_tell_67 : decode b_Si_tell 67 = .ok (.aload_n 0, 1) := by decide +kernel
theorem d_Si_tell_68 : decode b_Si_tell 68 = .ok (.getfield 22, 3) := by decide +kernel
theorem d_Si_tell_71 : decode b_Si_tell 71 = .ok (.getfield 57, 3) := by decide +kernel
theorem d_Si_tell_74 : decode b_Si_tell 74 = .ok (.iload_n 1, 1) := by decide +kernel
theorem d_Si_tell_75 : decode b_Si_tell 75 = .ok (.iconst (2), 1) := by decide +kernel
theorem d_Si_tell_76 : decode b_Si_tell 76 = .ok (.isub, 1) := by decide +kernel
theorem d_Si_tell_77 : decode b_Si_tell 77 = .ok (.bipush (8), 2) := by decide +kernel
theorem d_Si_tell_79 : decode b_Si_tell 79 = .ok (.isub, 1) := by decide +kernel
theorem d_Si_tell_80 : decode b_Si_tell 80 = .ok (.iaload, 1) := by decide +kernel
theorem d_Si_tell_81 : decode b_Si_tell 81 = .ok (.ireturn, 1) := by decide +kernel
