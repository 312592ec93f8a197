theorem dX0_init_0 : decode cX0_init 0 = .ok (.aload_n 0, 1) := by decide +kernel
theorem dX0_init_1 : decode cX0_init 1 = .ok (.invokespecial 3, 3) := by decide +kernel
theorem dX0_init_4 : decode cX0_init 4 = .ok (.aload_n 0, 1) := by decide +kernel
theorem dX0_init_5 : decode cX0_init 5 = .ok (.iconst 0, 1) := by decide +kernel
theorem dX0_init_6 : decode cX0_init 6 = .ok (.putfield 9, 3) := by decide +kernel
theorem dX0_init_9 : decode cX0_init 9 = .ok (.aload_n 0, 1) := by decide +kernel
theorem dX0_init_10 : decode cX0_init 10 = .ok (.bipush 6, 2) := by decide +kernel
theorem dX0_init_12 : decode cX0_init 12 = .ok (.newarray .int, 2) := by decide +kernel
theorem dX0_init_14 : decode cX0_init 14 = .ok (.putfield 15, 3) := by decide +kernel
theorem dX0_init_17 : decode cX0_init 17 = .ok (.aload_n 0, 1) := by decide +kernel
theorem dX0_init_18 : decode cX0_init 18 = .ok (.bipush 6, 2) := by decide +kernel
theorem dX0_init_20 : decode cX0_init 20 = .ok (.newarray .int, 2) := by decide +kernel
theorem dX0_init_22 : decode cX0_init 22 = .ok (.putfield 19, 3) := by decide +kernel
theorem dX0_init_25 : decode cX0_init 25 = .ok (.aload_n 0, 1) := by decide +kernel
theorem dX0_init_26 : decode cX0_init 26 = .ok (.bipush 6, 2) := by decide +kernel
theorem dX0_init_28 : decode cX0_init 28 = .ok (.newarray .int, 2) := by decide +kernel
theorem dX0_init_30 : decode cX0_init 30 = .ok (.putfield 22, 3) := by decide +kernel
theorem dX0_init_33 : decode cX0_init 33 = .ok (.aload_n 0, 1) := by decide +kernel
theorem dX0_init_34 : decode cX0_init 34 = .ok (.bipush 6, 2) := by decide +kernel
theorem dX0_init_36 : decode cX0_init 36 = .ok (.newarray .int, 2) := by decide +kernel
theorem dX0_init_38 : decode cX0_init 38 = .ok (.putfield 25, 3) := by decide +kernel
theorem dX0_init_41 : decode cX0_init 41 = .ok (.aload_n 0, 1) := by decide +kernel
theorem dX0_init_42 : decode cX0_init 42 = .ok (.bipush 6, 2) := by decide +kernel
theorem dX0_init_44 : decode cX0_init 44 = .ok (.newarray .int, 2) := by decide +kernel
theorem dX0_init_46 : decode cX0_init 46 = .ok (.putfield 28, 3) := by decide +kernel
theorem dX0_init_49 : decode cX0_init 49 = .ok (.aload_n 0, 1) := by decide +kernel
theorem dX0_init_50 : decode cX0_init 50 = .ok (.iconst 0, 1) := by decide +kernel
theorem dX0_init_51 : decode cX0_init 51 = .ok (.putfield 31, 3) := by decide +kernel
theorem dX0_init_54 : decode cX0_init 54 = .ok (.aload_n 0, 1) := by decide +kernel
theorem dX0_init_55 : decode cX0_init 55 = .ok (.bipush 9, 2) := by decide +kernel
theorem dX0_init_57 : decode cX0_init 57 = .ok (.newarray .int, 2) := by decide +kernel
theorem dX0_init_59 : decode cX0_init 59 = .ok (.putfield 34, 3) := by decide +kernel
theorem dX0_init_62 : decode cX0_init 62 = .ok (.aload_n 0, 1) := by decide +kernel
theorem dX0_init_63 : decode cX0_init 63 = .ok (.bipush 9, 2) := by decide +kernel
theorem dX0_init_65 : decode cX0_init 65 = .ok (.newarray .int, 2) := by decide +kernel
theorem dX0_init_67 : decode cX0_init 67 = .ok (.putfield 37, 3) := by decide +kernel
theorem dX0_init_70 : decode cX0_init 70 = .ok (.aload_n 0, 1) := by decide +kernel
theorem dX0_init_71 : decode cX0_init 71 = .ok (.bipush 9, 2) := by decide +kernel
theorem dX0_init_73 : decode cX0_init 73 = .ok (.newarray .int, 2) := by decide +kernel
theorem dX0_init_75 : decode cX0_init 75 = .ok (.putfield 40, 3) := by decide +kernel
theorem dX0_init_78 : decode cX0_init 78 = .ok (.aload_n 0, 1) := by decide +kernel
theorem dX0_init_79 : decode cX0_init 79 = .ok (.iconst 0, 1) := by decide +kernel
theorem dX0_init_80 : decode cX0_init 80 = .ok (.putfield 43, 3) := by decide +kernel
theorem dX0_init_83 : decode cX0_init 83 = .ok (.aload_n 0, 1) := by decide +kernel
theorem dX0_init_84 : decode cX0_init 84 = .ok (.iconst 4, 1) := by decide +kernel
theorem dX0_init_85 : decode cX0_init 85 = .ok (.newarray .int, 2) := by decide +kernel
theorem dX0_init_87 : decode cX0_init 87 = .ok (.putfield 46, 3) := by decide +kernel
theorem dX0_init_90 : decode cX0_init 90 = .ok (.aload_n 0, 1) := by decide +kernel
theorem dX0_init_91 : decode cX0_init 91 = .ok (.iconst 4, 1) := by decide +kernel
theorem dX0_init_92 : decode cX0_init 92 = .ok (.newarray .int, 2) := by decide +kernel
theorem dX0_init_94 : decode cX0_init 94 = .ok (.putfield 49, 3) := by decide +kernel
theorem dX0_init_97 : decode cX0_init 97 = .ok (.aload_n 0, 1) := by decide +kernel
theorem dX0_init_98 : decode cX0_init 98 = .ok (.iconst 4, 1) := by decide +kernel
theorem dX0_init_99 : decode cX0_init 99 = .ok (.newarray .int, 2) := by decide +kernel
theorem dX0_init_101 : decode cX0_init 101 = .ok (.putfield 52, 3) := by decide +kernel
theorem dX0_init_104 : decode cX0_init 104 = .ok (.aload_n 0, 1) := by decide +kernel
theorem dX0_init_105 : decode cX0_init 105 = .ok (.iconst 0, 1) := by decide +kernel
theorem dX0_init_106 : decode cX0_init 106 = .ok (.putfield 55, 3) := by decide +kernel
theorem dX0_init_109 : decode cX0_init 109 = .ok (.return_, 1) := by decide +kernel
theorem dX0_clear_0 : decode cX0_clear 0 = .ok (.aload_n 0, 1) := by decide +kernel
theorem dX0_clear_1 : decode cX0_clear 1 = .ok (.iconst 0, 1) := by decide +kernel
theorem dX0_clear_2 : decode cX0_clear 2 = .ok (.putfield 9, 3) := by decide +kernel
theorem dX0_clear_5 : decode cX0_clear 5 = .ok (.aload_n 0, 1) := by decide +kernel
theorem dX0_clear_6 : decode cX0_clear 6 = .ok (.iconst 0, 1) := by decide +kernel
theorem dX0_clear_7 : decode cX0_clear 7 = .ok (.putfield 31, 3) := by decide +kernel
theorem dX0_clear_10 : decode cX0_clear 10 = .ok (.aload_n 0, 1) := by decide +kernel
theorem dX0_clear_11 : decode cX0_clear 11 = .ok (.iconst 0, 1) := by decide +kernel
theorem dX0_clear_12 : decode cX0_clear 12 = .ok (.putfield 43, 3) := by decide +kernel
theorem dX0_clear_15 : decode cX0_clear 15 = .ok (.aload_n 0, 1) := by decide +kernel
theorem dX0_clear_16 : decode cX0_clear 16 = .ok (.iconst 0, 1) := by decide +kernel
theorem dX0_clear_17 : decode cX0_clear 17 = .ok (.putfield 55, 3) := by decide +kernel
theorem dX0_clear_20 : decode cX0_clear 20 = .ok (.return_, 1) := by decide +kernel
theorem dX0_hasPerson_0 : decode cX0_hasPerson 0 = .ok (.iload_n 1, 1) := by decide +kernel
theorem dX0_hasPerson_1 : decode cX0_hasPerson 1 = .ok (.ifCond .lt 15, 3) := by decide +kernel
theorem dX0_hasPerson_4 : decode cX0_hasPerson 4 = .ok (.iload_n 1, 1) := by decide +kernel
theorem dX0_hasPerson_5 : decode cX0_hasPerson 5 = .ok (.aload_n 0, 1) := by decide +kernel
theorem dX0_hasPerson_6 : decode cX0_hasPerson 6 = .ok (.getfield 9, 3) := by decide +kernel
theorem dX0_hasPerson_9 : decode cX0_hasPerson 9 = .ok (.if_icmp .ge 7, 3) := by decide +kernel
theorem dX0_hasPerson_12 : decode cX0_hasPerson 12 = .ok (.iconst 1, 1) := by decide +kernel
theorem dX0_hasPerson_13 : decode cX0_hasPerson 13 = .ok (.goto 4, 3) := by decide +kernel
theorem dX0_hasPerson_16 : decode cX0_hasPerson 16 = .ok (.iconst 0, 1) := by decide +kernel
theorem dX0_hasPerson_17 : decode cX0_hasPerson 17 = .ok (.ireturn, 1) := by decide +kernel
theorem dX0_hasBequest_0 : decode cX0_hasBequest 0 = .ok (.iload_n 1, 1) := by decide +kernel
theorem dX0_hasBequest_1 : decode cX0_hasBequest 1 = .ok (.ifCond .lt 15, 3) := by decide +kernel
theorem dX0_hasBequest_4 : decode cX0_hasBequest 4 = .ok (.iload_n 1, 1) := by decide +kernel
theorem dX0_hasBequest_5 : decode cX0_hasBequest 5 = .ok (.aload_n 0, 1) := by decide +kernel
theorem dX0_hasBequest_6 : decode cX0_hasBequest 6 = .ok (.getfield 31, 3) := by decide +kernel
theorem dX0_hasBequest_9 : decode cX0_hasBequest 9 = .ok (.if_icmp .ge 7, 3) := by decide +kernel
theorem dX0_hasBequest_12 : decode cX0_hasBequest 12 = .ok (.iconst 1, 1) := by decide +kernel
theorem dX0_hasBequest_13 : decode cX0_hasBequest 13 = .ok (.goto 4, 3) := by decide +kernel
theorem dX0_hasBequest_16 : decode cX0_hasBequest 16 = .ok (.iconst 0, 1) := by decide +kernel
theorem dX0_hasBequest_17 : decode cX0_hasBequest 17 = .ok (.ireturn, 1) := by decide +kernel
theorem dX0_addPerson_0 : decode cX0_addPerson 0 = .ok (.aload_n 0, 1) := by decide +kernel
theorem dX0_addPerson_1 : decode cX0_addPerson 1 = .ok (.getfield 9, 3) := by decide +kernel
theorem dX0_addPerson_4 : decode cX0_addPerson 4 = .ok (.bipush 6, 2) := by decide +kernel
theorem dX0_addPerson_6 : decode cX0_addPerson 6 = .ok (.if_icmp .ge 44, 3) := by decide +kernel
theorem dX0_addPerson_9 : decode cX0_addPerson 9 = .ok (.iload_n 1, 1) := by decide +kernel
theorem dX0_addPerson_10 : decode cX0_addPerson 10 = .ok (.iconst 0, 1) := by decide +kernel
theorem dX0_addPerson_11 : decode cX0_addPerson 11 = .ok (.bipush 60, 2) := by decide +kernel
theorem dX0_addPerson_13 : decode cX0_addPerson 13 = .ok (.invokestatic 58, 3) := by decide +kernel
theorem dX0_addPerson_16 : decode cX0_addPerson 16 = .ok (.ifCond .eq 34, 3) := by decide +kernel
theorem dX0_addPerson_19 : decode cX0_addPerson 19 = .ok (.iload_n 2, 1) := by decide +kernel
theorem dX0_addPerson_20 : decode cX0_addPerson 20 = .ok (.iconst 0, 1) := by decide +kernel
theorem dX0_addPerson_21 : decode cX0_addPerson 21 = .ok (.bipush 9, 2) := by decide +kernel
theorem dX0_addPerson_23 : decode cX0_addPerson 23 = .ok (.invokestatic 58, 3) := by decide +kernel
theorem dX0_addPerson_26 : decode cX0_addPerson 26 = .ok (.ifCond .eq 24, 3) := by decide +kernel
theorem dX0_addPerson_29 : decode cX0_addPerson 29 = .ok (.iload_n 3, 1) := by decide +kernel
theorem dX0_addPerson_30 : decode cX0_addPerson 30 = .ok (.bipush 20, 2) := by decide +kernel
theorem dX0_addPerson_32 : decode cX0_addPerson 32 = .ok (.bipush 99, 2) := by decide +kernel
theorem dX0_addPerson_34 : decode cX0_addPerson 34 = .ok (.invokestatic 58, 3) := by decide +kernel
theorem dX0_addPerson_37 : decode cX0_addPerson 37 = .ok (.ifCond .eq 13, 3) := by decide +kernel
theorem dX0_addPerson_40 : decode cX0_addPerson 40 = .ok (.iload 4, 2) := by decide +kernel
theorem dX0_addPerson_42 : decode cX0_addPerson 42 = .ok (.iconst 0, 1) := by decide +kernel
theorem dX0_addPerson_43 : decode cX0_addPerson 43 = .ok (.iconst 3, 1) := by decide +kernel
theorem dX0_addPerson_44 : decode cX0_addPerson 44 = .ok (.invokestatic 58, 3) := by decide +kernel
theorem dX0_addPerson_47 : decode cX0_addPerson 47 = .ok (.ifCond .ne 5, 3) := by decide +kernel
theorem dX0_addPerson_50 : decode cX0_addPerson 50 = .ok (.iconst 0, 1) := by decide +kernel
theorem dX0_addPerson_51 : decode cX0_addPerson 51 = .ok (.ireturn, 1) := by decide +kernel
theorem dX0_addPerson_52 : decode cX0_addPerson 52 = .ok (.aload_n 0, 1) := by decide +kernel
theorem dX0_addPerson_53 : decode cX0_addPerson 53 = .ok (.getfield 15, 3) := by decide +kernel
theorem dX0_addPerson_56 : decode cX0_addPerson 56 = .ok (.aload_n 0, 1) := by decide +kernel
theorem dX0_addPerson_57 : decode cX0_addPerson 57 = .ok (.getfield 9, 3) := by decide +kernel
theorem dX0_addPerson_60 : decode cX0_addPerson 60 = .ok (.iload_n 1, 1) := by decide +kernel
theorem dX0_addPerson_61 : decode cX0_addPerson 61 = .ok (.iastore, 1) := by decide +kernel
theorem dX0_addPerson_62 : decode cX0_addPerson 62 = .ok (.aload_n 0, 1) := by decide +kernel
theorem dX0_addPerson_63 : decode cX0_addPerson 63 = .ok (.getfield 19, 3) := by decide +kernel
theorem dX0_addPerson_66 : decode cX0_addPerson 66 = .ok (.aload_n 0, 1) := by decide +kernel
theorem dX0_addPerson_67 : decode cX0_addPerson 67 = .ok (.getfield 9, 3) := by decide +kernel
theorem dX0_addPerson_70 : decode cX0_addPerson 70 = .ok (.iload_n 2, 1) := by decide +kernel
theorem dX0_addPerson_71 : decode cX0_addPerson 71 = .ok (.iastore, 1) := by decide +kernel
theorem dX0_addPerson_72 : decode cX0_addPerson 72 = .ok (.aload_n 0, 1) := by decide +kernel
theorem dX0_addPerson_73 : decode cX0_addPerson 73 = .ok (.getfield 22, 3) := by decide +kernel
theorem dX0_addPerson_76 : decode cX0_addPerson 76 = .ok (.aload_n 0, 1) := by decide +kernel
theorem dX0_addPerson_77 : decode cX0_addPerson 77 = .ok (.getfield 9, 3) := by decide +kernel
theorem dX0_addPerson_80 : decode cX0_addPerson 80 = .ok (.iload_n 3, 1) := by decide +kernel
theorem dX0_addPerson_81 : decode cX0_addPerson 81 = .ok (.iastore, 1) := by decide +kernel
theorem dX0_addPerson_82 : decode cX0_addPerson 82 = .ok (.aload_n 0, 1) := by decide +kernel
theorem dX0_addPerson_83 : decode cX0_addPerson 83 = .ok (.getfield 25, 3) := by decide +kernel
theorem dX0_addPerson_86 : decode cX0_addPerson 86 = .ok (.aload_n 0, 1) := by decide +kernel
theorem dX0_addPerson_87 : decode cX0_addPerson 87 = .ok (.getfield 9, 3) := by decide +kernel
theorem dX0_addPerson_90 : decode cX0_addPerson 90 = .ok (.iload 4, 2) := by decide +kernel
theorem dX0_addPerson_92 : decode cX0_addPerson 92 = .ok (.iastore, 1) := by decide +kernel
theorem dX0_addPerson_93 : decode cX0_addPerson 93 = .ok (.aload_n 0, 1) := by decide +kernel
theorem dX0_addPerson_94 : decode cX0_addPerson 94 = .ok (.getfield 28, 3) := by decide +kernel
theorem dX0_addPerson_97 : decode cX0_addPerson 97 = .ok (.aload_n 0, 1) := by decide +kernel
theorem dX0_addPerson_98 : decode cX0_addPerson 98 = .ok (.getfield 9, 3) := by decide +kernel
theorem dX0_addPerson_101 : decode cX0_addPerson 101 = .ok (.iconst 0, 1) := by decide +kernel
theorem dX0_addPerson_102 : decode cX0_addPerson 102 = .ok (.iastore, 1) := by decide +kernel
theorem dX0_addPerson_103 : decode cX0_addPerson 103 = .ok (.aload_n 0, 1) := by decide +kernel
theorem dX0_addPerson_104 : decode cX0_addPerson 104 = .ok (.dup, 1) := by decide +kernel
theorem dX0_addPerson_105 : decode cX0_addPerson 105 = .ok (.getfield 9, 3) := by decide +kernel
theorem dX0_addPerson_108 : decode cX0_addPerson 108 = .ok (.iconst 1, 1) := by decide +kernel
theorem dX0_addPerson_109 : decode cX0_addPerson 109 = .ok (.iadd, 1) := by decide +kernel
theorem dX0_addPerson_110 : decode cX0_addPerson 110 = .ok (.putfield 9, 3) := by decide +kernel
theorem dX0_addPerson_113 : decode cX0_addPerson 113 = .ok (.iconst 1, 1) := by decide +kernel
theorem dX0_addPerson_114 : decode cX0_addPerson 114 = .ok (.ireturn, 1) := by decide +kernel
theorem dX0_addBequest_0 : decode cX0_addBequest 0 = .ok (.aload_n 0, 1) := by decide +kernel
theorem dX0_addBequest_1 : decode cX0_addBequest 1 = .ok (.getfield 31, 3) := by decide +kernel
theorem dX0_addBequest_4 : decode cX0_addBequest 4 = .ok (.bipush 9, 2) := by decide +kernel
theorem dX0_addBequest_6 : decode cX0_addBequest 6 = .ok (.if_icmp .ge 34, 3) := by decide +kernel
theorem dX0_addBequest_9 : decode cX0_addBequest 9 = .ok (.aload_n 0, 1) := by decide +kernel
theorem dX0_addBequest_10 : decode cX0_addBequest 10 = .ok (.iload_n 1, 1) := by decide +kernel
theorem dX0_addBequest_11 : decode cX0_addBequest 11 = .ok (.invokevirtual 62, 3) := by decide +kernel
theorem dX0_addBequest_14 : decode cX0_addBequest 14 = .ok (.ifCond .eq 26, 3) := by decide +kernel
theorem dX0_addBequest_17 : decode cX0_addBequest 17 = .ok (.aload_n 0, 1) := by decide +kernel
theorem dX0_addBequest_18 : decode cX0_addBequest 18 = .ok (.iload_n 2, 1) := by decide +kernel
theorem dX0_addBequest_19 : decode cX0_addBequest 19 = .ok (.invokevirtual 62, 3) := by decide +kernel
theorem dX0_addBequest_22 : decode cX0_addBequest 22 = .ok (.ifCond .eq 18, 3) := by decide +kernel
theorem dX0_addBequest_25 : decode cX0_addBequest 25 = .ok (.iload_n 1, 1) := by decide +kernel
theorem dX0_addBequest_26 : decode cX0_addBequest 26 = .ok (.iload_n 2, 1) := by decide +kernel
theorem dX0_addBequest_27 : decode cX0_addBequest 27 = .ok (.if_icmp .eq 13, 3) := by decide +kernel
theorem dX0_addBequest_30 : decode cX0_addBequest 30 = .ok (.iload_n 3, 1) := by decide +kernel
theorem dX0_addBequest_31 : decode cX0_addBequest 31 = .ok (.iconst 1, 1) := by decide +kernel
theorem dX0_addBequest_32 : decode cX0_addBequest 32 = .ok (.bipush 99, 2) := by decide +kernel
theorem dX0_addBequest_34 : decode cX0_addBequest 34 = .ok (.invokestatic 58, 3) := by decide +kernel
theorem dX0_addBequest_37 : decode cX0_addBequest 37 = .ok (.ifCond .ne 5, 3) := by decide +kernel
theorem dX0_addBequest_40 : decode cX0_addBequest 40 = .ok (.iconst 0, 1) := by decide +kernel
theorem dX0_addBequest_41 : decode cX0_addBequest 41 = .ok (.ireturn, 1) := by decide +kernel
theorem dX0_addBequest_42 : decode cX0_addBequest 42 = .ok (.aload_n 0, 1) := by decide +kernel
theorem dX0_addBequest_43 : decode cX0_addBequest 43 = .ok (.getfield 34, 3) := by decide +kernel
theorem dX0_addBequest_46 : decode cX0_addBequest 46 = .ok (.aload_n 0, 1) := by decide +kernel
theorem dX0_addBequest_47 : decode cX0_addBequest 47 = .ok (.getfield 31, 3) := by decide +kernel
theorem dX0_addBequest_50 : decode cX0_addBequest 50 = .ok (.iload_n 1, 1) := by decide +kernel
theorem dX0_addBequest_51 : decode cX0_addBequest 51 = .ok (.iastore, 1) := by decide +kernel
theorem dX0_addBequest_52 : decode cX0_addBequest 52 = .ok (.aload_n 0, 1) := by decide +kernel
theorem dX0_addBequest_53 : decode cX0_addBequest 53 = .ok (.getfield 37, 3) := by decide +kernel
theorem dX0_addBequest_56 : decode cX0_addBequest 56 = .ok (.aload_n 0, 1) := by decide +kernel
theorem dX0_addBequest_57 : decode cX0_addBequest 57 = .ok (.getfield 31, 3) := by decide +kernel
theorem dX0_addBequest_60 : decode cX0_addBequest 60 = .ok (.iload_n 2, 1) := by decide +kernel
theorem dX0_addBequest_61 : decode cX0_addBequest 61 = .ok (.iastore, 1) := by decide +kernel
theorem dX0_addBequest_62 : decode cX0_addBequest 62 = .ok (.aload_n 0, 1) := by decide +kernel
theorem dX0_addBequest_63 : decode cX0_addBequest 63 = .ok (.getfield 40, 3) := by decide +kernel
theorem dX0_addBequest_66 : decode cX0_addBequest 66 = .ok (.aload_n 0, 1) := by decide +kernel
theorem dX0_addBequest_67 : decode cX0_addBequest 67 = .ok (.getfield 31, 3) := by decide +kernel
theorem dX0_addBequest_70 : decode cX0_addBequest 70 = .ok (.iload_n 3, 1) := by decide +kernel
theorem dX0_addBequest_71 : decode cX0_addBequest 71 = .ok (.iastore, 1) := by decide +kernel
theorem dX0_addBequest_72 : decode cX0_addBequest 72 = .ok (.aload_n 0, 1) := by decide +kernel
theorem dX0_addBequest_73 : decode cX0_addBequest 73 = .ok (.dup, 1) := by decide +kernel
theorem dX0_addBequest_74 : decode cX0_addBequest 74 = .ok (.getfield 31, 3) := by decide +kernel
theorem dX0_addBequest_77 : decode cX0_addBequest 77 = .ok (.iconst 1, 1) := by decide +kernel
theorem dX0_addBequest_78 : decode cX0_addBequest 78 = .ok (.iadd, 1) := by decide +kernel
theorem dX0_addBequest_79 : decode cX0_addBequest 79 = .ok (.putfield 31, 3) := by decide +kernel
theorem dX0_addBequest_82 : decode cX0_addBequest 82 = .ok (.iconst 1, 1) := by decide +kernel
theorem dX0_addBequest_83 : decode cX0_addBequest 83 = .ok (.ireturn, 1) := by decide +kernel
theorem dX0_addGift_0 : decode cX0_addGift 0 = .ok (.aload_n 0, 1) := by decide +kernel
theorem dX0_addGift_1 : decode cX0_addGift 1 = .ok (.iload_n 1, 1) := by decide +kernel
theorem dX0_addGift_2 : decode cX0_addGift 2 = .ok (.invokevirtual 62, 3) := by decide +kernel
theorem dX0_addGift_5 : decode cX0_addGift 5 = .ok (.ifCond .eq 13, 3) := by decide +kernel
theorem dX0_addGift_8 : decode cX0_addGift 8 = .ok (.iload_n 2, 1) := by decide +kernel
theorem dX0_addGift_9 : decode cX0_addGift 9 = .ok (.iconst 0, 1) := by decide +kernel
theorem dX0_addGift_10 : decode cX0_addGift 10 = .ok (.bipush 99, 2) := by decide +kernel
theorem dX0_addGift_12 : decode cX0_addGift 12 = .ok (.invokestatic 58, 3) := by decide +kernel
theorem dX0_addGift_15 : decode cX0_addGift 15 = .ok (.ifCond .ne 5, 3) := by decide +kernel
theorem dX0_addGift_18 : decode cX0_addGift 18 = .ok (.iconst 0, 1) := by decide +kernel
theorem dX0_addGift_19 : decode cX0_addGift 19 = .ok (.ireturn, 1) := by decide +kernel
theorem dX0_addGift_20 : decode cX0_addGift 20 = .ok (.aload_n 0, 1) := by decide +kernel
theorem dX0_addGift_21 : decode cX0_addGift 21 = .ok (.getfield 28, 3) := by decide +kernel
theorem dX0_addGift_24 : decode cX0_addGift 24 = .ok (.iload_n 1, 1) := by decide +kernel
theorem dX0_addGift_25 : decode cX0_addGift 25 = .ok (.iload_n 2, 1) := by decide +kernel
theorem dX0_addGift_26 : decode cX0_addGift 26 = .ok (.iastore, 1) := by decide +kernel
theorem dX0_addGift_27 : decode cX0_addGift 27 = .ok (.iconst 1, 1) := by decide +kernel
theorem dX0_addGift_28 : decode cX0_addGift 28 = .ok (.ireturn, 1) := by decide +kernel
theorem dX0_putSeed_0 : decode cX0_putSeed 0 = .ok (.iload_n 1, 1) := by decide +kernel
theorem dX0_putSeed_1 : decode cX0_putSeed 1 = .ok (.iconst 0, 1) := by decide +kernel
theorem dX0_putSeed_2 : decode cX0_putSeed 2 = .ok (.bipush 99, 2) := by decide +kernel
theorem dX0_putSeed_4 : decode cX0_putSeed 4 = .ok (.invokestatic 58, 3) := by decide +kernel
theorem dX0_putSeed_7 : decode cX0_putSeed 7 = .ok (.ifCond .ne 5, 3) := by decide +kernel
theorem dX0_putSeed_10 : decode cX0_putSeed 10 = .ok (.iconst 0, 1) := by decide +kernel
theorem dX0_putSeed_11 : decode cX0_putSeed 11 = .ok (.ireturn, 1) := by decide +kernel
theorem dX0_putSeed_12 : decode cX0_putSeed 12 = .ok (.aload_n 0, 1) := by decide +kernel
theorem dX0_putSeed_13 : decode cX0_putSeed 13 = .ok (.iload_n 1, 1) := by decide +kernel
theorem dX0_putSeed_14 : decode cX0_putSeed 14 = .ok (.putfield 55, 3) := by decide +kernel
theorem dX0_putSeed_17 : decode cX0_putSeed 17 = .ok (.iconst 1, 1) := by decide +kernel
theorem dX0_putSeed_18 : decode cX0_putSeed 18 = .ok (.ireturn, 1) := by decide +kernel
theorem dX0_addHelp_0 : decode cX0_addHelp 0 = .ok (.aload_n 0, 1) := by decide +kernel
theorem dX0_addHelp_1 : decode cX0_addHelp 1 = .ok (.getfield 43, 3) := by decide +kernel
theorem dX0_addHelp_4 : decode cX0_addHelp 4 = .ok (.iconst 4, 1) := by decide +kernel
theorem dX0_addHelp_5 : decode cX0_addHelp 5 = .ok (.if_icmp .lt 5, 3) := by decide +kernel
theorem dX0_addHelp_8 : decode cX0_addHelp 8 = .ok (.iconst 0, 1) := by decide +kernel
theorem dX0_addHelp_9 : decode cX0_addHelp 9 = .ok (.ireturn, 1) := by decide +kernel
theorem dX0_addHelp_10 : decode cX0_addHelp 10 = .ok (.aload_n 0, 1) := by decide +kernel
theorem dX0_addHelp_11 : decode cX0_addHelp 11 = .ok (.getfield 46, 3) := by decide +kernel
theorem dX0_addHelp_14 : decode cX0_addHelp 14 = .ok (.aload_n 0, 1) := by decide +kernel
theorem dX0_addHelp_15 : decode cX0_addHelp 15 = .ok (.getfield 43, 3) := by decide +kernel
theorem dX0_addHelp_18 : decode cX0_addHelp 18 = .ok (.iload_n 1, 1) := by decide +kernel
theorem dX0_addHelp_19 : decode cX0_addHelp 19 = .ok (.iastore, 1) := by decide +kernel
theorem dX0_addHelp_20 : decode cX0_addHelp 20 = .ok (.aload_n 0, 1) := by decide +kernel
theorem dX0_addHelp_21 : decode cX0_addHelp 21 = .ok (.getfield 49, 3) := by decide +kernel
theorem dX0_addHelp_24 : decode cX0_addHelp 24 = .ok (.aload_n 0, 1) := by decide +kernel
theorem dX0_addHelp_25 : decode cX0_addHelp 25 = .ok (.getfield 43, 3) := by decide +kernel
theorem dX0_addHelp_28 : decode cX0_addHelp 28 = .ok (.iload_n 2, 1) := by decide +kernel
theorem dX0_addHelp_29 : decode cX0_addHelp 29 = .ok (.iastore, 1) := by decide +kernel
theorem dX0_addHelp_30 : decode cX0_addHelp 30 = .ok (.aload_n 0, 1) := by decide +kernel
theorem dX0_addHelp_31 : decode cX0_addHelp 31 = .ok (.getfield 52, 3) := by decide +kernel
theorem dX0_addHelp_34 : decode cX0_addHelp 34 = .ok (.aload_n 0, 1) := by decide +kernel
theorem dX0_addHelp_35 : decode cX0_addHelp 35 = .ok (.getfield 43, 3) := by decide +kernel
theorem dX0_addHelp_38 : decode cX0_addHelp 38 = .ok (.iload_n 3, 1) := by decide +kernel
theorem dX0_addHelp_39 : decode cX0_addHelp 39 = .ok (.iastore, 1) := by decide +kernel
theorem dX0_addHelp_40 : decode cX0_addHelp 40 = .ok (.aload_n 0, 1) := by decide +kernel
theorem dX0_addHelp_41 : decode cX0_addHelp 41 = .ok (.dup, 1) := by decide +kernel
theorem dX0_addHelp_42 : decode cX0_addHelp 42 = .ok (.getfield 43, 3) := by decide +kernel
theorem dX0_addHelp_45 : decode cX0_addHelp 45 = .ok (.iconst 1, 1) := by decide +kernel
theorem dX0_addHelp_46 : decode cX0_addHelp 46 = .ok (.iadd, 1) := by decide +kernel
theorem dX0_addHelp_47 : decode cX0_addHelp 47 = .ok (.putfield 43, 3) := by decide +kernel
theorem dX0_addHelp_50 : decode cX0_addHelp 50 = .ok (.iconst 1, 1) := by decide +kernel
theorem dX0_addHelp_51 : decode cX0_addHelp 51 = .ok (.ireturn, 1) := by decide +kernel
theorem dX0_dropLastHelp_0 : decode cX0_dropLastHelp 0 = .ok (.aload_n 0, 1) := by decide +kernel
theorem dX0_dropLastHelp_1 : decode cX0_dropLastHelp 1 = .ok (.getfield 43, 3) := by decide +kernel
theorem dX0_dropLastHelp_4 : decode cX0_dropLastHelp 4 = .ok (.ifCond .le 13, 3) := by decide +kernel
theorem dX0_dropLastHelp_7 : decode cX0_dropLastHelp 7 = .ok (.aload_n 0, 1) := by decide +kernel
theorem dX0_dropLastHelp_8 : decode cX0_dropLastHelp 8 = .ok (.dup, 1) := by decide +kernel
theorem dX0_dropLastHelp_9 : decode cX0_dropLastHelp 9 = .ok (.getfield 43, 3) := by decide +kernel
theorem dX0_dropLastHelp_12 : decode cX0_dropLastHelp 12 = .ok (.iconst 1, 1) := by decide +kernel
theorem dX0_dropLastHelp_13 : decode cX0_dropLastHelp 13 = .ok (.isub, 1) := by decide +kernel
theorem dX0_dropLastHelp_14 : decode cX0_dropLastHelp 14 = .ok (.putfield 43, 3) := by decide +kernel
theorem dX0_dropLastHelp_17 : decode cX0_dropLastHelp 17 = .ok (.return_, 1) := by decide +kernel
theorem dX0_voidBequest_0 : decode cX0_voidBequest 0 = .ok (.aload_n 0, 1) := by decide +kernel
theorem dX0_voidBequest_1 : decode cX0_voidBequest 1 = .ok (.iload_n 1, 1) := by decide +kernel
theorem dX0_voidBequest_2 : decode cX0_voidBequest 2 = .ok (.invokevirtual 66, 3) := by decide +kernel
theorem dX0_voidBequest_5 : decode cX0_voidBequest 5 = .ok (.ifCond .eq 10, 3) := by decide +kernel
theorem dX0_voidBequest_8 : decode cX0_voidBequest 8 = .ok (.aload_n 0, 1) := by decide +kernel
theorem dX0_voidBequest_9 : decode cX0_voidBequest 9 = .ok (.getfield 40, 3) := by decide +kernel
theorem dX0_voidBequest_12 : decode cX0_voidBequest 12 = .ok (.iload_n 1, 1) := by decide +kernel
theorem dX0_voidBequest_13 : decode cX0_voidBequest 13 = .ok (.iconst 0, 1) := by decide +kernel
theorem dX0_voidBequest_14 : decode cX0_voidBequest 14 = .ok (.iastore, 1) := by decide +kernel
theorem dX0_voidBequest_15 : decode cX0_voidBequest 15 = .ok (.return_, 1) := by decide +kernel
theorem dX0_voidBequestsOf_0 : decode cX0_voidBequestsOf 0 = .ok (.iconst 0, 1) := by decide +kernel
theorem dX0_voidBequestsOf_1 : decode cX0_voidBequestsOf 1 = .ok (.istore_n 2, 1) := by decide +kernel
theorem dX0_voidBequestsOf_2 : decode cX0_voidBequestsOf 2 = .ok (.iload_n 2, 1) := by decide +kernel
theorem dX0_voidBequestsOf_3 : decode cX0_voidBequestsOf 3 = .ok (.aload_n 0, 1) := by decide +kernel
theorem dX0_voidBequestsOf_4 : decode cX0_voidBequestsOf 4 = .ok (.getfield 31, 3) := by decide +kernel
theorem dX0_voidBequestsOf_7 : decode cX0_voidBequestsOf 7 = .ok (.if_icmp .ge 26, 3) := by decide +kernel
theorem dX0_voidBequestsOf_10 : decode cX0_voidBequestsOf 10 = .ok (.aload_n 0, 1) := by decide +kernel
theorem dX0_voidBequestsOf_11 : decode cX0_voidBequestsOf 11 = .ok (.getfield 34, 3) := by decide +kernel
theorem dX0_voidBequestsOf_14 : decode cX0_voidBequestsOf 14 = .ok (.iload_n 2, 1) := by decide +kernel
theorem dX0_voidBequestsOf_15 : decode cX0_voidBequestsOf 15 = .ok (.iaload, 1) := by decide +kernel
theorem dX0_voidBequestsOf_16 : decode cX0_voidBequestsOf 16 = .ok (.iload_n 1, 1) := by decide +kernel
theorem dX0_voidBequestsOf_17 : decode cX0_voidBequestsOf 17 = .ok (.if_icmp .ne 10, 3) := by decide +kernel
theorem dX0_voidBequestsOf_20 : decode cX0_voidBequestsOf 20 = .ok (.aload_n 0, 1) := by decide +kernel
theorem dX0_voidBequestsOf_21 : decode cX0_voidBequestsOf 21 = .ok (.getfield 40, 3) := by decide +kernel
theorem dX0_voidBequestsOf_24 : decode cX0_voidBequestsOf 24 = .ok (.iload_n 2, 1) := by decide +kernel
theorem dX0_voidBequestsOf_25 : decode cX0_voidBequestsOf 25 = .ok (.iconst 0, 1) := by decide +kernel
theorem dX0_voidBequestsOf_26 : decode cX0_voidBequestsOf 26 = .ok (.iastore, 1) := by decide +kernel
theorem dX0_voidBequestsOf_27 : decode cX0_voidBequestsOf 27 = .ok (.iinc 2 1, 3) := by decide +kernel
theorem dX0_voidBequestsOf_30 : decode cX0_voidBequestsOf 30 = .ok (.goto (-28), 3) := by decide +kernel
theorem dX0_voidBequestsOf_33 : decode cX0_voidBequestsOf 33 = .ok (.return_, 1) := by decide +kernel
theorem dX0_leaves_0 : decode cX0_leaves 0 = .ok (.iconst 0, 1) := by decide +kernel
theorem dX0_leaves_1 : decode cX0_leaves 1 = .ok (.istore_n 2, 1) := by decide +kernel
theorem dX0_leaves_2 : decode cX0_leaves 2 = .ok (.iconst 0, 1) := by decide +kernel
theorem dX0_leaves_3 : decode cX0_leaves 3 = .ok (.istore_n 3, 1) := by decide +kernel
theorem dX0_leaves_4 : decode cX0_leaves 4 = .ok (.iload_n 3, 1) := by decide +kernel
theorem dX0_leaves_5 : decode cX0_leaves 5 = .ok (.aload_n 0, 1) := by decide +kernel
theorem dX0_leaves_6 : decode cX0_leaves 6 = .ok (.getfield 31, 3) := by decide +kernel
theorem dX0_leaves_9 : decode cX0_leaves 9 = .ok (.if_icmp .ge 28, 3) := by decide +kernel
theorem dX0_leaves_12 : decode cX0_leaves 12 = .ok (.aload_n 0, 1) := by decide +kernel
theorem dX0_leaves_13 : decode cX0_leaves 13 = .ok (.getfield 34, 3) := by decide +kernel
theorem dX0_leaves_16 : decode cX0_leaves 16 = .ok (.iload_n 3, 1) := by decide +kernel
theorem dX0_leaves_17 : decode cX0_leaves 17 = .ok (.iaload, 1) := by decide +kernel
theorem dX0_leaves_18 : decode cX0_leaves 18 = .ok (.iload_n 1, 1) := by decide +kernel
theorem dX0_leaves_19 : decode cX0_leaves 19 = .ok (.if_icmp .ne 12, 3) := by decide +kernel
theorem dX0_leaves_22 : decode cX0_leaves 22 = .ok (.iload_n 2, 1) := by decide +kernel
theorem dX0_leaves_23 : decode cX0_leaves 23 = .ok (.aload_n 0, 1) := by decide +kernel
theorem dX0_leaves_24 : decode cX0_leaves 24 = .ok (.getfield 40, 3) := by decide +kernel
theorem dX0_leaves_27 : decode cX0_leaves 27 = .ok (.iload_n 3, 1) := by decide +kernel
theorem dX0_leaves_28 : decode cX0_leaves 28 = .ok (.iaload, 1) := by decide +kernel
theorem dX0_leaves_29 : decode cX0_leaves 29 = .ok (.iadd, 1) := by decide +kernel
theorem dX0_leaves_30 : decode cX0_leaves 30 = .ok (.istore_n 2, 1) := by decide +kernel
theorem dX0_leaves_31 : decode cX0_leaves 31 = .ok (.iinc 3 1, 3) := by decide +kernel
theorem dX0_leaves_34 : decode cX0_leaves 34 = .ok (.goto (-30), 3) := by decide +kernel
theorem dX0_leaves_37 : decode cX0_leaves 37 = .ok (.iload_n 2, 1) := by decide +kernel
theorem dX0_leaves_38 : decode cX0_leaves 38 = .ok (.ireturn, 1) := by decide +kernel
theorem dX0_isLeft_0 : decode cX0_isLeft 0 = .ok (.iconst 0, 1) := by decide +kernel
theorem dX0_isLeft_1 : decode cX0_isLeft 1 = .ok (.istore_n 2, 1) := by decide +kernel
theorem dX0_isLeft_2 : decode cX0_isLeft 2 = .ok (.iconst 0, 1) := by decide +kernel
theorem dX0_isLeft_3 : decode cX0_isLeft 3 = .ok (.istore_n 3, 1) := by decide +kernel
theorem dX0_isLeft_4 : decode cX0_isLeft 4 = .ok (.iload_n 3, 1) := by decide +kernel
theorem dX0_isLeft_5 : decode cX0_isLeft 5 = .ok (.aload_n 0, 1) := by decide +kernel
theorem dX0_isLeft_6 : decode cX0_isLeft 6 = .ok (.getfield 31, 3) := by decide +kernel
theorem dX0_isLeft_9 : decode cX0_isLeft 9 = .ok (.if_icmp .ge 28, 3) := by decide +kernel
theorem dX0_isLeft_12 : decode cX0_isLeft 12 = .ok (.aload_n 0, 1) := by decide +kernel
theorem dX0_isLeft_13 : decode cX0_isLeft 13 = .ok (.getfield 37, 3) := by decide +kernel
theorem dX0_isLeft_16 : decode cX0_isLeft 16 = .ok (.iload_n 3, 1) := by decide +kernel
theorem dX0_isLeft_17 : decode cX0_isLeft 17 = .ok (.iaload, 1) := by decide +kernel
theorem dX0_isLeft_18 : decode cX0_isLeft 18 = .ok (.iload_n 1, 1) := by decide +kernel
theorem dX0_isLeft_19 : decode cX0_isLeft 19 = .ok (.if_icmp .ne 12, 3) := by decide +kernel
theorem dX0_isLeft_22 : decode cX0_isLeft 22 = .ok (.iload_n 2, 1) := by decide +kernel
theorem dX0_isLeft_23 : decode cX0_isLeft 23 = .ok (.aload_n 0, 1) := by decide +kernel
theorem dX0_isLeft_24 : decode cX0_isLeft 24 = .ok (.getfield 40, 3) := by decide +kernel
theorem dX0_isLeft_27 : decode cX0_isLeft 27 = .ok (.iload_n 3, 1) := by decide +kernel
theorem dX0_isLeft_28 : decode cX0_isLeft 28 = .ok (.iaload, 1) := by decide +kernel
theorem dX0_isLeft_29 : decode cX0_isLeft 29 = .ok (.iadd, 1) := by decide +kernel
theorem dX0_isLeft_30 : decode cX0_isLeft 30 = .ok (.istore_n 2, 1) := by decide +kernel
theorem dX0_isLeft_31 : decode cX0_isLeft 31 = .ok (.iinc 3 1, 3) := by decide +kernel
theorem dX0_isLeft_34 : decode cX0_isLeft 34 = .ok (.goto (-30), 3) := by decide +kernel
theorem dX0_isLeft_37 : decode cX0_isLeft 37 = .ok (.iload_n 2, 1) := by decide +kernel
theorem dX0_isLeft_38 : decode cX0_isLeft 38 = .ok (.ireturn, 1) := by decide +kernel
theorem dX0_heirsOf_0 : decode cX0_heirsOf 0 = .ok (.iconst 0, 1) := by decide +kernel
theorem dX0_heirsOf_1 : decode cX0_heirsOf 1 = .ok (.istore_n 2, 1) := by decide +kernel
theorem dX0_heirsOf_2 : decode cX0_heirsOf 2 = .ok (.iconst 0, 1) := by decide +kernel
theorem dX0_heirsOf_3 : decode cX0_heirsOf 3 = .ok (.istore_n 3, 1) := by decide +kernel
theorem dX0_heirsOf_4 : decode cX0_heirsOf 4 = .ok (.iload_n 3, 1) := by decide +kernel
theorem dX0_heirsOf_5 : decode cX0_heirsOf 5 = .ok (.aload_n 0, 1) := by decide +kernel
theorem dX0_heirsOf_6 : decode cX0_heirsOf 6 = .ok (.getfield 31, 3) := by decide +kernel
theorem dX0_heirsOf_9 : decode cX0_heirsOf 9 = .ok (.if_icmp .ge 33, 3) := by decide +kernel
theorem dX0_heirsOf_12 : decode cX0_heirsOf 12 = .ok (.iload_n 1, 1) := by decide +kernel
theorem dX0_heirsOf_13 : decode cX0_heirsOf 13 = .ok (.iconst 1, 1) := by decide +kernel
theorem dX0_heirsOf_14 : decode cX0_heirsOf 14 = .ok (.aload_n 0, 1) := by decide +kernel
theorem dX0_heirsOf_15 : decode cX0_heirsOf 15 = .ok (.getfield 34, 3) := by decide +kernel
theorem dX0_heirsOf_18 : decode cX0_heirsOf 18 = .ok (.iload_n 3, 1) := by decide +kernel
theorem dX0_heirsOf_19 : decode cX0_heirsOf 19 = .ok (.iaload, 1) := by decide +kernel
theorem dX0_heirsOf_20 : decode cX0_heirsOf 20 = .ok (.ishl, 1) := by decide +kernel
theorem dX0_heirsOf_21 : decode cX0_heirsOf 21 = .ok (.iand, 1) := by decide +kernel
theorem dX0_heirsOf_22 : decode cX0_heirsOf 22 = .ok (.ifCond .eq 14, 3) := by decide +kernel
theorem dX0_heirsOf_25 : decode cX0_heirsOf 25 = .ok (.iload_n 2, 1) := by decide +kernel
theorem dX0_heirsOf_26 : decode cX0_heirsOf 26 = .ok (.iconst 1, 1) := by decide +kernel
theorem dX0_heirsOf_27 : decode cX0_heirsOf 27 = .ok (.aload_n 0, 1) := by decide +kernel
theorem dX0_heirsOf_28 : decode cX0_heirsOf 28 = .ok (.getfield 37, 3) := by decide +kernel
theorem dX0_heirsOf_31 : decode cX0_heirsOf 31 = .ok (.iload_n 3, 1) := by decide +kernel
theorem dX0_heirsOf_32 : decode cX0_heirsOf 32 = .ok (.iaload, 1) := by decide +kernel
theorem dX0_heirsOf_33 : decode cX0_heirsOf 33 = .ok (.ishl, 1) := by decide +kernel
theorem dX0_heirsOf_34 : decode cX0_heirsOf 34 = .ok (.ior, 1) := by decide +kernel
theorem dX0_heirsOf_35 : decode cX0_heirsOf 35 = .ok (.istore_n 2, 1) := by decide +kernel
theorem dX0_heirsOf_36 : decode cX0_heirsOf 36 = .ok (.iinc 3 1, 3) := by decide +kernel
theorem dX0_heirsOf_39 : decode cX0_heirsOf 39 = .ok (.goto (-35), 3) := by decide +kernel
theorem dX0_heirsOf_42 : decode cX0_heirsOf 42 = .ok (.iload_n 2, 1) := by decide +kernel
theorem dX0_heirsOf_43 : decode cX0_heirsOf 43 = .ok (.ireturn, 1) := by decide +kernel
theorem dX0_copyFrom_0 : decode cX0_copyFrom 0 = .ok (.aload_n 0, 1) := by decide +kernel
theorem dX0_copyFrom_1 : decode cX0_copyFrom 1 = .ok (.aload_n 1, 1) := by decide +kernel
theorem dX0_copyFrom_2 : decode cX0_copyFrom 2 = .ok (.getfield 9, 3) := by decide +kernel
theorem dX0_copyFrom_5 : decode cX0_copyFrom 5 = .ok (.putfield 9, 3) := by decide +kernel
theorem dX0_copyFrom_8 : decode cX0_copyFrom 8 = .ok (.aload_n 1, 1) := by decide +kernel
theorem dX0_copyFrom_9 : decode cX0_copyFrom 9 = .ok (.getfield 15, 3) := by decide +kernel
theorem dX0_copyFrom_12 : decode cX0_copyFrom 12 = .ok (.aload_n 0, 1) := by decide +kernel
theorem dX0_copyFrom_13 : decode cX0_copyFrom 13 = .ok (.getfield 15, 3) := by decide +kernel
theorem dX0_copyFrom_16 : decode cX0_copyFrom 16 = .ok (.invokestatic 69, 3) := by decide +kernel
theorem dX0_copyFrom_19 : decode cX0_copyFrom 19 = .ok (.aload_n 1, 1) := by decide +kernel
theorem dX0_copyFrom_20 : decode cX0_copyFrom 20 = .ok (.getfield 19, 3) := by decide +kernel
theorem dX0_copyFrom_23 : decode cX0_copyFrom 23 = .ok (.aload_n 0, 1) := by decide +kernel
theorem dX0_copyFrom_24 : decode cX0_copyFrom 24 = .ok (.getfield 19, 3) := by decide +kernel
theorem dX0_copyFrom_27 : decode cX0_copyFrom 27 = .ok (.invokestatic 69, 3) := by decide +kernel
theorem dX0_copyFrom_30 : decode cX0_copyFrom 30 = .ok (.aload_n 1, 1) := by decide +kernel
theorem dX0_copyFrom_31 : decode cX0_copyFrom 31 = .ok (.getfield 22, 3) := by decide +kernel
theorem dX0_copyFrom_34 : decode cX0_copyFrom 34 = .ok (.aload_n 0, 1) := by decide +kernel
theorem dX0_copyFrom_35 : decode cX0_copyFrom 35 = .ok (.getfield 22, 3) := by decide +kernel
theorem dX0_copyFrom_38 : decode cX0_copyFrom 38 = .ok (.invokestatic 69, 3) := by decide +kernel
theorem dX0_copyFrom_41 : decode cX0_copyFrom 41 = .ok (.aload_n 1, 1) := by decide +kernel
theorem dX0_copyFrom_42 : decode cX0_copyFrom 42 = .ok (.getfield 25, 3) := by decide +kernel
theorem dX0_copyFrom_45 : decode cX0_copyFrom 45 = .ok (.aload_n 0, 1) := by decide +kernel
theorem dX0_copyFrom_46 : decode cX0_copyFrom 46 = .ok (.getfield 25, 3) := by decide +kernel
theorem dX0_copyFrom_49 : decode cX0_copyFrom 49 = .ok (.invokestatic 69, 3) := by decide +kernel
theorem dX0_copyFrom_52 : decode cX0_copyFrom 52 = .ok (.aload_n 1, 1) := by decide +kernel
theorem dX0_copyFrom_53 : decode cX0_copyFrom 53 = .ok (.getfield 28, 3) := by decide +kernel
theorem dX0_copyFrom_56 : decode cX0_copyFrom 56 = .ok (.aload_n 0, 1) := by decide +kernel
theorem dX0_copyFrom_57 : decode cX0_copyFrom 57 = .ok (.getfield 28, 3) := by decide +kernel
theorem dX0_copyFrom_60 : decode cX0_copyFrom 60 = .ok (.invokestatic 69, 3) := by decide +kernel
theorem dX0_copyFrom_63 : decode cX0_copyFrom 63 = .ok (.aload_n 0, 1) := by decide +kernel
theorem dX0_copyFrom_64 : decode cX0_copyFrom 64 = .ok (.aload_n 1, 1) := by decide +kernel
theorem dX0_copyFrom_65 : decode cX0_copyFrom 65 = .ok (.getfield 31, 3) := by decide +kernel
theorem dX0_copyFrom_68 : decode cX0_copyFrom 68 = .ok (.putfield 31, 3) := by decide +kernel
theorem dX0_copyFrom_71 : decode cX0_copyFrom 71 = .ok (.aload_n 1, 1) := by decide +kernel
theorem dX0_copyFrom_72 : decode cX0_copyFrom 72 = .ok (.getfield 34, 3) := by decide +kernel
theorem dX0_copyFrom_75 : decode cX0_copyFrom 75 = .ok (.aload_n 0, 1) := by decide +kernel
theorem dX0_copyFrom_76 : decode cX0_copyFrom 76 = .ok (.getfield 34, 3) := by decide +kernel
theorem dX0_copyFrom_79 : decode cX0_copyFrom 79 = .ok (.invokestatic 69, 3) := by decide +kernel
theorem dX0_copyFrom_82 : decode cX0_copyFrom 82 = .ok (.aload_n 1, 1) := by decide +kernel
theorem dX0_copyFrom_83 : decode cX0_copyFrom 83 = .ok (.getfield 37, 3) := by decide +kernel
theorem dX0_copyFrom_86 : decode cX0_copyFrom 86 = .ok (.aload_n 0, 1) := by decide +kernel
theorem dX0_copyFrom_87 : decode cX0_copyFrom 87 = .ok (.getfield 37, 3) := by decide +kernel
theorem dX0_copyFrom_90 : decode cX0_copyFrom 90 = .ok (.invokestatic 69, 3) := by decide +kernel
theorem dX0_copyFrom_93 : decode cX0_copyFrom 93 = .ok (.aload_n 1, 1) := by decide +kernel
theorem dX0_copyFrom_94 : decode cX0_copyFrom 94 = .ok (.getfield 40, 3) := by decide +kernel
theorem dX0_copyFrom_97 : decode cX0_copyFrom 97 = .ok (.aload_n 0, 1) := by decide +kernel
theorem dX0_copyFrom_98 : decode cX0_copyFrom 98 = .ok (.getfield 40, 3) := by decide +kernel
theorem dX0_copyFrom_101 : decode cX0_copyFrom 101 = .ok (.invokestatic 69, 3) := by decide +kernel
theorem dX0_copyFrom_104 : decode cX0_copyFrom 104 = .ok (.aload_n 0, 1) := by decide +kernel
theorem dX0_copyFrom_105 : decode cX0_copyFrom 105 = .ok (.aload_n 1, 1) := by decide +kernel
theorem dX0_copyFrom_106 : decode cX0_copyFrom 106 = .ok (.getfield 43, 3) := by decide +kernel
theorem dX0_copyFrom_109 : decode cX0_copyFrom 109 = .ok (.putfield 43, 3) := by decide +kernel
theorem dX0_copyFrom_112 : decode cX0_copyFrom 112 = .ok (.aload_n 1, 1) := by decide +kernel
theorem dX0_copyFrom_113 : decode cX0_copyFrom 113 = .ok (.getfield 46, 3) := by decide +kernel
theorem dX0_copyFrom_116 : decode cX0_copyFrom 116 = .ok (.aload_n 0, 1) := by decide +kernel
theorem dX0_copyFrom_117 : decode cX0_copyFrom 117 = .ok (.getfield 46, 3) := by decide +kernel
theorem dX0_copyFrom_120 : decode cX0_copyFrom 120 = .ok (.invokestatic 69, 3) := by decide +kernel
theorem dX0_copyFrom_123 : decode cX0_copyFrom 123 = .ok (.aload_n 1, 1) := by decide +kernel
theorem dX0_copyFrom_124 : decode cX0_copyFrom 124 = .ok (.getfield 49, 3) := by decide +kernel
theorem dX0_copyFrom_127 : decode cX0_copyFrom 127 = .ok (.aload_n 0, 1) := by decide +kernel
theorem dX0_copyFrom_128 : decode cX0_copyFrom 128 = .ok (.getfield 49, 3) := by decide +kernel
theorem dX0_copyFrom_131 : decode cX0_copyFrom 131 = .ok (.invokestatic 69, 3) := by decide +kernel
theorem dX0_copyFrom_134 : decode cX0_copyFrom 134 = .ok (.aload_n 1, 1) := by decide +kernel
theorem dX0_copyFrom_135 : decode cX0_copyFrom 135 = .ok (.getfield 52, 3) := by decide +kernel
theorem dX0_copyFrom_138 : decode cX0_copyFrom 138 = .ok (.aload_n 0, 1) := by decide +kernel
theorem dX0_copyFrom_139 : decode cX0_copyFrom 139 = .ok (.getfield 52, 3) := by decide +kernel
theorem dX0_copyFrom_142 : decode cX0_copyFrom 142 = .ok (.invokestatic 69, 3) := by decide +kernel
theorem dX0_copyFrom_145 : decode cX0_copyFrom 145 = .ok (.aload_n 0, 1) := by decide +kernel
theorem dX0_copyFrom_146 : decode cX0_copyFrom 146 = .ok (.aload_n 1, 1) := by decide +kernel
theorem dX0_copyFrom_147 : decode cX0_copyFrom 147 = .ok (.getfield 55, 3) := by decide +kernel
theorem dX0_copyFrom_150 : decode cX0_copyFrom 150 = .ok (.putfield 55, 3) := by decide +kernel
theorem dX0_copyFrom_153 : decode cX0_copyFrom 153 = .ok (.return_, 1) := by decide +kernel
theorem dX0_copyRow_0 : decode cX0_copyRow 0 = .ok (.iconst 0, 1) := by decide +kernel
theorem dX0_copyRow_1 : decode cX0_copyRow 1 = .ok (.istore_n 2, 1) := by decide +kernel
theorem dX0_copyRow_2 : decode cX0_copyRow 2 = .ok (.iload_n 2, 1) := by decide +kernel
theorem dX0_copyRow_3 : decode cX0_copyRow 3 = .ok (.aload_n 0, 1) := by decide +kernel
theorem dX0_copyRow_4 : decode cX0_copyRow 4 = .ok (.arraylength, 1) := by decide +kernel
theorem dX0_copyRow_5 : decode cX0_copyRow 5 = .ok (.if_icmp .ge 21, 3) := by decide +kernel
theorem dX0_copyRow_8 : decode cX0_copyRow 8 = .ok (.iload_n 2, 1) := by decide +kernel
theorem dX0_copyRow_9 : decode cX0_copyRow 9 = .ok (.aload_n 1, 1) := by decide +kernel
theorem dX0_copyRow_10 : decode cX0_copyRow 10 = .ok (.arraylength, 1) := by decide +kernel
theorem dX0_copyRow_11 : decode cX0_copyRow 11 = .ok (.if_icmp .ge 15, 3) := by decide +kernel
theorem dX0_copyRow_14 : decode cX0_copyRow 14 = .ok (.aload_n 1, 1) := by decide +kernel
theorem dX0_copyRow_15 : decode cX0_copyRow 15 = .ok (.iload_n 2, 1) := by decide +kernel
theorem dX0_copyRow_16 : decode cX0_copyRow 16 = .ok (.aload_n 0, 1) := by decide +kernel
theorem dX0_copyRow_17 : decode cX0_copyRow 17 = .ok (.iload_n 2, 1) := by decide +kernel
theorem dX0_copyRow_18 : decode cX0_copyRow 18 = .ok (.iaload, 1) := by decide +kernel
theorem dX0_copyRow_19 : decode cX0_copyRow 19 = .ok (.iastore, 1) := by decide +kernel
theorem dX0_copyRow_20 : decode cX0_copyRow 20 = .ok (.iinc 2 1, 3) := by decide +kernel
theorem dX0_copyRow_23 : decode cX0_copyRow 23 = .ok (.goto (-21), 3) := by decide +kernel
theorem dX0_copyRow_26 : decode cX0_copyRow 26 = .ok (.return_, 1) := by decide +kernel
theorem dX1_init_0 : decode cX1_init 0 = .ok (.aload_n 0, 1) := by decide +kernel
theorem dX1_init_1 : decode cX1_init 1 = .ok (.invokespecial 3, 3) := by decide +kernel
theorem dX1_init_4 : decode cX1_init 4 = .ok (.aload_n 0, 1) := by decide +kernel
theorem dX1_init_5 : decode cX1_init 5 = .ok (.bipush 8, 2) := by decide +kernel
theorem dX1_init_7 : decode cX1_init 7 = .ok (.newarray .int, 2) := by decide +kernel
theorem dX1_init_9 : decode cX1_init 9 = .ok (.putfield 9, 3) := by decide +kernel
theorem dX1_init_12 : decode cX1_init 12 = .ok (.aload_n 0, 1) := by decide +kernel
theorem dX1_init_13 : decode cX1_init 13 = .ok (.bipush 8, 2) := by decide +kernel
theorem dX1_init_15 : decode cX1_init 15 = .ok (.newarray .int, 2) := by decide +kernel
theorem dX1_init_17 : decode cX1_init 17 = .ok (.putfield 15, 3) := by decide +kernel
theorem dX1_init_20 : decode cX1_init 20 = .ok (.aload_n 0, 1) := by decide +kernel
theorem dX1_init_21 : decode cX1_init 21 = .ok (.bipush 8, 2) := by decide +kernel
theorem dX1_init_23 : decode cX1_init 23 = .ok (.newarray .int, 2) := by decide +kernel
theorem dX1_init_25 : decode cX1_init 25 = .ok (.putfield 18, 3) := by decide +kernel
theorem dX1_init_28 : decode cX1_init 28 = .ok (.aload_n 0, 1) := by decide +kernel
theorem dX1_init_29 : decode cX1_init 29 = .ok (.iconst 0, 1) := by decide +kernel
theorem dX1_init_30 : decode cX1_init 30 = .ok (.putfield 21, 3) := by decide +kernel
theorem dX1_init_33 : decode cX1_init 33 = .ok (.return_, 1) := by decide +kernel
theorem dX1_clear_0 : decode cX1_clear 0 = .ok (.aload_n 0, 1) := by decide +kernel
theorem dX1_clear_1 : decode cX1_clear 1 = .ok (.iconst 0, 1) := by decide +kernel
theorem dX1_clear_2 : decode cX1_clear 2 = .ok (.putfield 21, 3) := by decide +kernel
theorem dX1_clear_5 : decode cX1_clear 5 = .ok (.return_, 1) := by decide +kernel
theorem dX1_note_0 : decode cX1_note 0 = .ok (.aload_n 0, 1) := by decide +kernel
theorem dX1_note_1 : decode cX1_note 1 = .ok (.getfield 21, 3) := by decide +kernel
theorem dX1_note_4 : decode cX1_note 4 = .ok (.bipush 8, 2) := by decide +kernel
theorem dX1_note_6 : decode cX1_note 6 = .ok (.if_icmp .lt 7, 3) := by decide +kernel
theorem dX1_note_9 : decode cX1_note 9 = .ok (.aload_n 0, 1) := by decide +kernel
theorem dX1_note_10 : decode cX1_note 10 = .ok (.invokevirtual 25, 3) := by decide +kernel
theorem dX1_note_13 : decode cX1_note 13 = .ok (.aload_n 0, 1) := by decide +kernel
theorem dX1_note_14 : decode cX1_note 14 = .ok (.getfield 9, 3) := by decide +kernel
theorem dX1_note_17 : decode cX1_note 17 = .ok (.aload_n 0, 1) := by decide +kernel
theorem dX1_note_18 : decode cX1_note 18 = .ok (.getfield 21, 3) := by decide +kernel
theorem dX1_note_21 : decode cX1_note 21 = .ok (.iload_n 1, 1) := by decide +kernel
theorem dX1_note_22 : decode cX1_note 22 = .ok (.iastore, 1) := by decide +kernel
theorem dX1_note_23 : decode cX1_note 23 = .ok (.aload_n 0, 1) := by decide +kernel
theorem dX1_note_24 : decode cX1_note 24 = .ok (.getfield 15, 3) := by decide +kernel
theorem dX1_note_27 : decode cX1_note 27 = .ok (.aload_n 0, 1) := by decide +kernel
theorem dX1_note_28 : decode cX1_note 28 = .ok (.getfield 21, 3) := by decide +kernel
theorem dX1_note_31 : decode cX1_note 31 = .ok (.iload_n 2, 1) := by decide +kernel
theorem dX1_note_32 : decode cX1_note 32 = .ok (.iastore, 1) := by decide +kernel
theorem dX1_note_33 : decode cX1_note 33 = .ok (.aload_n 0, 1) := by decide +kernel
theorem dX1_note_34 : decode cX1_note 34 = .ok (.getfield 18, 3) := by decide +kernel
theorem dX1_note_37 : decode cX1_note 37 = .ok (.aload_n 0, 1) := by decide +kernel
theorem dX1_note_38 : decode cX1_note 38 = .ok (.getfield 21, 3) := by decide +kernel
theorem dX1_note_41 : decode cX1_note 41 = .ok (.iload_n 3, 1) := by decide +kernel
theorem dX1_note_42 : decode cX1_note 42 = .ok (.iastore, 1) := by decide +kernel
theorem dX1_note_43 : decode cX1_note 43 = .ok (.aload_n 0, 1) := by decide +kernel
theorem dX1_note_44 : decode cX1_note 44 = .ok (.dup, 1) := by decide +kernel
theorem dX1_note_45 : decode cX1_note 45 = .ok (.getfield 21, 3) := by decide +kernel
theorem dX1_note_48 : decode cX1_note 48 = .ok (.iconst 1, 1) := by decide +kernel
theorem dX1_note_49 : decode cX1_note 49 = .ok (.iadd, 1) := by decide +kernel
theorem dX1_note_50 : decode cX1_note 50 = .ok (.putfield 21, 3) := by decide +kernel
theorem dX1_note_53 : decode cX1_note 53 = .ok (.return_, 1) := by decide +kernel
theorem dX1_loseOldest_0 : decode cX1_loseOldest 0 = .ok (.iconst 1, 1) := by decide +kernel
theorem dX1_loseOldest_1 : decode cX1_loseOldest 1 = .ok (.istore_n 1, 1) := by decide +kernel
theorem dX1_loseOldest_2 : decode cX1_loseOldest 2 = .ok (.iload_n 1, 1) := by decide +kernel
theorem dX1_loseOldest_3 : decode cX1_loseOldest 3 = .ok (.bipush 8, 2) := by decide +kernel
theorem dX1_loseOldest_5 : decode cX1_loseOldest 5 = .ok (.if_icmp .ge 51, 3) := by decide +kernel
theorem dX1_loseOldest_8 : decode cX1_loseOldest 8 = .ok (.aload_n 0, 1) := by decide +kernel
theorem dX1_loseOldest_9 : decode cX1_loseOldest 9 = .ok (.getfield 9, 3) := by decide +kernel
theorem dX1_loseOldest_12 : decode cX1_loseOldest 12 = .ok (.iload_n 1, 1) := by decide +kernel
theorem dX1_loseOldest_13 : decode cX1_loseOldest 13 = .ok (.iconst 1, 1) := by decide +kernel
theorem dX1_loseOldest_14 : decode cX1_loseOldest 14 = .ok (.isub, 1) := by decide +kernel
theorem dX1_loseOldest_15 : decode cX1_loseOldest 15 = .ok (.aload_n 0, 1) := by decide +kernel
theorem dX1_loseOldest_16 : decode cX1_loseOldest 16 = .ok (.getfield 9, 3) := by decide +kernel
theorem dX1_loseOldest_19 : decode cX1_loseOldest 19 = .ok (.iload_n 1, 1) := by decide +kernel
theorem dX1_loseOldest_20 : decode cX1_loseOldest 20 = .ok (.iaload, 1) := by decide +kernel
theorem dX1_loseOldest_21 : decode cX1_loseOldest 21 = .ok (.iastore, 1) := by decide +kernel
theorem dX1_loseOldest_22 : decode cX1_loseOldest 22 = .ok (.aload_n 0, 1) := by decide +kernel
theorem dX1_loseOldest_23 : decode cX1_loseOldest 23 = .ok (.getfield 15, 3) := by decide +kernel
theorem dX1_loseOldest_26 : decode cX1_loseOldest 26 = .ok (.iload_n 1, 1) := by decide +kernel
theorem dX1_loseOldest_27 : decode cX1_loseOldest 27 = .ok (.iconst 1, 1) := by decide +kernel
theorem dX1_loseOldest_28 : decode cX1_loseOldest 28 = .ok (.isub, 1) := by decide +kernel
theorem dX1_loseOldest_29 : decode cX1_loseOldest 29 = .ok (.aload_n 0, 1) := by decide +kernel
theorem dX1_loseOldest_30 : decode cX1_loseOldest 30 = .ok (.getfield 15, 3) := by decide +kernel
theorem dX1_loseOldest_33 : decode cX1_loseOldest 33 = .ok (.iload_n 1, 1) := by decide +kernel
theorem dX1_loseOldest_34 : decode cX1_loseOldest 34 = .ok (.iaload, 1) := by decide +kernel
theorem dX1_loseOldest_35 : decode cX1_loseOldest 35 = .ok (.iastore, 1) := by decide +kernel
theorem dX1_loseOldest_36 : decode cX1_loseOldest 36 = .ok (.aload_n 0, 1) := by decide +kernel
theorem dX1_loseOldest_37 : decode cX1_loseOldest 37 = .ok (.getfield 18, 3) := by decide +kernel
theorem dX1_loseOldest_40 : decode cX1_loseOldest 40 = .ok (.iload_n 1, 1) := by decide +kernel
theorem dX1_loseOldest_41 : decode cX1_loseOldest 41 = .ok (.iconst 1, 1) := by decide +kernel
theorem dX1_loseOldest_42 : decode cX1_loseOldest 42 = .ok (.isub, 1) := by decide +kernel
theorem dX1_loseOldest_43 : decode cX1_loseOldest 43 = .ok (.aload_n 0, 1) := by decide +kernel
theorem dX1_loseOldest_44 : decode cX1_loseOldest 44 = .ok (.getfield 18, 3) := by decide +kernel
theorem dX1_loseOldest_47 : decode cX1_loseOldest 47 = .ok (.iload_n 1, 1) := by decide +kernel
theorem dX1_loseOldest_48 : decode cX1_loseOldest 48 = .ok (.iaload, 1) := by decide +kernel
theorem dX1_loseOldest_49 : decode cX1_loseOldest 49 = .ok (.iastore, 1) := by decide +kernel
theorem dX1_loseOldest_50 : decode cX1_loseOldest 50 = .ok (.iinc 1 1, 3) := by decide +kernel
theorem dX1_loseOldest_53 : decode cX1_loseOldest 53 = .ok (.goto (-51), 3) := by decide +kernel
theorem dX1_loseOldest_56 : decode cX1_loseOldest 56 = .ok (.aload_n 0, 1) := by decide +kernel
theorem dX1_loseOldest_57 : decode cX1_loseOldest 57 = .ok (.bipush 7, 2) := by decide +kernel
theorem dX1_loseOldest_59 : decode cX1_loseOldest 59 = .ok (.putfield 21, 3) := by decide +kernel
theorem dX1_loseOldest_62 : decode cX1_loseOldest 62 = .ok (.return_, 1) := by decide +kernel
theorem dX1_takeBack_0 : decode cX1_takeBack 0 = .ok (.aload_n 0, 1) := by decide +kernel
theorem dX1_takeBack_1 : decode cX1_takeBack 1 = .ok (.getfield 21, 3) := by decide +kernel
theorem dX1_takeBack_4 : decode cX1_takeBack 4 = .ok (.ifCond .ne 5, 3) := by decide +kernel
theorem dX1_takeBack_7 : decode cX1_takeBack 7 = .ok (.iconst 0, 1) := by decide +kernel
theorem dX1_takeBack_8 : decode cX1_takeBack 8 = .ok (.ireturn, 1) := by decide +kernel
theorem dX1_takeBack_9 : decode cX1_takeBack 9 = .ok (.aload_n 0, 1) := by decide +kernel
theorem dX1_takeBack_10 : decode cX1_takeBack 10 = .ok (.dup, 1) := by decide +kernel
theorem dX1_takeBack_11 : decode cX1_takeBack 11 = .ok (.getfield 21, 3) := by decide +kernel
theorem dX1_takeBack_14 : decode cX1_takeBack 14 = .ok (.iconst 1, 1) := by decide +kernel
theorem dX1_takeBack_15 : decode cX1_takeBack 15 = .ok (.isub, 1) := by decide +kernel
theorem dX1_takeBack_16 : decode cX1_takeBack 16 = .ok (.putfield 21, 3) := by decide +kernel
theorem dX1_takeBack_19 : decode cX1_takeBack 19 = .ok (.aload_n 0, 1) := by decide +kernel
theorem dX1_takeBack_20 : decode cX1_takeBack 20 = .ok (.getfield 15, 3) := by decide +kernel
theorem dX1_takeBack_23 : decode cX1_takeBack 23 = .ok (.aload_n 0, 1) := by decide +kernel
theorem dX1_takeBack_24 : decode cX1_takeBack 24 = .ok (.getfield 21, 3) := by decide +kernel
theorem dX1_takeBack_27 : decode cX1_takeBack 27 = .ok (.iaload, 1) := by decide +kernel
theorem dX1_takeBack_28 : decode cX1_takeBack 28 = .ok (.istore_n 2, 1) := by decide +kernel
theorem dX1_takeBack_29 : decode cX1_takeBack 29 = .ok (.aload_n 0, 1) := by decide +kernel
theorem dX1_takeBack_30 : decode cX1_takeBack 30 = .ok (.getfield 9, 3) := by decide +kernel
theorem dX1_takeBack_33 : decode cX1_takeBack 33 = .ok (.aload_n 0, 1) := by decide +kernel
theorem dX1_takeBack_34 : decode cX1_takeBack 34 = .ok (.getfield 21, 3) := by decide +kernel
theorem dX1_takeBack_37 : decode cX1_takeBack 37 = .ok (.iaload, 1) := by decide +kernel
theorem dX1_takeBack_38 : decode cX1_takeBack 38 = .ok (.iconst 2, 1) := by decide +kernel
theorem dX1_takeBack_39 : decode cX1_takeBack 39 = .ok (.if_icmp .ne 10, 3) := by decide +kernel
theorem dX1_takeBack_42 : decode cX1_takeBack 42 = .ok (.aload_n 1, 1) := by decide +kernel
theorem dX1_takeBack_43 : decode cX1_takeBack 43 = .ok (.invokevirtual 28, 3) := by decide +kernel
theorem dX1_takeBack_46 : decode cX1_takeBack 46 = .ok (.goto 77, 3) := by decide +kernel
theorem dX1_takeBack_49 : decode cX1_takeBack 49 = .ok (.aload_n 1, 1) := by decide +kernel
theorem dX1_takeBack_50 : decode cX1_takeBack 50 = .ok (.iload_n 2, 1) := by decide +kernel
theorem dX1_takeBack_51 : decode cX1_takeBack 51 = .ok (.invokevirtual 33, 3) := by decide +kernel
theorem dX1_takeBack_54 : decode cX1_takeBack 54 = .ok (.ifCond .eq 33, 3) := by decide +kernel
theorem dX1_takeBack_57 : decode cX1_takeBack 57 = .ok (.aload_n 0, 1) := by decide +kernel
theorem dX1_takeBack_58 : decode cX1_takeBack 58 = .ok (.getfield 9, 3) := by decide +kernel
theorem dX1_takeBack_61 : decode cX1_takeBack 61 = .ok (.aload_n 0, 1) := by decide +kernel
theorem dX1_takeBack_62 : decode cX1_takeBack 62 = .ok (.getfield 21, 3) := by decide +kernel
theorem dX1_takeBack_65 : decode cX1_takeBack 65 = .ok (.iaload, 1) := by decide +kernel
theorem dX1_takeBack_66 : decode cX1_takeBack 66 = .ok (.ifCond .ne 21, 3) := by decide +kernel
theorem dX1_takeBack_69 : decode cX1_takeBack 69 = .ok (.aload_n 1, 1) := by decide +kernel
theorem dX1_takeBack_70 : decode cX1_takeBack 70 = .ok (.getfield 37, 3) := by decide +kernel
theorem dX1_takeBack_73 : decode cX1_takeBack 73 = .ok (.iload_n 2, 1) := by decide +kernel
theorem dX1_takeBack_74 : decode cX1_takeBack 74 = .ok (.aload_n 0, 1) := by decide +kernel
theorem dX1_takeBack_75 : decode cX1_takeBack 75 = .ok (.getfield 18, 3) := by decide +kernel
theorem dX1_takeBack_78 : decode cX1_takeBack 78 = .ok (.aload_n 0, 1) := by decide +kernel
theorem dX1_takeBack_79 : decode cX1_takeBack 79 = .ok (.getfield 21, 3) := by decide +kernel
theorem dX1_takeBack_82 : decode cX1_takeBack 82 = .ok (.iaload, 1) := by decide +kernel
theorem dX1_takeBack_83 : decode cX1_takeBack 83 = .ok (.iastore, 1) := by decide +kernel
theorem dX1_takeBack_84 : decode cX1_takeBack 84 = .ok (.goto 39, 3) := by decide +kernel
theorem dX1_takeBack_87 : decode cX1_takeBack 87 = .ok (.aload_n 1, 1) := by decide +kernel
theorem dX1_takeBack_88 : decode cX1_takeBack 88 = .ok (.iload_n 2, 1) := by decide +kernel
theorem dX1_takeBack_89 : decode cX1_takeBack 89 = .ok (.invokevirtual 33, 3) := by decide +kernel
theorem dX1_takeBack_92 : decode cX1_takeBack 92 = .ok (.ifCond .eq 31, 3) := by decide +kernel
theorem dX1_takeBack_95 : decode cX1_takeBack 95 = .ok (.aload_n 0, 1) := by decide +kernel
theorem dX1_takeBack_96 : decode cX1_takeBack 96 = .ok (.getfield 9, 3) := by decide +kernel
theorem dX1_takeBack_99 : decode cX1_takeBack 99 = .ok (.aload_n 0, 1) := by decide +kernel
theorem dX1_takeBack_100 : decode cX1_takeBack 100 = .ok (.getfield 21, 3) := by decide +kernel
theorem dX1_takeBack_103 : decode cX1_takeBack 103 = .ok (.iaload, 1) := by decide +kernel
theorem dX1_takeBack_104 : decode cX1_takeBack 104 = .ok (.iconst 1, 1) := by decide +kernel
theorem dX1_takeBack_105 : decode cX1_takeBack 105 = .ok (.if_icmp .ne 18, 3) := by decide +kernel
theorem dX1_takeBack_108 : decode cX1_takeBack 108 = .ok (.aload_n 1, 1) := by decide +kernel
theorem dX1_takeBack_109 : decode cX1_takeBack 109 = .ok (.getfield 40, 3) := by decide +kernel
theorem dX1_takeBack_112 : decode cX1_takeBack 112 = .ok (.iload_n 2, 1) := by decide +kernel
theorem dX1_takeBack_113 : decode cX1_takeBack 113 = .ok (.aload_n 0, 1) := by decide +kernel
theorem dX1_takeBack_114 : decode cX1_takeBack 114 = .ok (.getfield 18, 3) := by decide +kernel
theorem dX1_takeBack_117 : decode cX1_takeBack 117 = .ok (.aload_n 0, 1) := by decide +kernel
theorem dX1_takeBack_118 : decode cX1_takeBack 118 = .ok (.getfield 21, 3) := by decide +kernel
theorem dX1_takeBack_121 : decode cX1_takeBack 121 = .ok (.iaload, 1) := by decide +kernel
theorem dX1_takeBack_122 : decode cX1_takeBack 122 = .ok (.iastore, 1) := by decide +kernel
theorem dX1_takeBack_123 : decode cX1_takeBack 123 = .ok (.iconst 1, 1) := by decide +kernel
theorem dX1_takeBack_124 : decode cX1_takeBack 124 = .ok (.ireturn, 1) := by decide +kernel
theorem dX2_init_0 : decode cX2_init 0 = .ok (.aload_n 0, 1) := by decide +kernel
theorem dX2_init_1 : decode cX2_init 1 = .ok (.invokespecial 3, 3) := by decide +kernel
theorem dX2_init_4 : decode cX2_init 4 = .ok (.aload_n 0, 1) := by decide +kernel
theorem dX2_init_5 : decode cX2_init 5 = .ok (.iconst 4, 1) := by decide +kernel
theorem dX2_init_6 : decode cX2_init 6 = .ok (.newarray .int, 2) := by decide +kernel
theorem dX2_init_8 : decode cX2_init 8 = .ok (.putfield 9, 3) := by decide +kernel
theorem dX2_init_11 : decode cX2_init 11 = .ok (.aload_n 0, 1) := by decide +kernel
theorem dX2_init_12 : decode cX2_init 12 = .ok (.iconst 0, 1) := by decide +kernel
theorem dX2_init_13 : decode cX2_init 13 = .ok (.putfield 15, 3) := by decide +kernel
theorem dX2_init_16 : decode cX2_init 16 = .ok (.aload_n 0, 1) := by decide +kernel
theorem dX2_init_17 : decode cX2_init 17 = .ok (.aload_n 1, 1) := by decide +kernel
theorem dX2_init_18 : decode cX2_init 18 = .ok (.putfield 19, 3) := by decide +kernel
theorem dX2_init_21 : decode cX2_init 21 = .ok (.return_, 1) := by decide +kernel
theorem dX2_readInto_0 : decode cX2_readInto 0 = .ok (.aload_n 1, 1) := by decide +kernel
theorem dX2_readInto_1 : decode cX2_readInto 1 = .ok (.invokevirtual 23, 3) := by decide +kernel
theorem dX2_readInto_4 : decode cX2_readInto 4 = .ok (.aload_n 0, 1) := by decide +kernel
theorem dX2_readInto_5 : decode cX2_readInto 5 = .ok (.iconst 0, 1) := by decide +kernel
theorem dX2_readInto_6 : decode cX2_readInto 6 = .ok (.putfield 15, 3) := by decide +kernel
theorem dX2_readInto_9 : decode cX2_readInto 9 = .ok (.iconst 0, 1) := by decide +kernel
theorem dX2_readInto_10 : decode cX2_readInto 10 = .ok (.istore_n 2, 1) := by decide +kernel
theorem dX2_readInto_11 : decode cX2_readInto 11 = .ok (.iload_n 2, 1) := by decide +kernel
theorem dX2_readInto_12 : decode cX2_readInto 12 = .ok (.sipush 200, 3) := by decide +kernel
theorem dX2_readInto_15 : decode cX2_readInto 15 = .ok (.if_icmp .ge 38, 3) := by decide +kernel
theorem dX2_readInto_18 : decode cX2_readInto 18 = .ok (.aload_n 0, 1) := by decide +kernel
theorem dX2_readInto_19 : decode cX2_readInto 19 = .ok (.getfield 15, 3) := by decide +kernel
theorem dX2_readInto_22 : decode cX2_readInto 22 = .ok (.aload_n 0, 1) := by decide +kernel
theorem dX2_readInto_23 : decode cX2_readInto 23 = .ok (.getfield 19, 3) := by decide +kernel
theorem dX2_readInto_26 : decode cX2_readInto 26 = .ok (.getfield 28, 3) := by decide +kernel
theorem dX2_readInto_29 : decode cX2_readInto 29 = .ok (.if_icmp .ge 24, 3) := by decide +kernel
theorem dX2_readInto_32 : decode cX2_readInto 32 = .ok (.aload_n 0, 1) := by decide +kernel
theorem dX2_readInto_33 : decode cX2_readInto 33 = .ok (.getfield 15, 3) := by decide +kernel
theorem dX2_readInto_36 : decode cX2_readInto 36 = .ok (.istore_n 3, 1) := by decide +kernel
theorem dX2_readInto_37 : decode cX2_readInto 37 = .ok (.aload_n 0, 1) := by decide +kernel
theorem dX2_readInto_38 : decode cX2_readInto 38 = .ok (.aload_n 1, 1) := by decide +kernel
theorem dX2_readInto_39 : decode cX2_readInto 39 = .ok (.invokevirtual 33, 3) := by decide +kernel
theorem dX2_readInto_42 : decode cX2_readInto 42 = .ok (.ifCond .ne 5, 3) := by decide +kernel
theorem dX2_readInto_45 : decode cX2_readInto 45 = .ok (.iload_n 3, 1) := by decide +kernel
theorem dX2_readInto_46 : decode cX2_readInto 46 = .ok (.ireturn, 1) := by decide +kernel
theorem dX2_readInto_47 : decode cX2_readInto 47 = .ok (.iinc 2 1, 3) := by decide +kernel
theorem dX2_readInto_50 : decode cX2_readInto 50 = .ok (.goto (-39), 3) := by decide +kernel
theorem dX2_readInto_53 : decode cX2_readInto 53 = .ok (.bipush (-4), 2) := by decide +kernel
theorem dX2_readInto_55 : decode cX2_readInto 55 = .ok (.ireturn, 1) := by decide +kernel
theorem dX2_readItem_0 : decode cX2_readItem 0 = .ok (.aload_n 0, 1) := by decide +kernel
theorem dX2_readItem_1 : decode cX2_readItem 1 = .ok (.getfield 19, 3) := by decide +kernel
theorem dX2_readItem_4 : decode cX2_readItem 4 = .ok (.aload_n 0, 1) := by decide +kernel
theorem dX2_readItem_5 : decode cX2_readItem 5 = .ok (.getfield 15, 3) := by decide +kernel
theorem dX2_readItem_8 : decode cX2_readItem 8 = .ok (.invokevirtual 37, 3) := by decide +kernel
theorem dX2_readItem_11 : decode cX2_readItem 11 = .ok (.istore_n 2, 1) := by decide +kernel
theorem dX2_readItem_12 : decode cX2_readItem 12 = .ok (.aload_n 0, 1) := by decide +kernel
theorem dX2_readItem_13 : decode cX2_readItem 13 = .ok (.dup, 1) := by decide +kernel
theorem dX2_readItem_14 : decode cX2_readItem 14 = .ok (.getfield 15, 3) := by decide +kernel
theorem dX2_readItem_17 : decode cX2_readItem 17 = .ok (.iconst 1, 1) := by decide +kernel
theorem dX2_readItem_18 : decode cX2_readItem 18 = .ok (.iadd, 1) := by decide +kernel
theorem dX2_readItem_19 : decode cX2_readItem 19 = .ok (.putfield 15, 3) := by decide +kernel
theorem dX2_readItem_22 : decode cX2_readItem 22 = .ok (.iload_n 2, 1) := by decide +kernel
theorem dX2_readItem_23 : decode cX2_readItem 23 = .ok (.invokestatic 41, 3) := by decide +kernel
theorem dX2_readItem_26 : decode cX2_readItem 26 = .ok (.istore_n 3, 1) := by decide +kernel
theorem dX2_readItem_27 : decode cX2_readItem 27 = .ok (.iload_n 3, 1) := by decide +kernel
theorem dX2_readItem_28 : decode cX2_readItem 28 = .ok (.ifCond .eq 11, 3) := by decide +kernel
theorem dX2_readItem_31 : decode cX2_readItem 31 = .ok (.aload_n 0, 1) := by decide +kernel
theorem dX2_readItem_32 : decode cX2_readItem 32 = .ok (.iload_n 3, 1) := by decide +kernel
theorem dX2_readItem_33 : decode cX2_readItem 33 = .ok (.invokevirtual 45, 3) := by decide +kernel
theorem dX2_readItem_36 : decode cX2_readItem 36 = .ok (.ifCond .ne 5, 3) := by decide +kernel
theorem dX2_readItem_39 : decode cX2_readItem 39 = .ok (.iconst 0, 1) := by decide +kernel
theorem dX2_readItem_40 : decode cX2_readItem 40 = .ok (.ireturn, 1) := by decide +kernel
theorem dX2_readItem_41 : decode cX2_readItem 41 = .ok (.iload_n 2, 1) := by decide +kernel
theorem dX2_readItem_42 : decode cX2_readItem 42 = .ok (.lookupswitch 103 #[(103, 86), (112, 34), (119, 63)], 34) := by decide +kernel
theorem dX2_readItem_76 : decode cX2_readItem 76 = .ok (.aload_n 1, 1) := by decide +kernel
theorem dX2_readItem_77 : decode cX2_readItem 77 = .ok (.aload_n 0, 1) := by decide +kernel
theorem dX2_readItem_78 : decode cX2_readItem 78 = .ok (.getfield 9, 3) := by decide +kernel
theorem dX2_readItem_81 : decode cX2_readItem 81 = .ok (.iconst 0, 1) := by decide +kernel
theorem dX2_readItem_82 : decode cX2_readItem 82 = .ok (.iaload, 1) := by decide +kernel
theorem dX2_readItem_83 : decode cX2_readItem 83 = .ok (.aload_n 0, 1) := by decide +kernel
theorem dX2_readItem_84 : decode cX2_readItem 84 = .ok (.getfield 9, 3) := by decide +kernel
theorem dX2_readItem_87 : decode cX2_readItem 87 = .ok (.iconst 1, 1) := by decide +kernel
theorem dX2_readItem_88 : decode cX2_readItem 88 = .ok (.iaload, 1) := by decide +kernel
theorem dX2_readItem_89 : decode cX2_readItem 89 = .ok (.aload_n 0, 1) := by decide +kernel
theorem dX2_readItem_90 : decode cX2_readItem 90 = .ok (.getfield 9, 3) := by decide +kernel
theorem dX2_readItem_93 : decode cX2_readItem 93 = .ok (.iconst 2, 1) := by decide +kernel
theorem dX2_readItem_94 : decode cX2_readItem 94 = .ok (.iaload, 1) := by decide +kernel
theorem dX2_readItem_95 : decode cX2_readItem 95 = .ok (.aload_n 0, 1) := by decide +kernel
theorem dX2_readItem_96 : decode cX2_readItem 96 = .ok (.getfield 9, 3) := by decide +kernel
theorem dX2_readItem_99 : decode cX2_readItem 99 = .ok (.iconst 3, 1) := by decide +kernel
theorem dX2_readItem_100 : decode cX2_readItem 100 = .ok (.iaload, 1) := by decide +kernel
theorem dX2_readItem_101 : decode cX2_readItem 101 = .ok (.invokevirtual 49, 3) := by decide +kernel
theorem dX2_readItem_104 : decode cX2_readItem 104 = .ok (.ireturn, 1) := by decide +kernel
theorem dX2_readItem_105 : decode cX2_readItem 105 = .ok (.aload_n 1, 1) := by decide +kernel
theorem dX2_readItem_106 : decode cX2_readItem 106 = .ok (.aload_n 0, 1) := by decide +kernel
theorem dX2_readItem_107 : decode cX2_readItem 107 = .ok (.getfield 9, 3) := by decide +kernel
theorem dX2_readItem_110 : decode cX2_readItem 110 = .ok (.iconst 0, 1) := by decide +kernel
theorem dX2_readItem_111 : decode cX2_readItem 111 = .ok (.iaload, 1) := by decide +kernel
theorem dX2_readItem_112 : decode cX2_readItem 112 = .ok (.aload_n 0, 1) := by decide +kernel
theorem dX2_readItem_113 : decode cX2_readItem 113 = .ok (.getfield 9, 3) := by decide +kernel
theorem dX2_readItem_116 : decode cX2_readItem 116 = .ok (.iconst 1, 1) := by decide +kernel
theorem dX2_readItem_117 : decode cX2_readItem 117 = .ok (.iaload, 1) := by decide +kernel
theorem dX2_readItem_118 : decode cX2_readItem 118 = .ok (.aload_n 0, 1) := by decide +kernel
theorem dX2_readItem_119 : decode cX2_readItem 119 = .ok (.getfield 9, 3) := by decide +kernel
theorem dX2_readItem_122 : decode cX2_readItem 122 = .ok (.iconst 2, 1) := by decide +kernel
theorem dX2_readItem_123 : decode cX2_readItem 123 = .ok (.iaload, 1) := by decide +kernel
theorem dX2_readItem_124 : decode cX2_readItem 124 = .ok (.invokevirtual 53, 3) := by decide +kernel
theorem dX2_readItem_127 : decode cX2_readItem 127 = .ok (.ireturn, 1) := by decide +kernel
theorem dX2_readItem_128 : decode cX2_readItem 128 = .ok (.aload_n 1, 1) := by decide +kernel
theorem dX2_readItem_129 : decode cX2_readItem 129 = .ok (.aload_n 0, 1) := by decide +kernel
theorem dX2_readItem_130 : decode cX2_readItem 130 = .ok (.getfield 9, 3) := by decide +kernel
theorem dX2_readItem_133 : decode cX2_readItem 133 = .ok (.iconst 0, 1) := by decide +kernel
theorem dX2_readItem_134 : decode cX2_readItem 134 = .ok (.iaload, 1) := by decide +kernel
theorem dX2_readItem_135 : decode cX2_readItem 135 = .ok (.aload_n 0, 1) := by decide +kernel
theorem dX2_readItem_136 : decode cX2_readItem 136 = .ok (.getfield 9, 3) := by decide +kernel
theorem dX2_readItem_139 : decode cX2_readItem 139 = .ok (.iconst 1, 1) := by decide +kernel
theorem dX2_readItem_140 : decode cX2_readItem 140 = .ok (.iaload, 1) := by decide +kernel
theorem dX2_readItem_141 : decode cX2_readItem 141 = .ok (.invokevirtual 57, 3) := by decide +kernel
theorem dX2_readItem_144 : decode cX2_readItem 144 = .ok (.ireturn, 1) := by decide +kernel
theorem dX2_readItem_145 : decode cX2_readItem 145 = .ok (.aload_n 1, 1) := by decide +kernel
theorem dX2_readItem_146 : decode cX2_readItem 146 = .ok (.aload_n 0, 1) := by decide +kernel
theorem dX2_readItem_147 : decode cX2_readItem 147 = .ok (.getfield 9, 3) := by decide +kernel
theorem dX2_readItem_150 : decode cX2_readItem 150 = .ok (.iconst 0, 1) := by decide +kernel
theorem dX2_readItem_151 : decode cX2_readItem 151 = .ok (.iaload, 1) := by decide +kernel
theorem dX2_readItem_152 : decode cX2_readItem 152 = .ok (.invokevirtual 61, 3) := by decide +kernel
theorem dX2_readItem_155 : decode cX2_readItem 155 = .ok (.ireturn, 1) := by decide +kernel
theorem dX2_numbersOf_0 : decode cX2_numbersOf 0 = .ok (.iload_n 0, 1) := by decide +kernel
theorem dX2_numbersOf_1 : decode cX2_numbersOf 1 = .ok (.lookupswitch 51 #[(103, 47), (112, 43), (119, 45), (122, 49)], 43) := by decide +kernel
theorem dX2_numbersOf_44 : decode cX2_numbersOf 44 = .ok (.iconst 4, 1) := by decide +kernel
theorem dX2_numbersOf_45 : decode cX2_numbersOf 45 = .ok (.ireturn, 1) := by decide +kernel
theorem dX2_numbersOf_46 : decode cX2_numbersOf 46 = .ok (.iconst 3, 1) := by decide +kernel
theorem dX2_numbersOf_47 : decode cX2_numbersOf 47 = .ok (.ireturn, 1) := by decide +kernel
theorem dX2_numbersOf_48 : decode cX2_numbersOf 48 = .ok (.iconst 2, 1) := by decide +kernel
theorem dX2_numbersOf_49 : decode cX2_numbersOf 49 = .ok (.ireturn, 1) := by decide +kernel
theorem dX2_numbersOf_50 : decode cX2_numbersOf 50 = .ok (.iconst 1, 1) := by decide +kernel
theorem dX2_numbersOf_51 : decode cX2_numbersOf 51 = .ok (.ireturn, 1) := by decide +kernel
theorem dX2_numbersOf_52 : decode cX2_numbersOf 52 = .ok (.iconst 0, 1) := by decide +kernel
theorem dX2_numbersOf_53 : decode cX2_numbersOf 53 = .ok (.ireturn, 1) := by decide +kernel
theorem dX2_readNumbers_0 : decode cX2_readNumbers 0 = .ok (.iconst 0, 1) := by decide +kernel
theorem dX2_readNumbers_1 : decode cX2_readNumbers 1 = .ok (.istore_n 2, 1) := by decide +kernel
theorem dX2_readNumbers_2 : decode cX2_readNumbers 2 = .ok (.iload_n 2, 1) := by decide +kernel
theorem dX2_readNumbers_3 : decode cX2_readNumbers 3 = .ok (.iload_n 1, 1) := by decide +kernel
theorem dX2_readNumbers_4 : decode cX2_readNumbers 4 = .ok (.if_icmp .ge 89, 3) := by decide +kernel
theorem dX2_readNumbers_7 : decode cX2_readNumbers 7 = .ok (.iload_n 2, 1) := by decide +kernel
theorem dX2_readNumbers_8 : decode cX2_readNumbers 8 = .ok (.aload_n 0, 1) := by decide +kernel
theorem dX2_readNumbers_9 : decode cX2_readNumbers 9 = .ok (.getfield 9, 3) := by decide +kernel
theorem dX2_readNumbers_12 : decode cX2_readNumbers 12 = .ok (.arraylength, 1) := by decide +kernel
theorem dX2_readNumbers_13 : decode cX2_readNumbers 13 = .ok (.if_icmp .ge 80, 3) := by decide +kernel
theorem dX2_readNumbers_16 : decode cX2_readNumbers 16 = .ok (.aload_n 0, 1) := by decide +kernel
theorem dX2_readNumbers_17 : decode cX2_readNumbers 17 = .ok (.getfield 19, 3) := by decide +kernel
theorem dX2_readNumbers_20 : decode cX2_readNumbers 20 = .ok (.aload_n 0, 1) := by decide +kernel
theorem dX2_readNumbers_21 : decode cX2_readNumbers 21 = .ok (.getfield 15, 3) := by decide +kernel
theorem dX2_readNumbers_24 : decode cX2_readNumbers 24 = .ok (.invokevirtual 37, 3) := by decide +kernel
theorem dX2_readNumbers_27 : decode cX2_readNumbers 27 = .ok (.invokestatic 64, 3) := by decide +kernel
theorem dX2_readNumbers_30 : decode cX2_readNumbers 30 = .ok (.ifCond .ne 5, 3) := by decide +kernel
theorem dX2_readNumbers_33 : decode cX2_readNumbers 33 = .ok (.iconst 0, 1) := by decide +kernel
theorem dX2_readNumbers_34 : decode cX2_readNumbers 34 = .ok (.ireturn, 1) := by decide +kernel
theorem dX2_readNumbers_35 : decode cX2_readNumbers 35 = .ok (.aload_n 0, 1) := by decide +kernel
theorem dX2_readNumbers_36 : decode cX2_readNumbers 36 = .ok (.getfield 9, 3) := by decide +kernel
theorem dX2_readNumbers_39 : decode cX2_readNumbers 39 = .ok (.iload_n 2, 1) := by decide +kernel
theorem dX2_readNumbers_40 : decode cX2_readNumbers 40 = .ok (.aload_n 0, 1) := by decide +kernel
theorem dX2_readNumbers_41 : decode cX2_readNumbers 41 = .ok (.invokevirtual 68, 3) := by decide +kernel
theorem dX2_readNumbers_44 : decode cX2_readNumbers 44 = .ok (.iastore, 1) := by decide +kernel
theorem dX2_readNumbers_45 : decode cX2_readNumbers 45 = .ok (.iload_n 2, 1) := by decide +kernel
theorem dX2_readNumbers_46 : decode cX2_readNumbers 46 = .ok (.iload_n 1, 1) := by decide +kernel
theorem dX2_readNumbers_47 : decode cX2_readNumbers 47 = .ok (.iconst 1, 1) := by decide +kernel
theorem dX2_readNumbers_48 : decode cX2_readNumbers 48 = .ok (.isub, 1) := by decide +kernel
theorem dX2_readNumbers_49 : decode cX2_readNumbers 49 = .ok (.if_icmp .ne 8, 3) := by decide +kernel
theorem dX2_readNumbers_52 : decode cX2_readNumbers 52 = .ok (.bipush 59, 2) := by decide +kernel
theorem dX2_readNumbers_54 : decode cX2_readNumbers 54 = .ok (.goto 5, 3) := by decide +kernel
theorem dX2_readNumbers_57 : decode cX2_readNumbers 57 = .ok (.bipush 44, 2) := by decide +kernel
theorem dX2_readNumbers_59 : decode cX2_readNumbers 59 = .ok (.istore_n 3, 1) := by decide +kernel
theorem dX2_readNumbers_60 : decode cX2_readNumbers 60 = .ok (.aload_n 0, 1) := by decide +kernel
theorem dX2_readNumbers_61 : decode cX2_readNumbers 61 = .ok (.getfield 19, 3) := by decide +kernel
theorem dX2_readNumbers_64 : decode cX2_readNumbers 64 = .ok (.aload_n 0, 1) := by decide +kernel
theorem dX2_readNumbers_65 : decode cX2_readNumbers 65 = .ok (.getfield 15, 3) := by decide +kernel
theorem dX2_readNumbers_68 : decode cX2_readNumbers 68 = .ok (.invokevirtual 37, 3) := by decide +kernel
theorem dX2_readNumbers_71 : decode cX2_readNumbers 71 = .ok (.iload_n 3, 1) := by decide +kernel
theorem dX2_readNumbers_72 : decode cX2_readNumbers 72 = .ok (.if_icmp .eq 5, 3) := by decide +kernel
theorem dX2_readNumbers_75 : decode cX2_readNumbers 75 = .ok (.iconst 0, 1) := by decide +kernel
theorem dX2_readNumbers_76 : decode cX2_readNumbers 76 = .ok (.ireturn, 1) := by decide +kernel
theorem dX2_readNumbers_77 : decode cX2_readNumbers 77 = .ok (.aload_n 0, 1) := by decide +kernel
theorem dX2_readNumbers_78 : decode cX2_readNumbers 78 = .ok (.dup, 1) := by decide +kernel
theorem dX2_readNumbers_79 : decode cX2_readNumbers 79 = .ok (.getfield 15, 3) := by decide +kernel
theorem dX2_readNumbers_82 : decode cX2_readNumbers 82 = .ok (.iconst 1, 1) := by decide +kernel
theorem dX2_readNumbers_83 : decode cX2_readNumbers 83 = .ok (.iadd, 1) := by decide +kernel
theorem dX2_readNumbers_84 : decode cX2_readNumbers 84 = .ok (.putfield 15, 3) := by decide +kernel
theorem dX2_readNumbers_87 : decode cX2_readNumbers 87 = .ok (.iinc 2 1, 3) := by decide +kernel
theorem dX2_readNumbers_90 : decode cX2_readNumbers 90 = .ok (.goto (-88), 3) := by decide +kernel
theorem dX2_readNumbers_93 : decode cX2_readNumbers 93 = .ok (.iconst 1, 1) := by decide +kernel
theorem dX2_readNumbers_94 : decode cX2_readNumbers 94 = .ok (.ireturn, 1) := by decide +kernel
theorem dX2_readNumber_0 : decode cX2_readNumber 0 = .ok (.aload_n 0, 1) := by decide +kernel
theorem dX2_readNumber_1 : decode cX2_readNumber 1 = .ok (.getfield 19, 3) := by decide +kernel
theorem dX2_readNumber_4 : decode cX2_readNumber 4 = .ok (.aload_n 0, 1) := by decide +kernel
theorem dX2_readNumber_5 : decode cX2_readNumber 5 = .ok (.getfield 15, 3) := by decide +kernel
theorem dX2_readNumber_8 : decode cX2_readNumber 8 = .ok (.invokevirtual 37, 3) := by decide +kernel
theorem dX2_readNumber_11 : decode cX2_readNumber 11 = .ok (.bipush 48, 2) := by decide +kernel
theorem dX2_readNumber_13 : decode cX2_readNumber 13 = .ok (.isub, 1) := by decide +kernel
theorem dX2_readNumber_14 : decode cX2_readNumber 14 = .ok (.istore_n 1, 1) := by decide +kernel
theorem dX2_readNumber_15 : decode cX2_readNumber 15 = .ok (.aload_n 0, 1) := by decide +kernel
theorem dX2_readNumber_16 : decode cX2_readNumber 16 = .ok (.dup, 1) := by decide +kernel
theorem dX2_readNumber_17 : decode cX2_readNumber 17 = .ok (.getfield 15, 3) := by decide +kernel
theorem dX2_readNumber_20 : decode cX2_readNumber 20 = .ok (.iconst 1, 1) := by decide +kernel
theorem dX2_readNumber_21 : decode cX2_readNumber 21 = .ok (.iadd, 1) := by decide +kernel
theorem dX2_readNumber_22 : decode cX2_readNumber 22 = .ok (.putfield 15, 3) := by decide +kernel
theorem dX2_readNumber_25 : decode cX2_readNumber 25 = .ok (.aload_n 0, 1) := by decide +kernel
theorem dX2_readNumber_26 : decode cX2_readNumber 26 = .ok (.getfield 19, 3) := by decide +kernel
theorem dX2_readNumber_29 : decode cX2_readNumber 29 = .ok (.aload_n 0, 1) := by decide +kernel
theorem dX2_readNumber_30 : decode cX2_readNumber 30 = .ok (.getfield 15, 3) := by decide +kernel
theorem dX2_readNumber_33 : decode cX2_readNumber 33 = .ok (.invokevirtual 37, 3) := by decide +kernel
theorem dX2_readNumber_36 : decode cX2_readNumber 36 = .ok (.invokestatic 64, 3) := by decide +kernel
theorem dX2_readNumber_39 : decode cX2_readNumber 39 = .ok (.ifCond .eq 33, 3) := by decide +kernel
theorem dX2_readNumber_42 : decode cX2_readNumber 42 = .ok (.iload_n 1, 1) := by decide +kernel
theorem dX2_readNumber_43 : decode cX2_readNumber 43 = .ok (.bipush 10, 2) := by decide +kernel
theorem dX2_readNumber_45 : decode cX2_readNumber 45 = .ok (.imul, 1) := by decide +kernel
theorem dX2_readNumber_46 : decode cX2_readNumber 46 = .ok (.aload_n 0, 1) := by decide +kernel
theorem dX2_readNumber_47 : decode cX2_readNumber 47 = .ok (.getfield 19, 3) := by decide +kernel
theorem dX2_readNumber_50 : decode cX2_readNumber 50 = .ok (.aload_n 0, 1) := by decide +kernel
theorem dX2_readNumber_51 : decode cX2_readNumber 51 = .ok (.getfield 15, 3) := by decide +kernel
theorem dX2_readNumber_54 : decode cX2_readNumber 54 = .ok (.invokevirtual 37, 3) := by decide +kernel
theorem dX2_readNumber_57 : decode cX2_readNumber 57 = .ok (.bipush 48, 2) := by decide +kernel
theorem dX2_readNumber_59 : decode cX2_readNumber 59 = .ok (.isub, 1) := by decide +kernel
theorem dX2_readNumber_60 : decode cX2_readNumber 60 = .ok (.iadd, 1) := by decide +kernel
theorem dX2_readNumber_61 : decode cX2_readNumber 61 = .ok (.istore_n 1, 1) := by decide +kernel
theorem dX2_readNumber_62 : decode cX2_readNumber 62 = .ok (.aload_n 0, 1) := by decide +kernel
theorem dX2_readNumber_63 : decode cX2_readNumber 63 = .ok (.dup, 1) := by decide +kernel
theorem dX2_readNumber_64 : decode cX2_readNumber 64 = .ok (.getfield 15, 3) := by decide +kernel
theorem dX2_readNumber_67 : decode cX2_readNumber 67 = .ok (.iconst 1, 1) := by decide +kernel
theorem dX2_readNumber_68 : decode cX2_readNumber 68 = .ok (.iadd, 1) := by decide +kernel
theorem dX2_readNumber_69 : decode cX2_readNumber 69 = .ok (.putfield 15, 3) := by decide +kernel
theorem dX2_readNumber_72 : decode cX2_readNumber 72 = .ok (.iload_n 1, 1) := by decide +kernel
theorem dX2_readNumber_73 : decode cX2_readNumber 73 = .ok (.ireturn, 1) := by decide +kernel
theorem dX2_isFigure_0 : decode cX2_isFigure 0 = .ok (.iload_n 0, 1) := by decide +kernel
theorem dX2_isFigure_1 : decode cX2_isFigure 1 = .ok (.bipush 48, 2) := by decide +kernel
theorem dX2_isFigure_3 : decode cX2_isFigure 3 = .ok (.if_icmp .lt 13, 3) := by decide +kernel
theorem dX2_isFigure_6 : decode cX2_isFigure 6 = .ok (.iload_n 0, 1) := by decide +kernel
theorem dX2_isFigure_7 : decode cX2_isFigure 7 = .ok (.bipush 57, 2) := by decide +kernel
theorem dX2_isFigure_9 : decode cX2_isFigure 9 = .ok (.if_icmp .gt 7, 3) := by decide +kernel
theorem dX2_isFigure_12 : decode cX2_isFigure 12 = .ok (.iconst 1, 1) := by decide +kernel
theorem dX2_isFigure_13 : decode cX2_isFigure 13 = .ok (.goto 4, 3) := by decide +kernel
theorem dX2_isFigure_16 : decode cX2_isFigure 16 = .ok (.iconst 0, 1) := by decide +kernel
theorem dX2_isFigure_17 : decode cX2_isFigure 17 = .ok (.ireturn, 1) := by decide +kernel
theorem dX3_init_0 : decode cX3_init 0 = .ok (.aload_n 0, 1) := by decide +kernel
theorem dX3_init_1 : decode cX3_init 1 = .ok (.invokespecial 3, 3) := by decide +kernel
theorem dX3_init_4 : decode cX3_init 4 = .ok (.aload_n 0, 1) := by decide +kernel
theorem dX3_init_5 : decode cX3_init 5 = .ok (.sipush 200, 3) := by decide +kernel
theorem dX3_init_8 : decode cX3_init 8 = .ok (.newarray .char, 2) := by decide +kernel
theorem dX3_init_10 : decode cX3_init 10 = .ok (.putfield 9, 3) := by decide +kernel
theorem dX3_init_13 : decode cX3_init 13 = .ok (.aload_n 0, 1) := by decide +kernel
theorem dX3_init_14 : decode cX3_init 14 = .ok (.iconst 0, 1) := by decide +kernel
theorem dX3_init_15 : decode cX3_init 15 = .ok (.putfield 15, 3) := by decide +kernel
theorem dX3_init_18 : decode cX3_init 18 = .ok (.return_, 1) := by decide +kernel
theorem dX3_append_0 : decode cX3_append 0 = .ok (.aload_n 0, 1) := by decide +kernel
theorem dX3_append_1 : decode cX3_append 1 = .ok (.getfield 15, 3) := by decide +kernel
theorem dX3_append_4 : decode cX3_append 4 = .ok (.aload_n 0, 1) := by decide +kernel
theorem dX3_append_5 : decode cX3_append 5 = .ok (.getfield 9, 3) := by decide +kernel
theorem dX3_append_8 : decode cX3_append 8 = .ok (.arraylength, 1) := by decide +kernel
theorem dX3_append_9 : decode cX3_append 9 = .ok (.if_icmp .lt 5, 3) := by decide +kernel
theorem dX3_append_12 : decode cX3_append 12 = .ok (.iconst 0, 1) := by decide +kernel
theorem dX3_append_13 : decode cX3_append 13 = .ok (.ireturn, 1) := by decide +kernel
theorem dX3_append_14 : decode cX3_append 14 = .ok (.aload_n 0, 1) := by decide +kernel
theorem dX3_append_15 : decode cX3_append 15 = .ok (.getfield 9, 3) := by decide +kernel
theorem dX3_append_18 : decode cX3_append 18 = .ok (.aload_n 0, 1) := by decide +kernel
theorem dX3_append_19 : decode cX3_append 19 = .ok (.getfield 15, 3) := by decide +kernel
theorem dX3_append_22 : decode cX3_append 22 = .ok (.iload_n 1, 1) := by decide +kernel
theorem dX3_append_23 : decode cX3_append 23 = .ok (.castore, 1) := by decide +kernel
theorem dX3_append_24 : decode cX3_append 24 = .ok (.aload_n 0, 1) := by decide +kernel
theorem dX3_append_25 : decode cX3_append 25 = .ok (.dup, 1) := by decide +kernel
theorem dX3_append_26 : decode cX3_append 26 = .ok (.getfield 15, 3) := by decide +kernel
theorem dX3_append_29 : decode cX3_append 29 = .ok (.iconst 1, 1) := by decide +kernel
theorem dX3_append_30 : decode cX3_append 30 = .ok (.iadd, 1) := by decide +kernel
theorem dX3_append_31 : decode cX3_append 31 = .ok (.putfield 15, 3) := by decide +kernel
theorem dX3_append_34 : decode cX3_append 34 = .ok (.iconst 1, 1) := by decide +kernel
theorem dX3_append_35 : decode cX3_append 35 = .ok (.ireturn, 1) := by decide +kernel
theorem dX3_clear_0 : decode cX3_clear 0 = .ok (.aload_n 0, 1) := by decide +kernel
theorem dX3_clear_1 : decode cX3_clear 1 = .ok (.iconst 0, 1) := by decide +kernel
theorem dX3_clear_2 : decode cX3_clear 2 = .ok (.putfield 15, 3) := by decide +kernel
theorem dX3_clear_5 : decode cX3_clear 5 = .ok (.return_, 1) := by decide +kernel
theorem dX3_at_0 : decode cX3_at 0 = .ok (.iload_n 1, 1) := by decide +kernel
theorem dX3_at_1 : decode cX3_at 1 = .ok (.ifCond .lt 20, 3) := by decide +kernel
theorem dX3_at_4 : decode cX3_at 4 = .ok (.iload_n 1, 1) := by decide +kernel
theorem dX3_at_5 : decode cX3_at 5 = .ok (.aload_n 0, 1) := by decide +kernel
theorem dX3_at_6 : decode cX3_at 6 = .ok (.getfield 15, 3) := by decide +kernel
theorem dX3_at_9 : decode cX3_at 9 = .ok (.if_icmp .ge 12, 3) := by decide +kernel
theorem dX3_at_12 : decode cX3_at 12 = .ok (.aload_n 0, 1) := by decide +kernel
theorem dX3_at_13 : decode cX3_at 13 = .ok (.getfield 9, 3) := by decide +kernel
theorem dX3_at_16 : decode cX3_at 16 = .ok (.iload_n 1, 1) := by decide +kernel
theorem dX3_at_17 : decode cX3_at 17 = .ok (.caload, 1) := by decide +kernel
theorem dX3_at_18 : decode cX3_at 18 = .ok (.goto 4, 3) := by decide +kernel
theorem dX3_at_21 : decode cX3_at 21 = .ok (.iconst 0, 1) := by decide +kernel
theorem dX3_at_22 : decode cX3_at 22 = .ok (.ireturn, 1) := by decide +kernel
theorem dX4_init_0 : decode cX4_init 0 = .ok (.aload_n 0, 1) := by decide +kernel
theorem dX4_init_1 : decode cX4_init 1 = .ok (.invokespecial 3, 3) := by decide +kernel
theorem dX4_init_4 : decode cX4_init 4 = .ok (.aload_n 0, 1) := by decide +kernel
theorem dX4_init_5 : decode cX4_init 5 = .ok (.bipush 8, 2) := by decide +kernel
theorem dX4_init_7 : decode cX4_init 7 = .ok (.newarray .int, 2) := by decide +kernel
theorem dX4_init_9 : decode cX4_init 9 = .ok (.putfield 9, 3) := by decide +kernel
theorem dX4_init_12 : decode cX4_init 12 = .ok (.aload_n 0, 1) := by decide +kernel
theorem dX4_init_13 : decode cX4_init 13 = .ok (.bipush 8, 2) := by decide +kernel
theorem dX4_init_15 : decode cX4_init 15 = .ok (.newarray .int, 2) := by decide +kernel
theorem dX4_init_17 : decode cX4_init 17 = .ok (.putfield 15, 3) := by decide +kernel
theorem dX4_init_20 : decode cX4_init 20 = .ok (.aload_n 0, 1) := by decide +kernel
theorem dX4_init_21 : decode cX4_init 21 = .ok (.bipush 8, 2) := by decide +kernel
theorem dX4_init_23 : decode cX4_init 23 = .ok (.newarray .int, 2) := by decide +kernel
theorem dX4_init_25 : decode cX4_init 25 = .ok (.putfield 18, 3) := by decide +kernel
theorem dX4_init_28 : decode cX4_init 28 = .ok (.aload_n 0, 1) := by decide +kernel
theorem dX4_init_29 : decode cX4_init 29 = .ok (.iconst 0, 1) := by decide +kernel
theorem dX4_init_30 : decode cX4_init 30 = .ok (.putfield 21, 3) := by decide +kernel
theorem dX4_init_33 : decode cX4_init 33 = .ok (.return_, 1) := by decide +kernel
theorem dX4_clear_0 : decode cX4_clear 0 = .ok (.aload_n 0, 1) := by decide +kernel
theorem dX4_clear_1 : decode cX4_clear 1 = .ok (.iconst 0, 1) := by decide +kernel
theorem dX4_clear_2 : decode cX4_clear 2 = .ok (.putfield 21, 3) := by decide +kernel
theorem dX4_clear_5 : decode cX4_clear 5 = .ok (.return_, 1) := by decide +kernel
theorem dX4_add_0 : decode cX4_add 0 = .ok (.aload_n 0, 1) := by decide +kernel
theorem dX4_add_1 : decode cX4_add 1 = .ok (.getfield 21, 3) := by decide +kernel
theorem dX4_add_4 : decode cX4_add 4 = .ok (.bipush 8, 2) := by decide +kernel
theorem dX4_add_6 : decode cX4_add 6 = .ok (.if_icmp .lt 5, 3) := by decide +kernel
theorem dX4_add_9 : decode cX4_add 9 = .ok (.iconst 0, 1) := by decide +kernel
theorem dX4_add_10 : decode cX4_add 10 = .ok (.ireturn, 1) := by decide +kernel
theorem dX4_add_11 : decode cX4_add 11 = .ok (.aload_n 0, 1) := by decide +kernel
theorem dX4_add_12 : decode cX4_add 12 = .ok (.getfield 9, 3) := by decide +kernel
theorem dX4_add_15 : decode cX4_add 15 = .ok (.aload_n 0, 1) := by decide +kernel
theorem dX4_add_16 : decode cX4_add 16 = .ok (.getfield 21, 3) := by decide +kernel
theorem dX4_add_19 : decode cX4_add 19 = .ok (.iload_n 1, 1) := by decide +kernel
theorem dX4_add_20 : decode cX4_add 20 = .ok (.iastore, 1) := by decide +kernel
theorem dX4_add_21 : decode cX4_add 21 = .ok (.aload_n 0, 1) := by decide +kernel
theorem dX4_add_22 : decode cX4_add 22 = .ok (.getfield 15, 3) := by decide +kernel
theorem dX4_add_25 : decode cX4_add 25 = .ok (.aload_n 0, 1) := by decide +kernel
theorem dX4_add_26 : decode cX4_add 26 = .ok (.getfield 21, 3) := by decide +kernel
theorem dX4_add_29 : decode cX4_add 29 = .ok (.iload_n 2, 1) := by decide +kernel
theorem dX4_add_30 : decode cX4_add 30 = .ok (.iastore, 1) := by decide +kernel
theorem dX4_add_31 : decode cX4_add 31 = .ok (.aload_n 0, 1) := by decide +kernel
theorem dX4_add_32 : decode cX4_add 32 = .ok (.getfield 18, 3) := by decide +kernel
theorem dX4_add_35 : decode cX4_add 35 = .ok (.aload_n 0, 1) := by decide +kernel
theorem dX4_add_36 : decode cX4_add 36 = .ok (.getfield 21, 3) := by decide +kernel
theorem dX4_add_39 : decode cX4_add 39 = .ok (.iload_n 3, 1) := by decide +kernel
theorem dX4_add_40 : decode cX4_add 40 = .ok (.iastore, 1) := by decide +kernel
theorem dX4_add_41 : decode cX4_add 41 = .ok (.aload_n 0, 1) := by decide +kernel
theorem dX4_add_42 : decode cX4_add 42 = .ok (.dup, 1) := by decide +kernel
theorem dX4_add_43 : decode cX4_add 43 = .ok (.getfield 21, 3) := by decide +kernel
theorem dX4_add_46 : decode cX4_add 46 = .ok (.iconst 1, 1) := by decide +kernel
theorem dX4_add_47 : decode cX4_add 47 = .ok (.iadd, 1) := by decide +kernel
theorem dX4_add_48 : decode cX4_add 48 = .ok (.putfield 21, 3) := by decide +kernel
theorem dX4_add_51 : decode cX4_add 51 = .ok (.iconst 1, 1) := by decide +kernel
theorem dX4_add_52 : decode cX4_add 52 = .ok (.ireturn, 1) := by decide +kernel
theorem dX4_fit_0 : decode cX4_fit 0 = .ok (.iconst 0, 1) := by decide +kernel
theorem dX4_fit_1 : decode cX4_fit 1 = .ok (.istore_n 3, 1) := by decide +kernel
theorem dX4_fit_2 : decode cX4_fit 2 = .ok (.iload_n 3, 1) := by decide +kernel
theorem dX4_fit_3 : decode cX4_fit 3 = .ok (.aload_n 0, 1) := by decide +kernel
theorem dX4_fit_4 : decode cX4_fit 4 = .ok (.getfield 21, 3) := by decide +kernel
theorem dX4_fit_7 : decode cX4_fit 7 = .ok (.if_icmp .ge 43, 3) := by decide +kernel
theorem dX4_fit_10 : decode cX4_fit 10 = .ok (.aload_n 0, 1) := by decide +kernel
theorem dX4_fit_11 : decode cX4_fit 11 = .ok (.getfield 9, 3) := by decide +kernel
theorem dX4_fit_14 : decode cX4_fit 14 = .ok (.iload_n 3, 1) := by decide +kernel
theorem dX4_fit_15 : decode cX4_fit 15 = .ok (.iaload, 1) := by decide +kernel
theorem dX4_fit_16 : decode cX4_fit 16 = .ok (.iload_n 1, 1) := by decide +kernel
theorem dX4_fit_17 : decode cX4_fit 17 = .ok (.if_icmp .ne 27, 3) := by decide +kernel
theorem dX4_fit_20 : decode cX4_fit 20 = .ok (.aload_n 2, 1) := by decide +kernel
theorem dX4_fit_21 : decode cX4_fit 21 = .ok (.getfield 25, 3) := by decide +kernel
theorem dX4_fit_24 : decode cX4_fit 24 = .ok (.iload_n 1, 1) := by decide +kernel
theorem dX4_fit_25 : decode cX4_fit 25 = .ok (.aaload, 1) := by decide +kernel
theorem dX4_fit_26 : decode cX4_fit 26 = .ok (.aload_n 0, 1) := by decide +kernel
theorem dX4_fit_27 : decode cX4_fit 27 = .ok (.getfield 15, 3) := by decide +kernel
theorem dX4_fit_30 : decode cX4_fit 30 = .ok (.iload_n 3, 1) := by decide +kernel
theorem dX4_fit_31 : decode cX4_fit 31 = .ok (.iaload, 1) := by decide +kernel
theorem dX4_fit_32 : decode cX4_fit 32 = .ok (.iaload, 1) := by decide +kernel
theorem dX4_fit_33 : decode cX4_fit 33 = .ok (.aload_n 0, 1) := by decide +kernel
theorem dX4_fit_34 : decode cX4_fit 34 = .ok (.getfield 18, 3) := by decide +kernel
theorem dX4_fit_37 : decode cX4_fit 37 = .ok (.iload_n 3, 1) := by decide +kernel
theorem dX4_fit_38 : decode cX4_fit 38 = .ok (.iaload, 1) := by decide +kernel
theorem dX4_fit_39 : decode cX4_fit 39 = .ok (.if_icmp .eq 5, 3) := by decide +kernel
theorem dX4_fit_42 : decode cX4_fit 42 = .ok (.iconst 0, 1) := by decide +kernel
theorem dX4_fit_43 : decode cX4_fit 43 = .ok (.ireturn, 1) := by decide +kernel
theorem dX4_fit_44 : decode cX4_fit 44 = .ok (.iinc 3 1, 3) := by decide +kernel
theorem dX4_fit_47 : decode cX4_fit 47 = .ok (.goto (-45), 3) := by decide +kernel
theorem dX4_fit_50 : decode cX4_fit 50 = .ok (.iconst 1, 1) := by decide +kernel
theorem dX4_fit_51 : decode cX4_fit 51 = .ok (.ireturn, 1) := by decide +kernel
theorem dX5_init_0 : decode cX5_init 0 = .ok (.aload_n 0, 1) := by decide +kernel
theorem dX5_init_1 : decode cX5_init 1 = .ok (.invokespecial 3, 3) := by decide +kernel
theorem dX5_init_4 : decode cX5_init 4 = .ok (.aload_n 0, 1) := by decide +kernel
theorem dX5_init_5 : decode cX5_init 5 = .ok (.bipush 6, 2) := by decide +kernel
theorem dX5_init_7 : decode cX5_init 7 = .ok (.newarray .int, 2) := by decide +kernel
theorem dX5_init_9 : decode cX5_init 9 = .ok (.putfield 9, 3) := by decide +kernel
theorem dX5_init_12 : decode cX5_init 12 = .ok (.aload_n 0, 1) := by decide +kernel
theorem dX5_init_13 : decode cX5_init 13 = .ok (.bipush 6, 2) := by decide +kernel
theorem dX5_init_15 : decode cX5_init 15 = .ok (.newarray .int, 2) := by decide +kernel
theorem dX5_init_17 : decode cX5_init 17 = .ok (.putfield 15, 3) := by decide +kernel
theorem dX5_init_20 : decode cX5_init 20 = .ok (.aload_n 0, 1) := by decide +kernel
theorem dX5_init_21 : decode cX5_init 21 = .ok (.bipush 6, 2) := by decide +kernel
theorem dX5_init_23 : decode cX5_init 23 = .ok (.newarray .int, 2) := by decide +kernel
theorem dX5_init_25 : decode cX5_init 25 = .ok (.putfield 18, 3) := by decide +kernel
theorem dX5_init_28 : decode cX5_init 28 = .ok (.aload_n 0, 1) := by decide +kernel
theorem dX5_init_29 : decode cX5_init 29 = .ok (.bipush 6, 2) := by decide +kernel
theorem dX5_init_31 : decode cX5_init 31 = .ok (.newarray .int, 2) := by decide +kernel
theorem dX5_init_33 : decode cX5_init 33 = .ok (.putfield 21, 3) := by decide +kernel
theorem dX5_init_36 : decode cX5_init 36 = .ok (.aload_n 0, 1) := by decide +kernel
theorem dX5_init_37 : decode cX5_init 37 = .ok (.bipush 6, 2) := by decide +kernel
theorem dX5_init_39 : decode cX5_init 39 = .ok (.newarray .int, 2) := by decide +kernel
theorem dX5_init_41 : decode cX5_init 41 = .ok (.putfield 24, 3) := by decide +kernel
theorem dX5_init_44 : decode cX5_init 44 = .ok (.aload_n 0, 1) := by decide +kernel
theorem dX5_init_45 : decode cX5_init 45 = .ok (.bipush 6, 2) := by decide +kernel
theorem dX5_init_47 : decode cX5_init 47 = .ok (.newarray .int, 2) := by decide +kernel
theorem dX5_init_49 : decode cX5_init 49 = .ok (.putfield 27, 3) := by decide +kernel
theorem dX5_init_52 : decode cX5_init 52 = .ok (.aload_n 0, 1) := by decide +kernel
theorem dX5_init_53 : decode cX5_init 53 = .ok (.bipush 9, 2) := by decide +kernel
theorem dX5_init_55 : decode cX5_init 55 = .ok (.newarray .int, 2) := by decide +kernel
theorem dX5_init_57 : decode cX5_init 57 = .ok (.putfield 30, 3) := by decide +kernel
theorem dX5_init_60 : decode cX5_init 60 = .ok (.aload_n 0, 1) := by decide +kernel
theorem dX5_init_61 : decode cX5_init 61 = .ok (.bipush 6, 2) := by decide +kernel
theorem dX5_init_63 : decode cX5_init 63 = .ok (.sipush 151, 3) := by decide +kernel
theorem dX5_init_66 : decode cX5_init 66 = .ok (.multianewarray 33 2, 4) := by decide +kernel
theorem dX5_init_70 : decode cX5_init 70 = .ok (.putfield 35, 3) := by decide +kernel
theorem dX5_init_73 : decode cX5_init 73 = .ok (.aload_n 0, 1) := by decide +kernel
theorem dX5_init_74 : decode cX5_init 74 = .ok (.iconst 0, 1) := by decide +kernel
theorem dX5_init_75 : decode cX5_init 75 = .ok (.putfield 38, 3) := by decide +kernel
theorem dX5_init_78 : decode cX5_init 78 = .ok (.aload_n 0, 1) := by decide +kernel
theorem dX5_init_79 : decode cX5_init 79 = .ok (.aload_n 1, 1) := by decide +kernel
theorem dX5_init_80 : decode cX5_init 80 = .ok (.putfield 42, 3) := by decide +kernel
theorem dX5_init_83 : decode cX5_init 83 = .ok (.return_, 1) := by decide +kernel
theorem dX5_run_0 : decode cX5_run 0 = .ok (.aload_n 0, 1) := by decide +kernel
theorem dX5_run_1 : decode cX5_run 1 = .ok (.invokevirtual 46, 3) := by decide +kernel
theorem dX5_run_4 : decode cX5_run 4 = .ok (.iconst 0, 1) := by decide +kernel
theorem dX5_run_5 : decode cX5_run 5 = .ok (.istore_n 1, 1) := by decide +kernel
theorem dX5_run_6 : decode cX5_run 6 = .ok (.iload_n 1, 1) := by decide +kernel
theorem dX5_run_7 : decode cX5_run 7 = .ok (.sipush 150, 3) := by decide +kernel
theorem dX5_run_10 : decode cX5_run 10 = .ok (.if_icmp .gt 82, 3) := by decide +kernel
theorem dX5_run_13 : decode cX5_run 13 = .ok (.aload_n 0, 1) := by decide +kernel
theorem dX5_run_14 : decode cX5_run 14 = .ok (.iload_n 1, 1) := by decide +kernel
theorem dX5_run_15 : decode cX5_run 15 = .ok (.invokevirtual 49, 3) := by decide +kernel
theorem dX5_run_18 : decode cX5_run 18 = .ok (.aload_n 0, 1) := by decide +kernel
theorem dX5_run_19 : decode cX5_run 19 = .ok (.iload_n 1, 1) := by decide +kernel
theorem dX5_run_20 : decode cX5_run 20 = .ok (.invokevirtual 53, 3) := by decide +kernel
theorem dX5_run_23 : decode cX5_run 23 = .ok (.aload_n 0, 1) := by decide +kernel
theorem dX5_run_24 : decode cX5_run 24 = .ok (.iload_n 1, 1) := by decide +kernel
theorem dX5_run_25 : decode cX5_run 25 = .ok (.invokevirtual 56, 3) := by decide +kernel
theorem dX5_run_28 : decode cX5_run 28 = .ok (.iconst 0, 1) := by decide +kernel
theorem dX5_run_29 : decode cX5_run 29 = .ok (.istore_n 2, 1) := by decide +kernel
theorem dX5_run_30 : decode cX5_run 30 = .ok (.iload_n 2, 1) := by decide +kernel
theorem dX5_run_31 : decode cX5_run 31 = .ok (.aload_n 0, 1) := by decide +kernel
theorem dX5_run_32 : decode cX5_run 32 = .ok (.getfield 42, 3) := by decide +kernel
theorem dX5_run_35 : decode cX5_run 35 = .ok (.getfield 59, 3) := by decide +kernel
theorem dX5_run_38 : decode cX5_run 38 = .ok (.if_icmp .ge 15, 3) := by decide +kernel
theorem dX5_run_41 : decode cX5_run 41 = .ok (.aload_n 0, 1) := by decide +kernel
theorem dX5_run_42 : decode cX5_run 42 = .ok (.iload_n 2, 1) := by decide +kernel
theorem dX5_run_43 : decode cX5_run 43 = .ok (.iload_n 1, 1) := by decide +kernel
theorem dX5_run_44 : decode cX5_run 44 = .ok (.invokevirtual 64, 3) := by decide +kernel
theorem dX5_run_47 : decode cX5_run 47 = .ok (.iinc 2 1, 3) := by decide +kernel
theorem dX5_run_50 : decode cX5_run 50 = .ok (.goto (-20), 3) := by decide +kernel
theorem dX5_run_53 : decode cX5_run 53 = .ok (.iconst 0, 1) := by decide +kernel
theorem dX5_run_54 : decode cX5_run 54 = .ok (.istore_n 2, 1) := by decide +kernel
theorem dX5_run_55 : decode cX5_run 55 = .ok (.iload_n 2, 1) := by decide +kernel
theorem dX5_run_56 : decode cX5_run 56 = .ok (.aload_n 0, 1) := by decide +kernel
theorem dX5_run_57 : decode cX5_run 57 = .ok (.getfield 42, 3) := by decide +kernel
theorem dX5_run_60 : decode cX5_run 60 = .ok (.getfield 59, 3) := by decide +kernel
theorem dX5_run_63 : decode cX5_run 63 = .ok (.if_icmp .ge 23, 3) := by decide +kernel
theorem dX5_run_66 : decode cX5_run 66 = .ok (.aload_n 0, 1) := by decide +kernel
theorem dX5_run_67 : decode cX5_run 67 = .ok (.getfield 35, 3) := by decide +kernel
theorem dX5_run_70 : decode cX5_run 70 = .ok (.iload_n 2, 1) := by decide +kernel
theorem dX5_run_71 : decode cX5_run 71 = .ok (.aaload, 1) := by decide +kernel
theorem dX5_run_72 : decode cX5_run 72 = .ok (.iload_n 1, 1) := by decide +kernel
theorem dX5_run_73 : decode cX5_run 73 = .ok (.aload_n 0, 1) := by decide +kernel
theorem dX5_run_74 : decode cX5_run 74 = .ok (.getfield 15, 3) := by decide +kernel
theorem dX5_run_77 : decode cX5_run 77 = .ok (.iload_n 2, 1) := by decide +kernel
theorem dX5_run_78 : decode cX5_run 78 = .ok (.iaload, 1) := by decide +kernel
theorem dX5_run_79 : decode cX5_run 79 = .ok (.iastore, 1) := by decide +kernel
theorem dX5_run_80 : decode cX5_run 80 = .ok (.iinc 2 1, 3) := by decide +kernel
theorem dX5_run_83 : decode cX5_run 83 = .ok (.goto (-28), 3) := by decide +kernel
theorem dX5_run_86 : decode cX5_run 86 = .ok (.iinc 1 1, 3) := by decide +kernel
theorem dX5_run_89 : decode cX5_run 89 = .ok (.goto (-83), 3) := by decide +kernel
theorem dX5_run_92 : decode cX5_run 92 = .ok (.return_, 1) := by decide +kernel
theorem dX5_prepare_0 : decode cX5_prepare 0 = .ok (.aload_n 0, 1) := by decide +kernel
theorem dX5_prepare_1 : decode cX5_prepare 1 = .ok (.iconst 0, 1) := by decide +kernel
theorem dX5_prepare_2 : decode cX5_prepare 2 = .ok (.putfield 38, 3) := by decide +kernel
theorem dX5_prepare_5 : decode cX5_prepare 5 = .ok (.iconst 0, 1) := by decide +kernel
theorem dX5_prepare_6 : decode cX5_prepare 6 = .ok (.istore_n 1, 1) := by decide +kernel
theorem dX5_prepare_7 : decode cX5_prepare 7 = .ok (.iload_n 1, 1) := by decide +kernel
theorem dX5_prepare_8 : decode cX5_prepare 8 = .ok (.aload_n 0, 1) := by decide +kernel
theorem dX5_prepare_9 : decode cX5_prepare 9 = .ok (.getfield 42, 3) := by decide +kernel
theorem dX5_prepare_12 : decode cX5_prepare 12 = .ok (.getfield 59, 3) := by decide +kernel
theorem dX5_prepare_15 : decode cX5_prepare 15 = .ok (.if_icmp .ge 59, 3) := by decide +kernel
theorem dX5_prepare_18 : decode cX5_prepare 18 = .ok (.aload_n 0, 1) := by decide +kernel
theorem dX5_prepare_19 : decode cX5_prepare 19 = .ok (.getfield 9, 3) := by decide +kernel
theorem dX5_prepare_22 : decode cX5_prepare 22 = .ok (.iload_n 1, 1) := by decide +kernel
theorem dX5_prepare_23 : decode cX5_prepare 23 = .ok (.iconst 0, 1) := by decide +kernel
theorem dX5_prepare_24 : decode cX5_prepare 24 = .ok (.iastore, 1) := by decide +kernel
theorem dX5_prepare_25 : decode cX5_prepare 25 = .ok (.aload_n 0, 1) := by decide +kernel
theorem dX5_prepare_26 : decode cX5_prepare 26 = .ok (.getfield 15, 3) := by decide +kernel
theorem dX5_prepare_29 : decode cX5_prepare 29 = .ok (.iload_n 1, 1) := by decide +kernel
theorem dX5_prepare_30 : decode cX5_prepare 30 = .ok (.iconst 0, 1) := by decide +kernel
theorem dX5_prepare_31 : decode cX5_prepare 31 = .ok (.iastore, 1) := by decide +kernel
theorem dX5_prepare_32 : decode cX5_prepare 32 = .ok (.aload_n 0, 1) := by decide +kernel
theorem dX5_prepare_33 : decode cX5_prepare 33 = .ok (.getfield 18, 3) := by decide +kernel
theorem dX5_prepare_36 : decode cX5_prepare 36 = .ok (.iload_n 1, 1) := by decide +kernel
theorem dX5_prepare_37 : decode cX5_prepare 37 = .ok (.aload_n 0, 1) := by decide +kernel
theorem dX5_prepare_38 : decode cX5_prepare 38 = .ok (.getfield 42, 3) := by decide +kernel
theorem dX5_prepare_41 : decode cX5_prepare 41 = .ok (.iload_n 1, 1) := by decide +kernel
theorem dX5_prepare_42 : decode cX5_prepare 42 = .ok (.invokevirtual 68, 3) := by decide +kernel
theorem dX5_prepare_45 : decode cX5_prepare 45 = .ok (.iastore, 1) := by decide +kernel
theorem dX5_prepare_46 : decode cX5_prepare 46 = .ok (.aload_n 0, 1) := by decide +kernel
theorem dX5_prepare_47 : decode cX5_prepare 47 = .ok (.getfield 21, 3) := by decide +kernel
theorem dX5_prepare_50 : decode cX5_prepare 50 = .ok (.iload_n 1, 1) := by decide +kernel
theorem dX5_prepare_51 : decode cX5_prepare 51 = .ok (.iconst 0, 1) := by decide +kernel
theorem dX5_prepare_52 : decode cX5_prepare 52 = .ok (.iastore, 1) := by decide +kernel
theorem dX5_prepare_53 : decode cX5_prepare 53 = .ok (.aload_n 0, 1) := by decide +kernel
theorem dX5_prepare_54 : decode cX5_prepare 54 = .ok (.getfield 24, 3) := by decide +kernel
theorem dX5_prepare_57 : decode cX5_prepare 57 = .ok (.iload_n 1, 1) := by decide +kernel
theorem dX5_prepare_58 : decode cX5_prepare 58 = .ok (.bipush (-4), 2) := by decide +kernel
theorem dX5_prepare_60 : decode cX5_prepare 60 = .ok (.iastore, 1) := by decide +kernel
theorem dX5_prepare_61 : decode cX5_prepare 61 = .ok (.aload_n 0, 1) := by decide +kernel
theorem dX5_prepare_62 : decode cX5_prepare 62 = .ok (.getfield 27, 3) := by decide +kernel
theorem dX5_prepare_65 : decode cX5_prepare 65 = .ok (.iload_n 1, 1) := by decide +kernel
theorem dX5_prepare_66 : decode cX5_prepare 66 = .ok (.iconst 0, 1) := by decide +kernel
theorem dX5_prepare_67 : decode cX5_prepare 67 = .ok (.iastore, 1) := by decide +kernel
theorem dX5_prepare_68 : decode cX5_prepare 68 = .ok (.iinc 1 1, 3) := by decide +kernel
theorem dX5_prepare_71 : decode cX5_prepare 71 = .ok (.goto (-64), 3) := by decide +kernel
theorem dX5_prepare_74 : decode cX5_prepare 74 = .ok (.iconst 0, 1) := by decide +kernel
theorem dX5_prepare_75 : decode cX5_prepare 75 = .ok (.istore_n 1, 1) := by decide +kernel
theorem dX5_prepare_76 : decode cX5_prepare 76 = .ok (.iload_n 1, 1) := by decide +kernel
theorem dX5_prepare_77 : decode cX5_prepare 77 = .ok (.aload_n 0, 1) := by decide +kernel
theorem dX5_prepare_78 : decode cX5_prepare 78 = .ok (.getfield 42, 3) := by decide +kernel
theorem dX5_prepare_81 : decode cX5_prepare 81 = .ok (.getfield 72, 3) := by decide +kernel
theorem dX5_prepare_84 : decode cX5_prepare 84 = .ok (.if_icmp .ge 16, 3) := by decide +kernel
theorem dX5_prepare_87 : decode cX5_prepare 87 = .ok (.aload_n 0, 1) := by decide +kernel
theorem dX5_prepare_88 : decode cX5_prepare 88 = .ok (.getfield 30, 3) := by decide +kernel
theorem dX5_prepare_91 : decode cX5_prepare 91 = .ok (.iload_n 1, 1) := by decide +kernel
theorem dX5_prepare_92 : decode cX5_prepare 92 = .ok (.iconst 0, 1) := by decide +kernel
theorem dX5_prepare_93 : decode cX5_prepare 93 = .ok (.iastore, 1) := by decide +kernel
theorem dX5_prepare_94 : decode cX5_prepare 94 = .ok (.iinc 1 1, 3) := by decide +kernel
theorem dX5_prepare_97 : decode cX5_prepare 97 = .ok (.goto (-21), 3) := by decide +kernel
theorem dX5_prepare_100 : decode cX5_prepare 100 = .ok (.return_, 1) := by decide +kernel
theorem dX5_bear_0 : decode cX5_bear 0 = .ok (.iconst 0, 1) := by decide +kernel
theorem dX5_bear_1 : decode cX5_bear 1 = .ok (.istore_n 2, 1) := by decide +kernel
theorem dX5_bear_2 : decode cX5_bear 2 = .ok (.iload_n 2, 1) := by decide +kernel
theorem dX5_bear_3 : decode cX5_bear 3 = .ok (.aload_n 0, 1) := by decide +kernel
theorem dX5_bear_4 : decode cX5_bear 4 = .ok (.getfield 42, 3) := by decide +kernel
theorem dX5_bear_7 : decode cX5_bear 7 = .ok (.getfield 59, 3) := by decide +kernel
theorem dX5_bear_10 : decode cX5_bear 10 = .ok (.if_icmp .ge 44, 3) := by decide +kernel
theorem dX5_bear_13 : decode cX5_bear 13 = .ok (.aload_n 0, 1) := by decide +kernel
theorem dX5_bear_14 : decode cX5_bear 14 = .ok (.getfield 42, 3) := by decide +kernel
theorem dX5_bear_17 : decode cX5_bear 17 = .ok (.getfield 75, 3) := by decide +kernel
theorem dX5_bear_20 : decode cX5_bear 20 = .ok (.iload_n 2, 1) := by decide +kernel
theorem dX5_bear_21 : decode cX5_bear 21 = .ok (.iaload, 1) := by decide +kernel
theorem dX5_bear_22 : decode cX5_bear 22 = .ok (.iload_n 1, 1) := by decide +kernel
theorem dX5_bear_23 : decode cX5_bear 23 = .ok (.if_icmp .ne 25, 3) := by decide +kernel
theorem dX5_bear_26 : decode cX5_bear 26 = .ok (.aload_n 0, 1) := by decide +kernel
theorem dX5_bear_27 : decode cX5_bear 27 = .ok (.getfield 9, 3) := by decide +kernel
theorem dX5_bear_30 : decode cX5_bear 30 = .ok (.iload_n 2, 1) := by decide +kernel
theorem dX5_bear_31 : decode cX5_bear 31 = .ok (.iconst 1, 1) := by decide +kernel
theorem dX5_bear_32 : decode cX5_bear 32 = .ok (.iastore, 1) := by decide +kernel
theorem dX5_bear_33 : decode cX5_bear 33 = .ok (.aload_n 0, 1) := by decide +kernel
theorem dX5_bear_34 : decode cX5_bear 34 = .ok (.getfield 15, 3) := by decide +kernel
theorem dX5_bear_37 : decode cX5_bear 37 = .ok (.iload_n 2, 1) := by decide +kernel
theorem dX5_bear_38 : decode cX5_bear 38 = .ok (.aload_n 0, 1) := by decide +kernel
theorem dX5_bear_39 : decode cX5_bear 39 = .ok (.getfield 42, 3) := by decide +kernel
theorem dX5_bear_42 : decode cX5_bear 42 = .ok (.getfield 78, 3) := by decide +kernel
theorem dX5_bear_45 : decode cX5_bear 45 = .ok (.iload_n 2, 1) := by decide +kernel
theorem dX5_bear_46 : decode cX5_bear 46 = .ok (.iaload, 1) := by decide +kernel
theorem dX5_bear_47 : decode cX5_bear 47 = .ok (.iastore, 1) := by decide +kernel
theorem dX5_bear_48 : decode cX5_bear 48 = .ok (.iinc 2 1, 3) := by decide +kernel
theorem dX5_bear_51 : decode cX5_bear 51 = .ok (.goto (-49), 3) := by decide +kernel
theorem dX5_bear_54 : decode cX5_bear 54 = .ok (.return_, 1) := by decide +kernel
theorem dX5_bringHelp_0 : decode cX5_bringHelp 0 = .ok (.iconst 0, 1) := by decide +kernel
theorem dX5_bringHelp_1 : decode cX5_bringHelp 1 = .ok (.istore_n 2, 1) := by decide +kernel
theorem dX5_bringHelp_2 : decode cX5_bringHelp 2 = .ok (.iload_n 2, 1) := by decide +kernel
theorem dX5_bringHelp_3 : decode cX5_bringHelp 3 = .ok (.aload_n 0, 1) := by decide +kernel
theorem dX5_bringHelp_4 : decode cX5_bringHelp 4 = .ok (.getfield 42, 3) := by decide +kernel
theorem dX5_bringHelp_7 : decode cX5_bringHelp 7 = .ok (.getfield 81, 3) := by decide +kernel
theorem dX5_bringHelp_10 : decode cX5_bringHelp 10 = .ok (.if_icmp .ge 64, 3) := by decide +kernel
theorem dX5_bringHelp_13 : decode cX5_bringHelp 13 = .ok (.aload_n 0, 1) := by decide +kernel
theorem dX5_bringHelp_14 : decode cX5_bringHelp 14 = .ok (.getfield 42, 3) := by decide +kernel
theorem dX5_bringHelp_17 : decode cX5_bringHelp 17 = .ok (.getfield 84, 3) := by decide +kernel
theorem dX5_bringHelp_20 : decode cX5_bringHelp 20 = .ok (.iload_n 2, 1) := by decide +kernel
theorem dX5_bringHelp_21 : decode cX5_bringHelp 21 = .ok (.iaload, 1) := by decide +kernel
theorem dX5_bringHelp_22 : decode cX5_bringHelp 22 = .ok (.iload_n 1, 1) := by decide +kernel
theorem dX5_bringHelp_23 : decode cX5_bringHelp 23 = .ok (.if_icmp .ne 45, 3) := by decide +kernel
theorem dX5_bringHelp_26 : decode cX5_bringHelp 26 = .ok (.aload_n 0, 1) := by decide +kernel
theorem dX5_bringHelp_27 : decode cX5_bringHelp 27 = .ok (.aload_n 0, 1) := by decide +kernel
theorem dX5_bringHelp_28 : decode cX5_bringHelp 28 = .ok (.getfield 42, 3) := by decide +kernel
theorem dX5_bringHelp_31 : decode cX5_bringHelp 31 = .ok (.getfield 87, 3) := by decide +kernel
theorem dX5_bringHelp_34 : decode cX5_bringHelp 34 = .ok (.iload_n 2, 1) := by decide +kernel
theorem dX5_bringHelp_35 : decode cX5_bringHelp 35 = .ok (.iaload, 1) := by decide +kernel
theorem dX5_bringHelp_36 : decode cX5_bringHelp 36 = .ok (.invokevirtual 90, 3) := by decide +kernel
theorem dX5_bringHelp_39 : decode cX5_bringHelp 39 = .ok (.ifCond .eq 29, 3) := by decide +kernel
theorem dX5_bringHelp_42 : decode cX5_bringHelp 42 = .ok (.aload_n 0, 1) := by decide +kernel
theorem dX5_bringHelp_43 : decode cX5_bringHelp 43 = .ok (.getfield 15, 3) := by decide +kernel
theorem dX5_bringHelp_46 : decode cX5_bringHelp 46 = .ok (.aload_n 0, 1) := by decide +kernel
theorem dX5_bringHelp_47 : decode cX5_bringHelp 47 = .ok (.getfield 42, 3) := by decide +kernel
theorem dX5_bringHelp_50 : decode cX5_bringHelp 50 = .ok (.getfield 87, 3) := by decide +kernel
theorem dX5_bringHelp_53 : decode cX5_bringHelp 53 = .ok (.iload_n 2, 1) := by decide +kernel
theorem dX5_bringHelp_54 : decode cX5_bringHelp 54 = .ok (.iaload, 1) := by decide +kernel
theorem dX5_bringHelp_55 : decode cX5_bringHelp 55 = .ok (.dup2, 1) := by decide +kernel
theorem dX5_bringHelp_56 : decode cX5_bringHelp 56 = .ok (.iaload, 1) := by decide +kernel
theorem dX5_bringHelp_57 : decode cX5_bringHelp 57 = .ok (.aload_n 0, 1) := by decide +kernel
theorem dX5_bringHelp_58 : decode cX5_bringHelp 58 = .ok (.getfield 42, 3) := by decide +kernel
theorem dX5_bringHelp_61 : decode cX5_bringHelp 61 = .ok (.getfield 94, 3) := by decide +kernel
theorem dX5_bringHelp_64 : decode cX5_bringHelp 64 = .ok (.iload_n 2, 1) := by decide +kernel
theorem dX5_bringHelp_65 : decode cX5_bringHelp 65 = .ok (.iaload, 1) := by decide +kernel
theorem dX5_bringHelp_66 : decode cX5_bringHelp 66 = .ok (.iadd, 1) := by decide +kernel
theorem dX5_bringHelp_67 : decode cX5_bringHelp 67 = .ok (.iastore, 1) := by decide +kernel
theorem dX5_bringHelp_68 : decode cX5_bringHelp 68 = .ok (.iinc 2 1, 3) := by decide +kernel
theorem dX5_bringHelp_71 : decode cX5_bringHelp 71 = .ok (.goto (-69), 3) := by decide +kernel
theorem dX5_bringHelp_74 : decode cX5_bringHelp 74 = .ok (.return_, 1) := by decide +kernel
theorem dX5_work_0 : decode cX5_work 0 = .ok (.iconst 0, 1) := by decide +kernel
theorem dX5_work_1 : decode cX5_work 1 = .ok (.istore_n 2, 1) := by decide +kernel
theorem dX5_work_2 : decode cX5_work 2 = .ok (.iload_n 2, 1) := by decide +kernel
theorem dX5_work_3 : decode cX5_work 3 = .ok (.aload_n 0, 1) := by decide +kernel
theorem dX5_work_4 : decode cX5_work 4 = .ok (.getfield 42, 3) := by decide +kernel
theorem dX5_work_7 : decode cX5_work 7 = .ok (.getfield 59, 3) := by decide +kernel
theorem dX5_work_10 : decode cX5_work 10 = .ok (.if_icmp .ge 50, 3) := by decide +kernel
theorem dX5_work_13 : decode cX5_work 13 = .ok (.aload_n 0, 1) := by decide +kernel
theorem dX5_work_14 : decode cX5_work 14 = .ok (.getfield 9, 3) := by decide +kernel
theorem dX5_work_17 : decode cX5_work 17 = .ok (.iload_n 2, 1) := by decide +kernel
theorem dX5_work_18 : decode cX5_work 18 = .ok (.iaload, 1) := by decide +kernel
theorem dX5_work_19 : decode cX5_work 19 = .ok (.iconst 1, 1) := by decide +kernel
theorem dX5_work_20 : decode cX5_work 20 = .ok (.if_icmp .ne 34, 3) := by decide +kernel
theorem dX5_work_23 : decode cX5_work 23 = .ok (.iload_n 1, 1) := by decide +kernel
theorem dX5_work_24 : decode cX5_work 24 = .ok (.aload_n 0, 1) := by decide +kernel
theorem dX5_work_25 : decode cX5_work 25 = .ok (.getfield 42, 3) := by decide +kernel
theorem dX5_work_28 : decode cX5_work 28 = .ok (.getfield 75, 3) := by decide +kernel
theorem dX5_work_31 : decode cX5_work 31 = .ok (.iload_n 2, 1) := by decide +kernel
theorem dX5_work_32 : decode cX5_work 32 = .ok (.iaload, 1) := by decide +kernel
theorem dX5_work_33 : decode cX5_work 33 = .ok (.isub, 1) := by decide +kernel
theorem dX5_work_34 : decode cX5_work 34 = .ok (.bipush 10, 2) := by decide +kernel
theorem dX5_work_36 : decode cX5_work 36 = .ok (.if_icmp .lt 18, 3) := by decide +kernel
theorem dX5_work_39 : decode cX5_work 39 = .ok (.aload_n 0, 1) := by decide +kernel
theorem dX5_work_40 : decode cX5_work 40 = .ok (.getfield 15, 3) := by decide +kernel
theorem dX5_work_43 : decode cX5_work 43 = .ok (.iload_n 2, 1) := by decide +kernel
theorem dX5_work_44 : decode cX5_work 44 = .ok (.dup2, 1) := by decide +kernel
theorem dX5_work_45 : decode cX5_work 45 = .ok (.iaload, 1) := by decide +kernel
theorem dX5_work_46 : decode cX5_work 46 = .ok (.aload_n 0, 1) := by decide +kernel
theorem dX5_work_47 : decode cX5_work 47 = .ok (.iload_n 2, 1) := by decide +kernel
theorem dX5_work_48 : decode cX5_work 48 = .ok (.iload_n 1, 1) := by decide +kernel
theorem dX5_work_49 : decode cX5_work 49 = .ok (.invokevirtual 97, 3) := by decide +kernel
theorem dX5_work_52 : decode cX5_work 52 = .ok (.iadd, 1) := by decide +kernel
theorem dX5_work_53 : decode cX5_work 53 = .ok (.iastore, 1) := by decide +kernel
theorem dX5_work_54 : decode cX5_work 54 = .ok (.iinc 2 1, 3) := by decide +kernel
theorem dX5_work_57 : decode cX5_work 57 = .ok (.goto (-55), 3) := by decide +kernel
theorem dX5_work_60 : decode cX5_work 60 = .ok (.return_, 1) := by decide +kernel
theorem dX5_wages_0 : decode cX5_wages 0 = .ok (.aload_n 0, 1) := by decide +kernel
theorem dX5_wages_1 : decode cX5_wages 1 = .ok (.getfield 42, 3) := by decide +kernel
theorem dX5_wages_4 : decode cX5_wages 4 = .ok (.getfield 101, 3) := by decide +kernel
theorem dX5_wages_7 : decode cX5_wages 7 = .ok (.iload_n 1, 1) := by decide +kernel
theorem dX5_wages_8 : decode cX5_wages 8 = .ok (.iaload, 1) := by decide +kernel
theorem dX5_wages_9 : decode cX5_wages 9 = .ok (.istore_n 3, 1) := by decide +kernel
theorem dX5_wages_10 : decode cX5_wages 10 = .ok (.aload_n 0, 1) := by decide +kernel
theorem dX5_wages_11 : decode cX5_wages 11 = .ok (.getfield 42, 3) := by decide +kernel
theorem dX5_wages_14 : decode cX5_wages 14 = .ok (.getfield 104, 3) := by decide +kernel
theorem dX5_wages_17 : decode cX5_wages 17 = .ok (.iload_n 1, 1) := by decide +kernel
theorem dX5_wages_18 : decode cX5_wages 18 = .ok (.iaload, 1) := by decide +kernel
theorem dX5_wages_19 : decode cX5_wages 19 = .ok (.tableswitch 76 0 3 #[29, 31, 48, 52], 29) := by decide +kernel
theorem dX5_wages_48 : decode cX5_wages 48 = .ok (.iload_n 3, 1) := by decide +kernel
theorem dX5_wages_49 : decode cX5_wages 49 = .ok (.ireturn, 1) := by decide +kernel
theorem dX5_wages_50 : decode cX5_wages 50 = .ok (.aload_n 0, 1) := by decide +kernel
theorem dX5_wages_51 : decode cX5_wages 51 = .ok (.iload_n 1, 1) := by decide +kernel
theorem dX5_wages_52 : decode cX5_wages 52 = .ok (.iload_n 2, 1) := by decide +kernel
theorem dX5_wages_53 : decode cX5_wages 53 = .ok (.invokevirtual 107, 3) := by decide +kernel
theorem dX5_wages_56 : decode cX5_wages 56 = .ok (.ifCond .eq 9, 3) := by decide +kernel
theorem dX5_wages_59 : decode cX5_wages 59 = .ok (.iconst 2, 1) := by decide +kernel
theorem dX5_wages_60 : decode cX5_wages 60 = .ok (.iload_n 3, 1) := by decide +kernel
theorem dX5_wages_61 : decode cX5_wages 61 = .ok (.imul, 1) := by decide +kernel
theorem dX5_wages_62 : decode cX5_wages 62 = .ok (.goto 4, 3) := by decide +kernel
theorem dX5_wages_65 : decode cX5_wages 65 = .ok (.iconst 0, 1) := by decide +kernel
theorem dX5_wages_66 : decode cX5_wages 66 = .ok (.ireturn, 1) := by decide +kernel
theorem dX5_wages_67 : decode cX5_wages 67 = .ok (.iload_n 3, 1) := by decide +kernel
theorem dX5_wages_68 : decode cX5_wages 68 = .ok (.iconst 2, 1) := by decide +kernel
theorem dX5_wages_69 : decode cX5_wages 69 = .ok (.idiv, 1) := by decide +kernel
theorem dX5_wages_70 : decode cX5_wages 70 = .ok (.ireturn, 1) := by decide +kernel
theorem dX5_wages_71 : decode cX5_wages 71 = .ok (.iload_n 2, 1) := by decide +kernel
theorem dX5_wages_72 : decode cX5_wages 72 = .ok (.aload_n 0, 1) := by decide +kernel
theorem dX5_wages_73 : decode cX5_wages 73 = .ok (.getfield 42, 3) := by decide +kernel
theorem dX5_wages_76 : decode cX5_wages 76 = .ok (.getfield 75, 3) := by decide +kernel
theorem dX5_wages_79 : decode cX5_wages 79 = .ok (.iload_n 1, 1) := by decide +kernel
theorem dX5_wages_80 : decode cX5_wages 80 = .ok (.iaload, 1) := by decide +kernel
theorem dX5_wages_81 : decode cX5_wages 81 = .ok (.isub, 1) := by decide +kernel
theorem dX5_wages_82 : decode cX5_wages 82 = .ok (.bipush 30, 2) := by decide +kernel
theorem dX5_wages_84 : decode cX5_wages 84 = .ok (.if_icmp .lt 9, 3) := by decide +kernel
theorem dX5_wages_87 : decode cX5_wages 87 = .ok (.iconst 2, 1) := by decide +kernel
theorem dX5_wages_88 : decode cX5_wages 88 = .ok (.iload_n 3, 1) := by decide +kernel
theorem dX5_wages_89 : decode cX5_wages 89 = .ok (.imul, 1) := by decide +kernel
theorem dX5_wages_90 : decode cX5_wages 90 = .ok (.goto 4, 3) := by decide +kernel
theorem dX5_wages_93 : decode cX5_wages 93 = .ok (.iconst 0, 1) := by decide +kernel
theorem dX5_wages_94 : decode cX5_wages 94 = .ok (.ireturn, 1) := by decide +kernel
theorem dX5_wages_95 : decode cX5_wages 95 = .ok (.iconst 0, 1) := by decide +kernel
theorem dX5_wages_96 : decode cX5_wages 96 = .ok (.ireturn, 1) := by decide +kernel
theorem dX5_drawIsEven_0 : decode cX5_drawIsEven 0 = .ok (.ldc2_w 111, 3) := by decide +kernel
theorem dX5_drawIsEven_3 : decode cX5_drawIsEven 3 = .ok (.aload_n 0, 1) := by decide +kernel
theorem dX5_drawIsEven_4 : decode cX5_drawIsEven 4 = .ok (.getfield 42, 3) := by decide +kernel
theorem dX5_drawIsEven_7 : decode cX5_drawIsEven 7 = .ok (.getfield 113, 3) := by decide +kernel
theorem dX5_drawIsEven_10 : decode cX5_drawIsEven 10 = .ok (.i2l, 1) := by decide +kernel
theorem dX5_drawIsEven_11 : decode cX5_drawIsEven 11 = .ok (.lmul, 1) := by decide +kernel
theorem dX5_drawIsEven_12 : decode cX5_drawIsEven 12 = .ok (.ldc2_w 116, 3) := by decide +kernel
theorem dX5_drawIsEven_15 : decode cX5_drawIsEven 15 = .ok (.iload_n 2, 1) := by decide +kernel
theorem dX5_drawIsEven_16 : decode cX5_drawIsEven 16 = .ok (.i2l, 1) := by decide +kernel
theorem dX5_drawIsEven_17 : decode cX5_drawIsEven 17 = .ok (.lmul, 1) := by decide +kernel
theorem dX5_drawIsEven_18 : decode cX5_drawIsEven 18 = .ok (.ladd, 1) := by decide +kernel
theorem dX5_drawIsEven_19 : decode cX5_drawIsEven 19 = .ok (.ldc2_w 118, 3) := by decide +kernel
theorem dX5_drawIsEven_22 : decode cX5_drawIsEven 22 = .ok (.iload_n 1, 1) := by decide +kernel
theorem dX5_drawIsEven_23 : decode cX5_drawIsEven 23 = .ok (.i2l, 1) := by decide +kernel
theorem dX5_drawIsEven_24 : decode cX5_drawIsEven 24 = .ok (.lmul, 1) := by decide +kernel
theorem dX5_drawIsEven_25 : decode cX5_drawIsEven 25 = .ok (.ladd, 1) := by decide +kernel
theorem dX5_drawIsEven_26 : decode cX5_drawIsEven 26 = .ok (.lconst 1, 1) := by decide +kernel
theorem dX5_drawIsEven_27 : decode cX5_drawIsEven 27 = .ok (.ladd, 1) := by decide +kernel
theorem dX5_drawIsEven_28 : decode cX5_drawIsEven 28 = .ok (.lstore_n 3, 1) := by decide +kernel
theorem dX5_drawIsEven_29 : decode cX5_drawIsEven 29 = .ok (.lload_n 3, 1) := by decide +kernel
theorem dX5_drawIsEven_30 : decode cX5_drawIsEven 30 = .ok (.lload_n 3, 1) := by decide +kernel
theorem dX5_drawIsEven_31 : decode cX5_drawIsEven 31 = .ok (.lmul, 1) := by decide +kernel
theorem dX5_drawIsEven_32 : decode cX5_drawIsEven 32 = .ok (.ldc2_w 120, 3) := by decide +kernel
theorem dX5_drawIsEven_35 : decode cX5_drawIsEven 35 = .ok (.lrem, 1) := by decide +kernel
theorem dX5_drawIsEven_36 : decode cX5_drawIsEven 36 = .ok (.ldc2_w 122, 3) := by decide +kernel
theorem dX5_drawIsEven_39 : decode cX5_drawIsEven 39 = .ok (.ldiv, 1) := by decide +kernel
theorem dX5_drawIsEven_40 : decode cX5_drawIsEven 40 = .ok (.ldc2_w 124, 3) := by decide +kernel
theorem dX5_drawIsEven_43 : decode cX5_drawIsEven 43 = .ok (.lrem, 1) := by decide +kernel
theorem dX5_drawIsEven_44 : decode cX5_drawIsEven 44 = .ok (.lconst 0, 1) := by decide +kernel
theorem dX5_drawIsEven_45 : decode cX5_drawIsEven 45 = .ok (.lcmp, 1) := by decide +kernel
theorem dX5_drawIsEven_46 : decode cX5_drawIsEven 46 = .ok (.ifCond .ne 7, 3) := by decide +kernel
theorem dX5_drawIsEven_49 : decode cX5_drawIsEven 49 = .ok (.iconst 1, 1) := by decide +kernel
theorem dX5_drawIsEven_50 : decode cX5_drawIsEven 50 = .ok (.goto 4, 3) := by decide +kernel
theorem dX5_drawIsEven_53 : decode cX5_drawIsEven 53 = .ok (.iconst 0, 1) := by decide +kernel
theorem dX5_drawIsEven_54 : decode cX5_drawIsEven 54 = .ok (.ireturn, 1) := by decide +kernel
theorem dX5_takeTurn_0 : decode cX5_takeTurn 0 = .ok (.aload_n 0, 1) := by decide +kernel
theorem dX5_takeTurn_1 : decode cX5_takeTurn 1 = .ok (.getfield 9, 3) := by decide +kernel
theorem dX5_takeTurn_4 : decode cX5_takeTurn 4 = .ok (.iload_n 1, 1) := by decide +kernel
theorem dX5_takeTurn_5 : decode cX5_takeTurn 5 = .ok (.iaload, 1) := by decide +kernel
theorem dX5_takeTurn_6 : decode cX5_takeTurn 6 = .ok (.iconst 1, 1) := by decide +kernel
theorem dX5_takeTurn_7 : decode cX5_takeTurn 7 = .ok (.if_icmp .eq 4, 3) := by decide +kernel
theorem dX5_takeTurn_10 : decode cX5_takeTurn 10 = .ok (.return_, 1) := by decide +kernel
theorem dX5_takeTurn_11 : decode cX5_takeTurn 11 = .ok (.aload_n 0, 1) := by decide +kernel
theorem dX5_takeTurn_12 : decode cX5_takeTurn 12 = .ok (.getfield 21, 3) := by decide +kernel
theorem dX5_takeTurn_15 : decode cX5_takeTurn 15 = .ok (.iload_n 1, 1) := by decide +kernel
theorem dX5_takeTurn_16 : decode cX5_takeTurn 16 = .ok (.aload_n 0, 1) := by decide +kernel
theorem dX5_takeTurn_17 : decode cX5_takeTurn 17 = .ok (.getfield 15, 3) := by decide +kernel
theorem dX5_takeTurn_20 : decode cX5_takeTurn 20 = .ok (.iload_n 1, 1) := by decide +kernel
theorem dX5_takeTurn_21 : decode cX5_takeTurn 21 = .ok (.iaload, 1) := by decide +kernel
theorem dX5_takeTurn_22 : decode cX5_takeTurn 22 = .ok (.iastore, 1) := by decide +kernel
theorem dX5_takeTurn_23 : decode cX5_takeTurn 23 = .ok (.iload_n 2, 1) := by decide +kernel
theorem dX5_takeTurn_24 : decode cX5_takeTurn 24 = .ok (.aload_n 0, 1) := by decide +kernel
theorem dX5_takeTurn_25 : decode cX5_takeTurn 25 = .ok (.getfield 42, 3) := by decide +kernel
theorem dX5_takeTurn_28 : decode cX5_takeTurn 28 = .ok (.getfield 75, 3) := by decide +kernel
theorem dX5_takeTurn_31 : decode cX5_takeTurn 31 = .ok (.iload_n 1, 1) := by decide +kernel
theorem dX5_takeTurn_32 : decode cX5_takeTurn 32 = .ok (.iaload, 1) := by decide +kernel
theorem dX5_takeTurn_33 : decode cX5_takeTurn 33 = .ok (.isub, 1) := by decide +kernel
theorem dX5_takeTurn_34 : decode cX5_takeTurn 34 = .ok (.istore_n 3, 1) := by decide +kernel
theorem dX5_takeTurn_35 : decode cX5_takeTurn 35 = .ok (.aload_n 0, 1) := by decide +kernel
theorem dX5_takeTurn_36 : decode cX5_takeTurn 36 = .ok (.getfield 18, 3) := by decide +kernel
theorem dX5_takeTurn_39 : decode cX5_takeTurn 39 = .ok (.iload_n 1, 1) := by decide +kernel
theorem dX5_takeTurn_40 : decode cX5_takeTurn 40 = .ok (.iaload, 1) := by decide +kernel
theorem dX5_takeTurn_41 : decode cX5_takeTurn 41 = .ok (.ifCond .le 22, 3) := by decide +kernel
theorem dX5_takeTurn_44 : decode cX5_takeTurn 44 = .ok (.aload_n 0, 1) := by decide +kernel
theorem dX5_takeTurn_45 : decode cX5_takeTurn 45 = .ok (.getfield 15, 3) := by decide +kernel
theorem dX5_takeTurn_48 : decode cX5_takeTurn 48 = .ok (.iload_n 1, 1) := by decide +kernel
theorem dX5_takeTurn_49 : decode cX5_takeTurn 49 = .ok (.iaload, 1) := by decide +kernel
theorem dX5_takeTurn_50 : decode cX5_takeTurn 50 = .ok (.aload_n 0, 1) := by decide +kernel
theorem dX5_takeTurn_51 : decode cX5_takeTurn 51 = .ok (.getfield 18, 3) := by decide +kernel
theorem dX5_takeTurn_54 : decode cX5_takeTurn 54 = .ok (.iload_n 1, 1) := by decide +kernel
theorem dX5_takeTurn_55 : decode cX5_takeTurn 55 = .ok (.iaload, 1) := by decide +kernel
theorem dX5_takeTurn_56 : decode cX5_takeTurn 56 = .ok (.if_icmp .lt 7, 3) := by decide +kernel
theorem dX5_takeTurn_59 : decode cX5_takeTurn 59 = .ok (.iconst 1, 1) := by decide +kernel
theorem dX5_takeTurn_60 : decode cX5_takeTurn 60 = .ok (.goto 4, 3) := by decide +kernel
theorem dX5_takeTurn_63 : decode cX5_takeTurn 63 = .ok (.iconst 0, 1) := by decide +kernel
theorem dX5_takeTurn_64 : decode cX5_takeTurn 64 = .ok (.istore 4, 2) := by decide +kernel
theorem dX5_takeTurn_66 : decode cX5_takeTurn 66 = .ok (.iload_n 3, 1) := by decide +kernel
theorem dX5_takeTurn_67 : decode cX5_takeTurn 67 = .ok (.bipush 18, 2) := by decide +kernel
theorem dX5_takeTurn_69 : decode cX5_takeTurn 69 = .ok (.if_icmp .lt 29, 3) := by decide +kernel
theorem dX5_takeTurn_72 : decode cX5_takeTurn 72 = .ok (.iload 4, 2) := by decide +kernel
theorem dX5_takeTurn_74 : decode cX5_takeTurn 74 = .ok (.ifCond .eq 24, 3) := by decide +kernel
theorem dX5_takeTurn_77 : decode cX5_takeTurn 77 = .ok (.aload_n 0, 1) := by decide +kernel
theorem dX5_takeTurn_78 : decode cX5_takeTurn 78 = .ok (.dup, 1) := by decide +kernel
theorem dX5_takeTurn_79 : decode cX5_takeTurn 79 = .ok (.getfield 38, 3) := by decide +kernel
theorem dX5_takeTurn_82 : decode cX5_takeTurn 82 = .ok (.iconst 1, 1) := by decide +kernel
theorem dX5_takeTurn_83 : decode cX5_takeTurn 83 = .ok (.iload_n 1, 1) := by decide +kernel
theorem dX5_takeTurn_84 : decode cX5_takeTurn 84 = .ok (.ishl, 1) := by decide +kernel
theorem dX5_takeTurn_85 : decode cX5_takeTurn 85 = .ok (.ior, 1) := by decide +kernel
theorem dX5_takeTurn_86 : decode cX5_takeTurn 86 = .ok (.putfield 38, 3) := by decide +kernel
theorem dX5_takeTurn_89 : decode cX5_takeTurn 89 = .ok (.aload_n 0, 1) := by decide +kernel
theorem dX5_takeTurn_90 : decode cX5_takeTurn 90 = .ok (.iload_n 1, 1) := by decide +kernel
theorem dX5_takeTurn_91 : decode cX5_takeTurn 91 = .ok (.iload_n 2, 1) := by decide +kernel
theorem dX5_takeTurn_92 : decode cX5_takeTurn 92 = .ok (.invokevirtual 126, 3) := by decide +kernel
theorem dX5_takeTurn_95 : decode cX5_takeTurn 95 = .ok (.goto 22, 3) := by decide +kernel
theorem dX5_takeTurn_98 : decode cX5_takeTurn 98 = .ok (.iload_n 3, 1) := by decide +kernel
theorem dX5_takeTurn_99 : decode cX5_takeTurn 99 = .ok (.aload_n 0, 1) := by decide +kernel
theorem dX5_takeTurn_100 : decode cX5_takeTurn 100 = .ok (.getfield 42, 3) := by decide +kernel
theorem dX5_takeTurn_103 : decode cX5_takeTurn 103 = .ok (.getfield 129, 3) := by decide +kernel
theorem dX5_takeTurn_106 : decode cX5_takeTurn 106 = .ok (.iload_n 1, 1) := by decide +kernel
theorem dX5_takeTurn_107 : decode cX5_takeTurn 107 = .ok (.iaload, 1) := by decide +kernel
theorem dX5_takeTurn_108 : decode cX5_takeTurn 108 = .ok (.if_icmp .lt 9, 3) := by decide +kernel
theorem dX5_takeTurn_111 : decode cX5_takeTurn 111 = .ok (.aload_n 0, 1) := by decide +kernel
theorem dX5_takeTurn_112 : decode cX5_takeTurn 112 = .ok (.iload_n 1, 1) := by decide +kernel
theorem dX5_takeTurn_113 : decode cX5_takeTurn 113 = .ok (.iload_n 2, 1) := by decide +kernel
theorem dX5_takeTurn_114 : decode cX5_takeTurn 114 = .ok (.invokevirtual 126, 3) := by decide +kernel
theorem dX5_takeTurn_117 : decode cX5_takeTurn 117 = .ok (.return_, 1) := by decide +kernel
theorem dX5_die_0 : decode cX5_die 0 = .ok (.aload_n 0, 1) := by decide +kernel
theorem dX5_die_1 : decode cX5_die 1 = .ok (.getfield 9, 3) := by decide +kernel
theorem dX5_die_4 : decode cX5_die 4 = .ok (.iload_n 1, 1) := by decide +kernel
theorem dX5_die_5 : decode cX5_die 5 = .ok (.iconst 2, 1) := by decide +kernel
theorem dX5_die_6 : decode cX5_die 6 = .ok (.iastore, 1) := by decide +kernel
theorem dX5_die_7 : decode cX5_die 7 = .ok (.aload_n 0, 1) := by decide +kernel
theorem dX5_die_8 : decode cX5_die 8 = .ok (.getfield 24, 3) := by decide +kernel
theorem dX5_die_11 : decode cX5_die 11 = .ok (.iload_n 1, 1) := by decide +kernel
theorem dX5_die_12 : decode cX5_die 12 = .ok (.iload_n 2, 1) := by decide +kernel
theorem dX5_die_13 : decode cX5_die 13 = .ok (.iastore, 1) := by decide +kernel
theorem dX5_die_14 : decode cX5_die 14 = .ok (.iconst 0, 1) := by decide +kernel
theorem dX5_die_15 : decode cX5_die 15 = .ok (.istore_n 3, 1) := by decide +kernel
theorem dX5_die_16 : decode cX5_die 16 = .ok (.iload_n 3, 1) := by decide +kernel
theorem dX5_die_17 : decode cX5_die 17 = .ok (.aload_n 0, 1) := by decide +kernel
theorem dX5_die_18 : decode cX5_die 18 = .ok (.getfield 42, 3) := by decide +kernel
theorem dX5_die_21 : decode cX5_die 21 = .ok (.getfield 72, 3) := by decide +kernel
theorem dX5_die_24 : decode cX5_die 24 = .ok (.if_icmp .ge 28, 3) := by decide +kernel
theorem dX5_die_27 : decode cX5_die 27 = .ok (.aload_n 0, 1) := by decide +kernel
theorem dX5_die_28 : decode cX5_die 28 = .ok (.getfield 42, 3) := by decide +kernel
theorem dX5_die_31 : decode cX5_die 31 = .ok (.getfield 132, 3) := by decide +kernel
theorem dX5_die_34 : decode cX5_die 34 = .ok (.iload_n 3, 1) := by decide +kernel
theorem dX5_die_35 : decode cX5_die 35 = .ok (.iaload, 1) := by decide +kernel
theorem dX5_die_36 : decode cX5_die 36 = .ok (.iload_n 1, 1) := by decide +kernel
theorem dX5_die_37 : decode cX5_die 37 = .ok (.if_icmp .ne 9, 3) := by decide +kernel
theorem dX5_die_40 : decode cX5_die 40 = .ok (.aload_n 0, 1) := by decide +kernel
theorem dX5_die_41 : decode cX5_die 41 = .ok (.iload_n 1, 1) := by decide +kernel
theorem dX5_die_42 : decode cX5_die 42 = .ok (.iload_n 3, 1) := by decide +kernel
theorem dX5_die_43 : decode cX5_die 43 = .ok (.invokevirtual 135, 3) := by decide +kernel
theorem dX5_die_46 : decode cX5_die 46 = .ok (.iinc 3 1, 3) := by decide +kernel
theorem dX5_die_49 : decode cX5_die 49 = .ok (.goto (-33), 3) := by decide +kernel
theorem dX5_die_52 : decode cX5_die 52 = .ok (.aload_n 0, 1) := by decide +kernel
theorem dX5_die_53 : decode cX5_die 53 = .ok (.getfield 15, 3) := by decide +kernel
theorem dX5_die_56 : decode cX5_die 56 = .ok (.iload_n 1, 1) := by decide +kernel
theorem dX5_die_57 : decode cX5_die 57 = .ok (.iconst 0, 1) := by decide +kernel
theorem dX5_die_58 : decode cX5_die 58 = .ok (.iastore, 1) := by decide +kernel
theorem dX5_die_59 : decode cX5_die 59 = .ok (.return_, 1) := by decide +kernel
theorem dX5_pay_0 : decode cX5_pay 0 = .ok (.aload_n 0, 1) := by decide +kernel
theorem dX5_pay_1 : decode cX5_pay 1 = .ok (.getfield 15, 3) := by decide +kernel
theorem dX5_pay_4 : decode cX5_pay 4 = .ok (.iload_n 1, 1) := by decide +kernel
theorem dX5_pay_5 : decode cX5_pay 5 = .ok (.iaload, 1) := by decide +kernel
theorem dX5_pay_6 : decode cX5_pay 6 = .ok (.aload_n 0, 1) := by decide +kernel
theorem dX5_pay_7 : decode cX5_pay 7 = .ok (.getfield 42, 3) := by decide +kernel
theorem dX5_pay_10 : decode cX5_pay 10 = .ok (.getfield 138, 3) := by decide +kernel
theorem dX5_pay_13 : decode cX5_pay 13 = .ok (.iload_n 2, 1) := by decide +kernel
theorem dX5_pay_14 : decode cX5_pay 14 = .ok (.iaload, 1) := by decide +kernel
theorem dX5_pay_15 : decode cX5_pay 15 = .ok (.invokestatic 141, 3) := by decide +kernel
theorem dX5_pay_18 : decode cX5_pay 18 = .ok (.istore_n 3, 1) := by decide +kernel
theorem dX5_pay_19 : decode cX5_pay 19 = .ok (.aload_n 0, 1) := by decide +kernel
theorem dX5_pay_20 : decode cX5_pay 20 = .ok (.getfield 42, 3) := by decide +kernel
theorem dX5_pay_23 : decode cX5_pay 23 = .ok (.getfield 146, 3) := by decide +kernel
theorem dX5_pay_26 : decode cX5_pay 26 = .ok (.iload_n 2, 1) := by decide +kernel
theorem dX5_pay_27 : decode cX5_pay 27 = .ok (.iaload, 1) := by decide +kernel
theorem dX5_pay_28 : decode cX5_pay 28 = .ok (.istore 4, 2) := by decide +kernel
theorem dX5_pay_30 : decode cX5_pay 30 = .ok (.aload_n 0, 1) := by decide +kernel
theorem dX5_pay_31 : decode cX5_pay 31 = .ok (.getfield 15, 3) := by decide +kernel
theorem dX5_pay_34 : decode cX5_pay 34 = .ok (.iload_n 1, 1) := by decide +kernel
theorem dX5_pay_35 : decode cX5_pay 35 = .ok (.dup2, 1) := by decide +kernel
theorem dX5_pay_36 : decode cX5_pay 36 = .ok (.iaload, 1) := by decide +kernel
theorem dX5_pay_37 : decode cX5_pay 37 = .ok (.iload_n 3, 1) := by decide +kernel
theorem dX5_pay_38 : decode cX5_pay 38 = .ok (.isub, 1) := by decide +kernel
theorem dX5_pay_39 : decode cX5_pay 39 = .ok (.iastore, 1) := by decide +kernel
theorem dX5_pay_40 : decode cX5_pay 40 = .ok (.aload_n 0, 1) := by decide +kernel
theorem dX5_pay_41 : decode cX5_pay 41 = .ok (.iload 4, 2) := by decide +kernel
theorem dX5_pay_43 : decode cX5_pay 43 = .ok (.invokevirtual 90, 3) := by decide +kernel
theorem dX5_pay_46 : decode cX5_pay 46 = .ok (.ifCond .eq 32, 3) := by decide +kernel
theorem dX5_pay_49 : decode cX5_pay 49 = .ok (.aload_n 0, 1) := by decide +kernel
theorem dX5_pay_50 : decode cX5_pay 50 = .ok (.getfield 15, 3) := by decide +kernel
theorem dX5_pay_53 : decode cX5_pay 53 = .ok (.iload 4, 2) := by decide +kernel
theorem dX5_pay_55 : decode cX5_pay 55 = .ok (.dup2, 1) := by decide +kernel
theorem dX5_pay_56 : decode cX5_pay 56 = .ok (.iaload, 1) := by decide +kernel
theorem dX5_pay_57 : decode cX5_pay 57 = .ok (.iload_n 3, 1) := by decide +kernel
theorem dX5_pay_58 : decode cX5_pay 58 = .ok (.iadd, 1) := by decide +kernel
theorem dX5_pay_59 : decode cX5_pay 59 = .ok (.iastore, 1) := by decide +kernel
theorem dX5_pay_60 : decode cX5_pay 60 = .ok (.aload_n 0, 1) := by decide +kernel
theorem dX5_pay_61 : decode cX5_pay 61 = .ok (.getfield 27, 3) := by decide +kernel
theorem dX5_pay_64 : decode cX5_pay 64 = .ok (.iload 4, 2) := by decide +kernel
theorem dX5_pay_66 : decode cX5_pay 66 = .ok (.dup2, 1) := by decide +kernel
theorem dX5_pay_67 : decode cX5_pay 67 = .ok (.iaload, 1) := by decide +kernel
theorem dX5_pay_68 : decode cX5_pay 68 = .ok (.iload_n 3, 1) := by decide +kernel
theorem dX5_pay_69 : decode cX5_pay 69 = .ok (.iadd, 1) := by decide +kernel
theorem dX5_pay_70 : decode cX5_pay 70 = .ok (.iastore, 1) := by decide +kernel
theorem dX5_pay_71 : decode cX5_pay 71 = .ok (.aload_n 0, 1) := by decide +kernel
theorem dX5_pay_72 : decode cX5_pay 72 = .ok (.getfield 30, 3) := by decide +kernel
theorem dX5_pay_75 : decode cX5_pay 75 = .ok (.iload_n 2, 1) := by decide +kernel
theorem dX5_pay_76 : decode cX5_pay 76 = .ok (.iload_n 3, 1) := by decide +kernel
theorem dX5_pay_77 : decode cX5_pay 77 = .ok (.iastore, 1) := by decide +kernel
theorem dX5_pay_78 : decode cX5_pay 78 = .ok (.return_, 1) := by decide +kernel
theorem dX5_isLiving_0 : decode cX5_isLiving 0 = .ok (.iload_n 1, 1) := by decide +kernel
theorem dX5_isLiving_1 : decode cX5_isLiving 1 = .ok (.ifCond .lt 28, 3) := by decide +kernel
theorem dX5_isLiving_4 : decode cX5_isLiving 4 = .ok (.iload_n 1, 1) := by decide +kernel
theorem dX5_isLiving_5 : decode cX5_isLiving 5 = .ok (.aload_n 0, 1) := by decide +kernel
theorem dX5_isLiving_6 : decode cX5_isLiving 6 = .ok (.getfield 42, 3) := by decide +kernel
theorem dX5_isLiving_9 : decode cX5_isLiving 9 = .ok (.getfield 59, 3) := by decide +kernel
theorem dX5_isLiving_12 : decode cX5_isLiving 12 = .ok (.if_icmp .ge 17, 3) := by decide +kernel
theorem dX5_isLiving_15 : decode cX5_isLiving 15 = .ok (.aload_n 0, 1) := by decide +kernel
theorem dX5_isLiving_16 : decode cX5_isLiving 16 = .ok (.getfield 9, 3) := by decide +kernel
theorem dX5_isLiving_19 : decode cX5_isLiving 19 = .ok (.iload_n 1, 1) := by decide +kernel
theorem dX5_isLiving_20 : decode cX5_isLiving 20 = .ok (.iaload, 1) := by decide +kernel
theorem dX5_isLiving_21 : decode cX5_isLiving 21 = .ok (.iconst 1, 1) := by decide +kernel
theorem dX5_isLiving_22 : decode cX5_isLiving 22 = .ok (.if_icmp .ne 7, 3) := by decide +kernel
theorem dX5_isLiving_25 : decode cX5_isLiving 25 = .ok (.iconst 1, 1) := by decide +kernel
theorem dX5_isLiving_26 : decode cX5_isLiving 26 = .ok (.goto 4, 3) := by decide +kernel
theorem dX5_isLiving_29 : decode cX5_isLiving 29 = .ok (.iconst 0, 1) := by decide +kernel
theorem dX5_isLiving_30 : decode cX5_isLiving 30 = .ok (.ireturn, 1) := by decide +kernel
theorem dX5_diedHaving_0 : decode cX5_diedHaving 0 = .ok (.aload_n 0, 1) := by decide +kernel
theorem dX5_diedHaving_1 : decode cX5_diedHaving 1 = .ok (.getfield 38, 3) := by decide +kernel
theorem dX5_diedHaving_4 : decode cX5_diedHaving 4 = .ok (.iconst 1, 1) := by decide +kernel
theorem dX5_diedHaving_5 : decode cX5_diedHaving 5 = .ok (.iload_n 1, 1) := by decide +kernel
theorem dX5_diedHaving_6 : decode cX5_diedHaving 6 = .ok (.ishl, 1) := by decide +kernel
theorem dX5_diedHaving_7 : decode cX5_diedHaving 7 = .ok (.iand, 1) := by decide +kernel
theorem dX5_diedHaving_8 : decode cX5_diedHaving 8 = .ok (.ifCond .eq 7, 3) := by decide +kernel
theorem dX5_diedHaving_11 : decode cX5_diedHaving 11 = .ok (.iconst 1, 1) := by decide +kernel
theorem dX5_diedHaving_12 : decode cX5_diedHaving 12 = .ok (.goto 4, 3) := by decide +kernel
theorem dX5_diedHaving_15 : decode cX5_diedHaving 15 = .ok (.iconst 0, 1) := by decide +kernel
theorem dX5_diedHaving_16 : decode cX5_diedHaving 16 = .ok (.ireturn, 1) := by decide +kernel
theorem dX5_firstWithout_0 : decode cX5_firstWithout 0 = .ok (.bipush (-4), 2) := by decide +kernel
theorem dX5_firstWithout_2 : decode cX5_firstWithout 2 = .ok (.istore_n 1, 1) := by decide +kernel
theorem dX5_firstWithout_3 : decode cX5_firstWithout 3 = .ok (.sipush 151, 3) := by decide +kernel
theorem dX5_firstWithout_6 : decode cX5_firstWithout 6 = .ok (.istore_n 2, 1) := by decide +kernel
theorem dX5_firstWithout_7 : decode cX5_firstWithout 7 = .ok (.iconst 0, 1) := by decide +kernel
theorem dX5_firstWithout_8 : decode cX5_firstWithout 8 = .ok (.istore_n 3, 1) := by decide +kernel
theorem dX5_firstWithout_9 : decode cX5_firstWithout 9 = .ok (.iload_n 3, 1) := by decide +kernel
theorem dX5_firstWithout_10 : decode cX5_firstWithout 10 = .ok (.aload_n 0, 1) := by decide +kernel
theorem dX5_firstWithout_11 : decode cX5_firstWithout 11 = .ok (.getfield 42, 3) := by decide +kernel
theorem dX5_firstWithout_14 : decode cX5_firstWithout 14 = .ok (.getfield 59, 3) := by decide +kernel
theorem dX5_firstWithout_17 : decode cX5_firstWithout 17 = .ok (.if_icmp .ge 47, 3) := by decide +kernel
theorem dX5_firstWithout_20 : decode cX5_firstWithout 20 = .ok (.aload_n 0, 1) := by decide +kernel
theorem dX5_firstWithout_21 : decode cX5_firstWithout 21 = .ok (.getfield 24, 3) := by decide +kernel
theorem dX5_firstWithout_24 : decode cX5_firstWithout 24 = .ok (.iload_n 3, 1) := by decide +kernel
theorem dX5_firstWithout_25 : decode cX5_firstWithout 25 = .ok (.iaload, 1) := by decide +kernel
theorem dX5_firstWithout_26 : decode cX5_firstWithout 26 = .ok (.bipush (-4), 2) := by decide +kernel
theorem dX5_firstWithout_28 : decode cX5_firstWithout 28 = .ok (.if_icmp .eq 30, 3) := by decide +kernel
theorem dX5_firstWithout_31 : decode cX5_firstWithout 31 = .ok (.aload_n 0, 1) := by decide +kernel
theorem dX5_firstWithout_32 : decode cX5_firstWithout 32 = .ok (.iload_n 3, 1) := by decide +kernel
theorem dX5_firstWithout_33 : decode cX5_firstWithout 33 = .ok (.invokevirtual 149, 3) := by decide +kernel
theorem dX5_firstWithout_36 : decode cX5_firstWithout 36 = .ok (.ifCond .ne 22, 3) := by decide +kernel
theorem dX5_firstWithout_39 : decode cX5_firstWithout 39 = .ok (.aload_n 0, 1) := by decide +kernel
theorem dX5_firstWithout_40 : decode cX5_firstWithout 40 = .ok (.getfield 24, 3) := by decide +kernel
theorem dX5_firstWithout_43 : decode cX5_firstWithout 43 = .ok (.iload_n 3, 1) := by decide +kernel
theorem dX5_firstWithout_44 : decode cX5_firstWithout 44 = .ok (.iaload, 1) := by decide +kernel
theorem dX5_firstWithout_45 : decode cX5_firstWithout 45 = .ok (.iload_n 2, 1) := by decide +kernel
theorem dX5_firstWithout_46 : decode cX5_firstWithout 46 = .ok (.if_icmp .ge 12, 3) := by decide +kernel
theorem dX5_firstWithout_49 : decode cX5_firstWithout 49 = .ok (.iload_n 3, 1) := by decide +kernel
theorem dX5_firstWithout_50 : decode cX5_firstWithout 50 = .ok (.istore_n 1, 1) := by decide +kernel
theorem dX5_firstWithout_51 : decode cX5_firstWithout 51 = .ok (.aload_n 0, 1) := by decide +kernel
theorem dX5_firstWithout_52 : decode cX5_firstWithout 52 = .ok (.getfield 24, 3) := by decide +kernel
theorem dX5_firstWithout_55 : decode cX5_firstWithout 55 = .ok (.iload_n 3, 1) := by decide +kernel
theorem dX5_firstWithout_56 : decode cX5_firstWithout 56 = .ok (.iaload, 1) := by decide +kernel
theorem dX5_firstWithout_57 : decode cX5_firstWithout 57 = .ok (.istore_n 2, 1) := by decide +kernel
theorem dX5_firstWithout_58 : decode cX5_firstWithout 58 = .ok (.iinc 3 1, 3) := by decide +kernel
theorem dX5_firstWithout_61 : decode cX5_firstWithout 61 = .ok (.goto (-52), 3) := by decide +kernel
theorem dX5_firstWithout_64 : decode cX5_firstWithout 64 = .ok (.iload_n 1, 1) := by decide +kernel
theorem dX5_firstWithout_65 : decode cX5_firstWithout 65 = .ok (.ireturn, 1) := by decide +kernel
theorem dX5_oldest_0 : decode cX5_oldest 0 = .ok (.iconst 0, 1) := by decide +kernel
theorem dX5_oldest_1 : decode cX5_oldest 1 = .ok (.istore_n 1, 1) := by decide +kernel
theorem dX5_oldest_2 : decode cX5_oldest 2 = .ok (.iconst 1, 1) := by decide +kernel
theorem dX5_oldest_3 : decode cX5_oldest 3 = .ok (.istore_n 2, 1) := by decide +kernel
theorem dX5_oldest_4 : decode cX5_oldest 4 = .ok (.iload_n 2, 1) := by decide +kernel
theorem dX5_oldest_5 : decode cX5_oldest 5 = .ok (.aload_n 0, 1) := by decide +kernel
theorem dX5_oldest_6 : decode cX5_oldest 6 = .ok (.getfield 42, 3) := by decide +kernel
theorem dX5_oldest_9 : decode cX5_oldest 9 = .ok (.getfield 59, 3) := by decide +kernel
theorem dX5_oldest_12 : decode cX5_oldest 12 = .ok (.if_icmp .ge 24, 3) := by decide +kernel
theorem dX5_oldest_15 : decode cX5_oldest 15 = .ok (.aload_n 0, 1) := by decide +kernel
theorem dX5_oldest_16 : decode cX5_oldest 16 = .ok (.iload_n 2, 1) := by decide +kernel
theorem dX5_oldest_17 : decode cX5_oldest 17 = .ok (.invokevirtual 152, 3) := by decide +kernel
theorem dX5_oldest_20 : decode cX5_oldest 20 = .ok (.aload_n 0, 1) := by decide +kernel
theorem dX5_oldest_21 : decode cX5_oldest 21 = .ok (.iload_n 1, 1) := by decide +kernel
theorem dX5_oldest_22 : decode cX5_oldest 22 = .ok (.invokevirtual 152, 3) := by decide +kernel
theorem dX5_oldest_25 : decode cX5_oldest 25 = .ok (.if_icmp .le 5, 3) := by decide +kernel
theorem dX5_oldest_28 : decode cX5_oldest 28 = .ok (.iload_n 2, 1) := by decide +kernel
theorem dX5_oldest_29 : decode cX5_oldest 29 = .ok (.istore_n 1, 1) := by decide +kernel
theorem dX5_oldest_30 : decode cX5_oldest 30 = .ok (.iinc 2 1, 3) := by decide +kernel
theorem dX5_oldest_33 : decode cX5_oldest 33 = .ok (.goto (-29), 3) := by decide +kernel
theorem dX5_oldest_36 : decode cX5_oldest 36 = .ok (.iload_n 1, 1) := by decide +kernel
theorem dX5_oldest_37 : decode cX5_oldest 37 = .ok (.ireturn, 1) := by decide +kernel
theorem dX5_ageReached_0 : decode cX5_ageReached 0 = .ok (.aload_n 0, 1) := by decide +kernel
theorem dX5_ageReached_1 : decode cX5_ageReached 1 = .ok (.getfield 42, 3) := by decide +kernel
theorem dX5_ageReached_4 : decode cX5_ageReached 4 = .ok (.iload_n 1, 1) := by decide +kernel
theorem dX5_ageReached_5 : decode cX5_ageReached 5 = .ok (.invokevirtual 155, 3) := by decide +kernel
theorem dX5_ageReached_8 : decode cX5_ageReached 8 = .ok (.ifCond .ne 5, 3) := by decide +kernel
theorem dX5_ageReached_11 : decode cX5_ageReached 11 = .ok (.iconst 0, 1) := by decide +kernel
theorem dX5_ageReached_12 : decode cX5_ageReached 12 = .ok (.ireturn, 1) := by decide +kernel
theorem dX5_ageReached_13 : decode cX5_ageReached 13 = .ok (.aload_n 0, 1) := by decide +kernel
theorem dX5_ageReached_14 : decode cX5_ageReached 14 = .ok (.getfield 24, 3) := by decide +kernel
theorem dX5_ageReached_17 : decode cX5_ageReached 17 = .ok (.iload_n 1, 1) := by decide +kernel
theorem dX5_ageReached_18 : decode cX5_ageReached 18 = .ok (.iaload, 1) := by decide +kernel
theorem dX5_ageReached_19 : decode cX5_ageReached 19 = .ok (.bipush (-4), 2) := by decide +kernel
theorem dX5_ageReached_21 : decode cX5_ageReached 21 = .ok (.if_icmp .ne 9, 3) := by decide +kernel
theorem dX5_ageReached_24 : decode cX5_ageReached 24 = .ok (.sipush 150, 3) := by decide +kernel
theorem dX5_ageReached_27 : decode cX5_ageReached 27 = .ok (.goto 9, 3) := by decide +kernel
theorem dX5_ageReached_30 : decode cX5_ageReached 30 = .ok (.aload_n 0, 1) := by decide +kernel
theorem dX5_ageReached_31 : decode cX5_ageReached 31 = .ok (.getfield 24, 3) := by decide +kernel
theorem dX5_ageReached_34 : decode cX5_ageReached 34 = .ok (.iload_n 1, 1) := by decide +kernel
theorem dX5_ageReached_35 : decode cX5_ageReached 35 = .ok (.iaload, 1) := by decide +kernel
theorem dX5_ageReached_36 : decode cX5_ageReached 36 = .ok (.aload_n 0, 1) := by decide +kernel
theorem dX5_ageReached_37 : decode cX5_ageReached 37 = .ok (.getfield 42, 3) := by decide +kernel
theorem dX5_ageReached_40 : decode cX5_ageReached 40 = .ok (.getfield 75, 3) := by decide +kernel
theorem dX5_ageReached_43 : decode cX5_ageReached 43 = .ok (.iload_n 1, 1) := by decide +kernel
theorem dX5_ageReached_44 : decode cX5_ageReached 44 = .ok (.iaload, 1) := by decide +kernel
theorem dX5_ageReached_45 : decode cX5_ageReached 45 = .ok (.isub, 1) := by decide +kernel
theorem dX5_ageReached_46 : decode cX5_ageReached 46 = .ok (.ireturn, 1) := by decide +kernel
theorem dX5_lastHaving_0 : decode cX5_lastHaving 0 = .ok (.iconst 0, 1) := by decide +kernel
theorem dX5_lastHaving_1 : decode cX5_lastHaving 1 = .ok (.istore_n 1, 1) := by decide +kernel
theorem dX5_lastHaving_2 : decode cX5_lastHaving 2 = .ok (.iconst 0, 1) := by decide +kernel
theorem dX5_lastHaving_3 : decode cX5_lastHaving 3 = .ok (.istore_n 2, 1) := by decide +kernel
theorem dX5_lastHaving_4 : decode cX5_lastHaving 4 = .ok (.iload_n 2, 1) := by decide +kernel
theorem dX5_lastHaving_5 : decode cX5_lastHaving 5 = .ok (.aload_n 0, 1) := by decide +kernel
theorem dX5_lastHaving_6 : decode cX5_lastHaving 6 = .ok (.getfield 42, 3) := by decide +kernel
theorem dX5_lastHaving_9 : decode cX5_lastHaving 9 = .ok (.getfield 59, 3) := by decide +kernel
theorem dX5_lastHaving_12 : decode cX5_lastHaving 12 = .ok (.if_icmp .ge 28, 3) := by decide +kernel
theorem dX5_lastHaving_15 : decode cX5_lastHaving 15 = .ok (.aload_n 0, 1) := by decide +kernel
theorem dX5_lastHaving_16 : decode cX5_lastHaving 16 = .ok (.iload_n 2, 1) := by decide +kernel
theorem dX5_lastHaving_17 : decode cX5_lastHaving 17 = .ok (.invokevirtual 149, 3) := by decide +kernel
theorem dX5_lastHaving_20 : decode cX5_lastHaving 20 = .ok (.ifCond .eq 14, 3) := by decide +kernel
theorem dX5_lastHaving_23 : decode cX5_lastHaving 23 = .ok (.iload_n 1, 1) := by decide +kernel
theorem dX5_lastHaving_24 : decode cX5_lastHaving 24 = .ok (.aload_n 0, 1) := by decide +kernel
theorem dX5_lastHaving_25 : decode cX5_lastHaving 25 = .ok (.getfield 24, 3) := by decide +kernel
theorem dX5_lastHaving_28 : decode cX5_lastHaving 28 = .ok (.iload_n 2, 1) := by decide +kernel
theorem dX5_lastHaving_29 : decode cX5_lastHaving 29 = .ok (.iaload, 1) := by decide +kernel
theorem dX5_lastHaving_30 : decode cX5_lastHaving 30 = .ok (.invokestatic 158, 3) := by decide +kernel
theorem dX5_lastHaving_33 : decode cX5_lastHaving 33 = .ok (.istore_n 1, 1) := by decide +kernel
theorem dX5_lastHaving_34 : decode cX5_lastHaving 34 = .ok (.iinc 2 1, 3) := by decide +kernel
theorem dX5_lastHaving_37 : decode cX5_lastHaving 37 = .ok (.goto (-33), 3) := by decide +kernel
theorem dX5_lastHaving_40 : decode cX5_lastHaving 40 = .ok (.iload_n 1, 1) := by decide +kernel
theorem dX5_lastHaving_41 : decode cX5_lastHaving 41 = .ok (.ireturn, 1) := by decide +kernel
theorem dX6_init_0 : decode cX6_init 0 = .ok (.aload_n 0, 1) := by decide +kernel
theorem dX6_init_1 : decode cX6_init 1 = .ok (.invokespecial 1, 3) := by decide +kernel
theorem dX6_init_4 : decode cX6_init 4 = .ok (.aload_n 0, 1) := by decide +kernel
theorem dX6_init_5 : decode cX6_init 5 = .ok (.new 7, 3) := by decide +kernel
theorem dX6_init_8 : decode cX6_init 8 = .ok (.dup, 1) := by decide +kernel
theorem dX6_init_9 : decode cX6_init 9 = .ok (.invokespecial 9, 3) := by decide +kernel
theorem dX6_init_12 : decode cX6_init 12 = .ok (.putfield 10, 3) := by decide +kernel
theorem dX6_init_15 : decode cX6_init 15 = .ok (.aload_n 0, 1) := by decide +kernel
theorem dX6_init_16 : decode cX6_init 16 = .ok (.new 16, 3) := by decide +kernel
theorem dX6_init_19 : decode cX6_init 19 = .ok (.dup, 1) := by decide +kernel
theorem dX6_init_20 : decode cX6_init 20 = .ok (.aload_n 0, 1) := by decide +kernel
theorem dX6_init_21 : decode cX6_init 21 = .ok (.getfield 10, 3) := by decide +kernel
theorem dX6_init_24 : decode cX6_init 24 = .ok (.invokespecial 18, 3) := by decide +kernel
theorem dX6_init_27 : decode cX6_init 27 = .ok (.putfield 21, 3) := by decide +kernel
theorem dX6_init_30 : decode cX6_init 30 = .ok (.aload_n 0, 1) := by decide +kernel
theorem dX6_init_31 : decode cX6_init 31 = .ok (.new 25, 3) := by decide +kernel
theorem dX6_init_34 : decode cX6_init 34 = .ok (.dup, 1) := by decide +kernel
theorem dX6_init_35 : decode cX6_init 35 = .ok (.invokespecial 27, 3) := by decide +kernel
theorem dX6_init_38 : decode cX6_init 38 = .ok (.putfield 28, 3) := by decide +kernel
theorem dX6_init_41 : decode cX6_init 41 = .ok (.aload_n 0, 1) := by decide +kernel
theorem dX6_init_42 : decode cX6_init 42 = .ok (.new 32, 3) := by decide +kernel
theorem dX6_init_45 : decode cX6_init 45 = .ok (.dup, 1) := by decide +kernel
theorem dX6_init_46 : decode cX6_init 46 = .ok (.aload_n 0, 1) := by decide +kernel
theorem dX6_init_47 : decode cX6_init 47 = .ok (.getfield 28, 3) := by decide +kernel
theorem dX6_init_50 : decode cX6_init 50 = .ok (.invokespecial 34, 3) := by decide +kernel
theorem dX6_init_53 : decode cX6_init 53 = .ok (.putfield 37, 3) := by decide +kernel
theorem dX6_init_56 : decode cX6_init 56 = .ok (.aload_n 0, 1) := by decide +kernel
theorem dX6_init_57 : decode cX6_init 57 = .ok (.iconst 1, 1) := by decide +kernel
theorem dX6_init_58 : decode cX6_init 58 = .ok (.putfield 41, 3) := by decide +kernel
theorem dX6_init_61 : decode cX6_init 61 = .ok (.aload_n 0, 1) := by decide +kernel
theorem dX6_init_62 : decode cX6_init 62 = .ok (.new 25, 3) := by decide +kernel
theorem dX6_init_65 : decode cX6_init 65 = .ok (.dup, 1) := by decide +kernel
theorem dX6_init_66 : decode cX6_init 66 = .ok (.invokespecial 27, 3) := by decide +kernel
theorem dX6_init_69 : decode cX6_init 69 = .ok (.putfield 45, 3) := by decide +kernel
theorem dX6_init_72 : decode cX6_init 72 = .ok (.aload_n 0, 1) := by decide +kernel
theorem dX6_init_73 : decode cX6_init 73 = .ok (.new 32, 3) := by decide +kernel
theorem dX6_init_76 : decode cX6_init 76 = .ok (.dup, 1) := by decide +kernel
theorem dX6_init_77 : decode cX6_init 77 = .ok (.aload_n 0, 1) := by decide +kernel
theorem dX6_init_78 : decode cX6_init 78 = .ok (.getfield 45, 3) := by decide +kernel
theorem dX6_init_81 : decode cX6_init 81 = .ok (.invokespecial 34, 3) := by decide +kernel
theorem dX6_init_84 : decode cX6_init 84 = .ok (.putfield 48, 3) := by decide +kernel
theorem dX6_init_87 : decode cX6_init 87 = .ok (.aload_n 0, 1) := by decide +kernel
theorem dX6_init_88 : decode cX6_init 88 = .ok (.new 51, 3) := by decide +kernel
theorem dX6_init_91 : decode cX6_init 91 = .ok (.dup, 1) := by decide +kernel
theorem dX6_init_92 : decode cX6_init 92 = .ok (.invokespecial 53, 3) := by decide +kernel
theorem dX6_init_95 : decode cX6_init 95 = .ok (.putfield 54, 3) := by decide +kernel
theorem dX6_init_98 : decode cX6_init 98 = .ok (.aload_n 0, 1) := by decide +kernel
theorem dX6_init_99 : decode cX6_init 99 = .ok (.new 58, 3) := by decide +kernel
theorem dX6_init_102 : decode cX6_init 102 = .ok (.dup, 1) := by decide +kernel
theorem dX6_init_103 : decode cX6_init 103 = .ok (.invokespecial 60, 3) := by decide +kernel
theorem dX6_init_106 : decode cX6_init 106 = .ok (.putfield 61, 3) := by decide +kernel
theorem dX6_init_109 : decode cX6_init 109 = .ok (.aload_n 0, 1) := by decide +kernel
theorem dX6_init_110 : decode cX6_init 110 = .ok (.new 25, 3) := by decide +kernel
theorem dX6_init_113 : decode cX6_init 113 = .ok (.dup, 1) := by decide +kernel
theorem dX6_init_114 : decode cX6_init 114 = .ok (.invokespecial 27, 3) := by decide +kernel
theorem dX6_init_117 : decode cX6_init 117 = .ok (.putfield 65, 3) := by decide +kernel
theorem dX6_init_120 : decode cX6_init 120 = .ok (.aload_n 0, 1) := by decide +kernel
theorem dX6_init_121 : decode cX6_init 121 = .ok (.new 25, 3) := by decide +kernel
theorem dX6_init_124 : decode cX6_init 124 = .ok (.dup, 1) := by decide +kernel
theorem dX6_init_125 : decode cX6_init 125 = .ok (.invokespecial 27, 3) := by decide +kernel
theorem dX6_init_128 : decode cX6_init 128 = .ok (.putfield 68, 3) := by decide +kernel
theorem dX6_init_131 : decode cX6_init 131 = .ok (.aload_n 0, 1) := by decide +kernel
theorem dX6_init_132 : decode cX6_init 132 = .ok (.iconst 0, 1) := by decide +kernel
theorem dX6_init_133 : decode cX6_init 133 = .ok (.putfield 71, 3) := by decide +kernel
theorem dX6_init_136 : decode cX6_init 136 = .ok (.iconst 0, 1) := by decide +kernel
theorem dX6_init_137 : decode cX6_init 137 = .ok (.istore_n 1, 1) := by decide +kernel
theorem dX6_init_138 : decode cX6_init 138 = .ok (.iload_n 1, 1) := by decide +kernel
theorem dX6_init_139 : decode cX6_init 139 = .ok (.ldc 75, 2) := by decide +kernel
theorem dX6_init_141 : decode cX6_init 141 = .ok (.invokevirtual 77, 3) := by decide +kernel
theorem dX6_init_144 : decode cX6_init 144 = .ok (.if_icmp .ge 23, 3) := by decide +kernel
theorem dX6_init_147 : decode cX6_init 147 = .ok (.aload_n 0, 1) := by decide +kernel
theorem dX6_init_148 : decode cX6_init 148 = .ok (.getfield 10, 3) := by decide +kernel
theorem dX6_init_151 : decode cX6_init 151 = .ok (.ldc 75, 2) := by decide +kernel
theorem dX6_init_153 : decode cX6_init 153 = .ok (.iload_n 1, 1) := by decide +kernel
theorem dX6_init_154 : decode cX6_init 154 = .ok (.invokevirtual 83, 3) := by decide +kernel
theorem dX6_init_157 : decode cX6_init 157 = .ok (.invokevirtual 87, 3) := by decide +kernel
theorem dX6_init_160 : decode cX6_init 160 = .ok (.pop, 1) := by decide +kernel
theorem dX6_init_161 : decode cX6_init 161 = .ok (.iinc 1 1, 3) := by decide +kernel
theorem dX6_init_164 : decode cX6_init 164 = .ok (.goto (-26), 3) := by decide +kernel
theorem dX6_init_167 : decode cX6_init 167 = .ok (.aload_n 0, 1) := by decide +kernel
theorem dX6_init_168 : decode cX6_init 168 = .ok (.getfield 21, 3) := by decide +kernel
theorem dX6_init_171 : decode cX6_init 171 = .ok (.aload_n 0, 1) := by decide +kernel
theorem dX6_init_172 : decode cX6_init 172 = .ok (.getfield 28, 3) := by decide +kernel
theorem dX6_init_175 : decode cX6_init 175 = .ok (.invokevirtual 91, 3) := by decide +kernel
theorem dX6_init_178 : decode cX6_init 178 = .ok (.pop, 1) := by decide +kernel
theorem dX6_init_179 : decode cX6_init 179 = .ok (.aload_n 0, 1) := by decide +kernel
theorem dX6_init_180 : decode cX6_init 180 = .ok (.getfield 10, 3) := by decide +kernel
theorem dX6_init_183 : decode cX6_init 183 = .ok (.invokevirtual 95, 3) := by decide +kernel
theorem dX6_init_186 : decode cX6_init 186 = .ok (.return_, 1) := by decide +kernel
theorem dX6_write_0 : decode cX6_write 0 = .ok (.iload_n 1, 1) := by decide +kernel
theorem dX6_write_1 : decode cX6_write 1 = .ok (.bipush 32, 2) := by decide +kernel
theorem dX6_write_3 : decode cX6_write 3 = .ok (.if_icmp .lt 9, 3) := by decide +kernel
theorem dX6_write_6 : decode cX6_write 6 = .ok (.iload_n 1, 1) := by decide +kernel
theorem dX6_write_7 : decode cX6_write 7 = .ok (.bipush 126, 2) := by decide +kernel
theorem dX6_write_9 : decode cX6_write 9 = .ok (.if_icmp .le 5, 3) := by decide +kernel
theorem dX6_write_12 : decode cX6_write 12 = .ok (.iconst (-1), 1) := by decide +kernel
theorem dX6_write_13 : decode cX6_write 13 = .ok (.ireturn, 1) := by decide +kernel
theorem dX6_write_14 : decode cX6_write 14 = .ok (.aload_n 0, 1) := by decide +kernel
theorem dX6_write_15 : decode cX6_write 15 = .ok (.getfield 10, 3) := by decide +kernel
theorem dX6_write_18 : decode cX6_write 18 = .ok (.iload_n 1, 1) := by decide +kernel
theorem dX6_write_19 : decode cX6_write 19 = .ok (.i2c, 1) := by decide +kernel
theorem dX6_write_20 : decode cX6_write 20 = .ok (.invokevirtual 87, 3) := by decide +kernel
theorem dX6_write_23 : decode cX6_write 23 = .ok (.ifCond .eq 13, 3) := by decide +kernel
theorem dX6_write_26 : decode cX6_write 26 = .ok (.aload_n 0, 1) := by decide +kernel
theorem dX6_write_27 : decode cX6_write 27 = .ok (.getfield 10, 3) := by decide +kernel
theorem dX6_write_30 : decode cX6_write 30 = .ok (.getfield 98, 3) := by decide +kernel
theorem dX6_write_33 : decode cX6_write 33 = .ok (.goto 5, 3) := by decide +kernel
theorem dX6_write_36 : decode cX6_write 36 = .ok (.bipush (-3), 2) := by decide +kernel
theorem dX6_write_38 : decode cX6_write 38 = .ok (.ireturn, 1) := by decide +kernel
theorem dX6_wipe_0 : decode cX6_wipe 0 = .ok (.aload_n 0, 1) := by decide +kernel
theorem dX6_wipe_1 : decode cX6_wipe 1 = .ok (.getfield 10, 3) := by decide +kernel
theorem dX6_wipe_4 : decode cX6_wipe 4 = .ok (.getfield 98, 3) := by decide +kernel
theorem dX6_wipe_7 : decode cX6_wipe 7 = .ok (.istore_n 1, 1) := by decide +kernel
theorem dX6_wipe_8 : decode cX6_wipe 8 = .ok (.aload_n 0, 1) := by decide +kernel
theorem dX6_wipe_9 : decode cX6_wipe 9 = .ok (.getfield 10, 3) := by decide +kernel
theorem dX6_wipe_12 : decode cX6_wipe 12 = .ok (.invokevirtual 95, 3) := by decide +kernel
theorem dX6_wipe_15 : decode cX6_wipe 15 = .ok (.iload_n 1, 1) := by decide +kernel
theorem dX6_wipe_16 : decode cX6_wipe 16 = .ok (.ireturn, 1) := by decide +kernel
theorem dX6_fault_0 : decode cX6_fault 0 = .ok (.aload_n 0, 1) := by decide +kernel
theorem dX6_fault_1 : decode cX6_fault 1 = .ok (.getfield 21, 3) := by decide +kernel
theorem dX6_fault_4 : decode cX6_fault 4 = .ok (.aload_n 0, 1) := by decide +kernel
theorem dX6_fault_5 : decode cX6_fault 5 = .ok (.getfield 45, 3) := by decide +kernel
theorem dX6_fault_8 : decode cX6_fault 8 = .ok (.invokevirtual 91, 3) := by decide +kernel
theorem dX6_fault_11 : decode cX6_fault 11 = .ok (.ireturn, 1) := by decide +kernel
theorem dX6_lay_0 : decode cX6_lay 0 = .ok (.aload_n 0, 1) := by decide +kernel
theorem dX6_lay_1 : decode cX6_lay 1 = .ok (.getfield 21, 3) := by decide +kernel
theorem dX6_lay_4 : decode cX6_lay 4 = .ok (.aload_n 0, 1) := by decide +kernel
theorem dX6_lay_5 : decode cX6_lay 5 = .ok (.getfield 45, 3) := by decide +kernel
theorem dX6_lay_8 : decode cX6_lay 8 = .ok (.invokevirtual 91, 3) := by decide +kernel
theorem dX6_lay_11 : decode cX6_lay 11 = .ok (.bipush (-4), 2) := by decide +kernel
theorem dX6_lay_13 : decode cX6_lay 13 = .ok (.if_icmp .ne 13, 3) := by decide +kernel
theorem dX6_lay_16 : decode cX6_lay 16 = .ok (.aload_n 0, 1) := by decide +kernel
theorem dX6_lay_17 : decode cX6_lay 17 = .ok (.getfield 45, 3) := by decide +kernel
theorem dX6_lay_20 : decode cX6_lay 20 = .ok (.getfield 100, 3) := by decide +kernel
theorem dX6_lay_23 : decode cX6_lay 23 = .ok (.ifCond .ne 6, 3) := by decide +kernel
theorem dX6_lay_26 : decode cX6_lay 26 = .ok (.bipush (-2), 2) := by decide +kernel
theorem dX6_lay_28 : decode cX6_lay 28 = .ok (.ireturn, 1) := by decide +kernel
theorem dX6_lay_29 : decode cX6_lay 29 = .ok (.aload_n 0, 1) := by decide +kernel
theorem dX6_lay_30 : decode cX6_lay 30 = .ok (.getfield 28, 3) := by decide +kernel
theorem dX6_lay_33 : decode cX6_lay 33 = .ok (.aload_n 0, 1) := by decide +kernel
theorem dX6_lay_34 : decode cX6_lay 34 = .ok (.getfield 45, 3) := by decide +kernel
theorem dX6_lay_37 : decode cX6_lay 37 = .ok (.invokevirtual 103, 3) := by decide +kernel
theorem dX6_lay_40 : decode cX6_lay 40 = .ok (.aload_n 0, 1) := by decide +kernel
theorem dX6_lay_41 : decode cX6_lay 41 = .ok (.getfield 54, 3) := by decide +kernel
theorem dX6_lay_44 : decode cX6_lay 44 = .ok (.invokevirtual 106, 3) := by decide +kernel
theorem dX6_lay_47 : decode cX6_lay 47 = .ok (.aload_n 0, 1) := by decide +kernel
theorem dX6_lay_48 : decode cX6_lay 48 = .ok (.getfield 61, 3) := by decide +kernel
theorem dX6_lay_51 : decode cX6_lay 51 = .ok (.invokevirtual 107, 3) := by decide +kernel
theorem dX6_lay_54 : decode cX6_lay 54 = .ok (.aload_n 0, 1) := by decide +kernel
theorem dX6_lay_55 : decode cX6_lay 55 = .ok (.iconst 0, 1) := by decide +kernel
theorem dX6_lay_56 : decode cX6_lay 56 = .ok (.putfield 71, 3) := by decide +kernel
theorem dX6_lay_59 : decode cX6_lay 59 = .ok (.aload_n 0, 1) := by decide +kernel
theorem dX6_lay_60 : decode cX6_lay 60 = .ok (.iconst 1, 1) := by decide +kernel
theorem dX6_lay_61 : decode cX6_lay 61 = .ok (.putfield 41, 3) := by decide +kernel
theorem dX6_lay_64 : decode cX6_lay 64 = .ok (.aload_n 0, 1) := by decide +kernel
theorem dX6_lay_65 : decode cX6_lay 65 = .ok (.getfield 28, 3) := by decide +kernel
theorem dX6_lay_68 : decode cX6_lay 68 = .ok (.getfield 100, 3) := by decide +kernel
theorem dX6_lay_71 : decode cX6_lay 71 = .ok (.ireturn, 1) := by decide +kernel
theorem dX6_person_0 : decode cX6_person 0 = .ok (.aload_n 0, 1) := by decide +kernel
theorem dX6_person_1 : decode cX6_person 1 = .ok (.getfield 28, 3) := by decide +kernel
theorem dX6_person_4 : decode cX6_person 4 = .ok (.iload_n 1, 1) := by decide +kernel
theorem dX6_person_5 : decode cX6_person 5 = .ok (.invokevirtual 108, 3) := by decide +kernel
theorem dX6_person_8 : decode cX6_person 8 = .ok (.ifCond .ne 5, 3) := by decide +kernel
theorem dX6_person_11 : decode cX6_person 11 = .ok (.iconst (-1), 1) := by decide +kernel
theorem dX6_person_12 : decode cX6_person 12 = .ok (.ireturn, 1) := by decide +kernel
theorem dX6_person_13 : decode cX6_person 13 = .ok (.iload_n 2, 1) := by decide +kernel
theorem dX6_person_14 : decode cX6_person 14 = .ok (.tableswitch 97 0 5 #[38, 48, 58, 68, 78, 88], 38) := by decide +kernel
theorem dX6_person_52 : decode cX6_person 52 = .ok (.aload_n 0, 1) := by decide +kernel
theorem dX6_person_53 : decode cX6_person 53 = .ok (.getfield 28, 3) := by decide +kernel
theorem dX6_person_56 : decode cX6_person 56 = .ok (.getfield 112, 3) := by decide +kernel
theorem dX6_person_59 : decode cX6_person 59 = .ok (.iload_n 1, 1) := by decide +kernel
theorem dX6_person_60 : decode cX6_person 60 = .ok (.iaload, 1) := by decide +kernel
theorem dX6_person_61 : decode cX6_person 61 = .ok (.ireturn, 1) := by decide +kernel
theorem dX6_person_62 : decode cX6_person 62 = .ok (.aload_n 0, 1) := by decide +kernel
theorem dX6_person_63 : decode cX6_person 63 = .ok (.getfield 28, 3) := by decide +kernel
theorem dX6_person_66 : decode cX6_person 66 = .ok (.getfield 116, 3) := by decide +kernel
theorem dX6_person_69 : decode cX6_person 69 = .ok (.iload_n 1, 1) := by decide +kernel
theorem dX6_person_70 : decode cX6_person 70 = .ok (.iaload, 1) := by decide +kernel
theorem dX6_person_71 : decode cX6_person 71 = .ok (.ireturn, 1) := by decide +kernel
theorem dX6_person_72 : decode cX6_person 72 = .ok (.aload_n 0, 1) := by decide +kernel
theorem dX6_person_73 : decode cX6_person 73 = .ok (.getfield 28, 3) := by decide +kernel
theorem dX6_person_76 : decode cX6_person 76 = .ok (.getfield 119, 3) := by decide +kernel
theorem dX6_person_79 : decode cX6_person 79 = .ok (.iload_n 1, 1) := by decide +kernel
theorem dX6_person_80 : decode cX6_person 80 = .ok (.iaload, 1) := by decide +kernel
theorem dX6_person_81 : decode cX6_person 81 = .ok (.ireturn, 1) := by decide +kernel
theorem dX6_person_82 : decode cX6_person 82 = .ok (.aload_n 0, 1) := by decide +kernel
theorem dX6_person_83 : decode cX6_person 83 = .ok (.getfield 28, 3) := by decide +kernel
theorem dX6_person_86 : decode cX6_person 86 = .ok (.getfield 122, 3) := by decide +kernel
theorem dX6_person_89 : decode cX6_person 89 = .ok (.iload_n 1, 1) := by decide +kernel
theorem dX6_person_90 : decode cX6_person 90 = .ok (.iaload, 1) := by decide +kernel
theorem dX6_person_91 : decode cX6_person 91 = .ok (.ireturn, 1) := by decide +kernel
theorem dX6_person_92 : decode cX6_person 92 = .ok (.aload_n 0, 1) := by decide +kernel
theorem dX6_person_93 : decode cX6_person 93 = .ok (.getfield 28, 3) := by decide +kernel
theorem dX6_person_96 : decode cX6_person 96 = .ok (.getfield 125, 3) := by decide +kernel
theorem dX6_person_99 : decode cX6_person 99 = .ok (.iload_n 1, 1) := by decide +kernel
theorem dX6_person_100 : decode cX6_person 100 = .ok (.iaload, 1) := by decide +kernel
theorem dX6_person_101 : decode cX6_person 101 = .ok (.ireturn, 1) := by decide +kernel
theorem dX6_person_102 : decode cX6_person 102 = .ok (.aload_n 0, 1) := by decide +kernel
theorem dX6_person_103 : decode cX6_person 103 = .ok (.getfield 28, 3) := by decide +kernel
theorem dX6_person_106 : decode cX6_person 106 = .ok (.iload_n 1, 1) := by decide +kernel
theorem dX6_person_107 : decode cX6_person 107 = .ok (.invokevirtual 128, 3) := by decide +kernel
theorem dX6_person_110 : decode cX6_person 110 = .ok (.ireturn, 1) := by decide +kernel
theorem dX6_person_111 : decode cX6_person 111 = .ok (.iconst (-1), 1) := by decide +kernel
theorem dX6_person_112 : decode cX6_person 112 = .ok (.ireturn, 1) := by decide +kernel
theorem dX6_bequest_0 : decode cX6_bequest 0 = .ok (.aload_n 0, 1) := by decide +kernel
theorem dX6_bequest_1 : decode cX6_bequest 1 = .ok (.getfield 28, 3) := by decide +kernel
theorem dX6_bequest_4 : decode cX6_bequest 4 = .ok (.iload_n 1, 1) := by decide +kernel
theorem dX6_bequest_5 : decode cX6_bequest 5 = .ok (.invokevirtual 132, 3) := by decide +kernel
theorem dX6_bequest_8 : decode cX6_bequest 8 = .ok (.ifCond .ne 5, 3) := by decide +kernel
theorem dX6_bequest_11 : decode cX6_bequest 11 = .ok (.iconst (-1), 1) := by decide +kernel
theorem dX6_bequest_12 : decode cX6_bequest 12 = .ok (.ireturn, 1) := by decide +kernel
theorem dX6_bequest_13 : decode cX6_bequest 13 = .ok (.iload_n 2, 1) := by decide +kernel
theorem dX6_bequest_14 : decode cX6_bequest 14 = .ok (.tableswitch 56 0 2 #[26, 36, 46], 26) := by decide +kernel
theorem dX6_bequest_40 : decode cX6_bequest 40 = .ok (.aload_n 0, 1) := by decide +kernel
theorem dX6_bequest_41 : decode cX6_bequest 41 = .ok (.getfield 28, 3) := by decide +kernel
theorem dX6_bequest_44 : decode cX6_bequest 44 = .ok (.getfield 135, 3) := by decide +kernel
theorem dX6_bequest_47 : decode cX6_bequest 47 = .ok (.iload_n 1, 1) := by decide +kernel
theorem dX6_bequest_48 : decode cX6_bequest 48 = .ok (.iaload, 1) := by decide +kernel
theorem dX6_bequest_49 : decode cX6_bequest 49 = .ok (.ireturn, 1) := by decide +kernel
theorem dX6_bequest_50 : decode cX6_bequest 50 = .ok (.aload_n 0, 1) := by decide +kernel
theorem dX6_bequest_51 : decode cX6_bequest 51 = .ok (.getfield 28, 3) := by decide +kernel
theorem dX6_bequest_54 : decode cX6_bequest 54 = .ok (.getfield 138, 3) := by decide +kernel
theorem dX6_bequest_57 : decode cX6_bequest 57 = .ok (.iload_n 1, 1) := by decide +kernel
theorem dX6_bequest_58 : decode cX6_bequest 58 = .ok (.iaload, 1) := by decide +kernel
theorem dX6_bequest_59 : decode cX6_bequest 59 = .ok (.ireturn, 1) := by decide +kernel
theorem dX6_bequest_60 : decode cX6_bequest 60 = .ok (.aload_n 0, 1) := by decide +kernel
theorem dX6_bequest_61 : decode cX6_bequest 61 = .ok (.getfield 28, 3) := by decide +kernel
theorem dX6_bequest_64 : decode cX6_bequest 64 = .ok (.getfield 141, 3) := by decide +kernel
theorem dX6_bequest_67 : decode cX6_bequest 67 = .ok (.iload_n 1, 1) := by decide +kernel
theorem dX6_bequest_68 : decode cX6_bequest 68 = .ok (.iaload, 1) := by decide +kernel
theorem dX6_bequest_69 : decode cX6_bequest 69 = .ok (.ireturn, 1) := by decide +kernel
theorem dX6_bequest_70 : decode cX6_bequest 70 = .ok (.iconst (-1), 1) := by decide +kernel
theorem dX6_bequest_71 : decode cX6_bequest 71 = .ok (.ireturn, 1) := by decide +kernel
theorem dX6_reword_0 : decode cX6_reword 0 = .ok (.aload_n 0, 1) := by decide +kernel
theorem dX6_reword_1 : decode cX6_reword 1 = .ok (.getfield 28, 3) := by decide +kernel
theorem dX6_reword_4 : decode cX6_reword 4 = .ok (.iload_n 1, 1) := by decide +kernel
theorem dX6_reword_5 : decode cX6_reword 5 = .ok (.invokevirtual 132, 3) := by decide +kernel
theorem dX6_reword_8 : decode cX6_reword 8 = .ok (.ifCond .eq 13, 3) := by decide +kernel
theorem dX6_reword_11 : decode cX6_reword 11 = .ok (.iload_n 2, 1) := by decide +kernel
theorem dX6_reword_12 : decode cX6_reword 12 = .ok (.iconst 1, 1) := by decide +kernel
theorem dX6_reword_13 : decode cX6_reword 13 = .ok (.bipush 99, 2) := by decide +kernel
theorem dX6_reword_15 : decode cX6_reword 15 = .ok (.invokestatic 144, 3) := by decide +kernel
theorem dX6_reword_18 : decode cX6_reword 18 = .ok (.ifCond .ne 5, 3) := by decide +kernel
theorem dX6_reword_21 : decode cX6_reword 21 = .ok (.iconst (-1), 1) := by decide +kernel
theorem dX6_reword_22 : decode cX6_reword 22 = .ok (.ireturn, 1) := by decide +kernel
theorem dX6_reword_23 : decode cX6_reword 23 = .ok (.aload_n 0, 1) := by decide +kernel
theorem dX6_reword_24 : decode cX6_reword 24 = .ok (.getfield 28, 3) := by decide +kernel
theorem dX6_reword_27 : decode cX6_reword 27 = .ok (.getfield 141, 3) := by decide +kernel
theorem dX6_reword_30 : decode cX6_reword 30 = .ok (.iload_n 1, 1) := by decide +kernel
theorem dX6_reword_31 : decode cX6_reword 31 = .ok (.iaload, 1) := by decide +kernel
theorem dX6_reword_32 : decode cX6_reword 32 = .ok (.istore_n 3, 1) := by decide +kernel
theorem dX6_reword_33 : decode cX6_reword 33 = .ok (.aload_n 0, 1) := by decide +kernel
theorem dX6_reword_34 : decode cX6_reword 34 = .ok (.getfield 28, 3) := by decide +kernel
theorem dX6_reword_37 : decode cX6_reword 37 = .ok (.getfield 141, 3) := by decide +kernel
theorem dX6_reword_40 : decode cX6_reword 40 = .ok (.iload_n 1, 1) := by decide +kernel
theorem dX6_reword_41 : decode cX6_reword 41 = .ok (.iload_n 2, 1) := by decide +kernel
theorem dX6_reword_42 : decode cX6_reword 42 = .ok (.iastore, 1) := by decide +kernel
theorem dX6_reword_43 : decode cX6_reword 43 = .ok (.aload_n 0, 1) := by decide +kernel
theorem dX6_reword_44 : decode cX6_reword 44 = .ok (.getfield 54, 3) := by decide +kernel
theorem dX6_reword_47 : decode cX6_reword 47 = .ok (.iconst 0, 1) := by decide +kernel
theorem dX6_reword_48 : decode cX6_reword 48 = .ok (.iload_n 1, 1) := by decide +kernel
theorem dX6_reword_49 : decode cX6_reword 49 = .ok (.iload_n 3, 1) := by decide +kernel
theorem dX6_reword_50 : decode cX6_reword 50 = .ok (.invokevirtual 148, 3) := by decide +kernel
theorem dX6_reword_53 : decode cX6_reword 53 = .ok (.aload_n 0, 1) := by decide +kernel
theorem dX6_reword_54 : decode cX6_reword 54 = .ok (.iconst 1, 1) := by decide +kernel
theorem dX6_reword_55 : decode cX6_reword 55 = .ok (.putfield 41, 3) := by decide +kernel
theorem dX6_reword_58 : decode cX6_reword 58 = .ok (.iload_n 3, 1) := by decide +kernel
theorem dX6_reword_59 : decode cX6_reword 59 = .ok (.ireturn, 1) := by decide +kernel
theorem dX6_pass_0 : decode cX6_pass 0 = .ok (.aload_n 0, 1) := by decide +kernel
theorem dX6_pass_1 : decode cX6_pass 1 = .ok (.getfield 28, 3) := by decide +kernel
theorem dX6_pass_4 : decode cX6_pass 4 = .ok (.iload_n 1, 1) := by decide +kernel
theorem dX6_pass_5 : decode cX6_pass 5 = .ok (.invokevirtual 132, 3) := by decide +kernel
theorem dX6_pass_8 : decode cX6_pass 8 = .ok (.ifCond .eq 14, 3) := by decide +kernel
theorem dX6_pass_11 : decode cX6_pass 11 = .ok (.aload_n 0, 1) := by decide +kernel
theorem dX6_pass_12 : decode cX6_pass 12 = .ok (.getfield 28, 3) := by decide +kernel
theorem dX6_pass_15 : decode cX6_pass 15 = .ok (.iload_n 2, 1) := by decide +kernel
theorem dX6_pass_16 : decode cX6_pass 16 = .ok (.invokevirtual 108, 3) := by decide +kernel
theorem dX6_pass_19 : decode cX6_pass 19 = .ok (.ifCond .ne 5, 3) := by decide +kernel
theorem dX6_pass_22 : decode cX6_pass 22 = .ok (.iconst (-1), 1) := by decide +kernel
theorem dX6_pass_23 : decode cX6_pass 23 = .ok (.ireturn, 1) := by decide +kernel
theorem dX6_pass_24 : decode cX6_pass 24 = .ok (.aload_n 0, 1) := by decide +kernel
theorem dX6_pass_25 : decode cX6_pass 25 = .ok (.getfield 28, 3) := by decide +kernel
theorem dX6_pass_28 : decode cX6_pass 28 = .ok (.getfield 135, 3) := by decide +kernel
theorem dX6_pass_31 : decode cX6_pass 31 = .ok (.iload_n 1, 1) := by decide +kernel
theorem dX6_pass_32 : decode cX6_pass 32 = .ok (.iaload, 1) := by decide +kernel
theorem dX6_pass_33 : decode cX6_pass 33 = .ok (.iload_n 2, 1) := by decide +kernel
theorem dX6_pass_34 : decode cX6_pass 34 = .ok (.if_icmp .ne 6, 3) := by decide +kernel
theorem dX6_pass_37 : decode cX6_pass 37 = .ok (.bipush (-2), 2) := by decide +kernel
theorem dX6_pass_39 : decode cX6_pass 39 = .ok (.ireturn, 1) := by decide +kernel
theorem dX6_pass_40 : decode cX6_pass 40 = .ok (.aload_n 0, 1) := by decide +kernel
theorem dX6_pass_41 : decode cX6_pass 41 = .ok (.getfield 28, 3) := by decide +kernel
theorem dX6_pass_44 : decode cX6_pass 44 = .ok (.getfield 138, 3) := by decide +kernel
theorem dX6_pass_47 : decode cX6_pass 47 = .ok (.iload_n 1, 1) := by decide +kernel
theorem dX6_pass_48 : decode cX6_pass 48 = .ok (.iaload, 1) := by decide +kernel
theorem dX6_pass_49 : decode cX6_pass 49 = .ok (.istore_n 3, 1) := by decide +kernel
theorem dX6_pass_50 : decode cX6_pass 50 = .ok (.aload_n 0, 1) := by decide +kernel
theorem dX6_pass_51 : decode cX6_pass 51 = .ok (.getfield 28, 3) := by decide +kernel
theorem dX6_pass_54 : decode cX6_pass 54 = .ok (.getfield 138, 3) := by decide +kernel
theorem dX6_pass_57 : decode cX6_pass 57 = .ok (.iload_n 1, 1) := by decide +kernel
theorem dX6_pass_58 : decode cX6_pass 58 = .ok (.iload_n 2, 1) := by decide +kernel
theorem dX6_pass_59 : decode cX6_pass 59 = .ok (.iastore, 1) := by decide +kernel
theorem dX6_pass_60 : decode cX6_pass 60 = .ok (.aload_n 0, 1) := by decide +kernel
theorem dX6_pass_61 : decode cX6_pass 61 = .ok (.getfield 54, 3) := by decide +kernel
theorem dX6_pass_64 : decode cX6_pass 64 = .ok (.iconst 1, 1) := by decide +kernel
theorem dX6_pass_65 : decode cX6_pass 65 = .ok (.iload_n 1, 1) := by decide +kernel
theorem dX6_pass_66 : decode cX6_pass 66 = .ok (.iload_n 3, 1) := by decide +kernel
theorem dX6_pass_67 : decode cX6_pass 67 = .ok (.invokevirtual 148, 3) := by decide +kernel
theorem dX6_pass_70 : decode cX6_pass 70 = .ok (.aload_n 0, 1) := by decide +kernel
theorem dX6_pass_71 : decode cX6_pass 71 = .ok (.iconst 1, 1) := by decide +kernel
theorem dX6_pass_72 : decode cX6_pass 72 = .ok (.putfield 41, 3) := by decide +kernel
theorem dX6_pass_75 : decode cX6_pass 75 = .ok (.iload_n 3, 1) := by decide +kernel
theorem dX6_pass_76 : decode cX6_pass 76 = .ok (.ireturn, 1) := by decide +kernel
theorem dX6_help_0 : decode cX6_help 0 = .ok (.aload_n 0, 1) := by decide +kernel
theorem dX6_help_1 : decode cX6_help 1 = .ok (.getfield 28, 3) := by decide +kernel
theorem dX6_help_4 : decode cX6_help 4 = .ok (.iload_n 1, 1) := by decide +kernel
theorem dX6_help_5 : decode cX6_help 5 = .ok (.invokevirtual 108, 3) := by decide +kernel
theorem dX6_help_8 : decode cX6_help 8 = .ok (.ifCond .eq 24, 3) := by decide +kernel
theorem dX6_help_11 : decode cX6_help 11 = .ok (.iload_n 2, 1) := by decide +kernel
theorem dX6_help_12 : decode cX6_help 12 = .ok (.iconst 0, 1) := by decide +kernel
theorem dX6_help_13 : decode cX6_help 13 = .ok (.sipush 150, 3) := by decide +kernel
theorem dX6_help_16 : decode cX6_help 16 = .ok (.invokestatic 144, 3) := by decide +kernel
theorem dX6_help_19 : decode cX6_help 19 = .ok (.ifCond .eq 13, 3) := by decide +kernel
theorem dX6_help_22 : decode cX6_help 22 = .ok (.iload_n 3, 1) := by decide +kernel
theorem dX6_help_23 : decode cX6_help 23 = .ok (.iconst 1, 1) := by decide +kernel
theorem dX6_help_24 : decode cX6_help 24 = .ok (.bipush 99, 2) := by decide +kernel
theorem dX6_help_26 : decode cX6_help 26 = .ok (.invokestatic 144, 3) := by decide +kernel
theorem dX6_help_29 : decode cX6_help 29 = .ok (.ifCond .ne 5, 3) := by decide +kernel
theorem dX6_help_32 : decode cX6_help 32 = .ok (.iconst (-1), 1) := by decide +kernel
theorem dX6_help_33 : decode cX6_help 33 = .ok (.ireturn, 1) := by decide +kernel
theorem dX6_help_34 : decode cX6_help 34 = .ok (.aload_n 0, 1) := by decide +kernel
theorem dX6_help_35 : decode cX6_help 35 = .ok (.getfield 28, 3) := by decide +kernel
theorem dX6_help_38 : decode cX6_help 38 = .ok (.iload_n 1, 1) := by decide +kernel
theorem dX6_help_39 : decode cX6_help 39 = .ok (.iload_n 2, 1) := by decide +kernel
theorem dX6_help_40 : decode cX6_help 40 = .ok (.iload_n 3, 1) := by decide +kernel
theorem dX6_help_41 : decode cX6_help 41 = .ok (.invokevirtual 152, 3) := by decide +kernel
theorem dX6_help_44 : decode cX6_help 44 = .ok (.ifCond .ne 6, 3) := by decide +kernel
theorem dX6_help_47 : decode cX6_help 47 = .ok (.bipush (-3), 2) := by decide +kernel
theorem dX6_help_49 : decode cX6_help 49 = .ok (.ireturn, 1) := by decide +kernel
theorem dX6_help_50 : decode cX6_help 50 = .ok (.aload_n 0, 1) := by decide +kernel
theorem dX6_help_51 : decode cX6_help 51 = .ok (.getfield 54, 3) := by decide +kernel
theorem dX6_help_54 : decode cX6_help 54 = .ok (.iconst 2, 1) := by decide +kernel
theorem dX6_help_55 : decode cX6_help 55 = .ok (.iconst 0, 1) := by decide +kernel
theorem dX6_help_56 : decode cX6_help 56 = .ok (.iconst 0, 1) := by decide +kernel
theorem dX6_help_57 : decode cX6_help 57 = .ok (.invokevirtual 148, 3) := by decide +kernel
theorem dX6_help_60 : decode cX6_help 60 = .ok (.aload_n 0, 1) := by decide +kernel
theorem dX6_help_61 : decode cX6_help 61 = .ok (.iconst 1, 1) := by decide +kernel
theorem dX6_help_62 : decode cX6_help 62 = .ok (.putfield 41, 3) := by decide +kernel
theorem dX6_help_65 : decode cX6_help 65 = .ok (.aload_n 0, 1) := by decide +kernel
theorem dX6_help_66 : decode cX6_help 66 = .ok (.getfield 28, 3) := by decide +kernel
theorem dX6_help_69 : decode cX6_help 69 = .ok (.getfield 155, 3) := by decide +kernel
theorem dX6_help_72 : decode cX6_help 72 = .ok (.ireturn, 1) := by decide +kernel
theorem dX6_undo_0 : decode cX6_undo 0 = .ok (.aload_n 0, 1) := by decide +kernel
theorem dX6_undo_1 : decode cX6_undo 1 = .ok (.getfield 54, 3) := by decide +kernel
theorem dX6_undo_4 : decode cX6_undo 4 = .ok (.aload_n 0, 1) := by decide +kernel
theorem dX6_undo_5 : decode cX6_undo 5 = .ok (.getfield 28, 3) := by decide +kernel
theorem dX6_undo_8 : decode cX6_undo 8 = .ok (.invokevirtual 158, 3) := by decide +kernel
theorem dX6_undo_11 : decode cX6_undo 11 = .ok (.ifCond .ne 6, 3) := by decide +kernel
theorem dX6_undo_14 : decode cX6_undo 14 = .ok (.bipush (-2), 2) := by decide +kernel
theorem dX6_undo_16 : decode cX6_undo 16 = .ok (.ireturn, 1) := by decide +kernel
theorem dX6_undo_17 : decode cX6_undo 17 = .ok (.aload_n 0, 1) := by decide +kernel
theorem dX6_undo_18 : decode cX6_undo 18 = .ok (.iconst 1, 1) := by decide +kernel
theorem dX6_undo_19 : decode cX6_undo 19 = .ok (.putfield 41, 3) := by decide +kernel
theorem dX6_undo_22 : decode cX6_undo 22 = .ok (.aload_n 0, 1) := by decide +kernel
theorem dX6_undo_23 : decode cX6_undo 23 = .ok (.getfield 54, 3) := by decide +kernel
theorem dX6_undo_26 : decode cX6_undo 26 = .ok (.getfield 162, 3) := by decide +kernel
theorem dX6_undo_29 : decode cX6_undo 29 = .ok (.ireturn, 1) := by decide +kernel
theorem dX6_dies_0 : decode cX6_dies 0 = .ok (.aload_n 0, 1) := by decide +kernel
theorem dX6_dies_1 : decode cX6_dies 1 = .ok (.getfield 28, 3) := by decide +kernel
theorem dX6_dies_4 : decode cX6_dies 4 = .ok (.iload_n 1, 1) := by decide +kernel
theorem dX6_dies_5 : decode cX6_dies 5 = .ok (.invokevirtual 108, 3) := by decide +kernel
theorem dX6_dies_8 : decode cX6_dies 8 = .ok (.ifCond .eq 15, 3) := by decide +kernel
theorem dX6_dies_11 : decode cX6_dies 11 = .ok (.aload_n 0, 1) := by decide +kernel
theorem dX6_dies_12 : decode cX6_dies 12 = .ok (.invokevirtual 165, 3) := by decide +kernel
theorem dX6_dies_15 : decode cX6_dies 15 = .ok (.getfield 169, 3) := by decide +kernel
theorem dX6_dies_18 : decode cX6_dies 18 = .ok (.iload_n 1, 1) := by decide +kernel
theorem dX6_dies_19 : decode cX6_dies 19 = .ok (.iaload, 1) := by decide +kernel
theorem dX6_dies_20 : decode cX6_dies 20 = .ok (.goto 4, 3) := by decide +kernel
theorem dX6_dies_23 : decode cX6_dies 23 = .ok (.iconst (-1), 1) := by decide +kernel
theorem dX6_dies_24 : decode cX6_dies 24 = .ok (.ireturn, 1) := by decide +kernel
theorem dX6_having_0 : decode cX6_having 0 = .ok (.aload_n 0, 1) := by decide +kernel
theorem dX6_having_1 : decode cX6_having 1 = .ok (.invokevirtual 165, 3) := by decide +kernel
theorem dX6_having_4 : decode cX6_having 4 = .ok (.getfield 172, 3) := by decide +kernel
theorem dX6_having_7 : decode cX6_having 7 = .ok (.ireturn, 1) := by decide +kernel
theorem dX6_coins_0 : decode cX6_coins 0 = .ok (.aload_n 0, 1) := by decide +kernel
theorem dX6_coins_1 : decode cX6_coins 1 = .ok (.getfield 28, 3) := by decide +kernel
theorem dX6_coins_4 : decode cX6_coins 4 = .ok (.iload_n 1, 1) := by decide +kernel
theorem dX6_coins_5 : decode cX6_coins 5 = .ok (.invokevirtual 108, 3) := by decide +kernel
theorem dX6_coins_8 : decode cX6_coins 8 = .ok (.ifCond .eq 14, 3) := by decide +kernel
theorem dX6_coins_11 : decode cX6_coins 11 = .ok (.iload_n 2, 1) := by decide +kernel
theorem dX6_coins_12 : decode cX6_coins 12 = .ok (.iconst 0, 1) := by decide +kernel
theorem dX6_coins_13 : decode cX6_coins 13 = .ok (.sipush 150, 3) := by decide +kernel
theorem dX6_coins_16 : decode cX6_coins 16 = .ok (.invokestatic 144, 3) := by decide +kernel
theorem dX6_coins_19 : decode cX6_coins 19 = .ok (.ifCond .ne 5, 3) := by decide +kernel
theorem dX6_coins_22 : decode cX6_coins 22 = .ok (.iconst (-1), 1) := by decide +kernel
theorem dX6_coins_23 : decode cX6_coins 23 = .ok (.ireturn, 1) := by decide +kernel
theorem dX6_coins_24 : decode cX6_coins 24 = .ok (.aload_n 0, 1) := by decide +kernel
theorem dX6_coins_25 : decode cX6_coins 25 = .ok (.invokevirtual 165, 3) := by decide +kernel
theorem dX6_coins_28 : decode cX6_coins 28 = .ok (.getfield 175, 3) := by decide +kernel
theorem dX6_coins_31 : decode cX6_coins 31 = .ok (.iload_n 1, 1) := by decide +kernel
theorem dX6_coins_32 : decode cX6_coins 32 = .ok (.aaload, 1) := by decide +kernel
theorem dX6_coins_33 : decode cX6_coins 33 = .ok (.iload_n 2, 1) := by decide +kernel
theorem dX6_coins_34 : decode cX6_coins 34 = .ok (.iaload, 1) := by decide +kernel
theorem dX6_coins_35 : decode cX6_coins 35 = .ok (.ireturn, 1) := by decide +kernel
theorem dX6_brought_0 : decode cX6_brought 0 = .ok (.aload_n 0, 1) := by decide +kernel
theorem dX6_brought_1 : decode cX6_brought 1 = .ok (.getfield 28, 3) := by decide +kernel
theorem dX6_brought_4 : decode cX6_brought 4 = .ok (.iload_n 1, 1) := by decide +kernel
theorem dX6_brought_5 : decode cX6_brought 5 = .ok (.invokevirtual 132, 3) := by decide +kernel
theorem dX6_brought_8 : decode cX6_brought 8 = .ok (.ifCond .eq 15, 3) := by decide +kernel
theorem dX6_brought_11 : decode cX6_brought 11 = .ok (.aload_n 0, 1) := by decide +kernel
theorem dX6_brought_12 : decode cX6_brought 12 = .ok (.invokevirtual 165, 3) := by decide +kernel
theorem dX6_brought_15 : decode cX6_brought 15 = .ok (.getfield 179, 3) := by decide +kernel
theorem dX6_brought_18 : decode cX6_brought 18 = .ok (.iload_n 1, 1) := by decide +kernel
theorem dX6_brought_19 : decode cX6_brought 19 = .ok (.iaload, 1) := by decide +kernel
theorem dX6_brought_20 : decode cX6_brought 20 = .ok (.goto 4, 3) := by decide +kernel
theorem dX6_brought_23 : decode cX6_brought 23 = .ok (.iconst (-1), 1) := by decide +kernel
theorem dX6_brought_24 : decode cX6_brought 24 = .ok (.ireturn, 1) := by decide +kernel
theorem dX6_inherited_0 : decode cX6_inherited 0 = .ok (.aload_n 0, 1) := by decide +kernel
theorem dX6_inherited_1 : decode cX6_inherited 1 = .ok (.getfield 28, 3) := by decide +kernel
theorem dX6_inherited_4 : decode cX6_inherited 4 = .ok (.iload_n 1, 1) := by decide +kernel
theorem dX6_inherited_5 : decode cX6_inherited 5 = .ok (.invokevirtual 108, 3) := by decide +kernel
theorem dX6_inherited_8 : decode cX6_inherited 8 = .ok (.ifCond .eq 15, 3) := by decide +kernel
theorem dX6_inherited_11 : decode cX6_inherited 11 = .ok (.aload_n 0, 1) := by decide +kernel
theorem dX6_inherited_12 : decode cX6_inherited 12 = .ok (.invokevirtual 165, 3) := by decide +kernel
theorem dX6_inherited_15 : decode cX6_inherited 15 = .ok (.getfield 182, 3) := by decide +kernel
theorem dX6_inherited_18 : decode cX6_inherited 18 = .ok (.iload_n 1, 1) := by decide +kernel
theorem dX6_inherited_19 : decode cX6_inherited 19 = .ok (.iaload, 1) := by decide +kernel
theorem dX6_inherited_20 : decode cX6_inherited 20 = .ok (.goto 4, 3) := by decide +kernel
theorem dX6_inherited_23 : decode cX6_inherited 23 = .ok (.iconst (-1), 1) := by decide +kernel
theorem dX6_inherited_24 : decode cX6_inherited 24 = .ok (.ireturn, 1) := by decide +kernel
theorem dX6_first_0 : decode cX6_first 0 = .ok (.aload_n 0, 1) := by decide +kernel
theorem dX6_first_1 : decode cX6_first 1 = .ok (.invokevirtual 165, 3) := by decide +kernel
theorem dX6_first_4 : decode cX6_first 4 = .ok (.invokevirtual 185, 3) := by decide +kernel
theorem dX6_first_7 : decode cX6_first 7 = .ok (.ireturn, 1) := by decide +kernel
theorem dX6_longest_0 : decode cX6_longest 0 = .ok (.iload_n 1, 1) := by decide +kernel
theorem dX6_longest_1 : decode cX6_longest 1 = .ok (.ifCond .eq 10, 3) := by decide +kernel
theorem dX6_longest_4 : decode cX6_longest 4 = .ok (.iload_n 1, 1) := by decide +kernel
theorem dX6_longest_5 : decode cX6_longest 5 = .ok (.iconst 1, 1) := by decide +kernel
theorem dX6_longest_6 : decode cX6_longest 6 = .ok (.if_icmp .eq 5, 3) := by decide +kernel
theorem dX6_longest_9 : decode cX6_longest 9 = .ok (.iconst (-1), 1) := by decide +kernel
theorem dX6_longest_10 : decode cX6_longest 10 = .ok (.ireturn, 1) := by decide +kernel
theorem dX6_longest_11 : decode cX6_longest 11 = .ok (.aload_n 0, 1) := by decide +kernel
theorem dX6_longest_12 : decode cX6_longest 12 = .ok (.invokevirtual 165, 3) := by decide +kernel
theorem dX6_longest_15 : decode cX6_longest 15 = .ok (.invokevirtual 188, 3) := by decide +kernel
theorem dX6_longest_18 : decode cX6_longest 18 = .ok (.istore_n 2, 1) := by decide +kernel
theorem dX6_longest_19 : decode cX6_longest 19 = .ok (.iload_n 1, 1) := by decide +kernel
theorem dX6_longest_20 : decode cX6_longest 20 = .ok (.ifCond .ne 7, 3) := by decide +kernel
theorem dX6_longest_23 : decode cX6_longest 23 = .ok (.iload_n 2, 1) := by decide +kernel
theorem dX6_longest_24 : decode cX6_longest 24 = .ok (.goto 11, 3) := by decide +kernel
theorem dX6_longest_27 : decode cX6_longest 27 = .ok (.aload_n 0, 1) := by decide +kernel
theorem dX6_longest_28 : decode cX6_longest 28 = .ok (.invokevirtual 165, 3) := by decide +kernel
theorem dX6_longest_31 : decode cX6_longest 31 = .ok (.iload_n 2, 1) := by decide +kernel
theorem dX6_longest_32 : decode cX6_longest 32 = .ok (.invokevirtual 191, 3) := by decide +kernel
theorem dX6_longest_35 : decode cX6_longest 35 = .ok (.ireturn, 1) := by decide +kernel
theorem dX6_greatest_0 : decode cX6_greatest 0 = .ok (.aload_n 0, 1) := by decide +kernel
theorem dX6_greatest_1 : decode cX6_greatest 1 = .ok (.getfield 28, 3) := by decide +kernel
theorem dX6_greatest_4 : decode cX6_greatest 4 = .ok (.iload_n 1, 1) := by decide +kernel
theorem dX6_greatest_5 : decode cX6_greatest 5 = .ok (.invokevirtual 108, 3) := by decide +kernel
theorem dX6_greatest_8 : decode cX6_greatest 8 = .ok (.ifCond .ne 5, 3) := by decide +kernel
theorem dX6_greatest_11 : decode cX6_greatest 11 = .ok (.iconst (-1), 1) := by decide +kernel
theorem dX6_greatest_12 : decode cX6_greatest 12 = .ok (.ireturn, 1) := by decide +kernel
theorem dX6_greatest_13 : decode cX6_greatest 13 = .ok (.aload_n 0, 1) := by decide +kernel
theorem dX6_greatest_14 : decode cX6_greatest 14 = .ok (.iload_n 1, 1) := by decide +kernel
theorem dX6_greatest_15 : decode cX6_greatest 15 = .ok (.invokevirtual 194, 3) := by decide +kernel
theorem dX6_greatest_18 : decode cX6_greatest 18 = .ok (.sipush 300, 3) := by decide +kernel
theorem dX6_greatest_21 : decode cX6_greatest 21 = .ok (.invokestatic 197, 3) := by decide +kernel
theorem dX6_greatest_24 : decode cX6_greatest 24 = .ok (.istore_n 2, 1) := by decide +kernel
theorem dX6_greatest_25 : decode cX6_greatest 25 = .ok (.iload_n 2, 1) := by decide +kernel
theorem dX6_greatest_26 : decode cX6_greatest 26 = .ok (.iconst 1, 1) := by decide +kernel
theorem dX6_greatest_27 : decode cX6_greatest 27 = .ok (.if_icmp .lt 7, 3) := by decide +kernel
theorem dX6_greatest_30 : decode cX6_greatest 30 = .ok (.iload_n 2, 1) := by decide +kernel
theorem dX6_greatest_31 : decode cX6_greatest 31 = .ok (.goto 5, 3) := by decide +kernel
theorem dX6_greatest_34 : decode cX6_greatest 34 = .ok (.bipush (-4), 2) := by decide +kernel
theorem dX6_greatest_36 : decode cX6_greatest 36 = .ok (.ireturn, 1) := by decide +kernel
theorem dX6_needs_0 : decode cX6_needs 0 = .ok (.aload_n 0, 1) := by decide +kernel
theorem dX6_needs_1 : decode cX6_needs 1 = .ok (.getfield 28, 3) := by decide +kernel
theorem dX6_needs_4 : decode cX6_needs 4 = .ok (.iload_n 1, 1) := by decide +kernel
theorem dX6_needs_5 : decode cX6_needs 5 = .ok (.invokevirtual 108, 3) := by decide +kernel
theorem dX6_needs_8 : decode cX6_needs 8 = .ok (.ifCond .ne 5, 3) := by decide +kernel
theorem dX6_needs_11 : decode cX6_needs 11 = .ok (.iconst (-1), 1) := by decide +kernel
theorem dX6_needs_12 : decode cX6_needs 12 = .ok (.ireturn, 1) := by decide +kernel
theorem dX6_needs_13 : decode cX6_needs 13 = .ok (.aload_n 0, 1) := by decide +kernel
theorem dX6_needs_14 : decode cX6_needs 14 = .ok (.getfield 28, 3) := by decide +kernel
theorem dX6_needs_17 : decode cX6_needs 17 = .ok (.iload_n 1, 1) := by decide +kernel
theorem dX6_needs_18 : decode cX6_needs 18 = .ok (.invokevirtual 128, 3) := by decide +kernel
theorem dX6_needs_21 : decode cX6_needs 21 = .ok (.istore_n 2, 1) := by decide +kernel
theorem dX6_needs_22 : decode cX6_needs 22 = .ok (.iload_n 2, 1) := by decide +kernel
theorem dX6_needs_23 : decode cX6_needs 23 = .ok (.ifCond .ne 6, 3) := by decide +kernel
theorem dX6_needs_26 : decode cX6_needs 26 = .ok (.bipush (-4), 2) := by decide +kernel
theorem dX6_needs_28 : decode cX6_needs 28 = .ok (.ireturn, 1) := by decide +kernel
theorem dX6_needs_29 : decode cX6_needs 29 = .ok (.iload_n 2, 1) := by decide +kernel
theorem dX6_needs_30 : decode cX6_needs 30 = .ok (.aload_n 0, 1) := by decide +kernel
theorem dX6_needs_31 : decode cX6_needs 31 = .ok (.iload_n 1, 1) := by decide +kernel
theorem dX6_needs_32 : decode cX6_needs 32 = .ok (.invokevirtual 194, 3) := by decide +kernel
theorem dX6_needs_35 : decode cX6_needs 35 = .ok (.isub, 1) := by decide +kernel
theorem dX6_needs_36 : decode cX6_needs 36 = .ok (.iconst 0, 1) := by decide +kernel
theorem dX6_needs_37 : decode cX6_needs 37 = .ok (.invokestatic 203, 3) := by decide +kernel
theorem dX6_needs_40 : decode cX6_needs 40 = .ok (.istore_n 3, 1) := by decide +kernel
theorem dX6_needs_41 : decode cX6_needs 41 = .ok (.iload_n 3, 1) := by decide +kernel
theorem dX6_needs_42 : decode cX6_needs 42 = .ok (.sipush 300, 3) := by decide +kernel
theorem dX6_needs_45 : decode cX6_needs 45 = .ok (.if_icmp .gt 7, 3) := by decide +kernel
theorem dX6_needs_48 : decode cX6_needs 48 = .ok (.iload_n 3, 1) := by decide +kernel
theorem dX6_needs_49 : decode cX6_needs 49 = .ok (.goto 5, 3) := by decide +kernel
theorem dX6_needs_52 : decode cX6_needs 52 = .ok (.bipush (-4), 2) := by decide +kernel
theorem dX6_needs_54 : decode cX6_needs 54 = .ok (.ireturn, 1) := by decide +kernel
theorem dX6_mend_0 : decode cX6_mend 0 = .ok (.iload_n 1, 1) := by decide +kernel
theorem dX6_mend_1 : decode cX6_mend 1 = .ok (.ifCond .eq 10, 3) := by decide +kernel
theorem dX6_mend_4 : decode cX6_mend 4 = .ok (.iload_n 1, 1) := by decide +kernel
theorem dX6_mend_5 : decode cX6_mend 5 = .ok (.iconst 1, 1) := by decide +kernel
theorem dX6_mend_6 : decode cX6_mend 6 = .ok (.if_icmp .eq 5, 3) := by decide +kernel
theorem dX6_mend_9 : decode cX6_mend 9 = .ok (.iconst (-1), 1) := by decide +kernel
theorem dX6_mend_10 : decode cX6_mend 10 = .ok (.ireturn, 1) := by decide +kernel
theorem dX6_mend_11 : decode cX6_mend 11 = .ok (.bipush (-4), 2) := by decide +kernel
theorem dX6_mend_13 : decode cX6_mend 13 = .ok (.istore_n 2, 1) := by decide +kernel
theorem dX6_mend_14 : decode cX6_mend 14 = .ok (.bipush (-4), 2) := by decide +kernel
theorem dX6_mend_16 : decode cX6_mend 16 = .ok (.istore_n 3, 1) := by decide +kernel
theorem dX6_mend_17 : decode cX6_mend 17 = .ok (.iconst 0, 1) := by decide +kernel
theorem dX6_mend_18 : decode cX6_mend 18 = .ok (.istore 4, 2) := by decide +kernel
theorem dX6_mend_20 : decode cX6_mend 20 = .ok (.iload 4, 2) := by decide +kernel
theorem dX6_mend_22 : decode cX6_mend 22 = .ok (.aload_n 0, 1) := by decide +kernel
theorem dX6_mend_23 : decode cX6_mend 23 = .ok (.getfield 28, 3) := by decide +kernel
theorem dX6_mend_26 : decode cX6_mend 26 = .ok (.getfield 206, 3) := by decide +kernel
theorem dX6_mend_29 : decode cX6_mend 29 = .ok (.if_icmp .ge 60, 3) := by decide +kernel
theorem dX6_mend_32 : decode cX6_mend 32 = .ok (.aload_n 0, 1) := by decide +kernel
theorem dX6_mend_33 : decode cX6_mend 33 = .ok (.getfield 45, 3) := by decide +kernel
theorem dX6_mend_36 : decode cX6_mend 36 = .ok (.aload_n 0, 1) := by decide +kernel
theorem dX6_mend_37 : decode cX6_mend 37 = .ok (.getfield 28, 3) := by decide +kernel
theorem dX6_mend_40 : decode cX6_mend 40 = .ok (.invokevirtual 103, 3) := by decide +kernel
theorem dX6_mend_43 : decode cX6_mend 43 = .ok (.aload_n 0, 1) := by decide +kernel
theorem dX6_mend_44 : decode cX6_mend 44 = .ok (.getfield 45, 3) := by decide +kernel
theorem dX6_mend_47 : decode cX6_mend 47 = .ok (.iload 4, 2) := by decide +kernel
theorem dX6_mend_49 : decode cX6_mend 49 = .ok (.invokevirtual 209, 3) := by decide +kernel
theorem dX6_mend_52 : decode cX6_mend 52 = .ok (.aload_n 0, 1) := by decide +kernel
theorem dX6_mend_53 : decode cX6_mend 53 = .ok (.getfield 48, 3) := by decide +kernel
theorem dX6_mend_56 : decode cX6_mend 56 = .ok (.invokevirtual 213, 3) := by decide +kernel
theorem dX6_mend_59 : decode cX6_mend 59 = .ok (.aload_n 0, 1) := by decide +kernel
theorem dX6_mend_60 : decode cX6_mend 60 = .ok (.getfield 48, 3) := by decide +kernel
theorem dX6_mend_63 : decode cX6_mend 63 = .ok (.getfield 172, 3) := by decide +kernel
theorem dX6_mend_66 : decode cX6_mend 66 = .ok (.invokestatic 216, 3) := by decide +kernel
theorem dX6_mend_69 : decode cX6_mend 69 = .ok (.istore 5, 2) := by decide +kernel
theorem dX6_mend_71 : decode cX6_mend 71 = .ok (.iload 5, 2) := by decide +kernel
theorem dX6_mend_73 : decode cX6_mend 73 = .ok (.iload_n 3, 1) := by decide +kernel
theorem dX6_mend_74 : decode cX6_mend 74 = .ok (.if_icmp .le 9, 3) := by decide +kernel
theorem dX6_mend_77 : decode cX6_mend 77 = .ok (.iload 4, 2) := by decide +kernel
theorem dX6_mend_79 : decode cX6_mend 79 = .ok (.istore_n 2, 1) := by decide +kernel
theorem dX6_mend_80 : decode cX6_mend 80 = .ok (.iload 5, 2) := by decide +kernel
theorem dX6_mend_82 : decode cX6_mend 82 = .ok (.istore_n 3, 1) := by decide +kernel
theorem dX6_mend_83 : decode cX6_mend 83 = .ok (.iinc 4 1, 3) := by decide +kernel
theorem dX6_mend_86 : decode cX6_mend 86 = .ok (.goto (-66), 3) := by decide +kernel
theorem dX6_mend_89 : decode cX6_mend 89 = .ok (.iload_n 1, 1) := by decide +kernel
theorem dX6_mend_90 : decode cX6_mend 90 = .ok (.ifCond .ne 7, 3) := by decide +kernel
theorem dX6_mend_93 : decode cX6_mend 93 = .ok (.iload_n 2, 1) := by decide +kernel
theorem dX6_mend_94 : decode cX6_mend 94 = .ok (.goto 4, 3) := by decide +kernel
theorem dX6_mend_97 : decode cX6_mend 97 = .ok (.iload_n 3, 1) := by decide +kernel
theorem dX6_mend_98 : decode cX6_mend 98 = .ok (.ireturn, 1) := by decide +kernel
theorem dX6_limits_0 : decode cX6_limits 0 = .ok (.iload_n 1, 1) := by decide +kernel
theorem dX6_limits_1 : decode cX6_limits 1 = .ok (.bipush 20, 2) := by decide +kernel
theorem dX6_limits_3 : decode cX6_limits 3 = .ok (.bipush 99, 2) := by decide +kernel
theorem dX6_limits_5 : decode cX6_limits 5 = .ok (.invokestatic 144, 3) := by decide +kernel
theorem dX6_limits_8 : decode cX6_limits 8 = .ok (.ifCond .ne 5, 3) := by decide +kernel
theorem dX6_limits_11 : decode cX6_limits 11 = .ok (.iconst (-1), 1) := by decide +kernel
theorem dX6_limits_12 : decode cX6_limits 12 = .ok (.ireturn, 1) := by decide +kernel
theorem dX6_limits_13 : decode cX6_limits 13 = .ok (.aload_n 0, 1) := by decide +kernel
theorem dX6_limits_14 : decode cX6_limits 14 = .ok (.getfield 45, 3) := by decide +kernel
theorem dX6_limits_17 : decode cX6_limits 17 = .ok (.aload_n 0, 1) := by decide +kernel
theorem dX6_limits_18 : decode cX6_limits 18 = .ok (.getfield 28, 3) := by decide +kernel
theorem dX6_limits_21 : decode cX6_limits 21 = .ok (.invokevirtual 103, 3) := by decide +kernel
theorem dX6_limits_24 : decode cX6_limits 24 = .ok (.iconst 0, 1) := by decide +kernel
theorem dX6_limits_25 : decode cX6_limits 25 = .ok (.istore_n 2, 1) := by decide +kernel
theorem dX6_limits_26 : decode cX6_limits 26 = .ok (.iload_n 2, 1) := by decide +kernel
theorem dX6_limits_27 : decode cX6_limits 27 = .ok (.aload_n 0, 1) := by decide +kernel
theorem dX6_limits_28 : decode cX6_limits 28 = .ok (.getfield 45, 3) := by decide +kernel
theorem dX6_limits_31 : decode cX6_limits 31 = .ok (.getfield 100, 3) := by decide +kernel
theorem dX6_limits_34 : decode cX6_limits 34 = .ok (.if_icmp .ge 19, 3) := by decide +kernel
theorem dX6_limits_37 : decode cX6_limits 37 = .ok (.aload_n 0, 1) := by decide +kernel
theorem dX6_limits_38 : decode cX6_limits 38 = .ok (.getfield 45, 3) := by decide +kernel
theorem dX6_limits_41 : decode cX6_limits 41 = .ok (.getfield 119, 3) := by decide +kernel
theorem dX6_limits_44 : decode cX6_limits 44 = .ok (.iload_n 2, 1) := by decide +kernel
theorem dX6_limits_45 : decode cX6_limits 45 = .ok (.iload_n 1, 1) := by decide +kernel
theorem dX6_limits_46 : decode cX6_limits 46 = .ok (.iastore, 1) := by decide +kernel
theorem dX6_limits_47 : decode cX6_limits 47 = .ok (.iinc 2 1, 3) := by decide +kernel
theorem dX6_limits_50 : decode cX6_limits 50 = .ok (.goto (-24), 3) := by decide +kernel
theorem dX6_limits_53 : decode cX6_limits 53 = .ok (.aload_n 0, 1) := by decide +kernel
theorem dX6_limits_54 : decode cX6_limits 54 = .ok (.getfield 48, 3) := by decide +kernel
theorem dX6_limits_57 : decode cX6_limits 57 = .ok (.invokevirtual 213, 3) := by decide +kernel
theorem dX6_limits_60 : decode cX6_limits 60 = .ok (.aload_n 0, 1) := by decide +kernel
theorem dX6_limits_61 : decode cX6_limits 61 = .ok (.getfield 48, 3) := by decide +kernel
theorem dX6_limits_64 : decode cX6_limits 64 = .ok (.getfield 172, 3) := by decide +kernel
theorem dX6_limits_67 : decode cX6_limits 67 = .ok (.invokestatic 216, 3) := by decide +kernel
theorem dX6_limits_70 : decode cX6_limits 70 = .ok (.ireturn, 1) := by decide +kernel
theorem dX6_ring_0 : decode cX6_ring 0 = .ok (.aload_n 0, 1) := by decide +kernel
theorem dX6_ring_1 : decode cX6_ring 1 = .ok (.getfield 28, 3) := by decide +kernel
theorem dX6_ring_4 : decode cX6_ring 4 = .ok (.iload_n 1, 1) := by decide +kernel
theorem dX6_ring_5 : decode cX6_ring 5 = .ok (.invokevirtual 108, 3) := by decide +kernel
theorem dX6_ring_8 : decode cX6_ring 8 = .ok (.ifCond .eq 11, 3) := by decide +kernel
theorem dX6_ring_11 : decode cX6_ring 11 = .ok (.aload_n 0, 1) := by decide +kernel
theorem dX6_ring_12 : decode cX6_ring 12 = .ok (.iload_n 1, 1) := by decide +kernel
theorem dX6_ring_13 : decode cX6_ring 13 = .ok (.invokevirtual 221, 3) := by decide +kernel
theorem dX6_ring_16 : decode cX6_ring 16 = .ok (.goto 4, 3) := by decide +kernel
theorem dX6_ring_19 : decode cX6_ring 19 = .ok (.iconst (-1), 1) := by decide +kernel
theorem dX6_ring_20 : decode cX6_ring 20 = .ok (.ireturn, 1) := by decide +kernel
theorem dX6_owes_0 : decode cX6_owes 0 = .ok (.aload_n 0, 1) := by decide +kernel
theorem dX6_owes_1 : decode cX6_owes 1 = .ok (.getfield 28, 3) := by decide +kernel
theorem dX6_owes_4 : decode cX6_owes 4 = .ok (.iload_n 1, 1) := by decide +kernel
theorem dX6_owes_5 : decode cX6_owes 5 = .ok (.invokevirtual 108, 3) := by decide +kernel
theorem dX6_owes_8 : decode cX6_owes 8 = .ok (.ifCond .ne 5, 3) := by decide +kernel
theorem dX6_owes_11 : decode cX6_owes 11 = .ok (.iconst (-1), 1) := by decide +kernel
theorem dX6_owes_12 : decode cX6_owes 12 = .ok (.ireturn, 1) := by decide +kernel
theorem dX6_owes_13 : decode cX6_owes 13 = .ok (.aload_n 0, 1) := by decide +kernel
theorem dX6_owes_14 : decode cX6_owes 14 = .ok (.getfield 28, 3) := by decide +kernel
theorem dX6_owes_17 : decode cX6_owes 17 = .ok (.iload_n 1, 1) := by decide +kernel
theorem dX6_owes_18 : decode cX6_owes 18 = .ok (.invokevirtual 128, 3) := by decide +kernel
theorem dX6_owes_21 : decode cX6_owes 21 = .ok (.aload_n 0, 1) := by decide +kernel
theorem dX6_owes_22 : decode cX6_owes 22 = .ok (.getfield 28, 3) := by decide +kernel
theorem dX6_owes_25 : decode cX6_owes 25 = .ok (.iload_n 1, 1) := by decide +kernel
theorem dX6_owes_26 : decode cX6_owes 26 = .ok (.invokevirtual 224, 3) := by decide +kernel
theorem dX6_owes_29 : decode cX6_owes 29 = .ok (.isub, 1) := by decide +kernel
theorem dX6_owes_30 : decode cX6_owes 30 = .ok (.sipush 1000, 3) := by decide +kernel
theorem dX6_owes_33 : decode cX6_owes 33 = .ok (.iadd, 1) := by decide +kernel
theorem dX6_owes_34 : decode cX6_owes 34 = .ok (.ireturn, 1) := by decide +kernel
theorem dX6_seen_0 : decode cX6_seen 0 = .ok (.aload_n 0, 1) := by decide +kernel
theorem dX6_seen_1 : decode cX6_seen 1 = .ok (.getfield 28, 3) := by decide +kernel
theorem dX6_seen_4 : decode cX6_seen 4 = .ok (.iload_n 1, 1) := by decide +kernel
theorem dX6_seen_5 : decode cX6_seen 5 = .ok (.invokevirtual 108, 3) := by decide +kernel
theorem dX6_seen_8 : decode cX6_seen 8 = .ok (.ifCond .eq 25, 3) := by decide +kernel
theorem dX6_seen_11 : decode cX6_seen 11 = .ok (.iload_n 2, 1) := by decide +kernel
theorem dX6_seen_12 : decode cX6_seen 12 = .ok (.iconst 0, 1) := by decide +kernel
theorem dX6_seen_13 : decode cX6_seen 13 = .ok (.sipush 150, 3) := by decide +kernel
theorem dX6_seen_16 : decode cX6_seen 16 = .ok (.invokestatic 144, 3) := by decide +kernel
theorem dX6_seen_19 : decode cX6_seen 19 = .ok (.ifCond .eq 14, 3) := by decide +kernel
theorem dX6_seen_22 : decode cX6_seen 22 = .ok (.iload_n 3, 1) := by decide +kernel
theorem dX6_seen_23 : decode cX6_seen 23 = .ok (.iconst 0, 1) := by decide +kernel
theorem dX6_seen_24 : decode cX6_seen 24 = .ok (.sipush 999, 3) := by decide +kernel
theorem dX6_seen_27 : decode cX6_seen 27 = .ok (.invokestatic 144, 3) := by decide +kernel
theorem dX6_seen_30 : decode cX6_seen 30 = .ok (.ifCond .ne 5, 3) := by decide +kernel
theorem dX6_seen_33 : decode cX6_seen 33 = .ok (.iconst (-1), 1) := by decide +kernel
theorem dX6_seen_34 : decode cX6_seen 34 = .ok (.ireturn, 1) := by decide +kernel
theorem dX6_seen_35 : decode cX6_seen 35 = .ok (.aload_n 0, 1) := by decide +kernel
theorem dX6_seen_36 : decode cX6_seen 36 = .ok (.getfield 61, 3) := by decide +kernel
theorem dX6_seen_39 : decode cX6_seen 39 = .ok (.iload_n 1, 1) := by decide +kernel
theorem dX6_seen_40 : decode cX6_seen 40 = .ok (.iload_n 2, 1) := by decide +kernel
theorem dX6_seen_41 : decode cX6_seen 41 = .ok (.iload_n 3, 1) := by decide +kernel
theorem dX6_seen_42 : decode cX6_seen 42 = .ok (.invokevirtual 227, 3) := by decide +kernel
theorem dX6_seen_45 : decode cX6_seen 45 = .ok (.ifCond .eq 13, 3) := by decide +kernel
theorem dX6_seen_48 : decode cX6_seen 48 = .ok (.aload_n 0, 1) := by decide +kernel
theorem dX6_seen_49 : decode cX6_seen 49 = .ok (.getfield 61, 3) := by decide +kernel
theorem dX6_seen_52 : decode cX6_seen 52 = .ok (.getfield 230, 3) := by decide +kernel
theorem dX6_seen_55 : decode cX6_seen 55 = .ok (.goto 5, 3) := by decide +kernel
theorem dX6_seen_58 : decode cX6_seen 58 = .ok (.bipush (-3), 2) := by decide +kernel
theorem dX6_seen_60 : decode cX6_seen 60 = .ok (.ireturn, 1) := by decide +kernel
theorem dX6_forget_0 : decode cX6_forget 0 = .ok (.aload_n 0, 1) := by decide +kernel
theorem dX6_forget_1 : decode cX6_forget 1 = .ok (.getfield 61, 3) := by decide +kernel
theorem dX6_forget_4 : decode cX6_forget 4 = .ok (.getfield 230, 3) := by decide +kernel
theorem dX6_forget_7 : decode cX6_forget 7 = .ok (.istore_n 1, 1) := by decide +kernel
theorem dX6_forget_8 : decode cX6_forget 8 = .ok (.aload_n 0, 1) := by decide +kernel
theorem dX6_forget_9 : decode cX6_forget 9 = .ok (.getfield 61, 3) := by decide +kernel
theorem dX6_forget_12 : decode cX6_forget 12 = .ok (.invokevirtual 107, 3) := by decide +kernel
theorem dX6_forget_15 : decode cX6_forget 15 = .ok (.iload_n 1, 1) := by decide +kernel
theorem dX6_forget_16 : decode cX6_forget 16 = .ok (.ireturn, 1) := by decide +kernel
theorem dX6_kinds_0 : decode cX6_kinds 0 = .ok (.aload_n 0, 1) := by decide +kernel
theorem dX6_kinds_1 : decode cX6_kinds 1 = .ok (.getfield 28, 3) := by decide +kernel
theorem dX6_kinds_4 : decode cX6_kinds 4 = .ok (.iload_n 1, 1) := by decide +kernel
theorem dX6_kinds_5 : decode cX6_kinds 5 = .ok (.invokevirtual 108, 3) := by decide +kernel
theorem dX6_kinds_8 : decode cX6_kinds 8 = .ok (.ifCond .ne 5, 3) := by decide +kernel
theorem dX6_kinds_11 : decode cX6_kinds 11 = .ok (.iconst (-1), 1) := by decide +kernel
theorem dX6_kinds_12 : decode cX6_kinds 12 = .ok (.ireturn, 1) := by decide +kernel
theorem dX6_kinds_13 : decode cX6_kinds 13 = .ok (.iconst 0, 1) := by decide +kernel
theorem dX6_kinds_14 : decode cX6_kinds 14 = .ok (.istore_n 2, 1) := by decide +kernel
theorem dX6_kinds_15 : decode cX6_kinds 15 = .ok (.iconst 0, 1) := by decide +kernel
theorem dX6_kinds_16 : decode cX6_kinds 16 = .ok (.istore_n 3, 1) := by decide +kernel
theorem dX6_kinds_17 : decode cX6_kinds 17 = .ok (.iload_n 3, 1) := by decide +kernel
theorem dX6_kinds_18 : decode cX6_kinds 18 = .ok (.iconst 4, 1) := by decide +kernel
theorem dX6_kinds_19 : decode cX6_kinds 19 = .ok (.if_icmp .ge 58, 3) := by decide +kernel
theorem dX6_kinds_22 : decode cX6_kinds 22 = .ok (.aload_n 0, 1) := by decide +kernel
theorem dX6_kinds_23 : decode cX6_kinds 23 = .ok (.getfield 45, 3) := by decide +kernel
theorem dX6_kinds_26 : decode cX6_kinds 26 = .ok (.aload_n 0, 1) := by decide +kernel
theorem dX6_kinds_27 : decode cX6_kinds 27 = .ok (.getfield 28, 3) := by decide +kernel
theorem dX6_kinds_30 : decode cX6_kinds 30 = .ok (.invokevirtual 103, 3) := by decide +kernel
theorem dX6_kinds_33 : decode cX6_kinds 33 = .ok (.aload_n 0, 1) := by decide +kernel
theorem dX6_kinds_34 : decode cX6_kinds 34 = .ok (.getfield 45, 3) := by decide +kernel
theorem dX6_kinds_37 : decode cX6_kinds 37 = .ok (.getfield 122, 3) := by decide +kernel
theorem dX6_kinds_40 : decode cX6_kinds 40 = .ok (.iload_n 1, 1) := by decide +kernel
theorem dX6_kinds_41 : decode cX6_kinds 41 = .ok (.iload_n 3, 1) := by decide +kernel
theorem dX6_kinds_42 : decode cX6_kinds 42 = .ok (.iastore, 1) := by decide +kernel
theorem dX6_kinds_43 : decode cX6_kinds 43 = .ok (.aload_n 0, 1) := by decide +kernel
theorem dX6_kinds_44 : decode cX6_kinds 44 = .ok (.getfield 48, 3) := by decide +kernel
theorem dX6_kinds_47 : decode cX6_kinds 47 = .ok (.invokevirtual 213, 3) := by decide +kernel
theorem dX6_kinds_50 : decode cX6_kinds 50 = .ok (.aload_n 0, 1) := by decide +kernel
theorem dX6_kinds_51 : decode cX6_kinds 51 = .ok (.getfield 61, 3) := by decide +kernel
theorem dX6_kinds_54 : decode cX6_kinds 54 = .ok (.iload_n 1, 1) := by decide +kernel
theorem dX6_kinds_55 : decode cX6_kinds 55 = .ok (.aload_n 0, 1) := by decide +kernel
theorem dX6_kinds_56 : decode cX6_kinds 56 = .ok (.getfield 48, 3) := by decide +kernel
theorem dX6_kinds_59 : decode cX6_kinds 59 = .ok (.invokevirtual 232, 3) := by decide +kernel
theorem dX6_kinds_62 : decode cX6_kinds 62 = .ok (.ifCond .eq 9, 3) := by decide +kernel
theorem dX6_kinds_65 : decode cX6_kinds 65 = .ok (.iload_n 2, 1) := by decide +kernel
theorem dX6_kinds_66 : decode cX6_kinds 66 = .ok (.iconst 1, 1) := by decide +kernel
theorem dX6_kinds_67 : decode cX6_kinds 67 = .ok (.iload_n 3, 1) := by decide +kernel
theorem dX6_kinds_68 : decode cX6_kinds 68 = .ok (.ishl, 1) := by decide +kernel
theorem dX6_kinds_69 : decode cX6_kinds 69 = .ok (.ior, 1) := by decide +kernel
theorem dX6_kinds_70 : decode cX6_kinds 70 = .ok (.istore_n 2, 1) := by decide +kernel
theorem dX6_kinds_71 : decode cX6_kinds 71 = .ok (.iinc 3 1, 3) := by decide +kernel
theorem dX6_kinds_74 : decode cX6_kinds 74 = .ok (.goto (-57), 3) := by decide +kernel
theorem dX6_kinds_77 : decode cX6_kinds 77 = .ok (.iload_n 2, 1) := by decide +kernel
theorem dX6_kinds_78 : decode cX6_kinds 78 = .ok (.ireturn, 1) := by decide +kernel
theorem dX6_odds_0 : decode cX6_odds 0 = .ok (.aload_n 0, 1) := by decide +kernel
theorem dX6_odds_1 : decode cX6_odds 1 = .ok (.getfield 28, 3) := by decide +kernel
theorem dX6_odds_4 : decode cX6_odds 4 = .ok (.iload_n 1, 1) := by decide +kernel
theorem dX6_odds_5 : decode cX6_odds 5 = .ok (.invokevirtual 108, 3) := by decide +kernel
theorem dX6_odds_8 : decode cX6_odds 8 = .ok (.ifCond .eq 24, 3) := by decide +kernel
theorem dX6_odds_11 : decode cX6_odds 11 = .ok (.iload_n 2, 1) := by decide +kernel
theorem dX6_odds_12 : decode cX6_odds 12 = .ok (.iconst 0, 1) := by decide +kernel
theorem dX6_odds_13 : decode cX6_odds 13 = .ok (.bipush 10, 2) := by decide +kernel
theorem dX6_odds_15 : decode cX6_odds 15 = .ok (.invokestatic 144, 3) := by decide +kernel
theorem dX6_odds_18 : decode cX6_odds 18 = .ok (.ifCond .eq 14, 3) := by decide +kernel
theorem dX6_odds_21 : decode cX6_odds 21 = .ok (.iload_n 3, 1) := by decide +kernel
theorem dX6_odds_22 : decode cX6_odds 22 = .ok (.iconst 0, 1) := by decide +kernel
theorem dX6_odds_23 : decode cX6_odds 23 = .ok (.sipush 200, 3) := by decide +kernel
theorem dX6_odds_26 : decode cX6_odds 26 = .ok (.invokestatic 144, 3) := by decide +kernel
theorem dX6_odds_29 : decode cX6_odds 29 = .ok (.ifCond .ne 5, 3) := by decide +kernel
theorem dX6_odds_32 : decode cX6_odds 32 = .ok (.iconst (-1), 1) := by decide +kernel
theorem dX6_odds_33 : decode cX6_odds 33 = .ok (.ireturn, 1) := by decide +kernel
theorem dX6_odds_34 : decode cX6_odds 34 = .ok (.iload 4, 2) := by decide +kernel
theorem dX6_odds_36 : decode cX6_odds 36 = .ok (.ifCond .eq 11, 3) := by decide +kernel
theorem dX6_odds_39 : decode cX6_odds 39 = .ok (.iload 4, 2) := by decide +kernel
theorem dX6_odds_41 : decode cX6_odds 41 = .ok (.iconst 1, 1) := by decide +kernel
theorem dX6_odds_42 : decode cX6_odds 42 = .ok (.if_icmp .eq 5, 3) := by decide +kernel
theorem dX6_odds_45 : decode cX6_odds 45 = .ok (.iconst (-1), 1) := by decide +kernel
theorem dX6_odds_46 : decode cX6_odds 46 = .ok (.ireturn, 1) := by decide +kernel
theorem dX6_odds_47 : decode cX6_odds 47 = .ok (.iload_n 2, 1) := by decide +kernel
theorem dX6_odds_48 : decode cX6_odds 48 = .ok (.iconst 2, 1) := by decide +kernel
theorem dX6_odds_49 : decode cX6_odds 49 = .ok (.aload_n 0, 1) := by decide +kernel
theorem dX6_odds_50 : decode cX6_odds 50 = .ok (.getfield 28, 3) := by decide +kernel
theorem dX6_odds_53 : decode cX6_odds 53 = .ok (.getfield 116, 3) := by decide +kernel
theorem dX6_odds_56 : decode cX6_odds 56 = .ok (.iload_n 1, 1) := by decide +kernel
theorem dX6_odds_57 : decode cX6_odds 57 = .ok (.iaload, 1) := by decide +kernel
theorem dX6_odds_58 : decode cX6_odds 58 = .ok (.imul, 1) := by decide +kernel
theorem dX6_odds_59 : decode cX6_odds 59 = .ok (.iload_n 3, 1) := by decide +kernel
theorem dX6_odds_60 : decode cX6_odds 60 = .ok (.invokestatic 236, 3) := by decide +kernel
theorem dX6_odds_63 : decode cX6_odds 63 = .ok (.istore 5, 2) := by decide +kernel
theorem dX6_odds_65 : decode cX6_odds 65 = .ok (.iconst 1, 1) := by decide +kernel
theorem dX6_odds_66 : decode cX6_odds 66 = .ok (.iload_n 2, 1) := by decide +kernel
theorem dX6_odds_67 : decode cX6_odds 67 = .ok (.ishl, 1) := by decide +kernel
theorem dX6_odds_68 : decode cX6_odds 68 = .ok (.istore 6, 2) := by decide +kernel
theorem dX6_odds_70 : decode cX6_odds 70 = .ok (.iconst 0, 1) := by decide +kernel
theorem dX6_odds_71 : decode cX6_odds 71 = .ok (.istore 7, 2) := by decide +kernel
theorem dX6_odds_73 : decode cX6_odds 73 = .ok (.iload 7, 2) := by decide +kernel
theorem dX6_odds_75 : decode cX6_odds 75 = .ok (.iload_n 2, 1) := by decide +kernel
theorem dX6_odds_76 : decode cX6_odds 76 = .ok (.if_icmp .ge 28, 3) := by decide +kernel
theorem dX6_odds_79 : decode cX6_odds 79 = .ok (.iload 5, 2) := by decide +kernel
theorem dX6_odds_81 : decode cX6_odds 81 = .ok (.iconst 2, 1) := by decide +kernel
theorem dX6_odds_82 : decode cX6_odds 82 = .ok (.irem, 1) := by decide +kernel
theorem dX6_odds_83 : decode cX6_odds 83 = .ok (.ifCond .ne 21, 3) := by decide +kernel
theorem dX6_odds_86 : decode cX6_odds 86 = .ok (.iload 5, 2) := by decide +kernel
theorem dX6_odds_88 : decode cX6_odds 88 = .ok (.iconst 2, 1) := by decide +kernel
theorem dX6_odds_89 : decode cX6_odds 89 = .ok (.idiv, 1) := by decide +kernel
theorem dX6_odds_90 : decode cX6_odds 90 = .ok (.istore 5, 2) := by decide +kernel
theorem dX6_odds_92 : decode cX6_odds 92 = .ok (.iload 6, 2) := by decide +kernel
theorem dX6_odds_94 : decode cX6_odds 94 = .ok (.iconst 2, 1) := by decide +kernel
theorem dX6_odds_95 : decode cX6_odds 95 = .ok (.idiv, 1) := by decide +kernel
theorem dX6_odds_96 : decode cX6_odds 96 = .ok (.istore 6, 2) := by decide +kernel
theorem dX6_odds_98 : decode cX6_odds 98 = .ok (.iinc 7 1, 3) := by decide +kernel
theorem dX6_odds_101 : decode cX6_odds 101 = .ok (.goto (-28), 3) := by decide +kernel
theorem dX6_odds_104 : decode cX6_odds 104 = .ok (.iload 4, 2) := by decide +kernel
theorem dX6_odds_106 : decode cX6_odds 106 = .ok (.ifCond .ne 8, 3) := by decide +kernel
theorem dX6_odds_109 : decode cX6_odds 109 = .ok (.iload 5, 2) := by decide +kernel
theorem dX6_odds_111 : decode cX6_odds 111 = .ok (.goto 5, 3) := by decide +kernel
theorem dX6_odds_114 : decode cX6_odds 114 = .ok (.iload 6, 2) := by decide +kernel
theorem dX6_odds_116 : decode cX6_odds 116 = .ok (.ireturn, 1) := by decide +kernel
theorem dX6_generations_0 : decode cX6_generations 0 = .ok (.iload_n 1, 1) := by decide +kernel
theorem dX6_generations_1 : decode cX6_generations 1 = .ok (.iconst 0, 1) := by decide +kernel
theorem dX6_generations_2 : decode cX6_generations 2 = .ok (.bipush 99, 2) := by decide +kernel
theorem dX6_generations_4 : decode cX6_generations 4 = .ok (.invokestatic 144, 3) := by decide +kernel
theorem dX6_generations_7 : decode cX6_generations 7 = .ok (.ifCond .eq 12, 3) := by decide +kernel
theorem dX6_generations_10 : decode cX6_generations 10 = .ok (.iload_n 2, 1) := by decide +kernel
theorem dX6_generations_11 : decode cX6_generations 11 = .ok (.ifCond .eq 10, 3) := by decide +kernel
theorem dX6_generations_14 : decode cX6_generations 14 = .ok (.iload_n 2, 1) := by decide +kernel
theorem dX6_generations_15 : decode cX6_generations 15 = .ok (.iconst 1, 1) := by decide +kernel
theorem dX6_generations_16 : decode cX6_generations 16 = .ok (.if_icmp .eq 5, 3) := by decide +kernel
theorem dX6_generations_19 : decode cX6_generations 19 = .ok (.iconst (-1), 1) := by decide +kernel
theorem dX6_generations_20 : decode cX6_generations 20 = .ok (.ireturn, 1) := by decide +kernel
theorem dX6_generations_21 : decode cX6_generations 21 = .ok (.aload_n 0, 1) := by decide +kernel
theorem dX6_generations_22 : decode cX6_generations 22 = .ok (.getfield 45, 3) := by decide +kernel
theorem dX6_generations_25 : decode cX6_generations 25 = .ok (.aload_n 0, 1) := by decide +kernel
theorem dX6_generations_26 : decode cX6_generations 26 = .ok (.getfield 28, 3) := by decide +kernel
theorem dX6_generations_29 : decode cX6_generations 29 = .ok (.invokevirtual 103, 3) := by decide +kernel
theorem dX6_generations_32 : decode cX6_generations 32 = .ok (.aload_n 0, 1) := by decide +kernel
theorem dX6_generations_33 : decode cX6_generations 33 = .ok (.getfield 45, 3) := by decide +kernel
theorem dX6_generations_36 : decode cX6_generations 36 = .ok (.iload_n 1, 1) := by decide +kernel
theorem dX6_generations_37 : decode cX6_generations 37 = .ok (.putfield 240, 3) := by decide +kernel
theorem dX6_generations_40 : decode cX6_generations 40 = .ok (.aload_n 0, 1) := by decide +kernel
theorem dX6_generations_41 : decode cX6_generations 41 = .ok (.getfield 48, 3) := by decide +kernel
theorem dX6_generations_44 : decode cX6_generations 44 = .ok (.invokevirtual 213, 3) := by decide +kernel
theorem dX6_generations_47 : decode cX6_generations 47 = .ok (.iload_n 2, 1) := by decide +kernel
theorem dX6_generations_48 : decode cX6_generations 48 = .ok (.ifCond .ne 16, 3) := by decide +kernel
theorem dX6_generations_51 : decode cX6_generations 51 = .ok (.aload_n 0, 1) := by decide +kernel
theorem dX6_generations_52 : decode cX6_generations 52 = .ok (.getfield 48, 3) := by decide +kernel
theorem dX6_generations_55 : decode cX6_generations 55 = .ok (.getfield 172, 3) := by decide +kernel
theorem dX6_generations_58 : decode cX6_generations 58 = .ok (.invokestatic 216, 3) := by decide +kernel
theorem dX6_generations_61 : decode cX6_generations 61 = .ok (.goto 10, 3) := by decide +kernel
theorem dX6_generations_64 : decode cX6_generations 64 = .ok (.aload_n 0, 1) := by decide +kernel
theorem dX6_generations_65 : decode cX6_generations 65 = .ok (.getfield 48, 3) := by decide +kernel
theorem dX6_generations_68 : decode cX6_generations 68 = .ok (.invokevirtual 243, 3) := by decide +kernel
theorem dX6_generations_71 : decode cX6_generations 71 = .ok (.ireturn, 1) := by decide +kernel
theorem dX6_keep_0 : decode cX6_keep 0 = .ok (.aload_n 0, 1) := by decide +kernel
theorem dX6_keep_1 : decode cX6_keep 1 = .ok (.getfield 71, 3) := by decide +kernel
theorem dX6_keep_4 : decode cX6_keep 4 = .ok (.iconst 2, 1) := by decide +kernel
theorem dX6_keep_5 : decode cX6_keep 5 = .ok (.if_icmp .lt 6, 3) := by decide +kernel
theorem dX6_keep_8 : decode cX6_keep 8 = .ok (.bipush (-3), 2) := by decide +kernel
theorem dX6_keep_10 : decode cX6_keep 10 = .ok (.ireturn, 1) := by decide +kernel
theorem dX6_keep_11 : decode cX6_keep 11 = .ok (.aload_n 0, 1) := by decide +kernel
theorem dX6_keep_12 : decode cX6_keep 12 = .ok (.aload_n 0, 1) := by decide +kernel
theorem dX6_keep_13 : decode cX6_keep 13 = .ok (.getfield 71, 3) := by decide +kernel
theorem dX6_keep_16 : decode cX6_keep 16 = .ok (.invokevirtual 246, 3) := by decide +kernel
theorem dX6_keep_19 : decode cX6_keep 19 = .ok (.aload_n 0, 1) := by decide +kernel
theorem dX6_keep_20 : decode cX6_keep 20 = .ok (.getfield 28, 3) := by decide +kernel
theorem dX6_keep_23 : decode cX6_keep 23 = .ok (.invokevirtual 103, 3) := by decide +kernel
theorem dX6_keep_26 : decode cX6_keep 26 = .ok (.aload_n 0, 1) := by decide +kernel
theorem dX6_keep_27 : decode cX6_keep 27 = .ok (.dup, 1) := by decide +kernel
theorem dX6_keep_28 : decode cX6_keep 28 = .ok (.getfield 71, 3) := by decide +kernel
theorem dX6_keep_31 : decode cX6_keep 31 = .ok (.iconst 1, 1) := by decide +kernel
theorem dX6_keep_32 : decode cX6_keep 32 = .ok (.iadd, 1) := by decide +kernel
theorem dX6_keep_33 : decode cX6_keep 33 = .ok (.putfield 71, 3) := by decide +kernel
theorem dX6_keep_36 : decode cX6_keep 36 = .ok (.aload_n 0, 1) := by decide +kernel
theorem dX6_keep_37 : decode cX6_keep 37 = .ok (.getfield 71, 3) := by decide +kernel
theorem dX6_keep_40 : decode cX6_keep 40 = .ok (.ireturn, 1) := by decide +kernel
theorem dX6_back_0 : decode cX6_back 0 = .ok (.aload_n 0, 1) := by decide +kernel
theorem dX6_back_1 : decode cX6_back 1 = .ok (.getfield 71, 3) := by decide +kernel
theorem dX6_back_4 : decode cX6_back 4 = .ok (.ifCond .ne 6, 3) := by decide +kernel
theorem dX6_back_7 : decode cX6_back 7 = .ok (.bipush (-2), 2) := by decide +kernel
theorem dX6_back_9 : decode cX6_back 9 = .ok (.ireturn, 1) := by decide +kernel
theorem dX6_back_10 : decode cX6_back 10 = .ok (.aload_n 0, 1) := by decide +kernel
theorem dX6_back_11 : decode cX6_back 11 = .ok (.dup, 1) := by decide +kernel
theorem dX6_back_12 : decode cX6_back 12 = .ok (.getfield 71, 3) := by decide +kernel
theorem dX6_back_15 : decode cX6_back 15 = .ok (.iconst 1, 1) := by decide +kernel
theorem dX6_back_16 : decode cX6_back 16 = .ok (.isub, 1) := by decide +kernel
theorem dX6_back_17 : decode cX6_back 17 = .ok (.putfield 71, 3) := by decide +kernel
theorem dX6_back_20 : decode cX6_back 20 = .ok (.aload_n 0, 1) := by decide +kernel
theorem dX6_back_21 : decode cX6_back 21 = .ok (.getfield 28, 3) := by decide +kernel
theorem dX6_back_24 : decode cX6_back 24 = .ok (.aload_n 0, 1) := by decide +kernel
theorem dX6_back_25 : decode cX6_back 25 = .ok (.aload_n 0, 1) := by decide +kernel
theorem dX6_back_26 : decode cX6_back 26 = .ok (.getfield 71, 3) := by decide +kernel
theorem dX6_back_29 : decode cX6_back 29 = .ok (.invokevirtual 246, 3) := by decide +kernel
theorem dX6_back_32 : decode cX6_back 32 = .ok (.invokevirtual 103, 3) := by decide +kernel
theorem dX6_back_35 : decode cX6_back 35 = .ok (.aload_n 0, 1) := by decide +kernel
theorem dX6_back_36 : decode cX6_back 36 = .ok (.getfield 54, 3) := by decide +kernel
theorem dX6_back_39 : decode cX6_back 39 = .ok (.invokevirtual 106, 3) := by decide +kernel
theorem dX6_back_42 : decode cX6_back 42 = .ok (.aload_n 0, 1) := by decide +kernel
theorem dX6_back_43 : decode cX6_back 43 = .ok (.iconst 1, 1) := by decide +kernel
theorem dX6_back_44 : decode cX6_back 44 = .ok (.putfield 41, 3) := by decide +kernel
theorem dX6_back_47 : decode cX6_back 47 = .ok (.aload_n 0, 1) := by decide +kernel
theorem dX6_back_48 : decode cX6_back 48 = .ok (.getfield 71, 3) := by decide +kernel
theorem dX6_back_51 : decode cX6_back 51 = .ok (.ireturn, 1) := by decide +kernel
theorem dX6_count_0 : decode cX6_count 0 = .ok (.iload_n 1, 1) := by decide +kernel
theorem dX6_count_1 : decode cX6_count 1 = .ok (.tableswitch 96 0 6 #[43, 51, 59, 67, 75, 83, 88], 43) := by decide +kernel
theorem dX6_count_44 : decode cX6_count 44 = .ok (.aload_n 0, 1) := by decide +kernel
theorem dX6_count_45 : decode cX6_count 45 = .ok (.getfield 28, 3) := by decide +kernel
theorem dX6_count_48 : decode cX6_count 48 = .ok (.getfield 100, 3) := by decide +kernel
theorem dX6_count_51 : decode cX6_count 51 = .ok (.ireturn, 1) := by decide +kernel
theorem dX6_count_52 : decode cX6_count 52 = .ok (.aload_n 0, 1) := by decide +kernel
theorem dX6_count_53 : decode cX6_count 53 = .ok (.getfield 28, 3) := by decide +kernel
theorem dX6_count_56 : decode cX6_count 56 = .ok (.getfield 206, 3) := by decide +kernel
theorem dX6_count_59 : decode cX6_count 59 = .ok (.ireturn, 1) := by decide +kernel
theorem dX6_count_60 : decode cX6_count 60 = .ok (.aload_n 0, 1) := by decide +kernel
theorem dX6_count_61 : decode cX6_count 61 = .ok (.getfield 28, 3) := by decide +kernel
theorem dX6_count_64 : decode cX6_count 64 = .ok (.getfield 155, 3) := by decide +kernel
theorem dX6_count_67 : decode cX6_count 67 = .ok (.ireturn, 1) := by decide +kernel
theorem dX6_count_68 : decode cX6_count 68 = .ok (.aload_n 0, 1) := by decide +kernel
theorem dX6_count_69 : decode cX6_count 69 = .ok (.getfield 61, 3) := by decide +kernel
theorem dX6_count_72 : decode cX6_count 72 = .ok (.getfield 230, 3) := by decide +kernel
theorem dX6_count_75 : decode cX6_count 75 = .ok (.ireturn, 1) := by decide +kernel
theorem dX6_count_76 : decode cX6_count 76 = .ok (.aload_n 0, 1) := by decide +kernel
theorem dX6_count_77 : decode cX6_count 77 = .ok (.getfield 54, 3) := by decide +kernel
theorem dX6_count_80 : decode cX6_count 80 = .ok (.getfield 162, 3) := by decide +kernel
theorem dX6_count_83 : decode cX6_count 83 = .ok (.ireturn, 1) := by decide +kernel
theorem dX6_count_84 : decode cX6_count 84 = .ok (.aload_n 0, 1) := by decide +kernel
theorem dX6_count_85 : decode cX6_count 85 = .ok (.getfield 71, 3) := by decide +kernel
theorem dX6_count_88 : decode cX6_count 88 = .ok (.ireturn, 1) := by decide +kernel
theorem dX6_count_89 : decode cX6_count 89 = .ok (.aload_n 0, 1) := by decide +kernel
theorem dX6_count_90 : decode cX6_count 90 = .ok (.getfield 10, 3) := by decide +kernel
theorem dX6_count_93 : decode cX6_count 93 = .ok (.getfield 98, 3) := by decide +kernel
theorem dX6_count_96 : decode cX6_count 96 = .ok (.ireturn, 1) := by decide +kernel
theorem dX6_count_97 : decode cX6_count 97 = .ok (.iconst (-1), 1) := by decide +kernel
theorem dX6_count_98 : decode cX6_count 98 = .ok (.ireturn, 1) := by decide +kernel
theorem dX6_isWithin_0 : decode cX6_isWithin 0 = .ok (.iload_n 0, 1) := by decide +kernel
theorem dX6_isWithin_1 : decode cX6_isWithin 1 = .ok (.iload_n 1, 1) := by decide +kernel
theorem dX6_isWithin_2 : decode cX6_isWithin 2 = .ok (.if_icmp .lt 12, 3) := by decide +kernel
theorem dX6_isWithin_5 : decode cX6_isWithin 5 = .ok (.iload_n 0, 1) := by decide +kernel
theorem dX6_isWithin_6 : decode cX6_isWithin 6 = .ok (.iload_n 2, 1) := by decide +kernel
theorem dX6_isWithin_7 : decode cX6_isWithin 7 = .ok (.if_icmp .gt 7, 3) := by decide +kernel
theorem dX6_isWithin_10 : decode cX6_isWithin 10 = .ok (.iconst 1, 1) := by decide +kernel
theorem dX6_isWithin_11 : decode cX6_isWithin 11 = .ok (.goto 4, 3) := by decide +kernel
theorem dX6_isWithin_14 : decode cX6_isWithin 14 = .ok (.iconst 0, 1) := by decide +kernel
theorem dX6_isWithin_15 : decode cX6_isWithin 15 = .ok (.ireturn, 1) := by decide +kernel
theorem dX6_lived_0 : decode cX6_lived 0 = .ok (.aload_n 0, 1) := by decide +kernel
theorem dX6_lived_1 : decode cX6_lived 1 = .ok (.getfield 41, 3) := by decide +kernel
theorem dX6_lived_4 : decode cX6_lived 4 = .ok (.ifCond .eq 15, 3) := by decide +kernel
theorem dX6_lived_7 : decode cX6_lived 7 = .ok (.aload_n 0, 1) := by decide +kernel
theorem dX6_lived_8 : decode cX6_lived 8 = .ok (.getfield 37, 3) := by decide +kernel
theorem dX6_lived_11 : decode cX6_lived 11 = .ok (.invokevirtual 213, 3) := by decide +kernel
theorem dX6_lived_14 : decode cX6_lived 14 = .ok (.aload_n 0, 1) := by decide +kernel
theorem dX6_lived_15 : decode cX6_lived 15 = .ok (.iconst 0, 1) := by decide +kernel
theorem dX6_lived_16 : decode cX6_lived 16 = .ok (.putfield 41, 3) := by decide +kernel
theorem dX6_lived_19 : decode cX6_lived 19 = .ok (.aload_n 0, 1) := by decide +kernel
theorem dX6_lived_20 : decode cX6_lived 20 = .ok (.getfield 37, 3) := by decide +kernel
theorem dX6_lived_23 : decode cX6_lived 23 = .ok (.areturn, 1) := by decide +kernel
theorem dX6_keptPlace_0 : decode cX6_keptPlace 0 = .ok (.iload_n 1, 1) := by decide +kernel
theorem dX6_keptPlace_1 : decode cX6_keptPlace 1 = .ok (.ifCond .ne 10, 3) := by decide +kernel
theorem dX6_keptPlace_4 : decode cX6_keptPlace 4 = .ok (.aload_n 0, 1) := by decide +kernel
theorem dX6_keptPlace_5 : decode cX6_keptPlace 5 = .ok (.getfield 65, 3) := by decide +kernel
theorem dX6_keptPlace_8 : decode cX6_keptPlace 8 = .ok (.goto 7, 3) := by decide +kernel
theorem dX6_keptPlace_11 : decode cX6_keptPlace 11 = .ok (.aload_n 0, 1) := by decide +kernel
theorem dX6_keptPlace_12 : decode cX6_keptPlace 12 = .ok (.getfield 68, 3) := by decide +kernel
theorem dX6_keptPlace_15 : decode cX6_keptPlace 15 = .ok (.areturn, 1) := by decide +kernel
theorem dX6_mostEverHeld_0 : decode cX6_mostEverHeld 0 = .ok (.aload_n 0, 1) := by decide +kernel
theorem dX6_mostEverHeld_1 : decode cX6_mostEverHeld 1 = .ok (.getfield 45, 3) := by decide +kernel
theorem dX6_mostEverHeld_4 : decode cX6_mostEverHeld 4 = .ok (.aload_n 0, 1) := by decide +kernel
theorem dX6_mostEverHeld_5 : decode cX6_mostEverHeld 5 = .ok (.getfield 28, 3) := by decide +kernel
theorem dX6_mostEverHeld_8 : decode cX6_mostEverHeld 8 = .ok (.invokevirtual 103, 3) := by decide +kernel
theorem dX6_mostEverHeld_11 : decode cX6_mostEverHeld 11 = .ok (.aload_n 0, 1) := by decide +kernel
theorem dX6_mostEverHeld_12 : decode cX6_mostEverHeld 12 = .ok (.getfield 45, 3) := by decide +kernel
theorem dX6_mostEverHeld_15 : decode cX6_mostEverHeld 15 = .ok (.iload_n 1, 1) := by decide +kernel
theorem dX6_mostEverHeld_16 : decode cX6_mostEverHeld 16 = .ok (.invokevirtual 250, 3) := by decide +kernel
theorem dX6_mostEverHeld_19 : decode cX6_mostEverHeld 19 = .ok (.aload_n 0, 1) := by decide +kernel
theorem dX6_mostEverHeld_20 : decode cX6_mostEverHeld 20 = .ok (.getfield 48, 3) := by decide +kernel
theorem dX6_mostEverHeld_23 : decode cX6_mostEverHeld 23 = .ok (.invokevirtual 213, 3) := by decide +kernel
theorem dX6_mostEverHeld_26 : decode cX6_mostEverHeld 26 = .ok (.aload_n 0, 1) := by decide +kernel
theorem dX6_mostEverHeld_27 : decode cX6_mostEverHeld 27 = .ok (.getfield 48, 3) := by decide +kernel
theorem dX6_mostEverHeld_30 : decode cX6_mostEverHeld 30 = .ok (.getfield 253, 3) := by decide +kernel
theorem dX6_mostEverHeld_33 : decode cX6_mostEverHeld 33 = .ok (.iload_n 1, 1) := by decide +kernel
theorem dX6_mostEverHeld_34 : decode cX6_mostEverHeld 34 = .ok (.iaload, 1) := by decide +kernel
theorem dX6_mostEverHeld_35 : decode cX6_mostEverHeld 35 = .ok (.ireturn, 1) := by decide +kernel
theorem dX6_fewestBack_0 : decode cX6_fewestBack 0 = .ok (.iconst 1, 1) := by decide +kernel
theorem dX6_fewestBack_1 : decode cX6_fewestBack 1 = .ok (.iload_n 1, 1) := by decide +kernel
theorem dX6_fewestBack_2 : decode cX6_fewestBack 2 = .ok (.ishl, 1) := by decide +kernel
theorem dX6_fewestBack_3 : decode cX6_fewestBack 3 = .ok (.istore_n 2, 1) := by decide +kernel
theorem dX6_fewestBack_4 : decode cX6_fewestBack 4 = .ok (.iconst 1, 1) := by decide +kernel
theorem dX6_fewestBack_5 : decode cX6_fewestBack 5 = .ok (.istore_n 3, 1) := by decide +kernel
theorem dX6_fewestBack_6 : decode cX6_fewestBack 6 = .ok (.iload_n 3, 1) := by decide +kernel
theorem dX6_fewestBack_7 : decode cX6_fewestBack 7 = .ok (.aload_n 0, 1) := by decide +kernel
theorem dX6_fewestBack_8 : decode cX6_fewestBack 8 = .ok (.getfield 28, 3) := by decide +kernel
theorem dX6_fewestBack_11 : decode cX6_fewestBack 11 = .ok (.getfield 100, 3) := by decide +kernel
theorem dX6_fewestBack_14 : decode cX6_fewestBack 14 = .ok (.if_icmp .gt 28, 3) := by decide +kernel
theorem dX6_fewestBack_17 : decode cX6_fewestBack 17 = .ok (.aload_n 0, 1) := by decide +kernel
theorem dX6_fewestBack_18 : decode cX6_fewestBack 18 = .ok (.getfield 28, 3) := by decide +kernel
theorem dX6_fewestBack_21 : decode cX6_fewestBack 21 = .ok (.iload_n 2, 1) := by decide +kernel
theorem dX6_fewestBack_22 : decode cX6_fewestBack 22 = .ok (.invokevirtual 256, 3) := by decide +kernel
theorem dX6_fewestBack_25 : decode cX6_fewestBack 25 = .ok (.istore_n 2, 1) := by decide +kernel
theorem dX6_fewestBack_26 : decode cX6_fewestBack 26 = .ok (.iload_n 2, 1) := by decide +kernel
theorem dX6_fewestBack_27 : decode cX6_fewestBack 27 = .ok (.iconst 1, 1) := by decide +kernel
theorem dX6_fewestBack_28 : decode cX6_fewestBack 28 = .ok (.iload_n 1, 1) := by decide +kernel
theorem dX6_fewestBack_29 : decode cX6_fewestBack 29 = .ok (.ishl, 1) := by decide +kernel
theorem dX6_fewestBack_30 : decode cX6_fewestBack 30 = .ok (.iand, 1) := by decide +kernel
theorem dX6_fewestBack_31 : decode cX6_fewestBack 31 = .ok (.ifCond .eq 5, 3) := by decide +kernel
theorem dX6_fewestBack_34 : decode cX6_fewestBack 34 = .ok (.iload_n 3, 1) := by decide +kernel
theorem dX6_fewestBack_35 : decode cX6_fewestBack 35 = .ok (.ireturn, 1) := by decide +kernel
theorem dX6_fewestBack_36 : decode cX6_fewestBack 36 = .ok (.iinc 3 1, 3) := by decide +kernel
theorem dX6_fewestBack_39 : decode cX6_fewestBack 39 = .ok (.goto (-33), 3) := by decide +kernel
theorem dX6_fewestBack_42 : decode cX6_fewestBack 42 = .ok (.bipush (-4), 2) := by decide +kernel
theorem dX6_fewestBack_44 : decode cX6_fewestBack 44 = .ok (.ireturn, 1) := by decide +kernel
theorem dX6_waysToGain_0 : decode cX6_waysToGain 0 = .ok (.iconst 0, 1) := by decide +kernel
theorem dX6_waysToGain_1 : decode cX6_waysToGain 1 = .ok (.istore_n 3, 1) := by decide +kernel
theorem dX6_waysToGain_2 : decode cX6_waysToGain 2 = .ok (.iconst 1, 1) := by decide +kernel
theorem dX6_waysToGain_3 : decode cX6_waysToGain 3 = .ok (.istore 4, 2) := by decide +kernel
theorem dX6_waysToGain_5 : decode cX6_waysToGain 5 = .ok (.iconst 0, 1) := by decide +kernel
theorem dX6_waysToGain_6 : decode cX6_waysToGain 6 = .ok (.istore 5, 2) := by decide +kernel
theorem dX6_waysToGain_8 : decode cX6_waysToGain 8 = .ok (.iload 5, 2) := by decide +kernel
theorem dX6_waysToGain_10 : decode cX6_waysToGain 10 = .ok (.iload_n 0, 1) := by decide +kernel
theorem dX6_waysToGain_11 : decode cX6_waysToGain 11 = .ok (.if_icmp .gt 36, 3) := by decide +kernel
theorem dX6_waysToGain_14 : decode cX6_waysToGain 14 = .ok (.iload 5, 2) := by decide +kernel
theorem dX6_waysToGain_16 : decode cX6_waysToGain 16 = .ok (.iload_n 1, 1) := by decide +kernel
theorem dX6_waysToGain_17 : decode cX6_waysToGain 17 = .ok (.imul, 1) := by decide +kernel
theorem dX6_waysToGain_18 : decode cX6_waysToGain 18 = .ok (.iload_n 2, 1) := by decide +kernel
theorem dX6_waysToGain_19 : decode cX6_waysToGain 19 = .ok (.if_icmp .lt 8, 3) := by decide +kernel
theorem dX6_waysToGain_22 : decode cX6_waysToGain 22 = .ok (.iload_n 3, 1) := by decide +kernel
theorem dX6_waysToGain_23 : decode cX6_waysToGain 23 = .ok (.iload 4, 2) := by decide +kernel
theorem dX6_waysToGain_25 : decode cX6_waysToGain 25 = .ok (.iadd, 1) := by decide +kernel
theorem dX6_waysToGain_26 : decode cX6_waysToGain 26 = .ok (.istore_n 3, 1) := by decide +kernel
theorem dX6_waysToGain_27 : decode cX6_waysToGain 27 = .ok (.iload 4, 2) := by decide +kernel
theorem dX6_waysToGain_29 : decode cX6_waysToGain 29 = .ok (.iload_n 0, 1) := by decide +kernel
theorem dX6_waysToGain_30 : decode cX6_waysToGain 30 = .ok (.iload 5, 2) := by decide +kernel
theorem dX6_waysToGain_32 : decode cX6_waysToGain 32 = .ok (.isub, 1) := by decide +kernel
theorem dX6_waysToGain_33 : decode cX6_waysToGain 33 = .ok (.imul, 1) := by decide +kernel
theorem dX6_waysToGain_34 : decode cX6_waysToGain 34 = .ok (.iload 5, 2) := by decide +kernel
theorem dX6_waysToGain_36 : decode cX6_waysToGain 36 = .ok (.iconst 1, 1) := by decide +kernel
theorem dX6_waysToGain_37 : decode cX6_waysToGain 37 = .ok (.iadd, 1) := by decide +kernel
theorem dX6_waysToGain_38 : decode cX6_waysToGain 38 = .ok (.idiv, 1) := by decide +kernel
theorem dX6_waysToGain_39 : decode cX6_waysToGain 39 = .ok (.istore 4, 2) := by decide +kernel
theorem dX6_waysToGain_41 : decode cX6_waysToGain 41 = .ok (.iinc 5 1, 3) := by decide +kernel
theorem dX6_waysToGain_44 : decode cX6_waysToGain 44 = .ok (.goto (-36), 3) := by decide +kernel
theorem dX6_waysToGain_47 : decode cX6_waysToGain 47 = .ok (.iload_n 3, 1) := by decide +kernel
theorem dX6_waysToGain_48 : decode cX6_waysToGain 48 = .ok (.ireturn, 1) := by decide +kernel
theorem dX7_init_0 : decode cX7_init 0 = .ok (.aload_n 0, 1) := by decide +kernel
theorem dX7_init_1 : decode cX7_init 1 = .ok (.invokespecial 1, 3) := by decide +kernel
theorem dX7_init_4 : decode cX7_init 4 = .ok (.aload_n 0, 1) := by decide +kernel
theorem dX7_init_5 : decode cX7_init 5 = .ok (.sipush 200, 3) := by decide +kernel
theorem dX7_init_8 : decode cX7_init 8 = .ok (.newarray .int, 2) := by decide +kernel
theorem dX7_init_10 : decode cX7_init 10 = .ok (.putfield 7, 3) := by decide +kernel
theorem dX7_init_13 : decode cX7_init 13 = .ok (.aload_n 0, 1) := by decide +kernel
theorem dX7_init_14 : decode cX7_init 14 = .ok (.iconst 4, 1) := by decide +kernel
theorem dX7_init_15 : decode cX7_init 15 = .ok (.newarray .int, 2) := by decide +kernel
theorem dX7_init_17 : decode cX7_init 17 = .ok (.putfield 13, 3) := by decide +kernel
theorem dX7_init_20 : decode cX7_init 20 = .ok (.aload_n 0, 1) := by decide +kernel
theorem dX7_init_21 : decode cX7_init 21 = .ok (.bipush 30, 2) := by decide +kernel
theorem dX7_init_23 : decode cX7_init 23 = .ok (.newarray .int, 2) := by decide +kernel
theorem dX7_init_25 : decode cX7_init 25 = .ok (.putfield 16, 3) := by decide +kernel
theorem dX7_init_28 : decode cX7_init 28 = .ok (.aload_n 0, 1) := by decide +kernel
theorem dX7_init_29 : decode cX7_init 29 = .ok (.bipush 27, 2) := by decide +kernel
theorem dX7_init_31 : decode cX7_init 31 = .ok (.newarray .int, 2) := by decide +kernel
theorem dX7_init_33 : decode cX7_init 33 = .ok (.putfield 19, 3) := by decide +kernel
theorem dX7_init_36 : decode cX7_init 36 = .ok (.aload_n 0, 1) := by decide +kernel
theorem dX7_init_37 : decode cX7_init 37 = .ok (.iconst 4, 1) := by decide +kernel
theorem dX7_init_38 : decode cX7_init 38 = .ok (.putfield 22, 3) := by decide +kernel
theorem dX7_init_41 : decode cX7_init 41 = .ok (.aload_n 0, 1) := by decide +kernel
theorem dX7_init_42 : decode cX7_init 42 = .ok (.bipush 30, 2) := by decide +kernel
theorem dX7_init_44 : decode cX7_init 44 = .ok (.newarray .int, 2) := by decide +kernel
theorem dX7_init_46 : decode cX7_init 46 = .ok (.putfield 26, 3) := by decide +kernel
theorem dX7_init_49 : decode cX7_init 49 = .ok (.aload_n 0, 1) := by decide +kernel
theorem dX7_init_50 : decode cX7_init 50 = .ok (.iconst 5, 1) := by decide +kernel
theorem dX7_init_51 : decode cX7_init 51 = .ok (.putfield 29, 3) := by decide +kernel
theorem dX7_init_54 : decode cX7_init 54 = .ok (.aload_n 0, 1) := by decide +kernel
theorem dX7_init_55 : decode cX7_init 55 = .ok (.bipush 7, 2) := by decide +kernel
theorem dX7_init_57 : decode cX7_init 57 = .ok (.putfield 32, 3) := by decide +kernel
theorem dX7_init_60 : decode cX7_init 60 = .ok (.aload_n 0, 1) := by decide +kernel
theorem dX7_init_61 : decode cX7_init 61 = .ok (.bipush 40, 2) := by decide +kernel
theorem dX7_init_63 : decode cX7_init 63 = .ok (.newarray .int, 2) := by decide +kernel
theorem dX7_init_65 : decode cX7_init 65 = .ok (.putfield 35, 3) := by decide +kernel
theorem dX7_init_68 : decode cX7_init 68 = .ok (.aload_n 0, 1) := by decide +kernel
theorem dX7_init_69 : decode cX7_init 69 = .ok (.sipush 320, 3) := by decide +kernel
theorem dX7_init_72 : decode cX7_init 72 = .ok (.newarray .int, 2) := by decide +kernel
theorem dX7_init_74 : decode cX7_init 74 = .ok (.putfield 38, 3) := by decide +kernel
theorem dX7_init_77 : decode cX7_init 77 = .ok (.aload_n 0, 1) := by decide +kernel
theorem dX7_init_78 : decode cX7_init 78 = .ok (.bipush 80, 2) := by decide +kernel
theorem dX7_init_80 : decode cX7_init 80 = .ok (.newarray .int, 2) := by decide +kernel
theorem dX7_init_82 : decode cX7_init 82 = .ok (.putfield 41, 3) := by decide +kernel
theorem dX7_init_85 : decode cX7_init 85 = .ok (.aload_n 0, 1) := by decide +kernel
theorem dX7_init_86 : decode cX7_init 86 = .ok (.bipush 24, 2) := by decide +kernel
theorem dX7_init_88 : decode cX7_init 88 = .ok (.newarray .int, 2) := by decide +kernel
theorem dX7_init_90 : decode cX7_init 90 = .ok (.putfield 44, 3) := by decide +kernel
theorem dX7_init_93 : decode cX7_init 93 = .ok (.aload_n 0, 1) := by decide +kernel
theorem dX7_init_94 : decode cX7_init 94 = .ok (.bipush 30, 2) := by decide +kernel
theorem dX7_init_96 : decode cX7_init 96 = .ok (.newarray .int, 2) := by decide +kernel
theorem dX7_init_98 : decode cX7_init 98 = .ok (.putfield 47, 3) := by decide +kernel
theorem dX7_init_101 : decode cX7_init 101 = .ok (.aload_n 0, 1) := by decide +kernel
theorem dX7_init_102 : decode cX7_init 102 = .ok (.bipush 30, 2) := by decide +kernel
theorem dX7_init_104 : decode cX7_init 104 = .ok (.newarray .int, 2) := by decide +kernel
theorem dX7_init_106 : decode cX7_init 106 = .ok (.putfield 50, 3) := by decide +kernel
theorem dX7_init_109 : decode cX7_init 109 = .ok (.aload_n 0, 1) := by decide +kernel
theorem dX7_init_110 : decode cX7_init 110 = .ok (.bipush 6, 2) := by decide +kernel
theorem dX7_init_112 : decode cX7_init 112 = .ok (.newarray .int, 2) := by decide +kernel
theorem dX7_init_114 : decode cX7_init 114 = .ok (.putfield 53, 3) := by decide +kernel
theorem dX7_init_117 : decode cX7_init 117 = .ok (.aload_n 0, 1) := by decide +kernel
theorem dX7_init_118 : decode cX7_init 118 = .ok (.bipush 6, 2) := by decide +kernel
theorem dX7_init_120 : decode cX7_init 120 = .ok (.newarray .int, 2) := by decide +kernel
theorem dX7_init_122 : decode cX7_init 122 = .ok (.putfield 56, 3) := by decide +kernel
theorem dX7_init_125 : decode cX7_init 125 = .ok (.aload_n 0, 1) := by decide +kernel
theorem dX7_init_126 : decode cX7_init 126 = .ok (.bipush 6, 2) := by decide +kernel
theorem dX7_init_128 : decode cX7_init 128 = .ok (.newarray .int, 2) := by decide +kernel
theorem dX7_init_130 : decode cX7_init 130 = .ok (.putfield 59, 3) := by decide +kernel
theorem dX7_init_133 : decode cX7_init 133 = .ok (.aload_n 0, 1) := by decide +kernel
theorem dX7_init_134 : decode cX7_init 134 = .ok (.bipush 10, 2) := by decide +kernel
theorem dX7_init_136 : decode cX7_init 136 = .ok (.newarray .int, 2) := by decide +kernel
theorem dX7_init_138 : decode cX7_init 138 = .ok (.putfield 62, 3) := by decide +kernel
theorem dX7_init_141 : decode cX7_init 141 = .ok (.aload_n 0, 1) := by decide +kernel
theorem dX7_init_142 : decode cX7_init 142 = .ok (.sipush 906, 3) := by decide +kernel
theorem dX7_init_145 : decode cX7_init 145 = .ok (.newarray .int, 2) := by decide +kernel
theorem dX7_init_147 : decode cX7_init 147 = .ok (.putfield 65, 3) := by decide +kernel
theorem dX7_init_150 : decode cX7_init 150 = .ok (.aload_n 0, 1) := by decide +kernel
theorem dX7_init_151 : decode cX7_init 151 = .ok (.iconst 0, 1) := by decide +kernel
theorem dX7_init_152 : decode cX7_init 152 = .ok (.iconst 0, 1) := by decide +kernel
theorem dX7_init_153 : decode cX7_init 153 = .ok (.iconst 3, 1) := by decide +kernel
theorem dX7_init_154 : decode cX7_init 154 = .ok (.bipush 60, 2) := by decide +kernel
theorem dX7_init_156 : decode cX7_init 156 = .ok (.iconst 0, 1) := by decide +kernel
theorem dX7_init_157 : decode cX7_init 157 = .ok (.iconst 0, 1) := by decide +kernel
theorem dX7_init_158 : decode cX7_init 158 = .ok (.invokevirtual 68, 3) := by decide +kernel
theorem dX7_init_161 : decode cX7_init 161 = .ok (.aload_n 0, 1) := by decide +kernel
theorem dX7_init_162 : decode cX7_init 162 = .ok (.iconst 1, 1) := by decide +kernel
theorem dX7_init_163 : decode cX7_init 163 = .ok (.iconst 5, 1) := by decide +kernel
theorem dX7_init_164 : decode cX7_init 164 = .ok (.iconst 4, 1) := by decide +kernel
theorem dX7_init_165 : decode cX7_init 165 = .ok (.bipush 50, 2) := by decide +kernel
theorem dX7_init_167 : decode cX7_init 167 = .ok (.iconst 1, 1) := by decide +kernel
theorem dX7_init_168 : decode cX7_init 168 = .ok (.iconst 0, 1) := by decide +kernel
theorem dX7_init_169 : decode cX7_init 169 = .ok (.invokevirtual 68, 3) := by decide +kernel
theorem dX7_init_172 : decode cX7_init 172 = .ok (.aload_n 0, 1) := by decide +kernel
theorem dX7_init_173 : decode cX7_init 173 = .ok (.iconst 2, 1) := by decide +kernel
theorem dX7_init_174 : decode cX7_init 174 = .ok (.bipush 10, 2) := by decide +kernel
theorem dX7_init_176 : decode cX7_init 176 = .ok (.iconst 2, 1) := by decide +kernel
theorem dX7_init_177 : decode cX7_init 177 = .ok (.bipush 70, 2) := by decide +kernel
theorem dX7_init_179 : decode cX7_init 179 = .ok (.iconst 2, 1) := by decide +kernel
theorem dX7_init_180 : decode cX7_init 180 = .ok (.iconst 5, 1) := by decide +kernel
theorem dX7_init_181 : decode cX7_init 181 = .ok (.invokevirtual 68, 3) := by decide +kernel
theorem dX7_init_184 : decode cX7_init 184 = .ok (.aload_n 0, 1) := by decide +kernel
theorem dX7_init_185 : decode cX7_init 185 = .ok (.iconst 3, 1) := by decide +kernel
theorem dX7_init_186 : decode cX7_init 186 = .ok (.bipush 12, 2) := by decide +kernel
theorem dX7_init_188 : decode cX7_init 188 = .ok (.iconst 5, 1) := by decide +kernel
theorem dX7_init_189 : decode cX7_init 189 = .ok (.bipush 40, 2) := by decide +kernel
theorem dX7_init_191 : decode cX7_init 191 = .ok (.iconst 3, 1) := by decide +kernel
theorem dX7_init_192 : decode cX7_init 192 = .ok (.iconst 0, 1) := by decide +kernel
theorem dX7_init_193 : decode cX7_init 193 = .ok (.invokevirtual 68, 3) := by decide +kernel
theorem dX7_init_196 : decode cX7_init 196 = .ok (.aload_n 0, 1) := by decide +kernel
theorem dX7_init_197 : decode cX7_init 197 = .ok (.iconst 0, 1) := by decide +kernel
theorem dX7_init_198 : decode cX7_init 198 = .ok (.iconst 0, 1) := by decide +kernel
theorem dX7_init_199 : decode cX7_init 199 = .ok (.iconst 1, 1) := by decide +kernel
theorem dX7_init_200 : decode cX7_init 200 = .ok (.bipush 40, 2) := by decide +kernel
theorem dX7_init_202 : decode cX7_init 202 = .ok (.invokevirtual 72, 3) := by decide +kernel
theorem dX7_init_205 : decode cX7_init 205 = .ok (.aload_n 0, 1) := by decide +kernel
theorem dX7_init_206 : decode cX7_init 206 = .ok (.iconst 1, 1) := by decide +kernel
theorem dX7_init_207 : decode cX7_init 207 = .ok (.iconst 0, 1) := by decide +kernel
theorem dX7_init_208 : decode cX7_init 208 = .ok (.iconst 2, 1) := by decide +kernel
theorem dX7_init_209 : decode cX7_init 209 = .ok (.bipush 20, 2) := by decide +kernel
theorem dX7_init_211 : decode cX7_init 211 = .ok (.invokevirtual 72, 3) := by decide +kernel
theorem dX7_init_214 : decode cX7_init 214 = .ok (.aload_n 0, 1) := by decide +kernel
theorem dX7_init_215 : decode cX7_init 215 = .ok (.iconst 2, 1) := by decide +kernel
theorem dX7_init_216 : decode cX7_init 216 = .ok (.iconst 1, 1) := by decide +kernel
theorem dX7_init_217 : decode cX7_init 217 = .ok (.iconst 3, 1) := by decide +kernel
theorem dX7_init_218 : decode cX7_init 218 = .ok (.bipush 60, 2) := by decide +kernel
theorem dX7_init_220 : decode cX7_init 220 = .ok (.invokevirtual 72, 3) := by decide +kernel
theorem dX7_init_223 : decode cX7_init 223 = .ok (.aload_n 0, 1) := by decide +kernel
theorem dX7_init_224 : decode cX7_init 224 = .ok (.iconst 3, 1) := by decide +kernel
theorem dX7_init_225 : decode cX7_init 225 = .ok (.iconst 2, 1) := by decide +kernel
theorem dX7_init_226 : decode cX7_init 226 = .ok (.iconst 0, 1) := by decide +kernel
theorem dX7_init_227 : decode cX7_init 227 = .ok (.bipush 15, 2) := by decide +kernel
theorem dX7_init_229 : decode cX7_init 229 = .ok (.invokevirtual 72, 3) := by decide +kernel
theorem dX7_init_232 : decode cX7_init 232 = .ok (.aload_n 0, 1) := by decide +kernel
theorem dX7_init_233 : decode cX7_init 233 = .ok (.iconst 4, 1) := by decide +kernel
theorem dX7_init_234 : decode cX7_init 234 = .ok (.iconst 3, 1) := by decide +kernel
theorem dX7_init_235 : decode cX7_init 235 = .ok (.iconst 2, 1) := by decide +kernel
theorem dX7_init_236 : decode cX7_init 236 = .ok (.bipush 30, 2) := by decide +kernel
theorem dX7_init_238 : decode cX7_init 238 = .ok (.invokevirtual 72, 3) := by decide +kernel
theorem dX7_init_241 : decode cX7_init 241 = .ok (.return_, 1) := by decide +kernel
theorem dX7_layOne_0 : decode cX7_layOne 0 = .ok (.aload_n 0, 1) := by decide +kernel
theorem dX7_layOne_1 : decode cX7_layOne 1 = .ok (.getfield 26, 3) := by decide +kernel
theorem dX7_layOne_4 : decode cX7_layOne 4 = .ok (.iconst 5, 1) := by decide +kernel
theorem dX7_layOne_5 : decode cX7_layOne 5 = .ok (.iload_n 1, 1) := by decide +kernel
theorem dX7_layOne_6 : decode cX7_layOne 6 = .ok (.imul, 1) := by decide +kernel
theorem dX7_layOne_7 : decode cX7_layOne 7 = .ok (.iload_n 2, 1) := by decide +kernel
theorem dX7_layOne_8 : decode cX7_layOne 8 = .ok (.iastore, 1) := by decide +kernel
theorem dX7_layOne_9 : decode cX7_layOne 9 = .ok (.aload_n 0, 1) := by decide +kernel
theorem dX7_layOne_10 : decode cX7_layOne 10 = .ok (.getfield 26, 3) := by decide +kernel
theorem dX7_layOne_13 : decode cX7_layOne 13 = .ok (.iconst 5, 1) := by decide +kernel
theorem dX7_layOne_14 : decode cX7_layOne 14 = .ok (.iload_n 1, 1) := by decide +kernel
theorem dX7_layOne_15 : decode cX7_layOne 15 = .ok (.imul, 1) := by decide +kernel
theorem dX7_layOne_16 : decode cX7_layOne 16 = .ok (.iconst 1, 1) := by decide +kernel
theorem dX7_layOne_17 : decode cX7_layOne 17 = .ok (.iadd, 1) := by decide +kernel
theorem dX7_layOne_18 : decode cX7_layOne 18 = .ok (.iload_n 3, 1) := by decide +kernel
theorem dX7_layOne_19 : decode cX7_layOne 19 = .ok (.iastore, 1) := by decide +kernel
theorem dX7_layOne_20 : decode cX7_layOne 20 = .ok (.aload_n 0, 1) := by decide +kernel
theorem dX7_layOne_21 : decode cX7_layOne 21 = .ok (.getfield 26, 3) := by decide +kernel
theorem dX7_layOne_24 : decode cX7_layOne 24 = .ok (.iconst 5, 1) := by decide +kernel
theorem dX7_layOne_25 : decode cX7_layOne 25 = .ok (.iload_n 1, 1) := by decide +kernel
theorem dX7_layOne_26 : decode cX7_layOne 26 = .ok (.imul, 1) := by decide +kernel
theorem dX7_layOne_27 : decode cX7_layOne 27 = .ok (.iconst 2, 1) := by decide +kernel
theorem dX7_layOne_28 : decode cX7_layOne 28 = .ok (.iadd, 1) := by decide +kernel
theorem dX7_layOne_29 : decode cX7_layOne 29 = .ok (.iload 4, 2) := by decide +kernel
theorem dX7_layOne_31 : decode cX7_layOne 31 = .ok (.iastore, 1) := by decide +kernel
theorem dX7_layOne_32 : decode cX7_layOne 32 = .ok (.aload_n 0, 1) := by decide +kernel
theorem dX7_layOne_33 : decode cX7_layOne 33 = .ok (.getfield 26, 3) := by decide +kernel
theorem dX7_layOne_36 : decode cX7_layOne 36 = .ok (.iconst 5, 1) := by decide +kernel
theorem dX7_layOne_37 : decode cX7_layOne 37 = .ok (.iload_n 1, 1) := by decide +kernel
theorem dX7_layOne_38 : decode cX7_layOne 38 = .ok (.imul, 1) := by decide +kernel
theorem dX7_layOne_39 : decode cX7_layOne 39 = .ok (.iconst 3, 1) := by decide +kernel
theorem dX7_layOne_40 : decode cX7_layOne 40 = .ok (.iadd, 1) := by decide +kernel
theorem dX7_layOne_41 : decode cX7_layOne 41 = .ok (.iload 5, 2) := by decide +kernel
theorem dX7_layOne_43 : decode cX7_layOne 43 = .ok (.iastore, 1) := by decide +kernel
theorem dX7_layOne_44 : decode cX7_layOne 44 = .ok (.aload_n 0, 1) := by decide +kernel
theorem dX7_layOne_45 : decode cX7_layOne 45 = .ok (.getfield 26, 3) := by decide +kernel
theorem dX7_layOne_48 : decode cX7_layOne 48 = .ok (.iconst 5, 1) := by decide +kernel
theorem dX7_layOne_49 : decode cX7_layOne 49 = .ok (.iload_n 1, 1) := by decide +kernel
theorem dX7_layOne_50 : decode cX7_layOne 50 = .ok (.imul, 1) := by decide +kernel
theorem dX7_layOne_51 : decode cX7_layOne 51 = .ok (.iconst 4, 1) := by decide +kernel
theorem dX7_layOne_52 : decode cX7_layOne 52 = .ok (.iadd, 1) := by decide +kernel
theorem dX7_layOne_53 : decode cX7_layOne 53 = .ok (.iload 6, 2) := by decide +kernel
theorem dX7_layOne_55 : decode cX7_layOne 55 = .ok (.iastore, 1) := by decide +kernel
theorem dX7_layOne_56 : decode cX7_layOne 56 = .ok (.return_, 1) := by decide +kernel
theorem dX7_layWill_0 : decode cX7_layWill 0 = .ok (.aload_n 0, 1) := by decide +kernel
theorem dX7_layWill_1 : decode cX7_layWill 1 = .ok (.getfield 35, 3) := by decide +kernel
theorem dX7_layWill_4 : decode cX7_layWill 4 = .ok (.iconst 3, 1) := by decide +kernel
theorem dX7_layWill_5 : decode cX7_layWill 5 = .ok (.iload_n 1, 1) := by decide +kernel
theorem dX7_layWill_6 : decode cX7_layWill 6 = .ok (.imul, 1) := by decide +kernel
theorem dX7_layWill_7 : decode cX7_layWill 7 = .ok (.iload_n 2, 1) := by decide +kernel
theorem dX7_layWill_8 : decode cX7_layWill 8 = .ok (.iastore, 1) := by decide +kernel
theorem dX7_layWill_9 : decode cX7_layWill 9 = .ok (.aload_n 0, 1) := by decide +kernel
theorem dX7_layWill_10 : decode cX7_layWill 10 = .ok (.getfield 35, 3) := by decide +kernel
theorem dX7_layWill_13 : decode cX7_layWill 13 = .ok (.iconst 3, 1) := by decide +kernel
theorem dX7_layWill_14 : decode cX7_layWill 14 = .ok (.iload_n 1, 1) := by decide +kernel
theorem dX7_layWill_15 : decode cX7_layWill 15 = .ok (.imul, 1) := by decide +kernel
theorem dX7_layWill_16 : decode cX7_layWill 16 = .ok (.iconst 1, 1) := by decide +kernel
theorem dX7_layWill_17 : decode cX7_layWill 17 = .ok (.iadd, 1) := by decide +kernel
theorem dX7_layWill_18 : decode cX7_layWill 18 = .ok (.iload_n 3, 1) := by decide +kernel
theorem dX7_layWill_19 : decode cX7_layWill 19 = .ok (.iastore, 1) := by decide +kernel
theorem dX7_layWill_20 : decode cX7_layWill 20 = .ok (.aload_n 0, 1) := by decide +kernel
theorem dX7_layWill_21 : decode cX7_layWill 21 = .ok (.getfield 35, 3) := by decide +kernel
theorem dX7_layWill_24 : decode cX7_layWill 24 = .ok (.iconst 3, 1) := by decide +kernel
theorem dX7_layWill_25 : decode cX7_layWill 25 = .ok (.iload_n 1, 1) := by decide +kernel
theorem dX7_layWill_26 : decode cX7_layWill 26 = .ok (.imul, 1) := by decide +kernel
theorem dX7_layWill_27 : decode cX7_layWill 27 = .ok (.iconst 2, 1) := by decide +kernel
theorem dX7_layWill_28 : decode cX7_layWill 28 = .ok (.iadd, 1) := by decide +kernel
theorem dX7_layWill_29 : decode cX7_layWill 29 = .ok (.iload 4, 2) := by decide +kernel
theorem dX7_layWill_31 : decode cX7_layWill 31 = .ok (.iastore, 1) := by decide +kernel
theorem dX7_layWill_32 : decode cX7_layWill 32 = .ok (.return_, 1) := by decide +kernel
theorem dX7_in_0 : decode cX7_in 0 = .ok (.iload_n 0, 1) := by decide +kernel
theorem dX7_in_1 : decode cX7_in 1 = .ok (.iload_n 1, 1) := by decide +kernel
theorem dX7_in_2 : decode cX7_in 2 = .ok (.if_icmp .lt 12, 3) := by decide +kernel
theorem dX7_in_5 : decode cX7_in 5 = .ok (.iload_n 0, 1) := by decide +kernel
theorem dX7_in_6 : decode cX7_in 6 = .ok (.iload_n 2, 1) := by decide +kernel
theorem dX7_in_7 : decode cX7_in 7 = .ok (.if_icmp .gt 7, 3) := by decide +kernel
theorem dX7_in_10 : decode cX7_in 10 = .ok (.iconst 1, 1) := by decide +kernel
theorem dX7_in_11 : decode cX7_in 11 = .ok (.goto 4, 3) := by decide +kernel
theorem dX7_in_14 : decode cX7_in 14 = .ok (.iconst 0, 1) := by decide +kernel
theorem dX7_in_15 : decode cX7_in 15 = .ok (.ireturn, 1) := by decide +kernel
theorem dX7_isOne_0 : decode cX7_isOne 0 = .ok (.iload_n 1, 1) := by decide +kernel
theorem dX7_isOne_1 : decode cX7_isOne 1 = .ok (.iconst 0, 1) := by decide +kernel
theorem dX7_isOne_2 : decode cX7_isOne 2 = .ok (.aload_n 0, 1) := by decide +kernel
theorem dX7_isOne_3 : decode cX7_isOne 3 = .ok (.getfield 22, 3) := by decide +kernel
theorem dX7_isOne_6 : decode cX7_isOne 6 = .ok (.iconst 1, 1) := by decide +kernel
theorem dX7_isOne_7 : decode cX7_isOne 7 = .ok (.isub, 1) := by decide +kernel
theorem dX7_isOne_8 : decode cX7_isOne 8 = .ok (.invokestatic 76, 3) := by decide +kernel
theorem dX7_isOne_11 : decode cX7_isOne 11 = .ok (.ireturn, 1) := by decide +kernel
theorem dX7_isWill_0 : decode cX7_isWill 0 = .ok (.iload_n 1, 1) := by decide +kernel
theorem dX7_isWill_1 : decode cX7_isWill 1 = .ok (.iconst 0, 1) := by decide +kernel
theorem dX7_isWill_2 : decode cX7_isWill 2 = .ok (.aload_n 0, 1) := by decide +kernel
theorem dX7_isWill_3 : decode cX7_isWill 3 = .ok (.getfield 29, 3) := by decide +kernel
theorem dX7_isWill_6 : decode cX7_isWill 6 = .ok (.iconst 1, 1) := by decide +kernel
theorem dX7_isWill_7 : decode cX7_isWill 7 = .ok (.isub, 1) := by decide +kernel
theorem dX7_isWill_8 : decode cX7_isWill 8 = .ok (.invokestatic 76, 3) := by decide +kernel
theorem dX7_isWill_11 : decode cX7_isWill 11 = .ok (.ireturn, 1) := by decide +kernel
theorem dX7_write_0 : decode cX7_write 0 = .ok (.iload_n 1, 1) := by decide +kernel
theorem dX7_write_1 : decode cX7_write 1 = .ok (.bipush 32, 2) := by decide +kernel
theorem dX7_write_3 : decode cX7_write 3 = .ok (.bipush 126, 2) := by decide +kernel
theorem dX7_write_5 : decode cX7_write 5 = .ok (.invokestatic 76, 3) := by decide +kernel
theorem dX7_write_8 : decode cX7_write 8 = .ok (.ifCond .ne 5, 3) := by decide +kernel
theorem dX7_write_11 : decode cX7_write 11 = .ok (.iconst (-1), 1) := by decide +kernel
theorem dX7_write_12 : decode cX7_write 12 = .ok (.ireturn, 1) := by decide +kernel
theorem dX7_write_13 : decode cX7_write 13 = .ok (.aload_n 0, 1) := by decide +kernel
theorem dX7_write_14 : decode cX7_write 14 = .ok (.getfield 80, 3) := by decide +kernel
theorem dX7_write_17 : decode cX7_write 17 = .ok (.sipush 200, 3) := by decide +kernel
theorem dX7_write_20 : decode cX7_write 20 = .ok (.if_icmp .ne 6, 3) := by decide +kernel
theorem dX7_write_23 : decode cX7_write 23 = .ok (.bipush (-3), 2) := by decide +kernel
theorem dX7_write_25 : decode cX7_write 25 = .ok (.ireturn, 1) := by decide +kernel
theorem dX7_write_26 : decode cX7_write 26 = .ok (.aload_n 0, 1) := by decide +kernel
theorem dX7_write_27 : decode cX7_write 27 = .ok (.getfield 7, 3) := by decide +kernel
theorem dX7_write_30 : decode cX7_write 30 = .ok (.aload_n 0, 1) := by decide +kernel
theorem dX7_write_31 : decode cX7_write 31 = .ok (.getfield 80, 3) := by decide +kernel
theorem dX7_write_34 : decode cX7_write 34 = .ok (.iload_n 1, 1) := by decide +kernel
theorem dX7_write_35 : decode cX7_write 35 = .ok (.iastore, 1) := by decide +kernel
theorem dX7_write_36 : decode cX7_write 36 = .ok (.aload_n 0, 1) := by decide +kernel
theorem dX7_write_37 : decode cX7_write 37 = .ok (.dup, 1) := by decide +kernel
theorem dX7_write_38 : decode cX7_write 38 = .ok (.getfield 80, 3) := by decide +kernel
theorem dX7_write_41 : decode cX7_write 41 = .ok (.iconst 1, 1) := by decide +kernel
theorem dX7_write_42 : decode cX7_write 42 = .ok (.iadd, 1) := by decide +kernel
theorem dX7_write_43 : decode cX7_write 43 = .ok (.putfield 80, 3) := by decide +kernel
theorem dX7_write_46 : decode cX7_write 46 = .ok (.aload_n 0, 1) := by decide +kernel
theorem dX7_write_47 : decode cX7_write 47 = .ok (.getfield 80, 3) := by decide +kernel
theorem dX7_write_50 : decode cX7_write 50 = .ok (.ireturn, 1) := by decide +kernel
theorem dX7_wipe_0 : decode cX7_wipe 0 = .ok (.aload_n 0, 1) := by decide +kernel
theorem dX7_wipe_1 : decode cX7_wipe 1 = .ok (.getfield 80, 3) := by decide +kernel
theorem dX7_wipe_4 : decode cX7_wipe 4 = .ok (.istore_n 1, 1) := by decide +kernel
theorem dX7_wipe_5 : decode cX7_wipe 5 = .ok (.aload_n 0, 1) := by decide +kernel
theorem dX7_wipe_6 : decode cX7_wipe 6 = .ok (.iconst 0, 1) := by decide +kernel
theorem dX7_wipe_7 : decode cX7_wipe 7 = .ok (.putfield 80, 3) := by decide +kernel
theorem dX7_wipe_10 : decode cX7_wipe 10 = .ok (.iload_n 1, 1) := by decide +kernel
theorem dX7_wipe_11 : decode cX7_wipe 11 = .ok (.ireturn, 1) := by decide +kernel
theorem dX7_letterAt_0 : decode cX7_letterAt 0 = .ok (.iload_n 1, 1) := by decide +kernel
theorem dX7_letterAt_1 : decode cX7_letterAt 1 = .ok (.aload_n 0, 1) := by decide +kernel
theorem dX7_letterAt_2 : decode cX7_letterAt 2 = .ok (.getfield 80, 3) := by decide +kernel
theorem dX7_letterAt_5 : decode cX7_letterAt 5 = .ok (.if_icmp .ge 12, 3) := by decide +kernel
theorem dX7_letterAt_8 : decode cX7_letterAt 8 = .ok (.aload_n 0, 1) := by decide +kernel
theorem dX7_letterAt_9 : decode cX7_letterAt 9 = .ok (.getfield 7, 3) := by decide +kernel
theorem dX7_letterAt_12 : decode cX7_letterAt 12 = .ok (.iload_n 1, 1) := by decide +kernel
theorem dX7_letterAt_13 : decode cX7_letterAt 13 = .ok (.iaload, 1) := by decide +kernel
theorem dX7_letterAt_14 : decode cX7_letterAt 14 = .ok (.goto 4, 3) := by decide +kernel
theorem dX7_letterAt_17 : decode cX7_letterAt 17 = .ok (.iconst (-1), 1) := by decide +kernel
theorem dX7_letterAt_18 : decode cX7_letterAt 18 = .ok (.ireturn, 1) := by decide +kernel
theorem dX7_isRow_0 : decode cX7_isRow 0 = .ok (.iconst 0, 1) := by decide +kernel
theorem dX7_isRow_1 : decode cX7_isRow 1 = .ok (.istore_n 2, 1) := by decide +kernel
theorem dX7_isRow_2 : decode cX7_isRow 2 = .ok (.iload_n 2, 1) := by decide +kernel
theorem dX7_isRow_3 : decode cX7_isRow 3 = .ok (.iload_n 1, 1) := by decide +kernel
theorem dX7_isRow_4 : decode cX7_isRow 4 = .ok (.if_icmp .ge 129, 3) := by decide +kernel
theorem dX7_isRow_7 : decode cX7_isRow 7 = .ok (.iconst 0, 1) := by decide +kernel
theorem dX7_isRow_8 : decode cX7_isRow 8 = .ok (.istore_n 3, 1) := by decide +kernel
theorem dX7_isRow_9 : decode cX7_isRow 9 = .ok (.aload_n 0, 1) := by decide +kernel
theorem dX7_isRow_10 : decode cX7_isRow 10 = .ok (.getfield 83, 3) := by decide +kernel
theorem dX7_isRow_13 : decode cX7_isRow 13 = .ok (.istore 4, 2) := by decide +kernel
theorem dX7_isRow_15 : decode cX7_isRow 15 = .ok (.aload_n 0, 1) := by decide +kernel
theorem dX7_isRow_16 : decode cX7_isRow 16 = .ok (.getfield 83, 3) := by decide +kernel
theorem dX7_isRow_19 : decode cX7_isRow 19 = .ok (.iload 4, 2) := by decide +kernel
theorem dX7_isRow_21 : decode cX7_isRow 21 = .ok (.iconst 2, 1) := by decide +kernel
theorem dX7_isRow_22 : decode cX7_isRow 22 = .ok (.iadd, 1) := by decide +kernel
theorem dX7_isRow_23 : decode cX7_isRow 23 = .ok (.if_icmp .ge 51, 3) := by decide +kernel
theorem dX7_isRow_26 : decode cX7_isRow 26 = .ok (.aload_n 0, 1) := by decide +kernel
theorem dX7_isRow_27 : decode cX7_isRow 27 = .ok (.aload_n 0, 1) := by decide +kernel
theorem dX7_isRow_28 : decode cX7_isRow 28 = .ok (.getfield 83, 3) := by decide +kernel
theorem dX7_isRow_31 : decode cX7_isRow 31 = .ok (.invokevirtual 86, 3) := by decide +kernel
theorem dX7_isRow_34 : decode cX7_isRow 34 = .ok (.bipush 48, 2) := by decide +kernel
theorem dX7_isRow_36 : decode cX7_isRow 36 = .ok (.bipush 57, 2) := by decide +kernel
theorem dX7_isRow_38 : decode cX7_isRow 38 = .ok (.invokestatic 76, 3) := by decide +kernel
theorem dX7_isRow_41 : decode cX7_isRow 41 = .ok (.ifCond .eq 33, 3) := by decide +kernel
theorem dX7_isRow_44 : decode cX7_isRow 44 = .ok (.bipush 10, 2) := by decide +kernel
theorem dX7_isRow_46 : decode cX7_isRow 46 = .ok (.iload_n 3, 1) := by decide +kernel
theorem dX7_isRow_47 : decode cX7_isRow 47 = .ok (.imul, 1) := by decide +kernel
theorem dX7_isRow_48 : decode cX7_isRow 48 = .ok (.aload_n 0, 1) := by decide +kernel
theorem dX7_isRow_49 : decode cX7_isRow 49 = .ok (.aload_n 0, 1) := by decide +kernel
theorem dX7_isRow_50 : decode cX7_isRow 50 = .ok (.getfield 83, 3) := by decide +kernel
theorem dX7_isRow_53 : decode cX7_isRow 53 = .ok (.invokevirtual 86, 3) := by decide +kernel
theorem dX7_isRow_56 : decode cX7_isRow 56 = .ok (.iadd, 1) := by decide +kernel
theorem dX7_isRow_57 : decode cX7_isRow 57 = .ok (.bipush 48, 2) := by decide +kernel
theorem dX7_isRow_59 : decode cX7_isRow 59 = .ok (.isub, 1) := by decide +kernel
theorem dX7_isRow_60 : decode cX7_isRow 60 = .ok (.istore_n 3, 1) := by decide +kernel
theorem dX7_isRow_61 : decode cX7_isRow 61 = .ok (.aload_n 0, 1) := by decide +kernel
theorem dX7_isRow_62 : decode cX7_isRow 62 = .ok (.dup, 1) := by decide +kernel
theorem dX7_isRow_63 : decode cX7_isRow 63 = .ok (.getfield 83, 3) := by decide +kernel
theorem dX7_isRow_66 : decode cX7_isRow 66 = .ok (.iconst 1, 1) := by decide +kernel
theorem dX7_isRow_67 : decode cX7_isRow 67 = .ok (.iadd, 1) := by decide +kernel
theorem dX7_isRow_68 : decode cX7_isRow 68 = .ok (.putfield 83, 3) := by decide +kernel
theorem dX7_isRow_71 : decode cX7_isRow 71 = .ok (.goto (-56), 3) := by decide +kernel
theorem dX7_isRow_74 : decode cX7_isRow 74 = .ok (.aload_n 0, 1) := by decide +kernel
theorem dX7_isRow_75 : decode cX7_isRow 75 = .ok (.getfield 83, 3) := by decide +kernel
theorem dX7_isRow_78 : decode cX7_isRow 78 = .ok (.iload 4, 2) := by decide +kernel
theorem dX7_isRow_80 : decode cX7_isRow 80 = .ok (.if_icmp .eq 28, 3) := by decide +kernel
theorem dX7_isRow_83 : decode cX7_isRow 83 = .ok (.aload_n 0, 1) := by decide +kernel
theorem dX7_isRow_84 : decode cX7_isRow 84 = .ok (.aload_n 0, 1) := by decide +kernel
theorem dX7_isRow_85 : decode cX7_isRow 85 = .ok (.getfield 83, 3) := by decide +kernel
theorem dX7_isRow_88 : decode cX7_isRow 88 = .ok (.invokevirtual 86, 3) := by decide +kernel
theorem dX7_isRow_91 : decode cX7_isRow 91 = .ok (.iload_n 2, 1) := by decide +kernel
theorem dX7_isRow_92 : decode cX7_isRow 92 = .ok (.iload_n 1, 1) := by decide +kernel
theorem dX7_isRow_93 : decode cX7_isRow 93 = .ok (.iconst 1, 1) := by decide +kernel
theorem dX7_isRow_94 : decode cX7_isRow 94 = .ok (.isub, 1) := by decide +kernel
theorem dX7_isRow_95 : decode cX7_isRow 95 = .ok (.if_icmp .ne 8, 3) := by decide +kernel
theorem dX7_isRow_98 : decode cX7_isRow 98 = .ok (.bipush 59, 2) := by decide +kernel
theorem dX7_isRow_100 : decode cX7_isRow 100 = .ok (.goto 5, 3) := by decide +kernel
theorem dX7_isRow_103 : decode cX7_isRow 103 = .ok (.bipush 44, 2) := by decide +kernel
theorem dX7_isRow_105 : decode cX7_isRow 105 = .ok (.if_icmp .eq 5, 3) := by decide +kernel
theorem dX7_isRow_108 : decode cX7_isRow 108 = .ok (.iconst 0, 1) := by decide +kernel
theorem dX7_isRow_109 : decode cX7_isRow 109 = .ok (.ireturn, 1) := by decide +kernel
theorem dX7_isRow_110 : decode cX7_isRow 110 = .ok (.aload_n 0, 1) := by decide +kernel
theorem dX7_isRow_111 : decode cX7_isRow 111 = .ok (.dup, 1) := by decide +kernel
theorem dX7_isRow_112 : decode cX7_isRow 112 = .ok (.getfield 83, 3) := by decide +kernel
theorem dX7_isRow_115 : decode cX7_isRow 115 = .ok (.iconst 1, 1) := by decide +kernel
theorem dX7_isRow_116 : decode cX7_isRow 116 = .ok (.iadd, 1) := by decide +kernel
theorem dX7_isRow_117 : decode cX7_isRow 117 = .ok (.putfield 83, 3) := by decide +kernel
theorem dX7_isRow_120 : decode cX7_isRow 120 = .ok (.aload_n 0, 1) := by decide +kernel
theorem dX7_isRow_121 : decode cX7_isRow 121 = .ok (.getfield 13, 3) := by decide +kernel
theorem dX7_isRow_124 : decode cX7_isRow 124 = .ok (.iload_n 2, 1) := by decide +kernel
theorem dX7_isRow_125 : decode cX7_isRow 125 = .ok (.iload_n 3, 1) := by decide +kernel
theorem dX7_isRow_126 : decode cX7_isRow 126 = .ok (.iastore, 1) := by decide +kernel
theorem dX7_isRow_127 : decode cX7_isRow 127 = .ok (.iinc 2 1, 3) := by decide +kernel
theorem dX7_isRow_130 : decode cX7_isRow 130 = .ok (.goto (-128), 3) := by decide +kernel
theorem dX7_isRow_133 : decode cX7_isRow 133 = .ok (.iconst 1, 1) := by decide +kernel
theorem dX7_isRow_134 : decode cX7_isRow 134 = .ok (.ireturn, 1) := by decide +kernel
theorem dX7_isItem_0 : decode cX7_isItem 0 = .ok (.aload_n 0, 1) := by decide +kernel
theorem dX7_isItem_1 : decode cX7_isItem 1 = .ok (.aload_n 0, 1) := by decide +kernel
theorem dX7_isItem_2 : decode cX7_isItem 2 = .ok (.getfield 83, 3) := by decide +kernel
theorem dX7_isItem_5 : decode cX7_isItem 5 = .ok (.invokevirtual 86, 3) := by decide +kernel
theorem dX7_isItem_8 : decode cX7_isItem 8 = .ok (.istore_n 1, 1) := by decide +kernel
theorem dX7_isItem_9 : decode cX7_isItem 9 = .ok (.aload_n 0, 1) := by decide +kernel
theorem dX7_isItem_10 : decode cX7_isItem 10 = .ok (.dup, 1) := by decide +kernel
theorem dX7_isItem_11 : decode cX7_isItem 11 = .ok (.getfield 83, 3) := by decide +kernel
theorem dX7_isItem_14 : decode cX7_isItem 14 = .ok (.iconst 1, 1) := by decide +kernel
theorem dX7_isItem_15 : decode cX7_isItem 15 = .ok (.iadd, 1) := by decide +kernel
theorem dX7_isItem_16 : decode cX7_isItem 16 = .ok (.putfield 83, 3) := by decide +kernel
theorem dX7_isItem_19 : decode cX7_isItem 19 = .ok (.iload_n 1, 1) := by decide +kernel
theorem dX7_isItem_20 : decode cX7_isItem 20 = .ok (.bipush 112, 2) := by decide +kernel
theorem dX7_isItem_22 : decode cX7_isItem 22 = .ok (.if_icmp .ne 126, 3) := by decide +kernel
theorem dX7_isItem_25 : decode cX7_isItem 25 = .ok (.aload_n 0, 1) := by decide +kernel
theorem dX7_isItem_26 : decode cX7_isItem 26 = .ok (.getfield 90, 3) := by decide +kernel
theorem dX7_isItem_29 : decode cX7_isItem 29 = .ok (.bipush 6, 2) := by decide +kernel
theorem dX7_isItem_31 : decode cX7_isItem 31 = .ok (.if_icmp .ge 58, 3) := by decide +kernel
theorem dX7_isItem_34 : decode cX7_isItem 34 = .ok (.aload_n 0, 1) := by decide +kernel
theorem dX7_isItem_35 : decode cX7_isItem 35 = .ok (.iconst 4, 1) := by decide +kernel
theorem dX7_isItem_36 : decode cX7_isItem 36 = .ok (.invokevirtual 93, 3) := by decide +kernel
theorem dX7_isItem_39 : decode cX7_isItem 39 = .ok (.ifCond .eq 50, 3) := by decide +kernel
theorem dX7_isItem_42 : decode cX7_isItem 42 = .ok (.aload_n 0, 1) := by decide +kernel
theorem dX7_isItem_43 : decode cX7_isItem 43 = .ok (.getfield 13, 3) := by decide +kernel
theorem dX7_isItem_46 : decode cX7_isItem 46 = .ok (.iconst 0, 1) := by decide +kernel
theorem dX7_isItem_47 : decode cX7_isItem 47 = .ok (.iaload, 1) := by decide +kernel
theorem dX7_isItem_48 : decode cX7_isItem 48 = .ok (.bipush 61, 2) := by decide +kernel
theorem dX7_isItem_50 : decode cX7_isItem 50 = .ok (.if_icmp .ge 39, 3) := by decide +kernel
theorem dX7_isItem_53 : decode cX7_isItem 53 = .ok (.aload_n 0, 1) := by decide +kernel
theorem dX7_isItem_54 : decode cX7_isItem 54 = .ok (.getfield 13, 3) := by decide +kernel
theorem dX7_isItem_57 : decode cX7_isItem 57 = .ok (.iconst 1, 1) := by decide +kernel
theorem dX7_isItem_58 : decode cX7_isItem 58 = .ok (.iaload, 1) := by decide +kernel
theorem dX7_isItem_59 : decode cX7_isItem 59 = .ok (.bipush 10, 2) := by decide +kernel
theorem dX7_isItem_61 : decode cX7_isItem 61 = .ok (.if_icmp .ge 28, 3) := by decide +kernel
theorem dX7_isItem_64 : decode cX7_isItem 64 = .ok (.aload_n 0, 1) := by decide +kernel
theorem dX7_isItem_65 : decode cX7_isItem 65 = .ok (.getfield 13, 3) := by decide +kernel
theorem dX7_isItem_68 : decode cX7_isItem 68 = .ok (.iconst 2, 1) := by decide +kernel
theorem dX7_isItem_69 : decode cX7_isItem 69 = .ok (.iaload, 1) := by decide +kernel
theorem dX7_isItem_70 : decode cX7_isItem 70 = .ok (.bipush 19, 2) := by decide +kernel
theorem dX7_isItem_72 : decode cX7_isItem 72 = .ok (.if_icmp .le 17, 3) := by decide +kernel
theorem dX7_isItem_75 : decode cX7_isItem 75 = .ok (.aload_n 0, 1) := by decide +kernel
theorem dX7_isItem_76 : decode cX7_isItem 76 = .ok (.getfield 13, 3) := by decide +kernel
theorem dX7_isItem_79 : decode cX7_isItem 79 = .ok (.iconst 3, 1) := by decide +kernel
theorem dX7_isItem_80 : decode cX7_isItem 80 = .ok (.iaload, 1) := by decide +kernel
theorem dX7_isItem_81 : decode cX7_isItem 81 = .ok (.iconst 4, 1) := by decide +kernel
theorem dX7_isItem_82 : decode cX7_isItem 82 = .ok (.if_icmp .ge 7, 3) := by decide +kernel
theorem dX7_isItem_85 : decode cX7_isItem 85 = .ok (.iconst 1, 1) := by decide +kernel
theorem dX7_isItem_86 : decode cX7_isItem 86 = .ok (.goto 4, 3) := by decide +kernel
theorem dX7_isItem_89 : decode cX7_isItem 89 = .ok (.iconst 0, 1) := by decide +kernel
theorem dX7_isItem_90 : decode cX7_isItem 90 = .ok (.istore_n 2, 1) := by decide +kernel
theorem dX7_isItem_91 : decode cX7_isItem 91 = .ok (.iconst 0, 1) := by decide +kernel
theorem dX7_isItem_92 : decode cX7_isItem 92 = .ok (.istore_n 3, 1) := by decide +kernel
theorem dX7_isItem_93 : decode cX7_isItem 93 = .ok (.iload_n 3, 1) := by decide +kernel
theorem dX7_isItem_94 : decode cX7_isItem 94 = .ok (.iconst 5, 1) := by decide +kernel
theorem dX7_isItem_95 : decode cX7_isItem 95 = .ok (.if_icmp .ge 41, 3) := by decide +kernel
theorem dX7_isItem_98 : decode cX7_isItem 98 = .ok (.iload_n 2, 1) := by decide +kernel
theorem dX7_isItem_99 : decode cX7_isItem 99 = .ok (.ifCond .eq 37, 3) := by decide +kernel
theorem dX7_isItem_102 : decode cX7_isItem 102 = .ok (.aload_n 0, 1) := by decide +kernel
theorem dX7_isItem_103 : decode cX7_isItem 103 = .ok (.getfield 16, 3) := by decide +kernel
theorem dX7_isItem_106 : decode cX7_isItem 106 = .ok (.iconst 5, 1) := by decide +kernel
theorem dX7_isItem_107 : decode cX7_isItem 107 = .ok (.aload_n 0, 1) := by decide +kernel
theorem dX7_isItem_108 : decode cX7_isItem 108 = .ok (.getfield 90, 3) := by decide +kernel
theorem dX7_isItem_111 : decode cX7_isItem 111 = .ok (.imul, 1) := by decide +kernel
theorem dX7_isItem_112 : decode cX7_isItem 112 = .ok (.iload_n 3, 1) := by decide +kernel
theorem dX7_isItem_113 : decode cX7_isItem 113 = .ok (.iadd, 1) := by decide +kernel
theorem dX7_isItem_114 : decode cX7_isItem 114 = .ok (.iload_n 3, 1) := by decide +kernel
theorem dX7_isItem_115 : decode cX7_isItem 115 = .ok (.iconst 4, 1) := by decide +kernel
theorem dX7_isItem_116 : decode cX7_isItem 116 = .ok (.if_icmp .ne 7, 3) := by decide +kernel
theorem dX7_isItem_119 : decode cX7_isItem 119 = .ok (.iconst 0, 1) := by decide +kernel
theorem dX7_isItem_120 : decode cX7_isItem 120 = .ok (.goto 9, 3) := by decide +kernel
theorem dX7_isItem_123 : decode cX7_isItem 123 = .ok (.aload_n 0, 1) := by decide +kernel
theorem dX7_isItem_124 : decode cX7_isItem 124 = .ok (.getfield 13, 3) := by decide +kernel
theorem dX7_isItem_127 : decode cX7_isItem 127 = .ok (.iload_n 3, 1) := by decide +kernel
theorem dX7_isItem_128 : decode cX7_isItem 128 = .ok (.iaload, 1) := by decide +kernel
theorem dX7_isItem_129 : decode cX7_isItem 129 = .ok (.iastore, 1) := by decide +kernel
theorem dX7_isItem_130 : decode cX7_isItem 130 = .ok (.iinc 3 1, 3) := by decide +kernel
theorem dX7_isItem_133 : decode cX7_isItem 133 = .ok (.goto (-40), 3) := by decide +kernel
theorem dX7_isItem_136 : decode cX7_isItem 136 = .ok (.aload_n 0, 1) := by decide +kernel
theorem dX7_isItem_137 : decode cX7_isItem 137 = .ok (.dup, 1) := by decide +kernel
theorem dX7_isItem_138 : decode cX7_isItem 138 = .ok (.getfield 90, 3) := by decide +kernel
theorem dX7_isItem_141 : decode cX7_isItem 141 = .ok (.iconst 1, 1) := by decide +kernel
theorem dX7_isItem_142 : decode cX7_isItem 142 = .ok (.iadd, 1) := by decide +kernel
theorem dX7_isItem_143 : decode cX7_isItem 143 = .ok (.putfield 90, 3) := by decide +kernel
theorem dX7_isItem_146 : decode cX7_isItem 146 = .ok (.iload_n 2, 1) := by decide +kernel
theorem dX7_isItem_147 : decode cX7_isItem 147 = .ok (.ireturn, 1) := by decide +kernel
theorem dX7_isItem_148 : decode cX7_isItem 148 = .ok (.iload_n 1, 1) := by decide +kernel
theorem dX7_isItem_149 : decode cX7_isItem 149 = .ok (.bipush 119, 2) := by decide +kernel
theorem dX7_isItem_151 : decode cX7_isItem 151 = .ok (.if_icmp .ne 124, 3) := by decide +kernel
theorem dX7_isItem_154 : decode cX7_isItem 154 = .ok (.aload_n 0, 1) := by decide +kernel
theorem dX7_isItem_155 : decode cX7_isItem 155 = .ok (.getfield 97, 3) := by decide +kernel
theorem dX7_isItem_158 : decode cX7_isItem 158 = .ok (.bipush 9, 2) := by decide +kernel
theorem dX7_isItem_160 : decode cX7_isItem 160 = .ok (.if_icmp .ge 65, 3) := by decide +kernel
theorem dX7_isItem_163 : decode cX7_isItem 163 = .ok (.aload_n 0, 1) := by decide +kernel
theorem dX7_isItem_164 : decode cX7_isItem 164 = .ok (.iconst 3, 1) := by decide +kernel
theorem dX7_isItem_165 : decode cX7_isItem 165 = .ok (.invokevirtual 93, 3) := by decide +kernel
theorem dX7_isItem_168 : decode cX7_isItem 168 = .ok (.ifCond .eq 57, 3) := by decide +kernel
theorem dX7_isItem_171 : decode cX7_isItem 171 = .ok (.aload_n 0, 1) := by decide +kernel
theorem dX7_isItem_172 : decode cX7_isItem 172 = .ok (.getfield 13, 3) := by decide +kernel
theorem dX7_isItem_175 : decode cX7_isItem 175 = .ok (.iconst 0, 1) := by decide +kernel
theorem dX7_isItem_176 : decode cX7_isItem 176 = .ok (.iaload, 1) := by decide +kernel
theorem dX7_isItem_177 : decode cX7_isItem 177 = .ok (.aload_n 0, 1) := by decide +kernel
theorem dX7_isItem_178 : decode cX7_isItem 178 = .ok (.getfield 90, 3) := by decide +kernel
theorem dX7_isItem_181 : decode cX7_isItem 181 = .ok (.if_icmp .ge 44, 3) := by decide +kernel
theorem dX7_isItem_184 : decode cX7_isItem 184 = .ok (.aload_n 0, 1) := by decide +kernel
theorem dX7_isItem_185 : decode cX7_isItem 185 = .ok (.getfield 13, 3) := by decide +kernel
theorem dX7_isItem_188 : decode cX7_isItem 188 = .ok (.iconst 1, 1) := by decide +kernel
theorem dX7_isItem_189 : decode cX7_isItem 189 = .ok (.iaload, 1) := by decide +kernel
theorem dX7_isItem_190 : decode cX7_isItem 190 = .ok (.aload_n 0, 1) := by decide +kernel
theorem dX7_isItem_191 : decode cX7_isItem 191 = .ok (.getfield 90, 3) := by decide +kernel
theorem dX7_isItem_194 : decode cX7_isItem 194 = .ok (.if_icmp .ge 31, 3) := by decide +kernel
theorem dX7_isItem_197 : decode cX7_isItem 197 = .ok (.aload_n 0, 1) := by decide +kernel
theorem dX7_isItem_198 : decode cX7_isItem 198 = .ok (.getfield 13, 3) := by decide +kernel
theorem dX7_isItem_201 : decode cX7_isItem 201 = .ok (.iconst 0, 1) := by decide +kernel
theorem dX7_isItem_202 : decode cX7_isItem 202 = .ok (.iaload, 1) := by decide +kernel
theorem dX7_isItem_203 : decode cX7_isItem 203 = .ok (.aload_n 0, 1) := by decide +kernel
theorem dX7_isItem_204 : decode cX7_isItem 204 = .ok (.getfield 13, 3) := by decide +kernel
theorem dX7_isItem_207 : decode cX7_isItem 207 = .ok (.iconst 1, 1) := by decide +kernel
theorem dX7_isItem_208 : decode cX7_isItem 208 = .ok (.iaload, 1) := by decide +kernel
theorem dX7_isItem_209 : decode cX7_isItem 209 = .ok (.if_icmp .eq 16, 3) := by decide +kernel
theorem dX7_isItem_212 : decode cX7_isItem 212 = .ok (.aload_n 0, 1) := by decide +kernel
theorem dX7_isItem_213 : decode cX7_isItem 213 = .ok (.getfield 13, 3) := by decide +kernel
theorem dX7_isItem_216 : decode cX7_isItem 216 = .ok (.iconst 2, 1) := by decide +kernel
theorem dX7_isItem_217 : decode cX7_isItem 217 = .ok (.iaload, 1) := by decide +kernel
theorem dX7_isItem_218 : decode cX7_isItem 218 = .ok (.ifCond .le 7, 3) := by decide +kernel
theorem dX7_isItem_221 : decode cX7_isItem 221 = .ok (.iconst 1, 1) := by decide +kernel
theorem dX7_isItem_222 : decode cX7_isItem 222 = .ok (.goto 4, 3) := by decide +kernel
theorem dX7_isItem_225 : decode cX7_isItem 225 = .ok (.iconst 0, 1) := by decide +kernel
theorem dX7_isItem_226 : decode cX7_isItem 226 = .ok (.istore_n 2, 1) := by decide +kernel
theorem dX7_isItem_227 : decode cX7_isItem 227 = .ok (.iconst 0, 1) := by decide +kernel
theorem dX7_isItem_228 : decode cX7_isItem 228 = .ok (.istore_n 3, 1) := by decide +kernel
theorem dX7_isItem_229 : decode cX7_isItem 229 = .ok (.iload_n 3, 1) := by decide +kernel
theorem dX7_isItem_230 : decode cX7_isItem 230 = .ok (.iconst 3, 1) := by decide +kernel
theorem dX7_isItem_231 : decode cX7_isItem 231 = .ok (.if_icmp .ge 32, 3) := by decide +kernel
theorem dX7_isItem_234 : decode cX7_isItem 234 = .ok (.iload_n 2, 1) := by decide +kernel
theorem dX7_isItem_235 : decode cX7_isItem 235 = .ok (.ifCond .eq 28, 3) := by decide +kernel
theorem dX7_isItem_238 : decode cX7_isItem 238 = .ok (.aload_n 0, 1) := by decide +kernel
theorem dX7_isItem_239 : decode cX7_isItem 239 = .ok (.getfield 19, 3) := by decide +kernel
theorem dX7_isItem_242 : decode cX7_isItem 242 = .ok (.iconst 3, 1) := by decide +kernel
theorem dX7_isItem_243 : decode cX7_isItem 243 = .ok (.aload_n 0, 1) := by decide +kernel
theorem dX7_isItem_244 : decode cX7_isItem 244 = .ok (.getfield 97, 3) := by decide +kernel
theorem dX7_isItem_247 : decode cX7_isItem 247 = .ok (.imul, 1) := by decide +kernel
theorem dX7_isItem_248 : decode cX7_isItem 248 = .ok (.iload_n 3, 1) := by decide +kernel
theorem dX7_isItem_249 : decode cX7_isItem 249 = .ok (.iadd, 1) := by decide +kernel
theorem dX7_isItem_250 : decode cX7_isItem 250 = .ok (.aload_n 0, 1) := by decide +kernel
theorem dX7_isItem_251 : decode cX7_isItem 251 = .ok (.getfield 13, 3) := by decide +kernel
theorem dX7_isItem_254 : decode cX7_isItem 254 = .ok (.iload_n 3, 1) := by decide +kernel
theorem dX7_isItem_255 : decode cX7_isItem 255 = .ok (.iaload, 1) := by decide +kernel
theorem dX7_isItem_256 : decode cX7_isItem 256 = .ok (.iastore, 1) := by decide +kernel
theorem dX7_isItem_257 : decode cX7_isItem 257 = .ok (.iinc 3 1, 3) := by decide +kernel
theorem dX7_isItem_260 : decode cX7_isItem 260 = .ok (.goto (-31), 3) := by decide +kernel
theorem dX7_isItem_263 : decode cX7_isItem 263 = .ok (.aload_n 0, 1) := by decide +kernel
theorem dX7_isItem_264 : decode cX7_isItem 264 = .ok (.dup, 1) := by decide +kernel
theorem dX7_isItem_265 : decode cX7_isItem 265 = .ok (.getfield 97, 3) := by decide +kernel
theorem dX7_isItem_268 : decode cX7_isItem 268 = .ok (.iconst 1, 1) := by decide +kernel
theorem dX7_isItem_269 : decode cX7_isItem 269 = .ok (.iadd, 1) := by decide +kernel
theorem dX7_isItem_270 : decode cX7_isItem 270 = .ok (.putfield 97, 3) := by decide +kernel
theorem dX7_isItem_273 : decode cX7_isItem 273 = .ok (.iload_n 2, 1) := by decide +kernel
theorem dX7_isItem_274 : decode cX7_isItem 274 = .ok (.ireturn, 1) := by decide +kernel
theorem dX7_isItem_275 : decode cX7_isItem 275 = .ok (.iload_n 1, 1) := by decide +kernel
theorem dX7_isItem_276 : decode cX7_isItem 276 = .ok (.bipush 103, 2) := by decide +kernel
theorem dX7_isItem_278 : decode cX7_isItem 278 = .ok (.if_icmp .ne 49, 3) := by decide +kernel
theorem dX7_isItem_281 : decode cX7_isItem 281 = .ok (.aload_n 0, 1) := by decide +kernel
theorem dX7_isItem_282 : decode cX7_isItem 282 = .ok (.iconst 2, 1) := by decide +kernel
theorem dX7_isItem_283 : decode cX7_isItem 283 = .ok (.invokevirtual 93, 3) := by decide +kernel
theorem dX7_isItem_286 : decode cX7_isItem 286 = .ok (.ifCond .eq 16, 3) := by decide +kernel
theorem dX7_isItem_289 : decode cX7_isItem 289 = .ok (.aload_n 0, 1) := by decide +kernel
theorem dX7_isItem_290 : decode cX7_isItem 290 = .ok (.getfield 13, 3) := by decide +kernel
theorem dX7_isItem_293 : decode cX7_isItem 293 = .ok (.iconst 0, 1) := by decide +kernel
theorem dX7_isItem_294 : decode cX7_isItem 294 = .ok (.iaload, 1) := by decide +kernel
theorem dX7_isItem_295 : decode cX7_isItem 295 = .ok (.aload_n 0, 1) := by decide +kernel
theorem dX7_isItem_296 : decode cX7_isItem 296 = .ok (.getfield 90, 3) := by decide +kernel
theorem dX7_isItem_299 : decode cX7_isItem 299 = .ok (.if_icmp .lt 5, 3) := by decide +kernel
theorem dX7_isItem_302 : decode cX7_isItem 302 = .ok (.iconst 0, 1) := by decide +kernel
theorem dX7_isItem_303 : decode cX7_isItem 303 = .ok (.ireturn, 1) := by decide +kernel
theorem dX7_isItem_304 : decode cX7_isItem 304 = .ok (.aload_n 0, 1) := by decide +kernel
theorem dX7_isItem_305 : decode cX7_isItem 305 = .ok (.getfield 16, 3) := by decide +kernel
theorem dX7_isItem_308 : decode cX7_isItem 308 = .ok (.iconst 5, 1) := by decide +kernel
theorem dX7_isItem_309 : decode cX7_isItem 309 = .ok (.aload_n 0, 1) := by decide +kernel
theorem dX7_isItem_310 : decode cX7_isItem 310 = .ok (.getfield 13, 3) := by decide +kernel
theorem dX7_isItem_313 : decode cX7_isItem 313 = .ok (.iconst 0, 1) := by decide +kernel
theorem dX7_isItem_314 : decode cX7_isItem 314 = .ok (.iaload, 1) := by decide +kernel
theorem dX7_isItem_315 : decode cX7_isItem 315 = .ok (.imul, 1) := by decide +kernel
theorem dX7_isItem_316 : decode cX7_isItem 316 = .ok (.iconst 4, 1) := by decide +kernel
theorem dX7_isItem_317 : decode cX7_isItem 317 = .ok (.iadd, 1) := by decide +kernel
theorem dX7_isItem_318 : decode cX7_isItem 318 = .ok (.aload_n 0, 1) := by decide +kernel
theorem dX7_isItem_319 : decode cX7_isItem 319 = .ok (.getfield 13, 3) := by decide +kernel
theorem dX7_isItem_322 : decode cX7_isItem 322 = .ok (.iconst 1, 1) := by decide +kernel
theorem dX7_isItem_323 : decode cX7_isItem 323 = .ok (.iaload, 1) := by decide +kernel
theorem dX7_isItem_324 : decode cX7_isItem 324 = .ok (.iastore, 1) := by decide +kernel
theorem dX7_isItem_325 : decode cX7_isItem 325 = .ok (.iconst 1, 1) := by decide +kernel
theorem dX7_isItem_326 : decode cX7_isItem 326 = .ok (.ireturn, 1) := by decide +kernel
theorem dX7_isItem_327 : decode cX7_isItem 327 = .ok (.iload_n 1, 1) := by decide +kernel
theorem dX7_isItem_328 : decode cX7_isItem 328 = .ok (.bipush 122, 2) := by decide +kernel
theorem dX7_isItem_330 : decode cX7_isItem 330 = .ok (.if_icmp .ne 11, 3) := by decide +kernel
theorem dX7_isItem_333 : decode cX7_isItem 333 = .ok (.aload_n 0, 1) := by decide +kernel
theorem dX7_isItem_334 : decode cX7_isItem 334 = .ok (.iconst 1, 1) := by decide +kernel
theorem dX7_isItem_335 : decode cX7_isItem 335 = .ok (.invokevirtual 93, 3) := by decide +kernel
theorem dX7_isItem_338 : decode cX7_isItem 338 = .ok (.ifCond .ne 5, 3) := by decide +kernel
theorem dX7_isItem_341 : decode cX7_isItem 341 = .ok (.iconst 0, 1) := by decide +kernel
theorem dX7_isItem_342 : decode cX7_isItem 342 = .ok (.ireturn, 1) := by decide +kernel
theorem dX7_isItem_343 : decode cX7_isItem 343 = .ok (.aload_n 0, 1) := by decide +kernel
theorem dX7_isItem_344 : decode cX7_isItem 344 = .ok (.aload_n 0, 1) := by decide +kernel
theorem dX7_isItem_345 : decode cX7_isItem 345 = .ok (.getfield 13, 3) := by decide +kernel
theorem dX7_isItem_348 : decode cX7_isItem 348 = .ok (.iconst 0, 1) := by decide +kernel
theorem dX7_isItem_349 : decode cX7_isItem 349 = .ok (.iaload, 1) := by decide +kernel
theorem dX7_isItem_350 : decode cX7_isItem 350 = .ok (.putfield 100, 3) := by decide +kernel
theorem dX7_isItem_353 : decode cX7_isItem 353 = .ok (.iconst 1, 1) := by decide +kernel
theorem dX7_isItem_354 : decode cX7_isItem 354 = .ok (.ireturn, 1) := by decide +kernel
theorem dX7_isRead_0 : decode cX7_isRead 0 = .ok (.aload_n 0, 1) := by decide +kernel
theorem dX7_isRead_1 : decode cX7_isRead 1 = .ok (.iconst 0, 1) := by decide +kernel
theorem dX7_isRead_2 : decode cX7_isRead 2 = .ok (.putfield 83, 3) := by decide +kernel
theorem dX7_isRead_5 : decode cX7_isRead 5 = .ok (.aload_n 0, 1) := by decide +kernel
theorem dX7_isRead_6 : decode cX7_isRead 6 = .ok (.iconst 0, 1) := by decide +kernel
theorem dX7_isRead_7 : decode cX7_isRead 7 = .ok (.putfield 90, 3) := by decide +kernel
theorem dX7_isRead_10 : decode cX7_isRead 10 = .ok (.aload_n 0, 1) := by decide +kernel
theorem dX7_isRead_11 : decode cX7_isRead 11 = .ok (.iconst 0, 1) := by decide +kernel
theorem dX7_isRead_12 : decode cX7_isRead 12 = .ok (.putfield 97, 3) := by decide +kernel
theorem dX7_isRead_15 : decode cX7_isRead 15 = .ok (.aload_n 0, 1) := by decide +kernel
theorem dX7_isRead_16 : decode cX7_isRead 16 = .ok (.iconst 0, 1) := by decide +kernel
theorem dX7_isRead_17 : decode cX7_isRead 17 = .ok (.putfield 100, 3) := by decide +kernel
theorem dX7_isRead_20 : decode cX7_isRead 20 = .ok (.aload_n 0, 1) := by decide +kernel
theorem dX7_isRead_21 : decode cX7_isRead 21 = .ok (.getfield 83, 3) := by decide +kernel
theorem dX7_isRead_24 : decode cX7_isRead 24 = .ok (.aload_n 0, 1) := by decide +kernel
theorem dX7_isRead_25 : decode cX7_isRead 25 = .ok (.getfield 80, 3) := by decide +kernel
theorem dX7_isRead_28 : decode cX7_isRead 28 = .ok (.if_icmp .ge 20, 3) := by decide +kernel
theorem dX7_isRead_31 : decode cX7_isRead 31 = .ok (.aload_n 0, 1) := by decide +kernel
theorem dX7_isRead_32 : decode cX7_isRead 32 = .ok (.aload_n 0, 1) := by decide +kernel
theorem dX7_isRead_33 : decode cX7_isRead 33 = .ok (.getfield 83, 3) := by decide +kernel
theorem dX7_isRead_36 : decode cX7_isRead 36 = .ok (.putfield 103, 3) := by decide +kernel
theorem dX7_isRead_39 : decode cX7_isRead 39 = .ok (.aload_n 0, 1) := by decide +kernel
theorem dX7_isRead_40 : decode cX7_isRead 40 = .ok (.invokevirtual 106, 3) := by decide +kernel
theorem dX7_isRead_43 : decode cX7_isRead 43 = .ok (.ifCond .ne (-23), 3) := by decide +kernel
theorem dX7_isRead_46 : decode cX7_isRead 46 = .ok (.iconst 0, 1) := by decide +kernel
theorem dX7_isRead_47 : decode cX7_isRead 47 = .ok (.ireturn, 1) := by decide +kernel
theorem dX7_isRead_48 : decode cX7_isRead 48 = .ok (.iconst 1, 1) := by decide +kernel
theorem dX7_isRead_49 : decode cX7_isRead 49 = .ok (.ireturn, 1) := by decide +kernel
theorem dX7_fault_0 : decode cX7_fault 0 = .ok (.aload_n 0, 1) := by decide +kernel
theorem dX7_fault_1 : decode cX7_fault 1 = .ok (.invokevirtual 110, 3) := by decide +kernel
theorem dX7_fault_4 : decode cX7_fault 4 = .ok (.ifCond .eq 8, 3) := by decide +kernel
theorem dX7_fault_7 : decode cX7_fault 7 = .ok (.bipush (-4), 2) := by decide +kernel
theorem dX7_fault_9 : decode cX7_fault 9 = .ok (.goto 7, 3) := by decide +kernel
theorem dX7_fault_12 : decode cX7_fault 12 = .ok (.aload_n 0, 1) := by decide +kernel
theorem dX7_fault_13 : decode cX7_fault 13 = .ok (.getfield 103, 3) := by decide +kernel
theorem dX7_fault_16 : decode cX7_fault 16 = .ok (.ireturn, 1) := by decide +kernel
theorem dX7_lay_0 : decode cX7_lay 0 = .ok (.aload_n 0, 1) := by decide +kernel
theorem dX7_lay_1 : decode cX7_lay 1 = .ok (.invokevirtual 110, 3) := by decide +kernel
theorem dX7_lay_4 : decode cX7_lay 4 = .ok (.ifCond .eq 10, 3) := by decide +kernel
theorem dX7_lay_7 : decode cX7_lay 7 = .ok (.aload_n 0, 1) := by decide +kernel
theorem dX7_lay_8 : decode cX7_lay 8 = .ok (.getfield 90, 3) := by decide +kernel
theorem dX7_lay_11 : decode cX7_lay 11 = .ok (.ifCond .ne 6, 3) := by decide +kernel
theorem dX7_lay_14 : decode cX7_lay 14 = .ok (.bipush (-2), 2) := by decide +kernel
theorem dX7_lay_16 : decode cX7_lay 16 = .ok (.ireturn, 1) := by decide +kernel
theorem dX7_lay_17 : decode cX7_lay 17 = .ok (.aload_n 0, 1) := by decide +kernel
theorem dX7_lay_18 : decode cX7_lay 18 = .ok (.aload_n 0, 1) := by decide +kernel
theorem dX7_lay_19 : decode cX7_lay 19 = .ok (.getfield 90, 3) := by decide +kernel
theorem dX7_lay_22 : decode cX7_lay 22 = .ok (.putfield 22, 3) := by decide +kernel
theorem dX7_lay_25 : decode cX7_lay 25 = .ok (.aload_n 0, 1) := by decide +kernel
theorem dX7_lay_26 : decode cX7_lay 26 = .ok (.aload_n 0, 1) := by decide +kernel
theorem dX7_lay_27 : decode cX7_lay 27 = .ok (.getfield 97, 3) := by decide +kernel
theorem dX7_lay_30 : decode cX7_lay 30 = .ok (.putfield 29, 3) := by decide +kernel
theorem dX7_lay_33 : decode cX7_lay 33 = .ok (.aload_n 0, 1) := by decide +kernel
theorem dX7_lay_34 : decode cX7_lay 34 = .ok (.aload_n 0, 1) := by decide +kernel
theorem dX7_lay_35 : decode cX7_lay 35 = .ok (.getfield 100, 3) := by decide +kernel
theorem dX7_lay_38 : decode cX7_lay 38 = .ok (.putfield 32, 3) := by decide +kernel
theorem dX7_lay_41 : decode cX7_lay 41 = .ok (.iconst 0, 1) := by decide +kernel
theorem dX7_lay_42 : decode cX7_lay 42 = .ok (.istore_n 1, 1) := by decide +kernel
theorem dX7_lay_43 : decode cX7_lay 43 = .ok (.iload_n 1, 1) := by decide +kernel
theorem dX7_lay_44 : decode cX7_lay 44 = .ok (.iconst 5, 1) := by decide +kernel
theorem dX7_lay_45 : decode cX7_lay 45 = .ok (.aload_n 0, 1) := by decide +kernel
theorem dX7_lay_46 : decode cX7_lay 46 = .ok (.getfield 22, 3) := by decide +kernel
theorem dX7_lay_49 : decode cX7_lay 49 = .ok (.imul, 1) := by decide +kernel
theorem dX7_lay_50 : decode cX7_lay 50 = .ok (.if_icmp .ge 21, 3) := by decide +kernel
theorem dX7_lay_53 : decode cX7_lay 53 = .ok (.aload_n 0, 1) := by decide +kernel
theorem dX7_lay_54 : decode cX7_lay 54 = .ok (.getfield 26, 3) := by decide +kernel
theorem dX7_lay_57 : decode cX7_lay 57 = .ok (.iload_n 1, 1) := by decide +kernel
theorem dX7_lay_58 : decode cX7_lay 58 = .ok (.aload_n 0, 1) := by decide +kernel
theorem dX7_lay_59 : decode cX7_lay 59 = .ok (.getfield 16, 3) := by decide +kernel
theorem dX7_lay_62 : decode cX7_lay 62 = .ok (.iload_n 1, 1) := by decide +kernel
theorem dX7_lay_63 : decode cX7_lay 63 = .ok (.iaload, 1) := by decide +kernel
theorem dX7_lay_64 : decode cX7_lay 64 = .ok (.iastore, 1) := by decide +kernel
theorem dX7_lay_65 : decode cX7_lay 65 = .ok (.iinc 1 1, 3) := by decide +kernel
theorem dX7_lay_68 : decode cX7_lay 68 = .ok (.goto (-25), 3) := by decide +kernel
theorem dX7_lay_71 : decode cX7_lay 71 = .ok (.iconst 0, 1) := by decide +kernel
theorem dX7_lay_72 : decode cX7_lay 72 = .ok (.istore_n 1, 1) := by decide +kernel
theorem dX7_lay_73 : decode cX7_lay 73 = .ok (.iload_n 1, 1) := by decide +kernel
theorem dX7_lay_74 : decode cX7_lay 74 = .ok (.bipush 40, 2) := by decide +kernel
theorem dX7_lay_76 : decode cX7_lay 76 = .ok (.if_icmp .ge 35, 3) := by decide +kernel
theorem dX7_lay_79 : decode cX7_lay 79 = .ok (.aload_n 0, 1) := by decide +kernel
theorem dX7_lay_80 : decode cX7_lay 80 = .ok (.getfield 35, 3) := by decide +kernel
theorem dX7_lay_83 : decode cX7_lay 83 = .ok (.iload_n 1, 1) := by decide +kernel
theorem dX7_lay_84 : decode cX7_lay 84 = .ok (.iload_n 1, 1) := by decide +kernel
theorem dX7_lay_85 : decode cX7_lay 85 = .ok (.iconst 3, 1) := by decide +kernel
theorem dX7_lay_86 : decode cX7_lay 86 = .ok (.aload_n 0, 1) := by decide +kernel
theorem dX7_lay_87 : decode cX7_lay 87 = .ok (.getfield 29, 3) := by decide +kernel
theorem dX7_lay_90 : decode cX7_lay 90 = .ok (.imul, 1) := by decide +kernel
theorem dX7_lay_91 : decode cX7_lay 91 = .ok (.if_icmp .ge 12, 3) := by decide +kernel
theorem dX7_lay_94 : decode cX7_lay 94 = .ok (.aload_n 0, 1) := by decide +kernel
theorem dX7_lay_95 : decode cX7_lay 95 = .ok (.getfield 19, 3) := by decide +kernel
theorem dX7_lay_98 : decode cX7_lay 98 = .ok (.iload_n 1, 1) := by decide +kernel
theorem dX7_lay_99 : decode cX7_lay 99 = .ok (.iaload, 1) := by decide +kernel
theorem dX7_lay_100 : decode cX7_lay 100 = .ok (.goto 4, 3) := by decide +kernel
theorem dX7_lay_103 : decode cX7_lay 103 = .ok (.iconst 0, 1) := by decide +kernel
theorem dX7_lay_104 : decode cX7_lay 104 = .ok (.iastore, 1) := by decide +kernel
theorem dX7_lay_105 : decode cX7_lay 105 = .ok (.iinc 1 1, 3) := by decide +kernel
theorem dX7_lay_108 : decode cX7_lay 108 = .ok (.goto (-35), 3) := by decide +kernel
theorem dX7_lay_111 : decode cX7_lay 111 = .ok (.aload_n 0, 1) := by decide +kernel
theorem dX7_lay_112 : decode cX7_lay 112 = .ok (.iconst 0, 1) := by decide +kernel
theorem dX7_lay_113 : decode cX7_lay 113 = .ok (.putfield 113, 3) := by decide +kernel
theorem dX7_lay_116 : decode cX7_lay 116 = .ok (.aload_n 0, 1) := by decide +kernel
theorem dX7_lay_117 : decode cX7_lay 117 = .ok (.iconst 0, 1) := by decide +kernel
theorem dX7_lay_118 : decode cX7_lay 118 = .ok (.putfield 116, 3) := by decide +kernel
theorem dX7_lay_121 : decode cX7_lay 121 = .ok (.aload_n 0, 1) := by decide +kernel
theorem dX7_lay_122 : decode cX7_lay 122 = .ok (.iconst 0, 1) := by decide +kernel
theorem dX7_lay_123 : decode cX7_lay 123 = .ok (.putfield 119, 3) := by decide +kernel
theorem dX7_lay_126 : decode cX7_lay 126 = .ok (.aload_n 0, 1) := by decide +kernel
theorem dX7_lay_127 : decode cX7_lay 127 = .ok (.getfield 22, 3) := by decide +kernel
theorem dX7_lay_130 : decode cX7_lay 130 = .ok (.ireturn, 1) := by decide +kernel
theorem dX7_leavesOf_0 : decode cX7_leavesOf 0 = .ok (.iconst 0, 1) := by decide +kernel
theorem dX7_leavesOf_1 : decode cX7_leavesOf 1 = .ok (.istore_n 2, 1) := by decide +kernel
theorem dX7_leavesOf_2 : decode cX7_leavesOf 2 = .ok (.iconst 0, 1) := by decide +kernel
theorem dX7_leavesOf_3 : decode cX7_leavesOf 3 = .ok (.istore_n 3, 1) := by decide +kernel
theorem dX7_leavesOf_4 : decode cX7_leavesOf 4 = .ok (.iload_n 3, 1) := by decide +kernel
theorem dX7_leavesOf_5 : decode cX7_leavesOf 5 = .ok (.aload_n 0, 1) := by decide +kernel
theorem dX7_leavesOf_6 : decode cX7_leavesOf 6 = .ok (.getfield 29, 3) := by decide +kernel
theorem dX7_leavesOf_9 : decode cX7_leavesOf 9 = .ok (.if_icmp .ge 38, 3) := by decide +kernel
theorem dX7_leavesOf_12 : decode cX7_leavesOf 12 = .ok (.iload_n 2, 1) := by decide +kernel
theorem dX7_leavesOf_13 : decode cX7_leavesOf 13 = .ok (.aload_n 0, 1) := by decide +kernel
theorem dX7_leavesOf_14 : decode cX7_leavesOf 14 = .ok (.getfield 35, 3) := by decide +kernel
theorem dX7_leavesOf_17 : decode cX7_leavesOf 17 = .ok (.iconst 3, 1) := by decide +kernel
theorem dX7_leavesOf_18 : decode cX7_leavesOf 18 = .ok (.iload_n 3, 1) := by decide +kernel
theorem dX7_leavesOf_19 : decode cX7_leavesOf 19 = .ok (.imul, 1) := by decide +kernel
theorem dX7_leavesOf_20 : decode cX7_leavesOf 20 = .ok (.iaload, 1) := by decide +kernel
theorem dX7_leavesOf_21 : decode cX7_leavesOf 21 = .ok (.iload_n 1, 1) := by decide +kernel
theorem dX7_leavesOf_22 : decode cX7_leavesOf 22 = .ok (.if_icmp .ne 16, 3) := by decide +kernel
theorem dX7_leavesOf_25 : decode cX7_leavesOf 25 = .ok (.aload_n 0, 1) := by decide +kernel
theorem dX7_leavesOf_26 : decode cX7_leavesOf 26 = .ok (.getfield 35, 3) := by decide +kernel
theorem dX7_leavesOf_29 : decode cX7_leavesOf 29 = .ok (.iconst 3, 1) := by decide +kernel
theorem dX7_leavesOf_30 : decode cX7_leavesOf 30 = .ok (.iload_n 3, 1) := by decide +kernel
theorem dX7_leavesOf_31 : decode cX7_leavesOf 31 = .ok (.imul, 1) := by decide +kernel
theorem dX7_leavesOf_32 : decode cX7_leavesOf 32 = .ok (.iconst 2, 1) := by decide +kernel
theorem dX7_leavesOf_33 : decode cX7_leavesOf 33 = .ok (.iadd, 1) := by decide +kernel
theorem dX7_leavesOf_34 : decode cX7_leavesOf 34 = .ok (.iaload, 1) := by decide +kernel
theorem dX7_leavesOf_35 : decode cX7_leavesOf 35 = .ok (.goto 4, 3) := by decide +kernel
theorem dX7_leavesOf_38 : decode cX7_leavesOf 38 = .ok (.iconst 0, 1) := by decide +kernel
theorem dX7_leavesOf_39 : decode cX7_leavesOf 39 = .ok (.iadd, 1) := by decide +kernel
theorem dX7_leavesOf_40 : decode cX7_leavesOf 40 = .ok (.istore_n 2, 1) := by decide +kernel
theorem dX7_leavesOf_41 : decode cX7_leavesOf 41 = .ok (.iinc 3 1, 3) := by decide +kernel
theorem dX7_leavesOf_44 : decode cX7_leavesOf 44 = .ok (.goto (-40), 3) := by decide +kernel
theorem dX7_leavesOf_47 : decode cX7_leavesOf 47 = .ok (.iload_n 2, 1) := by decide +kernel
theorem dX7_leavesOf_48 : decode cX7_leavesOf 48 = .ok (.ireturn, 1) := by decide +kernel
theorem dX7_person_0 : decode cX7_person 0 = .ok (.aload_n 0, 1) := by decide +kernel
theorem dX7_person_1 : decode cX7_person 1 = .ok (.iload_n 1, 1) := by decide +kernel
theorem dX7_person_2 : decode cX7_person 2 = .ok (.invokevirtual 122, 3) := by decide +kernel
theorem dX7_person_5 : decode cX7_person 5 = .ok (.ifCond .eq 12, 3) := by decide +kernel
theorem dX7_person_8 : decode cX7_person 8 = .ok (.iload_n 2, 1) := by decide +kernel
theorem dX7_person_9 : decode cX7_person 9 = .ok (.iconst 0, 1) := by decide +kernel
theorem dX7_person_10 : decode cX7_person 10 = .ok (.iconst 5, 1) := by decide +kernel
theorem dX7_person_11 : decode cX7_person 11 = .ok (.invokestatic 76, 3) := by decide +kernel
theorem dX7_person_14 : decode cX7_person 14 = .ok (.ifCond .ne 5, 3) := by decide +kernel
theorem dX7_person_17 : decode cX7_person 17 = .ok (.iconst (-1), 1) := by decide +kernel
theorem dX7_person_18 : decode cX7_person 18 = .ok (.ireturn, 1) := by decide +kernel
theorem dX7_person_19 : decode cX7_person 19 = .ok (.iload_n 2, 1) := by decide +kernel
theorem dX7_person_20 : decode cX7_person 20 = .ok (.iconst 5, 1) := by decide +kernel
theorem dX7_person_21 : decode cX7_person 21 = .ok (.if_icmp .ge 16, 3) := by decide +kernel
theorem dX7_person_24 : decode cX7_person 24 = .ok (.aload_n 0, 1) := by decide +kernel
theorem dX7_person_25 : decode cX7_person 25 = .ok (.getfield 26, 3) := by decide +kernel
theorem dX7_person_28 : decode cX7_person 28 = .ok (.iconst 5, 1) := by decide +kernel
theorem dX7_person_29 : decode cX7_person 29 = .ok (.iload_n 1, 1) := by decide +kernel
theorem dX7_person_30 : decode cX7_person 30 = .ok (.imul, 1) := by decide +kernel
theorem dX7_person_31 : decode cX7_person 31 = .ok (.iload_n 2, 1) := by decide +kernel
theorem dX7_person_32 : decode cX7_person 32 = .ok (.iadd, 1) := by decide +kernel
theorem dX7_person_33 : decode cX7_person 33 = .ok (.iaload, 1) := by decide +kernel
theorem dX7_person_34 : decode cX7_person 34 = .ok (.goto 8, 3) := by decide +kernel
theorem dX7_person_37 : decode cX7_person 37 = .ok (.aload_n 0, 1) := by decide +kernel
theorem dX7_person_38 : decode cX7_person 38 = .ok (.iload_n 1, 1) := by decide +kernel
theorem dX7_person_39 : decode cX7_person 39 = .ok (.invokevirtual 125, 3) := by decide +kernel
theorem dX7_person_42 : decode cX7_person 42 = .ok (.ireturn, 1) := by decide +kernel
theorem dX7_bequest_0 : decode cX7_bequest 0 = .ok (.aload_n 0, 1) := by decide +kernel
theorem dX7_bequest_1 : decode cX7_bequest 1 = .ok (.iload_n 1, 1) := by decide +kernel
theorem dX7_bequest_2 : decode cX7_bequest 2 = .ok (.invokevirtual 128, 3) := by decide +kernel
theorem dX7_bequest_5 : decode cX7_bequest 5 = .ok (.ifCond .eq 25, 3) := by decide +kernel
theorem dX7_bequest_8 : decode cX7_bequest 8 = .ok (.iload_n 2, 1) := by decide +kernel
theorem dX7_bequest_9 : decode cX7_bequest 9 = .ok (.iconst 0, 1) := by decide +kernel
theorem dX7_bequest_10 : decode cX7_bequest 10 = .ok (.iconst 2, 1) := by decide +kernel
theorem dX7_bequest_11 : decode cX7_bequest 11 = .ok (.invokestatic 76, 3) := by decide +kernel
theorem dX7_bequest_14 : decode cX7_bequest 14 = .ok (.ifCond .eq 16, 3) := by decide +kernel
theorem dX7_bequest_17 : decode cX7_bequest 17 = .ok (.aload_n 0, 1) := by decide +kernel
theorem dX7_bequest_18 : decode cX7_bequest 18 = .ok (.getfield 35, 3) := by decide +kernel
theorem dX7_bequest_21 : decode cX7_bequest 21 = .ok (.iconst 3, 1) := by decide +kernel
theorem dX7_bequest_22 : decode cX7_bequest 22 = .ok (.iload_n 1, 1) := by decide +kernel
theorem dX7_bequest_23 : decode cX7_bequest 23 = .ok (.imul, 1) := by decide +kernel
theorem dX7_bequest_24 : decode cX7_bequest 24 = .ok (.iload_n 2, 1) := by decide +kernel
theorem dX7_bequest_25 : decode cX7_bequest 25 = .ok (.iadd, 1) := by decide +kernel
theorem dX7_bequest_26 : decode cX7_bequest 26 = .ok (.iaload, 1) := by decide +kernel
theorem dX7_bequest_27 : decode cX7_bequest 27 = .ok (.goto 4, 3) := by decide +kernel
theorem dX7_bequest_30 : decode cX7_bequest 30 = .ok (.iconst (-1), 1) := by decide +kernel
theorem dX7_bequest_31 : decode cX7_bequest 31 = .ok (.ireturn, 1) := by decide +kernel
theorem dX7_copy_0 : decode cX7_copy 0 = .ok (.iconst 0, 1) := by decide +kernel
theorem dX7_copy_1 : decode cX7_copy 1 = .ok (.istore 4, 2) := by decide +kernel
theorem dX7_copy_3 : decode cX7_copy 3 = .ok (.iload 4, 2) := by decide +kernel
theorem dX7_copy_5 : decode cX7_copy 5 = .ok (.bipush 40, 2) := by decide +kernel
theorem dX7_copy_7 : decode cX7_copy 7 = .ok (.if_icmp .ge 21, 3) := by decide +kernel
theorem dX7_copy_10 : decode cX7_copy 10 = .ok (.aload_n 2, 1) := by decide +kernel
theorem dX7_copy_11 : decode cX7_copy 11 = .ok (.iload_n 3, 1) := by decide +kernel
theorem dX7_copy_12 : decode cX7_copy 12 = .ok (.iload 4, 2) := by decide +kernel
theorem dX7_copy_14 : decode cX7_copy 14 = .ok (.iadd, 1) := by decide +kernel
theorem dX7_copy_15 : decode cX7_copy 15 = .ok (.aload_n 0, 1) := by decide +kernel
theorem dX7_copy_16 : decode cX7_copy 16 = .ok (.iload_n 1, 1) := by decide +kernel
theorem dX7_copy_17 : decode cX7_copy 17 = .ok (.iload 4, 2) := by decide +kernel
theorem dX7_copy_19 : decode cX7_copy 19 = .ok (.iadd, 1) := by decide +kernel
theorem dX7_copy_20 : decode cX7_copy 20 = .ok (.iaload, 1) := by decide +kernel
theorem dX7_copy_21 : decode cX7_copy 21 = .ok (.iastore, 1) := by decide +kernel
theorem dX7_copy_22 : decode cX7_copy 22 = .ok (.iinc 4 1, 3) := by decide +kernel
theorem dX7_copy_25 : decode cX7_copy 25 = .ok (.goto (-22), 3) := by decide +kernel
theorem dX7_copy_28 : decode cX7_copy 28 = .ok (.return_, 1) := by decide +kernel
theorem dX7_note_0 : decode cX7_note 0 = .ok (.aload_n 0, 1) := by decide +kernel
theorem dX7_note_1 : decode cX7_note 1 = .ok (.getfield 116, 3) := by decide +kernel
theorem dX7_note_4 : decode cX7_note 4 = .ok (.bipush 8, 2) := by decide +kernel
theorem dX7_note_6 : decode cX7_note 6 = .ok (.if_icmp .ne 43, 3) := by decide +kernel
theorem dX7_note_9 : decode cX7_note 9 = .ok (.iconst 0, 1) := by decide +kernel
theorem dX7_note_10 : decode cX7_note 10 = .ok (.istore_n 1, 1) := by decide +kernel
theorem dX7_note_11 : decode cX7_note 11 = .ok (.iload_n 1, 1) := by decide +kernel
theorem dX7_note_12 : decode cX7_note 12 = .ok (.sipush 280, 3) := by decide +kernel
theorem dX7_note_15 : decode cX7_note 15 = .ok (.if_icmp .ge 24, 3) := by decide +kernel
theorem dX7_note_18 : decode cX7_note 18 = .ok (.aload_n 0, 1) := by decide +kernel
theorem dX7_note_19 : decode cX7_note 19 = .ok (.getfield 38, 3) := by decide +kernel
theorem dX7_note_22 : decode cX7_note 22 = .ok (.iload_n 1, 1) := by decide +kernel
theorem dX7_note_23 : decode cX7_note 23 = .ok (.aload_n 0, 1) := by decide +kernel
theorem dX7_note_24 : decode cX7_note 24 = .ok (.getfield 38, 3) := by decide +kernel
theorem dX7_note_27 : decode cX7_note 27 = .ok (.iload_n 1, 1) := by decide +kernel
theorem dX7_note_28 : decode cX7_note 28 = .ok (.bipush 40, 2) := by decide +kernel
theorem dX7_note_30 : decode cX7_note 30 = .ok (.iadd, 1) := by decide +kernel
theorem dX7_note_31 : decode cX7_note 31 = .ok (.iaload, 1) := by decide +kernel
theorem dX7_note_32 : decode cX7_note 32 = .ok (.iastore, 1) := by decide +kernel
theorem dX7_note_33 : decode cX7_note 33 = .ok (.iinc 1 1, 3) := by decide +kernel
theorem dX7_note_36 : decode cX7_note 36 = .ok (.goto (-25), 3) := by decide +kernel
theorem dX7_note_39 : decode cX7_note 39 = .ok (.aload_n 0, 1) := by decide +kernel
theorem dX7_note_40 : decode cX7_note 40 = .ok (.dup, 1) := by decide +kernel
theorem dX7_note_41 : decode cX7_note 41 = .ok (.getfield 116, 3) := by decide +kernel
theorem dX7_note_44 : decode cX7_note 44 = .ok (.iconst 1, 1) := by decide +kernel
theorem dX7_note_45 : decode cX7_note 45 = .ok (.isub, 1) := by decide +kernel
theorem dX7_note_46 : decode cX7_note 46 = .ok (.putfield 116, 3) := by decide +kernel
theorem dX7_note_49 : decode cX7_note 49 = .ok (.aload_n 0, 1) := by decide +kernel
theorem dX7_note_50 : decode cX7_note 50 = .ok (.getfield 35, 3) := by decide +kernel
theorem dX7_note_53 : decode cX7_note 53 = .ok (.iconst 0, 1) := by decide +kernel
theorem dX7_note_54 : decode cX7_note 54 = .ok (.aload_n 0, 1) := by decide +kernel
theorem dX7_note_55 : decode cX7_note 55 = .ok (.getfield 38, 3) := by decide +kernel
theorem dX7_note_58 : decode cX7_note 58 = .ok (.bipush 40, 2) := by decide +kernel
theorem dX7_note_60 : decode cX7_note 60 = .ok (.aload_n 0, 1) := by decide +kernel
theorem dX7_note_61 : decode cX7_note 61 = .ok (.getfield 116, 3) := by decide +kernel
theorem dX7_note_64 : decode cX7_note 64 = .ok (.imul, 1) := by decide +kernel
theorem dX7_note_65 : decode cX7_note 65 = .ok (.invokestatic 131, 3) := by decide +kernel
theorem dX7_note_68 : decode cX7_note 68 = .ok (.aload_n 0, 1) := by decide +kernel
theorem dX7_note_69 : decode cX7_note 69 = .ok (.dup, 1) := by decide +kernel
theorem dX7_note_70 : decode cX7_note 70 = .ok (.getfield 116, 3) := by decide +kernel
theorem dX7_note_73 : decode cX7_note 73 = .ok (.iconst 1, 1) := by decide +kernel
theorem dX7_note_74 : decode cX7_note 74 = .ok (.iadd, 1) := by decide +kernel
theorem dX7_note_75 : decode cX7_note 75 = .ok (.putfield 116, 3) := by decide +kernel
theorem dX7_note_78 : decode cX7_note 78 = .ok (.return_, 1) := by decide +kernel
theorem dX7_reword_0 : decode cX7_reword 0 = .ok (.aload_n 0, 1) := by decide +kernel
theorem dX7_reword_1 : decode cX7_reword 1 = .ok (.iload_n 1, 1) := by decide +kernel
theorem dX7_reword_2 : decode cX7_reword 2 = .ok (.invokevirtual 128, 3) := by decide +kernel
theorem dX7_reword_5 : decode cX7_reword 5 = .ok (.ifCond .eq 13, 3) := by decide +kernel
theorem dX7_reword_8 : decode cX7_reword 8 = .ok (.iload_n 2, 1) := by decide +kernel
theorem dX7_reword_9 : decode cX7_reword 9 = .ok (.iconst 1, 1) := by decide +kernel
theorem dX7_reword_10 : decode cX7_reword 10 = .ok (.bipush 99, 2) := by decide +kernel
theorem dX7_reword_12 : decode cX7_reword 12 = .ok (.invokestatic 76, 3) := by decide +kernel
theorem dX7_reword_15 : decode cX7_reword 15 = .ok (.ifCond .ne 5, 3) := by decide +kernel
theorem dX7_reword_18 : decode cX7_reword 18 = .ok (.iconst (-1), 1) := by decide +kernel
theorem dX7_reword_19 : decode cX7_reword 19 = .ok (.ireturn, 1) := by decide +kernel
theorem dX7_reword_20 : decode cX7_reword 20 = .ok (.aload_n 0, 1) := by decide +kernel
theorem dX7_reword_21 : decode cX7_reword 21 = .ok (.invokevirtual 135, 3) := by decide +kernel
theorem dX7_reword_24 : decode cX7_reword 24 = .ok (.aload_n 0, 1) := by decide +kernel
theorem dX7_reword_25 : decode cX7_reword 25 = .ok (.getfield 35, 3) := by decide +kernel
theorem dX7_reword_28 : decode cX7_reword 28 = .ok (.iconst 3, 1) := by decide +kernel
theorem dX7_reword_29 : decode cX7_reword 29 = .ok (.iload_n 1, 1) := by decide +kernel
theorem dX7_reword_30 : decode cX7_reword 30 = .ok (.imul, 1) := by decide +kernel
theorem dX7_reword_31 : decode cX7_reword 31 = .ok (.iconst 2, 1) := by decide +kernel
theorem dX7_reword_32 : decode cX7_reword 32 = .ok (.iadd, 1) := by decide +kernel
theorem dX7_reword_33 : decode cX7_reword 33 = .ok (.iaload, 1) := by decide +kernel
theorem dX7_reword_34 : decode cX7_reword 34 = .ok (.istore_n 3, 1) := by decide +kernel
theorem dX7_reword_35 : decode cX7_reword 35 = .ok (.aload_n 0, 1) := by decide +kernel
theorem dX7_reword_36 : decode cX7_reword 36 = .ok (.getfield 35, 3) := by decide +kernel
theorem dX7_reword_39 : decode cX7_reword 39 = .ok (.iconst 3, 1) := by decide +kernel
theorem dX7_reword_40 : decode cX7_reword 40 = .ok (.iload_n 1, 1) := by decide +kernel
theorem dX7_reword_41 : decode cX7_reword 41 = .ok (.imul, 1) := by decide +kernel
theorem dX7_reword_42 : decode cX7_reword 42 = .ok (.iconst 2, 1) := by decide +kernel
theorem dX7_reword_43 : decode cX7_reword 43 = .ok (.iadd, 1) := by decide +kernel
theorem dX7_reword_44 : decode cX7_reword 44 = .ok (.iload_n 2, 1) := by decide +kernel
theorem dX7_reword_45 : decode cX7_reword 45 = .ok (.iastore, 1) := by decide +kernel
theorem dX7_reword_46 : decode cX7_reword 46 = .ok (.iload_n 3, 1) := by decide +kernel
theorem dX7_reword_47 : decode cX7_reword 47 = .ok (.ireturn, 1) := by decide +kernel
theorem dX7_pass_0 : decode cX7_pass 0 = .ok (.aload_n 0, 1) := by decide +kernel
theorem dX7_pass_1 : decode cX7_pass 1 = .ok (.iload_n 1, 1) := by decide +kernel
theorem dX7_pass_2 : decode cX7_pass 2 = .ok (.invokevirtual 128, 3) := by decide +kernel
theorem dX7_pass_5 : decode cX7_pass 5 = .ok (.ifCond .eq 11, 3) := by decide +kernel
theorem dX7_pass_8 : decode cX7_pass 8 = .ok (.aload_n 0, 1) := by decide +kernel
theorem dX7_pass_9 : decode cX7_pass 9 = .ok (.iload_n 2, 1) := by decide +kernel
theorem dX7_pass_10 : decode cX7_pass 10 = .ok (.invokevirtual 122, 3) := by decide +kernel
theorem dX7_pass_13 : decode cX7_pass 13 = .ok (.ifCond .ne 5, 3) := by decide +kernel
theorem dX7_pass_16 : decode cX7_pass 16 = .ok (.iconst (-1), 1) := by decide +kernel
theorem dX7_pass_17 : decode cX7_pass 17 = .ok (.ireturn, 1) := by decide +kernel
theorem dX7_pass_18 : decode cX7_pass 18 = .ok (.aload_n 0, 1) := by decide +kernel
theorem dX7_pass_19 : decode cX7_pass 19 = .ok (.getfield 35, 3) := by decide +kernel
theorem dX7_pass_22 : decode cX7_pass 22 = .ok (.iconst 3, 1) := by decide +kernel
theorem dX7_pass_23 : decode cX7_pass 23 = .ok (.iload_n 1, 1) := by decide +kernel
theorem dX7_pass_24 : decode cX7_pass 24 = .ok (.imul, 1) := by decide +kernel
theorem dX7_pass_25 : decode cX7_pass 25 = .ok (.iaload, 1) := by decide +kernel
theorem dX7_pass_26 : decode cX7_pass 26 = .ok (.iload_n 2, 1) := by decide +kernel
theorem dX7_pass_27 : decode cX7_pass 27 = .ok (.if_icmp .ne 6, 3) := by decide +kernel
theorem dX7_pass_30 : decode cX7_pass 30 = .ok (.bipush (-2), 2) := by decide +kernel
theorem dX7_pass_32 : decode cX7_pass 32 = .ok (.ireturn, 1) := by decide +kernel
theorem dX7_pass_33 : decode cX7_pass 33 = .ok (.aload_n 0, 1) := by decide +kernel
theorem dX7_pass_34 : decode cX7_pass 34 = .ok (.invokevirtual 135, 3) := by decide +kernel
theorem dX7_pass_37 : decode cX7_pass 37 = .ok (.aload_n 0, 1) := by decide +kernel
theorem dX7_pass_38 : decode cX7_pass 38 = .ok (.getfield 35, 3) := by decide +kernel
theorem dX7_pass_41 : decode cX7_pass 41 = .ok (.iconst 3, 1) := by decide +kernel
theorem dX7_pass_42 : decode cX7_pass 42 = .ok (.iload_n 1, 1) := by decide +kernel
theorem dX7_pass_43 : decode cX7_pass 43 = .ok (.imul, 1) := by decide +kernel
theorem dX7_pass_44 : decode cX7_pass 44 = .ok (.iconst 1, 1) := by decide +kernel
theorem dX7_pass_45 : decode cX7_pass 45 = .ok (.iadd, 1) := by decide +kernel
theorem dX7_pass_46 : decode cX7_pass 46 = .ok (.iaload, 1) := by decide +kernel
theorem dX7_pass_47 : decode cX7_pass 47 = .ok (.istore_n 3, 1) := by decide +kernel
theorem dX7_pass_48 : decode cX7_pass 48 = .ok (.aload_n 0, 1) := by decide +kernel
theorem dX7_pass_49 : decode cX7_pass 49 = .ok (.getfield 35, 3) := by decide +kernel
theorem dX7_pass_52 : decode cX7_pass 52 = .ok (.iconst 3, 1) := by decide +kernel
theorem dX7_pass_53 : decode cX7_pass 53 = .ok (.iload_n 1, 1) := by decide +kernel
theorem dX7_pass_54 : decode cX7_pass 54 = .ok (.imul, 1) := by decide +kernel
theorem dX7_pass_55 : decode cX7_pass 55 = .ok (.iconst 1, 1) := by decide +kernel
theorem dX7_pass_56 : decode cX7_pass 56 = .ok (.iadd, 1) := by decide +kernel
theorem dX7_pass_57 : decode cX7_pass 57 = .ok (.iload_n 2, 1) := by decide +kernel
theorem dX7_pass_58 : decode cX7_pass 58 = .ok (.iastore, 1) := by decide +kernel
theorem dX7_pass_59 : decode cX7_pass 59 = .ok (.iload_n 3, 1) := by decide +kernel
theorem dX7_pass_60 : decode cX7_pass 60 = .ok (.ireturn, 1) := by decide +kernel
theorem dX7_help_0 : decode cX7_help 0 = .ok (.aload_n 0, 1) := by decide +kernel
theorem dX7_help_1 : decode cX7_help 1 = .ok (.iload_n 1, 1) := by decide +kernel
theorem dX7_help_2 : decode cX7_help 2 = .ok (.invokevirtual 122, 3) := by decide +kernel
theorem dX7_help_5 : decode cX7_help 5 = .ok (.ifCond .eq 24, 3) := by decide +kernel
theorem dX7_help_8 : decode cX7_help 8 = .ok (.iload_n 2, 1) := by decide +kernel
theorem dX7_help_9 : decode cX7_help 9 = .ok (.iconst 0, 1) := by decide +kernel
theorem dX7_help_10 : decode cX7_help 10 = .ok (.sipush 150, 3) := by decide +kernel
theorem dX7_help_13 : decode cX7_help 13 = .ok (.invokestatic 76, 3) := by decide +kernel
theorem dX7_help_16 : decode cX7_help 16 = .ok (.ifCond .eq 13, 3) := by decide +kernel
theorem dX7_help_19 : decode cX7_help 19 = .ok (.iload_n 3, 1) := by decide +kernel
theorem dX7_help_20 : decode cX7_help 20 = .ok (.iconst 1, 1) := by decide +kernel
theorem dX7_help_21 : decode cX7_help 21 = .ok (.bipush 99, 2) := by decide +kernel
theorem dX7_help_23 : decode cX7_help 23 = .ok (.invokestatic 76, 3) := by decide +kernel
theorem dX7_help_26 : decode cX7_help 26 = .ok (.ifCond .ne 5, 3) := by decide +kernel
theorem dX7_help_29 : decode cX7_help 29 = .ok (.iconst (-1), 1) := by decide +kernel
theorem dX7_help_30 : decode cX7_help 30 = .ok (.ireturn, 1) := by decide +kernel
theorem dX7_help_31 : decode cX7_help 31 = .ok (.aload_n 0, 1) := by decide +kernel
theorem dX7_help_32 : decode cX7_help 32 = .ok (.getfield 35, 3) := by decide +kernel
theorem dX7_help_35 : decode cX7_help 35 = .ok (.bipush 27, 2) := by decide +kernel
theorem dX7_help_37 : decode cX7_help 37 = .ok (.iaload, 1) := by decide +kernel
theorem dX7_help_38 : decode cX7_help 38 = .ok (.iconst 4, 1) := by decide +kernel
theorem dX7_help_39 : decode cX7_help 39 = .ok (.if_icmp .ne 6, 3) := by decide +kernel
theorem dX7_help_42 : decode cX7_help 42 = .ok (.bipush (-3), 2) := by decide +kernel
theorem dX7_help_44 : decode cX7_help 44 = .ok (.ireturn, 1) := by decide +kernel
theorem dX7_help_45 : decode cX7_help 45 = .ok (.aload_n 0, 1) := by decide +kernel
theorem dX7_help_46 : decode cX7_help 46 = .ok (.invokevirtual 135, 3) := by decide +kernel
theorem dX7_help_49 : decode cX7_help 49 = .ok (.bipush 28, 2) := by decide +kernel
theorem dX7_help_51 : decode cX7_help 51 = .ok (.iconst 3, 1) := by decide +kernel
theorem dX7_help_52 : decode cX7_help 52 = .ok (.aload_n 0, 1) := by decide +kernel
theorem dX7_help_53 : decode cX7_help 53 = .ok (.getfield 35, 3) := by decide +kernel
theorem dX7_help_56 : decode cX7_help 56 = .ok (.bipush 27, 2) := by decide +kernel
theorem dX7_help_58 : decode cX7_help 58 = .ok (.iaload, 1) := by decide +kernel
theorem dX7_help_59 : decode cX7_help 59 = .ok (.imul, 1) := by decide +kernel
theorem dX7_help_60 : decode cX7_help 60 = .ok (.iadd, 1) := by decide +kernel
theorem dX7_help_61 : decode cX7_help 61 = .ok (.istore 4, 2) := by decide +kernel
theorem dX7_help_63 : decode cX7_help 63 = .ok (.aload_n 0, 1) := by decide +kernel
theorem dX7_help_64 : decode cX7_help 64 = .ok (.getfield 35, 3) := by decide +kernel
theorem dX7_help_67 : decode cX7_help 67 = .ok (.iload 4, 2) := by decide +kernel
theorem dX7_help_69 : decode cX7_help 69 = .ok (.iload_n 1, 1) := by decide +kernel
theorem dX7_help_70 : decode cX7_help 70 = .ok (.iastore, 1) := by decide +kernel
theorem dX7_help_71 : decode cX7_help 71 = .ok (.aload_n 0, 1) := by decide +kernel
theorem dX7_help_72 : decode cX7_help 72 = .ok (.getfield 35, 3) := by decide +kernel
theorem dX7_help_75 : decode cX7_help 75 = .ok (.iload 4, 2) := by decide +kernel
theorem dX7_help_77 : decode cX7_help 77 = .ok (.iconst 1, 1) := by decide +kernel
theorem dX7_help_78 : decode cX7_help 78 = .ok (.iadd, 1) := by decide +kernel
theorem dX7_help_79 : decode cX7_help 79 = .ok (.iload_n 2, 1) := by decide +kernel
theorem dX7_help_80 : decode cX7_help 80 = .ok (.iastore, 1) := by decide +kernel
theorem dX7_help_81 : decode cX7_help 81 = .ok (.aload_n 0, 1) := by decide +kernel
theorem dX7_help_82 : decode cX7_help 82 = .ok (.getfield 35, 3) := by decide +kernel
theorem dX7_help_85 : decode cX7_help 85 = .ok (.iload 4, 2) := by decide +kernel
theorem dX7_help_87 : decode cX7_help 87 = .ok (.iconst 2, 1) := by decide +kernel
theorem dX7_help_88 : decode cX7_help 88 = .ok (.iadd, 1) := by decide +kernel
theorem dX7_help_89 : decode cX7_help 89 = .ok (.iload_n 3, 1) := by decide +kernel
theorem dX7_help_90 : decode cX7_help 90 = .ok (.iastore, 1) := by decide +kernel
theorem dX7_help_91 : decode cX7_help 91 = .ok (.aload_n 0, 1) := by decide +kernel
theorem dX7_help_92 : decode cX7_help 92 = .ok (.getfield 35, 3) := by decide +kernel
theorem dX7_help_95 : decode cX7_help 95 = .ok (.bipush 27, 2) := by decide +kernel
theorem dX7_help_97 : decode cX7_help 97 = .ok (.dup2, 1) := by decide +kernel
theorem dX7_help_98 : decode cX7_help 98 = .ok (.iaload, 1) := by decide +kernel
theorem dX7_help_99 : decode cX7_help 99 = .ok (.iconst 1, 1) := by decide +kernel
theorem dX7_help_100 : decode cX7_help 100 = .ok (.iadd, 1) := by decide +kernel
theorem dX7_help_101 : decode cX7_help 101 = .ok (.iastore, 1) := by decide +kernel
theorem dX7_help_102 : decode cX7_help 102 = .ok (.aload_n 0, 1) := by decide +kernel
theorem dX7_help_103 : decode cX7_help 103 = .ok (.getfield 35, 3) := by decide +kernel
theorem dX7_help_106 : decode cX7_help 106 = .ok (.bipush 27, 2) := by decide +kernel
theorem dX7_help_108 : decode cX7_help 108 = .ok (.iaload, 1) := by decide +kernel
theorem dX7_help_109 : decode cX7_help 109 = .ok (.ireturn, 1) := by decide +kernel
theorem dX7_undo_0 : decode cX7_undo 0 = .ok (.aload_n 0, 1) := by decide +kernel
theorem dX7_undo_1 : decode cX7_undo 1 = .ok (.getfield 116, 3) := by decide +kernel
theorem dX7_undo_4 : decode cX7_undo 4 = .ok (.ifCond .ne 6, 3) := by decide +kernel
theorem dX7_undo_7 : decode cX7_undo 7 = .ok (.bipush (-2), 2) := by decide +kernel
theorem dX7_undo_9 : decode cX7_undo 9 = .ok (.ireturn, 1) := by decide +kernel
theorem dX7_undo_10 : decode cX7_undo 10 = .ok (.aload_n 0, 1) := by decide +kernel
theorem dX7_undo_11 : decode cX7_undo 11 = .ok (.dup, 1) := by decide +kernel
theorem dX7_undo_12 : decode cX7_undo 12 = .ok (.getfield 116, 3) := by decide +kernel
theorem dX7_undo_15 : decode cX7_undo 15 = .ok (.iconst 1, 1) := by decide +kernel
theorem dX7_undo_16 : decode cX7_undo 16 = .ok (.isub, 1) := by decide +kernel
theorem dX7_undo_17 : decode cX7_undo 17 = .ok (.putfield 116, 3) := by decide +kernel
theorem dX7_undo_20 : decode cX7_undo 20 = .ok (.aload_n 0, 1) := by decide +kernel
theorem dX7_undo_21 : decode cX7_undo 21 = .ok (.getfield 38, 3) := by decide +kernel
theorem dX7_undo_24 : decode cX7_undo 24 = .ok (.bipush 40, 2) := by decide +kernel
theorem dX7_undo_26 : decode cX7_undo 26 = .ok (.aload_n 0, 1) := by decide +kernel
theorem dX7_undo_27 : decode cX7_undo 27 = .ok (.getfield 116, 3) := by decide +kernel
theorem dX7_undo_30 : decode cX7_undo 30 = .ok (.imul, 1) := by decide +kernel
theorem dX7_undo_31 : decode cX7_undo 31 = .ok (.aload_n 0, 1) := by decide +kernel
theorem dX7_undo_32 : decode cX7_undo 32 = .ok (.getfield 35, 3) := by decide +kernel
theorem dX7_undo_35 : decode cX7_undo 35 = .ok (.iconst 0, 1) := by decide +kernel
theorem dX7_undo_36 : decode cX7_undo 36 = .ok (.invokestatic 131, 3) := by decide +kernel
theorem dX7_undo_39 : decode cX7_undo 39 = .ok (.aload_n 0, 1) := by decide +kernel
theorem dX7_undo_40 : decode cX7_undo 40 = .ok (.getfield 116, 3) := by decide +kernel
theorem dX7_undo_43 : decode cX7_undo 43 = .ok (.ireturn, 1) := by decide +kernel
theorem dX7_prepare_0 : decode cX7_prepare 0 = .ok (.aload_n 0, 1) := by decide +kernel
theorem dX7_prepare_1 : decode cX7_prepare 1 = .ok (.aload_n 0, 1) := by decide +kernel
theorem dX7_prepare_2 : decode cX7_prepare 2 = .ok (.getfield 29, 3) := by decide +kernel
theorem dX7_prepare_5 : decode cX7_prepare 5 = .ok (.putfield 138, 3) := by decide +kernel
theorem dX7_prepare_8 : decode cX7_prepare 8 = .ok (.iconst 0, 1) := by decide +kernel
theorem dX7_prepare_9 : decode cX7_prepare 9 = .ok (.istore_n 1, 1) := by decide +kernel
theorem dX7_prepare_10 : decode cX7_prepare 10 = .ok (.iload_n 1, 1) := by decide +kernel
theorem dX7_prepare_11 : decode cX7_prepare 11 = .ok (.iconst 3, 1) := by decide +kernel
theorem dX7_prepare_12 : decode cX7_prepare 12 = .ok (.aload_n 0, 1) := by decide +kernel
theorem dX7_prepare_13 : decode cX7_prepare 13 = .ok (.getfield 29, 3) := by decide +kernel
theorem dX7_prepare_16 : decode cX7_prepare 16 = .ok (.imul, 1) := by decide +kernel
theorem dX7_prepare_17 : decode cX7_prepare 17 = .ok (.if_icmp .ge 21, 3) := by decide +kernel
theorem dX7_prepare_20 : decode cX7_prepare 20 = .ok (.aload_n 0, 1) := by decide +kernel
theorem dX7_prepare_21 : decode cX7_prepare 21 = .ok (.getfield 47, 3) := by decide +kernel
theorem dX7_prepare_24 : decode cX7_prepare 24 = .ok (.iload_n 1, 1) := by decide +kernel
theorem dX7_prepare_25 : decode cX7_prepare 25 = .ok (.aload_n 0, 1) := by decide +kernel
theorem dX7_prepare_26 : decode cX7_prepare 26 = .ok (.getfield 35, 3) := by decide +kernel
theorem dX7_prepare_29 : decode cX7_prepare 29 = .ok (.iload_n 1, 1) := by decide +kernel
theorem dX7_prepare_30 : decode cX7_prepare 30 = .ok (.iaload, 1) := by decide +kernel
theorem dX7_prepare_31 : decode cX7_prepare 31 = .ok (.iastore, 1) := by decide +kernel
theorem dX7_prepare_32 : decode cX7_prepare 32 = .ok (.iinc 1 1, 3) := by decide +kernel
theorem dX7_prepare_35 : decode cX7_prepare 35 = .ok (.goto (-25), 3) := by decide +kernel
theorem dX7_prepare_38 : decode cX7_prepare 38 = .ok (.iconst 0, 1) := by decide +kernel
theorem dX7_prepare_39 : decode cX7_prepare 39 = .ok (.istore_n 1, 1) := by decide +kernel
theorem dX7_prepare_40 : decode cX7_prepare 40 = .ok (.iload_n 1, 1) := by decide +kernel
theorem dX7_prepare_41 : decode cX7_prepare 41 = .ok (.iconst 5, 1) := by decide +kernel
theorem dX7_prepare_42 : decode cX7_prepare 42 = .ok (.aload_n 0, 1) := by decide +kernel
theorem dX7_prepare_43 : decode cX7_prepare 43 = .ok (.getfield 22, 3) := by decide +kernel
theorem dX7_prepare_46 : decode cX7_prepare 46 = .ok (.imul, 1) := by decide +kernel
theorem dX7_prepare_47 : decode cX7_prepare 47 = .ok (.if_icmp .ge 21, 3) := by decide +kernel
theorem dX7_prepare_50 : decode cX7_prepare 50 = .ok (.aload_n 0, 1) := by decide +kernel
theorem dX7_prepare_51 : decode cX7_prepare 51 = .ok (.getfield 50, 3) := by decide +kernel
theorem dX7_prepare_54 : decode cX7_prepare 54 = .ok (.iload_n 1, 1) := by decide +kernel
theorem dX7_prepare_55 : decode cX7_prepare 55 = .ok (.aload_n 0, 1) := by decide +kernel
theorem dX7_prepare_56 : decode cX7_prepare 56 = .ok (.getfield 26, 3) := by decide +kernel
theorem dX7_prepare_59 : decode cX7_prepare 59 = .ok (.iload_n 1, 1) := by decide +kernel
theorem dX7_prepare_60 : decode cX7_prepare 60 = .ok (.iaload, 1) := by decide +kernel
theorem dX7_prepare_61 : decode cX7_prepare 61 = .ok (.iastore, 1) := by decide +kernel
theorem dX7_prepare_62 : decode cX7_prepare 62 = .ok (.iinc 1 1, 3) := by decide +kernel
theorem dX7_prepare_65 : decode cX7_prepare 65 = .ok (.goto (-25), 3) := by decide +kernel
theorem dX7_prepare_68 : decode cX7_prepare 68 = .ok (.aload_n 0, 1) := by decide +kernel
theorem dX7_prepare_69 : decode cX7_prepare 69 = .ok (.aload_n 0, 1) := by decide +kernel
theorem dX7_prepare_70 : decode cX7_prepare 70 = .ok (.getfield 32, 3) := by decide +kernel
theorem dX7_prepare_73 : decode cX7_prepare 73 = .ok (.putfield 141, 3) := by decide +kernel
theorem dX7_prepare_76 : decode cX7_prepare 76 = .ok (.return_, 1) := by decide +kernel
theorem dX7_lives_0 : decode cX7_lives 0 = .ok (.aload_n 0, 1) := by decide +kernel
theorem dX7_lives_1 : decode cX7_lives 1 = .ok (.getfield 53, 3) := by decide +kernel
theorem dX7_lives_4 : decode cX7_lives 4 = .ok (.iload_n 1, 1) := by decide +kernel
theorem dX7_lives_5 : decode cX7_lives 5 = .ok (.iaload, 1) := by decide +kernel
theorem dX7_lives_6 : decode cX7_lives 6 = .ok (.ifCond .ge 19, 3) := by decide +kernel
theorem dX7_lives_9 : decode cX7_lives 9 = .ok (.aload_n 0, 1) := by decide +kernel
theorem dX7_lives_10 : decode cX7_lives 10 = .ok (.getfield 50, 3) := by decide +kernel
theorem dX7_lives_13 : decode cX7_lives 13 = .ok (.iconst 5, 1) := by decide +kernel
theorem dX7_lives_14 : decode cX7_lives 14 = .ok (.iload_n 1, 1) := by decide +kernel
theorem dX7_lives_15 : decode cX7_lives 15 = .ok (.imul, 1) := by decide +kernel
theorem dX7_lives_16 : decode cX7_lives 16 = .ok (.iaload, 1) := by decide +kernel
theorem dX7_lives_17 : decode cX7_lives 17 = .ok (.iload_n 2, 1) := by decide +kernel
theorem dX7_lives_18 : decode cX7_lives 18 = .ok (.if_icmp .gt 7, 3) := by decide +kernel
theorem dX7_lives_21 : decode cX7_lives 21 = .ok (.iconst 1, 1) := by decide +kernel
theorem dX7_lives_22 : decode cX7_lives 22 = .ok (.goto 4, 3) := by decide +kernel
theorem dX7_lives_25 : decode cX7_lives 25 = .ok (.iconst 0, 1) := by decide +kernel
theorem dX7_lives_26 : decode cX7_lives 26 = .ok (.ireturn, 1) := by decide +kernel
theorem dX7_gainOf_0 : decode cX7_gainOf 0 = .ok (.iload_n 2, 1) := by decide +kernel
theorem dX7_gainOf_1 : decode cX7_gainOf 1 = .ok (.aload_n 0, 1) := by decide +kernel
theorem dX7_gainOf_2 : decode cX7_gainOf 2 = .ok (.getfield 50, 3) := by decide +kernel
theorem dX7_gainOf_5 : decode cX7_gainOf 5 = .ok (.iconst 5, 1) := by decide +kernel
theorem dX7_gainOf_6 : decode cX7_gainOf 6 = .ok (.iload_n 1, 1) := by decide +kernel
theorem dX7_gainOf_7 : decode cX7_gainOf 7 = .ok (.imul, 1) := by decide +kernel
theorem dX7_gainOf_8 : decode cX7_gainOf 8 = .ok (.iaload, 1) := by decide +kernel
theorem dX7_gainOf_9 : decode cX7_gainOf 9 = .ok (.isub, 1) := by decide +kernel
theorem dX7_gainOf_10 : decode cX7_gainOf 10 = .ok (.istore_n 3, 1) := by decide +kernel
theorem dX7_gainOf_11 : decode cX7_gainOf 11 = .ok (.aload_n 0, 1) := by decide +kernel
theorem dX7_gainOf_12 : decode cX7_gainOf 12 = .ok (.getfield 50, 3) := by decide +kernel
theorem dX7_gainOf_15 : decode cX7_gainOf 15 = .ok (.iconst 5, 1) := by decide +kernel
theorem dX7_gainOf_16 : decode cX7_gainOf 16 = .ok (.iload_n 1, 1) := by decide +kernel
theorem dX7_gainOf_17 : decode cX7_gainOf 17 = .ok (.imul, 1) := by decide +kernel
theorem dX7_gainOf_18 : decode cX7_gainOf 18 = .ok (.iconst 1, 1) := by decide +kernel
theorem dX7_gainOf_19 : decode cX7_gainOf 19 = .ok (.iadd, 1) := by decide +kernel
theorem dX7_gainOf_20 : decode cX7_gainOf 20 = .ok (.iaload, 1) := by decide +kernel
theorem dX7_gainOf_21 : decode cX7_gainOf 21 = .ok (.istore 4, 2) := by decide +kernel
theorem dX7_gainOf_23 : decode cX7_gainOf 23 = .ok (.iload_n 3, 1) := by decide +kernel
theorem dX7_gainOf_24 : decode cX7_gainOf 24 = .ok (.bipush 10, 2) := by decide +kernel
theorem dX7_gainOf_26 : decode cX7_gainOf 26 = .ok (.if_icmp .ge 5, 3) := by decide +kernel
theorem dX7_gainOf_29 : decode cX7_gainOf 29 = .ok (.iconst 0, 1) := by decide +kernel
theorem dX7_gainOf_30 : decode cX7_gainOf 30 = .ok (.ireturn, 1) := by decide +kernel
theorem dX7_gainOf_31 : decode cX7_gainOf 31 = .ok (.aload_n 0, 1) := by decide +kernel
theorem dX7_gainOf_32 : decode cX7_gainOf 32 = .ok (.getfield 50, 3) := by decide +kernel
theorem dX7_gainOf_35 : decode cX7_gainOf 35 = .ok (.iconst 5, 1) := by decide +kernel
theorem dX7_gainOf_36 : decode cX7_gainOf 36 = .ok (.iload_n 1, 1) := by decide +kernel
theorem dX7_gainOf_37 : decode cX7_gainOf 37 = .ok (.imul, 1) := by decide +kernel
theorem dX7_gainOf_38 : decode cX7_gainOf 38 = .ok (.iconst 3, 1) := by decide +kernel
theorem dX7_gainOf_39 : decode cX7_gainOf 39 = .ok (.iadd, 1) := by decide +kernel
theorem dX7_gainOf_40 : decode cX7_gainOf 40 = .ok (.iaload, 1) := by decide +kernel
theorem dX7_gainOf_41 : decode cX7_gainOf 41 = .ok (.tableswitch 93 0 2 #[27, 30, 88], 27) := by decide +kernel
theorem dX7_gainOf_68 : decode cX7_gainOf 68 = .ok (.iload 4, 2) := by decide +kernel
theorem dX7_gainOf_70 : decode cX7_gainOf 70 = .ok (.ireturn, 1) := by decide +kernel
theorem dX7_gainOf_71 : decode cX7_gainOf 71 = .ok (.ldc2_w 144, 3) := by decide +kernel
theorem dX7_gainOf_74 : decode cX7_gainOf 74 = .ok (.aload_n 0, 1) := by decide +kernel
theorem dX7_gainOf_75 : decode cX7_gainOf 75 = .ok (.getfield 141, 3) := by decide +kernel
theorem dX7_gainOf_78 : decode cX7_gainOf 78 = .ok (.i2l, 1) := by decide +kernel
theorem dX7_gainOf_79 : decode cX7_gainOf 79 = .ok (.lmul, 1) := by decide +kernel
theorem dX7_gainOf_80 : decode cX7_gainOf 80 = .ok (.ldc2_w 146, 3) := by decide +kernel
theorem dX7_gainOf_83 : decode cX7_gainOf 83 = .ok (.iload_n 2, 1) := by decide +kernel
theorem dX7_gainOf_84 : decode cX7_gainOf 84 = .ok (.i2l, 1) := by decide +kernel
theorem dX7_gainOf_85 : decode cX7_gainOf 85 = .ok (.lmul, 1) := by decide +kernel
theorem dX7_gainOf_86 : decode cX7_gainOf 86 = .ok (.ladd, 1) := by decide +kernel
theorem dX7_gainOf_87 : decode cX7_gainOf 87 = .ok (.ldc2_w 148, 3) := by decide +kernel
theorem dX7_gainOf_90 : decode cX7_gainOf 90 = .ok (.iload_n 1, 1) := by decide +kernel
theorem dX7_gainOf_91 : decode cX7_gainOf 91 = .ok (.i2l, 1) := by decide +kernel
theorem dX7_gainOf_92 : decode cX7_gainOf 92 = .ok (.lmul, 1) := by decide +kernel
theorem dX7_gainOf_93 : decode cX7_gainOf 93 = .ok (.ladd, 1) := by decide +kernel
theorem dX7_gainOf_94 : decode cX7_gainOf 94 = .ok (.lconst 1, 1) := by decide +kernel
theorem dX7_gainOf_95 : decode cX7_gainOf 95 = .ok (.ladd, 1) := by decide +kernel
theorem dX7_gainOf_96 : decode cX7_gainOf 96 = .ok (.lstore 5, 2) := by decide +kernel
theorem dX7_gainOf_98 : decode cX7_gainOf 98 = .ok (.lload 5, 2) := by decide +kernel
theorem dX7_gainOf_100 : decode cX7_gainOf 100 = .ok (.lload 5, 2) := by decide +kernel
theorem dX7_gainOf_102 : decode cX7_gainOf 102 = .ok (.lmul, 1) := by decide +kernel
theorem dX7_gainOf_103 : decode cX7_gainOf 103 = .ok (.ldc2_w 150, 3) := by decide +kernel
theorem dX7_gainOf_106 : decode cX7_gainOf 106 = .ok (.lrem, 1) := by decide +kernel
theorem dX7_gainOf_107 : decode cX7_gainOf 107 = .ok (.ldc2_w 152, 3) := by decide +kernel
theorem dX7_gainOf_110 : decode cX7_gainOf 110 = .ok (.ldiv, 1) := by decide +kernel
theorem dX7_gainOf_111 : decode cX7_gainOf 111 = .ok (.ldc2_w 154, 3) := by decide +kernel
theorem dX7_gainOf_114 : decode cX7_gainOf 114 = .ok (.lrem, 1) := by decide +kernel
theorem dX7_gainOf_115 : decode cX7_gainOf 115 = .ok (.lconst 0, 1) := by decide +kernel
theorem dX7_gainOf_116 : decode cX7_gainOf 116 = .ok (.lcmp, 1) := by decide +kernel
theorem dX7_gainOf_117 : decode cX7_gainOf 117 = .ok (.ifCond .ne 10, 3) := by decide +kernel
theorem dX7_gainOf_120 : decode cX7_gainOf 120 = .ok (.iconst 2, 1) := by decide +kernel
theorem dX7_gainOf_121 : decode cX7_gainOf 121 = .ok (.iload 4, 2) := by decide +kernel
theorem dX7_gainOf_123 : decode cX7_gainOf 123 = .ok (.imul, 1) := by decide +kernel
theorem dX7_gainOf_124 : decode cX7_gainOf 124 = .ok (.goto 4, 3) := by decide +kernel
theorem dX7_gainOf_127 : decode cX7_gainOf 127 = .ok (.iconst 0, 1) := by decide +kernel
theorem dX7_gainOf_128 : decode cX7_gainOf 128 = .ok (.ireturn, 1) := by decide +kernel
theorem dX7_gainOf_129 : decode cX7_gainOf 129 = .ok (.iload 4, 2) := by decide +kernel
theorem dX7_gainOf_131 : decode cX7_gainOf 131 = .ok (.iconst 2, 1) := by decide +kernel
theorem dX7_gainOf_132 : decode cX7_gainOf 132 = .ok (.idiv, 1) := by decide +kernel
theorem dX7_gainOf_133 : decode cX7_gainOf 133 = .ok (.ireturn, 1) := by decide +kernel
theorem dX7_gainOf_134 : decode cX7_gainOf 134 = .ok (.iload_n 3, 1) := by decide +kernel
theorem dX7_gainOf_135 : decode cX7_gainOf 135 = .ok (.bipush 30, 2) := by decide +kernel
theorem dX7_gainOf_137 : decode cX7_gainOf 137 = .ok (.if_icmp .ge 7, 3) := by decide +kernel
theorem dX7_gainOf_140 : decode cX7_gainOf 140 = .ok (.iconst 0, 1) := by decide +kernel
theorem dX7_gainOf_141 : decode cX7_gainOf 141 = .ok (.goto 7, 3) := by decide +kernel
theorem dX7_gainOf_144 : decode cX7_gainOf 144 = .ok (.iconst 2, 1) := by decide +kernel
theorem dX7_gainOf_145 : decode cX7_gainOf 145 = .ok (.iload 4, 2) := by decide +kernel
theorem dX7_gainOf_147 : decode cX7_gainOf 147 = .ok (.imul, 1) := by decide +kernel
theorem dX7_gainOf_148 : decode cX7_gainOf 148 = .ok (.ireturn, 1) := by decide +kernel
theorem dX7_leaving_0 : decode cX7_leaving 0 = .ok (.iconst 0, 1) := by decide +kernel
theorem dX7_leaving_1 : decode cX7_leaving 1 = .ok (.istore_n 2, 1) := by decide +kernel
theorem dX7_leaving_2 : decode cX7_leaving 2 = .ok (.iconst 0, 1) := by decide +kernel
theorem dX7_leaving_3 : decode cX7_leaving 3 = .ok (.istore_n 3, 1) := by decide +kernel
theorem dX7_leaving_4 : decode cX7_leaving 4 = .ok (.iload_n 3, 1) := by decide +kernel
theorem dX7_leaving_5 : decode cX7_leaving 5 = .ok (.aload_n 0, 1) := by decide +kernel
theorem dX7_leaving_6 : decode cX7_leaving 6 = .ok (.getfield 138, 3) := by decide +kernel
theorem dX7_leaving_9 : decode cX7_leaving 9 = .ok (.if_icmp .ge 38, 3) := by decide +kernel
theorem dX7_leaving_12 : decode cX7_leaving 12 = .ok (.iload_n 2, 1) := by decide +kernel
theorem dX7_leaving_13 : decode cX7_leaving 13 = .ok (.aload_n 0, 1) := by decide +kernel
theorem dX7_leaving_14 : decode cX7_leaving 14 = .ok (.getfield 47, 3) := by decide +kernel
theorem dX7_leaving_17 : decode cX7_leaving 17 = .ok (.iconst 3, 1) := by decide +kernel
theorem dX7_leaving_18 : decode cX7_leaving 18 = .ok (.iload_n 3, 1) := by decide +kernel
theorem dX7_leaving_19 : decode cX7_leaving 19 = .ok (.imul, 1) := by decide +kernel
theorem dX7_leaving_20 : decode cX7_leaving 20 = .ok (.iaload, 1) := by decide +kernel
theorem dX7_leaving_21 : decode cX7_leaving 21 = .ok (.iload_n 1, 1) := by decide +kernel
theorem dX7_leaving_22 : decode cX7_leaving 22 = .ok (.if_icmp .ne 16, 3) := by decide +kernel
theorem dX7_leaving_25 : decode cX7_leaving 25 = .ok (.aload_n 0, 1) := by decide +kernel
theorem dX7_leaving_26 : decode cX7_leaving 26 = .ok (.getfield 47, 3) := by decide +kernel
theorem dX7_leaving_29 : decode cX7_leaving 29 = .ok (.iconst 3, 1) := by decide +kernel
theorem dX7_leaving_30 : decode cX7_leaving 30 = .ok (.iload_n 3, 1) := by decide +kernel
theorem dX7_leaving_31 : decode cX7_leaving 31 = .ok (.imul, 1) := by decide +kernel
theorem dX7_leaving_32 : decode cX7_leaving 32 = .ok (.iconst 2, 1) := by decide +kernel
theorem dX7_leaving_33 : decode cX7_leaving 33 = .ok (.iadd, 1) := by decide +kernel
theorem dX7_leaving_34 : decode cX7_leaving 34 = .ok (.iaload, 1) := by decide +kernel
theorem dX7_leaving_35 : decode cX7_leaving 35 = .ok (.goto 4, 3) := by decide +kernel
theorem dX7_leaving_38 : decode cX7_leaving 38 = .ok (.iconst 0, 1) := by decide +kernel
theorem dX7_leaving_39 : decode cX7_leaving 39 = .ok (.iadd, 1) := by decide +kernel
theorem dX7_leaving_40 : decode cX7_leaving 40 = .ok (.istore_n 2, 1) := by decide +kernel
theorem dX7_leaving_41 : decode cX7_leaving 41 = .ok (.iinc 3 1, 3) := by decide +kernel
theorem dX7_leaving_44 : decode cX7_leaving 44 = .ok (.goto (-40), 3) := by decide +kernel
theorem dX7_leaving_47 : decode cX7_leaving 47 = .ok (.iload_n 2, 1) := by decide +kernel
theorem dX7_leaving_48 : decode cX7_leaving 48 = .ok (.ireturn, 1) := by decide +kernel
theorem dX7_die_0 : decode cX7_die 0 = .ok (.aload_n 0, 1) := by decide +kernel
theorem dX7_die_1 : decode cX7_die 1 = .ok (.getfield 53, 3) := by decide +kernel
theorem dX7_die_4 : decode cX7_die 4 = .ok (.iload_n 1, 1) := by decide +kernel
theorem dX7_die_5 : decode cX7_die 5 = .ok (.iload_n 2, 1) := by decide +kernel
theorem dX7_die_6 : decode cX7_die 6 = .ok (.iastore, 1) := by decide +kernel
theorem dX7_die_7 : decode cX7_die 7 = .ok (.iconst 0, 1) := by decide +kernel
theorem dX7_die_8 : decode cX7_die 8 = .ok (.istore_n 3, 1) := by decide +kernel
theorem dX7_die_9 : decode cX7_die 9 = .ok (.iload_n 3, 1) := by decide +kernel
theorem dX7_die_10 : decode cX7_die 10 = .ok (.aload_n 0, 1) := by decide +kernel
theorem dX7_die_11 : decode cX7_die 11 = .ok (.getfield 138, 3) := by decide +kernel
theorem dX7_die_14 : decode cX7_die 14 = .ok (.if_icmp .ge 134, 3) := by decide +kernel
theorem dX7_die_17 : decode cX7_die 17 = .ok (.aload_n 0, 1) := by decide +kernel
theorem dX7_die_18 : decode cX7_die 18 = .ok (.getfield 47, 3) := by decide +kernel
theorem dX7_die_21 : decode cX7_die 21 = .ok (.iconst 3, 1) := by decide +kernel
theorem dX7_die_22 : decode cX7_die 22 = .ok (.iload_n 3, 1) := by decide +kernel
theorem dX7_die_23 : decode cX7_die 23 = .ok (.imul, 1) := by decide +kernel
theorem dX7_die_24 : decode cX7_die 24 = .ok (.iaload, 1) := by decide +kernel
theorem dX7_die_25 : decode cX7_die 25 = .ok (.iload_n 1, 1) := by decide +kernel
theorem dX7_die_26 : decode cX7_die 26 = .ok (.if_icmp .ne 116, 3) := by decide +kernel
theorem dX7_die_29 : decode cX7_die 29 = .ok (.aload_n 0, 1) := by decide +kernel
theorem dX7_die_30 : decode cX7_die 30 = .ok (.getfield 47, 3) := by decide +kernel
theorem dX7_die_33 : decode cX7_die 33 = .ok (.iconst 3, 1) := by decide +kernel
theorem dX7_die_34 : decode cX7_die 34 = .ok (.iload_n 3, 1) := by decide +kernel
theorem dX7_die_35 : decode cX7_die 35 = .ok (.imul, 1) := by decide +kernel
theorem dX7_die_36 : decode cX7_die 36 = .ok (.iconst 1, 1) := by decide +kernel
theorem dX7_die_37 : decode cX7_die 37 = .ok (.iadd, 1) := by decide +kernel
theorem dX7_die_38 : decode cX7_die 38 = .ok (.iaload, 1) := by decide +kernel
theorem dX7_die_39 : decode cX7_die 39 = .ok (.istore 4, 2) := by decide +kernel
theorem dX7_die_41 : decode cX7_die 41 = .ok (.aload_n 0, 1) := by decide +kernel
theorem dX7_die_42 : decode cX7_die 42 = .ok (.getfield 47, 3) := by decide +kernel
theorem dX7_die_45 : decode cX7_die 45 = .ok (.iconst 3, 1) := by decide +kernel
theorem dX7_die_46 : decode cX7_die 46 = .ok (.iload_n 3, 1) := by decide +kernel
theorem dX7_die_47 : decode cX7_die 47 = .ok (.imul, 1) := by decide +kernel
theorem dX7_die_48 : decode cX7_die 48 = .ok (.iconst 2, 1) := by decide +kernel
theorem dX7_die_49 : decode cX7_die 49 = .ok (.iadd, 1) := by decide +kernel
theorem dX7_die_50 : decode cX7_die 50 = .ok (.iaload, 1) := by decide +kernel
theorem dX7_die_51 : decode cX7_die 51 = .ok (.aload_n 0, 1) := by decide +kernel
theorem dX7_die_52 : decode cX7_die 52 = .ok (.getfield 56, 3) := by decide +kernel
theorem dX7_die_55 : decode cX7_die 55 = .ok (.iload_n 1, 1) := by decide +kernel
theorem dX7_die_56 : decode cX7_die 56 = .ok (.iaload, 1) := by decide +kernel
theorem dX7_die_57 : decode cX7_die 57 = .ok (.if_icmp .ge 16, 3) := by decide +kernel
theorem dX7_die_60 : decode cX7_die 60 = .ok (.aload_n 0, 1) := by decide +kernel
theorem dX7_die_61 : decode cX7_die 61 = .ok (.getfield 47, 3) := by decide +kernel
theorem dX7_die_64 : decode cX7_die 64 = .ok (.iconst 3, 1) := by decide +kernel
theorem dX7_die_65 : decode cX7_die 65 = .ok (.iload_n 3, 1) := by decide +kernel
theorem dX7_die_66 : decode cX7_die 66 = .ok (.imul, 1) := by decide +kernel
theorem dX7_die_67 : decode cX7_die 67 = .ok (.iconst 2, 1) := by decide +kernel
theorem dX7_die_68 : decode cX7_die 68 = .ok (.iadd, 1) := by decide +kernel
theorem dX7_die_69 : decode cX7_die 69 = .ok (.iaload, 1) := by decide +kernel
theorem dX7_die_70 : decode cX7_die 70 = .ok (.goto 9, 3) := by decide +kernel
theorem dX7_die_73 : decode cX7_die 73 = .ok (.aload_n 0, 1) := by decide +kernel
theorem dX7_die_74 : decode cX7_die 74 = .ok (.getfield 56, 3) := by decide +kernel
theorem dX7_die_77 : decode cX7_die 77 = .ok (.iload_n 1, 1) := by decide +kernel
theorem dX7_die_78 : decode cX7_die 78 = .ok (.iaload, 1) := by decide +kernel
theorem dX7_die_79 : decode cX7_die 79 = .ok (.istore 5, 2) := by decide +kernel
theorem dX7_die_81 : decode cX7_die 81 = .ok (.aload_n 0, 1) := by decide +kernel
theorem dX7_die_82 : decode cX7_die 82 = .ok (.getfield 56, 3) := by decide +kernel
theorem dX7_die_85 : decode cX7_die 85 = .ok (.iload_n 1, 1) := by decide +kernel
theorem dX7_die_86 : decode cX7_die 86 = .ok (.dup2, 1) := by decide +kernel
theorem dX7_die_87 : decode cX7_die 87 = .ok (.iaload, 1) := by decide +kernel
theorem dX7_die_88 : decode cX7_die 88 = .ok (.iload 5, 2) := by decide +kernel
theorem dX7_die_90 : decode cX7_die 90 = .ok (.isub, 1) := by decide +kernel
theorem dX7_die_91 : decode cX7_die 91 = .ok (.iastore, 1) := by decide +kernel
theorem dX7_die_92 : decode cX7_die 92 = .ok (.iload 4, 2) := by decide +kernel
theorem dX7_die_94 : decode cX7_die 94 = .ok (.ifCond .lt 48, 3) := by decide +kernel
theorem dX7_die_97 : decode cX7_die 97 = .ok (.aload_n 0, 1) := by decide +kernel
theorem dX7_die_98 : decode cX7_die 98 = .ok (.iload 4, 2) := by decide +kernel
theorem dX7_die_100 : decode cX7_die 100 = .ok (.iload_n 2, 1) := by decide +kernel
theorem dX7_die_101 : decode cX7_die 101 = .ok (.invokevirtual 156, 3) := by decide +kernel
theorem dX7_die_104 : decode cX7_die 104 = .ok (.ifCond .eq 38, 3) := by decide +kernel
theorem dX7_die_107 : decode cX7_die 107 = .ok (.aload_n 0, 1) := by decide +kernel
theorem dX7_die_108 : decode cX7_die 108 = .ok (.getfield 62, 3) := by decide +kernel
theorem dX7_die_111 : decode cX7_die 111 = .ok (.iload_n 3, 1) := by decide +kernel
theorem dX7_die_112 : decode cX7_die 112 = .ok (.dup2, 1) := by decide +kernel
theorem dX7_die_113 : decode cX7_die 113 = .ok (.iaload, 1) := by decide +kernel
theorem dX7_die_114 : decode cX7_die 114 = .ok (.iload 5, 2) := by decide +kernel
theorem dX7_die_116 : decode cX7_die 116 = .ok (.iadd, 1) := by decide +kernel
theorem dX7_die_117 : decode cX7_die 117 = .ok (.iastore, 1) := by decide +kernel
theorem dX7_die_118 : decode cX7_die 118 = .ok (.aload_n 0, 1) := by decide +kernel
theorem dX7_die_119 : decode cX7_die 119 = .ok (.getfield 56, 3) := by decide +kernel
theorem dX7_die_122 : decode cX7_die 122 = .ok (.iload 4, 2) := by decide +kernel
theorem dX7_die_124 : decode cX7_die 124 = .ok (.dup2, 1) := by decide +kernel
theorem dX7_die_125 : decode cX7_die 125 = .ok (.iaload, 1) := by decide +kernel
theorem dX7_die_126 : decode cX7_die 126 = .ok (.iload 5, 2) := by decide +kernel
theorem dX7_die_128 : decode cX7_die 128 = .ok (.iadd, 1) := by decide +kernel
theorem dX7_die_129 : decode cX7_die 129 = .ok (.iastore, 1) := by decide +kernel
theorem dX7_die_130 : decode cX7_die 130 = .ok (.aload_n 0, 1) := by decide +kernel
theorem dX7_die_131 : decode cX7_die 131 = .ok (.getfield 59, 3) := by decide +kernel
theorem dX7_die_134 : decode cX7_die 134 = .ok (.iload 4, 2) := by decide +kernel
theorem dX7_die_136 : decode cX7_die 136 = .ok (.dup2, 1) := by decide +kernel
theorem dX7_die_137 : decode cX7_die 137 = .ok (.iaload, 1) := by decide +kernel
theorem dX7_die_138 : decode cX7_die 138 = .ok (.iload 5, 2) := by decide +kernel
theorem dX7_die_140 : decode cX7_die 140 = .ok (.iadd, 1) := by decide +kernel
theorem dX7_die_141 : decode cX7_die 141 = .ok (.iastore, 1) := by decide +kernel
theorem dX7_die_142 : decode cX7_die 142 = .ok (.iinc 3 1, 3) := by decide +kernel
theorem dX7_die_145 : decode cX7_die 145 = .ok (.goto (-136), 3) := by decide +kernel
theorem dX7_die_148 : decode cX7_die 148 = .ok (.aload_n 0, 1) := by decide +kernel
theorem dX7_die_149 : decode cX7_die 149 = .ok (.getfield 56, 3) := by decide +kernel
theorem dX7_die_152 : decode cX7_die 152 = .ok (.iload_n 1, 1) := by decide +kernel
theorem dX7_die_153 : decode cX7_die 153 = .ok (.iconst 0, 1) := by decide +kernel
theorem dX7_die_154 : decode cX7_die 154 = .ok (.iastore, 1) := by decide +kernel
theorem dX7_die_155 : decode cX7_die 155 = .ok (.return_, 1) := by decide +kernel
theorem dX7_turn_0 : decode cX7_turn 0 = .ok (.iload_n 2, 1) := by decide +kernel
theorem dX7_turn_1 : decode cX7_turn 1 = .ok (.aload_n 0, 1) := by decide +kernel
theorem dX7_turn_2 : decode cX7_turn 2 = .ok (.getfield 50, 3) := by decide +kernel
theorem dX7_turn_5 : decode cX7_turn 5 = .ok (.iconst 5, 1) := by decide +kernel
theorem dX7_turn_6 : decode cX7_turn 6 = .ok (.iload_n 1, 1) := by decide +kernel
theorem dX7_turn_7 : decode cX7_turn 7 = .ok (.imul, 1) := by decide +kernel
theorem dX7_turn_8 : decode cX7_turn 8 = .ok (.iaload, 1) := by decide +kernel
theorem dX7_turn_9 : decode cX7_turn 9 = .ok (.isub, 1) := by decide +kernel
theorem dX7_turn_10 : decode cX7_turn 10 = .ok (.istore_n 3, 1) := by decide +kernel
theorem dX7_turn_11 : decode cX7_turn 11 = .ok (.aload_n 0, 1) := by decide +kernel
theorem dX7_turn_12 : decode cX7_turn 12 = .ok (.iload_n 1, 1) := by decide +kernel
theorem dX7_turn_13 : decode cX7_turn 13 = .ok (.invokevirtual 160, 3) := by decide +kernel
theorem dX7_turn_16 : decode cX7_turn 16 = .ok (.istore 4, 2) := by decide +kernel
theorem dX7_turn_18 : decode cX7_turn 18 = .ok (.iload_n 3, 1) := by decide +kernel
theorem dX7_turn_19 : decode cX7_turn 19 = .ok (.bipush 18, 2) := by decide +kernel
theorem dX7_turn_21 : decode cX7_turn 21 = .ok (.if_icmp .lt 40, 3) := by decide +kernel
theorem dX7_turn_24 : decode cX7_turn 24 = .ok (.iload 4, 2) := by decide +kernel
theorem dX7_turn_26 : decode cX7_turn 26 = .ok (.ifCond .le 35, 3) := by decide +kernel
theorem dX7_turn_29 : decode cX7_turn 29 = .ok (.aload_n 0, 1) := by decide +kernel
theorem dX7_turn_30 : decode cX7_turn 30 = .ok (.getfield 56, 3) := by decide +kernel
theorem dX7_turn_33 : decode cX7_turn 33 = .ok (.iload_n 1, 1) := by decide +kernel
theorem dX7_turn_34 : decode cX7_turn 34 = .ok (.iaload, 1) := by decide +kernel
theorem dX7_turn_35 : decode cX7_turn 35 = .ok (.iload 4, 2) := by decide +kernel
theorem dX7_turn_37 : decode cX7_turn 37 = .ok (.if_icmp .lt 24, 3) := by decide +kernel
theorem dX7_turn_40 : decode cX7_turn 40 = .ok (.aload_n 0, 1) := by decide +kernel
theorem dX7_turn_41 : decode cX7_turn 41 = .ok (.aload_n 0, 1) := by decide +kernel
theorem dX7_turn_42 : decode cX7_turn 42 = .ok (.getfield 163, 3) := by decide +kernel
theorem dX7_turn_45 : decode cX7_turn 45 = .ok (.iconst 1, 1) := by decide +kernel
theorem dX7_turn_46 : decode cX7_turn 46 = .ok (.iload_n 1, 1) := by decide +kernel
theorem dX7_turn_47 : decode cX7_turn 47 = .ok (.ishl, 1) := by decide +kernel
theorem dX7_turn_48 : decode cX7_turn 48 = .ok (.ior, 1) := by decide +kernel
theorem dX7_turn_49 : decode cX7_turn 49 = .ok (.putfield 163, 3) := by decide +kernel
theorem dX7_turn_52 : decode cX7_turn 52 = .ok (.aload_n 0, 1) := by decide +kernel
theorem dX7_turn_53 : decode cX7_turn 53 = .ok (.iload_n 1, 1) := by decide +kernel
theorem dX7_turn_54 : decode cX7_turn 54 = .ok (.iload_n 2, 1) := by decide +kernel
theorem dX7_turn_55 : decode cX7_turn 55 = .ok (.invokevirtual 166, 3) := by decide +kernel
theorem dX7_turn_58 : decode cX7_turn 58 = .ok (.goto 23, 3) := by decide +kernel
theorem dX7_turn_61 : decode cX7_turn 61 = .ok (.iload_n 3, 1) := by decide +kernel
theorem dX7_turn_62 : decode cX7_turn 62 = .ok (.aload_n 0, 1) := by decide +kernel
theorem dX7_turn_63 : decode cX7_turn 63 = .ok (.getfield 50, 3) := by decide +kernel
theorem dX7_turn_66 : decode cX7_turn 66 = .ok (.iconst 5, 1) := by decide +kernel
theorem dX7_turn_67 : decode cX7_turn 67 = .ok (.iload_n 1, 1) := by decide +kernel
theorem dX7_turn_68 : decode cX7_turn 68 = .ok (.imul, 1) := by decide +kernel
theorem dX7_turn_69 : decode cX7_turn 69 = .ok (.iconst 2, 1) := by decide +kernel
theorem dX7_turn_70 : decode cX7_turn 70 = .ok (.iadd, 1) := by decide +kernel
theorem dX7_turn_71 : decode cX7_turn 71 = .ok (.iaload, 1) := by decide +kernel
theorem dX7_turn_72 : decode cX7_turn 72 = .ok (.if_icmp .lt 9, 3) := by decide +kernel
theorem dX7_turn_75 : decode cX7_turn 75 = .ok (.aload_n 0, 1) := by decide +kernel
theorem dX7_turn_76 : decode cX7_turn 76 = .ok (.iload_n 1, 1) := by decide +kernel
theorem dX7_turn_77 : decode cX7_turn 77 = .ok (.iload_n 2, 1) := by decide +kernel
theorem dX7_turn_78 : decode cX7_turn 78 = .ok (.invokevirtual 166, 3) := by decide +kernel
theorem dX7_turn_81 : decode cX7_turn 81 = .ok (.return_, 1) := by decide +kernel
theorem dX7_run_0 : decode cX7_run 0 = .ok (.aload_n 0, 1) := by decide +kernel
theorem dX7_run_1 : decode cX7_run 1 = .ok (.iconst 0, 1) := by decide +kernel
theorem dX7_run_2 : decode cX7_run 2 = .ok (.putfield 163, 3) := by decide +kernel
theorem dX7_run_5 : decode cX7_run 5 = .ok (.iconst 0, 1) := by decide +kernel
theorem dX7_run_6 : decode cX7_run 6 = .ok (.istore_n 1, 1) := by decide +kernel
theorem dX7_run_7 : decode cX7_run 7 = .ok (.iload_n 1, 1) := by decide +kernel
theorem dX7_run_8 : decode cX7_run 8 = .ok (.bipush 6, 2) := by decide +kernel
theorem dX7_run_10 : decode cX7_run 10 = .ok (.if_icmp .ge 30, 3) := by decide +kernel
theorem dX7_run_13 : decode cX7_run 13 = .ok (.aload_n 0, 1) := by decide +kernel
theorem dX7_run_14 : decode cX7_run 14 = .ok (.getfield 53, 3) := by decide +kernel
theorem dX7_run_17 : decode cX7_run 17 = .ok (.iload_n 1, 1) := by decide +kernel
theorem dX7_run_18 : decode cX7_run 18 = .ok (.iconst (-1), 1) := by decide +kernel
theorem dX7_run_19 : decode cX7_run 19 = .ok (.iastore, 1) := by decide +kernel
theorem dX7_run_20 : decode cX7_run 20 = .ok (.aload_n 0, 1) := by decide +kernel
theorem dX7_run_21 : decode cX7_run 21 = .ok (.getfield 56, 3) := by decide +kernel
theorem dX7_run_24 : decode cX7_run 24 = .ok (.iload_n 1, 1) := by decide +kernel
theorem dX7_run_25 : decode cX7_run 25 = .ok (.iconst 0, 1) := by decide +kernel
theorem dX7_run_26 : decode cX7_run 26 = .ok (.iastore, 1) := by decide +kernel
theorem dX7_run_27 : decode cX7_run 27 = .ok (.aload_n 0, 1) := by decide +kernel
theorem dX7_run_28 : decode cX7_run 28 = .ok (.getfield 59, 3) := by decide +kernel
theorem dX7_run_31 : decode cX7_run 31 = .ok (.iload_n 1, 1) := by decide +kernel
theorem dX7_run_32 : decode cX7_run 32 = .ok (.iconst 0, 1) := by decide +kernel
theorem dX7_run_33 : decode cX7_run 33 = .ok (.iastore, 1) := by decide +kernel
theorem dX7_run_34 : decode cX7_run 34 = .ok (.iinc 1 1, 3) := by decide +kernel
theorem dX7_run_37 : decode cX7_run 37 = .ok (.goto (-30), 3) := by decide +kernel
theorem dX7_run_40 : decode cX7_run 40 = .ok (.iconst 0, 1) := by decide +kernel
theorem dX7_run_41 : decode cX7_run 41 = .ok (.istore_n 1, 1) := by decide +kernel
theorem dX7_run_42 : decode cX7_run 42 = .ok (.iload_n 1, 1) := by decide +kernel
theorem dX7_run_43 : decode cX7_run 43 = .ok (.bipush 10, 2) := by decide +kernel
theorem dX7_run_45 : decode cX7_run 45 = .ok (.if_icmp .ge 16, 3) := by decide +kernel
theorem dX7_run_48 : decode cX7_run 48 = .ok (.aload_n 0, 1) := by decide +kernel
theorem dX7_run_49 : decode cX7_run 49 = .ok (.getfield 62, 3) := by decide +kernel
theorem dX7_run_52 : decode cX7_run 52 = .ok (.iload_n 1, 1) := by decide +kernel
theorem dX7_run_53 : decode cX7_run 53 = .ok (.iconst 0, 1) := by decide +kernel
theorem dX7_run_54 : decode cX7_run 54 = .ok (.iastore, 1) := by decide +kernel
theorem dX7_run_55 : decode cX7_run 55 = .ok (.iinc 1 1, 3) := by decide +kernel
theorem dX7_run_58 : decode cX7_run 58 = .ok (.goto (-16), 3) := by decide +kernel
theorem dX7_run_61 : decode cX7_run 61 = .ok (.iconst 0, 1) := by decide +kernel
theorem dX7_run_62 : decode cX7_run 62 = .ok (.istore_n 1, 1) := by decide +kernel
theorem dX7_run_63 : decode cX7_run 63 = .ok (.iload_n 1, 1) := by decide +kernel
theorem dX7_run_64 : decode cX7_run 64 = .ok (.sipush 150, 3) := by decide +kernel
theorem dX7_run_67 : decode cX7_run 67 = .ok (.if_icmp .gt 251, 3) := by decide +kernel
theorem dX7_run_70 : decode cX7_run 70 = .ok (.iconst 0, 1) := by decide +kernel
theorem dX7_run_71 : decode cX7_run 71 = .ok (.istore_n 2, 1) := by decide +kernel
theorem dX7_run_72 : decode cX7_run 72 = .ok (.iload_n 2, 1) := by decide +kernel
theorem dX7_run_73 : decode cX7_run 73 = .ok (.aload_n 0, 1) := by decide +kernel
theorem dX7_run_74 : decode cX7_run 74 = .ok (.getfield 22, 3) := by decide +kernel
theorem dX7_run_77 : decode cX7_run 77 = .ok (.if_icmp .ge 44, 3) := by decide +kernel
theorem dX7_run_80 : decode cX7_run 80 = .ok (.aload_n 0, 1) := by decide +kernel
theorem dX7_run_81 : decode cX7_run 81 = .ok (.getfield 56, 3) := by decide +kernel
theorem dX7_run_84 : decode cX7_run 84 = .ok (.iload_n 2, 1) := by decide +kernel
theorem dX7_run_85 : decode cX7_run 85 = .ok (.dup2, 1) := by decide +kernel
theorem dX7_run_86 : decode cX7_run 86 = .ok (.iaload, 1) := by decide +kernel
theorem dX7_run_87 : decode cX7_run 87 = .ok (.aload_n 0, 1) := by decide +kernel
theorem dX7_run_88 : decode cX7_run 88 = .ok (.getfield 50, 3) := by decide +kernel
theorem dX7_run_91 : decode cX7_run 91 = .ok (.iconst 5, 1) := by decide +kernel
theorem dX7_run_92 : decode cX7_run 92 = .ok (.iload_n 2, 1) := by decide +kernel
theorem dX7_run_93 : decode cX7_run 93 = .ok (.imul, 1) := by decide +kernel
theorem dX7_run_94 : decode cX7_run 94 = .ok (.iaload, 1) := by decide +kernel
theorem dX7_run_95 : decode cX7_run 95 = .ok (.iload_n 1, 1) := by decide +kernel
theorem dX7_run_96 : decode cX7_run 96 = .ok (.if_icmp .ne 16, 3) := by decide +kernel
theorem dX7_run_99 : decode cX7_run 99 = .ok (.aload_n 0, 1) := by decide +kernel
theorem dX7_run_100 : decode cX7_run 100 = .ok (.getfield 50, 3) := by decide +kernel
theorem dX7_run_103 : decode cX7_run 103 = .ok (.iconst 5, 1) := by decide +kernel
theorem dX7_run_104 : decode cX7_run 104 = .ok (.iload_n 2, 1) := by decide +kernel
theorem dX7_run_105 : decode cX7_run 105 = .ok (.imul, 1) := by decide +kernel
theorem dX7_run_106 : decode cX7_run 106 = .ok (.iconst 4, 1) := by decide +kernel
theorem dX7_run_107 : decode cX7_run 107 = .ok (.iadd, 1) := by decide +kernel
theorem dX7_run_108 : decode cX7_run 108 = .ok (.iaload, 1) := by decide +kernel
theorem dX7_run_109 : decode cX7_run 109 = .ok (.goto 4, 3) := by decide +kernel
theorem dX7_run_112 : decode cX7_run 112 = .ok (.iconst 0, 1) := by decide +kernel
theorem dX7_run_113 : decode cX7_run 113 = .ok (.iadd, 1) := by decide +kernel
theorem dX7_run_114 : decode cX7_run 114 = .ok (.iastore, 1) := by decide +kernel
theorem dX7_run_115 : decode cX7_run 115 = .ok (.iinc 2 1, 3) := by decide +kernel
theorem dX7_run_118 : decode cX7_run 118 = .ok (.goto (-46), 3) := by decide +kernel
theorem dX7_run_121 : decode cX7_run 121 = .ok (.iconst 0, 1) := by decide +kernel
theorem dX7_run_122 : decode cX7_run 122 = .ok (.istore_n 2, 1) := by decide +kernel
theorem dX7_run_123 : decode cX7_run 123 = .ok (.iload_n 2, 1) := by decide +kernel
theorem dX7_run_124 : decode cX7_run 124 = .ok (.aload_n 0, 1) := by decide +kernel
theorem dX7_run_125 : decode cX7_run 125 = .ok (.getfield 35, 3) := by decide +kernel
theorem dX7_run_128 : decode cX7_run 128 = .ok (.bipush 27, 2) := by decide +kernel
theorem dX7_run_130 : decode cX7_run 130 = .ok (.iaload, 1) := by decide +kernel
theorem dX7_run_131 : decode cX7_run 131 = .ok (.if_icmp .ge 73, 3) := by decide +kernel
theorem dX7_run_134 : decode cX7_run 134 = .ok (.aload_n 0, 1) := by decide +kernel
theorem dX7_run_135 : decode cX7_run 135 = .ok (.getfield 35, 3) := by decide +kernel
theorem dX7_run_138 : decode cX7_run 138 = .ok (.bipush 28, 2) := by decide +kernel
theorem dX7_run_140 : decode cX7_run 140 = .ok (.iconst 3, 1) := by decide +kernel
theorem dX7_run_141 : decode cX7_run 141 = .ok (.iload_n 2, 1) := by decide +kernel
theorem dX7_run_142 : decode cX7_run 142 = .ok (.imul, 1) := by decide +kernel
theorem dX7_run_143 : decode cX7_run 143 = .ok (.iadd, 1) := by decide +kernel
theorem dX7_run_144 : decode cX7_run 144 = .ok (.iaload, 1) := by decide +kernel
theorem dX7_run_145 : decode cX7_run 145 = .ok (.istore_n 3, 1) := by decide +kernel
theorem dX7_run_146 : decode cX7_run 146 = .ok (.aload_n 0, 1) := by decide +kernel
theorem dX7_run_147 : decode cX7_run 147 = .ok (.getfield 56, 3) := by decide +kernel
theorem dX7_run_150 : decode cX7_run 150 = .ok (.iload_n 3, 1) := by decide +kernel
theorem dX7_run_151 : decode cX7_run 151 = .ok (.dup2, 1) := by decide +kernel
theorem dX7_run_152 : decode cX7_run 152 = .ok (.iaload, 1) := by decide +kernel
theorem dX7_run_153 : decode cX7_run 153 = .ok (.aload_n 0, 1) := by decide +kernel
theorem dX7_run_154 : decode cX7_run 154 = .ok (.getfield 35, 3) := by decide +kernel
theorem dX7_run_157 : decode cX7_run 157 = .ok (.bipush 28, 2) := by decide +kernel
theorem dX7_run_159 : decode cX7_run 159 = .ok (.iconst 3, 1) := by decide +kernel
theorem dX7_run_160 : decode cX7_run 160 = .ok (.iload_n 2, 1) := by decide +kernel
theorem dX7_run_161 : decode cX7_run 161 = .ok (.imul, 1) := by decide +kernel
theorem dX7_run_162 : decode cX7_run 162 = .ok (.iadd, 1) := by decide +kernel
theorem dX7_run_163 : decode cX7_run 163 = .ok (.iconst 1, 1) := by decide +kernel
theorem dX7_run_164 : decode cX7_run 164 = .ok (.iadd, 1) := by decide +kernel
theorem dX7_run_165 : decode cX7_run 165 = .ok (.iaload, 1) := by decide +kernel
theorem dX7_run_166 : decode cX7_run 166 = .ok (.iload_n 1, 1) := by decide +kernel
theorem dX7_run_167 : decode cX7_run 167 = .ok (.if_icmp .ne 28, 3) := by decide +kernel
theorem dX7_run_170 : decode cX7_run 170 = .ok (.aload_n 0, 1) := by decide +kernel
theorem dX7_run_171 : decode cX7_run 171 = .ok (.iload_n 3, 1) := by decide +kernel
theorem dX7_run_172 : decode cX7_run 172 = .ok (.iload_n 1, 1) := by decide +kernel
theorem dX7_run_173 : decode cX7_run 173 = .ok (.invokevirtual 156, 3) := by decide +kernel
theorem dX7_run_176 : decode cX7_run 176 = .ok (.ifCond .eq 19, 3) := by decide +kernel
theorem dX7_run_179 : decode cX7_run 179 = .ok (.aload_n 0, 1) := by decide +kernel
theorem dX7_run_180 : decode cX7_run 180 = .ok (.getfield 35, 3) := by decide +kernel
theorem dX7_run_183 : decode cX7_run 183 = .ok (.bipush 28, 2) := by decide +kernel
theorem dX7_run_185 : decode cX7_run 185 = .ok (.iconst 3, 1) := by decide +kernel
theorem dX7_run_186 : decode cX7_run 186 = .ok (.iload_n 2, 1) := by decide +kernel
theorem dX7_run_187 : decode cX7_run 187 = .ok (.imul, 1) := by decide +kernel
theorem dX7_run_188 : decode cX7_run 188 = .ok (.iadd, 1) := by decide +kernel
theorem dX7_run_189 : decode cX7_run 189 = .ok (.iconst 2, 1) := by decide +kernel
theorem dX7_run_190 : decode cX7_run 190 = .ok (.iadd, 1) := by decide +kernel
theorem dX7_run_191 : decode cX7_run 191 = .ok (.iaload, 1) := by decide +kernel
theorem dX7_run_192 : decode cX7_run 192 = .ok (.goto 4, 3) := by decide +kernel
theorem dX7_run_195 : decode cX7_run 195 = .ok (.iconst 0, 1) := by decide +kernel
theorem dX7_run_196 : decode cX7_run 196 = .ok (.iadd, 1) := by decide +kernel
theorem dX7_run_197 : decode cX7_run 197 = .ok (.iastore, 1) := by decide +kernel
theorem dX7_run_198 : decode cX7_run 198 = .ok (.iinc 2 1, 3) := by decide +kernel
theorem dX7_run_201 : decode cX7_run 201 = .ok (.goto (-78), 3) := by decide +kernel
theorem dX7_run_204 : decode cX7_run 204 = .ok (.iconst 0, 1) := by decide +kernel
theorem dX7_run_205 : decode cX7_run 205 = .ok (.istore_n 2, 1) := by decide +kernel
theorem dX7_run_206 : decode cX7_run 206 = .ok (.iload_n 2, 1) := by decide +kernel
theorem dX7_run_207 : decode cX7_run 207 = .ok (.aload_n 0, 1) := by decide +kernel
theorem dX7_run_208 : decode cX7_run 208 = .ok (.getfield 22, 3) := by decide +kernel
theorem dX7_run_211 : decode cX7_run 211 = .ok (.if_icmp .ge 37, 3) := by decide +kernel
theorem dX7_run_214 : decode cX7_run 214 = .ok (.aload_n 0, 1) := by decide +kernel
theorem dX7_run_215 : decode cX7_run 215 = .ok (.getfield 56, 3) := by decide +kernel
theorem dX7_run_218 : decode cX7_run 218 = .ok (.iload_n 2, 1) := by decide +kernel
theorem dX7_run_219 : decode cX7_run 219 = .ok (.dup2, 1) := by decide +kernel
theorem dX7_run_220 : decode cX7_run 220 = .ok (.iaload, 1) := by decide +kernel
theorem dX7_run_221 : decode cX7_run 221 = .ok (.aload_n 0, 1) := by decide +kernel
theorem dX7_run_222 : decode cX7_run 222 = .ok (.iload_n 2, 1) := by decide +kernel
theorem dX7_run_223 : decode cX7_run 223 = .ok (.iload_n 1, 1) := by decide +kernel
theorem dX7_run_224 : decode cX7_run 224 = .ok (.invokevirtual 156, 3) := by decide +kernel
theorem dX7_run_227 : decode cX7_run 227 = .ok (.ifCond .eq 12, 3) := by decide +kernel
theorem dX7_run_230 : decode cX7_run 230 = .ok (.aload_n 0, 1) := by decide +kernel
theorem dX7_run_231 : decode cX7_run 231 = .ok (.iload_n 2, 1) := by decide +kernel
theorem dX7_run_232 : decode cX7_run 232 = .ok (.iload_n 1, 1) := by decide +kernel
theorem dX7_run_233 : decode cX7_run 233 = .ok (.invokevirtual 170, 3) := by decide +kernel
theorem dX7_run_236 : decode cX7_run 236 = .ok (.goto 4, 3) := by decide +kernel
theorem dX7_run_239 : decode cX7_run 239 = .ok (.iconst 0, 1) := by decide +kernel
theorem dX7_run_240 : decode cX7_run 240 = .ok (.iadd, 1) := by decide +kernel
theorem dX7_run_241 : decode cX7_run 241 = .ok (.iastore, 1) := by decide +kernel
theorem dX7_run_242 : decode cX7_run 242 = .ok (.iinc 2 1, 3) := by decide +kernel
theorem dX7_run_245 : decode cX7_run 245 = .ok (.goto (-39), 3) := by decide +kernel
theorem dX7_run_248 : decode cX7_run 248 = .ok (.iconst 0, 1) := by decide +kernel
theorem dX7_run_249 : decode cX7_run 249 = .ok (.istore_n 2, 1) := by decide +kernel
theorem dX7_run_250 : decode cX7_run 250 = .ok (.iload_n 2, 1) := by decide +kernel
theorem dX7_run_251 : decode cX7_run 251 = .ok (.aload_n 0, 1) := by decide +kernel
theorem dX7_run_252 : decode cX7_run 252 = .ok (.getfield 22, 3) := by decide +kernel
theorem dX7_run_255 : decode cX7_run 255 = .ok (.if_icmp .ge 24, 3) := by decide +kernel
theorem dX7_run_258 : decode cX7_run 258 = .ok (.aload_n 0, 1) := by decide +kernel
theorem dX7_run_259 : decode cX7_run 259 = .ok (.iload_n 2, 1) := by decide +kernel
theorem dX7_run_260 : decode cX7_run 260 = .ok (.iload_n 1, 1) := by decide +kernel
theorem dX7_run_261 : decode cX7_run 261 = .ok (.invokevirtual 156, 3) := by decide +kernel
theorem dX7_run_264 : decode cX7_run 264 = .ok (.ifCond .eq 9, 3) := by decide +kernel
theorem dX7_run_267 : decode cX7_run 267 = .ok (.aload_n 0, 1) := by decide +kernel
theorem dX7_run_268 : decode cX7_run 268 = .ok (.iload_n 2, 1) := by decide +kernel
theorem dX7_run_269 : decode cX7_run 269 = .ok (.iload_n 1, 1) := by decide +kernel
theorem dX7_run_270 : decode cX7_run 270 = .ok (.invokevirtual 174, 3) := by decide +kernel
theorem dX7_run_273 : decode cX7_run 273 = .ok (.iinc 2 1, 3) := by decide +kernel
theorem dX7_run_276 : decode cX7_run 276 = .ok (.goto (-26), 3) := by decide +kernel
theorem dX7_run_279 : decode cX7_run 279 = .ok (.iconst 0, 1) := by decide +kernel
theorem dX7_run_280 : decode cX7_run 280 = .ok (.istore_n 2, 1) := by decide +kernel
theorem dX7_run_281 : decode cX7_run 281 = .ok (.iload_n 2, 1) := by decide +kernel
theorem dX7_run_282 : decode cX7_run 282 = .ok (.aload_n 0, 1) := by decide +kernel
theorem dX7_run_283 : decode cX7_run 283 = .ok (.getfield 22, 3) := by decide +kernel
theorem dX7_run_286 : decode cX7_run 286 = .ok (.if_icmp .ge 26, 3) := by decide +kernel
theorem dX7_run_289 : decode cX7_run 289 = .ok (.aload_n 0, 1) := by decide +kernel
theorem dX7_run_290 : decode cX7_run 290 = .ok (.getfield 65, 3) := by decide +kernel
theorem dX7_run_293 : decode cX7_run 293 = .ok (.bipush 6, 2) := by decide +kernel
theorem dX7_run_295 : decode cX7_run 295 = .ok (.iload_n 1, 1) := by decide +kernel
theorem dX7_run_296 : decode cX7_run 296 = .ok (.imul, 1) := by decide +kernel
theorem dX7_run_297 : decode cX7_run 297 = .ok (.iload_n 2, 1) := by decide +kernel
theorem dX7_run_298 : decode cX7_run 298 = .ok (.iadd, 1) := by decide +kernel
theorem dX7_run_299 : decode cX7_run 299 = .ok (.aload_n 0, 1) := by decide +kernel
theorem dX7_run_300 : decode cX7_run 300 = .ok (.getfield 56, 3) := by decide +kernel
theorem dX7_run_303 : decode cX7_run 303 = .ok (.iload_n 2, 1) := by decide +kernel
theorem dX7_run_304 : decode cX7_run 304 = .ok (.iaload, 1) := by decide +kernel
theorem dX7_run_305 : decode cX7_run 305 = .ok (.iastore, 1) := by decide +kernel
theorem dX7_run_306 : decode cX7_run 306 = .ok (.iinc 2 1, 3) := by decide +kernel
theorem dX7_run_309 : decode cX7_run 309 = .ok (.goto (-28), 3) := by decide +kernel
theorem dX7_run_312 : decode cX7_run 312 = .ok (.iinc 1 1, 3) := by decide +kernel
theorem dX7_run_315 : decode cX7_run 315 = .ok (.goto (-252), 3) := by decide +kernel
theorem dX7_run_318 : decode cX7_run 318 = .ok (.return_, 1) := by decide +kernel
theorem dX7_runPlain_0 : decode cX7_runPlain 0 = .ok (.aload_n 0, 1) := by decide +kernel
theorem dX7_runPlain_1 : decode cX7_runPlain 1 = .ok (.invokevirtual 177, 3) := by decide +kernel
theorem dX7_runPlain_4 : decode cX7_runPlain 4 = .ok (.aload_n 0, 1) := by decide +kernel
theorem dX7_runPlain_5 : decode cX7_runPlain 5 = .ok (.invokevirtual 180, 3) := by decide +kernel
theorem dX7_runPlain_8 : decode cX7_runPlain 8 = .ok (.return_, 1) := by decide +kernel
theorem dX7_dies_0 : decode cX7_dies 0 = .ok (.aload_n 0, 1) := by decide +kernel
theorem dX7_dies_1 : decode cX7_dies 1 = .ok (.iload_n 1, 1) := by decide +kernel
theorem dX7_dies_2 : decode cX7_dies 2 = .ok (.invokevirtual 122, 3) := by decide +kernel
theorem dX7_dies_5 : decode cX7_dies 5 = .ok (.ifCond .ne 5, 3) := by decide +kernel
theorem dX7_dies_8 : decode cX7_dies 8 = .ok (.iconst (-1), 1) := by decide +kernel
theorem dX7_dies_9 : decode cX7_dies 9 = .ok (.ireturn, 1) := by decide +kernel
theorem dX7_dies_10 : decode cX7_dies 10 = .ok (.aload_n 0, 1) := by decide +kernel
theorem dX7_dies_11 : decode cX7_dies 11 = .ok (.invokevirtual 183, 3) := by decide +kernel
theorem dX7_dies_14 : decode cX7_dies 14 = .ok (.aload_n 0, 1) := by decide +kernel
theorem dX7_dies_15 : decode cX7_dies 15 = .ok (.getfield 53, 3) := by decide +kernel
theorem dX7_dies_18 : decode cX7_dies 18 = .ok (.iload_n 1, 1) := by decide +kernel
theorem dX7_dies_19 : decode cX7_dies 19 = .ok (.iaload, 1) := by decide +kernel
theorem dX7_dies_20 : decode cX7_dies 20 = .ok (.ifCond .ge 8, 3) := by decide +kernel
theorem dX7_dies_23 : decode cX7_dies 23 = .ok (.bipush (-4), 2) := by decide +kernel
theorem dX7_dies_25 : decode cX7_dies 25 = .ok (.goto 9, 3) := by decide +kernel
theorem dX7_dies_28 : decode cX7_dies 28 = .ok (.aload_n 0, 1) := by decide +kernel
theorem dX7_dies_29 : decode cX7_dies 29 = .ok (.getfield 53, 3) := by decide +kernel
theorem dX7_dies_32 : decode cX7_dies 32 = .ok (.iload_n 1, 1) := by decide +kernel
theorem dX7_dies_33 : decode cX7_dies 33 = .ok (.iaload, 1) := by decide +kernel
theorem dX7_dies_34 : decode cX7_dies 34 = .ok (.ireturn, 1) := by decide +kernel
theorem dX7_having_0 : decode cX7_having 0 = .ok (.aload_n 0, 1) := by decide +kernel
theorem dX7_having_1 : decode cX7_having 1 = .ok (.invokevirtual 183, 3) := by decide +kernel
theorem dX7_having_4 : decode cX7_having 4 = .ok (.aload_n 0, 1) := by decide +kernel
theorem dX7_having_5 : decode cX7_having 5 = .ok (.getfield 163, 3) := by decide +kernel
theorem dX7_having_8 : decode cX7_having 8 = .ok (.ireturn, 1) := by decide +kernel
theorem dX7_coins_0 : decode cX7_coins 0 = .ok (.aload_n 0, 1) := by decide +kernel
theorem dX7_coins_1 : decode cX7_coins 1 = .ok (.iload_n 1, 1) := by decide +kernel
theorem dX7_coins_2 : decode cX7_coins 2 = .ok (.invokevirtual 122, 3) := by decide +kernel
theorem dX7_coins_5 : decode cX7_coins 5 = .ok (.ifCond .eq 14, 3) := by decide +kernel
theorem dX7_coins_8 : decode cX7_coins 8 = .ok (.iload_n 2, 1) := by decide +kernel
theorem dX7_coins_9 : decode cX7_coins 9 = .ok (.iconst 0, 1) := by decide +kernel
theorem dX7_coins_10 : decode cX7_coins 10 = .ok (.sipush 150, 3) := by decide +kernel
theorem dX7_coins_13 : decode cX7_coins 13 = .ok (.invokestatic 76, 3) := by decide +kernel
theorem dX7_coins_16 : decode cX7_coins 16 = .ok (.ifCond .ne 5, 3) := by decide +kernel
theorem dX7_coins_19 : decode cX7_coins 19 = .ok (.iconst (-1), 1) := by decide +kernel
theorem dX7_coins_20 : decode cX7_coins 20 = .ok (.ireturn, 1) := by decide +kernel
theorem dX7_coins_21 : decode cX7_coins 21 = .ok (.aload_n 0, 1) := by decide +kernel
theorem dX7_coins_22 : decode cX7_coins 22 = .ok (.invokevirtual 183, 3) := by decide +kernel
theorem dX7_coins_25 : decode cX7_coins 25 = .ok (.aload_n 0, 1) := by decide +kernel
theorem dX7_coins_26 : decode cX7_coins 26 = .ok (.getfield 65, 3) := by decide +kernel
theorem dX7_coins_29 : decode cX7_coins 29 = .ok (.bipush 6, 2) := by decide +kernel
theorem dX7_coins_31 : decode cX7_coins 31 = .ok (.iload_n 2, 1) := by decide +kernel
theorem dX7_coins_32 : decode cX7_coins 32 = .ok (.imul, 1) := by decide +kernel
theorem dX7_coins_33 : decode cX7_coins 33 = .ok (.iload_n 1, 1) := by decide +kernel
theorem dX7_coins_34 : decode cX7_coins 34 = .ok (.iadd, 1) := by decide +kernel
theorem dX7_coins_35 : decode cX7_coins 35 = .ok (.iaload, 1) := by decide +kernel
theorem dX7_coins_36 : decode cX7_coins 36 = .ok (.ireturn, 1) := by decide +kernel
theorem dX7_brought_0 : decode cX7_brought 0 = .ok (.aload_n 0, 1) := by decide +kernel
theorem dX7_brought_1 : decode cX7_brought 1 = .ok (.iload_n 1, 1) := by decide +kernel
theorem dX7_brought_2 : decode cX7_brought 2 = .ok (.invokevirtual 128, 3) := by decide +kernel
theorem dX7_brought_5 : decode cX7_brought 5 = .ok (.ifCond .ne 5, 3) := by decide +kernel
theorem dX7_brought_8 : decode cX7_brought 8 = .ok (.iconst (-1), 1) := by decide +kernel
theorem dX7_brought_9 : decode cX7_brought 9 = .ok (.ireturn, 1) := by decide +kernel
theorem dX7_brought_10 : decode cX7_brought 10 = .ok (.aload_n 0, 1) := by decide +kernel
theorem dX7_brought_11 : decode cX7_brought 11 = .ok (.invokevirtual 183, 3) := by decide +kernel
theorem dX7_brought_14 : decode cX7_brought 14 = .ok (.aload_n 0, 1) := by decide +kernel
theorem dX7_brought_15 : decode cX7_brought 15 = .ok (.getfield 62, 3) := by decide +kernel
theorem dX7_brought_18 : decode cX7_brought 18 = .ok (.iload_n 1, 1) := by decide +kernel
theorem dX7_brought_19 : decode cX7_brought 19 = .ok (.iaload, 1) := by decide +kernel
theorem dX7_brought_20 : decode cX7_brought 20 = .ok (.ireturn, 1) := by decide +kernel
theorem dX7_inherited_0 : decode cX7_inherited 0 = .ok (.aload_n 0, 1) := by decide +kernel
theorem dX7_inherited_1 : decode cX7_inherited 1 = .ok (.iload_n 1, 1) := by decide +kernel
theorem dX7_inherited_2 : decode cX7_inherited 2 = .ok (.invokevirtual 122, 3) := by decide +kernel
theorem dX7_inherited_5 : decode cX7_inherited 5 = .ok (.ifCond .ne 5, 3) := by decide +kernel
theorem dX7_inherited_8 : decode cX7_inherited 8 = .ok (.iconst (-1), 1) := by decide +kernel
theorem dX7_inherited_9 : decode cX7_inherited 9 = .ok (.ireturn, 1) := by decide +kernel
theorem dX7_inherited_10 : decode cX7_inherited 10 = .ok (.aload_n 0, 1) := by decide +kernel
theorem dX7_inherited_11 : decode cX7_inherited 11 = .ok (.invokevirtual 183, 3) := by decide +kernel
theorem dX7_inherited_14 : decode cX7_inherited 14 = .ok (.aload_n 0, 1) := by decide +kernel
theorem dX7_inherited_15 : decode cX7_inherited 15 = .ok (.getfield 59, 3) := by decide +kernel
theorem dX7_inherited_18 : decode cX7_inherited 18 = .ok (.iload_n 1, 1) := by decide +kernel
theorem dX7_inherited_19 : decode cX7_inherited 19 = .ok (.iaload, 1) := by decide +kernel
theorem dX7_inherited_20 : decode cX7_inherited 20 = .ok (.ireturn, 1) := by decide +kernel
theorem dX7_first_0 : decode cX7_first 0 = .ok (.aload_n 0, 1) := by decide +kernel
theorem dX7_first_1 : decode cX7_first 1 = .ok (.invokevirtual 183, 3) := by decide +kernel
theorem dX7_first_4 : decode cX7_first 4 = .ok (.bipush (-4), 2) := by decide +kernel
theorem dX7_first_6 : decode cX7_first 6 = .ok (.istore_n 1, 1) := by decide +kernel
theorem dX7_first_7 : decode cX7_first 7 = .ok (.iconst 0, 1) := by decide +kernel
theorem dX7_first_8 : decode cX7_first 8 = .ok (.istore_n 2, 1) := by decide +kernel
theorem dX7_first_9 : decode cX7_first 9 = .ok (.iload_n 2, 1) := by decide +kernel
theorem dX7_first_10 : decode cX7_first 10 = .ok (.aload_n 0, 1) := by decide +kernel
theorem dX7_first_11 : decode cX7_first 11 = .ok (.getfield 22, 3) := by decide +kernel
theorem dX7_first_14 : decode cX7_first 14 = .ok (.if_icmp .ge 64, 3) := by decide +kernel
theorem dX7_first_17 : decode cX7_first 17 = .ok (.aload_n 0, 1) := by decide +kernel
theorem dX7_first_18 : decode cX7_first 18 = .ok (.getfield 53, 3) := by decide +kernel
theorem dX7_first_21 : decode cX7_first 21 = .ok (.iload_n 2, 1) := by decide +kernel
theorem dX7_first_22 : decode cX7_first 22 = .ok (.iaload, 1) := by decide +kernel
theorem dX7_first_23 : decode cX7_first 23 = .ok (.ifCond .lt 18, 3) := by decide +kernel
theorem dX7_first_26 : decode cX7_first 26 = .ok (.aload_n 0, 1) := by decide +kernel
theorem dX7_first_27 : decode cX7_first 27 = .ok (.getfield 163, 3) := by decide +kernel
theorem dX7_first_30 : decode cX7_first 30 = .ok (.iload_n 2, 1) := by decide +kernel
theorem dX7_first_31 : decode cX7_first 31 = .ok (.ishr, 1) := by decide +kernel
theorem dX7_first_32 : decode cX7_first 32 = .ok (.iconst 1, 1) := by decide +kernel
theorem dX7_first_33 : decode cX7_first 33 = .ok (.iand, 1) := by decide +kernel
theorem dX7_first_34 : decode cX7_first 34 = .ok (.ifCond .ne 7, 3) := by decide +kernel
theorem dX7_first_37 : decode cX7_first 37 = .ok (.iconst 1, 1) := by decide +kernel
theorem dX7_first_38 : decode cX7_first 38 = .ok (.goto 4, 3) := by decide +kernel
theorem dX7_first_41 : decode cX7_first 41 = .ok (.iconst 0, 1) := by decide +kernel
theorem dX7_first_42 : decode cX7_first 42 = .ok (.istore_n 3, 1) := by decide +kernel
theorem dX7_first_43 : decode cX7_first 43 = .ok (.iload_n 3, 1) := by decide +kernel
theorem dX7_first_44 : decode cX7_first 44 = .ok (.ifCond .eq 26, 3) := by decide +kernel
theorem dX7_first_47 : decode cX7_first 47 = .ok (.iload_n 1, 1) := by decide +kernel
theorem dX7_first_48 : decode cX7_first 48 = .ok (.ifCond .lt 18, 3) := by decide +kernel
theorem dX7_first_51 : decode cX7_first 51 = .ok (.aload_n 0, 1) := by decide +kernel
theorem dX7_first_52 : decode cX7_first 52 = .ok (.getfield 53, 3) := by decide +kernel
theorem dX7_first_55 : decode cX7_first 55 = .ok (.iload_n 2, 1) := by decide +kernel
theorem dX7_first_56 : decode cX7_first 56 = .ok (.iaload, 1) := by decide +kernel
theorem dX7_first_57 : decode cX7_first 57 = .ok (.aload_n 0, 1) := by decide +kernel
theorem dX7_first_58 : decode cX7_first 58 = .ok (.getfield 53, 3) := by decide +kernel
theorem dX7_first_61 : decode cX7_first 61 = .ok (.iload_n 1, 1) := by decide +kernel
theorem dX7_first_62 : decode cX7_first 62 = .ok (.iaload, 1) := by decide +kernel
theorem dX7_first_63 : decode cX7_first 63 = .ok (.if_icmp .ge 7, 3) := by decide +kernel
theorem dX7_first_66 : decode cX7_first 66 = .ok (.iload_n 2, 1) := by decide +kernel
theorem dX7_first_67 : decode cX7_first 67 = .ok (.goto 4, 3) := by decide +kernel
theorem dX7_first_70 : decode cX7_first 70 = .ok (.iload_n 1, 1) := by decide +kernel
theorem dX7_first_71 : decode cX7_first 71 = .ok (.istore_n 1, 1) := by decide +kernel
theorem dX7_first_72 : decode cX7_first 72 = .ok (.iinc 2 1, 3) := by decide +kernel
theorem dX7_first_75 : decode cX7_first 75 = .ok (.goto (-66), 3) := by decide +kernel
theorem dX7_first_78 : decode cX7_first 78 = .ok (.iload_n 1, 1) := by decide +kernel
theorem dX7_first_79 : decode cX7_first 79 = .ok (.ireturn, 1) := by decide +kernel
theorem dX7_longest_0 : decode cX7_longest 0 = .ok (.iload_n 1, 1) := by decide +kernel
theorem dX7_longest_1 : decode cX7_longest 1 = .ok (.iconst 0, 1) := by decide +kernel
theorem dX7_longest_2 : decode cX7_longest 2 = .ok (.iconst 1, 1) := by decide +kernel
theorem dX7_longest_3 : decode cX7_longest 3 = .ok (.invokestatic 76, 3) := by decide +kernel
theorem dX7_longest_6 : decode cX7_longest 6 = .ok (.ifCond .ne 5, 3) := by decide +kernel
theorem dX7_longest_9 : decode cX7_longest 9 = .ok (.iconst (-1), 1) := by decide +kernel
theorem dX7_longest_10 : decode cX7_longest 10 = .ok (.ireturn, 1) := by decide +kernel
theorem dX7_longest_11 : decode cX7_longest 11 = .ok (.aload_n 0, 1) := by decide +kernel
theorem dX7_longest_12 : decode cX7_longest 12 = .ok (.invokevirtual 183, 3) := by decide +kernel
theorem dX7_longest_15 : decode cX7_longest 15 = .ok (.iconst 0, 1) := by decide +kernel
theorem dX7_longest_16 : decode cX7_longest 16 = .ok (.istore_n 2, 1) := by decide +kernel
theorem dX7_longest_17 : decode cX7_longest 17 = .ok (.iconst (-1), 1) := by decide +kernel
theorem dX7_longest_18 : decode cX7_longest 18 = .ok (.istore_n 3, 1) := by decide +kernel
theorem dX7_longest_19 : decode cX7_longest 19 = .ok (.iconst 0, 1) := by decide +kernel
theorem dX7_longest_20 : decode cX7_longest 20 = .ok (.istore 4, 2) := by decide +kernel
theorem dX7_longest_22 : decode cX7_longest 22 = .ok (.iload 4, 2) := by decide +kernel
theorem dX7_longest_24 : decode cX7_longest 24 = .ok (.aload_n 0, 1) := by decide +kernel
theorem dX7_longest_25 : decode cX7_longest 25 = .ok (.getfield 22, 3) := by decide +kernel
theorem dX7_longest_28 : decode cX7_longest 28 = .ok (.if_icmp .ge 70, 3) := by decide +kernel
theorem dX7_longest_31 : decode cX7_longest 31 = .ok (.aload_n 0, 1) := by decide +kernel
theorem dX7_longest_32 : decode cX7_longest 32 = .ok (.getfield 53, 3) := by decide +kernel
theorem dX7_longest_35 : decode cX7_longest 35 = .ok (.iload 4, 2) := by decide +kernel
theorem dX7_longest_37 : decode cX7_longest 37 = .ok (.iaload, 1) := by decide +kernel
theorem dX7_longest_38 : decode cX7_longest 38 = .ok (.ifCond .ge 9, 3) := by decide +kernel
theorem dX7_longest_41 : decode cX7_longest 41 = .ok (.sipush 150, 3) := by decide +kernel
theorem dX7_longest_44 : decode cX7_longest 44 = .ok (.goto 10, 3) := by decide +kernel
theorem dX7_longest_47 : decode cX7_longest 47 = .ok (.aload_n 0, 1) := by decide +kernel
theorem dX7_longest_48 : decode cX7_longest 48 = .ok (.getfield 53, 3) := by decide +kernel
theorem dX7_longest_51 : decode cX7_longest 51 = .ok (.iload 4, 2) := by decide +kernel
theorem dX7_longest_53 : decode cX7_longest 53 = .ok (.iaload, 1) := by decide +kernel
theorem dX7_longest_54 : decode cX7_longest 54 = .ok (.aload_n 0, 1) := by decide +kernel
theorem dX7_longest_55 : decode cX7_longest 55 = .ok (.getfield 50, 3) := by decide +kernel
theorem dX7_longest_58 : decode cX7_longest 58 = .ok (.iconst 5, 1) := by decide +kernel
theorem dX7_longest_59 : decode cX7_longest 59 = .ok (.iload 4, 2) := by decide +kernel
theorem dX7_longest_61 : decode cX7_longest 61 = .ok (.imul, 1) := by decide +kernel
theorem dX7_longest_62 : decode cX7_longest 62 = .ok (.iaload, 1) := by decide +kernel
theorem dX7_longest_63 : decode cX7_longest 63 = .ok (.isub, 1) := by decide +kernel
theorem dX7_longest_64 : decode cX7_longest 64 = .ok (.istore 5, 2) := by decide +kernel
theorem dX7_longest_66 : decode cX7_longest 66 = .ok (.iload 5, 2) := by decide +kernel
theorem dX7_longest_68 : decode cX7_longest 68 = .ok (.iload_n 3, 1) := by decide +kernel
theorem dX7_longest_69 : decode cX7_longest 69 = .ok (.if_icmp .le 8, 3) := by decide +kernel
theorem dX7_longest_72 : decode cX7_longest 72 = .ok (.iload 4, 2) := by decide +kernel
theorem dX7_longest_74 : decode cX7_longest 74 = .ok (.goto 4, 3) := by decide +kernel
theorem dX7_longest_77 : decode cX7_longest 77 = .ok (.iload_n 2, 1) := by decide +kernel
theorem dX7_longest_78 : decode cX7_longest 78 = .ok (.istore_n 2, 1) := by decide +kernel
theorem dX7_longest_79 : decode cX7_longest 79 = .ok (.iload 5, 2) := by decide +kernel
theorem dX7_longest_81 : decode cX7_longest 81 = .ok (.iload_n 3, 1) := by decide +kernel
theorem dX7_longest_82 : decode cX7_longest 82 = .ok (.if_icmp .le 8, 3) := by decide +kernel
theorem dX7_longest_85 : decode cX7_longest 85 = .ok (.iload 5, 2) := by decide +kernel
theorem dX7_longest_87 : decode cX7_longest 87 = .ok (.goto 4, 3) := by decide +kernel
theorem dX7_longest_90 : decode cX7_longest 90 = .ok (.iload_n 3, 1) := by decide +kernel
theorem dX7_longest_91 : decode cX7_longest 91 = .ok (.istore_n 3, 1) := by decide +kernel
theorem dX7_longest_92 : decode cX7_longest 92 = .ok (.iinc 4 1, 3) := by decide +kernel
theorem dX7_longest_95 : decode cX7_longest 95 = .ok (.goto (-73), 3) := by decide +kernel
theorem dX7_longest_98 : decode cX7_longest 98 = .ok (.iload_n 1, 1) := by decide +kernel
theorem dX7_longest_99 : decode cX7_longest 99 = .ok (.ifCond .ne 7, 3) := by decide +kernel
theorem dX7_longest_102 : decode cX7_longest 102 = .ok (.iload_n 2, 1) := by decide +kernel
theorem dX7_longest_103 : decode cX7_longest 103 = .ok (.goto 4, 3) := by decide +kernel
theorem dX7_longest_106 : decode cX7_longest 106 = .ok (.iload_n 3, 1) := by decide +kernel
theorem dX7_longest_107 : decode cX7_longest 107 = .ok (.ireturn, 1) := by decide +kernel
theorem dX7_prepareBut_0 : decode cX7_prepareBut 0 = .ok (.aload_n 0, 1) := by decide +kernel
theorem dX7_prepareBut_1 : decode cX7_prepareBut 1 = .ok (.invokevirtual 177, 3) := by decide +kernel
theorem dX7_prepareBut_4 : decode cX7_prepareBut 4 = .ok (.aload_n 0, 1) := by decide +kernel
theorem dX7_prepareBut_5 : decode cX7_prepareBut 5 = .ok (.iconst 0, 1) := by decide +kernel
theorem dX7_prepareBut_6 : decode cX7_prepareBut 6 = .ok (.putfield 138, 3) := by decide +kernel
theorem dX7_prepareBut_9 : decode cX7_prepareBut 9 = .ok (.iconst 0, 1) := by decide +kernel
theorem dX7_prepareBut_10 : decode cX7_prepareBut 10 = .ok (.istore_n 3, 1) := by decide +kernel
theorem dX7_prepareBut_11 : decode cX7_prepareBut 11 = .ok (.iload_n 3, 1) := by decide +kernel
theorem dX7_prepareBut_12 : decode cX7_prepareBut 12 = .ok (.aload_n 0, 1) := by decide +kernel
theorem dX7_prepareBut_13 : decode cX7_prepareBut 13 = .ok (.getfield 29, 3) := by decide +kernel
theorem dX7_prepareBut_16 : decode cX7_prepareBut 16 = .ok (.if_icmp .ge 76, 3) := by decide +kernel
theorem dX7_prepareBut_19 : decode cX7_prepareBut 19 = .ok (.aload_n 0, 1) := by decide +kernel
theorem dX7_prepareBut_20 : decode cX7_prepareBut 20 = .ok (.getfield 35, 3) := by decide +kernel
theorem dX7_prepareBut_23 : decode cX7_prepareBut 23 = .ok (.iconst 3, 1) := by decide +kernel
theorem dX7_prepareBut_24 : decode cX7_prepareBut 24 = .ok (.iload_n 3, 1) := by decide +kernel
theorem dX7_prepareBut_25 : decode cX7_prepareBut 25 = .ok (.imul, 1) := by decide +kernel
theorem dX7_prepareBut_26 : decode cX7_prepareBut 26 = .ok (.iaload, 1) := by decide +kernel
theorem dX7_prepareBut_27 : decode cX7_prepareBut 27 = .ok (.iload_n 1, 1) := by decide +kernel
theorem dX7_prepareBut_28 : decode cX7_prepareBut 28 = .ok (.if_icmp .eq 58, 3) := by decide +kernel
theorem dX7_prepareBut_31 : decode cX7_prepareBut 31 = .ok (.iload_n 3, 1) := by decide +kernel
theorem dX7_prepareBut_32 : decode cX7_prepareBut 32 = .ok (.iload_n 2, 1) := by decide +kernel
theorem dX7_prepareBut_33 : decode cX7_prepareBut 33 = .ok (.if_icmp .eq 53, 3) := by decide +kernel
theorem dX7_prepareBut_36 : decode cX7_prepareBut 36 = .ok (.iconst 0, 1) := by decide +kernel
theorem dX7_prepareBut_37 : decode cX7_prepareBut 37 = .ok (.istore 4, 2) := by decide +kernel
theorem dX7_prepareBut_39 : decode cX7_prepareBut 39 = .ok (.iload 4, 2) := by decide +kernel
theorem dX7_prepareBut_41 : decode cX7_prepareBut 41 = .ok (.iconst 3, 1) := by decide +kernel
theorem dX7_prepareBut_42 : decode cX7_prepareBut 42 = .ok (.if_icmp .ge 34, 3) := by decide +kernel
theorem dX7_prepareBut_45 : decode cX7_prepareBut 45 = .ok (.aload_n 0, 1) := by decide +kernel
theorem dX7_prepareBut_46 : decode cX7_prepareBut 46 = .ok (.getfield 47, 3) := by decide +kernel
theorem dX7_prepareBut_49 : decode cX7_prepareBut 49 = .ok (.iconst 3, 1) := by decide +kernel
theorem dX7_prepareBut_50 : decode cX7_prepareBut 50 = .ok (.aload_n 0, 1) := by decide +kernel
theorem dX7_prepareBut_51 : decode cX7_prepareBut 51 = .ok (.getfield 138, 3) := by decide +kernel
theorem dX7_prepareBut_54 : decode cX7_prepareBut 54 = .ok (.imul, 1) := by decide +kernel
theorem dX7_prepareBut_55 : decode cX7_prepareBut 55 = .ok (.iload 4, 2) := by decide +kernel
theorem dX7_prepareBut_57 : decode cX7_prepareBut 57 = .ok (.iadd, 1) := by decide +kernel
theorem dX7_prepareBut_58 : decode cX7_prepareBut 58 = .ok (.aload_n 0, 1) := by decide +kernel
theorem dX7_prepareBut_59 : decode cX7_prepareBut 59 = .ok (.getfield 35, 3) := by decide +kernel
theorem dX7_prepareBut_62 : decode cX7_prepareBut 62 = .ok (.iconst 3, 1) := by decide +kernel
theorem dX7_prepareBut_63 : decode cX7_prepareBut 63 = .ok (.iload_n 3, 1) := by decide +kernel
theorem dX7_prepareBut_64 : decode cX7_prepareBut 64 = .ok (.imul, 1) := by decide +kernel
theorem dX7_prepareBut_65 : decode cX7_prepareBut 65 = .ok (.iload 4, 2) := by decide +kernel
theorem dX7_prepareBut_67 : decode cX7_prepareBut 67 = .ok (.iadd, 1) := by decide +kernel
theorem dX7_prepareBut_68 : decode cX7_prepareBut 68 = .ok (.iaload, 1) := by decide +kernel
theorem dX7_prepareBut_69 : decode cX7_prepareBut 69 = .ok (.iastore, 1) := by decide +kernel
theorem dX7_prepareBut_70 : decode cX7_prepareBut 70 = .ok (.iinc 4 1, 3) := by decide +kernel
theorem dX7_prepareBut_73 : decode cX7_prepareBut 73 = .ok (.goto (-34), 3) := by decide +kernel
theorem dX7_prepareBut_76 : decode cX7_prepareBut 76 = .ok (.aload_n 0, 1) := by decide +kernel
theorem dX7_prepareBut_77 : decode cX7_prepareBut 77 = .ok (.dup, 1) := by decide +kernel
theorem dX7_prepareBut_78 : decode cX7_prepareBut 78 = .ok (.getfield 138, 3) := by decide +kernel
theorem dX7_prepareBut_81 : decode cX7_prepareBut 81 = .ok (.iconst 1, 1) := by decide +kernel
theorem dX7_prepareBut_82 : decode cX7_prepareBut 82 = .ok (.iadd, 1) := by decide +kernel
theorem dX7_prepareBut_83 : decode cX7_prepareBut 83 = .ok (.putfield 138, 3) := by decide +kernel
theorem dX7_prepareBut_86 : decode cX7_prepareBut 86 = .ok (.iinc 3 1, 3) := by decide +kernel
theorem dX7_prepareBut_89 : decode cX7_prepareBut 89 = .ok (.goto (-78), 3) := by decide +kernel
theorem dX7_prepareBut_92 : decode cX7_prepareBut 92 = .ok (.return_, 1) := by decide +kernel
theorem dX7_has_0 : decode cX7_has 0 = .ok (.aload_n 0, 1) := by decide +kernel
theorem dX7_has_1 : decode cX7_has 1 = .ok (.getfield 163, 3) := by decide +kernel
theorem dX7_has_4 : decode cX7_has 4 = .ok (.iload_n 1, 1) := by decide +kernel
theorem dX7_has_5 : decode cX7_has 5 = .ok (.ishr, 1) := by decide +kernel
theorem dX7_has_6 : decode cX7_has 6 = .ok (.iconst 1, 1) := by decide +kernel
theorem dX7_has_7 : decode cX7_has 7 = .ok (.iand, 1) := by decide +kernel
theorem dX7_has_8 : decode cX7_has 8 = .ok (.iconst 1, 1) := by decide +kernel
theorem dX7_has_9 : decode cX7_has 9 = .ok (.if_icmp .ne 7, 3) := by decide +kernel
theorem dX7_has_12 : decode cX7_has 12 = .ok (.iconst 1, 1) := by decide +kernel
theorem dX7_has_13 : decode cX7_has 13 = .ok (.goto 4, 3) := by decide +kernel
theorem dX7_has_16 : decode cX7_has 16 = .ok (.iconst 0, 1) := by decide +kernel
theorem dX7_has_17 : decode cX7_has 17 = .ok (.ireturn, 1) := by decide +kernel
theorem dX7_hadMany_0 : decode cX7_hadMany 0 = .ok (.iconst 0, 1) := by decide +kernel
theorem dX7_hadMany_1 : decode cX7_hadMany 1 = .ok (.istore_n 1, 1) := by decide +kernel
theorem dX7_hadMany_2 : decode cX7_hadMany 2 = .ok (.iconst 0, 1) := by decide +kernel
theorem dX7_hadMany_3 : decode cX7_hadMany 3 = .ok (.istore_n 2, 1) := by decide +kernel
theorem dX7_hadMany_4 : decode cX7_hadMany 4 = .ok (.iload_n 2, 1) := by decide +kernel
theorem dX7_hadMany_5 : decode cX7_hadMany 5 = .ok (.aload_n 0, 1) := by decide +kernel
theorem dX7_hadMany_6 : decode cX7_hadMany 6 = .ok (.getfield 22, 3) := by decide +kernel
theorem dX7_hadMany_9 : decode cX7_hadMany 9 = .ok (.if_icmp .ge 20, 3) := by decide +kernel
theorem dX7_hadMany_12 : decode cX7_hadMany 12 = .ok (.iload_n 1, 1) := by decide +kernel
theorem dX7_hadMany_13 : decode cX7_hadMany 13 = .ok (.aload_n 0, 1) := by decide +kernel
theorem dX7_hadMany_14 : decode cX7_hadMany 14 = .ok (.getfield 163, 3) := by decide +kernel
theorem dX7_hadMany_17 : decode cX7_hadMany 17 = .ok (.iload_n 2, 1) := by decide +kernel
theorem dX7_hadMany_18 : decode cX7_hadMany 18 = .ok (.ishr, 1) := by decide +kernel
theorem dX7_hadMany_19 : decode cX7_hadMany 19 = .ok (.iconst 1, 1) := by decide +kernel
theorem dX7_hadMany_20 : decode cX7_hadMany 20 = .ok (.iand, 1) := by decide +kernel
theorem dX7_hadMany_21 : decode cX7_hadMany 21 = .ok (.iadd, 1) := by decide +kernel
theorem dX7_hadMany_22 : decode cX7_hadMany 22 = .ok (.istore_n 1, 1) := by decide +kernel
theorem dX7_hadMany_23 : decode cX7_hadMany 23 = .ok (.iinc 2 1, 3) := by decide +kernel
theorem dX7_hadMany_26 : decode cX7_hadMany 26 = .ok (.goto (-22), 3) := by decide +kernel
theorem dX7_hadMany_29 : decode cX7_hadMany 29 = .ok (.iload_n 1, 1) := by decide +kernel
theorem dX7_hadMany_30 : decode cX7_hadMany 30 = .ok (.ireturn, 1) := by decide +kernel
theorem dX7_greatest_0 : decode cX7_greatest 0 = .ok (.aload_n 0, 1) := by decide +kernel
theorem dX7_greatest_1 : decode cX7_greatest 1 = .ok (.iload_n 1, 1) := by decide +kernel
theorem dX7_greatest_2 : decode cX7_greatest 2 = .ok (.invokevirtual 122, 3) := by decide +kernel
theorem dX7_greatest_5 : decode cX7_greatest 5 = .ok (.ifCond .ne 5, 3) := by decide +kernel
theorem dX7_greatest_8 : decode cX7_greatest 8 = .ok (.iconst (-1), 1) := by decide +kernel
theorem dX7_greatest_9 : decode cX7_greatest 9 = .ok (.ireturn, 1) := by decide +kernel
theorem dX7_greatest_10 : decode cX7_greatest 10 = .ok (.sipush 300, 3) := by decide +kernel
theorem dX7_greatest_13 : decode cX7_greatest 13 = .ok (.istore_n 2, 1) := by decide +kernel
theorem dX7_greatest_14 : decode cX7_greatest 14 = .ok (.iload_n 2, 1) := by decide +kernel
theorem dX7_greatest_15 : decode cX7_greatest 15 = .ok (.ifCond .le 79, 3) := by decide +kernel
theorem dX7_greatest_18 : decode cX7_greatest 18 = .ok (.aload_n 0, 1) := by decide +kernel
theorem dX7_greatest_19 : decode cX7_greatest 19 = .ok (.iload_n 1, 1) := by decide +kernel
theorem dX7_greatest_20 : decode cX7_greatest 20 = .ok (.iconst (-1), 1) := by decide +kernel
theorem dX7_greatest_21 : decode cX7_greatest 21 = .ok (.invokevirtual 186, 3) := by decide +kernel
theorem dX7_greatest_24 : decode cX7_greatest 24 = .ok (.aload_n 0, 1) := by decide +kernel
theorem dX7_greatest_25 : decode cX7_greatest 25 = .ok (.getfield 47, 3) := by decide +kernel
theorem dX7_greatest_28 : decode cX7_greatest 28 = .ok (.iconst 3, 1) := by decide +kernel
theorem dX7_greatest_29 : decode cX7_greatest 29 = .ok (.aload_n 0, 1) := by decide +kernel
theorem dX7_greatest_30 : decode cX7_greatest 30 = .ok (.getfield 138, 3) := by decide +kernel
theorem dX7_greatest_33 : decode cX7_greatest 33 = .ok (.imul, 1) := by decide +kernel
theorem dX7_greatest_34 : decode cX7_greatest 34 = .ok (.iload_n 1, 1) := by decide +kernel
theorem dX7_greatest_35 : decode cX7_greatest 35 = .ok (.iastore, 1) := by decide +kernel
theorem dX7_greatest_36 : decode cX7_greatest 36 = .ok (.aload_n 0, 1) := by decide +kernel
theorem dX7_greatest_37 : decode cX7_greatest 37 = .ok (.getfield 47, 3) := by decide +kernel
theorem dX7_greatest_40 : decode cX7_greatest 40 = .ok (.iconst 3, 1) := by decide +kernel
theorem dX7_greatest_41 : decode cX7_greatest 41 = .ok (.aload_n 0, 1) := by decide +kernel
theorem dX7_greatest_42 : decode cX7_greatest 42 = .ok (.getfield 138, 3) := by decide +kernel
theorem dX7_greatest_45 : decode cX7_greatest 45 = .ok (.imul, 1) := by decide +kernel
theorem dX7_greatest_46 : decode cX7_greatest 46 = .ok (.iconst 1, 1) := by decide +kernel
theorem dX7_greatest_47 : decode cX7_greatest 47 = .ok (.iadd, 1) := by decide +kernel
theorem dX7_greatest_48 : decode cX7_greatest 48 = .ok (.iconst (-1), 1) := by decide +kernel
theorem dX7_greatest_49 : decode cX7_greatest 49 = .ok (.iastore, 1) := by decide +kernel
theorem dX7_greatest_50 : decode cX7_greatest 50 = .ok (.aload_n 0, 1) := by decide +kernel
theorem dX7_greatest_51 : decode cX7_greatest 51 = .ok (.getfield 47, 3) := by decide +kernel
theorem dX7_greatest_54 : decode cX7_greatest 54 = .ok (.iconst 3, 1) := by decide +kernel
theorem dX7_greatest_55 : decode cX7_greatest 55 = .ok (.aload_n 0, 1) := by decide +kernel
theorem dX7_greatest_56 : decode cX7_greatest 56 = .ok (.getfield 138, 3) := by decide +kernel
theorem dX7_greatest_59 : decode cX7_greatest 59 = .ok (.imul, 1) := by decide +kernel
theorem dX7_greatest_60 : decode cX7_greatest 60 = .ok (.iconst 2, 1) := by decide +kernel
theorem dX7_greatest_61 : decode cX7_greatest 61 = .ok (.iadd, 1) := by decide +kernel
theorem dX7_greatest_62 : decode cX7_greatest 62 = .ok (.iload_n 2, 1) := by decide +kernel
theorem dX7_greatest_63 : decode cX7_greatest 63 = .ok (.iastore, 1) := by decide +kernel
theorem dX7_greatest_64 : decode cX7_greatest 64 = .ok (.aload_n 0, 1) := by decide +kernel
theorem dX7_greatest_65 : decode cX7_greatest 65 = .ok (.dup, 1) := by decide +kernel
theorem dX7_greatest_66 : decode cX7_greatest 66 = .ok (.getfield 138, 3) := by decide +kernel
theorem dX7_greatest_69 : decode cX7_greatest 69 = .ok (.iconst 1, 1) := by decide +kernel
theorem dX7_greatest_70 : decode cX7_greatest 70 = .ok (.iadd, 1) := by decide +kernel
theorem dX7_greatest_71 : decode cX7_greatest 71 = .ok (.putfield 138, 3) := by decide +kernel
theorem dX7_greatest_74 : decode cX7_greatest 74 = .ok (.aload_n 0, 1) := by decide +kernel
theorem dX7_greatest_75 : decode cX7_greatest 75 = .ok (.invokevirtual 180, 3) := by decide +kernel
theorem dX7_greatest_78 : decode cX7_greatest 78 = .ok (.aload_n 0, 1) := by decide +kernel
theorem dX7_greatest_79 : decode cX7_greatest 79 = .ok (.iload_n 1, 1) := by decide +kernel
theorem dX7_greatest_80 : decode cX7_greatest 80 = .ok (.invokevirtual 189, 3) := by decide +kernel
theorem dX7_greatest_83 : decode cX7_greatest 83 = .ok (.ifCond .eq 5, 3) := by decide +kernel
theorem dX7_greatest_86 : decode cX7_greatest 86 = .ok (.iload_n 2, 1) := by decide +kernel
theorem dX7_greatest_87 : decode cX7_greatest 87 = .ok (.ireturn, 1) := by decide +kernel
theorem dX7_greatest_88 : decode cX7_greatest 88 = .ok (.iinc 2 (-1), 3) := by decide +kernel
theorem dX7_greatest_91 : decode cX7_greatest 91 = .ok (.goto (-77), 3) := by decide +kernel
theorem dX7_greatest_94 : decode cX7_greatest 94 = .ok (.bipush (-4), 2) := by decide +kernel
theorem dX7_greatest_96 : decode cX7_greatest 96 = .ok (.ireturn, 1) := by decide +kernel
theorem dX7_needs_0 : decode cX7_needs 0 = .ok (.aload_n 0, 1) := by decide +kernel
theorem dX7_needs_1 : decode cX7_needs 1 = .ok (.iload_n 1, 1) := by decide +kernel
theorem dX7_needs_2 : decode cX7_needs 2 = .ok (.invokevirtual 122, 3) := by decide +kernel
theorem dX7_needs_5 : decode cX7_needs 5 = .ok (.ifCond .ne 5, 3) := by decide +kernel
theorem dX7_needs_8 : decode cX7_needs 8 = .ok (.iconst (-1), 1) := by decide +kernel
theorem dX7_needs_9 : decode cX7_needs 9 = .ok (.ireturn, 1) := by decide +kernel
theorem dX7_needs_10 : decode cX7_needs 10 = .ok (.iconst 0, 1) := by decide +kernel
theorem dX7_needs_11 : decode cX7_needs 11 = .ok (.istore_n 2, 1) := by decide +kernel
theorem dX7_needs_12 : decode cX7_needs 12 = .ok (.iload_n 2, 1) := by decide +kernel
theorem dX7_needs_13 : decode cX7_needs 13 = .ok (.sipush 300, 3) := by decide +kernel
theorem dX7_needs_16 : decode cX7_needs 16 = .ok (.if_icmp .gt 41, 3) := by decide +kernel
theorem dX7_needs_19 : decode cX7_needs 19 = .ok (.aload_n 0, 1) := by decide +kernel
theorem dX7_needs_20 : decode cX7_needs 20 = .ok (.invokevirtual 177, 3) := by decide +kernel
theorem dX7_needs_23 : decode cX7_needs 23 = .ok (.aload_n 0, 1) := by decide +kernel
theorem dX7_needs_24 : decode cX7_needs 24 = .ok (.getfield 50, 3) := by decide +kernel
theorem dX7_needs_27 : decode cX7_needs 27 = .ok (.iconst 5, 1) := by decide +kernel
theorem dX7_needs_28 : decode cX7_needs 28 = .ok (.iload_n 1, 1) := by decide +kernel
theorem dX7_needs_29 : decode cX7_needs 29 = .ok (.imul, 1) := by decide +kernel
theorem dX7_needs_30 : decode cX7_needs 30 = .ok (.iconst 4, 1) := by decide +kernel
theorem dX7_needs_31 : decode cX7_needs 31 = .ok (.iadd, 1) := by decide +kernel
theorem dX7_needs_32 : decode cX7_needs 32 = .ok (.dup2, 1) := by decide +kernel
theorem dX7_needs_33 : decode cX7_needs 33 = .ok (.iaload, 1) := by decide +kernel
theorem dX7_needs_34 : decode cX7_needs 34 = .ok (.iload_n 2, 1) := by decide +kernel
theorem dX7_needs_35 : decode cX7_needs 35 = .ok (.iadd, 1) := by decide +kernel
theorem dX7_needs_36 : decode cX7_needs 36 = .ok (.iastore, 1) := by decide +kernel
theorem dX7_needs_37 : decode cX7_needs 37 = .ok (.aload_n 0, 1) := by decide +kernel
theorem dX7_needs_38 : decode cX7_needs 38 = .ok (.invokevirtual 180, 3) := by decide +kernel
theorem dX7_needs_41 : decode cX7_needs 41 = .ok (.aload_n 0, 1) := by decide +kernel
theorem dX7_needs_42 : decode cX7_needs 42 = .ok (.iload_n 1, 1) := by decide +kernel
theorem dX7_needs_43 : decode cX7_needs 43 = .ok (.invokevirtual 189, 3) := by decide +kernel
theorem dX7_needs_46 : decode cX7_needs 46 = .ok (.ifCond .eq 5, 3) := by decide +kernel
theorem dX7_needs_49 : decode cX7_needs 49 = .ok (.iload_n 2, 1) := by decide +kernel
theorem dX7_needs_50 : decode cX7_needs 50 = .ok (.ireturn, 1) := by decide +kernel
theorem dX7_needs_51 : decode cX7_needs 51 = .ok (.iinc 2 1, 3) := by decide +kernel
theorem dX7_needs_54 : decode cX7_needs 54 = .ok (.goto (-42), 3) := by decide +kernel
theorem dX7_needs_57 : decode cX7_needs 57 = .ok (.bipush (-4), 2) := by decide +kernel
theorem dX7_needs_59 : decode cX7_needs 59 = .ok (.ireturn, 1) := by decide +kernel
theorem dX7_mend_0 : decode cX7_mend 0 = .ok (.iload_n 1, 1) := by decide +kernel
theorem dX7_mend_1 : decode cX7_mend 1 = .ok (.iconst 0, 1) := by decide +kernel
theorem dX7_mend_2 : decode cX7_mend 2 = .ok (.iconst 1, 1) := by decide +kernel
theorem dX7_mend_3 : decode cX7_mend 3 = .ok (.invokestatic 76, 3) := by decide +kernel
theorem dX7_mend_6 : decode cX7_mend 6 = .ok (.ifCond .ne 5, 3) := by decide +kernel
theorem dX7_mend_9 : decode cX7_mend 9 = .ok (.iconst (-1), 1) := by decide +kernel
theorem dX7_mend_10 : decode cX7_mend 10 = .ok (.ireturn, 1) := by decide +kernel
theorem dX7_mend_11 : decode cX7_mend 11 = .ok (.bipush (-4), 2) := by decide +kernel
theorem dX7_mend_13 : decode cX7_mend 13 = .ok (.istore_n 2, 1) := by decide +kernel
theorem dX7_mend_14 : decode cX7_mend 14 = .ok (.bipush (-4), 2) := by decide +kernel
theorem dX7_mend_16 : decode cX7_mend 16 = .ok (.istore_n 3, 1) := by decide +kernel
theorem dX7_mend_17 : decode cX7_mend 17 = .ok (.iconst 0, 1) := by decide +kernel
theorem dX7_mend_18 : decode cX7_mend 18 = .ok (.istore 4, 2) := by decide +kernel
theorem dX7_mend_20 : decode cX7_mend 20 = .ok (.iload 4, 2) := by decide +kernel
theorem dX7_mend_22 : decode cX7_mend 22 = .ok (.aload_n 0, 1) := by decide +kernel
theorem dX7_mend_23 : decode cX7_mend 23 = .ok (.getfield 29, 3) := by decide +kernel
theorem dX7_mend_26 : decode cX7_mend 26 = .ok (.if_icmp .ge 52, 3) := by decide +kernel
theorem dX7_mend_29 : decode cX7_mend 29 = .ok (.aload_n 0, 1) := by decide +kernel
theorem dX7_mend_30 : decode cX7_mend 30 = .ok (.iconst (-1), 1) := by decide +kernel
theorem dX7_mend_31 : decode cX7_mend 31 = .ok (.iload 4, 2) := by decide +kernel
theorem dX7_mend_33 : decode cX7_mend 33 = .ok (.invokevirtual 186, 3) := by decide +kernel
theorem dX7_mend_36 : decode cX7_mend 36 = .ok (.aload_n 0, 1) := by decide +kernel
theorem dX7_mend_37 : decode cX7_mend 37 = .ok (.invokevirtual 180, 3) := by decide +kernel
theorem dX7_mend_40 : decode cX7_mend 40 = .ok (.aload_n 0, 1) := by decide +kernel
theorem dX7_mend_41 : decode cX7_mend 41 = .ok (.invokevirtual 192, 3) := by decide +kernel
theorem dX7_mend_44 : decode cX7_mend 44 = .ok (.istore 5, 2) := by decide +kernel
theorem dX7_mend_46 : decode cX7_mend 46 = .ok (.iload 5, 2) := by decide +kernel
theorem dX7_mend_48 : decode cX7_mend 48 = .ok (.iload_n 3, 1) := by decide +kernel
theorem dX7_mend_49 : decode cX7_mend 49 = .ok (.if_icmp .le 8, 3) := by decide +kernel
theorem dX7_mend_52 : decode cX7_mend 52 = .ok (.iload 4, 2) := by decide +kernel
theorem dX7_mend_54 : decode cX7_mend 54 = .ok (.goto 4, 3) := by decide +kernel
theorem dX7_mend_57 : decode cX7_mend 57 = .ok (.iload_n 2, 1) := by decide +kernel
theorem dX7_mend_58 : decode cX7_mend 58 = .ok (.istore_n 2, 1) := by decide +kernel
theorem dX7_mend_59 : decode cX7_mend 59 = .ok (.iload 5, 2) := by decide +kernel
theorem dX7_mend_61 : decode cX7_mend 61 = .ok (.iload_n 3, 1) := by decide +kernel
theorem dX7_mend_62 : decode cX7_mend 62 = .ok (.if_icmp .le 8, 3) := by decide +kernel
theorem dX7_mend_65 : decode cX7_mend 65 = .ok (.iload 5, 2) := by decide +kernel
theorem dX7_mend_67 : decode cX7_mend 67 = .ok (.goto 4, 3) := by decide +kernel
theorem dX7_mend_70 : decode cX7_mend 70 = .ok (.iload_n 3, 1) := by decide +kernel
theorem dX7_mend_71 : decode cX7_mend 71 = .ok (.istore_n 3, 1) := by decide +kernel
theorem dX7_mend_72 : decode cX7_mend 72 = .ok (.iinc 4 1, 3) := by decide +kernel
theorem dX7_mend_75 : decode cX7_mend 75 = .ok (.goto (-55), 3) := by decide +kernel
theorem dX7_mend_78 : decode cX7_mend 78 = .ok (.iload_n 1, 1) := by decide +kernel
theorem dX7_mend_79 : decode cX7_mend 79 = .ok (.ifCond .ne 7, 3) := by decide +kernel
theorem dX7_mend_82 : decode cX7_mend 82 = .ok (.iload_n 2, 1) := by decide +kernel
theorem dX7_mend_83 : decode cX7_mend 83 = .ok (.goto 4, 3) := by decide +kernel
theorem dX7_mend_86 : decode cX7_mend 86 = .ok (.iload_n 3, 1) := by decide +kernel
theorem dX7_mend_87 : decode cX7_mend 87 = .ok (.ireturn, 1) := by decide +kernel
theorem dX7_limits_0 : decode cX7_limits 0 = .ok (.iload_n 1, 1) := by decide +kernel
theorem dX7_limits_1 : decode cX7_limits 1 = .ok (.bipush 20, 2) := by decide +kernel
theorem dX7_limits_3 : decode cX7_limits 3 = .ok (.bipush 99, 2) := by decide +kernel
theorem dX7_limits_5 : decode cX7_limits 5 = .ok (.invokestatic 76, 3) := by decide +kernel
theorem dX7_limits_8 : decode cX7_limits 8 = .ok (.ifCond .ne 5, 3) := by decide +kernel
theorem dX7_limits_11 : decode cX7_limits 11 = .ok (.iconst (-1), 1) := by decide +kernel
theorem dX7_limits_12 : decode cX7_limits 12 = .ok (.ireturn, 1) := by decide +kernel
theorem dX7_limits_13 : decode cX7_limits 13 = .ok (.aload_n 0, 1) := by decide +kernel
theorem dX7_limits_14 : decode cX7_limits 14 = .ok (.invokevirtual 177, 3) := by decide +kernel
theorem dX7_limits_17 : decode cX7_limits 17 = .ok (.iconst 0, 1) := by decide +kernel
theorem dX7_limits_18 : decode cX7_limits 18 = .ok (.istore_n 2, 1) := by decide +kernel
theorem dX7_limits_19 : decode cX7_limits 19 = .ok (.iload_n 2, 1) := by decide +kernel
theorem dX7_limits_20 : decode cX7_limits 20 = .ok (.aload_n 0, 1) := by decide +kernel
theorem dX7_limits_21 : decode cX7_limits 21 = .ok (.getfield 22, 3) := by decide +kernel
theorem dX7_limits_24 : decode cX7_limits 24 = .ok (.if_icmp .ge 20, 3) := by decide +kernel
theorem dX7_limits_27 : decode cX7_limits 27 = .ok (.aload_n 0, 1) := by decide +kernel
theorem dX7_limits_28 : decode cX7_limits 28 = .ok (.getfield 50, 3) := by decide +kernel
theorem dX7_limits_31 : decode cX7_limits 31 = .ok (.iconst 5, 1) := by decide +kernel
theorem dX7_limits_32 : decode cX7_limits 32 = .ok (.iload_n 2, 1) := by decide +kernel
theorem dX7_limits_33 : decode cX7_limits 33 = .ok (.imul, 1) := by decide +kernel
theorem dX7_limits_34 : decode cX7_limits 34 = .ok (.iconst 2, 1) := by decide +kernel
theorem dX7_limits_35 : decode cX7_limits 35 = .ok (.iadd, 1) := by decide +kernel
theorem dX7_limits_36 : decode cX7_limits 36 = .ok (.iload_n 1, 1) := by decide +kernel
theorem dX7_limits_37 : decode cX7_limits 37 = .ok (.iastore, 1) := by decide +kernel
theorem dX7_limits_38 : decode cX7_limits 38 = .ok (.iinc 2 1, 3) := by decide +kernel
theorem dX7_limits_41 : decode cX7_limits 41 = .ok (.goto (-22), 3) := by decide +kernel
theorem dX7_limits_44 : decode cX7_limits 44 = .ok (.aload_n 0, 1) := by decide +kernel
theorem dX7_limits_45 : decode cX7_limits 45 = .ok (.invokevirtual 180, 3) := by decide +kernel
theorem dX7_limits_48 : decode cX7_limits 48 = .ok (.aload_n 0, 1) := by decide +kernel
theorem dX7_limits_49 : decode cX7_limits 49 = .ok (.invokevirtual 192, 3) := by decide +kernel
theorem dX7_limits_52 : decode cX7_limits 52 = .ok (.ireturn, 1) := by decide +kernel
theorem dX7_ring_0 : decode cX7_ring 0 = .ok (.aload_n 0, 1) := by decide +kernel
theorem dX7_ring_1 : decode cX7_ring 1 = .ok (.iload_n 1, 1) := by decide +kernel
theorem dX7_ring_2 : decode cX7_ring 2 = .ok (.invokevirtual 122, 3) := by decide +kernel
theorem dX7_ring_5 : decode cX7_ring 5 = .ok (.ifCond .ne 5, 3) := by decide +kernel
theorem dX7_ring_8 : decode cX7_ring 8 = .ok (.iconst (-1), 1) := by decide +kernel
theorem dX7_ring_9 : decode cX7_ring 9 = .ok (.ireturn, 1) := by decide +kernel
theorem dX7_ring_10 : decode cX7_ring 10 = .ok (.iconst 1, 1) := by decide +kernel
theorem dX7_ring_11 : decode cX7_ring 11 = .ok (.iload_n 1, 1) := by decide +kernel
theorem dX7_ring_12 : decode cX7_ring 12 = .ok (.ishl, 1) := by decide +kernel
theorem dX7_ring_13 : decode cX7_ring 13 = .ok (.istore_n 2, 1) := by decide +kernel
theorem dX7_ring_14 : decode cX7_ring 14 = .ok (.iconst 1, 1) := by decide +kernel
theorem dX7_ring_15 : decode cX7_ring 15 = .ok (.istore_n 3, 1) := by decide +kernel
theorem dX7_ring_16 : decode cX7_ring 16 = .ok (.iload_n 3, 1) := by decide +kernel
theorem dX7_ring_17 : decode cX7_ring 17 = .ok (.aload_n 0, 1) := by decide +kernel
theorem dX7_ring_18 : decode cX7_ring 18 = .ok (.getfield 22, 3) := by decide +kernel
theorem dX7_ring_21 : decode cX7_ring 21 = .ok (.if_icmp .gt 84, 3) := by decide +kernel
theorem dX7_ring_24 : decode cX7_ring 24 = .ok (.iconst 0, 1) := by decide +kernel
theorem dX7_ring_25 : decode cX7_ring 25 = .ok (.istore 4, 2) := by decide +kernel
theorem dX7_ring_27 : decode cX7_ring 27 = .ok (.iconst 0, 1) := by decide +kernel
theorem dX7_ring_28 : decode cX7_ring 28 = .ok (.istore 5, 2) := by decide +kernel
theorem dX7_ring_30 : decode cX7_ring 30 = .ok (.iload 5, 2) := by decide +kernel
theorem dX7_ring_32 : decode cX7_ring 32 = .ok (.aload_n 0, 1) := by decide +kernel
theorem dX7_ring_33 : decode cX7_ring 33 = .ok (.getfield 29, 3) := by decide +kernel
theorem dX7_ring_36 : decode cX7_ring 36 = .ok (.if_icmp .ge 48, 3) := by decide +kernel
theorem dX7_ring_39 : decode cX7_ring 39 = .ok (.iload 4, 2) := by decide +kernel
theorem dX7_ring_41 : decode cX7_ring 41 = .ok (.iload_n 2, 1) := by decide +kernel
theorem dX7_ring_42 : decode cX7_ring 42 = .ok (.aload_n 0, 1) := by decide +kernel
theorem dX7_ring_43 : decode cX7_ring 43 = .ok (.getfield 35, 3) := by decide +kernel
theorem dX7_ring_46 : decode cX7_ring 46 = .ok (.iconst 3, 1) := by decide +kernel
theorem dX7_ring_47 : decode cX7_ring 47 = .ok (.iload 5, 2) := by decide +kernel
theorem dX7_ring_49 : decode cX7_ring 49 = .ok (.imul, 1) := by decide +kernel
theorem dX7_ring_50 : decode cX7_ring 50 = .ok (.iaload, 1) := by decide +kernel
theorem dX7_ring_51 : decode cX7_ring 51 = .ok (.ishr, 1) := by decide +kernel
theorem dX7_ring_52 : decode cX7_ring 52 = .ok (.iconst 1, 1) := by decide +kernel
theorem dX7_ring_53 : decode cX7_ring 53 = .ok (.iand, 1) := by decide +kernel
theorem dX7_ring_54 : decode cX7_ring 54 = .ok (.iconst 1, 1) := by decide +kernel
theorem dX7_ring_55 : decode cX7_ring 55 = .ok (.if_icmp .ne 19, 3) := by decide +kernel
theorem dX7_ring_58 : decode cX7_ring 58 = .ok (.iconst 1, 1) := by decide +kernel
theorem dX7_ring_59 : decode cX7_ring 59 = .ok (.aload_n 0, 1) := by decide +kernel
theorem dX7_ring_60 : decode cX7_ring 60 = .ok (.getfield 35, 3) := by decide +kernel
theorem dX7_ring_63 : decode cX7_ring 63 = .ok (.iconst 3, 1) := by decide +kernel
theorem dX7_ring_64 : decode cX7_ring 64 = .ok (.iload 5, 2) := by decide +kernel
theorem dX7_ring_66 : decode cX7_ring 66 = .ok (.imul, 1) := by decide +kernel
theorem dX7_ring_67 : decode cX7_ring 67 = .ok (.iconst 1, 1) := by decide +kernel
theorem dX7_ring_68 : decode cX7_ring 68 = .ok (.iadd, 1) := by decide +kernel
theorem dX7_ring_69 : decode cX7_ring 69 = .ok (.iaload, 1) := by decide +kernel
theorem dX7_ring_70 : decode cX7_ring 70 = .ok (.ishl, 1) := by decide +kernel
theorem dX7_ring_71 : decode cX7_ring 71 = .ok (.goto 4, 3) := by decide +kernel
theorem dX7_ring_74 : decode cX7_ring 74 = .ok (.iconst 0, 1) := by decide +kernel
theorem dX7_ring_75 : decode cX7_ring 75 = .ok (.ior, 1) := by decide +kernel
theorem dX7_ring_76 : decode cX7_ring 76 = .ok (.istore 4, 2) := by decide +kernel
theorem dX7_ring_78 : decode cX7_ring 78 = .ok (.iinc 5 1, 3) := by decide +kernel
theorem dX7_ring_81 : decode cX7_ring 81 = .ok (.goto (-51), 3) := by decide +kernel
theorem dX7_ring_84 : decode cX7_ring 84 = .ok (.iload 4, 2) := by decide +kernel
theorem dX7_ring_86 : decode cX7_ring 86 = .ok (.iload_n 1, 1) := by decide +kernel
theorem dX7_ring_87 : decode cX7_ring 87 = .ok (.ishr, 1) := by decide +kernel
theorem dX7_ring_88 : decode cX7_ring 88 = .ok (.iconst 1, 1) := by decide +kernel
theorem dX7_ring_89 : decode cX7_ring 89 = .ok (.iand, 1) := by decide +kernel
theorem dX7_ring_90 : decode cX7_ring 90 = .ok (.iconst 1, 1) := by decide +kernel
theorem dX7_ring_91 : decode cX7_ring 91 = .ok (.if_icmp .ne 5, 3) := by decide +kernel
theorem dX7_ring_94 : decode cX7_ring 94 = .ok (.iload_n 3, 1) := by decide +kernel
theorem dX7_ring_95 : decode cX7_ring 95 = .ok (.ireturn, 1) := by decide +kernel
theorem dX7_ring_96 : decode cX7_ring 96 = .ok (.iload 4, 2) := by decide +kernel
theorem dX7_ring_98 : decode cX7_ring 98 = .ok (.istore_n 2, 1) := by decide +kernel
theorem dX7_ring_99 : decode cX7_ring 99 = .ok (.iinc 3 1, 3) := by decide +kernel
theorem dX7_ring_102 : decode cX7_ring 102 = .ok (.goto (-86), 3) := by decide +kernel
theorem dX7_ring_105 : decode cX7_ring 105 = .ok (.bipush (-4), 2) := by decide +kernel
theorem dX7_ring_107 : decode cX7_ring 107 = .ok (.ireturn, 1) := by decide +kernel
theorem dX7_owes_0 : decode cX7_owes 0 = .ok (.aload_n 0, 1) := by decide +kernel
theorem dX7_owes_1 : decode cX7_owes 1 = .ok (.iload_n 1, 1) := by decide +kernel
theorem dX7_owes_2 : decode cX7_owes 2 = .ok (.invokevirtual 122, 3) := by decide +kernel
theorem dX7_owes_5 : decode cX7_owes 5 = .ok (.ifCond .ne 5, 3) := by decide +kernel
theorem dX7_owes_8 : decode cX7_owes 8 = .ok (.iconst (-1), 1) := by decide +kernel
theorem dX7_owes_9 : decode cX7_owes 9 = .ok (.ireturn, 1) := by decide +kernel
theorem dX7_owes_10 : decode cX7_owes 10 = .ok (.sipush 1000, 3) := by decide +kernel
theorem dX7_owes_13 : decode cX7_owes 13 = .ok (.istore_n 2, 1) := by decide +kernel
theorem dX7_owes_14 : decode cX7_owes 14 = .ok (.iconst 0, 1) := by decide +kernel
theorem dX7_owes_15 : decode cX7_owes 15 = .ok (.istore_n 3, 1) := by decide +kernel
theorem dX7_owes_16 : decode cX7_owes 16 = .ok (.iload_n 3, 1) := by decide +kernel
theorem dX7_owes_17 : decode cX7_owes 17 = .ok (.aload_n 0, 1) := by decide +kernel
theorem dX7_owes_18 : decode cX7_owes 18 = .ok (.getfield 29, 3) := by decide +kernel
theorem dX7_owes_21 : decode cX7_owes 21 = .ok (.if_icmp .ge 69, 3) := by decide +kernel
theorem dX7_owes_24 : decode cX7_owes 24 = .ok (.iload_n 2, 1) := by decide +kernel
theorem dX7_owes_25 : decode cX7_owes 25 = .ok (.aload_n 0, 1) := by decide +kernel
theorem dX7_owes_26 : decode cX7_owes 26 = .ok (.getfield 35, 3) := by decide +kernel
theorem dX7_owes_29 : decode cX7_owes 29 = .ok (.iconst 3, 1) := by decide +kernel
theorem dX7_owes_30 : decode cX7_owes 30 = .ok (.iload_n 3, 1) := by decide +kernel
theorem dX7_owes_31 : decode cX7_owes 31 = .ok (.imul, 1) := by decide +kernel
theorem dX7_owes_32 : decode cX7_owes 32 = .ok (.iaload, 1) := by decide +kernel
theorem dX7_owes_33 : decode cX7_owes 33 = .ok (.iload_n 1, 1) := by decide +kernel
theorem dX7_owes_34 : decode cX7_owes 34 = .ok (.if_icmp .ne 16, 3) := by decide +kernel
theorem dX7_owes_37 : decode cX7_owes 37 = .ok (.aload_n 0, 1) := by decide +kernel
theorem dX7_owes_38 : decode cX7_owes 38 = .ok (.getfield 35, 3) := by decide +kernel
theorem dX7_owes_41 : decode cX7_owes 41 = .ok (.iconst 3, 1) := by decide +kernel
theorem dX7_owes_42 : decode cX7_owes 42 = .ok (.iload_n 3, 1) := by decide +kernel
theorem dX7_owes_43 : decode cX7_owes 43 = .ok (.imul, 1) := by decide +kernel
theorem dX7_owes_44 : decode cX7_owes 44 = .ok (.iconst 2, 1) := by decide +kernel
theorem dX7_owes_45 : decode cX7_owes 45 = .ok (.iadd, 1) := by decide +kernel
theorem dX7_owes_46 : decode cX7_owes 46 = .ok (.iaload, 1) := by decide +kernel
theorem dX7_owes_47 : decode cX7_owes 47 = .ok (.goto 4, 3) := by decide +kernel
theorem dX7_owes_50 : decode cX7_owes 50 = .ok (.iconst 0, 1) := by decide +kernel
theorem dX7_owes_51 : decode cX7_owes 51 = .ok (.iadd, 1) := by decide +kernel
theorem dX7_owes_52 : decode cX7_owes 52 = .ok (.istore_n 2, 1) := by decide +kernel
theorem dX7_owes_53 : decode cX7_owes 53 = .ok (.iload_n 2, 1) := by decide +kernel
theorem dX7_owes_54 : decode cX7_owes 54 = .ok (.aload_n 0, 1) := by decide +kernel
theorem dX7_owes_55 : decode cX7_owes 55 = .ok (.getfield 35, 3) := by decide +kernel
theorem dX7_owes_58 : decode cX7_owes 58 = .ok (.iconst 3, 1) := by decide +kernel
theorem dX7_owes_59 : decode cX7_owes 59 = .ok (.iload_n 3, 1) := by decide +kernel
theorem dX7_owes_60 : decode cX7_owes 60 = .ok (.imul, 1) := by decide +kernel
theorem dX7_owes_61 : decode cX7_owes 61 = .ok (.iconst 1, 1) := by decide +kernel
theorem dX7_owes_62 : decode cX7_owes 62 = .ok (.iadd, 1) := by decide +kernel
theorem dX7_owes_63 : decode cX7_owes 63 = .ok (.iaload, 1) := by decide +kernel
theorem dX7_owes_64 : decode cX7_owes 64 = .ok (.iload_n 1, 1) := by decide +kernel
theorem dX7_owes_65 : decode cX7_owes 65 = .ok (.if_icmp .ne 16, 3) := by decide +kernel
theorem dX7_owes_68 : decode cX7_owes 68 = .ok (.aload_n 0, 1) := by decide +kernel
theorem dX7_owes_69 : decode cX7_owes 69 = .ok (.getfield 35, 3) := by decide +kernel
theorem dX7_owes_72 : decode cX7_owes 72 = .ok (.iconst 3, 1) := by decide +kernel
theorem dX7_owes_73 : decode cX7_owes 73 = .ok (.iload_n 3, 1) := by decide +kernel
theorem dX7_owes_74 : decode cX7_owes 74 = .ok (.imul, 1) := by decide +kernel
theorem dX7_owes_75 : decode cX7_owes 75 = .ok (.iconst 2, 1) := by decide +kernel
theorem dX7_owes_76 : decode cX7_owes 76 = .ok (.iadd, 1) := by decide +kernel
theorem dX7_owes_77 : decode cX7_owes 77 = .ok (.iaload, 1) := by decide +kernel
theorem dX7_owes_78 : decode cX7_owes 78 = .ok (.goto 4, 3) := by decide +kernel
theorem dX7_owes_81 : decode cX7_owes 81 = .ok (.iconst 0, 1) := by decide +kernel
theorem dX7_owes_82 : decode cX7_owes 82 = .ok (.isub, 1) := by decide +kernel
theorem dX7_owes_83 : decode cX7_owes 83 = .ok (.istore_n 2, 1) := by decide +kernel
theorem dX7_owes_84 : decode cX7_owes 84 = .ok (.iinc 3 1, 3) := by decide +kernel
theorem dX7_owes_87 : decode cX7_owes 87 = .ok (.goto (-71), 3) := by decide +kernel
theorem dX7_owes_90 : decode cX7_owes 90 = .ok (.iload_n 2, 1) := by decide +kernel
theorem dX7_owes_91 : decode cX7_owes 91 = .ok (.ireturn, 1) := by decide +kernel
theorem dX7_seen_0 : decode cX7_seen 0 = .ok (.aload_n 0, 1) := by decide +kernel
theorem dX7_seen_1 : decode cX7_seen 1 = .ok (.iload_n 1, 1) := by decide +kernel
theorem dX7_seen_2 : decode cX7_seen 2 = .ok (.invokevirtual 122, 3) := by decide +kernel
theorem dX7_seen_5 : decode cX7_seen 5 = .ok (.ifCond .eq 25, 3) := by decide +kernel
theorem dX7_seen_8 : decode cX7_seen 8 = .ok (.iload_n 2, 1) := by decide +kernel
theorem dX7_seen_9 : decode cX7_seen 9 = .ok (.iconst 0, 1) := by decide +kernel
theorem dX7_seen_10 : decode cX7_seen 10 = .ok (.sipush 150, 3) := by decide +kernel
theorem dX7_seen_13 : decode cX7_seen 13 = .ok (.invokestatic 76, 3) := by decide +kernel
theorem dX7_seen_16 : decode cX7_seen 16 = .ok (.ifCond .eq 14, 3) := by decide +kernel
theorem dX7_seen_19 : decode cX7_seen 19 = .ok (.iload_n 3, 1) := by decide +kernel
theorem dX7_seen_20 : decode cX7_seen 20 = .ok (.iconst 0, 1) := by decide +kernel
theorem dX7_seen_21 : decode cX7_seen 21 = .ok (.sipush 999, 3) := by decide +kernel
theorem dX7_seen_24 : decode cX7_seen 24 = .ok (.invokestatic 76, 3) := by decide +kernel
theorem dX7_seen_27 : decode cX7_seen 27 = .ok (.ifCond .ne 5, 3) := by decide +kernel
theorem dX7_seen_30 : decode cX7_seen 30 = .ok (.iconst (-1), 1) := by decide +kernel
theorem dX7_seen_31 : decode cX7_seen 31 = .ok (.ireturn, 1) := by decide +kernel
theorem dX7_seen_32 : decode cX7_seen 32 = .ok (.aload_n 0, 1) := by decide +kernel
theorem dX7_seen_33 : decode cX7_seen 33 = .ok (.getfield 113, 3) := by decide +kernel
theorem dX7_seen_36 : decode cX7_seen 36 = .ok (.bipush 8, 2) := by decide +kernel
theorem dX7_seen_38 : decode cX7_seen 38 = .ok (.if_icmp .ne 6, 3) := by decide +kernel
theorem dX7_seen_41 : decode cX7_seen 41 = .ok (.bipush (-3), 2) := by decide +kernel
theorem dX7_seen_43 : decode cX7_seen 43 = .ok (.ireturn, 1) := by decide +kernel
theorem dX7_seen_44 : decode cX7_seen 44 = .ok (.aload_n 0, 1) := by decide +kernel
theorem dX7_seen_45 : decode cX7_seen 45 = .ok (.getfield 44, 3) := by decide +kernel
theorem dX7_seen_48 : decode cX7_seen 48 = .ok (.iconst 3, 1) := by decide +kernel
theorem dX7_seen_49 : decode cX7_seen 49 = .ok (.aload_n 0, 1) := by decide +kernel
theorem dX7_seen_50 : decode cX7_seen 50 = .ok (.getfield 113, 3) := by decide +kernel
theorem dX7_seen_53 : decode cX7_seen 53 = .ok (.imul, 1) := by decide +kernel
theorem dX7_seen_54 : decode cX7_seen 54 = .ok (.iload_n 1, 1) := by decide +kernel
theorem dX7_seen_55 : decode cX7_seen 55 = .ok (.iastore, 1) := by decide +kernel
theorem dX7_seen_56 : decode cX7_seen 56 = .ok (.aload_n 0, 1) := by decide +kernel
theorem dX7_seen_57 : decode cX7_seen 57 = .ok (.getfield 44, 3) := by decide +kernel
theorem dX7_seen_60 : decode cX7_seen 60 = .ok (.iconst 3, 1) := by decide +kernel
theorem dX7_seen_61 : decode cX7_seen 61 = .ok (.aload_n 0, 1) := by decide +kernel
theorem dX7_seen_62 : decode cX7_seen 62 = .ok (.getfield 113, 3) := by decide +kernel
theorem dX7_seen_65 : decode cX7_seen 65 = .ok (.imul, 1) := by decide +kernel
theorem dX7_seen_66 : decode cX7_seen 66 = .ok (.iconst 1, 1) := by decide +kernel
theorem dX7_seen_67 : decode cX7_seen 67 = .ok (.iadd, 1) := by decide +kernel
theorem dX7_seen_68 : decode cX7_seen 68 = .ok (.iload_n 2, 1) := by decide +kernel
theorem dX7_seen_69 : decode cX7_seen 69 = .ok (.iastore, 1) := by decide +kernel
theorem dX7_seen_70 : decode cX7_seen 70 = .ok (.aload_n 0, 1) := by decide +kernel
theorem dX7_seen_71 : decode cX7_seen 71 = .ok (.getfield 44, 3) := by decide +kernel
theorem dX7_seen_74 : decode cX7_seen 74 = .ok (.iconst 3, 1) := by decide +kernel
theorem dX7_seen_75 : decode cX7_seen 75 = .ok (.aload_n 0, 1) := by decide +kernel
theorem dX7_seen_76 : decode cX7_seen 76 = .ok (.getfield 113, 3) := by decide +kernel
theorem dX7_seen_79 : decode cX7_seen 79 = .ok (.imul, 1) := by decide +kernel
theorem dX7_seen_80 : decode cX7_seen 80 = .ok (.iconst 2, 1) := by decide +kernel
theorem dX7_seen_81 : decode cX7_seen 81 = .ok (.iadd, 1) := by decide +kernel
theorem dX7_seen_82 : decode cX7_seen 82 = .ok (.iload_n 3, 1) := by decide +kernel
theorem dX7_seen_83 : decode cX7_seen 83 = .ok (.iastore, 1) := by decide +kernel
theorem dX7_seen_84 : decode cX7_seen 84 = .ok (.aload_n 0, 1) := by decide +kernel
theorem dX7_seen_85 : decode cX7_seen 85 = .ok (.dup, 1) := by decide +kernel
theorem dX7_seen_86 : decode cX7_seen 86 = .ok (.getfield 113, 3) := by decide +kernel
theorem dX7_seen_89 : decode cX7_seen 89 = .ok (.iconst 1, 1) := by decide +kernel
theorem dX7_seen_90 : decode cX7_seen 90 = .ok (.iadd, 1) := by decide +kernel
theorem dX7_seen_91 : decode cX7_seen 91 = .ok (.putfield 113, 3) := by decide +kernel
theorem dX7_seen_94 : decode cX7_seen 94 = .ok (.aload_n 0, 1) := by decide +kernel
theorem dX7_seen_95 : decode cX7_seen 95 = .ok (.getfield 113, 3) := by decide +kernel
theorem dX7_seen_98 : decode cX7_seen 98 = .ok (.ireturn, 1) := by decide +kernel
theorem dX7_forget_0 : decode cX7_forget 0 = .ok (.aload_n 0, 1) := by decide +kernel
theorem dX7_forget_1 : decode cX7_forget 1 = .ok (.getfield 113, 3) := by decide +kernel
theorem dX7_forget_4 : decode cX7_forget 4 = .ok (.istore_n 1, 1) := by decide +kernel
theorem dX7_forget_5 : decode cX7_forget 5 = .ok (.aload_n 0, 1) := by decide +kernel
theorem dX7_forget_6 : decode cX7_forget 6 = .ok (.iconst 0, 1) := by decide +kernel
theorem dX7_forget_7 : decode cX7_forget 7 = .ok (.putfield 113, 3) := by decide +kernel
theorem dX7_forget_10 : decode cX7_forget 10 = .ok (.iload_n 1, 1) := by decide +kernel
theorem dX7_forget_11 : decode cX7_forget 11 = .ok (.ireturn, 1) := by decide +kernel
theorem dX7_kinds_0 : decode cX7_kinds 0 = .ok (.aload_n 0, 1) := by decide +kernel
theorem dX7_kinds_1 : decode cX7_kinds 1 = .ok (.iload_n 1, 1) := by decide +kernel
theorem dX7_kinds_2 : decode cX7_kinds 2 = .ok (.invokevirtual 122, 3) := by decide +kernel
theorem dX7_kinds_5 : decode cX7_kinds 5 = .ok (.ifCond .ne 5, 3) := by decide +kernel
theorem dX7_kinds_8 : decode cX7_kinds 8 = .ok (.iconst (-1), 1) := by decide +kernel
theorem dX7_kinds_9 : decode cX7_kinds 9 = .ok (.ireturn, 1) := by decide +kernel
theorem dX7_kinds_10 : decode cX7_kinds 10 = .ok (.iconst 0, 1) := by decide +kernel
theorem dX7_kinds_11 : decode cX7_kinds 11 = .ok (.istore_n 2, 1) := by decide +kernel
theorem dX7_kinds_12 : decode cX7_kinds 12 = .ok (.iconst 0, 1) := by decide +kernel
theorem dX7_kinds_13 : decode cX7_kinds 13 = .ok (.istore_n 3, 1) := by decide +kernel
theorem dX7_kinds_14 : decode cX7_kinds 14 = .ok (.iload_n 3, 1) := by decide +kernel
theorem dX7_kinds_15 : decode cX7_kinds 15 = .ok (.iconst 4, 1) := by decide +kernel
theorem dX7_kinds_16 : decode cX7_kinds 16 = .ok (.if_icmp .ge 124, 3) := by decide +kernel
theorem dX7_kinds_19 : decode cX7_kinds 19 = .ok (.aload_n 0, 1) := by decide +kernel
theorem dX7_kinds_20 : decode cX7_kinds 20 = .ok (.invokevirtual 177, 3) := by decide +kernel
theorem dX7_kinds_23 : decode cX7_kinds 23 = .ok (.aload_n 0, 1) := by decide +kernel
theorem dX7_kinds_24 : decode cX7_kinds 24 = .ok (.getfield 50, 3) := by decide +kernel
theorem dX7_kinds_27 : decode cX7_kinds 27 = .ok (.iconst 5, 1) := by decide +kernel
theorem dX7_kinds_28 : decode cX7_kinds 28 = .ok (.iload_n 1, 1) := by decide +kernel
theorem dX7_kinds_29 : decode cX7_kinds 29 = .ok (.imul, 1) := by decide +kernel
theorem dX7_kinds_30 : decode cX7_kinds 30 = .ok (.iconst 3, 1) := by decide +kernel
theorem dX7_kinds_31 : decode cX7_kinds 31 = .ok (.iadd, 1) := by decide +kernel
theorem dX7_kinds_32 : decode cX7_kinds 32 = .ok (.iload_n 3, 1) := by decide +kernel
theorem dX7_kinds_33 : decode cX7_kinds 33 = .ok (.iastore, 1) := by decide +kernel
theorem dX7_kinds_34 : decode cX7_kinds 34 = .ok (.aload_n 0, 1) := by decide +kernel
theorem dX7_kinds_35 : decode cX7_kinds 35 = .ok (.invokevirtual 180, 3) := by decide +kernel
theorem dX7_kinds_38 : decode cX7_kinds 38 = .ok (.iconst 1, 1) := by decide +kernel
theorem dX7_kinds_39 : decode cX7_kinds 39 = .ok (.istore 4, 2) := by decide +kernel
theorem dX7_kinds_41 : decode cX7_kinds 41 = .ok (.iconst 0, 1) := by decide +kernel
theorem dX7_kinds_42 : decode cX7_kinds 42 = .ok (.istore 5, 2) := by decide +kernel
theorem dX7_kinds_44 : decode cX7_kinds 44 = .ok (.iload 5, 2) := by decide +kernel
theorem dX7_kinds_46 : decode cX7_kinds 46 = .ok (.aload_n 0, 1) := by decide +kernel
theorem dX7_kinds_47 : decode cX7_kinds 47 = .ok (.getfield 113, 3) := by decide +kernel
theorem dX7_kinds_50 : decode cX7_kinds 50 = .ok (.if_icmp .ge 69, 3) := by decide +kernel
theorem dX7_kinds_53 : decode cX7_kinds 53 = .ok (.iload 4, 2) := by decide +kernel
theorem dX7_kinds_55 : decode cX7_kinds 55 = .ok (.ifCond .eq 55, 3) := by decide +kernel
theorem dX7_kinds_58 : decode cX7_kinds 58 = .ok (.aload_n 0, 1) := by decide +kernel
theorem dX7_kinds_59 : decode cX7_kinds 59 = .ok (.getfield 44, 3) := by decide +kernel
theorem dX7_kinds_62 : decode cX7_kinds 62 = .ok (.iconst 3, 1) := by decide +kernel
theorem dX7_kinds_63 : decode cX7_kinds 63 = .ok (.iload 5, 2) := by decide +kernel
theorem dX7_kinds_65 : decode cX7_kinds 65 = .ok (.imul, 1) := by decide +kernel
theorem dX7_kinds_66 : decode cX7_kinds 66 = .ok (.iaload, 1) := by decide +kernel
theorem dX7_kinds_67 : decode cX7_kinds 67 = .ok (.iload_n 1, 1) := by decide +kernel
theorem dX7_kinds_68 : decode cX7_kinds 68 = .ok (.if_icmp .ne 38, 3) := by decide +kernel
theorem dX7_kinds_71 : decode cX7_kinds 71 = .ok (.aload_n 0, 1) := by decide +kernel
theorem dX7_kinds_72 : decode cX7_kinds 72 = .ok (.getfield 65, 3) := by decide +kernel
theorem dX7_kinds_75 : decode cX7_kinds 75 = .ok (.bipush 6, 2) := by decide +kernel
theorem dX7_kinds_77 : decode cX7_kinds 77 = .ok (.aload_n 0, 1) := by decide +kernel
theorem dX7_kinds_78 : decode cX7_kinds 78 = .ok (.getfield 44, 3) := by decide +kernel
theorem dX7_kinds_81 : decode cX7_kinds 81 = .ok (.iconst 3, 1) := by decide +kernel
theorem dX7_kinds_82 : decode cX7_kinds 82 = .ok (.iload 5, 2) := by decide +kernel
theorem dX7_kinds_84 : decode cX7_kinds 84 = .ok (.imul, 1) := by decide +kernel
theorem dX7_kinds_85 : decode cX7_kinds 85 = .ok (.iconst 1, 1) := by decide +kernel
theorem dX7_kinds_86 : decode cX7_kinds 86 = .ok (.iadd, 1) := by decide +kernel
theorem dX7_kinds_87 : decode cX7_kinds 87 = .ok (.iaload, 1) := by decide +kernel
theorem dX7_kinds_88 : decode cX7_kinds 88 = .ok (.imul, 1) := by decide +kernel
theorem dX7_kinds_89 : decode cX7_kinds 89 = .ok (.iload_n 1, 1) := by decide +kernel
theorem dX7_kinds_90 : decode cX7_kinds 90 = .ok (.iadd, 1) := by decide +kernel
theorem dX7_kinds_91 : decode cX7_kinds 91 = .ok (.iaload, 1) := by decide +kernel
theorem dX7_kinds_92 : decode cX7_kinds 92 = .ok (.aload_n 0, 1) := by decide +kernel
theorem dX7_kinds_93 : decode cX7_kinds 93 = .ok (.getfield 44, 3) := by decide +kernel
theorem dX7_kinds_96 : decode cX7_kinds 96 = .ok (.iconst 3, 1) := by decide +kernel
theorem dX7_kinds_97 : decode cX7_kinds 97 = .ok (.iload 5, 2) := by decide +kernel
theorem dX7_kinds_99 : decode cX7_kinds 99 = .ok (.imul, 1) := by decide +kernel
theorem dX7_kinds_100 : decode cX7_kinds 100 = .ok (.iconst 2, 1) := by decide +kernel
theorem dX7_kinds_101 : decode cX7_kinds 101 = .ok (.iadd, 1) := by decide +kernel
theorem dX7_kinds_102 : decode cX7_kinds 102 = .ok (.iaload, 1) := by decide +kernel
theorem dX7_kinds_103 : decode cX7_kinds 103 = .ok (.if_icmp .ne 7, 3) := by decide +kernel
theorem dX7_kinds_106 : decode cX7_kinds 106 = .ok (.iconst 1, 1) := by decide +kernel
theorem dX7_kinds_107 : decode cX7_kinds 107 = .ok (.goto 4, 3) := by decide +kernel
theorem dX7_kinds_110 : decode cX7_kinds 110 = .ok (.iconst 0, 1) := by decide +kernel
theorem dX7_kinds_111 : decode cX7_kinds 111 = .ok (.istore 4, 2) := by decide +kernel
theorem dX7_kinds_113 : decode cX7_kinds 113 = .ok (.iinc 5 1, 3) := by decide +kernel
theorem dX7_kinds_116 : decode cX7_kinds 116 = .ok (.goto (-72), 3) := by decide +kernel
theorem dX7_kinds_119 : decode cX7_kinds 119 = .ok (.iload_n 2, 1) := by decide +kernel
theorem dX7_kinds_120 : decode cX7_kinds 120 = .ok (.iload 4, 2) := by decide +kernel
theorem dX7_kinds_122 : decode cX7_kinds 122 = .ok (.ifCond .eq 9, 3) := by decide +kernel
theorem dX7_kinds_125 : decode cX7_kinds 125 = .ok (.iconst 1, 1) := by decide +kernel
theorem dX7_kinds_126 : decode cX7_kinds 126 = .ok (.iload_n 3, 1) := by decide +kernel
theorem dX7_kinds_127 : decode cX7_kinds 127 = .ok (.ishl, 1) := by decide +kernel
theorem dX7_kinds_128 : decode cX7_kinds 128 = .ok (.goto 4, 3) := by decide +kernel
theorem dX7_kinds_131 : decode cX7_kinds 131 = .ok (.iconst 0, 1) := by decide +kernel
theorem dX7_kinds_132 : decode cX7_kinds 132 = .ok (.ior, 1) := by decide +kernel
theorem dX7_kinds_133 : decode cX7_kinds 133 = .ok (.istore_n 2, 1) := by decide +kernel
theorem dX7_kinds_134 : decode cX7_kinds 134 = .ok (.iinc 3 1, 3) := by decide +kernel
theorem dX7_kinds_137 : decode cX7_kinds 137 = .ok (.goto (-123), 3) := by decide +kernel
theorem dX7_kinds_140 : decode cX7_kinds 140 = .ok (.iload_n 2, 1) := by decide +kernel
theorem dX7_kinds_141 : decode cX7_kinds 141 = .ok (.ireturn, 1) := by decide +kernel
theorem dX7_odds_0 : decode cX7_odds 0 = .ok (.aload_n 0, 1) := by decide +kernel
theorem dX7_odds_1 : decode cX7_odds 1 = .ok (.iload_n 1, 1) := by decide +kernel
theorem dX7_odds_2 : decode cX7_odds 2 = .ok (.invokevirtual 122, 3) := by decide +kernel
theorem dX7_odds_5 : decode cX7_odds 5 = .ok (.ifCond .eq 34, 3) := by decide +kernel
theorem dX7_odds_8 : decode cX7_odds 8 = .ok (.iload_n 2, 1) := by decide +kernel
theorem dX7_odds_9 : decode cX7_odds 9 = .ok (.iconst 0, 1) := by decide +kernel
theorem dX7_odds_10 : decode cX7_odds 10 = .ok (.bipush 10, 2) := by decide +kernel
theorem dX7_odds_12 : decode cX7_odds 12 = .ok (.invokestatic 76, 3) := by decide +kernel
theorem dX7_odds_15 : decode cX7_odds 15 = .ok (.ifCond .eq 24, 3) := by decide +kernel
theorem dX7_odds_18 : decode cX7_odds 18 = .ok (.iload_n 3, 1) := by decide +kernel
theorem dX7_odds_19 : decode cX7_odds 19 = .ok (.iconst 0, 1) := by decide +kernel
theorem dX7_odds_20 : decode cX7_odds 20 = .ok (.sipush 200, 3) := by decide +kernel
theorem dX7_odds_23 : decode cX7_odds 23 = .ok (.invokestatic 76, 3) := by decide +kernel
theorem dX7_odds_26 : decode cX7_odds 26 = .ok (.ifCond .eq 13, 3) := by decide +kernel
theorem dX7_odds_29 : decode cX7_odds 29 = .ok (.iload 4, 2) := by decide +kernel
theorem dX7_odds_31 : decode cX7_odds 31 = .ok (.iconst 0, 1) := by decide +kernel
theorem dX7_odds_32 : decode cX7_odds 32 = .ok (.iconst 1, 1) := by decide +kernel
theorem dX7_odds_33 : decode cX7_odds 33 = .ok (.invokestatic 76, 3) := by decide +kernel
theorem dX7_odds_36 : decode cX7_odds 36 = .ok (.ifCond .ne 5, 3) := by decide +kernel
theorem dX7_odds_39 : decode cX7_odds 39 = .ok (.iconst (-1), 1) := by decide +kernel
theorem dX7_odds_40 : decode cX7_odds 40 = .ok (.ireturn, 1) := by decide +kernel
theorem dX7_odds_41 : decode cX7_odds 41 = .ok (.iconst 0, 1) := by decide +kernel
theorem dX7_odds_42 : decode cX7_odds 42 = .ok (.istore 5, 2) := by decide +kernel
theorem dX7_odds_44 : decode cX7_odds 44 = .ok (.iconst 0, 1) := by decide +kernel
theorem dX7_odds_45 : decode cX7_odds 45 = .ok (.istore 6, 2) := by decide +kernel
theorem dX7_odds_47 : decode cX7_odds 47 = .ok (.iload 6, 2) := by decide +kernel
theorem dX7_odds_49 : decode cX7_odds 49 = .ok (.iconst 1, 1) := by decide +kernel
theorem dX7_odds_50 : decode cX7_odds 50 = .ok (.iload_n 2, 1) := by decide +kernel
theorem dX7_odds_51 : decode cX7_odds 51 = .ok (.ishl, 1) := by decide +kernel
theorem dX7_odds_52 : decode cX7_odds 52 = .ok (.if_icmp .ge 68, 3) := by decide +kernel
theorem dX7_odds_55 : decode cX7_odds 55 = .ok (.iconst 0, 1) := by decide +kernel
theorem dX7_odds_56 : decode cX7_odds 56 = .ok (.istore 7, 2) := by decide +kernel
theorem dX7_odds_58 : decode cX7_odds 58 = .ok (.iconst 0, 1) := by decide +kernel
theorem dX7_odds_59 : decode cX7_odds 59 = .ok (.istore 8, 2) := by decide +kernel
theorem dX7_odds_61 : decode cX7_odds 61 = .ok (.iload 8, 2) := by decide +kernel
theorem dX7_odds_63 : decode cX7_odds 63 = .ok (.iload_n 2, 1) := by decide +kernel
theorem dX7_odds_64 : decode cX7_odds 64 = .ok (.if_icmp .ge 34, 3) := by decide +kernel
theorem dX7_odds_67 : decode cX7_odds 67 = .ok (.iload 7, 2) := by decide +kernel
theorem dX7_odds_69 : decode cX7_odds 69 = .ok (.iload 6, 2) := by decide +kernel
theorem dX7_odds_71 : decode cX7_odds 71 = .ok (.iload 8, 2) := by decide +kernel
theorem dX7_odds_73 : decode cX7_odds 73 = .ok (.ishr, 1) := by decide +kernel
theorem dX7_odds_74 : decode cX7_odds 74 = .ok (.iconst 1, 1) := by decide +kernel
theorem dX7_odds_75 : decode cX7_odds 75 = .ok (.iand, 1) := by decide +kernel
theorem dX7_odds_76 : decode cX7_odds 76 = .ok (.iconst 2, 1) := by decide +kernel
theorem dX7_odds_77 : decode cX7_odds 77 = .ok (.imul, 1) := by decide +kernel
theorem dX7_odds_78 : decode cX7_odds 78 = .ok (.aload_n 0, 1) := by decide +kernel
theorem dX7_odds_79 : decode cX7_odds 79 = .ok (.getfield 26, 3) := by decide +kernel
theorem dX7_odds_82 : decode cX7_odds 82 = .ok (.iconst 5, 1) := by decide +kernel
theorem dX7_odds_83 : decode cX7_odds 83 = .ok (.iload_n 1, 1) := by decide +kernel
theorem dX7_odds_84 : decode cX7_odds 84 = .ok (.imul, 1) := by decide +kernel
theorem dX7_odds_85 : decode cX7_odds 85 = .ok (.iconst 1, 1) := by decide +kernel
theorem dX7_odds_86 : decode cX7_odds 86 = .ok (.iadd, 1) := by decide +kernel
theorem dX7_odds_87 : decode cX7_odds 87 = .ok (.iaload, 1) := by decide +kernel
theorem dX7_odds_88 : decode cX7_odds 88 = .ok (.imul, 1) := by decide +kernel
theorem dX7_odds_89 : decode cX7_odds 89 = .ok (.iadd, 1) := by decide +kernel
theorem dX7_odds_90 : decode cX7_odds 90 = .ok (.istore 7, 2) := by decide +kernel
theorem dX7_odds_92 : decode cX7_odds 92 = .ok (.iinc 8 1, 3) := by decide +kernel
theorem dX7_odds_95 : decode cX7_odds 95 = .ok (.goto (-34), 3) := by decide +kernel
theorem dX7_odds_98 : decode cX7_odds 98 = .ok (.iload 5, 2) := by decide +kernel
theorem dX7_odds_100 : decode cX7_odds 100 = .ok (.iload 7, 2) := by decide +kernel
theorem dX7_odds_102 : decode cX7_odds 102 = .ok (.iload_n 3, 1) := by decide +kernel
theorem dX7_odds_103 : decode cX7_odds 103 = .ok (.if_icmp .lt 7, 3) := by decide +kernel
theorem dX7_odds_106 : decode cX7_odds 106 = .ok (.iconst 1, 1) := by decide +kernel
theorem dX7_odds_107 : decode cX7_odds 107 = .ok (.goto 4, 3) := by decide +kernel
theorem dX7_odds_110 : decode cX7_odds 110 = .ok (.iconst 0, 1) := by decide +kernel
theorem dX7_odds_111 : decode cX7_odds 111 = .ok (.iadd, 1) := by decide +kernel
theorem dX7_odds_112 : decode cX7_odds 112 = .ok (.istore 5, 2) := by decide +kernel
theorem dX7_odds_114 : decode cX7_odds 114 = .ok (.iinc 6 1, 3) := by decide +kernel
theorem dX7_odds_117 : decode cX7_odds 117 = .ok (.goto (-70), 3) := by decide +kernel
theorem dX7_odds_120 : decode cX7_odds 120 = .ok (.iconst 1, 1) := by decide +kernel
theorem dX7_odds_121 : decode cX7_odds 121 = .ok (.iload_n 2, 1) := by decide +kernel
theorem dX7_odds_122 : decode cX7_odds 122 = .ok (.ishl, 1) := by decide +kernel
theorem dX7_odds_123 : decode cX7_odds 123 = .ok (.istore 6, 2) := by decide +kernel
theorem dX7_odds_125 : decode cX7_odds 125 = .ok (.iload 6, 2) := by decide +kernel
theorem dX7_odds_127 : decode cX7_odds 127 = .ok (.iconst 1, 1) := by decide +kernel
theorem dX7_odds_128 : decode cX7_odds 128 = .ok (.if_icmp .le 25, 3) := by decide +kernel
theorem dX7_odds_131 : decode cX7_odds 131 = .ok (.iload 5, 2) := by decide +kernel
theorem dX7_odds_133 : decode cX7_odds 133 = .ok (.iconst 2, 1) := by decide +kernel
theorem dX7_odds_134 : decode cX7_odds 134 = .ok (.irem, 1) := by decide +kernel
theorem dX7_odds_135 : decode cX7_odds 135 = .ok (.ifCond .ne 18, 3) := by decide +kernel
theorem dX7_odds_138 : decode cX7_odds 138 = .ok (.iload 5, 2) := by decide +kernel
theorem dX7_odds_140 : decode cX7_odds 140 = .ok (.iconst 2, 1) := by decide +kernel
theorem dX7_odds_141 : decode cX7_odds 141 = .ok (.idiv, 1) := by decide +kernel
theorem dX7_odds_142 : decode cX7_odds 142 = .ok (.istore 5, 2) := by decide +kernel
theorem dX7_odds_144 : decode cX7_odds 144 = .ok (.iload 6, 2) := by decide +kernel
theorem dX7_odds_146 : decode cX7_odds 146 = .ok (.iconst 2, 1) := by decide +kernel
theorem dX7_odds_147 : decode cX7_odds 147 = .ok (.idiv, 1) := by decide +kernel
theorem dX7_odds_148 : decode cX7_odds 148 = .ok (.istore 6, 2) := by decide +kernel
theorem dX7_odds_150 : decode cX7_odds 150 = .ok (.goto (-25), 3) := by decide +kernel
theorem dX7_odds_153 : decode cX7_odds 153 = .ok (.iload 4, 2) := by decide +kernel
theorem dX7_odds_155 : decode cX7_odds 155 = .ok (.ifCond .ne 8, 3) := by decide +kernel
theorem dX7_odds_158 : decode cX7_odds 158 = .ok (.iload 5, 2) := by decide +kernel
theorem dX7_odds_160 : decode cX7_odds 160 = .ok (.goto 5, 3) := by decide +kernel
theorem dX7_odds_163 : decode cX7_odds 163 = .ok (.iload 6, 2) := by decide +kernel
theorem dX7_odds_165 : decode cX7_odds 165 = .ok (.ireturn, 1) := by decide +kernel
theorem dX7_generations_0 : decode cX7_generations 0 = .ok (.iload_n 1, 1) := by decide +kernel
theorem dX7_generations_1 : decode cX7_generations 1 = .ok (.iconst 0, 1) := by decide +kernel
theorem dX7_generations_2 : decode cX7_generations 2 = .ok (.bipush 99, 2) := by decide +kernel
theorem dX7_generations_4 : decode cX7_generations 4 = .ok (.invokestatic 76, 3) := by decide +kernel
theorem dX7_generations_7 : decode cX7_generations 7 = .ok (.ifCond .eq 12, 3) := by decide +kernel
theorem dX7_generations_10 : decode cX7_generations 10 = .ok (.iload_n 2, 1) := by decide +kernel
theorem dX7_generations_11 : decode cX7_generations 11 = .ok (.iconst 0, 1) := by decide +kernel
theorem dX7_generations_12 : decode cX7_generations 12 = .ok (.iconst 1, 1) := by decide +kernel
theorem dX7_generations_13 : decode cX7_generations 13 = .ok (.invokestatic 76, 3) := by decide +kernel
theorem dX7_generations_16 : decode cX7_generations 16 = .ok (.ifCond .ne 5, 3) := by decide +kernel
theorem dX7_generations_19 : decode cX7_generations 19 = .ok (.iconst (-1), 1) := by decide +kernel
theorem dX7_generations_20 : decode cX7_generations 20 = .ok (.ireturn, 1) := by decide +kernel
theorem dX7_generations_21 : decode cX7_generations 21 = .ok (.aload_n 0, 1) := by decide +kernel
theorem dX7_generations_22 : decode cX7_generations 22 = .ok (.invokevirtual 177, 3) := by decide +kernel
theorem dX7_generations_25 : decode cX7_generations 25 = .ok (.aload_n 0, 1) := by decide +kernel
theorem dX7_generations_26 : decode cX7_generations 26 = .ok (.iload_n 1, 1) := by decide +kernel
theorem dX7_generations_27 : decode cX7_generations 27 = .ok (.putfield 141, 3) := by decide +kernel
theorem dX7_generations_30 : decode cX7_generations 30 = .ok (.aload_n 0, 1) := by decide +kernel
theorem dX7_generations_31 : decode cX7_generations 31 = .ok (.invokevirtual 180, 3) := by decide +kernel
theorem dX7_generations_34 : decode cX7_generations 34 = .ok (.iconst 0, 1) := by decide +kernel
theorem dX7_generations_35 : decode cX7_generations 35 = .ok (.istore_n 3, 1) := by decide +kernel
theorem dX7_generations_36 : decode cX7_generations 36 = .ok (.iconst 0, 1) := by decide +kernel
theorem dX7_generations_37 : decode cX7_generations 37 = .ok (.istore 4, 2) := by decide +kernel
theorem dX7_generations_39 : decode cX7_generations 39 = .ok (.iload 4, 2) := by decide +kernel
theorem dX7_generations_41 : decode cX7_generations 41 = .ok (.aload_n 0, 1) := by decide +kernel
theorem dX7_generations_42 : decode cX7_generations 42 = .ok (.getfield 22, 3) := by decide +kernel
theorem dX7_generations_45 : decode cX7_generations 45 = .ok (.if_icmp .ge 41, 3) := by decide +kernel
theorem dX7_generations_48 : decode cX7_generations 48 = .ok (.aload_n 0, 1) := by decide +kernel
theorem dX7_generations_49 : decode cX7_generations 49 = .ok (.iload 4, 2) := by decide +kernel
theorem dX7_generations_51 : decode cX7_generations 51 = .ok (.invokevirtual 189, 3) := by decide +kernel
theorem dX7_generations_54 : decode cX7_generations 54 = .ok (.ifCond .eq 24, 3) := by decide +kernel
theorem dX7_generations_57 : decode cX7_generations 57 = .ok (.aload_n 0, 1) := by decide +kernel
theorem dX7_generations_58 : decode cX7_generations 58 = .ok (.getfield 53, 3) := by decide +kernel
theorem dX7_generations_61 : decode cX7_generations 61 = .ok (.iload 4, 2) := by decide +kernel
theorem dX7_generations_63 : decode cX7_generations 63 = .ok (.iaload, 1) := by decide +kernel
theorem dX7_generations_64 : decode cX7_generations 64 = .ok (.iload_n 3, 1) := by decide +kernel
theorem dX7_generations_65 : decode cX7_generations 65 = .ok (.if_icmp .le 13, 3) := by decide +kernel
theorem dX7_generations_68 : decode cX7_generations 68 = .ok (.aload_n 0, 1) := by decide +kernel
theorem dX7_generations_69 : decode cX7_generations 69 = .ok (.getfield 53, 3) := by decide +kernel
theorem dX7_generations_72 : decode cX7_generations 72 = .ok (.iload 4, 2) := by decide +kernel
theorem dX7_generations_74 : decode cX7_generations 74 = .ok (.iaload, 1) := by decide +kernel
theorem dX7_generations_75 : decode cX7_generations 75 = .ok (.goto 4, 3) := by decide +kernel
theorem dX7_generations_78 : decode cX7_generations 78 = .ok (.iload_n 3, 1) := by decide +kernel
theorem dX7_generations_79 : decode cX7_generations 79 = .ok (.istore_n 3, 1) := by decide +kernel
theorem dX7_generations_80 : decode cX7_generations 80 = .ok (.iinc 4 1, 3) := by decide +kernel
theorem dX7_generations_83 : decode cX7_generations 83 = .ok (.goto (-44), 3) := by decide +kernel
theorem dX7_generations_86 : decode cX7_generations 86 = .ok (.iload_n 2, 1) := by decide +kernel
theorem dX7_generations_87 : decode cX7_generations 87 = .ok (.ifCond .ne 10, 3) := by decide +kernel
theorem dX7_generations_90 : decode cX7_generations 90 = .ok (.aload_n 0, 1) := by decide +kernel
theorem dX7_generations_91 : decode cX7_generations 91 = .ok (.invokevirtual 192, 3) := by decide +kernel
theorem dX7_generations_94 : decode cX7_generations 94 = .ok (.goto 4, 3) := by decide +kernel
theorem dX7_generations_97 : decode cX7_generations 97 = .ok (.iload_n 3, 1) := by decide +kernel
theorem dX7_generations_98 : decode cX7_generations 98 = .ok (.ireturn, 1) := by decide +kernel
theorem dX7_keep_0 : decode cX7_keep 0 = .ok (.aload_n 0, 1) := by decide +kernel
theorem dX7_keep_1 : decode cX7_keep 1 = .ok (.getfield 119, 3) := by decide +kernel
theorem dX7_keep_4 : decode cX7_keep 4 = .ok (.iconst 2, 1) := by decide +kernel
theorem dX7_keep_5 : decode cX7_keep 5 = .ok (.if_icmp .ne 6, 3) := by decide +kernel
theorem dX7_keep_8 : decode cX7_keep 8 = .ok (.bipush (-3), 2) := by decide +kernel
theorem dX7_keep_10 : decode cX7_keep 10 = .ok (.ireturn, 1) := by decide +kernel
theorem dX7_keep_11 : decode cX7_keep 11 = .ok (.aload_n 0, 1) := by decide +kernel
theorem dX7_keep_12 : decode cX7_keep 12 = .ok (.getfield 35, 3) := by decide +kernel
theorem dX7_keep_15 : decode cX7_keep 15 = .ok (.iconst 0, 1) := by decide +kernel
theorem dX7_keep_16 : decode cX7_keep 16 = .ok (.aload_n 0, 1) := by decide +kernel
theorem dX7_keep_17 : decode cX7_keep 17 = .ok (.getfield 41, 3) := by decide +kernel
theorem dX7_keep_20 : decode cX7_keep 20 = .ok (.bipush 40, 2) := by decide +kernel
theorem dX7_keep_22 : decode cX7_keep 22 = .ok (.aload_n 0, 1) := by decide +kernel
theorem dX7_keep_23 : decode cX7_keep 23 = .ok (.getfield 119, 3) := by decide +kernel
theorem dX7_keep_26 : decode cX7_keep 26 = .ok (.imul, 1) := by decide +kernel
theorem dX7_keep_27 : decode cX7_keep 27 = .ok (.invokestatic 131, 3) := by decide +kernel
theorem dX7_keep_30 : decode cX7_keep 30 = .ok (.aload_n 0, 1) := by decide +kernel
theorem dX7_keep_31 : decode cX7_keep 31 = .ok (.dup, 1) := by decide +kernel
theorem dX7_keep_32 : decode cX7_keep 32 = .ok (.getfield 119, 3) := by decide +kernel
theorem dX7_keep_35 : decode cX7_keep 35 = .ok (.iconst 1, 1) := by decide +kernel
theorem dX7_keep_36 : decode cX7_keep 36 = .ok (.iadd, 1) := by decide +kernel
theorem dX7_keep_37 : decode cX7_keep 37 = .ok (.putfield 119, 3) := by decide +kernel
theorem dX7_keep_40 : decode cX7_keep 40 = .ok (.aload_n 0, 1) := by decide +kernel
theorem dX7_keep_41 : decode cX7_keep 41 = .ok (.getfield 119, 3) := by decide +kernel
theorem dX7_keep_44 : decode cX7_keep 44 = .ok (.ireturn, 1) := by decide +kernel
theorem dX7_back_0 : decode cX7_back 0 = .ok (.aload_n 0, 1) := by decide +kernel
theorem dX7_back_1 : decode cX7_back 1 = .ok (.getfield 119, 3) := by decide +kernel
theorem dX7_back_4 : decode cX7_back 4 = .ok (.ifCond .ne 6, 3) := by decide +kernel
theorem dX7_back_7 : decode cX7_back 7 = .ok (.bipush (-2), 2) := by decide +kernel
theorem dX7_back_9 : decode cX7_back 9 = .ok (.ireturn, 1) := by decide +kernel
theorem dX7_back_10 : decode cX7_back 10 = .ok (.aload_n 0, 1) := by decide +kernel
theorem dX7_back_11 : decode cX7_back 11 = .ok (.dup, 1) := by decide +kernel
theorem dX7_back_12 : decode cX7_back 12 = .ok (.getfield 119, 3) := by decide +kernel
theorem dX7_back_15 : decode cX7_back 15 = .ok (.iconst 1, 1) := by decide +kernel
theorem dX7_back_16 : decode cX7_back 16 = .ok (.isub, 1) := by decide +kernel
theorem dX7_back_17 : decode cX7_back 17 = .ok (.putfield 119, 3) := by decide +kernel
theorem dX7_back_20 : decode cX7_back 20 = .ok (.aload_n 0, 1) := by decide +kernel
theorem dX7_back_21 : decode cX7_back 21 = .ok (.getfield 41, 3) := by decide +kernel
theorem dX7_back_24 : decode cX7_back 24 = .ok (.bipush 40, 2) := by decide +kernel
theorem dX7_back_26 : decode cX7_back 26 = .ok (.aload_n 0, 1) := by decide +kernel
theorem dX7_back_27 : decode cX7_back 27 = .ok (.getfield 119, 3) := by decide +kernel
theorem dX7_back_30 : decode cX7_back 30 = .ok (.imul, 1) := by decide +kernel
theorem dX7_back_31 : decode cX7_back 31 = .ok (.aload_n 0, 1) := by decide +kernel
theorem dX7_back_32 : decode cX7_back 32 = .ok (.getfield 35, 3) := by decide +kernel
theorem dX7_back_35 : decode cX7_back 35 = .ok (.iconst 0, 1) := by decide +kernel
theorem dX7_back_36 : decode cX7_back 36 = .ok (.invokestatic 131, 3) := by decide +kernel
theorem dX7_back_39 : decode cX7_back 39 = .ok (.aload_n 0, 1) := by decide +kernel
theorem dX7_back_40 : decode cX7_back 40 = .ok (.iconst 0, 1) := by decide +kernel
theorem dX7_back_41 : decode cX7_back 41 = .ok (.putfield 116, 3) := by decide +kernel
theorem dX7_back_44 : decode cX7_back 44 = .ok (.aload_n 0, 1) := by decide +kernel
theorem dX7_back_45 : decode cX7_back 45 = .ok (.getfield 119, 3) := by decide +kernel
theorem dX7_back_48 : decode cX7_back 48 = .ok (.ireturn, 1) := by decide +kernel
theorem dX7_count_0 : decode cX7_count 0 = .ok (.iload_n 1, 1) := by decide +kernel
theorem dX7_count_1 : decode cX7_count 1 = .ok (.tableswitch 81 0 6 #[43, 48, 53, 61, 66, 71, 76], 43) := by decide +kernel
theorem dX7_count_44 : decode cX7_count 44 = .ok (.aload_n 0, 1) := by decide +kernel
theorem dX7_count_45 : decode cX7_count 45 = .ok (.getfield 22, 3) := by decide +kernel
theorem dX7_count_48 : decode cX7_count 48 = .ok (.ireturn, 1) := by decide +kernel
theorem dX7_count_49 : decode cX7_count 49 = .ok (.aload_n 0, 1) := by decide +kernel
theorem dX7_count_50 : decode cX7_count 50 = .ok (.getfield 29, 3) := by decide +kernel
theorem dX7_count_53 : decode cX7_count 53 = .ok (.ireturn, 1) := by decide +kernel
theorem dX7_count_54 : decode cX7_count 54 = .ok (.aload_n 0, 1) := by decide +kernel
theorem dX7_count_55 : decode cX7_count 55 = .ok (.getfield 35, 3) := by decide +kernel
theorem dX7_count_58 : decode cX7_count 58 = .ok (.bipush 27, 2) := by decide +kernel
theorem dX7_count_60 : decode cX7_count 60 = .ok (.iaload, 1) := by decide +kernel
theorem dX7_count_61 : decode cX7_count 61 = .ok (.ireturn, 1) := by decide +kernel
theorem dX7_count_62 : decode cX7_count 62 = .ok (.aload_n 0, 1) := by decide +kernel
theorem dX7_count_63 : decode cX7_count 63 = .ok (.getfield 113, 3) := by decide +kernel
theorem dX7_count_66 : decode cX7_count 66 = .ok (.ireturn, 1) := by decide +kernel
theorem dX7_count_67 : decode cX7_count 67 = .ok (.aload_n 0, 1) := by decide +kernel
theorem dX7_count_68 : decode cX7_count 68 = .ok (.getfield 116, 3) := by decide +kernel
theorem dX7_count_71 : decode cX7_count 71 = .ok (.ireturn, 1) := by decide +kernel
theorem dX7_count_72 : decode cX7_count 72 = .ok (.aload_n 0, 1) := by decide +kernel
theorem dX7_count_73 : decode cX7_count 73 = .ok (.getfield 119, 3) := by decide +kernel
theorem dX7_count_76 : decode cX7_count 76 = .ok (.ireturn, 1) := by decide +kernel
theorem dX7_count_77 : decode cX7_count 77 = .ok (.aload_n 0, 1) := by decide +kernel
theorem dX7_count_78 : decode cX7_count 78 = .ok (.getfield 80, 3) := by decide +kernel
theorem dX7_count_81 : decode cX7_count 81 = .ok (.ireturn, 1) := by decide +kernel
theorem dX7_count_82 : decode cX7_count 82 = .ok (.iconst (-1), 1) := by decide +kernel
theorem dX7_count_83 : decode cX7_count 83 = .ok (.ireturn, 1) := by decide +kernel
theorem dJ6_bitCount_0f7a4_0 : decode cJ6_bitCount_0f7a4 0 = .ok (.iload_n 0, 1) := by decide +kernel
theorem dJ6_bitCount_0f7a4_1 : decode cJ6_bitCount_0f7a4 1 = .ok (.iload_n 0, 1) := by decide +kernel
theorem dJ6_bitCount_0f7a4_2 : decode cJ6_bitCount_0f7a4 2 = .ok (.iconst 1, 1) := by decide +kernel
theorem dJ6_bitCount_0f7a4_3 : decode cJ6_bitCount_0f7a4 3 = .ok (.iushr, 1) := by decide +kernel
theorem dJ6_bitCount_0f7a4_4 : decode cJ6_bitCount_0f7a4 4 = .ok (.ldc_w 265, 3) := by decide +kernel
theorem dJ6_bitCount_0f7a4_7 : decode cJ6_bitCount_0f7a4 7 = .ok (.iand, 1) := by decide +kernel
theorem dJ6_bitCount_0f7a4_8 : decode cJ6_bitCount_0f7a4 8 = .ok (.isub, 1) := by decide +kernel
theorem dJ6_bitCount_0f7a4_9 : decode cJ6_bitCount_0f7a4 9 = .ok (.istore_n 0, 1) := by decide +kernel
theorem dJ6_bitCount_0f7a4_10 : decode cJ6_bitCount_0f7a4 10 = .ok (.iload_n 0, 1) := by decide +kernel
theorem dJ6_bitCount_0f7a4_11 : decode cJ6_bitCount_0f7a4 11 = .ok (.ldc_w 266, 3) := by decide +kernel
theorem dJ6_bitCount_0f7a4_14 : decode cJ6_bitCount_0f7a4 14 = .ok (.iand, 1) := by decide +kernel
theorem dJ6_bitCount_0f7a4_15 : decode cJ6_bitCount_0f7a4 15 = .ok (.iload_n 0, 1) := by decide +kernel
theorem dJ6_bitCount_0f7a4_16 : decode cJ6_bitCount_0f7a4 16 = .ok (.iconst 2, 1) := by decide +kernel
theorem dJ6_bitCount_0f7a4_17 : decode cJ6_bitCount_0f7a4 17 = .ok (.iushr, 1) := by decide +kernel
theorem dJ6_bitCount_0f7a4_18 : decode cJ6_bitCount_0f7a4 18 = .ok (.ldc_w 266, 3) := by decide +kernel
theorem dJ6_bitCount_0f7a4_21 : decode cJ6_bitCount_0f7a4 21 = .ok (.iand, 1) := by decide +kernel
theorem dJ6_bitCount_0f7a4_22 : decode cJ6_bitCount_0f7a4 22 = .ok (.iadd, 1) := by decide +kernel
theorem dJ6_bitCount_0f7a4_23 : decode cJ6_bitCount_0f7a4 23 = .ok (.istore_n 0, 1) := by decide +kernel
theorem dJ6_bitCount_0f7a4_24 : decode cJ6_bitCount_0f7a4 24 = .ok (.iload_n 0, 1) := by decide +kernel
theorem dJ6_bitCount_0f7a4_25 : decode cJ6_bitCount_0f7a4 25 = .ok (.iload_n 0, 1) := by decide +kernel
theorem dJ6_bitCount_0f7a4_26 : decode cJ6_bitCount_0f7a4 26 = .ok (.iconst 4, 1) := by decide +kernel
theorem dJ6_bitCount_0f7a4_27 : decode cJ6_bitCount_0f7a4 27 = .ok (.iushr, 1) := by decide +kernel
theorem dJ6_bitCount_0f7a4_28 : decode cJ6_bitCount_0f7a4 28 = .ok (.iadd, 1) := by decide +kernel
theorem dJ6_bitCount_0f7a4_29 : decode cJ6_bitCount_0f7a4 29 = .ok (.ldc_w 267, 3) := by decide +kernel
theorem dJ6_bitCount_0f7a4_32 : decode cJ6_bitCount_0f7a4 32 = .ok (.iand, 1) := by decide +kernel
theorem dJ6_bitCount_0f7a4_33 : decode cJ6_bitCount_0f7a4 33 = .ok (.istore_n 0, 1) := by decide +kernel
theorem dJ6_bitCount_0f7a4_34 : decode cJ6_bitCount_0f7a4 34 = .ok (.iload_n 0, 1) := by decide +kernel
theorem dJ6_bitCount_0f7a4_35 : decode cJ6_bitCount_0f7a4 35 = .ok (.iload_n 0, 1) := by decide +kernel
theorem dJ6_bitCount_0f7a4_36 : decode cJ6_bitCount_0f7a4 36 = .ok (.bipush 8, 2) := by decide +kernel
theorem dJ6_bitCount_0f7a4_38 : decode cJ6_bitCount_0f7a4 38 = .ok (.iushr, 1) := by decide +kernel
theorem dJ6_bitCount_0f7a4_39 : decode cJ6_bitCount_0f7a4 39 = .ok (.iadd, 1) := by decide +kernel
theorem dJ6_bitCount_0f7a4_40 : decode cJ6_bitCount_0f7a4 40 = .ok (.istore_n 0, 1) := by decide +kernel
theorem dJ6_bitCount_0f7a4_41 : decode cJ6_bitCount_0f7a4 41 = .ok (.iload_n 0, 1) := by decide +kernel
theorem dJ6_bitCount_0f7a4_42 : decode cJ6_bitCount_0f7a4 42 = .ok (.iload_n 0, 1) := by decide +kernel
theorem dJ6_bitCount_0f7a4_43 : decode cJ6_bitCount_0f7a4 43 = .ok (.bipush 16, 2) := by decide +kernel
theorem dJ6_bitCount_0f7a4_45 : decode cJ6_bitCount_0f7a4 45 = .ok (.iushr, 1) := by decide +kernel
theorem dJ6_bitCount_0f7a4_46 : decode cJ6_bitCount_0f7a4 46 = .ok (.iadd, 1) := by decide +kernel
theorem dJ6_bitCount_0f7a4_47 : decode cJ6_bitCount_0f7a4 47 = .ok (.istore_n 0, 1) := by decide +kernel
theorem dJ6_bitCount_0f7a4_48 : decode cJ6_bitCount_0f7a4 48 = .ok (.iload_n 0, 1) := by decide +kernel
theorem dJ6_bitCount_0f7a4_49 : decode cJ6_bitCount_0f7a4 49 = .ok (.bipush 63, 2) := by decide +kernel
theorem dJ6_bitCount_0f7a4_51 : decode cJ6_bitCount_0f7a4 51 = .ok (.iand, 1) := by decide +kernel
theorem dJ6_bitCount_0f7a4_52 : decode cJ6_bitCount_0f7a4 52 = .ok (.ireturn, 1) := by decide +kernel
theorem dJ9_max_7cf53_0 : decode cJ9_max_7cf53 0 = .ok (.iload_n 0, 1) := by decide +kernel
theorem dJ9_max_7cf53_1 : decode cJ9_max_7cf53 1 = .ok (.iload_n 1, 1) := by decide +kernel
theorem dJ9_max_7cf53_2 : decode cJ9_max_7cf53 2 = .ok (.if_icmp .lt 7, 3) := by decide +kernel
theorem dJ9_max_7cf53_5 : decode cJ9_max_7cf53 5 = .ok (.iload_n 0, 1) := by decide +kernel
theorem dJ9_max_7cf53_6 : decode cJ9_max_7cf53 6 = .ok (.goto 4, 3) := by decide +kernel
theorem dJ9_max_7cf53_9 : decode cJ9_max_7cf53 9 = .ok (.iload_n 1, 1) := by decide +kernel
theorem dJ9_max_7cf53_10 : decode cJ9_max_7cf53 10 = .ok (.ireturn, 1) := by decide +kernel
theorem dJ9_min_7cf53_0 : decode cJ9_min_7cf53 0 = .ok (.iload_n 0, 1) := by decide +kernel
theorem dJ9_min_7cf53_1 : decode cJ9_min_7cf53 1 = .ok (.iload_n 1, 1) := by decide +kernel
theorem dJ9_min_7cf53_2 : decode cJ9_min_7cf53 2 = .ok (.if_icmp .gt 7, 3) := by decide +kernel
theorem dJ9_min_7cf53_5 : decode cJ9_min_7cf53 5 = .ok (.iload_n 0, 1) := by decide +kernel
theorem dJ9_min_7cf53_6 : decode cJ9_min_7cf53 6 = .ok (.goto 4, 3) := by decide +kernel
theorem dJ9_min_7cf53_9 : decode cJ9_min_7cf53 9 = .ok (.iload_n 1, 1) := by decide +kernel
theorem dJ9_min_7cf53_10 : decode cJ9_min_7cf53 10 = .ok (.ireturn, 1) := by decide +kernel
theorem dJ0_length_8abf5_0 : decode cJ0_length_8abf5 0 = .ok (.aload_n 0, 1) := by decide +kernel
theorem dJ0_length_8abf5_1 : decode cJ0_length_8abf5 1 = .ok (.getfield 9, 3) := by decide +kernel
theorem dJ0_length_8abf5_4 : decode cJ0_length_8abf5 4 = .ok (.arraylength, 1) := by decide +kernel
theorem dJ0_length_8abf5_5 : decode cJ0_length_8abf5 5 = .ok (.aload_n 0, 1) := by decide +kernel
theorem dJ0_length_8abf5_6 : decode cJ0_length_8abf5 6 = .ok (.invokevirtual 335, 3) := by decide +kernel
theorem dJ0_length_8abf5_9 : decode cJ0_length_8abf5 9 = .ok (.ishr, 1) := by decide +kernel
theorem dJ0_length_8abf5_10 : decode cJ0_length_8abf5 10 = .ok (.ireturn, 1) := by decide +kernel
theorem dJ0_charAt_5068e_0 : decode cJ0_charAt_5068e 0 = .ok (.aload_n 0, 1) := by decide +kernel
theorem dJ0_charAt_5068e_1 : decode cJ0_charAt_5068e 1 = .ok (.invokevirtual 492, 3) := by decide +kernel
theorem dJ0_charAt_5068e_4 : decode cJ0_charAt_5068e 4 = .ok (.ifCond .eq 12, 3) := by decide +kernel
theorem dJ0_charAt_5068e_7 : decode cJ0_charAt_5068e 7 = .ok (.aload_n 0, 1) := by decide +kernel
theorem dJ0_charAt_5068e_8 : decode cJ0_charAt_5068e 8 = .ok (.getfield 9, 3) := by decide +kernel
theorem dJ0_charAt_5068e_11 : decode cJ0_charAt_5068e 11 = .ok (.iload_n 1, 1) := by decide +kernel
theorem dJ0_charAt_5068e_12 : decode cJ0_charAt_5068e 12 = .ok (.invokestatic 495, 3) := by decide +kernel
theorem dJ0_charAt_5068e_15 : decode cJ0_charAt_5068e 15 = .ok (.ireturn, 1) := by decide +kernel
theorem dJ0_charAt_5068e_16 : decode cJ0_charAt_5068e 16 = .ok (.aload_n 0, 1) := by decide +kernel
theorem dJ0_charAt_5068e_17 : decode cJ0_charAt_5068e 17 = .ok (.getfield 9, 3) := by decide +kernel
theorem dJ0_charAt_5068e_20 : decode cJ0_charAt_5068e 20 = .ok (.iload_n 1, 1) := by decide +kernel
theorem dJ0_charAt_5068e_21 : decode cJ0_charAt_5068e 21 = .ok (.invokestatic 498, 3) := by decide +kernel
theorem dJ0_charAt_5068e_24 : decode cJ0_charAt_5068e 24 = .ok (.ireturn, 1) := by decide +kernel
theorem dJ0_coder_7d493_0 : decode cJ0_coder_7d493 0 = .ok (.getstatic 38, 3) := by decide +kernel
theorem dJ0_coder_7d493_3 : decode cJ0_coder_7d493 3 = .ok (.ifCond .eq 10, 3) := by decide +kernel
theorem dJ0_coder_7d493_6 : decode cJ0_coder_7d493 6 = .ok (.aload_n 0, 1) := by decide +kernel
theorem dJ0_coder_7d493_7 : decode cJ0_coder_7d493 7 = .ok (.getfield 15, 3) := by decide +kernel
theorem dJ0_coder_7d493_10 : decode cJ0_coder_7d493 10 = .ok (.goto 4, 3) := by decide +kernel
theorem dJ0_coder_7d493_13 : decode cJ0_coder_7d493 13 = .ok (.iconst 1, 1) := by decide +kernel
theorem dJ0_coder_7d493_14 : decode cJ0_coder_7d493 14 = .ok (.ireturn, 1) := by decide +kernel
theorem dJ0_isLatin1_aae02_0 : decode cJ0_isLatin1_aae02 0 = .ok (.getstatic 38, 3) := by decide +kernel
theorem dJ0_isLatin1_aae02_3 : decode cJ0_isLatin1_aae02 3 = .ok (.ifCond .eq 14, 3) := by decide +kernel
theorem dJ0_isLatin1_aae02_6 : decode cJ0_isLatin1_aae02 6 = .ok (.aload_n 0, 1) := by decide +kernel
theorem dJ0_isLatin1_aae02_7 : decode cJ0_isLatin1_aae02 7 = .ok (.getfield 15, 3) := by decide +kernel
theorem dJ0_isLatin1_aae02_10 : decode cJ0_isLatin1_aae02 10 = .ok (.ifCond .ne 7, 3) := by decide +kernel
theorem dJ0_isLatin1_aae02_13 : decode cJ0_isLatin1_aae02 13 = .ok (.iconst 1, 1) := by decide +kernel
theorem dJ0_isLatin1_aae02_14 : decode cJ0_isLatin1_aae02 14 = .ok (.goto 4, 3) := by decide +kernel
theorem dJ0_isLatin1_aae02_17 : decode cJ0_isLatin1_aae02 17 = .ok (.iconst 0, 1) := by decide +kernel
theorem dJ0_isLatin1_aae02_18 : decode cJ0_isLatin1_aae02 18 = .ok (.ireturn, 1) := by decide +kernel
theorem dJ0_checkIndex_df160_0 : decode cJ0_checkIndex_df160 0 = .ok (.iload_n 0, 1) := by decide +kernel
theorem dJ0_checkIndex_df160_1 : decode cJ0_checkIndex_df160 1 = .ok (.iload_n 1, 1) := by decide +kernel
theorem dJ0_checkIndex_df160_2 : decode cJ0_checkIndex_df160 2 = .ok (.getstatic 1053, 3) := by decide +kernel
theorem dJ0_checkIndex_df160_5 : decode cJ0_checkIndex_df160 5 = .ok (.invokestatic 1059, 3) := by decide +kernel
theorem dJ0_checkIndex_df160_8 : decode cJ0_checkIndex_df160 8 = .ok (.pop, 1) := by decide +kernel
theorem dJ0_checkIndex_df160_9 : decode cJ0_checkIndex_df160 9 = .ok (.return_, 1) := by decide +kernel
theorem dJ1_charAt_3b067_0 : decode cJ1_charAt_3b067 0 = .ok (.iload_n 1, 1) := by decide +kernel
theorem dJ1_charAt_3b067_1 : decode cJ1_charAt_3b067 1 = .ok (.aload_n 0, 1) := by decide +kernel
theorem dJ1_charAt_3b067_2 : decode cJ1_charAt_3b067 2 = .ok (.arraylength, 1) := by decide +kernel
theorem dJ1_charAt_3b067_3 : decode cJ1_charAt_3b067 3 = .ok (.invokestatic 9, 3) := by decide +kernel
theorem dJ1_charAt_3b067_6 : decode cJ1_charAt_3b067 6 = .ok (.aload_n 0, 1) := by decide +kernel
theorem dJ1_charAt_3b067_7 : decode cJ1_charAt_3b067 7 = .ok (.iload_n 1, 1) := by decide +kernel
theorem dJ1_charAt_3b067_8 : decode cJ1_charAt_3b067 8 = .ok (.baload, 1) := by decide +kernel
theorem dJ1_charAt_3b067_9 : decode cJ1_charAt_3b067 9 = .ok (.sipush 255, 3) := by decide +kernel
theorem dJ1_charAt_3b067_12 : decode cJ1_charAt_3b067 12 = .ok (.iand, 1) := by decide +kernel
theorem dJ1_charAt_3b067_13 : decode cJ1_charAt_3b067 13 = .ok (.i2c, 1) := by decide +kernel
theorem dJ1_charAt_3b067_14 : decode cJ1_charAt_3b067 14 = .ok (.ireturn, 1) := by decide +kernel
theorem dJ2_getChar_3b067_0 : decode cJ2_getChar_3b067 0 = .ok (.getstatic 44, 3) := by decide +kernel
theorem dJ2_getChar_3b067_3 : decode cJ2_getChar_3b067 3 = .ok (.ifCond .ne 25, 3) := by decide +kernel
theorem dJ2_getChar_3b067_6 : decode cJ2_getChar_3b067 6 = .ok (.iload_n 1, 1) := by decide +kernel
theorem dJ2_getChar_3b067_7 : decode cJ2_getChar_3b067 7 = .ok (.ifCond .lt 11, 3) := by decide +kernel
theorem dJ2_getChar_3b067_10 : decode cJ2_getChar_3b067 10 = .ok (.iload_n 1, 1) := by decide +kernel
theorem dJ2_getChar_3b067_11 : decode cJ2_getChar_3b067 11 = .ok (.aload_n 0, 1) := by decide +kernel
theorem dJ2_getChar_3b067_12 : decode cJ2_getChar_3b067 12 = .ok (.invokestatic 48, 3) := by decide +kernel
theorem dJ2_getChar_3b067_15 : decode cJ2_getChar_3b067 15 = .ok (.if_icmp .lt 13, 3) := by decide +kernel
theorem dJ2_getChar_3b067_18 : decode cJ2_getChar_3b067 18 = .ok (.new 52, 3) := by decide +kernel
theorem dJ2_getChar_3b067_21 : decode cJ2_getChar_3b067 21 = .ok (.dup, 1) := by decide +kernel
theorem dJ2_getChar_3b067_22 : decode cJ2_getChar_3b067 22 = .ok (.ldc 54, 2) := by decide +kernel
theorem dJ2_getChar_3b067_24 : decode cJ2_getChar_3b067 24 = .ok (.invokespecial 56, 3) := by decide +kernel
theorem dJ2_getChar_3b067_27 : decode cJ2_getChar_3b067 27 = .ok (.athrow, 1) := by decide +kernel
theorem dJ2_getChar_3b067_28 : decode cJ2_getChar_3b067 28 = .ok (.iload_n 1, 1) := by decide +kernel
theorem dJ2_getChar_3b067_29 : decode cJ2_getChar_3b067 29 = .ok (.iconst 1, 1) := by decide +kernel
theorem dJ2_getChar_3b067_30 : decode cJ2_getChar_3b067 30 = .ok (.ishl, 1) := by decide +kernel
theorem dJ2_getChar_3b067_31 : decode cJ2_getChar_3b067 31 = .ok (.istore_n 1, 1) := by decide +kernel
theorem dJ2_getChar_3b067_32 : decode cJ2_getChar_3b067 32 = .ok (.aload_n 0, 1) := by decide +kernel
theorem dJ2_getChar_3b067_33 : decode cJ2_getChar_3b067 33 = .ok (.iload_n 1, 1) := by decide +kernel
theorem dJ2_getChar_3b067_34 : decode cJ2_getChar_3b067 34 = .ok (.iinc 1 1, 3) := by decide +kernel
theorem dJ2_getChar_3b067_37 : decode cJ2_getChar_3b067 37 = .ok (.baload, 1) := by decide +kernel
theorem dJ2_getChar_3b067_38 : decode cJ2_getChar_3b067 38 = .ok (.sipush 255, 3) := by decide +kernel
theorem dJ2_getChar_3b067_41 : decode cJ2_getChar_3b067 41 = .ok (.iand, 1) := by decide +kernel
theorem dJ2_getChar_3b067_42 : decode cJ2_getChar_3b067 42 = .ok (.getstatic 59, 3) := by decide +kernel
theorem dJ2_getChar_3b067_45 : decode cJ2_getChar_3b067 45 = .ok (.ishl, 1) := by decide +kernel
theorem dJ2_getChar_3b067_46 : decode cJ2_getChar_3b067 46 = .ok (.aload_n 0, 1) := by decide +kernel
theorem dJ2_getChar_3b067_47 : decode cJ2_getChar_3b067 47 = .ok (.iload_n 1, 1) := by decide +kernel
theorem dJ2_getChar_3b067_48 : decode cJ2_getChar_3b067 48 = .ok (.baload, 1) := by decide +kernel
theorem dJ2_getChar_3b067_49 : decode cJ2_getChar_3b067 49 = .ok (.sipush 255, 3) := by decide +kernel
theorem dJ2_getChar_3b067_52 : decode cJ2_getChar_3b067 52 = .ok (.iand, 1) := by decide +kernel
theorem dJ2_getChar_3b067_53 : decode cJ2_getChar_3b067 53 = .ok (.getstatic 63, 3) := by decide +kernel
theorem dJ2_getChar_3b067_56 : decode cJ2_getChar_3b067 56 = .ok (.ishl, 1) := by decide +kernel
theorem dJ2_getChar_3b067_57 : decode cJ2_getChar_3b067 57 = .ok (.ior, 1) := by decide +kernel
theorem dJ2_getChar_3b067_58 : decode cJ2_getChar_3b067 58 = .ok (.i2c, 1) := by decide +kernel
theorem dJ2_getChar_3b067_59 : decode cJ2_getChar_3b067 59 = .ok (.ireturn, 1) := by decide +kernel
theorem dJ2_length_9d52b_0 : decode cJ2_length_9d52b 0 = .ok (.aload_n 0, 1) := by decide +kernel
theorem dJ2_length_9d52b_1 : decode cJ2_length_9d52b 1 = .ok (.arraylength, 1) := by decide +kernel
theorem dJ2_length_9d52b_2 : decode cJ2_length_9d52b 2 = .ok (.iconst 1, 1) := by decide +kernel
theorem dJ2_length_9d52b_3 : decode cJ2_length_9d52b 3 = .ok (.ishr, 1) := by decide +kernel
theorem dJ2_length_9d52b_4 : decode cJ2_length_9d52b 4 = .ok (.ireturn, 1) := by decide +kernel
theorem dJ2_charAt_3b067_0 : decode cJ2_charAt_3b067 0 = .ok (.iload_n 1, 1) := by decide +kernel
theorem dJ2_charAt_3b067_1 : decode cJ2_charAt_3b067 1 = .ok (.aload_n 0, 1) := by decide +kernel
theorem dJ2_charAt_3b067_2 : decode cJ2_charAt_3b067 2 = .ok (.invokestatic 67, 3) := by decide +kernel
theorem dJ2_charAt_3b067_5 : decode cJ2_charAt_3b067 5 = .ok (.aload_n 0, 1) := by decide +kernel
theorem dJ2_charAt_3b067_6 : decode cJ2_charAt_3b067 6 = .ok (.iload_n 1, 1) := by decide +kernel
theorem dJ2_charAt_3b067_7 : decode cJ2_charAt_3b067 7 = .ok (.invokestatic 71, 3) := by decide +kernel
theorem dJ2_charAt_3b067_10 : decode cJ2_charAt_3b067 10 = .ok (.ireturn, 1) := by decide +kernel
theorem dJ2_checkIndex_2214a_0 : decode cJ2_checkIndex_2214a 0 = .ok (.iload_n 0, 1) := by decide +kernel
theorem dJ2_checkIndex_2214a_1 : decode cJ2_checkIndex_2214a 1 = .ok (.aload_n 1, 1) := by decide +kernel
theorem dJ2_checkIndex_2214a_2 : decode cJ2_checkIndex_2214a 2 = .ok (.invokestatic 48, 3) := by decide +kernel
theorem dJ2_checkIndex_2214a_5 : decode cJ2_checkIndex_2214a 5 = .ok (.invokestatic 414, 3) := by decide +kernel
theorem dJ2_checkIndex_2214a_8 : decode cJ2_checkIndex_2214a 8 = .ok (.return_, 1) := by decide +kernel
theorem dJ3_checkIndex_8e157_0 : decode cJ3_checkIndex_8e157 0 = .ok (.iload_n 0, 1) := by decide +kernel
theorem dJ3_checkIndex_8e157_1 : decode cJ3_checkIndex_8e157 1 = .ok (.ifCond .lt 8, 3) := by decide +kernel
theorem dJ3_checkIndex_8e157_4 : decode cJ3_checkIndex_8e157 4 = .ok (.iload_n 0, 1) := by decide +kernel
theorem dJ3_checkIndex_8e157_5 : decode cJ3_checkIndex_8e157 5 = .ok (.iload_n 1, 1) := by decide +kernel
theorem dJ3_checkIndex_8e157_6 : decode cJ3_checkIndex_8e157 6 = .ok (.if_icmp .lt 10, 3) := by decide +kernel
theorem dJ3_checkIndex_8e157_9 : decode cJ3_checkIndex_8e157 9 = .ok (.aload_n 2, 1) := by decide +kernel
theorem dJ3_checkIndex_8e157_10 : decode cJ3_checkIndex_8e157 10 = .ok (.iload_n 0, 1) := by decide +kernel
theorem dJ3_checkIndex_8e157_11 : decode cJ3_checkIndex_8e157 11 = .ok (.iload_n 1, 1) := by decide +kernel
theorem dJ3_checkIndex_8e157_12 : decode cJ3_checkIndex_8e157 12 = .ok (.invokestatic 95, 3) := by decide +kernel
theorem dJ3_checkIndex_8e157_15 : decode cJ3_checkIndex_8e157 15 = .ok (.athrow, 1) := by decide +kernel
theorem dJ3_checkIndex_8e157_16 : decode cJ3_checkIndex_8e157 16 = .ok (.iload_n 0, 1) := by decide +kernel
theorem dJ3_checkIndex_8e157_17 : decode cJ3_checkIndex_8e157 17 = .ok (.ireturn, 1) := by decide +kernel
theorem dL_law_0 : decode cL_law 0 = .ok (.new 7, 3) := by decide +kernel
theorem dL_law_3 : decode cL_law 3 = .ok (.dup, 1) := by decide +kernel
theorem dL_law_4 : decode cL_law 4 = .ok (.invokespecial 9, 3) := by decide +kernel
theorem dL_law_7 : decode cL_law 7 = .ok (.astore_n 1, 1) := by decide +kernel
theorem dL_law_8 : decode cL_law 8 = .ok (.new 10, 3) := by decide +kernel
theorem dL_law_11 : decode cL_law 11 = .ok (.dup, 1) := by decide +kernel
theorem dL_law_12 : decode cL_law 12 = .ok (.invokespecial 12, 3) := by decide +kernel
theorem dL_law_15 : decode cL_law 15 = .ok (.astore_n 2, 1) := by decide +kernel
theorem dL_law_16 : decode cL_law 16 = .ok (.iconst 0, 1) := by decide +kernel
theorem dL_law_17 : decode cL_law 17 = .ok (.istore_n 3, 1) := by decide +kernel
theorem dL_law_18 : decode cL_law 18 = .ok (.iload_n 3, 1) := by decide +kernel
theorem dL_law_19 : decode cL_law 19 = .ok (.aload_n 0, 1) := by decide +kernel
theorem dL_law_20 : decode cL_law 20 = .ok (.arraylength, 1) := by decide +kernel
theorem dL_law_21 : decode cL_law 21 = .ok (.iconst 5, 1) := by decide +kernel
theorem dL_law_22 : decode cL_law 22 = .ok (.isub, 1) := by decide +kernel
theorem dL_law_23 : decode cL_law 23 = .ok (.if_icmp .gt 908, 3) := by decide +kernel
theorem dL_law_26 : decode cL_law 26 = .ok (.aload_n 0, 1) := by decide +kernel
theorem dL_law_27 : decode cL_law 27 = .ok (.iload_n 3, 1) := by decide +kernel
theorem dL_law_28 : decode cL_law 28 = .ok (.iaload, 1) := by decide +kernel
theorem dL_law_29 : decode cL_law 29 = .ok (.bipush 31, 2) := by decide +kernel
theorem dL_law_31 : decode cL_law 31 = .ok (.iand, 1) := by decide +kernel
theorem dL_law_32 : decode cL_law 32 = .ok (.tableswitch 893 0 30 #[140, 163, 176, 189, 202, 235, 268, 301, 334, 377, 390, 413, 426, 459, 482, 505, 518, 541, 564, 587, 610, 633, 656, 679, 722, 735, 758, 811, 844, 857, 870], 140) := by decide +kernel
theorem dL_law_172 : decode cL_law 172 = .ok (.aload_n 1, 1) := by decide +kernel
theorem dL_law_173 : decode cL_law 173 = .ok (.aload_n 0, 1) := by decide +kernel
theorem dL_law_174 : decode cL_law 174 = .ok (.iload_n 3, 1) := by decide +kernel
theorem dL_law_175 : decode cL_law 175 = .ok (.iconst 1, 1) := by decide +kernel
theorem dL_law_176 : decode cL_law 176 = .ok (.iadd, 1) := by decide +kernel
theorem dL_law_177 : decode cL_law 177 = .ok (.iaload, 1) := by decide +kernel
theorem dL_law_178 : decode cL_law 178 = .ok (.invokevirtual 13, 3) := by decide +kernel
theorem dL_law_181 : decode cL_law 181 = .ok (.aload_n 2, 1) := by decide +kernel
theorem dL_law_182 : decode cL_law 182 = .ok (.aload_n 0, 1) := by decide +kernel
theorem dL_law_183 : decode cL_law 183 = .ok (.iload_n 3, 1) := by decide +kernel
theorem dL_law_184 : decode cL_law 184 = .ok (.iconst 1, 1) := by decide +kernel
theorem dL_law_185 : decode cL_law 185 = .ok (.iadd, 1) := by decide +kernel
theorem dL_law_186 : decode cL_law 186 = .ok (.iaload, 1) := by decide +kernel
theorem dL_law_187 : decode cL_law 187 = .ok (.invokevirtual 17, 3) := by decide +kernel
theorem dL_law_190 : decode cL_law 190 = .ok (.if_icmp .eq 735, 3) := by decide +kernel
theorem dL_law_193 : decode cL_law 193 = .ok (.iconst 0, 1) := by decide +kernel
theorem dL_law_194 : decode cL_law 194 = .ok (.ireturn, 1) := by decide +kernel
theorem dL_law_195 : decode cL_law 195 = .ok (.aload_n 1, 1) := by decide +kernel
theorem dL_law_196 : decode cL_law 196 = .ok (.invokevirtual 18, 3) := by decide +kernel
theorem dL_law_199 : decode cL_law 199 = .ok (.aload_n 2, 1) := by decide +kernel
theorem dL_law_200 : decode cL_law 200 = .ok (.invokevirtual 22, 3) := by decide +kernel
theorem dL_law_203 : decode cL_law 203 = .ok (.if_icmp .eq 722, 3) := by decide +kernel
theorem dL_law_206 : decode cL_law 206 = .ok (.iconst 0, 1) := by decide +kernel
theorem dL_law_207 : decode cL_law 207 = .ok (.ireturn, 1) := by decide +kernel
theorem dL_law_208 : decode cL_law 208 = .ok (.aload_n 1, 1) := by decide +kernel
theorem dL_law_209 : decode cL_law 209 = .ok (.invokevirtual 23, 3) := by decide +kernel
theorem dL_law_212 : decode cL_law 212 = .ok (.aload_n 2, 1) := by decide +kernel
theorem dL_law_213 : decode cL_law 213 = .ok (.invokevirtual 26, 3) := by decide +kernel
theorem dL_law_216 : decode cL_law 216 = .ok (.if_icmp .eq 709, 3) := by decide +kernel
theorem dL_law_219 : decode cL_law 219 = .ok (.iconst 0, 1) := by decide +kernel
theorem dL_law_220 : decode cL_law 220 = .ok (.ireturn, 1) := by decide +kernel
theorem dL_law_221 : decode cL_law 221 = .ok (.aload_n 1, 1) := by decide +kernel
theorem dL_law_222 : decode cL_law 222 = .ok (.invokevirtual 27, 3) := by decide +kernel
theorem dL_law_225 : decode cL_law 225 = .ok (.aload_n 2, 1) := by decide +kernel
theorem dL_law_226 : decode cL_law 226 = .ok (.invokevirtual 30, 3) := by decide +kernel
theorem dL_law_229 : decode cL_law 229 = .ok (.if_icmp .eq 696, 3) := by decide +kernel
theorem dL_law_232 : decode cL_law 232 = .ok (.iconst 0, 1) := by decide +kernel
theorem dL_law_233 : decode cL_law 233 = .ok (.ireturn, 1) := by decide +kernel
theorem dL_law_234 : decode cL_law 234 = .ok (.aload_n 1, 1) := by decide +kernel
theorem dL_law_235 : decode cL_law 235 = .ok (.aload_n 0, 1) := by decide +kernel
theorem dL_law_236 : decode cL_law 236 = .ok (.iload_n 3, 1) := by decide +kernel
theorem dL_law_237 : decode cL_law 237 = .ok (.iconst 1, 1) := by decide +kernel
theorem dL_law_238 : decode cL_law 238 = .ok (.iadd, 1) := by decide +kernel
theorem dL_law_239 : decode cL_law 239 = .ok (.iaload, 1) := by decide +kernel
theorem dL_law_240 : decode cL_law 240 = .ok (.aload_n 0, 1) := by decide +kernel
theorem dL_law_241 : decode cL_law 241 = .ok (.iload_n 3, 1) := by decide +kernel
theorem dL_law_242 : decode cL_law 242 = .ok (.iconst 2, 1) := by decide +kernel
theorem dL_law_243 : decode cL_law 243 = .ok (.iadd, 1) := by decide +kernel
theorem dL_law_244 : decode cL_law 244 = .ok (.iaload, 1) := by decide +kernel
theorem dL_law_245 : decode cL_law 245 = .ok (.invokevirtual 31, 3) := by decide +kernel
theorem dL_law_248 : decode cL_law 248 = .ok (.aload_n 2, 1) := by decide +kernel
theorem dL_law_249 : decode cL_law 249 = .ok (.aload_n 0, 1) := by decide +kernel
theorem dL_law_250 : decode cL_law 250 = .ok (.iload_n 3, 1) := by decide +kernel
theorem dL_law_251 : decode cL_law 251 = .ok (.iconst 1, 1) := by decide +kernel
theorem dL_law_252 : decode cL_law 252 = .ok (.iadd, 1) := by decide +kernel
theorem dL_law_253 : decode cL_law 253 = .ok (.iaload, 1) := by decide +kernel
theorem dL_law_254 : decode cL_law 254 = .ok (.aload_n 0, 1) := by decide +kernel
theorem dL_law_255 : decode cL_law 255 = .ok (.iload_n 3, 1) := by decide +kernel
theorem dL_law_256 : decode cL_law 256 = .ok (.iconst 2, 1) := by decide +kernel
theorem dL_law_257 : decode cL_law 257 = .ok (.iadd, 1) := by decide +kernel
theorem dL_law_258 : decode cL_law 258 = .ok (.iaload, 1) := by decide +kernel
theorem dL_law_259 : decode cL_law 259 = .ok (.invokevirtual 35, 3) := by decide +kernel
theorem dL_law_262 : decode cL_law 262 = .ok (.if_icmp .eq 663, 3) := by decide +kernel
theorem dL_law_265 : decode cL_law 265 = .ok (.iconst 0, 1) := by decide +kernel
theorem dL_law_266 : decode cL_law 266 = .ok (.ireturn, 1) := by decide +kernel
theorem dL_law_267 : decode cL_law 267 = .ok (.aload_n 1, 1) := by decide +kernel
theorem dL_law_268 : decode cL_law 268 = .ok (.aload_n 0, 1) := by decide +kernel
theorem dL_law_269 : decode cL_law 269 = .ok (.iload_n 3, 1) := by decide +kernel
theorem dL_law_270 : decode cL_law 270 = .ok (.iconst 1, 1) := by decide +kernel
theorem dL_law_271 : decode cL_law 271 = .ok (.iadd, 1) := by decide +kernel
theorem dL_law_272 : decode cL_law 272 = .ok (.iaload, 1) := by decide +kernel
theorem dL_law_273 : decode cL_law 273 = .ok (.aload_n 0, 1) := by decide +kernel
theorem dL_law_274 : decode cL_law 274 = .ok (.iload_n 3, 1) := by decide +kernel
theorem dL_law_275 : decode cL_law 275 = .ok (.iconst 2, 1) := by decide +kernel
theorem dL_law_276 : decode cL_law 276 = .ok (.iadd, 1) := by decide +kernel
theorem dL_law_277 : decode cL_law 277 = .ok (.iaload, 1) := by decide +kernel
theorem dL_law_278 : decode cL_law 278 = .ok (.invokevirtual 36, 3) := by decide +kernel
theorem dL_law_281 : decode cL_law 281 = .ok (.aload_n 2, 1) := by decide +kernel
theorem dL_law_282 : decode cL_law 282 = .ok (.aload_n 0, 1) := by decide +kernel
theorem dL_law_283 : decode cL_law 283 = .ok (.iload_n 3, 1) := by decide +kernel
theorem dL_law_284 : decode cL_law 284 = .ok (.iconst 1, 1) := by decide +kernel
theorem dL_law_285 : decode cL_law 285 = .ok (.iadd, 1) := by decide +kernel
theorem dL_law_286 : decode cL_law 286 = .ok (.iaload, 1) := by decide +kernel
theorem dL_law_287 : decode cL_law 287 = .ok (.aload_n 0, 1) := by decide +kernel
theorem dL_law_288 : decode cL_law 288 = .ok (.iload_n 3, 1) := by decide +kernel
theorem dL_law_289 : decode cL_law 289 = .ok (.iconst 2, 1) := by decide +kernel
theorem dL_law_290 : decode cL_law 290 = .ok (.iadd, 1) := by decide +kernel
theorem dL_law_291 : decode cL_law 291 = .ok (.iaload, 1) := by decide +kernel
theorem dL_law_292 : decode cL_law 292 = .ok (.invokevirtual 39, 3) := by decide +kernel
theorem dL_law_295 : decode cL_law 295 = .ok (.if_icmp .eq 630, 3) := by decide +kernel
theorem dL_law_298 : decode cL_law 298 = .ok (.iconst 0, 1) := by decide +kernel
theorem dL_law_299 : decode cL_law 299 = .ok (.ireturn, 1) := by decide +kernel
theorem dL_law_300 : decode cL_law 300 = .ok (.aload_n 1, 1) := by decide +kernel
theorem dL_law_301 : decode cL_law 301 = .ok (.aload_n 0, 1) := by decide +kernel
theorem dL_law_302 : decode cL_law 302 = .ok (.iload_n 3, 1) := by decide +kernel
theorem dL_law_303 : decode cL_law 303 = .ok (.iconst 1, 1) := by decide +kernel
theorem dL_law_304 : decode cL_law 304 = .ok (.iadd, 1) := by decide +kernel
theorem dL_law_305 : decode cL_law 305 = .ok (.iaload, 1) := by decide +kernel
theorem dL_law_306 : decode cL_law 306 = .ok (.aload_n 0, 1) := by decide +kernel
theorem dL_law_307 : decode cL_law 307 = .ok (.iload_n 3, 1) := by decide +kernel
theorem dL_law_308 : decode cL_law 308 = .ok (.iconst 2, 1) := by decide +kernel
theorem dL_law_309 : decode cL_law 309 = .ok (.iadd, 1) := by decide +kernel
theorem dL_law_310 : decode cL_law 310 = .ok (.iaload, 1) := by decide +kernel
theorem dL_law_311 : decode cL_law 311 = .ok (.invokevirtual 40, 3) := by decide +kernel
theorem dL_law_314 : decode cL_law 314 = .ok (.aload_n 2, 1) := by decide +kernel
theorem dL_law_315 : decode cL_law 315 = .ok (.aload_n 0, 1) := by decide +kernel
theorem dL_law_316 : decode cL_law 316 = .ok (.iload_n 3, 1) := by decide +kernel
theorem dL_law_317 : decode cL_law 317 = .ok (.iconst 1, 1) := by decide +kernel
theorem dL_law_318 : decode cL_law 318 = .ok (.iadd, 1) := by decide +kernel
theorem dL_law_319 : decode cL_law 319 = .ok (.iaload, 1) := by decide +kernel
theorem dL_law_320 : decode cL_law 320 = .ok (.aload_n 0, 1) := by decide +kernel
theorem dL_law_321 : decode cL_law 321 = .ok (.iload_n 3, 1) := by decide +kernel
theorem dL_law_322 : decode cL_law 322 = .ok (.iconst 2, 1) := by decide +kernel
theorem dL_law_323 : decode cL_law 323 = .ok (.iadd, 1) := by decide +kernel
theorem dL_law_324 : decode cL_law 324 = .ok (.iaload, 1) := by decide +kernel
theorem dL_law_325 : decode cL_law 325 = .ok (.invokevirtual 43, 3) := by decide +kernel
theorem dL_law_328 : decode cL_law 328 = .ok (.if_icmp .eq 597, 3) := by decide +kernel
theorem dL_law_331 : decode cL_law 331 = .ok (.iconst 0, 1) := by decide +kernel
theorem dL_law_332 : decode cL_law 332 = .ok (.ireturn, 1) := by decide +kernel
theorem dL_law_333 : decode cL_law 333 = .ok (.aload_n 1, 1) := by decide +kernel
theorem dL_law_334 : decode cL_law 334 = .ok (.aload_n 0, 1) := by decide +kernel
theorem dL_law_335 : decode cL_law 335 = .ok (.iload_n 3, 1) := by decide +kernel
theorem dL_law_336 : decode cL_law 336 = .ok (.iconst 1, 1) := by decide +kernel
theorem dL_law_337 : decode cL_law 337 = .ok (.iadd, 1) := by decide +kernel
theorem dL_law_338 : decode cL_law 338 = .ok (.iaload, 1) := by decide +kernel
theorem dL_law_339 : decode cL_law 339 = .ok (.aload_n 0, 1) := by decide +kernel
theorem dL_law_340 : decode cL_law 340 = .ok (.iload_n 3, 1) := by decide +kernel
theorem dL_law_341 : decode cL_law 341 = .ok (.iconst 2, 1) := by decide +kernel
theorem dL_law_342 : decode cL_law 342 = .ok (.iadd, 1) := by decide +kernel
theorem dL_law_343 : decode cL_law 343 = .ok (.iaload, 1) := by decide +kernel
theorem dL_law_344 : decode cL_law 344 = .ok (.invokevirtual 44, 3) := by decide +kernel
theorem dL_law_347 : decode cL_law 347 = .ok (.aload_n 2, 1) := by decide +kernel
theorem dL_law_348 : decode cL_law 348 = .ok (.aload_n 0, 1) := by decide +kernel
theorem dL_law_349 : decode cL_law 349 = .ok (.iload_n 3, 1) := by decide +kernel
theorem dL_law_350 : decode cL_law 350 = .ok (.iconst 1, 1) := by decide +kernel
theorem dL_law_351 : decode cL_law 351 = .ok (.iadd, 1) := by decide +kernel
theorem dL_law_352 : decode cL_law 352 = .ok (.iaload, 1) := by decide +kernel
theorem dL_law_353 : decode cL_law 353 = .ok (.aload_n 0, 1) := by decide +kernel
theorem dL_law_354 : decode cL_law 354 = .ok (.iload_n 3, 1) := by decide +kernel
theorem dL_law_355 : decode cL_law 355 = .ok (.iconst 2, 1) := by decide +kernel
theorem dL_law_356 : decode cL_law 356 = .ok (.iadd, 1) := by decide +kernel
theorem dL_law_357 : decode cL_law 357 = .ok (.iaload, 1) := by decide +kernel
theorem dL_law_358 : decode cL_law 358 = .ok (.invokevirtual 47, 3) := by decide +kernel
theorem dL_law_361 : decode cL_law 361 = .ok (.if_icmp .eq 564, 3) := by decide +kernel
theorem dL_law_364 : decode cL_law 364 = .ok (.iconst 0, 1) := by decide +kernel
theorem dL_law_365 : decode cL_law 365 = .ok (.ireturn, 1) := by decide +kernel
theorem dL_law_366 : decode cL_law 366 = .ok (.aload_n 1, 1) := by decide +kernel
theorem dL_law_367 : decode cL_law 367 = .ok (.aload_n 0, 1) := by decide +kernel
theorem dL_law_368 : decode cL_law 368 = .ok (.iload_n 3, 1) := by decide +kernel
theorem dL_law_369 : decode cL_law 369 = .ok (.iconst 1, 1) := by decide +kernel
theorem dL_law_370 : decode cL_law 370 = .ok (.iadd, 1) := by decide +kernel
theorem dL_law_371 : decode cL_law 371 = .ok (.iaload, 1) := by decide +kernel
theorem dL_law_372 : decode cL_law 372 = .ok (.aload_n 0, 1) := by decide +kernel
theorem dL_law_373 : decode cL_law 373 = .ok (.iload_n 3, 1) := by decide +kernel
theorem dL_law_374 : decode cL_law 374 = .ok (.iconst 2, 1) := by decide +kernel
theorem dL_law_375 : decode cL_law 375 = .ok (.iadd, 1) := by decide +kernel
theorem dL_law_376 : decode cL_law 376 = .ok (.iaload, 1) := by decide +kernel
theorem dL_law_377 : decode cL_law 377 = .ok (.aload_n 0, 1) := by decide +kernel
theorem dL_law_378 : decode cL_law 378 = .ok (.iload_n 3, 1) := by decide +kernel
theorem dL_law_379 : decode cL_law 379 = .ok (.iconst 3, 1) := by decide +kernel
theorem dL_law_380 : decode cL_law 380 = .ok (.iadd, 1) := by decide +kernel
theorem dL_law_381 : decode cL_law 381 = .ok (.iaload, 1) := by decide +kernel
theorem dL_law_382 : decode cL_law 382 = .ok (.invokevirtual 48, 3) := by decide +kernel
theorem dL_law_385 : decode cL_law 385 = .ok (.aload_n 2, 1) := by decide +kernel
theorem dL_law_386 : decode cL_law 386 = .ok (.aload_n 0, 1) := by decide +kernel
theorem dL_law_387 : decode cL_law 387 = .ok (.iload_n 3, 1) := by decide +kernel
theorem dL_law_388 : decode cL_law 388 = .ok (.iconst 1, 1) := by decide +kernel
theorem dL_law_389 : decode cL_law 389 = .ok (.iadd, 1) := by decide +kernel
theorem dL_law_390 : decode cL_law 390 = .ok (.iaload, 1) := by decide +kernel
theorem dL_law_391 : decode cL_law 391 = .ok (.aload_n 0, 1) := by decide +kernel
theorem dL_law_392 : decode cL_law 392 = .ok (.iload_n 3, 1) := by decide +kernel
theorem dL_law_393 : decode cL_law 393 = .ok (.iconst 2, 1) := by decide +kernel
theorem dL_law_394 : decode cL_law 394 = .ok (.iadd, 1) := by decide +kernel
theorem dL_law_395 : decode cL_law 395 = .ok (.iaload, 1) := by decide +kernel
theorem dL_law_396 : decode cL_law 396 = .ok (.aload_n 0, 1) := by decide +kernel
theorem dL_law_397 : decode cL_law 397 = .ok (.iload_n 3, 1) := by decide +kernel
theorem dL_law_398 : decode cL_law 398 = .ok (.iconst 3, 1) := by decide +kernel
theorem dL_law_399 : decode cL_law 399 = .ok (.iadd, 1) := by decide +kernel
theorem dL_law_400 : decode cL_law 400 = .ok (.iaload, 1) := by decide +kernel
theorem dL_law_401 : decode cL_law 401 = .ok (.invokevirtual 52, 3) := by decide +kernel
theorem dL_law_404 : decode cL_law 404 = .ok (.if_icmp .eq 521, 3) := by decide +kernel
theorem dL_law_407 : decode cL_law 407 = .ok (.iconst 0, 1) := by decide +kernel
theorem dL_law_408 : decode cL_law 408 = .ok (.ireturn, 1) := by decide +kernel
theorem dL_law_409 : decode cL_law 409 = .ok (.aload_n 1, 1) := by decide +kernel
theorem dL_law_410 : decode cL_law 410 = .ok (.invokevirtual 53, 3) := by decide +kernel
theorem dL_law_413 : decode cL_law 413 = .ok (.aload_n 2, 1) := by decide +kernel
theorem dL_law_414 : decode cL_law 414 = .ok (.invokevirtual 56, 3) := by decide +kernel
theorem dL_law_417 : decode cL_law 417 = .ok (.if_icmp .eq 508, 3) := by decide +kernel
theorem dL_law_420 : decode cL_law 420 = .ok (.iconst 0, 1) := by decide +kernel
theorem dL_law_421 : decode cL_law 421 = .ok (.ireturn, 1) := by decide +kernel
theorem dL_law_422 : decode cL_law 422 = .ok (.aload_n 1, 1) := by decide +kernel
theorem dL_law_423 : decode cL_law 423 = .ok (.aload_n 0, 1) := by decide +kernel
theorem dL_law_424 : decode cL_law 424 = .ok (.iload_n 3, 1) := by decide +kernel
theorem dL_law_425 : decode cL_law 425 = .ok (.iconst 1, 1) := by decide +kernel
theorem dL_law_426 : decode cL_law 426 = .ok (.iadd, 1) := by decide +kernel
theorem dL_law_427 : decode cL_law 427 = .ok (.iaload, 1) := by decide +kernel
theorem dL_law_428 : decode cL_law 428 = .ok (.invokevirtual 57, 3) := by decide +kernel
theorem dL_law_431 : decode cL_law 431 = .ok (.aload_n 2, 1) := by decide +kernel
theorem dL_law_432 : decode cL_law 432 = .ok (.aload_n 0, 1) := by decide +kernel
theorem dL_law_433 : decode cL_law 433 = .ok (.iload_n 3, 1) := by decide +kernel
theorem dL_law_434 : decode cL_law 434 = .ok (.iconst 1, 1) := by decide +kernel
theorem dL_law_435 : decode cL_law 435 = .ok (.iadd, 1) := by decide +kernel
theorem dL_law_436 : decode cL_law 436 = .ok (.iaload, 1) := by decide +kernel
theorem dL_law_437 : decode cL_law 437 = .ok (.invokevirtual 60, 3) := by decide +kernel
theorem dL_law_440 : decode cL_law 440 = .ok (.if_icmp .eq 485, 3) := by decide +kernel
theorem dL_law_443 : decode cL_law 443 = .ok (.iconst 0, 1) := by decide +kernel
theorem dL_law_444 : decode cL_law 444 = .ok (.ireturn, 1) := by decide +kernel
theorem dL_law_445 : decode cL_law 445 = .ok (.aload_n 1, 1) := by decide +kernel
theorem dL_law_446 : decode cL_law 446 = .ok (.invokevirtual 61, 3) := by decide +kernel
theorem dL_law_449 : decode cL_law 449 = .ok (.aload_n 2, 1) := by decide +kernel
theorem dL_law_450 : decode cL_law 450 = .ok (.invokevirtual 64, 3) := by decide +kernel
theorem dL_law_453 : decode cL_law 453 = .ok (.if_icmp .eq 472, 3) := by decide +kernel
theorem dL_law_456 : decode cL_law 456 = .ok (.iconst 0, 1) := by decide +kernel
theorem dL_law_457 : decode cL_law 457 = .ok (.ireturn, 1) := by decide +kernel
theorem dL_law_458 : decode cL_law 458 = .ok (.aload_n 1, 1) := by decide +kernel
theorem dL_law_459 : decode cL_law 459 = .ok (.aload_n 0, 1) := by decide +kernel
theorem dL_law_460 : decode cL_law 460 = .ok (.iload_n 3, 1) := by decide +kernel
theorem dL_law_461 : decode cL_law 461 = .ok (.iconst 1, 1) := by decide +kernel
theorem dL_law_462 : decode cL_law 462 = .ok (.iadd, 1) := by decide +kernel
theorem dL_law_463 : decode cL_law 463 = .ok (.iaload, 1) := by decide +kernel
theorem dL_law_464 : decode cL_law 464 = .ok (.aload_n 0, 1) := by decide +kernel
theorem dL_law_465 : decode cL_law 465 = .ok (.iload_n 3, 1) := by decide +kernel
theorem dL_law_466 : decode cL_law 466 = .ok (.iconst 2, 1) := by decide +kernel
theorem dL_law_467 : decode cL_law 467 = .ok (.iadd, 1) := by decide +kernel
theorem dL_law_468 : decode cL_law 468 = .ok (.iaload, 1) := by decide +kernel
theorem dL_law_469 : decode cL_law 469 = .ok (.invokevirtual 65, 3) := by decide +kernel
theorem dL_law_472 : decode cL_law 472 = .ok (.aload_n 2, 1) := by decide +kernel
theorem dL_law_473 : decode cL_law 473 = .ok (.aload_n 0, 1) := by decide +kernel
theorem dL_law_474 : decode cL_law 474 = .ok (.iload_n 3, 1) := by decide +kernel
theorem dL_law_475 : decode cL_law 475 = .ok (.iconst 1, 1) := by decide +kernel
theorem dL_law_476 : decode cL_law 476 = .ok (.iadd, 1) := by decide +kernel
theorem dL_law_477 : decode cL_law 477 = .ok (.iaload, 1) := by decide +kernel
theorem dL_law_478 : decode cL_law 478 = .ok (.aload_n 0, 1) := by decide +kernel
theorem dL_law_479 : decode cL_law 479 = .ok (.iload_n 3, 1) := by decide +kernel
theorem dL_law_480 : decode cL_law 480 = .ok (.iconst 2, 1) := by decide +kernel
theorem dL_law_481 : decode cL_law 481 = .ok (.iadd, 1) := by decide +kernel
theorem dL_law_482 : decode cL_law 482 = .ok (.iaload, 1) := by decide +kernel
theorem dL_law_483 : decode cL_law 483 = .ok (.invokevirtual 68, 3) := by decide +kernel
theorem dL_law_486 : decode cL_law 486 = .ok (.if_icmp .eq 439, 3) := by decide +kernel
theorem dL_law_489 : decode cL_law 489 = .ok (.iconst 0, 1) := by decide +kernel
theorem dL_law_490 : decode cL_law 490 = .ok (.ireturn, 1) := by decide +kernel
theorem dL_law_491 : decode cL_law 491 = .ok (.aload_n 1, 1) := by decide +kernel
theorem dL_law_492 : decode cL_law 492 = .ok (.aload_n 0, 1) := by decide +kernel
theorem dL_law_493 : decode cL_law 493 = .ok (.iload_n 3, 1) := by decide +kernel
theorem dL_law_494 : decode cL_law 494 = .ok (.iconst 1, 1) := by decide +kernel
theorem dL_law_495 : decode cL_law 495 = .ok (.iadd, 1) := by decide +kernel
theorem dL_law_496 : decode cL_law 496 = .ok (.iaload, 1) := by decide +kernel
theorem dL_law_497 : decode cL_law 497 = .ok (.invokevirtual 69, 3) := by decide +kernel
theorem dL_law_500 : decode cL_law 500 = .ok (.aload_n 2, 1) := by decide +kernel
theorem dL_law_501 : decode cL_law 501 = .ok (.aload_n 0, 1) := by decide +kernel
theorem dL_law_502 : decode cL_law 502 = .ok (.iload_n 3, 1) := by decide +kernel
theorem dL_law_503 : decode cL_law 503 = .ok (.iconst 1, 1) := by decide +kernel
theorem dL_law_504 : decode cL_law 504 = .ok (.iadd, 1) := by decide +kernel
theorem dL_law_505 : decode cL_law 505 = .ok (.iaload, 1) := by decide +kernel
theorem dL_law_506 : decode cL_law 506 = .ok (.invokevirtual 72, 3) := by decide +kernel
theorem dL_law_509 : decode cL_law 509 = .ok (.if_icmp .eq 416, 3) := by decide +kernel
theorem dL_law_512 : decode cL_law 512 = .ok (.iconst 0, 1) := by decide +kernel
theorem dL_law_513 : decode cL_law 513 = .ok (.ireturn, 1) := by decide +kernel
theorem dL_law_514 : decode cL_law 514 = .ok (.aload_n 1, 1) := by decide +kernel
theorem dL_law_515 : decode cL_law 515 = .ok (.aload_n 0, 1) := by decide +kernel
theorem dL_law_516 : decode cL_law 516 = .ok (.iload_n 3, 1) := by decide +kernel
theorem dL_law_517 : decode cL_law 517 = .ok (.iconst 1, 1) := by decide +kernel
theorem dL_law_518 : decode cL_law 518 = .ok (.iadd, 1) := by decide +kernel
theorem dL_law_519 : decode cL_law 519 = .ok (.iaload, 1) := by decide +kernel
theorem dL_law_520 : decode cL_law 520 = .ok (.invokevirtual 73, 3) := by decide +kernel
theorem dL_law_523 : decode cL_law 523 = .ok (.aload_n 2, 1) := by decide +kernel
theorem dL_law_524 : decode cL_law 524 = .ok (.aload_n 0, 1) := by decide +kernel
theorem dL_law_525 : decode cL_law 525 = .ok (.iload_n 3, 1) := by decide +kernel
theorem dL_law_526 : decode cL_law 526 = .ok (.iconst 1, 1) := by decide +kernel
theorem dL_law_527 : decode cL_law 527 = .ok (.iadd, 1) := by decide +kernel
theorem dL_law_528 : decode cL_law 528 = .ok (.iaload, 1) := by decide +kernel
theorem dL_law_529 : decode cL_law 529 = .ok (.invokevirtual 76, 3) := by decide +kernel
theorem dL_law_532 : decode cL_law 532 = .ok (.if_icmp .eq 393, 3) := by decide +kernel
theorem dL_law_535 : decode cL_law 535 = .ok (.iconst 0, 1) := by decide +kernel
theorem dL_law_536 : decode cL_law 536 = .ok (.ireturn, 1) := by decide +kernel
theorem dL_law_537 : decode cL_law 537 = .ok (.aload_n 1, 1) := by decide +kernel
theorem dL_law_538 : decode cL_law 538 = .ok (.invokevirtual 77, 3) := by decide +kernel
theorem dL_law_541 : decode cL_law 541 = .ok (.aload_n 2, 1) := by decide +kernel
theorem dL_law_542 : decode cL_law 542 = .ok (.invokevirtual 80, 3) := by decide +kernel
theorem dL_law_545 : decode cL_law 545 = .ok (.if_icmp .eq 380, 3) := by decide +kernel
theorem dL_law_548 : decode cL_law 548 = .ok (.iconst 0, 1) := by decide +kernel
theorem dL_law_549 : decode cL_law 549 = .ok (.ireturn, 1) := by decide +kernel
theorem dL_law_550 : decode cL_law 550 = .ok (.aload_n 1, 1) := by decide +kernel
theorem dL_law_551 : decode cL_law 551 = .ok (.aload_n 0, 1) := by decide +kernel
theorem dL_law_552 : decode cL_law 552 = .ok (.iload_n 3, 1) := by decide +kernel
theorem dL_law_553 : decode cL_law 553 = .ok (.iconst 1, 1) := by decide +kernel
theorem dL_law_554 : decode cL_law 554 = .ok (.iadd, 1) := by decide +kernel
theorem dL_law_555 : decode cL_law 555 = .ok (.iaload, 1) := by decide +kernel
theorem dL_law_556 : decode cL_law 556 = .ok (.invokevirtual 81, 3) := by decide +kernel
theorem dL_law_559 : decode cL_law 559 = .ok (.aload_n 2, 1) := by decide +kernel
theorem dL_law_560 : decode cL_law 560 = .ok (.aload_n 0, 1) := by decide +kernel
theorem dL_law_561 : decode cL_law 561 = .ok (.iload_n 3, 1) := by decide +kernel
theorem dL_law_562 : decode cL_law 562 = .ok (.iconst 1, 1) := by decide +kernel
theorem dL_law_563 : decode cL_law 563 = .ok (.iadd, 1) := by decide +kernel
theorem dL_law_564 : decode cL_law 564 = .ok (.iaload, 1) := by decide +kernel
theorem dL_law_565 : decode cL_law 565 = .ok (.invokevirtual 84, 3) := by decide +kernel
theorem dL_law_568 : decode cL_law 568 = .ok (.if_icmp .eq 357, 3) := by decide +kernel
theorem dL_law_571 : decode cL_law 571 = .ok (.iconst 0, 1) := by decide +kernel
theorem dL_law_572 : decode cL_law 572 = .ok (.ireturn, 1) := by decide +kernel
theorem dL_law_573 : decode cL_law 573 = .ok (.aload_n 1, 1) := by decide +kernel
theorem dL_law_574 : decode cL_law 574 = .ok (.aload_n 0, 1) := by decide +kernel
theorem dL_law_575 : decode cL_law 575 = .ok (.iload_n 3, 1) := by decide +kernel
theorem dL_law_576 : decode cL_law 576 = .ok (.iconst 1, 1) := by decide +kernel
theorem dL_law_577 : decode cL_law 577 = .ok (.iadd, 1) := by decide +kernel
theorem dL_law_578 : decode cL_law 578 = .ok (.iaload, 1) := by decide +kernel
theorem dL_law_579 : decode cL_law 579 = .ok (.invokevirtual 85, 3) := by decide +kernel
theorem dL_law_582 : decode cL_law 582 = .ok (.aload_n 2, 1) := by decide +kernel
theorem dL_law_583 : decode cL_law 583 = .ok (.aload_n 0, 1) := by decide +kernel
theorem dL_law_584 : decode cL_law 584 = .ok (.iload_n 3, 1) := by decide +kernel
theorem dL_law_585 : decode cL_law 585 = .ok (.iconst 1, 1) := by decide +kernel
theorem dL_law_586 : decode cL_law 586 = .ok (.iadd, 1) := by decide +kernel
theorem dL_law_587 : decode cL_law 587 = .ok (.iaload, 1) := by decide +kernel
theorem dL_law_588 : decode cL_law 588 = .ok (.invokevirtual 88, 3) := by decide +kernel
theorem dL_law_591 : decode cL_law 591 = .ok (.if_icmp .eq 334, 3) := by decide +kernel
theorem dL_law_594 : decode cL_law 594 = .ok (.iconst 0, 1) := by decide +kernel
theorem dL_law_595 : decode cL_law 595 = .ok (.ireturn, 1) := by decide +kernel
theorem dL_law_596 : decode cL_law 596 = .ok (.aload_n 1, 1) := by decide +kernel
theorem dL_law_597 : decode cL_law 597 = .ok (.aload_n 0, 1) := by decide +kernel
theorem dL_law_598 : decode cL_law 598 = .ok (.iload_n 3, 1) := by decide +kernel
theorem dL_law_599 : decode cL_law 599 = .ok (.iconst 1, 1) := by decide +kernel
theorem dL_law_600 : decode cL_law 600 = .ok (.iadd, 1) := by decide +kernel
theorem dL_law_601 : decode cL_law 601 = .ok (.iaload, 1) := by decide +kernel
theorem dL_law_602 : decode cL_law 602 = .ok (.invokevirtual 89, 3) := by decide +kernel
theorem dL_law_605 : decode cL_law 605 = .ok (.aload_n 2, 1) := by decide +kernel
theorem dL_law_606 : decode cL_law 606 = .ok (.aload_n 0, 1) := by decide +kernel
theorem dL_law_607 : decode cL_law 607 = .ok (.iload_n 3, 1) := by decide +kernel
theorem dL_law_608 : decode cL_law 608 = .ok (.iconst 1, 1) := by decide +kernel
theorem dL_law_609 : decode cL_law 609 = .ok (.iadd, 1) := by decide +kernel
theorem dL_law_610 : decode cL_law 610 = .ok (.iaload, 1) := by decide +kernel
theorem dL_law_611 : decode cL_law 611 = .ok (.invokevirtual 92, 3) := by decide +kernel
theorem dL_law_614 : decode cL_law 614 = .ok (.if_icmp .eq 311, 3) := by decide +kernel
theorem dL_law_617 : decode cL_law 617 = .ok (.iconst 0, 1) := by decide +kernel
theorem dL_law_618 : decode cL_law 618 = .ok (.ireturn, 1) := by decide +kernel
theorem dL_law_619 : decode cL_law 619 = .ok (.aload_n 1, 1) := by decide +kernel
theorem dL_law_620 : decode cL_law 620 = .ok (.aload_n 0, 1) := by decide +kernel
theorem dL_law_621 : decode cL_law 621 = .ok (.iload_n 3, 1) := by decide +kernel
theorem dL_law_622 : decode cL_law 622 = .ok (.iconst 1, 1) := by decide +kernel
theorem dL_law_623 : decode cL_law 623 = .ok (.iadd, 1) := by decide +kernel
theorem dL_law_624 : decode cL_law 624 = .ok (.iaload, 1) := by decide +kernel
theorem dL_law_625 : decode cL_law 625 = .ok (.invokevirtual 93, 3) := by decide +kernel
theorem dL_law_628 : decode cL_law 628 = .ok (.aload_n 2, 1) := by decide +kernel
theorem dL_law_629 : decode cL_law 629 = .ok (.aload_n 0, 1) := by decide +kernel
theorem dL_law_630 : decode cL_law 630 = .ok (.iload_n 3, 1) := by decide +kernel
theorem dL_law_631 : decode cL_law 631 = .ok (.iconst 1, 1) := by decide +kernel
theorem dL_law_632 : decode cL_law 632 = .ok (.iadd, 1) := by decide +kernel
theorem dL_law_633 : decode cL_law 633 = .ok (.iaload, 1) := by decide +kernel
theorem dL_law_634 : decode cL_law 634 = .ok (.invokevirtual 96, 3) := by decide +kernel
theorem dL_law_637 : decode cL_law 637 = .ok (.if_icmp .eq 288, 3) := by decide +kernel
theorem dL_law_640 : decode cL_law 640 = .ok (.iconst 0, 1) := by decide +kernel
theorem dL_law_641 : decode cL_law 641 = .ok (.ireturn, 1) := by decide +kernel
theorem dL_law_642 : decode cL_law 642 = .ok (.aload_n 1, 1) := by decide +kernel
theorem dL_law_643 : decode cL_law 643 = .ok (.aload_n 0, 1) := by decide +kernel
theorem dL_law_644 : decode cL_law 644 = .ok (.iload_n 3, 1) := by decide +kernel
theorem dL_law_645 : decode cL_law 645 = .ok (.iconst 1, 1) := by decide +kernel
theorem dL_law_646 : decode cL_law 646 = .ok (.iadd, 1) := by decide +kernel
theorem dL_law_647 : decode cL_law 647 = .ok (.iaload, 1) := by decide +kernel
theorem dL_law_648 : decode cL_law 648 = .ok (.invokevirtual 97, 3) := by decide +kernel
theorem dL_law_651 : decode cL_law 651 = .ok (.aload_n 2, 1) := by decide +kernel
theorem dL_law_652 : decode cL_law 652 = .ok (.aload_n 0, 1) := by decide +kernel
theorem dL_law_653 : decode cL_law 653 = .ok (.iload_n 3, 1) := by decide +kernel
theorem dL_law_654 : decode cL_law 654 = .ok (.iconst 1, 1) := by decide +kernel
theorem dL_law_655 : decode cL_law 655 = .ok (.iadd, 1) := by decide +kernel
theorem dL_law_656 : decode cL_law 656 = .ok (.iaload, 1) := by decide +kernel
theorem dL_law_657 : decode cL_law 657 = .ok (.invokevirtual 100, 3) := by decide +kernel
theorem dL_law_660 : decode cL_law 660 = .ok (.if_icmp .eq 265, 3) := by decide +kernel
theorem dL_law_663 : decode cL_law 663 = .ok (.iconst 0, 1) := by decide +kernel
theorem dL_law_664 : decode cL_law 664 = .ok (.ireturn, 1) := by decide +kernel
theorem dL_law_665 : decode cL_law 665 = .ok (.aload_n 1, 1) := by decide +kernel
theorem dL_law_666 : decode cL_law 666 = .ok (.aload_n 0, 1) := by decide +kernel
theorem dL_law_667 : decode cL_law 667 = .ok (.iload_n 3, 1) := by decide +kernel
theorem dL_law_668 : decode cL_law 668 = .ok (.iconst 1, 1) := by decide +kernel
theorem dL_law_669 : decode cL_law 669 = .ok (.iadd, 1) := by decide +kernel
theorem dL_law_670 : decode cL_law 670 = .ok (.iaload, 1) := by decide +kernel
theorem dL_law_671 : decode cL_law 671 = .ok (.invokevirtual 101, 3) := by decide +kernel
theorem dL_law_674 : decode cL_law 674 = .ok (.aload_n 2, 1) := by decide +kernel
theorem dL_law_675 : decode cL_law 675 = .ok (.aload_n 0, 1) := by decide +kernel
theorem dL_law_676 : decode cL_law 676 = .ok (.iload_n 3, 1) := by decide +kernel
theorem dL_law_677 : decode cL_law 677 = .ok (.iconst 1, 1) := by decide +kernel
theorem dL_law_678 : decode cL_law 678 = .ok (.iadd, 1) := by decide +kernel
theorem dL_law_679 : decode cL_law 679 = .ok (.iaload, 1) := by decide +kernel
theorem dL_law_680 : decode cL_law 680 = .ok (.invokevirtual 104, 3) := by decide +kernel
theorem dL_law_683 : decode cL_law 683 = .ok (.if_icmp .eq 242, 3) := by decide +kernel
theorem dL_law_686 : decode cL_law 686 = .ok (.iconst 0, 1) := by decide +kernel
theorem dL_law_687 : decode cL_law 687 = .ok (.ireturn, 1) := by decide +kernel
theorem dL_law_688 : decode cL_law 688 = .ok (.aload_n 1, 1) := by decide +kernel
theorem dL_law_689 : decode cL_law 689 = .ok (.aload_n 0, 1) := by decide +kernel
theorem dL_law_690 : decode cL_law 690 = .ok (.iload_n 3, 1) := by decide +kernel
theorem dL_law_691 : decode cL_law 691 = .ok (.iconst 1, 1) := by decide +kernel
theorem dL_law_692 : decode cL_law 692 = .ok (.iadd, 1) := by decide +kernel
theorem dL_law_693 : decode cL_law 693 = .ok (.iaload, 1) := by decide +kernel
theorem dL_law_694 : decode cL_law 694 = .ok (.invokevirtual 105, 3) := by decide +kernel
theorem dL_law_697 : decode cL_law 697 = .ok (.aload_n 2, 1) := by decide +kernel
theorem dL_law_698 : decode cL_law 698 = .ok (.aload_n 0, 1) := by decide +kernel
theorem dL_law_699 : decode cL_law 699 = .ok (.iload_n 3, 1) := by decide +kernel
theorem dL_law_700 : decode cL_law 700 = .ok (.iconst 1, 1) := by decide +kernel
theorem dL_law_701 : decode cL_law 701 = .ok (.iadd, 1) := by decide +kernel
theorem dL_law_702 : decode cL_law 702 = .ok (.iaload, 1) := by decide +kernel
theorem dL_law_703 : decode cL_law 703 = .ok (.invokevirtual 108, 3) := by decide +kernel
theorem dL_law_706 : decode cL_law 706 = .ok (.if_icmp .eq 219, 3) := by decide +kernel
theorem dL_law_709 : decode cL_law 709 = .ok (.iconst 0, 1) := by decide +kernel
theorem dL_law_710 : decode cL_law 710 = .ok (.ireturn, 1) := by decide +kernel
theorem dL_law_711 : decode cL_law 711 = .ok (.aload_n 1, 1) := by decide +kernel
theorem dL_law_712 : decode cL_law 712 = .ok (.aload_n 0, 1) := by decide +kernel
theorem dL_law_713 : decode cL_law 713 = .ok (.iload_n 3, 1) := by decide +kernel
theorem dL_law_714 : decode cL_law 714 = .ok (.iconst 1, 1) := by decide +kernel
theorem dL_law_715 : decode cL_law 715 = .ok (.iadd, 1) := by decide +kernel
theorem dL_law_716 : decode cL_law 716 = .ok (.iaload, 1) := by decide +kernel
theorem dL_law_717 : decode cL_law 717 = .ok (.aload_n 0, 1) := by decide +kernel
theorem dL_law_718 : decode cL_law 718 = .ok (.iload_n 3, 1) := by decide +kernel
theorem dL_law_719 : decode cL_law 719 = .ok (.iconst 2, 1) := by decide +kernel
theorem dL_law_720 : decode cL_law 720 = .ok (.iadd, 1) := by decide +kernel
theorem dL_law_721 : decode cL_law 721 = .ok (.iaload, 1) := by decide +kernel
theorem dL_law_722 : decode cL_law 722 = .ok (.aload_n 0, 1) := by decide +kernel
theorem dL_law_723 : decode cL_law 723 = .ok (.iload_n 3, 1) := by decide +kernel
theorem dL_law_724 : decode cL_law 724 = .ok (.iconst 3, 1) := by decide +kernel
theorem dL_law_725 : decode cL_law 725 = .ok (.iadd, 1) := by decide +kernel
theorem dL_law_726 : decode cL_law 726 = .ok (.iaload, 1) := by decide +kernel
theorem dL_law_727 : decode cL_law 727 = .ok (.invokevirtual 109, 3) := by decide +kernel
theorem dL_law_730 : decode cL_law 730 = .ok (.aload_n 2, 1) := by decide +kernel
theorem dL_law_731 : decode cL_law 731 = .ok (.aload_n 0, 1) := by decide +kernel
theorem dL_law_732 : decode cL_law 732 = .ok (.iload_n 3, 1) := by decide +kernel
theorem dL_law_733 : decode cL_law 733 = .ok (.iconst 1, 1) := by decide +kernel
theorem dL_law_734 : decode cL_law 734 = .ok (.iadd, 1) := by decide +kernel
theorem dL_law_735 : decode cL_law 735 = .ok (.iaload, 1) := by decide +kernel
theorem dL_law_736 : decode cL_law 736 = .ok (.aload_n 0, 1) := by decide +kernel
theorem dL_law_737 : decode cL_law 737 = .ok (.iload_n 3, 1) := by decide +kernel
theorem dL_law_738 : decode cL_law 738 = .ok (.iconst 2, 1) := by decide +kernel
theorem dL_law_739 : decode cL_law 739 = .ok (.iadd, 1) := by decide +kernel
theorem dL_law_740 : decode cL_law 740 = .ok (.iaload, 1) := by decide +kernel
theorem dL_law_741 : decode cL_law 741 = .ok (.aload_n 0, 1) := by decide +kernel
theorem dL_law_742 : decode cL_law 742 = .ok (.iload_n 3, 1) := by decide +kernel
theorem dL_law_743 : decode cL_law 743 = .ok (.iconst 3, 1) := by decide +kernel
theorem dL_law_744 : decode cL_law 744 = .ok (.iadd, 1) := by decide +kernel
theorem dL_law_745 : decode cL_law 745 = .ok (.iaload, 1) := by decide +kernel
theorem dL_law_746 : decode cL_law 746 = .ok (.invokevirtual 112, 3) := by decide +kernel
theorem dL_law_749 : decode cL_law 749 = .ok (.if_icmp .eq 176, 3) := by decide +kernel
theorem dL_law_752 : decode cL_law 752 = .ok (.iconst 0, 1) := by decide +kernel
theorem dL_law_753 : decode cL_law 753 = .ok (.ireturn, 1) := by decide +kernel
theorem dL_law_754 : decode cL_law 754 = .ok (.aload_n 1, 1) := by decide +kernel
theorem dL_law_755 : decode cL_law 755 = .ok (.invokevirtual 113, 3) := by decide +kernel
theorem dL_law_758 : decode cL_law 758 = .ok (.aload_n 2, 1) := by decide +kernel
theorem dL_law_759 : decode cL_law 759 = .ok (.invokevirtual 116, 3) := by decide +kernel
theorem dL_law_762 : decode cL_law 762 = .ok (.if_icmp .eq 163, 3) := by decide +kernel
theorem dL_law_765 : decode cL_law 765 = .ok (.iconst 0, 1) := by decide +kernel
theorem dL_law_766 : decode cL_law 766 = .ok (.ireturn, 1) := by decide +kernel
theorem dL_law_767 : decode cL_law 767 = .ok (.aload_n 1, 1) := by decide +kernel
theorem dL_law_768 : decode cL_law 768 = .ok (.aload_n 0, 1) := by decide +kernel
theorem dL_law_769 : decode cL_law 769 = .ok (.iload_n 3, 1) := by decide +kernel
theorem dL_law_770 : decode cL_law 770 = .ok (.iconst 1, 1) := by decide +kernel
theorem dL_law_771 : decode cL_law 771 = .ok (.iadd, 1) := by decide +kernel
theorem dL_law_772 : decode cL_law 772 = .ok (.iaload, 1) := by decide +kernel
theorem dL_law_773 : decode cL_law 773 = .ok (.invokevirtual 117, 3) := by decide +kernel
theorem dL_law_776 : decode cL_law 776 = .ok (.aload_n 2, 1) := by decide +kernel
theorem dL_law_777 : decode cL_law 777 = .ok (.aload_n 0, 1) := by decide +kernel
theorem dL_law_778 : decode cL_law 778 = .ok (.iload_n 3, 1) := by decide +kernel
theorem dL_law_779 : decode cL_law 779 = .ok (.iconst 1, 1) := by decide +kernel
theorem dL_law_780 : decode cL_law 780 = .ok (.iadd, 1) := by decide +kernel
theorem dL_law_781 : decode cL_law 781 = .ok (.iaload, 1) := by decide +kernel
theorem dL_law_782 : decode cL_law 782 = .ok (.invokevirtual 120, 3) := by decide +kernel
theorem dL_law_785 : decode cL_law 785 = .ok (.if_icmp .eq 140, 3) := by decide +kernel
theorem dL_law_788 : decode cL_law 788 = .ok (.iconst 0, 1) := by decide +kernel
theorem dL_law_789 : decode cL_law 789 = .ok (.ireturn, 1) := by decide +kernel
theorem dL_law_790 : decode cL_law 790 = .ok (.aload_n 1, 1) := by decide +kernel
theorem dL_law_791 : decode cL_law 791 = .ok (.aload_n 0, 1) := by decide +kernel
theorem dL_law_792 : decode cL_law 792 = .ok (.iload_n 3, 1) := by decide +kernel
theorem dL_law_793 : decode cL_law 793 = .ok (.iconst 1, 1) := by decide +kernel
theorem dL_law_794 : decode cL_law 794 = .ok (.iadd, 1) := by decide +kernel
theorem dL_law_795 : decode cL_law 795 = .ok (.iaload, 1) := by decide +kernel
theorem dL_law_796 : decode cL_law 796 = .ok (.aload_n 0, 1) := by decide +kernel
theorem dL_law_797 : decode cL_law 797 = .ok (.iload_n 3, 1) := by decide +kernel
theorem dL_law_798 : decode cL_law 798 = .ok (.iconst 2, 1) := by decide +kernel
theorem dL_law_799 : decode cL_law 799 = .ok (.iadd, 1) := by decide +kernel
theorem dL_law_800 : decode cL_law 800 = .ok (.iaload, 1) := by decide +kernel
theorem dL_law_801 : decode cL_law 801 = .ok (.aload_n 0, 1) := by decide +kernel
theorem dL_law_802 : decode cL_law 802 = .ok (.iload_n 3, 1) := by decide +kernel
theorem dL_law_803 : decode cL_law 803 = .ok (.iconst 3, 1) := by decide +kernel
theorem dL_law_804 : decode cL_law 804 = .ok (.iadd, 1) := by decide +kernel
theorem dL_law_805 : decode cL_law 805 = .ok (.iaload, 1) := by decide +kernel
theorem dL_law_806 : decode cL_law 806 = .ok (.aload_n 0, 1) := by decide +kernel
theorem dL_law_807 : decode cL_law 807 = .ok (.iload_n 3, 1) := by decide +kernel
theorem dL_law_808 : decode cL_law 808 = .ok (.iconst 4, 1) := by decide +kernel
theorem dL_law_809 : decode cL_law 809 = .ok (.iadd, 1) := by decide +kernel
theorem dL_law_810 : decode cL_law 810 = .ok (.iaload, 1) := by decide +kernel
theorem dL_law_811 : decode cL_law 811 = .ok (.invokevirtual 121, 3) := by decide +kernel
theorem dL_law_814 : decode cL_law 814 = .ok (.aload_n 2, 1) := by decide +kernel
theorem dL_law_815 : decode cL_law 815 = .ok (.aload_n 0, 1) := by decide +kernel
theorem dL_law_816 : decode cL_law 816 = .ok (.iload_n 3, 1) := by decide +kernel
theorem dL_law_817 : decode cL_law 817 = .ok (.iconst 1, 1) := by decide +kernel
theorem dL_law_818 : decode cL_law 818 = .ok (.iadd, 1) := by decide +kernel
theorem dL_law_819 : decode cL_law 819 = .ok (.iaload, 1) := by decide +kernel
theorem dL_law_820 : decode cL_law 820 = .ok (.aload_n 0, 1) := by decide +kernel
theorem dL_law_821 : decode cL_law 821 = .ok (.iload_n 3, 1) := by decide +kernel
theorem dL_law_822 : decode cL_law 822 = .ok (.iconst 2, 1) := by decide +kernel
theorem dL_law_823 : decode cL_law 823 = .ok (.iadd, 1) := by decide +kernel
theorem dL_law_824 : decode cL_law 824 = .ok (.iaload, 1) := by decide +kernel
theorem dL_law_825 : decode cL_law 825 = .ok (.aload_n 0, 1) := by decide +kernel
theorem dL_law_826 : decode cL_law 826 = .ok (.iload_n 3, 1) := by decide +kernel
theorem dL_law_827 : decode cL_law 827 = .ok (.iconst 3, 1) := by decide +kernel
theorem dL_law_828 : decode cL_law 828 = .ok (.iadd, 1) := by decide +kernel
theorem dL_law_829 : decode cL_law 829 = .ok (.iaload, 1) := by decide +kernel
theorem dL_law_830 : decode cL_law 830 = .ok (.aload_n 0, 1) := by decide +kernel
theorem dL_law_831 : decode cL_law 831 = .ok (.iload_n 3, 1) := by decide +kernel
theorem dL_law_832 : decode cL_law 832 = .ok (.iconst 4, 1) := by decide +kernel
theorem dL_law_833 : decode cL_law 833 = .ok (.iadd, 1) := by decide +kernel
theorem dL_law_834 : decode cL_law 834 = .ok (.iaload, 1) := by decide +kernel
theorem dL_law_835 : decode cL_law 835 = .ok (.invokevirtual 125, 3) := by decide +kernel
theorem dL_law_838 : decode cL_law 838 = .ok (.if_icmp .eq 87, 3) := by decide +kernel
theorem dL_law_841 : decode cL_law 841 = .ok (.iconst 0, 1) := by decide +kernel
theorem dL_law_842 : decode cL_law 842 = .ok (.ireturn, 1) := by decide +kernel
theorem dL_law_843 : decode cL_law 843 = .ok (.aload_n 1, 1) := by decide +kernel
theorem dL_law_844 : decode cL_law 844 = .ok (.aload_n 0, 1) := by decide +kernel
theorem dL_law_845 : decode cL_law 845 = .ok (.iload_n 3, 1) := by decide +kernel
theorem dL_law_846 : decode cL_law 846 = .ok (.iconst 1, 1) := by decide +kernel
theorem dL_law_847 : decode cL_law 847 = .ok (.iadd, 1) := by decide +kernel
theorem dL_law_848 : decode cL_law 848 = .ok (.iaload, 1) := by decide +kernel
theorem dL_law_849 : decode cL_law 849 = .ok (.aload_n 0, 1) := by decide +kernel
theorem dL_law_850 : decode cL_law 850 = .ok (.iload_n 3, 1) := by decide +kernel
theorem dL_law_851 : decode cL_law 851 = .ok (.iconst 2, 1) := by decide +kernel
theorem dL_law_852 : decode cL_law 852 = .ok (.iadd, 1) := by decide +kernel
theorem dL_law_853 : decode cL_law 853 = .ok (.iaload, 1) := by decide +kernel
theorem dL_law_854 : decode cL_law 854 = .ok (.invokevirtual 126, 3) := by decide +kernel
theorem dL_law_857 : decode cL_law 857 = .ok (.aload_n 2, 1) := by decide +kernel
theorem dL_law_858 : decode cL_law 858 = .ok (.aload_n 0, 1) := by decide +kernel
theorem dL_law_859 : decode cL_law 859 = .ok (.iload_n 3, 1) := by decide +kernel
theorem dL_law_860 : decode cL_law 860 = .ok (.iconst 1, 1) := by decide +kernel
theorem dL_law_861 : decode cL_law 861 = .ok (.iadd, 1) := by decide +kernel
theorem dL_law_862 : decode cL_law 862 = .ok (.iaload, 1) := by decide +kernel
theorem dL_law_863 : decode cL_law 863 = .ok (.aload_n 0, 1) := by decide +kernel
theorem dL_law_864 : decode cL_law 864 = .ok (.iload_n 3, 1) := by decide +kernel
theorem dL_law_865 : decode cL_law 865 = .ok (.iconst 2, 1) := by decide +kernel
theorem dL_law_866 : decode cL_law 866 = .ok (.iadd, 1) := by decide +kernel
theorem dL_law_867 : decode cL_law 867 = .ok (.iaload, 1) := by decide +kernel
theorem dL_law_868 : decode cL_law 868 = .ok (.invokevirtual 129, 3) := by decide +kernel
theorem dL_law_871 : decode cL_law 871 = .ok (.if_icmp .eq 54, 3) := by decide +kernel
theorem dL_law_874 : decode cL_law 874 = .ok (.iconst 0, 1) := by decide +kernel
theorem dL_law_875 : decode cL_law 875 = .ok (.ireturn, 1) := by decide +kernel
theorem dL_law_876 : decode cL_law 876 = .ok (.aload_n 1, 1) := by decide +kernel
theorem dL_law_877 : decode cL_law 877 = .ok (.invokevirtual 130, 3) := by decide +kernel
theorem dL_law_880 : decode cL_law 880 = .ok (.aload_n 2, 1) := by decide +kernel
theorem dL_law_881 : decode cL_law 881 = .ok (.invokevirtual 133, 3) := by decide +kernel
theorem dL_law_884 : decode cL_law 884 = .ok (.if_icmp .eq 41, 3) := by decide +kernel
theorem dL_law_887 : decode cL_law 887 = .ok (.iconst 0, 1) := by decide +kernel
theorem dL_law_888 : decode cL_law 888 = .ok (.ireturn, 1) := by decide +kernel
theorem dL_law_889 : decode cL_law 889 = .ok (.aload_n 1, 1) := by decide +kernel
theorem dL_law_890 : decode cL_law 890 = .ok (.invokevirtual 134, 3) := by decide +kernel
theorem dL_law_893 : decode cL_law 893 = .ok (.aload_n 2, 1) := by decide +kernel
theorem dL_law_894 : decode cL_law 894 = .ok (.invokevirtual 137, 3) := by decide +kernel
theorem dL_law_897 : decode cL_law 897 = .ok (.if_icmp .eq 28, 3) := by decide +kernel
theorem dL_law_900 : decode cL_law 900 = .ok (.iconst 0, 1) := by decide +kernel
theorem dL_law_901 : decode cL_law 901 = .ok (.ireturn, 1) := by decide +kernel
theorem dL_law_902 : decode cL_law 902 = .ok (.aload_n 1, 1) := by decide +kernel
theorem dL_law_903 : decode cL_law 903 = .ok (.aload_n 0, 1) := by decide +kernel
theorem dL_law_904 : decode cL_law 904 = .ok (.iload_n 3, 1) := by decide +kernel
theorem dL_law_905 : decode cL_law 905 = .ok (.iconst 1, 1) := by decide +kernel
theorem dL_law_906 : decode cL_law 906 = .ok (.iadd, 1) := by decide +kernel
theorem dL_law_907 : decode cL_law 907 = .ok (.iaload, 1) := by decide +kernel
theorem dL_law_908 : decode cL_law 908 = .ok (.invokevirtual 138, 3) := by decide +kernel
theorem dL_law_911 : decode cL_law 911 = .ok (.aload_n 2, 1) := by decide +kernel
theorem dL_law_912 : decode cL_law 912 = .ok (.aload_n 0, 1) := by decide +kernel
theorem dL_law_913 : decode cL_law 913 = .ok (.iload_n 3, 1) := by decide +kernel
theorem dL_law_914 : decode cL_law 914 = .ok (.iconst 1, 1) := by decide +kernel
theorem dL_law_915 : decode cL_law 915 = .ok (.iadd, 1) := by decide +kernel
theorem dL_law_916 : decode cL_law 916 = .ok (.iaload, 1) := by decide +kernel
theorem dL_law_917 : decode cL_law 917 = .ok (.invokevirtual 141, 3) := by decide +kernel
theorem dL_law_920 : decode cL_law 920 = .ok (.if_icmp .eq 5, 3) := by decide +kernel
theorem dL_law_923 : decode cL_law 923 = .ok (.iconst 0, 1) := by decide +kernel
theorem dL_law_924 : decode cL_law 924 = .ok (.ireturn, 1) := by decide +kernel
theorem dL_law_925 : decode cL_law 925 = .ok (.iinc 3 5, 3) := by decide +kernel
theorem dL_law_928 : decode cL_law 928 = .ok (.goto (-910), 3) := by decide +kernel
theorem dL_law_931 : decode cL_law 931 = .ok (.iconst 1, 1) := by decide +kernel
theorem dL_law_932 : decode cL_law 932 = .ok (.ireturn, 1) := by decide +kernel
