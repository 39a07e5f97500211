theorem dX5_init_0 : decode cX5_init 0 = .ok (.aload_n 0, 1) := by decide +kernel
theorem dX5_init_1 : decode cX5_init 1 = .ok (.invokespecial 1, 3) := by decide +kernel
theorem dX5_init_4 : decode cX5_init 4 = .ok (.aload_n 0, 1) := by decide +kernel
theorem dX5_init_5 : decode cX5_init 5 = .ok (.bipush 8, 2) := by decide +kernel
theorem dX5_init_7 : decode cX5_init 7 = .ok (.anewarray 9, 3) := by decide +kernel
theorem dX5_init_10 : decode cX5_init 10 = .ok (.putfield 11, 3) := by decide +kernel
theorem dX5_init_13 : decode cX5_init 13 = .ok (.aload_n 0, 1) := by decide +kernel
theorem dX5_init_14 : decode cX5_init 14 = .ok (.new 15, 3) := by decide +kernel
theorem dX5_init_17 : decode cX5_init 17 = .ok (.dup, 1) := by decide +kernel
theorem dX5_init_18 : decode cX5_init 18 = .ok (.invokespecial 17, 3) := by decide +kernel
theorem dX5_init_21 : decode cX5_init 21 = .ok (.putfield 18, 3) := by decide +kernel
theorem dX5_init_24 : decode cX5_init 24 = .ok (.aload_n 0, 1) := by decide +kernel
theorem dX5_init_25 : decode cX5_init 25 = .ok (.new 15, 3) := by decide +kernel
theorem dX5_init_28 : decode cX5_init 28 = .ok (.dup, 1) := by decide +kernel
theorem dX5_init_29 : decode cX5_init 29 = .ok (.invokespecial 17, 3) := by decide +kernel
theorem dX5_init_32 : decode cX5_init 32 = .ok (.putfield 22, 3) := by decide +kernel
theorem dX5_init_35 : decode cX5_init 35 = .ok (.aload_n 0, 1) := by decide +kernel
theorem dX5_init_36 : decode cX5_init 36 = .ok (.new 15, 3) := by decide +kernel
theorem dX5_init_39 : decode cX5_init 39 = .ok (.dup, 1) := by decide +kernel
theorem dX5_init_40 : decode cX5_init 40 = .ok (.invokespecial 17, 3) := by decide +kernel
theorem dX5_init_43 : decode cX5_init 43 = .ok (.putfield 25, 3) := by decide +kernel
theorem dX5_init_46 : decode cX5_init 46 = .ok (.aload_n 0, 1) := by decide +kernel
theorem dX5_init_47 : decode cX5_init 47 = .ok (.new 28, 3) := by decide +kernel
theorem dX5_init_50 : decode cX5_init 50 = .ok (.dup, 1) := by decide +kernel
theorem dX5_init_51 : decode cX5_init 51 = .ok (.invokespecial 30, 3) := by decide +kernel
theorem dX5_init_54 : decode cX5_init 54 = .ok (.putfield 31, 3) := by decide +kernel
theorem dX5_init_57 : decode cX5_init 57 = .ok (.iconst 0, 1) := by decide +kernel
theorem dX5_init_58 : decode cX5_init 58 = .ok (.istore_n 1, 1) := by decide +kernel
theorem dX5_init_59 : decode cX5_init 59 = .ok (.iload_n 1, 1) := by decide +kernel
theorem dX5_init_60 : decode cX5_init 60 = .ok (.bipush 8, 2) := by decide +kernel
theorem dX5_init_62 : decode cX5_init 62 = .ok (.if_icmp .ge 22, 3) := by decide +kernel
theorem dX5_init_65 : decode cX5_init 65 = .ok (.aload_n 0, 1) := by decide +kernel
theorem dX5_init_66 : decode cX5_init 66 = .ok (.getfield 11, 3) := by decide +kernel
theorem dX5_init_69 : decode cX5_init 69 = .ok (.iload_n 1, 1) := by decide +kernel
theorem dX5_init_70 : decode cX5_init 70 = .ok (.new 9, 3) := by decide +kernel
theorem dX5_init_73 : decode cX5_init 73 = .ok (.dup, 1) := by decide +kernel
theorem dX5_init_74 : decode cX5_init 74 = .ok (.invokespecial 35, 3) := by decide +kernel
theorem dX5_init_77 : decode cX5_init 77 = .ok (.aastore, 1) := by decide +kernel
theorem dX5_init_78 : decode cX5_init 78 = .ok (.iinc 1 1, 3) := by decide +kernel
theorem dX5_init_81 : decode cX5_init 81 = .ok (.goto (-22), 3) := by decide +kernel
theorem dX5_init_84 : decode cX5_init 84 = .ok (.return_, 1) := by decide +kernel
theorem dX5_fete_0 : decode cX5_fete 0 = .ok (.aload_n 0, 1) := by decide +kernel
theorem dX5_fete_1 : decode cX5_fete 1 = .ok (.iload_n 1, 1) := by decide +kernel
theorem dX5_fete_2 : decode cX5_fete 2 = .ok (.invokevirtual 36, 3) := by decide +kernel
theorem dX5_fete_5 : decode cX5_fete 5 = .ok (.istore_n 2, 1) := by decide +kernel
theorem dX5_fete_6 : decode cX5_fete 6 = .ok (.iload_n 2, 1) := by decide +kernel
theorem dX5_fete_7 : decode cX5_fete 7 = .ok (.ifCond .eq 5, 3) := by decide +kernel
theorem dX5_fete_10 : decode cX5_fete 10 = .ok (.iload_n 2, 1) := by decide +kernel
theorem dX5_fete_11 : decode cX5_fete 11 = .ok (.ireturn, 1) := by decide +kernel
theorem dX5_fete_12 : decode cX5_fete 12 = .ok (.aload_n 0, 1) := by decide +kernel
theorem dX5_fete_13 : decode cX5_fete 13 = .ok (.getfield 11, 3) := by decide +kernel
theorem dX5_fete_16 : decode cX5_fete 16 = .ok (.iload_n 1, 1) := by decide +kernel
theorem dX5_fete_17 : decode cX5_fete 17 = .ok (.aaload, 1) := by decide +kernel
theorem dX5_fete_18 : decode cX5_fete 18 = .ok (.astore_n 3, 1) := by decide +kernel
theorem dX5_fete_19 : decode cX5_fete 19 = .ok (.aload_n 3, 1) := by decide +kernel
theorem dX5_fete_20 : decode cX5_fete 20 = .ok (.getfield 40, 3) := by decide +kernel
theorem dX5_fete_23 : decode cX5_fete 23 = .ok (.ifCond .eq 6, 3) := by decide +kernel
theorem dX5_fete_26 : decode cX5_fete 26 = .ok (.bipush (-12), 2) := by decide +kernel
theorem dX5_fete_28 : decode cX5_fete 28 = .ok (.ireturn, 1) := by decide +kernel
theorem dX5_fete_29 : decode cX5_fete 29 = .ok (.aload_n 3, 1) := by decide +kernel
theorem dX5_fete_30 : decode cX5_fete 30 = .ok (.invokestatic 44, 3) := by decide +kernel
theorem dX5_fete_33 : decode cX5_fete 33 = .ok (.istore 4, 2) := by decide +kernel
theorem dX5_fete_35 : decode cX5_fete 35 = .ok (.iload 4, 2) := by decide +kernel
theorem dX5_fete_37 : decode cX5_fete 37 = .ok (.ifCond .lt 10, 3) := by decide +kernel
theorem dX5_fete_40 : decode cX5_fete 40 = .ok (.sipush (-1000), 3) := by decide +kernel
theorem dX5_fete_43 : decode cX5_fete 43 = .ok (.iload 4, 2) := by decide +kernel
theorem dX5_fete_45 : decode cX5_fete 45 = .ok (.isub, 1) := by decide +kernel
theorem dX5_fete_46 : decode cX5_fete 46 = .ok (.ireturn, 1) := by decide +kernel
theorem dX5_fete_47 : decode cX5_fete 47 = .ok (.aload_n 0, 1) := by decide +kernel
theorem dX5_fete_48 : decode cX5_fete 48 = .ok (.aload_n 3, 1) := by decide +kernel
theorem dX5_fete_49 : decode cX5_fete 49 = .ok (.invokevirtual 48, 3) := by decide +kernel
theorem dX5_fete_52 : decode cX5_fete 52 = .ok (.ireturn, 1) := by decide +kernel
theorem dX5_person_0 : decode cX5_person 0 = .ok (.aload_n 0, 1) := by decide +kernel
theorem dX5_person_1 : decode cX5_person 1 = .ok (.getfield 18, 3) := by decide +kernel
theorem dX5_person_4 : decode cX5_person 4 = .ok (.iload_n 1, 1) := by decide +kernel
theorem dX5_person_5 : decode cX5_person 5 = .ok (.invokevirtual 51, 3) := by decide +kernel
theorem dX5_person_8 : decode cX5_person 8 = .ok (.ifCond .ne 5, 3) := by decide +kernel
theorem dX5_person_11 : decode cX5_person 11 = .ok (.iconst (-1), 1) := by decide +kernel
theorem dX5_person_12 : decode cX5_person 12 = .ok (.ireturn, 1) := by decide +kernel
theorem dX5_person_13 : decode cX5_person 13 = .ok (.aload_n 0, 1) := by decide +kernel
theorem dX5_person_14 : decode cX5_person 14 = .ok (.getfield 18, 3) := by decide +kernel
theorem dX5_person_17 : decode cX5_person 17 = .ok (.getfield 55, 3) := by decide +kernel
theorem dX5_person_20 : decode cX5_person 20 = .ok (.iload_n 1, 1) := by decide +kernel
theorem dX5_person_21 : decode cX5_person 21 = .ok (.aaload, 1) := by decide +kernel
theorem dX5_person_22 : decode cX5_person 22 = .ok (.astore_n 3, 1) := by decide +kernel
theorem dX5_person_23 : decode cX5_person 23 = .ok (.iload_n 2, 1) := by decide +kernel
theorem dX5_person_24 : decode cX5_person 24 = .ok (.tableswitch 103 0 8 #[52, 60, 65, 70, 75, 80, 85, 90, 95], 52) := by decide +kernel
theorem dX5_person_76 : decode cX5_person 76 = .ok (.aload_n 3, 1) := by decide +kernel
theorem dX5_person_77 : decode cX5_person 77 = .ok (.getfield 59, 3) := by decide +kernel
theorem dX5_person_80 : decode cX5_person 80 = .ok (.getfield 65, 3) := by decide +kernel
theorem dX5_person_83 : decode cX5_person 83 = .ok (.ireturn, 1) := by decide +kernel
theorem dX5_person_84 : decode cX5_person 84 = .ok (.aload_n 3, 1) := by decide +kernel
theorem dX5_person_85 : decode cX5_person 85 = .ok (.getfield 70, 3) := by decide +kernel
theorem dX5_person_88 : decode cX5_person 88 = .ok (.ireturn, 1) := by decide +kernel
theorem dX5_person_89 : decode cX5_person 89 = .ok (.aload_n 3, 1) := by decide +kernel
theorem dX5_person_90 : decode cX5_person 90 = .ok (.getfield 73, 3) := by decide +kernel
theorem dX5_person_93 : decode cX5_person 93 = .ok (.ireturn, 1) := by decide +kernel
theorem dX5_person_94 : decode cX5_person 94 = .ok (.aload_n 3, 1) := by decide +kernel
theorem dX5_person_95 : decode cX5_person 95 = .ok (.getfield 76, 3) := by decide +kernel
theorem dX5_person_98 : decode cX5_person 98 = .ok (.ireturn, 1) := by decide +kernel
theorem dX5_person_99 : decode cX5_person 99 = .ok (.aload_n 3, 1) := by decide +kernel
theorem dX5_person_100 : decode cX5_person 100 = .ok (.getfield 79, 3) := by decide +kernel
theorem dX5_person_103 : decode cX5_person 103 = .ok (.ireturn, 1) := by decide +kernel
theorem dX5_person_104 : decode cX5_person 104 = .ok (.aload_n 3, 1) := by decide +kernel
theorem dX5_person_105 : decode cX5_person 105 = .ok (.getfield 82, 3) := by decide +kernel
theorem dX5_person_108 : decode cX5_person 108 = .ok (.ireturn, 1) := by decide +kernel
theorem dX5_person_109 : decode cX5_person 109 = .ok (.aload_n 3, 1) := by decide +kernel
theorem dX5_person_110 : decode cX5_person 110 = .ok (.getfield 85, 3) := by decide +kernel
theorem dX5_person_113 : decode cX5_person 113 = .ok (.ireturn, 1) := by decide +kernel
theorem dX5_person_114 : decode cX5_person 114 = .ok (.aload_n 3, 1) := by decide +kernel
theorem dX5_person_115 : decode cX5_person 115 = .ok (.getfield 88, 3) := by decide +kernel
theorem dX5_person_118 : decode cX5_person 118 = .ok (.ireturn, 1) := by decide +kernel
theorem dX5_person_119 : decode cX5_person 119 = .ok (.aload_n 3, 1) := by decide +kernel
theorem dX5_person_120 : decode cX5_person 120 = .ok (.getfield 59, 3) := by decide +kernel
theorem dX5_person_123 : decode cX5_person 123 = .ok (.getfield 91, 3) := by decide +kernel
theorem dX5_person_126 : decode cX5_person 126 = .ok (.ireturn, 1) := by decide +kernel
theorem dX5_person_127 : decode cX5_person 127 = .ok (.iconst (-1), 1) := by decide +kernel
theorem dX5_person_128 : decode cX5_person 128 = .ok (.ireturn, 1) := by decide +kernel
theorem dX5_comes_0 : decode cX5_comes 0 = .ok (.iload_n 1, 1) := by decide +kernel
theorem dX5_comes_1 : decode cX5_comes 1 = .ok (.invokestatic 94, 3) := by decide +kernel
theorem dX5_comes_4 : decode cX5_comes 4 = .ok (.ifCond .eq 17, 3) := by decide +kernel
theorem dX5_comes_7 : decode cX5_comes 7 = .ok (.iload_n 2, 1) := by decide +kernel
theorem dX5_comes_8 : decode cX5_comes 8 = .ok (.invokestatic 97, 3) := by decide +kernel
theorem dX5_comes_11 : decode cX5_comes 11 = .ok (.ifCond .eq 10, 3) := by decide +kernel
theorem dX5_comes_14 : decode cX5_comes 14 = .ok (.iload_n 3, 1) := by decide +kernel
theorem dX5_comes_15 : decode cX5_comes 15 = .ok (.invokestatic 97, 3) := by decide +kernel
theorem dX5_comes_18 : decode cX5_comes 18 = .ok (.ifCond .ne 5, 3) := by decide +kernel
theorem dX5_comes_21 : decode cX5_comes 21 = .ok (.iconst (-1), 1) := by decide +kernel
theorem dX5_comes_22 : decode cX5_comes 22 = .ok (.ireturn, 1) := by decide +kernel
theorem dX5_comes_23 : decode cX5_comes 23 = .ok (.aload_n 0, 1) := by decide +kernel
theorem dX5_comes_24 : decode cX5_comes 24 = .ok (.iload_n 1, 1) := by decide +kernel
theorem dX5_comes_25 : decode cX5_comes 25 = .ok (.invokevirtual 100, 3) := by decide +kernel
theorem dX5_comes_28 : decode cX5_comes 28 = .ok (.istore 4, 2) := by decide +kernel
theorem dX5_comes_30 : decode cX5_comes 30 = .ok (.iload 4, 2) := by decide +kernel
theorem dX5_comes_32 : decode cX5_comes 32 = .ok (.ifCond .eq 6, 3) := by decide +kernel
theorem dX5_comes_35 : decode cX5_comes 35 = .ok (.iload 4, 2) := by decide +kernel
theorem dX5_comes_37 : decode cX5_comes 37 = .ok (.ireturn, 1) := by decide +kernel
theorem dX5_comes_38 : decode cX5_comes 38 = .ok (.aload_n 0, 1) := by decide +kernel
theorem dX5_comes_39 : decode cX5_comes 39 = .ok (.getfield 18, 3) := by decide +kernel
theorem dX5_comes_42 : decode cX5_comes 42 = .ok (.getfield 103, 3) := by decide +kernel
theorem dX5_comes_45 : decode cX5_comes 45 = .ok (.istore 5, 2) := by decide +kernel
theorem dX5_comes_47 : decode cX5_comes 47 = .ok (.aload_n 0, 1) := by decide +kernel
theorem dX5_comes_48 : decode cX5_comes 48 = .ok (.getfield 11, 3) := by decide +kernel
theorem dX5_comes_51 : decode cX5_comes 51 = .ok (.iload_n 1, 1) := by decide +kernel
theorem dX5_comes_52 : decode cX5_comes 52 = .ok (.aaload, 1) := by decide +kernel
theorem dX5_comes_53 : decode cX5_comes 53 = .ok (.astore 6, 2) := by decide +kernel
theorem dX5_comes_55 : decode cX5_comes 55 = .ok (.aload_n 0, 1) := by decide +kernel
theorem dX5_comes_56 : decode cX5_comes 56 = .ok (.getfield 18, 3) := by decide +kernel
theorem dX5_comes_59 : decode cX5_comes 59 = .ok (.aload 6, 2) := by decide +kernel
theorem dX5_comes_61 : decode cX5_comes 61 = .ok (.getfield 106, 3) := by decide +kernel
theorem dX5_comes_64 : decode cX5_comes 64 = .ok (.aload 6, 2) := by decide +kernel
theorem dX5_comes_66 : decode cX5_comes 66 = .ok (.getfield 107, 3) := by decide +kernel
theorem dX5_comes_69 : decode cX5_comes 69 = .ok (.iload_n 2, 1) := by decide +kernel
theorem dX5_comes_70 : decode cX5_comes 70 = .ok (.iload_n 3, 1) := by decide +kernel
theorem dX5_comes_71 : decode cX5_comes 71 = .ok (.invokevirtual 108, 3) := by decide +kernel
theorem dX5_comes_74 : decode cX5_comes 74 = .ok (.ifCond .eq 8, 3) := by decide +kernel
theorem dX5_comes_77 : decode cX5_comes 77 = .ok (.iload 5, 2) := by decide +kernel
theorem dX5_comes_79 : decode cX5_comes 79 = .ok (.goto 5, 3) := by decide +kernel
theorem dX5_comes_82 : decode cX5_comes 82 = .ok (.bipush (-2), 2) := by decide +kernel
theorem dX5_comes_84 : decode cX5_comes 84 = .ok (.ireturn, 1) := by decide +kernel
theorem dX5_feels_0 : decode cX5_feels 0 = .ok (.aload_n 0, 1) := by decide +kernel
theorem dX5_feels_1 : decode cX5_feels 1 = .ok (.getfield 18, 3) := by decide +kernel
theorem dX5_feels_4 : decode cX5_feels 4 = .ok (.iload_n 1, 1) := by decide +kernel
theorem dX5_feels_5 : decode cX5_feels 5 = .ok (.invokevirtual 51, 3) := by decide +kernel
theorem dX5_feels_8 : decode cX5_feels 8 = .ok (.ifCond .eq 17, 3) := by decide +kernel
theorem dX5_feels_11 : decode cX5_feels 11 = .ok (.iload_n 2, 1) := by decide +kernel
theorem dX5_feels_12 : decode cX5_feels 12 = .ok (.invokestatic 112, 3) := by decide +kernel
theorem dX5_feels_15 : decode cX5_feels 15 = .ok (.ifCond .eq 10, 3) := by decide +kernel
theorem dX5_feels_18 : decode cX5_feels 18 = .ok (.iload_n 3, 1) := by decide +kernel
theorem dX5_feels_19 : decode cX5_feels 19 = .ok (.invokestatic 97, 3) := by decide +kernel
theorem dX5_feels_22 : decode cX5_feels 22 = .ok (.ifCond .ne 5, 3) := by decide +kernel
theorem dX5_feels_25 : decode cX5_feels 25 = .ok (.iconst (-1), 1) := by decide +kernel
theorem dX5_feels_26 : decode cX5_feels 26 = .ok (.ireturn, 1) := by decide +kernel
theorem dX5_feels_27 : decode cX5_feels 27 = .ok (.aload_n 0, 1) := by decide +kernel
theorem dX5_feels_28 : decode cX5_feels 28 = .ok (.getfield 18, 3) := by decide +kernel
theorem dX5_feels_31 : decode cX5_feels 31 = .ok (.getfield 55, 3) := by decide +kernel
theorem dX5_feels_34 : decode cX5_feels 34 = .ok (.iload_n 1, 1) := by decide +kernel
theorem dX5_feels_35 : decode cX5_feels 35 = .ok (.aaload, 1) := by decide +kernel
theorem dX5_feels_36 : decode cX5_feels 36 = .ok (.astore 4, 2) := by decide +kernel
theorem dX5_feels_38 : decode cX5_feels 38 = .ok (.iload_n 2, 1) := by decide +kernel
theorem dX5_feels_39 : decode cX5_feels 39 = .ok (.ifCond .ne 11, 3) := by decide +kernel
theorem dX5_feels_42 : decode cX5_feels 42 = .ok (.aload 4, 2) := by decide +kernel
theorem dX5_feels_44 : decode cX5_feels 44 = .ok (.getfield 73, 3) := by decide +kernel
theorem dX5_feels_47 : decode cX5_feels 47 = .ok (.goto 8, 3) := by decide +kernel
theorem dX5_feels_50 : decode cX5_feels 50 = .ok (.aload 4, 2) := by decide +kernel
theorem dX5_feels_52 : decode cX5_feels 52 = .ok (.getfield 76, 3) := by decide +kernel
theorem dX5_feels_55 : decode cX5_feels 55 = .ok (.istore 5, 2) := by decide +kernel
theorem dX5_feels_57 : decode cX5_feels 57 = .ok (.iload_n 2, 1) := by decide +kernel
theorem dX5_feels_58 : decode cX5_feels 58 = .ok (.ifCond .ne 12, 3) := by decide +kernel
theorem dX5_feels_61 : decode cX5_feels 61 = .ok (.aload 4, 2) := by decide +kernel
theorem dX5_feels_63 : decode cX5_feels 63 = .ok (.iload_n 3, 1) := by decide +kernel
theorem dX5_feels_64 : decode cX5_feels 64 = .ok (.putfield 73, 3) := by decide +kernel
theorem dX5_feels_67 : decode cX5_feels 67 = .ok (.goto 9, 3) := by decide +kernel
theorem dX5_feels_70 : decode cX5_feels 70 = .ok (.aload 4, 2) := by decide +kernel
theorem dX5_feels_72 : decode cX5_feels 72 = .ok (.iload_n 3, 1) := by decide +kernel
theorem dX5_feels_73 : decode cX5_feels 73 = .ok (.putfield 76, 3) := by decide +kernel
theorem dX5_feels_76 : decode cX5_feels 76 = .ok (.iload 5, 2) := by decide +kernel
theorem dX5_feels_78 : decode cX5_feels 78 = .ok (.ireturn, 1) := by decide +kernel
theorem dX5_slices_0 : decode cX5_slices 0 = .ok (.iload_n 1, 1) := by decide +kernel
theorem dX5_slices_1 : decode cX5_slices 1 = .ok (.iconst 0, 1) := by decide +kernel
theorem dX5_slices_2 : decode cX5_slices 2 = .ok (.bipush 99, 2) := by decide +kernel
theorem dX5_slices_4 : decode cX5_slices 4 = .ok (.invokestatic 115, 3) := by decide +kernel
theorem dX5_slices_7 : decode cX5_slices 7 = .ok (.ifCond .ne 5, 3) := by decide +kernel
theorem dX5_slices_10 : decode cX5_slices 10 = .ok (.iconst (-1), 1) := by decide +kernel
theorem dX5_slices_11 : decode cX5_slices 11 = .ok (.ireturn, 1) := by decide +kernel
theorem dX5_slices_12 : decode cX5_slices 12 = .ok (.aload_n 0, 1) := by decide +kernel
theorem dX5_slices_13 : decode cX5_slices 13 = .ok (.getfield 18, 3) := by decide +kernel
theorem dX5_slices_16 : decode cX5_slices 16 = .ok (.getfield 119, 3) := by decide +kernel
theorem dX5_slices_19 : decode cX5_slices 19 = .ok (.istore_n 2, 1) := by decide +kernel
theorem dX5_slices_20 : decode cX5_slices 20 = .ok (.aload_n 0, 1) := by decide +kernel
theorem dX5_slices_21 : decode cX5_slices 21 = .ok (.getfield 18, 3) := by decide +kernel
theorem dX5_slices_24 : decode cX5_slices 24 = .ok (.iload_n 1, 1) := by decide +kernel
theorem dX5_slices_25 : decode cX5_slices 25 = .ok (.putfield 119, 3) := by decide +kernel
theorem dX5_slices_28 : decode cX5_slices 28 = .ok (.iload_n 2, 1) := by decide +kernel
theorem dX5_slices_29 : decode cX5_slices 29 = .ok (.ireturn, 1) := by decide +kernel
theorem dX5_eats_0 : decode cX5_eats 0 = .ok (.aload_n 0, 1) := by decide +kernel
theorem dX5_eats_1 : decode cX5_eats 1 = .ok (.getfield 18, 3) := by decide +kernel
theorem dX5_eats_4 : decode cX5_eats 4 = .ok (.iload_n 1, 1) := by decide +kernel
theorem dX5_eats_5 : decode cX5_eats 5 = .ok (.iload_n 2, 1) := by decide +kernel
theorem dX5_eats_6 : decode cX5_eats 6 = .ok (.invokevirtual 122, 3) := by decide +kernel
theorem dX5_eats_9 : decode cX5_eats 9 = .ok (.ifCond .ne 5, 3) := by decide +kernel
theorem dX5_eats_12 : decode cX5_eats 12 = .ok (.iconst (-1), 1) := by decide +kernel
theorem dX5_eats_13 : decode cX5_eats 13 = .ok (.ireturn, 1) := by decide +kernel
theorem dX5_eats_14 : decode cX5_eats 14 = .ok (.aload_n 0, 1) := by decide +kernel
theorem dX5_eats_15 : decode cX5_eats 15 = .ok (.getfield 18, 3) := by decide +kernel
theorem dX5_eats_18 : decode cX5_eats 18 = .ok (.iload_n 1, 1) := by decide +kernel
theorem dX5_eats_19 : decode cX5_eats 19 = .ok (.iload_n 2, 1) := by decide +kernel
theorem dX5_eats_20 : decode cX5_eats 20 = .ok (.invokevirtual 126, 3) := by decide +kernel
theorem dX5_eats_23 : decode cX5_eats 23 = .ok (.ifCond .ne 6, 3) := by decide +kernel
theorem dX5_eats_26 : decode cX5_eats 26 = .ok (.bipush (-3), 2) := by decide +kernel
theorem dX5_eats_28 : decode cX5_eats 28 = .ok (.ireturn, 1) := by decide +kernel
theorem dX5_eats_29 : decode cX5_eats 29 = .ok (.aload_n 0, 1) := by decide +kernel
theorem dX5_eats_30 : decode cX5_eats 30 = .ok (.getfield 18, 3) := by decide +kernel
theorem dX5_eats_33 : decode cX5_eats 33 = .ok (.iload_n 1, 1) := by decide +kernel
theorem dX5_eats_34 : decode cX5_eats 34 = .ok (.iload_n 2, 1) := by decide +kernel
theorem dX5_eats_35 : decode cX5_eats 35 = .ok (.invokevirtual 129, 3) := by decide +kernel
theorem dX5_eats_38 : decode cX5_eats 38 = .ok (.ireturn, 1) := by decide +kernel
theorem dX5_joys_0 : decode cX5_joys 0 = .ok (.aload_n 0, 1) := by decide +kernel
theorem dX5_joys_1 : decode cX5_joys 1 = .ok (.getfield 18, 3) := by decide +kernel
theorem dX5_joys_4 : decode cX5_joys 4 = .ok (.iload_n 1, 1) := by decide +kernel
theorem dX5_joys_5 : decode cX5_joys 5 = .ok (.iload_n 2, 1) := by decide +kernel
theorem dX5_joys_6 : decode cX5_joys 6 = .ok (.invokevirtual 122, 3) := by decide +kernel
theorem dX5_joys_9 : decode cX5_joys 9 = .ok (.ifCond .eq 12, 3) := by decide +kernel
theorem dX5_joys_12 : decode cX5_joys 12 = .ok (.iload_n 3, 1) := by decide +kernel
theorem dX5_joys_13 : decode cX5_joys 13 = .ok (.iconst 0, 1) := by decide +kernel
theorem dX5_joys_14 : decode cX5_joys 14 = .ok (.iconst 2, 1) := by decide +kernel
theorem dX5_joys_15 : decode cX5_joys 15 = .ok (.invokestatic 115, 3) := by decide +kernel
theorem dX5_joys_18 : decode cX5_joys 18 = .ok (.ifCond .ne 5, 3) := by decide +kernel
theorem dX5_joys_21 : decode cX5_joys 21 = .ok (.iconst (-1), 1) := by decide +kernel
theorem dX5_joys_22 : decode cX5_joys 22 = .ok (.ireturn, 1) := by decide +kernel
theorem dX5_joys_23 : decode cX5_joys 23 = .ok (.aload_n 0, 1) := by decide +kernel
theorem dX5_joys_24 : decode cX5_joys 24 = .ok (.getfield 18, 3) := by decide +kernel
theorem dX5_joys_27 : decode cX5_joys 27 = .ok (.iload_n 1, 1) := by decide +kernel
theorem dX5_joys_28 : decode cX5_joys 28 = .ok (.iload_n 2, 1) := by decide +kernel
theorem dX5_joys_29 : decode cX5_joys 29 = .ok (.invokevirtual 133, 3) := by decide +kernel
theorem dX5_joys_32 : decode cX5_joys 32 = .ok (.ifCond .ne 6, 3) := by decide +kernel
theorem dX5_joys_35 : decode cX5_joys 35 = .ok (.bipush (-3), 2) := by decide +kernel
theorem dX5_joys_37 : decode cX5_joys 37 = .ok (.ireturn, 1) := by decide +kernel
theorem dX5_joys_38 : decode cX5_joys 38 = .ok (.iload_n 3, 1) := by decide +kernel
theorem dX5_joys_39 : decode cX5_joys 39 = .ok (.ifCond .ne 13, 3) := by decide +kernel
theorem dX5_joys_42 : decode cX5_joys 42 = .ok (.aload_n 0, 1) := by decide +kernel
theorem dX5_joys_43 : decode cX5_joys 43 = .ok (.getfield 18, 3) := by decide +kernel
theorem dX5_joys_46 : decode cX5_joys 46 = .ok (.iload_n 1, 1) := by decide +kernel
theorem dX5_joys_47 : decode cX5_joys 47 = .ok (.iload_n 2, 1) := by decide +kernel
theorem dX5_joys_48 : decode cX5_joys 48 = .ok (.invokevirtual 136, 3) := by decide +kernel
theorem dX5_joys_51 : decode cX5_joys 51 = .ok (.ireturn, 1) := by decide +kernel
theorem dX5_joys_52 : decode cX5_joys 52 = .ok (.iload_n 3, 1) := by decide +kernel
theorem dX5_joys_53 : decode cX5_joys 53 = .ok (.iconst 1, 1) := by decide +kernel
theorem dX5_joys_54 : decode cX5_joys 54 = .ok (.if_icmp .ne 15, 3) := by decide +kernel
theorem dX5_joys_57 : decode cX5_joys 57 = .ok (.aload_n 0, 1) := by decide +kernel
theorem dX5_joys_58 : decode cX5_joys 58 = .ok (.getfield 18, 3) := by decide +kernel
theorem dX5_joys_61 : decode cX5_joys 61 = .ok (.iload_n 1, 1) := by decide +kernel
theorem dX5_joys_62 : decode cX5_joys 62 = .ok (.iload_n 2, 1) := by decide +kernel
theorem dX5_joys_63 : decode cX5_joys 63 = .ok (.invokevirtual 139, 3) := by decide +kernel
theorem dX5_joys_66 : decode cX5_joys 66 = .ok (.goto 11, 3) := by decide +kernel
theorem dX5_joys_69 : decode cX5_joys 69 = .ok (.aload_n 0, 1) := by decide +kernel
theorem dX5_joys_70 : decode cX5_joys 70 = .ok (.getfield 18, 3) := by decide +kernel
theorem dX5_joys_73 : decode cX5_joys 73 = .ok (.iload_n 2, 1) := by decide +kernel
theorem dX5_joys_74 : decode cX5_joys 74 = .ok (.invokevirtual 142, 3) := by decide +kernel
theorem dX5_joys_77 : decode cX5_joys 77 = .ok (.ireturn, 1) := by decide +kernel
theorem dX5_who_0 : decode cX5_who 0 = .ok (.iload_n 1, 1) := by decide +kernel
theorem dX5_who_1 : decode cX5_who 1 = .ok (.invokestatic 112, 3) := by decide +kernel
theorem dX5_who_4 : decode cX5_who 4 = .ok (.ifCond .ne 5, 3) := by decide +kernel
theorem dX5_who_7 : decode cX5_who 7 = .ok (.iconst (-1), 1) := by decide +kernel
theorem dX5_who_8 : decode cX5_who 8 = .ok (.ireturn, 1) := by decide +kernel
theorem dX5_who_9 : decode cX5_who 9 = .ok (.iconst 0, 1) := by decide +kernel
theorem dX5_who_10 : decode cX5_who 10 = .ok (.istore_n 2, 1) := by decide +kernel
theorem dX5_who_11 : decode cX5_who 11 = .ok (.iconst 0, 1) := by decide +kernel
theorem dX5_who_12 : decode cX5_who 12 = .ok (.istore_n 3, 1) := by decide +kernel
theorem dX5_who_13 : decode cX5_who 13 = .ok (.iload_n 3, 1) := by decide +kernel
theorem dX5_who_14 : decode cX5_who 14 = .ok (.aload_n 0, 1) := by decide +kernel
theorem dX5_who_15 : decode cX5_who 15 = .ok (.getfield 18, 3) := by decide +kernel
theorem dX5_who_18 : decode cX5_who 18 = .ok (.getfield 103, 3) := by decide +kernel
theorem dX5_who_21 : decode cX5_who 21 = .ok (.if_icmp .ge 58, 3) := by decide +kernel
theorem dX5_who_24 : decode cX5_who 24 = .ok (.iconst 0, 1) := by decide +kernel
theorem dX5_who_25 : decode cX5_who 25 = .ok (.istore 4, 2) := by decide +kernel
theorem dX5_who_27 : decode cX5_who 27 = .ok (.iload 4, 2) := by decide +kernel
theorem dX5_who_29 : decode cX5_who 29 = .ok (.aload_n 0, 1) := by decide +kernel
theorem dX5_who_30 : decode cX5_who 30 = .ok (.getfield 18, 3) := by decide +kernel
theorem dX5_who_33 : decode cX5_who 33 = .ok (.getfield 103, 3) := by decide +kernel
theorem dX5_who_36 : decode cX5_who 36 = .ok (.if_icmp .ge 37, 3) := by decide +kernel
theorem dX5_who_39 : decode cX5_who 39 = .ok (.aload_n 0, 1) := by decide +kernel
theorem dX5_who_40 : decode cX5_who 40 = .ok (.getfield 18, 3) := by decide +kernel
theorem dX5_who_43 : decode cX5_who 43 = .ok (.iload_n 3, 1) := by decide +kernel
theorem dX5_who_44 : decode cX5_who 44 = .ok (.iload 4, 2) := by decide +kernel
theorem dX5_who_46 : decode cX5_who 46 = .ok (.invokevirtual 133, 3) := by decide +kernel
theorem dX5_who_49 : decode cX5_who 49 = .ok (.ifCond .eq 18, 3) := by decide +kernel
theorem dX5_who_52 : decode cX5_who 52 = .ok (.iload_n 2, 1) := by decide +kernel
theorem dX5_who_53 : decode cX5_who 53 = .ok (.iconst 1, 1) := by decide +kernel
theorem dX5_who_54 : decode cX5_who 54 = .ok (.iload_n 1, 1) := by decide +kernel
theorem dX5_who_55 : decode cX5_who 55 = .ok (.ifCond .ne 7, 3) := by decide +kernel
theorem dX5_who_58 : decode cX5_who 58 = .ok (.iload_n 3, 1) := by decide +kernel
theorem dX5_who_59 : decode cX5_who 59 = .ok (.goto 5, 3) := by decide +kernel
theorem dX5_who_62 : decode cX5_who 62 = .ok (.iload 4, 2) := by decide +kernel
theorem dX5_who_64 : decode cX5_who 64 = .ok (.ishl, 1) := by decide +kernel
theorem dX5_who_65 : decode cX5_who 65 = .ok (.ior, 1) := by decide +kernel
theorem dX5_who_66 : decode cX5_who 66 = .ok (.istore_n 2, 1) := by decide +kernel
theorem dX5_who_67 : decode cX5_who 67 = .ok (.iinc 4 1, 3) := by decide +kernel
theorem dX5_who_70 : decode cX5_who 70 = .ok (.goto (-43), 3) := by decide +kernel
theorem dX5_who_73 : decode cX5_who 73 = .ok (.iinc 3 1, 3) := by decide +kernel
theorem dX5_who_76 : decode cX5_who 76 = .ok (.goto (-63), 3) := by decide +kernel
theorem dX5_who_79 : decode cX5_who 79 = .ok (.iload_n 2, 1) := by decide +kernel
theorem dX5_who_80 : decode cX5_who 80 = .ok (.ireturn, 1) := by decide +kernel
theorem dX5_bestPair_0 : decode cX5_bestPair 0 = .ok (.iload_n 1, 1) := by decide +kernel
theorem dX5_bestPair_1 : decode cX5_bestPair 1 = .ok (.invokestatic 112, 3) := by decide +kernel
theorem dX5_bestPair_4 : decode cX5_bestPair 4 = .ok (.ifCond .ne 5, 3) := by decide +kernel
theorem dX5_bestPair_7 : decode cX5_bestPair 7 = .ok (.iconst (-1), 1) := by decide +kernel
theorem dX5_bestPair_8 : decode cX5_bestPair 8 = .ok (.ireturn, 1) := by decide +kernel
theorem dX5_bestPair_9 : decode cX5_bestPair 9 = .ok (.aload_n 0, 1) := by decide +kernel
theorem dX5_bestPair_10 : decode cX5_bestPair 10 = .ok (.getfield 18, 3) := by decide +kernel
theorem dX5_bestPair_13 : decode cX5_bestPair 13 = .ok (.invokevirtual 145, 3) := by decide +kernel
theorem dX5_bestPair_16 : decode cX5_bestPair 16 = .ok (.istore_n 2, 1) := by decide +kernel
theorem dX5_bestPair_17 : decode cX5_bestPair 17 = .ok (.iload_n 2, 1) := by decide +kernel
theorem dX5_bestPair_18 : decode cX5_bestPair 18 = .ok (.ifCond .lt 7, 3) := by decide +kernel
theorem dX5_bestPair_21 : decode cX5_bestPair 21 = .ok (.iload_n 1, 1) := by decide +kernel
theorem dX5_bestPair_22 : decode cX5_bestPair 22 = .ok (.ifCond .ne 5, 3) := by decide +kernel
theorem dX5_bestPair_25 : decode cX5_bestPair 25 = .ok (.iload_n 2, 1) := by decide +kernel
theorem dX5_bestPair_26 : decode cX5_bestPair 26 = .ok (.ireturn, 1) := by decide +kernel
theorem dX5_bestPair_27 : decode cX5_bestPair 27 = .ok (.aload_n 0, 1) := by decide +kernel
theorem dX5_bestPair_28 : decode cX5_bestPair 28 = .ok (.getfield 18, 3) := by decide +kernel
theorem dX5_bestPair_31 : decode cX5_bestPair 31 = .ok (.iload_n 2, 1) := by decide +kernel
theorem dX5_bestPair_32 : decode cX5_bestPair 32 = .ok (.bipush 10, 2) := by decide +kernel
theorem dX5_bestPair_34 : decode cX5_bestPair 34 = .ok (.idiv, 1) := by decide +kernel
theorem dX5_bestPair_35 : decode cX5_bestPair 35 = .ok (.iload_n 2, 1) := by decide +kernel
theorem dX5_bestPair_36 : decode cX5_bestPair 36 = .ok (.bipush 10, 2) := by decide +kernel
theorem dX5_bestPair_38 : decode cX5_bestPair 38 = .ok (.irem, 1) := by decide +kernel
theorem dX5_bestPair_39 : decode cX5_bestPair 39 = .ok (.invokevirtual 136, 3) := by decide +kernel
theorem dX5_bestPair_42 : decode cX5_bestPair 42 = .ok (.ireturn, 1) := by decide +kernel
theorem dX5_bestLooker_0 : decode cX5_bestLooker 0 = .ok (.aload_n 0, 1) := by decide +kernel
theorem dX5_bestLooker_1 : decode cX5_bestLooker 1 = .ok (.getfield 18, 3) := by decide +kernel
theorem dX5_bestLooker_4 : decode cX5_bestLooker 4 = .ok (.iload_n 1, 1) := by decide +kernel
theorem dX5_bestLooker_5 : decode cX5_bestLooker 5 = .ok (.invokevirtual 51, 3) := by decide +kernel
theorem dX5_bestLooker_8 : decode cX5_bestLooker 8 = .ok (.ifCond .eq 14, 3) := by decide +kernel
theorem dX5_bestLooker_11 : decode cX5_bestLooker 11 = .ok (.aload_n 0, 1) := by decide +kernel
theorem dX5_bestLooker_12 : decode cX5_bestLooker 12 = .ok (.getfield 18, 3) := by decide +kernel
theorem dX5_bestLooker_15 : decode cX5_bestLooker 15 = .ok (.iload_n 1, 1) := by decide +kernel
theorem dX5_bestLooker_16 : decode cX5_bestLooker 16 = .ok (.invokevirtual 149, 3) := by decide +kernel
theorem dX5_bestLooker_19 : decode cX5_bestLooker 19 = .ok (.goto 4, 3) := by decide +kernel
theorem dX5_bestLooker_22 : decode cX5_bestLooker 22 = .ok (.iconst (-1), 1) := by decide +kernel
theorem dX5_bestLooker_23 : decode cX5_bestLooker 23 = .ok (.ireturn, 1) := by decide +kernel
theorem dX5_twoTurns_0 : decode cX5_twoTurns 0 = .ok (.iload_n 1, 1) := by decide +kernel
theorem dX5_twoTurns_1 : decode cX5_twoTurns 1 = .ok (.invokestatic 112, 3) := by decide +kernel
theorem dX5_twoTurns_4 : decode cX5_twoTurns 4 = .ok (.ifCond .ne 5, 3) := by decide +kernel
theorem dX5_twoTurns_7 : decode cX5_twoTurns 7 = .ok (.iconst (-1), 1) := by decide +kernel
theorem dX5_twoTurns_8 : decode cX5_twoTurns 8 = .ok (.ireturn, 1) := by decide +kernel
theorem dX5_twoTurns_9 : decode cX5_twoTurns 9 = .ok (.iconst 0, 1) := by decide +kernel
theorem dX5_twoTurns_10 : decode cX5_twoTurns 10 = .ok (.istore_n 2, 1) := by decide +kernel
theorem dX5_twoTurns_11 : decode cX5_twoTurns 11 = .ok (.bipush (-4), 2) := by decide +kernel
theorem dX5_twoTurns_13 : decode cX5_twoTurns 13 = .ok (.istore_n 3, 1) := by decide +kernel
theorem dX5_twoTurns_14 : decode cX5_twoTurns 14 = .ok (.iconst 0, 1) := by decide +kernel
theorem dX5_twoTurns_15 : decode cX5_twoTurns 15 = .ok (.istore 4, 2) := by decide +kernel
theorem dX5_twoTurns_17 : decode cX5_twoTurns 17 = .ok (.iload 4, 2) := by decide +kernel
theorem dX5_twoTurns_19 : decode cX5_twoTurns 19 = .ok (.aload_n 0, 1) := by decide +kernel
theorem dX5_twoTurns_20 : decode cX5_twoTurns 20 = .ok (.getfield 18, 3) := by decide +kernel
theorem dX5_twoTurns_23 : decode cX5_twoTurns 23 = .ok (.getfield 103, 3) := by decide +kernel
theorem dX5_twoTurns_26 : decode cX5_twoTurns 26 = .ok (.if_icmp .ge 76, 3) := by decide +kernel
theorem dX5_twoTurns_29 : decode cX5_twoTurns 29 = .ok (.iconst 0, 1) := by decide +kernel
theorem dX5_twoTurns_30 : decode cX5_twoTurns 30 = .ok (.istore 5, 2) := by decide +kernel
theorem dX5_twoTurns_32 : decode cX5_twoTurns 32 = .ok (.iload 5, 2) := by decide +kernel
theorem dX5_twoTurns_34 : decode cX5_twoTurns 34 = .ok (.aload_n 0, 1) := by decide +kernel
theorem dX5_twoTurns_35 : decode cX5_twoTurns 35 = .ok (.getfield 18, 3) := by decide +kernel
theorem dX5_twoTurns_38 : decode cX5_twoTurns 38 = .ok (.getfield 103, 3) := by decide +kernel
theorem dX5_twoTurns_41 : decode cX5_twoTurns 41 = .ok (.if_icmp .ge 55, 3) := by decide +kernel
theorem dX5_twoTurns_44 : decode cX5_twoTurns 44 = .ok (.aload_n 0, 1) := by decide +kernel
theorem dX5_twoTurns_45 : decode cX5_twoTurns 45 = .ok (.getfield 18, 3) := by decide +kernel
theorem dX5_twoTurns_48 : decode cX5_twoTurns 48 = .ok (.iload 4, 2) := by decide +kernel
theorem dX5_twoTurns_50 : decode cX5_twoTurns 50 = .ok (.iload 5, 2) := by decide +kernel
theorem dX5_twoTurns_52 : decode cX5_twoTurns 52 = .ok (.invokevirtual 133, 3) := by decide +kernel
theorem dX5_twoTurns_55 : decode cX5_twoTurns 55 = .ok (.ifCond .eq 35, 3) := by decide +kernel
theorem dX5_twoTurns_58 : decode cX5_twoTurns 58 = .ok (.aload_n 0, 1) := by decide +kernel
theorem dX5_twoTurns_59 : decode cX5_twoTurns 59 = .ok (.iload 4, 2) := by decide +kernel
theorem dX5_twoTurns_61 : decode cX5_twoTurns 61 = .ok (.iload 5, 2) := by decide +kernel
theorem dX5_twoTurns_63 : decode cX5_twoTurns 63 = .ok (.invokevirtual 152, 3) := by decide +kernel
theorem dX5_twoTurns_66 : decode cX5_twoTurns 66 = .ok (.istore 6, 2) := by decide +kernel
theorem dX5_twoTurns_68 : decode cX5_twoTurns 68 = .ok (.iload_n 3, 1) := by decide +kernel
theorem dX5_twoTurns_69 : decode cX5_twoTurns 69 = .ok (.ifCond .lt 9, 3) := by decide +kernel
theorem dX5_twoTurns_72 : decode cX5_twoTurns 72 = .ok (.iload 6, 2) := by decide +kernel
theorem dX5_twoTurns_74 : decode cX5_twoTurns 74 = .ok (.iload_n 2, 1) := by decide +kernel
theorem dX5_twoTurns_75 : decode cX5_twoTurns 75 = .ok (.if_icmp .le 15, 3) := by decide +kernel
theorem dX5_twoTurns_78 : decode cX5_twoTurns 78 = .ok (.iload 6, 2) := by decide +kernel
theorem dX5_twoTurns_80 : decode cX5_twoTurns 80 = .ok (.istore_n 2, 1) := by decide +kernel
theorem dX5_twoTurns_81 : decode cX5_twoTurns 81 = .ok (.bipush 10, 2) := by decide +kernel
theorem dX5_twoTurns_83 : decode cX5_twoTurns 83 = .ok (.iload 4, 2) := by decide +kernel
theorem dX5_twoTurns_85 : decode cX5_twoTurns 85 = .ok (.imul, 1) := by decide +kernel
theorem dX5_twoTurns_86 : decode cX5_twoTurns 86 = .ok (.iload 5, 2) := by decide +kernel
theorem dX5_twoTurns_88 : decode cX5_twoTurns 88 = .ok (.iadd, 1) := by decide +kernel
theorem dX5_twoTurns_89 : decode cX5_twoTurns 89 = .ok (.istore_n 3, 1) := by decide +kernel
theorem dX5_twoTurns_90 : decode cX5_twoTurns 90 = .ok (.iinc 5 1, 3) := by decide +kernel
theorem dX5_twoTurns_93 : decode cX5_twoTurns 93 = .ok (.goto (-61), 3) := by decide +kernel
theorem dX5_twoTurns_96 : decode cX5_twoTurns 96 = .ok (.iinc 4 1, 3) := by decide +kernel
theorem dX5_twoTurns_99 : decode cX5_twoTurns 99 = .ok (.goto (-82), 3) := by decide +kernel
theorem dX5_twoTurns_102 : decode cX5_twoTurns 102 = .ok (.iload_n 1, 1) := by decide +kernel
theorem dX5_twoTurns_103 : decode cX5_twoTurns 103 = .ok (.ifCond .ne 7, 3) := by decide +kernel
theorem dX5_twoTurns_106 : decode cX5_twoTurns 106 = .ok (.iload_n 2, 1) := by decide +kernel
theorem dX5_twoTurns_107 : decode cX5_twoTurns 107 = .ok (.goto 4, 3) := by decide +kernel
theorem dX5_twoTurns_110 : decode cX5_twoTurns 110 = .ok (.iload_n 3, 1) := by decide +kernel
theorem dX5_twoTurns_111 : decode cX5_twoTurns 111 = .ok (.ireturn, 1) := by decide +kernel
theorem dX5_pairs_0 : decode cX5_pairs 0 = .ok (.iload_n 1, 1) := by decide +kernel
theorem dX5_pairs_1 : decode cX5_pairs 1 = .ok (.iconst (-1), 1) := by decide +kernel
theorem dX5_pairs_2 : decode cX5_pairs 2 = .ok (.if_icmp .lt 14, 3) := by decide +kernel
theorem dX5_pairs_5 : decode cX5_pairs 5 = .ok (.iload_n 1, 1) := by decide +kernel
theorem dX5_pairs_6 : decode cX5_pairs 6 = .ok (.aload_n 0, 1) := by decide +kernel
theorem dX5_pairs_7 : decode cX5_pairs 7 = .ok (.getfield 18, 3) := by decide +kernel
theorem dX5_pairs_10 : decode cX5_pairs 10 = .ok (.getfield 103, 3) := by decide +kernel
theorem dX5_pairs_13 : decode cX5_pairs 13 = .ok (.if_icmp .lt 5, 3) := by decide +kernel
theorem dX5_pairs_16 : decode cX5_pairs 16 = .ok (.iconst (-1), 1) := by decide +kernel
theorem dX5_pairs_17 : decode cX5_pairs 17 = .ok (.ireturn, 1) := by decide +kernel
theorem dX5_pairs_18 : decode cX5_pairs 18 = .ok (.aload_n 0, 1) := by decide +kernel
theorem dX5_pairs_19 : decode cX5_pairs 19 = .ok (.getfield 31, 3) := by decide +kernel
theorem dX5_pairs_22 : decode cX5_pairs 22 = .ok (.aload_n 0, 1) := by decide +kernel
theorem dX5_pairs_23 : decode cX5_pairs 23 = .ok (.getfield 18, 3) := by decide +kernel
theorem dX5_pairs_26 : decode cX5_pairs 26 = .ok (.invokevirtual 155, 3) := by decide +kernel
theorem dX5_pairs_29 : decode cX5_pairs 29 = .ok (.iload_n 1, 1) := by decide +kernel
theorem dX5_pairs_30 : decode cX5_pairs 30 = .ok (.ifCond .ge 13, 3) := by decide +kernel
theorem dX5_pairs_33 : decode cX5_pairs 33 = .ok (.aload_n 0, 1) := by decide +kernel
theorem dX5_pairs_34 : decode cX5_pairs 34 = .ok (.getfield 31, 3) := by decide +kernel
theorem dX5_pairs_37 : decode cX5_pairs 37 = .ok (.getfield 159, 3) := by decide +kernel
theorem dX5_pairs_40 : decode cX5_pairs 40 = .ok (.goto 12, 3) := by decide +kernel
theorem dX5_pairs_43 : decode cX5_pairs 43 = .ok (.aload_n 0, 1) := by decide +kernel
theorem dX5_pairs_44 : decode cX5_pairs 44 = .ok (.getfield 31, 3) := by decide +kernel
theorem dX5_pairs_47 : decode cX5_pairs 47 = .ok (.getfield 162, 3) := by decide +kernel
theorem dX5_pairs_50 : decode cX5_pairs 50 = .ok (.iload_n 1, 1) := by decide +kernel
theorem dX5_pairs_51 : decode cX5_pairs 51 = .ok (.iaload, 1) := by decide +kernel
theorem dX5_pairs_52 : decode cX5_pairs 52 = .ok (.ireturn, 1) := by decide +kernel
theorem dX5_greedily_0 : decode cX5_greedily 0 = .ok (.iload_n 1, 1) := by decide +kernel
theorem dX5_greedily_1 : decode cX5_greedily 1 = .ok (.iconst 0, 1) := by decide +kernel
theorem dX5_greedily_2 : decode cX5_greedily 2 = .ok (.bipush 30, 2) := by decide +kernel
theorem dX5_greedily_4 : decode cX5_greedily 4 = .ok (.invokestatic 115, 3) := by decide +kernel
theorem dX5_greedily_7 : decode cX5_greedily 7 = .ok (.ifCond .eq 10, 3) := by decide +kernel
theorem dX5_greedily_10 : decode cX5_greedily 10 = .ok (.iload_n 2, 1) := by decide +kernel
theorem dX5_greedily_11 : decode cX5_greedily 11 = .ok (.invokestatic 112, 3) := by decide +kernel
theorem dX5_greedily_14 : decode cX5_greedily 14 = .ok (.ifCond .ne 5, 3) := by decide +kernel
theorem dX5_greedily_17 : decode cX5_greedily 17 = .ok (.iconst (-1), 1) := by decide +kernel
theorem dX5_greedily_18 : decode cX5_greedily 18 = .ok (.ireturn, 1) := by decide +kernel
theorem dX5_greedily_19 : decode cX5_greedily 19 = .ok (.aload_n 0, 1) := by decide +kernel
theorem dX5_greedily_20 : decode cX5_greedily 20 = .ok (.getfield 25, 3) := by decide +kernel
theorem dX5_greedily_23 : decode cX5_greedily 23 = .ok (.aload_n 0, 1) := by decide +kernel
theorem dX5_greedily_24 : decode cX5_greedily 24 = .ok (.getfield 18, 3) := by decide +kernel
theorem dX5_greedily_27 : decode cX5_greedily 27 = .ok (.invokevirtual 166, 3) := by decide +kernel
theorem dX5_greedily_30 : decode cX5_greedily 30 = .ok (.iconst 0, 1) := by decide +kernel
theorem dX5_greedily_31 : decode cX5_greedily 31 = .ok (.istore_n 3, 1) := by decide +kernel
theorem dX5_greedily_32 : decode cX5_greedily 32 = .ok (.iconst 0, 1) := by decide +kernel
theorem dX5_greedily_33 : decode cX5_greedily 33 = .ok (.istore 4, 2) := by decide +kernel
theorem dX5_greedily_35 : decode cX5_greedily 35 = .ok (.aload_n 0, 1) := by decide +kernel
theorem dX5_greedily_36 : decode cX5_greedily 36 = .ok (.getfield 25, 3) := by decide +kernel
theorem dX5_greedily_39 : decode cX5_greedily 39 = .ok (.invokevirtual 145, 3) := by decide +kernel
theorem dX5_greedily_42 : decode cX5_greedily 42 = .ok (.istore 5, 2) := by decide +kernel
theorem dX5_greedily_44 : decode cX5_greedily 44 = .ok (.iload 4, 2) := by decide +kernel
theorem dX5_greedily_46 : decode cX5_greedily 46 = .ok (.iload_n 1, 1) := by decide +kernel
theorem dX5_greedily_47 : decode cX5_greedily 47 = .ok (.if_icmp .ge 43, 3) := by decide +kernel
theorem dX5_greedily_50 : decode cX5_greedily 50 = .ok (.iload 5, 2) := by decide +kernel
theorem dX5_greedily_52 : decode cX5_greedily 52 = .ok (.ifCond .lt 38, 3) := by decide +kernel
theorem dX5_greedily_55 : decode cX5_greedily 55 = .ok (.iload_n 3, 1) := by decide +kernel
theorem dX5_greedily_56 : decode cX5_greedily 56 = .ok (.aload_n 0, 1) := by decide +kernel
theorem dX5_greedily_57 : decode cX5_greedily 57 = .ok (.getfield 25, 3) := by decide +kernel
theorem dX5_greedily_60 : decode cX5_greedily 60 = .ok (.iload 5, 2) := by decide +kernel
theorem dX5_greedily_62 : decode cX5_greedily 62 = .ok (.bipush 10, 2) := by decide +kernel
theorem dX5_greedily_64 : decode cX5_greedily 64 = .ok (.idiv, 1) := by decide +kernel
theorem dX5_greedily_65 : decode cX5_greedily 65 = .ok (.iload 5, 2) := by decide +kernel
theorem dX5_greedily_67 : decode cX5_greedily 67 = .ok (.bipush 10, 2) := by decide +kernel
theorem dX5_greedily_69 : decode cX5_greedily 69 = .ok (.irem, 1) := by decide +kernel
theorem dX5_greedily_70 : decode cX5_greedily 70 = .ok (.invokevirtual 129, 3) := by decide +kernel
theorem dX5_greedily_73 : decode cX5_greedily 73 = .ok (.iadd, 1) := by decide +kernel
theorem dX5_greedily_74 : decode cX5_greedily 74 = .ok (.istore_n 3, 1) := by decide +kernel
theorem dX5_greedily_75 : decode cX5_greedily 75 = .ok (.iinc 4 1, 3) := by decide +kernel
theorem dX5_greedily_78 : decode cX5_greedily 78 = .ok (.aload_n 0, 1) := by decide +kernel
theorem dX5_greedily_79 : decode cX5_greedily 79 = .ok (.getfield 25, 3) := by decide +kernel
theorem dX5_greedily_82 : decode cX5_greedily 82 = .ok (.invokevirtual 145, 3) := by decide +kernel
theorem dX5_greedily_85 : decode cX5_greedily 85 = .ok (.istore 5, 2) := by decide +kernel
theorem dX5_greedily_87 : decode cX5_greedily 87 = .ok (.goto (-43), 3) := by decide +kernel
theorem dX5_greedily_90 : decode cX5_greedily 90 = .ok (.iload_n 2, 1) := by decide +kernel
theorem dX5_greedily_91 : decode cX5_greedily 91 = .ok (.ifCond .ne 7, 3) := by decide +kernel
theorem dX5_greedily_94 : decode cX5_greedily 94 = .ok (.iload_n 3, 1) := by decide +kernel
theorem dX5_greedily_95 : decode cX5_greedily 95 = .ok (.goto 5, 3) := by decide +kernel
theorem dX5_greedily_98 : decode cX5_greedily 98 = .ok (.iload 4, 2) := by decide +kernel
theorem dX5_greedily_100 : decode cX5_greedily 100 = .ok (.ireturn, 1) := by decide +kernel
theorem dX5_atAll_0 : decode cX5_atAll 0 = .ok (.iload_n 1, 1) := by decide +kernel
theorem dX5_atAll_1 : decode cX5_atAll 1 = .ok (.invokestatic 112, 3) := by decide +kernel
theorem dX5_atAll_4 : decode cX5_atAll 4 = .ok (.ifCond .ne 5, 3) := by decide +kernel
theorem dX5_atAll_7 : decode cX5_atAll 7 = .ok (.iconst (-1), 1) := by decide +kernel
theorem dX5_atAll_8 : decode cX5_atAll 8 = .ok (.ireturn, 1) := by decide +kernel
theorem dX5_atAll_9 : decode cX5_atAll 9 = .ok (.iload_n 1, 1) := by decide +kernel
theorem dX5_atAll_10 : decode cX5_atAll 10 = .ok (.ifCond .ne 10, 3) := by decide +kernel
theorem dX5_atAll_13 : decode cX5_atAll 13 = .ok (.aload_n 0, 1) := by decide +kernel
theorem dX5_atAll_14 : decode cX5_atAll 14 = .ok (.invokevirtual 169, 3) := by decide +kernel
theorem dX5_atAll_17 : decode cX5_atAll 17 = .ok (.goto 7, 3) := by decide +kernel
theorem dX5_atAll_20 : decode cX5_atAll 20 = .ok (.aload_n 0, 1) := by decide +kernel
theorem dX5_atAll_21 : decode cX5_atAll 21 = .ok (.invokevirtual 172, 3) := by decide +kernel
theorem dX5_atAll_24 : decode cX5_atAll 24 = .ok (.ireturn, 1) := by decide +kernel
theorem dX5_stuck_0 : decode cX5_stuck 0 = .ok (.aload_n 0, 1) := by decide +kernel
theorem dX5_stuck_1 : decode cX5_stuck 1 = .ok (.getfield 18, 3) := by decide +kernel
theorem dX5_stuck_4 : decode cX5_stuck 4 = .ok (.getfield 119, 3) := by decide +kernel
theorem dX5_stuck_7 : decode cX5_stuck 7 = .ok (.ifCond .le 17, 3) := by decide +kernel
theorem dX5_stuck_10 : decode cX5_stuck 10 = .ok (.aload_n 0, 1) := by decide +kernel
theorem dX5_stuck_11 : decode cX5_stuck 11 = .ok (.getfield 18, 3) := by decide +kernel
theorem dX5_stuck_14 : decode cX5_stuck 14 = .ok (.invokevirtual 175, 3) := by decide +kernel
theorem dX5_stuck_17 : decode cX5_stuck 17 = .ok (.ifCond .le 7, 3) := by decide +kernel
theorem dX5_stuck_20 : decode cX5_stuck 20 = .ok (.iconst 1, 1) := by decide +kernel
theorem dX5_stuck_21 : decode cX5_stuck 21 = .ok (.goto 4, 3) := by decide +kernel
theorem dX5_stuck_24 : decode cX5_stuck 24 = .ok (.iconst 0, 1) := by decide +kernel
theorem dX5_stuck_25 : decode cX5_stuck 25 = .ok (.istore_n 1, 1) := by decide +kernel
theorem dX5_stuck_26 : decode cX5_stuck 26 = .ok (.iload_n 1, 1) := by decide +kernel
theorem dX5_stuck_27 : decode cX5_stuck 27 = .ok (.ifCond .eq 17, 3) := by decide +kernel
theorem dX5_stuck_30 : decode cX5_stuck 30 = .ok (.aload_n 0, 1) := by decide +kernel
theorem dX5_stuck_31 : decode cX5_stuck 31 = .ok (.getfield 18, 3) := by decide +kernel
theorem dX5_stuck_34 : decode cX5_stuck 34 = .ok (.invokevirtual 145, 3) := by decide +kernel
theorem dX5_stuck_37 : decode cX5_stuck 37 = .ok (.ifCond .ge 7, 3) := by decide +kernel
theorem dX5_stuck_40 : decode cX5_stuck 40 = .ok (.iconst 1, 1) := by decide +kernel
theorem dX5_stuck_41 : decode cX5_stuck 41 = .ok (.goto 4, 3) := by decide +kernel
theorem dX5_stuck_44 : decode cX5_stuck 44 = .ok (.iconst 0, 1) := by decide +kernel
theorem dX5_stuck_45 : decode cX5_stuck 45 = .ok (.ireturn, 1) := by decide +kernel
theorem dX5_bring_0 : decode cX5_bring 0 = .ok (.iload_n 1, 1) := by decide +kernel
theorem dX5_bring_1 : decode cX5_bring 1 = .ok (.invokestatic 178, 3) := by decide +kernel
theorem dX5_bring_4 : decode cX5_bring 4 = .ok (.ifCond .ne 5, 3) := by decide +kernel
theorem dX5_bring_7 : decode cX5_bring 7 = .ok (.iconst (-1), 1) := by decide +kernel
theorem dX5_bring_8 : decode cX5_bring 8 = .ok (.ireturn, 1) := by decide +kernel
theorem dX5_bring_9 : decode cX5_bring 9 = .ok (.aload_n 0, 1) := by decide +kernel
theorem dX5_bring_10 : decode cX5_bring 10 = .ok (.getfield 18, 3) := by decide +kernel
theorem dX5_bring_13 : decode cX5_bring 13 = .ok (.invokevirtual 145, 3) := by decide +kernel
theorem dX5_bring_16 : decode cX5_bring 16 = .ok (.istore_n 2, 1) := by decide +kernel
theorem dX5_bring_17 : decode cX5_bring 17 = .ok (.iload_n 2, 1) := by decide +kernel
theorem dX5_bring_18 : decode cX5_bring 18 = .ok (.ifCond .ge 7, 3) := by decide +kernel
theorem dX5_bring_21 : decode cX5_bring 21 = .ok (.iconst 0, 1) := by decide +kernel
theorem dX5_bring_22 : decode cX5_bring 22 = .ok (.goto 18, 3) := by decide +kernel
theorem dX5_bring_25 : decode cX5_bring 25 = .ok (.aload_n 0, 1) := by decide +kernel
theorem dX5_bring_26 : decode cX5_bring 26 = .ok (.getfield 18, 3) := by decide +kernel
theorem dX5_bring_29 : decode cX5_bring 29 = .ok (.iload_n 2, 1) := by decide +kernel
theorem dX5_bring_30 : decode cX5_bring 30 = .ok (.bipush 10, 2) := by decide +kernel
theorem dX5_bring_32 : decode cX5_bring 32 = .ok (.idiv, 1) := by decide +kernel
theorem dX5_bring_33 : decode cX5_bring 33 = .ok (.iload_n 2, 1) := by decide +kernel
theorem dX5_bring_34 : decode cX5_bring 34 = .ok (.bipush 10, 2) := by decide +kernel
theorem dX5_bring_36 : decode cX5_bring 36 = .ok (.irem, 1) := by decide +kernel
theorem dX5_bring_37 : decode cX5_bring 37 = .ok (.invokevirtual 136, 3) := by decide +kernel
theorem dX5_bring_40 : decode cX5_bring 40 = .ok (.istore_n 3, 1) := by decide +kernel
theorem dX5_bring_41 : decode cX5_bring 41 = .ok (.bipush (-4), 2) := by decide +kernel
theorem dX5_bring_43 : decode cX5_bring 43 = .ok (.istore 4, 2) := by decide +kernel
theorem dX5_bring_45 : decode cX5_bring 45 = .ok (.iconst 0, 1) := by decide +kernel
theorem dX5_bring_46 : decode cX5_bring 46 = .ok (.istore 5, 2) := by decide +kernel
theorem dX5_bring_48 : decode cX5_bring 48 = .ok (.iload 5, 2) := by decide +kernel
theorem dX5_bring_50 : decode cX5_bring 50 = .ok (.getstatic 181, 3) := by decide +kernel
theorem dX5_bring_53 : decode cX5_bring 53 = .ok (.arraylength, 1) := by decide +kernel
theorem dX5_bring_54 : decode cX5_bring 54 = .ok (.if_icmp .ge 35, 3) := by decide +kernel
theorem dX5_bring_57 : decode cX5_bring 57 = .ok (.aload_n 0, 1) := by decide +kernel
theorem dX5_bring_58 : decode cX5_bring 58 = .ok (.getstatic 181, 3) := by decide +kernel
theorem dX5_bring_61 : decode cX5_bring 61 = .ok (.iload 5, 2) := by decide +kernel
theorem dX5_bring_63 : decode cX5_bring 63 = .ok (.aaload, 1) := by decide +kernel
theorem dX5_bring_64 : decode cX5_bring 64 = .ok (.iload_n 1, 1) := by decide +kernel
theorem dX5_bring_65 : decode cX5_bring 65 = .ok (.invokevirtual 185, 3) := by decide +kernel
theorem dX5_bring_68 : decode cX5_bring 68 = .ok (.istore 6, 2) := by decide +kernel
theorem dX5_bring_70 : decode cX5_bring 70 = .ok (.iload 6, 2) := by decide +kernel
theorem dX5_bring_72 : decode cX5_bring 72 = .ok (.iload_n 3, 1) := by decide +kernel
theorem dX5_bring_73 : decode cX5_bring 73 = .ok (.if_icmp .le 10, 3) := by decide +kernel
theorem dX5_bring_76 : decode cX5_bring 76 = .ok (.iload 6, 2) := by decide +kernel
theorem dX5_bring_78 : decode cX5_bring 78 = .ok (.istore_n 3, 1) := by decide +kernel
theorem dX5_bring_79 : decode cX5_bring 79 = .ok (.iload 5, 2) := by decide +kernel
theorem dX5_bring_81 : decode cX5_bring 81 = .ok (.istore 4, 2) := by decide +kernel
theorem dX5_bring_83 : decode cX5_bring 83 = .ok (.iinc 5 1, 3) := by decide +kernel
theorem dX5_bring_86 : decode cX5_bring 86 = .ok (.goto (-38), 3) := by decide +kernel
theorem dX5_bring_89 : decode cX5_bring 89 = .ok (.iload 4, 2) := by decide +kernel
theorem dX5_bring_91 : decode cX5_bring 91 = .ok (.ireturn, 1) := by decide +kernel
theorem dX5_feeds_0 : decode cX5_feeds 0 = .ok (.aload_n 0, 1) := by decide +kernel
theorem dX5_feeds_1 : decode cX5_feeds 1 = .ok (.getfield 18, 3) := by decide +kernel
theorem dX5_feeds_4 : decode cX5_feeds 4 = .ok (.iload_n 1, 1) := by decide +kernel
theorem dX5_feeds_5 : decode cX5_feeds 5 = .ok (.invokevirtual 51, 3) := by decide +kernel
theorem dX5_feeds_8 : decode cX5_feeds 8 = .ok (.ifCond .ne 5, 3) := by decide +kernel
theorem dX5_feeds_11 : decode cX5_feeds 11 = .ok (.iconst (-1), 1) := by decide +kernel
theorem dX5_feeds_12 : decode cX5_feeds 12 = .ok (.ireturn, 1) := by decide +kernel
theorem dX5_feeds_13 : decode cX5_feeds 13 = .ok (.aload_n 0, 1) := by decide +kernel
theorem dX5_feeds_14 : decode cX5_feeds 14 = .ok (.getfield 18, 3) := by decide +kernel
theorem dX5_feeds_17 : decode cX5_feeds 17 = .ok (.getfield 55, 3) := by decide +kernel
theorem dX5_feeds_20 : decode cX5_feeds 20 = .ok (.iload_n 1, 1) := by decide +kernel
theorem dX5_feeds_21 : decode cX5_feeds 21 = .ok (.aaload, 1) := by decide +kernel
theorem dX5_feeds_22 : decode cX5_feeds 22 = .ok (.astore_n 2, 1) := by decide +kernel
theorem dX5_feeds_23 : decode cX5_feeds 23 = .ok (.aload_n 2, 1) := by decide +kernel
theorem dX5_feeds_24 : decode cX5_feeds 24 = .ok (.getfield 85, 3) := by decide +kernel
theorem dX5_feeds_27 : decode cX5_feeds 27 = .ok (.ifCond .le 22, 3) := by decide +kernel
theorem dX5_feeds_30 : decode cX5_feeds 30 = .ok (.aload_n 2, 1) := by decide +kernel
theorem dX5_feeds_31 : decode cX5_feeds 31 = .ok (.getfield 73, 3) := by decide +kernel
theorem dX5_feeds_34 : decode cX5_feeds 34 = .ok (.aload_n 2, 1) := by decide +kernel
theorem dX5_feeds_35 : decode cX5_feeds 35 = .ok (.getfield 85, 3) := by decide +kernel
theorem dX5_feeds_38 : decode cX5_feeds 38 = .ok (.iadd, 1) := by decide +kernel
theorem dX5_feeds_39 : decode cX5_feeds 39 = .ok (.iconst 1, 1) := by decide +kernel
theorem dX5_feeds_40 : decode cX5_feeds 40 = .ok (.isub, 1) := by decide +kernel
theorem dX5_feeds_41 : decode cX5_feeds 41 = .ok (.aload_n 2, 1) := by decide +kernel
theorem dX5_feeds_42 : decode cX5_feeds 42 = .ok (.getfield 85, 3) := by decide +kernel
theorem dX5_feeds_45 : decode cX5_feeds 45 = .ok (.idiv, 1) := by decide +kernel
theorem dX5_feeds_46 : decode cX5_feeds 46 = .ok (.goto 4, 3) := by decide +kernel
theorem dX5_feeds_49 : decode cX5_feeds 49 = .ok (.iconst 0, 1) := by decide +kernel
theorem dX5_feeds_50 : decode cX5_feeds 50 = .ok (.ireturn, 1) := by decide +kernel
theorem dX5_prices_0 : decode cX5_prices 0 = .ok (.iload_n 1, 1) := by decide +kernel
theorem dX5_prices_1 : decode cX5_prices 1 = .ok (.invokestatic 189, 3) := by decide +kernel
theorem dX5_prices_4 : decode cX5_prices 4 = .ok (.ifCond .eq 10, 3) := by decide +kernel
theorem dX5_prices_7 : decode cX5_prices 7 = .ok (.iload_n 2, 1) := by decide +kernel
theorem dX5_prices_8 : decode cX5_prices 8 = .ok (.invokestatic 112, 3) := by decide +kernel
theorem dX5_prices_11 : decode cX5_prices 11 = .ok (.ifCond .ne 5, 3) := by decide +kernel
theorem dX5_prices_14 : decode cX5_prices 14 = .ok (.iconst (-1), 1) := by decide +kernel
theorem dX5_prices_15 : decode cX5_prices 15 = .ok (.ireturn, 1) := by decide +kernel
theorem dX5_prices_16 : decode cX5_prices 16 = .ok (.iload_n 2, 1) := by decide +kernel
theorem dX5_prices_17 : decode cX5_prices 17 = .ok (.ifCond .ne 11, 3) := by decide +kernel
theorem dX5_prices_20 : decode cX5_prices 20 = .ok (.aload_n 0, 1) := by decide +kernel
theorem dX5_prices_21 : decode cX5_prices 21 = .ok (.iload_n 1, 1) := by decide +kernel
theorem dX5_prices_22 : decode cX5_prices 22 = .ok (.invokevirtual 192, 3) := by decide +kernel
theorem dX5_prices_25 : decode cX5_prices 25 = .ok (.goto 8, 3) := by decide +kernel
theorem dX5_prices_28 : decode cX5_prices 28 = .ok (.aload_n 0, 1) := by decide +kernel
theorem dX5_prices_29 : decode cX5_prices 29 = .ok (.iload_n 1, 1) := by decide +kernel
theorem dX5_prices_30 : decode cX5_prices 30 = .ok (.invokevirtual 195, 3) := by decide +kernel
theorem dX5_prices_33 : decode cX5_prices 33 = .ok (.ireturn, 1) := by decide +kernel
theorem dX5_clears_0 : decode cX5_clears 0 = .ok (.iload_n 1, 1) := by decide +kernel
theorem dX5_clears_1 : decode cX5_clears 1 = .ok (.invokestatic 189, 3) := by decide +kernel
theorem dX5_clears_4 : decode cX5_clears 4 = .ok (.ifCond .ne 5, 3) := by decide +kernel
theorem dX5_clears_7 : decode cX5_clears 7 = .ok (.iconst (-1), 1) := by decide +kernel
theorem dX5_clears_8 : decode cX5_clears 8 = .ok (.ireturn, 1) := by decide +kernel
theorem dX5_clears_9 : decode cX5_clears 9 = .ok (.aload_n 0, 1) := by decide +kernel
theorem dX5_clears_10 : decode cX5_clears 10 = .ok (.getfield 18, 3) := by decide +kernel
theorem dX5_clears_13 : decode cX5_clears 13 = .ok (.getfield 119, 3) := by decide +kernel
theorem dX5_clears_16 : decode cX5_clears 16 = .ok (.aload_n 0, 1) := by decide +kernel
theorem dX5_clears_17 : decode cX5_clears 17 = .ok (.iload_n 1, 1) := by decide +kernel
theorem dX5_clears_18 : decode cX5_clears 18 = .ok (.invokevirtual 195, 3) := by decide +kernel
theorem dX5_clears_21 : decode cX5_clears 21 = .ok (.invokestatic 198, 3) := by decide +kernel
theorem dX5_clears_24 : decode cX5_clears 24 = .ok (.istore_n 2, 1) := by decide +kernel
theorem dX5_clears_25 : decode cX5_clears 25 = .ok (.iconst 0, 1) := by decide +kernel
theorem dX5_clears_26 : decode cX5_clears 26 = .ok (.istore_n 3, 1) := by decide +kernel
theorem dX5_clears_27 : decode cX5_clears 27 = .ok (.iload_n 3, 1) := by decide +kernel
theorem dX5_clears_28 : decode cX5_clears 28 = .ok (.bipush 31, 2) := by decide +kernel
theorem dX5_clears_30 : decode cX5_clears 30 = .ok (.if_icmp .gt 20, 3) := by decide +kernel
theorem dX5_clears_33 : decode cX5_clears 33 = .ok (.aload_n 0, 1) := by decide +kernel
theorem dX5_clears_34 : decode cX5_clears 34 = .ok (.iload_n 3, 1) := by decide +kernel
theorem dX5_clears_35 : decode cX5_clears 35 = .ok (.invokevirtual 192, 3) := by decide +kernel
theorem dX5_clears_38 : decode cX5_clears 38 = .ok (.iload_n 2, 1) := by decide +kernel
theorem dX5_clears_39 : decode cX5_clears 39 = .ok (.if_icmp .gt 5, 3) := by decide +kernel
theorem dX5_clears_42 : decode cX5_clears 42 = .ok (.iload_n 3, 1) := by decide +kernel
theorem dX5_clears_43 : decode cX5_clears 43 = .ok (.ireturn, 1) := by decide +kernel
theorem dX5_clears_44 : decode cX5_clears 44 = .ok (.iinc 3 1, 3) := by decide +kernel
theorem dX5_clears_47 : decode cX5_clears 47 = .ok (.goto (-20), 3) := by decide +kernel
theorem dX5_clears_50 : decode cX5_clears 50 = .ok (.bipush (-4), 2) := by decide +kernel
theorem dX5_clears_52 : decode cX5_clears 52 = .ok (.ireturn, 1) := by decide +kernel
theorem dX5_swap_0 : decode cX5_swap 0 = .ok (.aload_n 0, 1) := by decide +kernel
theorem dX5_swap_1 : decode cX5_swap 1 = .ok (.iload_n 1, 1) := by decide +kernel
theorem dX5_swap_2 : decode cX5_swap 2 = .ok (.invokevirtual 36, 3) := by decide +kernel
theorem dX5_swap_5 : decode cX5_swap 5 = .ok (.istore_n 2, 1) := by decide +kernel
theorem dX5_swap_6 : decode cX5_swap 6 = .ok (.iload_n 2, 1) := by decide +kernel
theorem dX5_swap_7 : decode cX5_swap 7 = .ok (.ifCond .eq 5, 3) := by decide +kernel
theorem dX5_swap_10 : decode cX5_swap 10 = .ok (.iload_n 2, 1) := by decide +kernel
theorem dX5_swap_11 : decode cX5_swap 11 = .ok (.ireturn, 1) := by decide +kernel
theorem dX5_swap_12 : decode cX5_swap 12 = .ok (.aload_n 0, 1) := by decide +kernel
theorem dX5_swap_13 : decode cX5_swap 13 = .ok (.getfield 11, 3) := by decide +kernel
theorem dX5_swap_16 : decode cX5_swap 16 = .ok (.iload_n 1, 1) := by decide +kernel
theorem dX5_swap_17 : decode cX5_swap 17 = .ok (.aaload, 1) := by decide +kernel
theorem dX5_swap_18 : decode cX5_swap 18 = .ok (.astore_n 3, 1) := by decide +kernel
theorem dX5_swap_19 : decode cX5_swap 19 = .ok (.aload_n 0, 1) := by decide +kernel
theorem dX5_swap_20 : decode cX5_swap 20 = .ok (.aload_n 3, 1) := by decide +kernel
theorem dX5_swap_21 : decode cX5_swap 21 = .ok (.invokevirtual 203, 3) := by decide +kernel
theorem dX5_swap_24 : decode cX5_swap 24 = .ok (.ifCond .ne 6, 3) := by decide +kernel
theorem dX5_swap_27 : decode cX5_swap 27 = .ok (.bipush (-13), 2) := by decide +kernel
theorem dX5_swap_29 : decode cX5_swap 29 = .ok (.ireturn, 1) := by decide +kernel
theorem dX5_swap_30 : decode cX5_swap 30 = .ok (.iconst 0, 1) := by decide +kernel
theorem dX5_swap_31 : decode cX5_swap 31 = .ok (.istore 4, 2) := by decide +kernel
theorem dX5_swap_33 : decode cX5_swap 33 = .ok (.bipush (-4), 2) := by decide +kernel
theorem dX5_swap_35 : decode cX5_swap 35 = .ok (.istore 5, 2) := by decide +kernel
theorem dX5_swap_37 : decode cX5_swap 37 = .ok (.iconst 0, 1) := by decide +kernel
theorem dX5_swap_38 : decode cX5_swap 38 = .ok (.istore 6, 2) := by decide +kernel
theorem dX5_swap_40 : decode cX5_swap 40 = .ok (.iload 6, 2) := by decide +kernel
theorem dX5_swap_42 : decode cX5_swap 42 = .ok (.aload_n 3, 1) := by decide +kernel
theorem dX5_swap_43 : decode cX5_swap 43 = .ok (.getfield 207, 3) := by decide +kernel
theorem dX5_swap_46 : decode cX5_swap 46 = .ok (.iconst 2, 1) := by decide +kernel
theorem dX5_swap_47 : decode cX5_swap 47 = .ok (.idiv, 1) := by decide +kernel
theorem dX5_swap_48 : decode cX5_swap 48 = .ok (.if_icmp .ge 64, 3) := by decide +kernel
theorem dX5_swap_51 : decode cX5_swap 51 = .ok (.iload 6, 2) := by decide +kernel
theorem dX5_swap_53 : decode cX5_swap 53 = .ok (.iconst 1, 1) := by decide +kernel
theorem dX5_swap_54 : decode cX5_swap 54 = .ok (.iadd, 1) := by decide +kernel
theorem dX5_swap_55 : decode cX5_swap 55 = .ok (.istore 7, 2) := by decide +kernel
theorem dX5_swap_57 : decode cX5_swap 57 = .ok (.iload 7, 2) := by decide +kernel
theorem dX5_swap_59 : decode cX5_swap 59 = .ok (.aload_n 3, 1) := by decide +kernel
theorem dX5_swap_60 : decode cX5_swap 60 = .ok (.getfield 207, 3) := by decide +kernel
theorem dX5_swap_63 : decode cX5_swap 63 = .ok (.iconst 2, 1) := by decide +kernel
theorem dX5_swap_64 : decode cX5_swap 64 = .ok (.idiv, 1) := by decide +kernel
theorem dX5_swap_65 : decode cX5_swap 65 = .ok (.if_icmp .ge 41, 3) := by decide +kernel
theorem dX5_swap_68 : decode cX5_swap 68 = .ok (.aload_n 0, 1) := by decide +kernel
theorem dX5_swap_69 : decode cX5_swap 69 = .ok (.aload_n 3, 1) := by decide +kernel
theorem dX5_swap_70 : decode cX5_swap 70 = .ok (.iload 6, 2) := by decide +kernel
theorem dX5_swap_72 : decode cX5_swap 72 = .ok (.iload 7, 2) := by decide +kernel
theorem dX5_swap_74 : decode cX5_swap 74 = .ok (.invokevirtual 210, 3) := by decide +kernel
theorem dX5_swap_77 : decode cX5_swap 77 = .ok (.istore 8, 2) := by decide +kernel
theorem dX5_swap_79 : decode cX5_swap 79 = .ok (.iload 8, 2) := by decide +kernel
theorem dX5_swap_81 : decode cX5_swap 81 = .ok (.iload 4, 2) := by decide +kernel
theorem dX5_swap_83 : decode cX5_swap 83 = .ok (.if_icmp .le 17, 3) := by decide +kernel
theorem dX5_swap_86 : decode cX5_swap 86 = .ok (.iload 8, 2) := by decide +kernel
theorem dX5_swap_88 : decode cX5_swap 88 = .ok (.istore 4, 2) := by decide +kernel
theorem dX5_swap_90 : decode cX5_swap 90 = .ok (.bipush 10, 2) := by decide +kernel
theorem dX5_swap_92 : decode cX5_swap 92 = .ok (.iload 6, 2) := by decide +kernel
theorem dX5_swap_94 : decode cX5_swap 94 = .ok (.imul, 1) := by decide +kernel
theorem dX5_swap_95 : decode cX5_swap 95 = .ok (.iload 7, 2) := by decide +kernel
theorem dX5_swap_97 : decode cX5_swap 97 = .ok (.iadd, 1) := by decide +kernel
theorem dX5_swap_98 : decode cX5_swap 98 = .ok (.istore 5, 2) := by decide +kernel
theorem dX5_swap_100 : decode cX5_swap 100 = .ok (.iinc 7 1, 3) := by decide +kernel
theorem dX5_swap_103 : decode cX5_swap 103 = .ok (.goto (-46), 3) := by decide +kernel
theorem dX5_swap_106 : decode cX5_swap 106 = .ok (.iinc 6 1, 3) := by decide +kernel
theorem dX5_swap_109 : decode cX5_swap 109 = .ok (.goto (-69), 3) := by decide +kernel
theorem dX5_swap_112 : decode cX5_swap 112 = .ok (.iload 5, 2) := by decide +kernel
theorem dX5_swap_114 : decode cX5_swap 114 = .ok (.ireturn, 1) := by decide +kernel
theorem dX5_throat_0 : decode cX5_throat 0 = .ok (.iload_n 1, 1) := by decide +kernel
theorem dX5_throat_1 : decode cX5_throat 1 = .ok (.invokestatic 94, 3) := by decide +kernel
theorem dX5_throat_4 : decode cX5_throat 4 = .ok (.ifCond .eq 25, 3) := by decide +kernel
theorem dX5_throat_7 : decode cX5_throat 7 = .ok (.iload_n 2, 1) := by decide +kernel
theorem dX5_throat_8 : decode cX5_throat 8 = .ok (.invokestatic 97, 3) := by decide +kernel
theorem dX5_throat_11 : decode cX5_throat 11 = .ok (.ifCond .eq 18, 3) := by decide +kernel
theorem dX5_throat_14 : decode cX5_throat 14 = .ok (.iload_n 3, 1) := by decide +kernel
theorem dX5_throat_15 : decode cX5_throat 15 = .ok (.invokestatic 178, 3) := by decide +kernel
theorem dX5_throat_18 : decode cX5_throat 18 = .ok (.ifCond .eq 11, 3) := by decide +kernel
theorem dX5_throat_21 : decode cX5_throat 21 = .ok (.iload 4, 2) := by decide +kernel
theorem dX5_throat_23 : decode cX5_throat 23 = .ok (.invokestatic 112, 3) := by decide +kernel
theorem dX5_throat_26 : decode cX5_throat 26 = .ok (.ifCond .ne 5, 3) := by decide +kernel
theorem dX5_throat_29 : decode cX5_throat 29 = .ok (.iconst (-1), 1) := by decide +kernel
theorem dX5_throat_30 : decode cX5_throat 30 = .ok (.ireturn, 1) := by decide +kernel
theorem dX5_throat_31 : decode cX5_throat 31 = .ok (.aload_n 0, 1) := by decide +kernel
theorem dX5_throat_32 : decode cX5_throat 32 = .ok (.iload_n 1, 1) := by decide +kernel
theorem dX5_throat_33 : decode cX5_throat 33 = .ok (.invokevirtual 36, 3) := by decide +kernel
theorem dX5_throat_36 : decode cX5_throat 36 = .ok (.istore 5, 2) := by decide +kernel
theorem dX5_throat_38 : decode cX5_throat 38 = .ok (.iload 5, 2) := by decide +kernel
theorem dX5_throat_40 : decode cX5_throat 40 = .ok (.ifCond .eq 6, 3) := by decide +kernel
theorem dX5_throat_43 : decode cX5_throat 43 = .ok (.iload 5, 2) := by decide +kernel
theorem dX5_throat_45 : decode cX5_throat 45 = .ok (.ireturn, 1) := by decide +kernel
theorem dX5_throat_46 : decode cX5_throat 46 = .ok (.iconst 0, 1) := by decide +kernel
theorem dX5_throat_47 : decode cX5_throat 47 = .ok (.istore 6, 2) := by decide +kernel
theorem dX5_throat_49 : decode cX5_throat 49 = .ok (.iconst 0, 1) := by decide +kernel
theorem dX5_throat_50 : decode cX5_throat 50 = .ok (.istore 7, 2) := by decide +kernel
theorem dX5_throat_52 : decode cX5_throat 52 = .ok (.iload 7, 2) := by decide +kernel
theorem dX5_throat_54 : decode cX5_throat 54 = .ok (.getstatic 181, 3) := by decide +kernel
theorem dX5_throat_57 : decode cX5_throat 57 = .ok (.arraylength, 1) := by decide +kernel
theorem dX5_throat_58 : decode cX5_throat 58 = .ok (.if_icmp .ge 41, 3) := by decide +kernel
theorem dX5_throat_61 : decode cX5_throat 61 = .ok (.aload_n 0, 1) := by decide +kernel
theorem dX5_throat_62 : decode cX5_throat 62 = .ok (.getfield 11, 3) := by decide +kernel
theorem dX5_throat_65 : decode cX5_throat 65 = .ok (.iload_n 1, 1) := by decide +kernel
theorem dX5_throat_66 : decode cX5_throat 66 = .ok (.aaload, 1) := by decide +kernel
theorem dX5_throat_67 : decode cX5_throat 67 = .ok (.iload_n 2, 1) := by decide +kernel
theorem dX5_throat_68 : decode cX5_throat 68 = .ok (.getstatic 181, 3) := by decide +kernel
theorem dX5_throat_71 : decode cX5_throat 71 = .ok (.iload 7, 2) := by decide +kernel
theorem dX5_throat_73 : decode cX5_throat 73 = .ok (.aaload, 1) := by decide +kernel
theorem dX5_throat_74 : decode cX5_throat 74 = .ok (.iload_n 3, 1) := by decide +kernel
theorem dX5_throat_75 : decode cX5_throat 75 = .ok (.invokevirtual 214, 3) := by decide +kernel
theorem dX5_throat_78 : decode cX5_throat 78 = .ok (.invokestatic 217, 3) := by decide +kernel
theorem dX5_throat_81 : decode cX5_throat 81 = .ok (.ifCond .eq 12, 3) := by decide +kernel
theorem dX5_throat_84 : decode cX5_throat 84 = .ok (.iload 6, 2) := by decide +kernel
theorem dX5_throat_86 : decode cX5_throat 86 = .ok (.iconst 1, 1) := by decide +kernel
theorem dX5_throat_87 : decode cX5_throat 87 = .ok (.iload 7, 2) := by decide +kernel
theorem dX5_throat_89 : decode cX5_throat 89 = .ok (.ishl, 1) := by decide +kernel
theorem dX5_throat_90 : decode cX5_throat 90 = .ok (.ior, 1) := by decide +kernel
theorem dX5_throat_91 : decode cX5_throat 91 = .ok (.istore 6, 2) := by decide +kernel
theorem dX5_throat_93 : decode cX5_throat 93 = .ok (.iinc 7 1, 3) := by decide +kernel
theorem dX5_throat_96 : decode cX5_throat 96 = .ok (.goto (-44), 3) := by decide +kernel
theorem dX5_throat_99 : decode cX5_throat 99 = .ok (.iload 4, 2) := by decide +kernel
theorem dX5_throat_101 : decode cX5_throat 101 = .ok (.ifCond .ne 8, 3) := by decide +kernel
theorem dX5_throat_104 : decode cX5_throat 104 = .ok (.iload 6, 2) := by decide +kernel
theorem dX5_throat_106 : decode cX5_throat 106 = .ok (.goto 8, 3) := by decide +kernel
theorem dX5_throat_109 : decode cX5_throat 109 = .ok (.iload 6, 2) := by decide +kernel
theorem dX5_throat_111 : decode cX5_throat 111 = .ok (.invokestatic 221, 3) := by decide +kernel
theorem dX5_throat_114 : decode cX5_throat 114 = .ok (.ireturn, 1) := by decide +kernel
theorem dX5_lastOnes_0 : decode cX5_lastOnes 0 = .ok (.iload_n 1, 1) := by decide +kernel
theorem dX5_lastOnes_1 : decode cX5_lastOnes 1 = .ok (.iconst 0, 1) := by decide +kernel
theorem dX5_lastOnes_2 : decode cX5_lastOnes 2 = .ok (.bipush 99, 2) := by decide +kernel
theorem dX5_lastOnes_4 : decode cX5_lastOnes 4 = .ok (.invokestatic 115, 3) := by decide +kernel
theorem dX5_lastOnes_7 : decode cX5_lastOnes 7 = .ok (.ifCond .eq 20, 3) := by decide +kernel
theorem dX5_lastOnes_10 : decode cX5_lastOnes 10 = .ok (.iload_n 2, 1) := by decide +kernel
theorem dX5_lastOnes_11 : decode cX5_lastOnes 11 = .ok (.iconst 1, 1) := by decide +kernel
theorem dX5_lastOnes_12 : decode cX5_lastOnes 12 = .ok (.bipush 9, 2) := by decide +kernel
theorem dX5_lastOnes_14 : decode cX5_lastOnes 14 = .ok (.invokestatic 115, 3) := by decide +kernel
theorem dX5_lastOnes_17 : decode cX5_lastOnes 17 = .ok (.ifCond .eq 10, 3) := by decide +kernel
theorem dX5_lastOnes_20 : decode cX5_lastOnes 20 = .ok (.iload_n 3, 1) := by decide +kernel
theorem dX5_lastOnes_21 : decode cX5_lastOnes 21 = .ok (.invokestatic 112, 3) := by decide +kernel
theorem dX5_lastOnes_24 : decode cX5_lastOnes 24 = .ok (.ifCond .ne 5, 3) := by decide +kernel
theorem dX5_lastOnes_27 : decode cX5_lastOnes 27 = .ok (.iconst (-1), 1) := by decide +kernel
theorem dX5_lastOnes_28 : decode cX5_lastOnes 28 = .ok (.ireturn, 1) := by decide +kernel
theorem dX5_lastOnes_29 : decode cX5_lastOnes 29 = .ok (.iload_n 1, 1) := by decide +kernel
theorem dX5_lastOnes_30 : decode cX5_lastOnes 30 = .ok (.iload_n 2, 1) := by decide +kernel
theorem dX5_lastOnes_31 : decode cX5_lastOnes 31 = .ok (.iconst 1, 1) := by decide +kernel
theorem dX5_lastOnes_32 : decode cX5_lastOnes 32 = .ok (.iadd, 1) := by decide +kernel
theorem dX5_lastOnes_33 : decode cX5_lastOnes 33 = .ok (.irem, 1) := by decide +kernel
theorem dX5_lastOnes_34 : decode cX5_lastOnes 34 = .ok (.istore 4, 2) := by decide +kernel
theorem dX5_lastOnes_36 : decode cX5_lastOnes 36 = .ok (.iload_n 3, 1) := by decide +kernel
theorem dX5_lastOnes_37 : decode cX5_lastOnes 37 = .ok (.iconst 1, 1) := by decide +kernel
theorem dX5_lastOnes_38 : decode cX5_lastOnes 38 = .ok (.if_icmp .ne 8, 3) := by decide +kernel
theorem dX5_lastOnes_41 : decode cX5_lastOnes 41 = .ok (.iload 4, 2) := by decide +kernel
theorem dX5_lastOnes_43 : decode cX5_lastOnes 43 = .ok (.goto 9, 3) := by decide +kernel
theorem dX5_lastOnes_46 : decode cX5_lastOnes 46 = .ok (.iload 4, 2) := by decide +kernel
theorem dX5_lastOnes_48 : decode cX5_lastOnes 48 = .ok (.iconst 1, 1) := by decide +kernel
theorem dX5_lastOnes_49 : decode cX5_lastOnes 49 = .ok (.invokestatic 198, 3) := by decide +kernel
theorem dX5_lastOnes_52 : decode cX5_lastOnes 52 = .ok (.ireturn, 1) := by decide +kernel
theorem dX5_shares_0 : decode cX5_shares 0 = .ok (.iload_n 1, 1) := by decide +kernel
theorem dX5_shares_1 : decode cX5_shares 1 = .ok (.iconst (-1), 1) := by decide +kernel
theorem dX5_shares_2 : decode cX5_shares 2 = .ok (.if_icmp .lt 14, 3) := by decide +kernel
theorem dX5_shares_5 : decode cX5_shares 5 = .ok (.iload_n 1, 1) := by decide +kernel
theorem dX5_shares_6 : decode cX5_shares 6 = .ok (.aload_n 0, 1) := by decide +kernel
theorem dX5_shares_7 : decode cX5_shares 7 = .ok (.getfield 18, 3) := by decide +kernel
theorem dX5_shares_10 : decode cX5_shares 10 = .ok (.getfield 103, 3) := by decide +kernel
theorem dX5_shares_13 : decode cX5_shares 13 = .ok (.if_icmp .lt 5, 3) := by decide +kernel
theorem dX5_shares_16 : decode cX5_shares 16 = .ok (.iconst (-1), 1) := by decide +kernel
theorem dX5_shares_17 : decode cX5_shares 17 = .ok (.ireturn, 1) := by decide +kernel
theorem dX5_shares_18 : decode cX5_shares 18 = .ok (.iload_n 1, 1) := by decide +kernel
theorem dX5_shares_19 : decode cX5_shares 19 = .ok (.ifCond .lt 9, 3) := by decide +kernel
theorem dX5_shares_22 : decode cX5_shares 22 = .ok (.aload_n 0, 1) := by decide +kernel
theorem dX5_shares_23 : decode cX5_shares 23 = .ok (.iload_n 1, 1) := by decide +kernel
theorem dX5_shares_24 : decode cX5_shares 24 = .ok (.invokevirtual 226, 3) := by decide +kernel
theorem dX5_shares_27 : decode cX5_shares 27 = .ok (.ireturn, 1) := by decide +kernel
theorem dX5_shares_28 : decode cX5_shares 28 = .ok (.aload_n 0, 1) := by decide +kernel
theorem dX5_shares_29 : decode cX5_shares 29 = .ok (.getfield 18, 3) := by decide +kernel
theorem dX5_shares_32 : decode cX5_shares 32 = .ok (.getfield 119, 3) := by decide +kernel
theorem dX5_shares_35 : decode cX5_shares 35 = .ok (.istore_n 2, 1) := by decide +kernel
theorem dX5_shares_36 : decode cX5_shares 36 = .ok (.iconst 0, 1) := by decide +kernel
theorem dX5_shares_37 : decode cX5_shares 37 = .ok (.istore_n 3, 1) := by decide +kernel
theorem dX5_shares_38 : decode cX5_shares 38 = .ok (.iload_n 3, 1) := by decide +kernel
theorem dX5_shares_39 : decode cX5_shares 39 = .ok (.aload_n 0, 1) := by decide +kernel
theorem dX5_shares_40 : decode cX5_shares 40 = .ok (.getfield 18, 3) := by decide +kernel
theorem dX5_shares_43 : decode cX5_shares 43 = .ok (.getfield 103, 3) := by decide +kernel
theorem dX5_shares_46 : decode cX5_shares 46 = .ok (.if_icmp .ge 17, 3) := by decide +kernel
theorem dX5_shares_49 : decode cX5_shares 49 = .ok (.iload_n 2, 1) := by decide +kernel
theorem dX5_shares_50 : decode cX5_shares 50 = .ok (.aload_n 0, 1) := by decide +kernel
theorem dX5_shares_51 : decode cX5_shares 51 = .ok (.iload_n 3, 1) := by decide +kernel
theorem dX5_shares_52 : decode cX5_shares 52 = .ok (.invokevirtual 226, 3) := by decide +kernel
theorem dX5_shares_55 : decode cX5_shares 55 = .ok (.isub, 1) := by decide +kernel
theorem dX5_shares_56 : decode cX5_shares 56 = .ok (.istore_n 2, 1) := by decide +kernel
theorem dX5_shares_57 : decode cX5_shares 57 = .ok (.iinc 3 1, 3) := by decide +kernel
theorem dX5_shares_60 : decode cX5_shares 60 = .ok (.goto (-22), 3) := by decide +kernel
theorem dX5_shares_63 : decode cX5_shares 63 = .ok (.iload_n 2, 1) := by decide +kernel
theorem dX5_shares_64 : decode cX5_shares 64 = .ok (.ireturn, 1) := by decide +kernel
theorem dX5_crowd_0 : decode cX5_crowd 0 = .ok (.iload_n 1, 1) := by decide +kernel
theorem dX5_crowd_1 : decode cX5_crowd 1 = .ok (.iconst 0, 1) := by decide +kernel
theorem dX5_crowd_2 : decode cX5_crowd 2 = .ok (.bipush 8, 2) := by decide +kernel
theorem dX5_crowd_4 : decode cX5_crowd 4 = .ok (.invokestatic 115, 3) := by decide +kernel
theorem dX5_crowd_7 : decode cX5_crowd 7 = .ok (.ifCond .eq 26, 3) := by decide +kernel
theorem dX5_crowd_10 : decode cX5_crowd 10 = .ok (.iload_n 2, 1) := by decide +kernel
theorem dX5_crowd_11 : decode cX5_crowd 11 = .ok (.iconst 2, 1) := by decide +kernel
theorem dX5_crowd_12 : decode cX5_crowd 12 = .ok (.bipush 20, 2) := by decide +kernel
theorem dX5_crowd_14 : decode cX5_crowd 14 = .ok (.invokestatic 115, 3) := by decide +kernel
theorem dX5_crowd_17 : decode cX5_crowd 17 = .ok (.ifCond .eq 16, 3) := by decide +kernel
theorem dX5_crowd_20 : decode cX5_crowd 20 = .ok (.iload_n 3, 1) := by decide +kernel
theorem dX5_crowd_21 : decode cX5_crowd 21 = .ok (.iconst 0, 1) := by decide +kernel
theorem dX5_crowd_22 : decode cX5_crowd 22 = .ok (.iconst 4, 1) := by decide +kernel
theorem dX5_crowd_23 : decode cX5_crowd 23 = .ok (.invokestatic 115, 3) := by decide +kernel
theorem dX5_crowd_26 : decode cX5_crowd 26 = .ok (.ifCond .eq 7, 3) := by decide +kernel
theorem dX5_crowd_29 : decode cX5_crowd 29 = .ok (.iconst 1, 1) := by decide +kernel
theorem dX5_crowd_30 : decode cX5_crowd 30 = .ok (.goto 4, 3) := by decide +kernel
theorem dX5_crowd_33 : decode cX5_crowd 33 = .ok (.iconst 0, 1) := by decide +kernel
theorem dX5_crowd_34 : decode cX5_crowd 34 = .ok (.istore 5, 2) := by decide +kernel
theorem dX5_crowd_36 : decode cX5_crowd 36 = .ok (.iload 5, 2) := by decide +kernel
theorem dX5_crowd_38 : decode cX5_crowd 38 = .ok (.ifCond .eq 11, 3) := by decide +kernel
theorem dX5_crowd_41 : decode cX5_crowd 41 = .ok (.iload 4, 2) := by decide +kernel
theorem dX5_crowd_43 : decode cX5_crowd 43 = .ok (.invokestatic 112, 3) := by decide +kernel
theorem dX5_crowd_46 : decode cX5_crowd 46 = .ok (.ifCond .ne 7, 3) := by decide +kernel
theorem dX5_crowd_49 : decode cX5_crowd 49 = .ok (.ldc2_w 229, 3) := by decide +kernel
theorem dX5_crowd_52 : decode cX5_crowd 52 = .ok (.lreturn, 1) := by decide +kernel
theorem dX5_crowd_53 : decode cX5_crowd 53 = .ok (.lconst 0, 1) := by decide +kernel
theorem dX5_crowd_54 : decode cX5_crowd 54 = .ok (.lstore 6, 2) := by decide +kernel
theorem dX5_crowd_56 : decode cX5_crowd 56 = .ok (.iconst 2, 1) := by decide +kernel
theorem dX5_crowd_57 : decode cX5_crowd 57 = .ok (.iload_n 3, 1) := by decide +kernel
theorem dX5_crowd_58 : decode cX5_crowd 58 = .ok (.imul, 1) := by decide +kernel
theorem dX5_crowd_59 : decode cX5_crowd 59 = .ok (.istore 8, 2) := by decide +kernel
theorem dX5_crowd_61 : decode cX5_crowd 61 = .ok (.iload 8, 2) := by decide +kernel
theorem dX5_crowd_63 : decode cX5_crowd 63 = .ok (.iload_n 1, 1) := by decide +kernel
theorem dX5_crowd_64 : decode cX5_crowd 64 = .ok (.if_icmp .gt 31, 3) := by decide +kernel
theorem dX5_crowd_67 : decode cX5_crowd 67 = .ok (.lload 6, 2) := by decide +kernel
theorem dX5_crowd_69 : decode cX5_crowd 69 = .ok (.iload_n 1, 1) := by decide +kernel
theorem dX5_crowd_70 : decode cX5_crowd 70 = .ok (.iload 8, 2) := by decide +kernel
theorem dX5_crowd_72 : decode cX5_crowd 72 = .ok (.invokestatic 231, 3) := by decide +kernel
theorem dX5_crowd_75 : decode cX5_crowd 75 = .ok (.iload_n 2, 1) := by decide +kernel
theorem dX5_crowd_76 : decode cX5_crowd 76 = .ok (.iconst 1, 1) := by decide +kernel
theorem dX5_crowd_77 : decode cX5_crowd 77 = .ok (.isub, 1) := by decide +kernel
theorem dX5_crowd_78 : decode cX5_crowd 78 = .ok (.iload_n 1, 1) := by decide +kernel
theorem dX5_crowd_79 : decode cX5_crowd 79 = .ok (.iload 8, 2) := by decide +kernel
theorem dX5_crowd_81 : decode cX5_crowd 81 = .ok (.isub, 1) := by decide +kernel
theorem dX5_crowd_82 : decode cX5_crowd 82 = .ok (.invokestatic 235, 3) := by decide +kernel
theorem dX5_crowd_85 : decode cX5_crowd 85 = .ok (.lmul, 1) := by decide +kernel
theorem dX5_crowd_86 : decode cX5_crowd 86 = .ok (.ladd, 1) := by decide +kernel
theorem dX5_crowd_87 : decode cX5_crowd 87 = .ok (.lstore 6, 2) := by decide +kernel
theorem dX5_crowd_89 : decode cX5_crowd 89 = .ok (.iinc 8 1, 3) := by decide +kernel
theorem dX5_crowd_92 : decode cX5_crowd 92 = .ok (.goto (-31), 3) := by decide +kernel
theorem dX5_crowd_95 : decode cX5_crowd 95 = .ok (.lload 6, 2) := by decide +kernel
theorem dX5_crowd_97 : decode cX5_crowd 97 = .ok (.iload_n 2, 1) := by decide +kernel
theorem dX5_crowd_98 : decode cX5_crowd 98 = .ok (.iload_n 1, 1) := by decide +kernel
theorem dX5_crowd_99 : decode cX5_crowd 99 = .ok (.invokestatic 235, 3) := by decide +kernel
theorem dX5_crowd_102 : decode cX5_crowd 102 = .ok (.iload 4, 2) := by decide +kernel
theorem dX5_crowd_104 : decode cX5_crowd 104 = .ok (.invokestatic 238, 3) := by decide +kernel
theorem dX5_crowd_107 : decode cX5_crowd 107 = .ok (.lreturn, 1) := by decide +kernel
theorem dX5_mean_0 : decode cX5_mean 0 = .ok (.iload_n 1, 1) := by decide +kernel
theorem dX5_mean_1 : decode cX5_mean 1 = .ok (.invokestatic 112, 3) := by decide +kernel
theorem dX5_mean_4 : decode cX5_mean 4 = .ok (.ifCond .ne 7, 3) := by decide +kernel
theorem dX5_mean_7 : decode cX5_mean 7 = .ok (.ldc2_w 229, 3) := by decide +kernel
theorem dX5_mean_10 : decode cX5_mean 10 = .ok (.lreturn, 1) := by decide +kernel
theorem dX5_mean_11 : decode cX5_mean 11 = .ok (.aload_n 0, 1) := by decide +kernel
theorem dX5_mean_12 : decode cX5_mean 12 = .ok (.getfield 18, 3) := by decide +kernel
theorem dX5_mean_15 : decode cX5_mean 15 = .ok (.invokevirtual 175, 3) := by decide +kernel
theorem dX5_mean_18 : decode cX5_mean 18 = .ok (.i2l, 1) := by decide +kernel
theorem dX5_mean_19 : decode cX5_mean 19 = .ok (.aload_n 0, 1) := by decide +kernel
theorem dX5_mean_20 : decode cX5_mean 20 = .ok (.getfield 18, 3) := by decide +kernel
theorem dX5_mean_23 : decode cX5_mean 23 = .ok (.getfield 103, 3) := by decide +kernel
theorem dX5_mean_26 : decode cX5_mean 26 = .ok (.iconst 1, 1) := by decide +kernel
theorem dX5_mean_27 : decode cX5_mean 27 = .ok (.invokestatic 242, 3) := by decide +kernel
theorem dX5_mean_30 : decode cX5_mean 30 = .ok (.i2l, 1) := by decide +kernel
theorem dX5_mean_31 : decode cX5_mean 31 = .ok (.iload_n 1, 1) := by decide +kernel
theorem dX5_mean_32 : decode cX5_mean 32 = .ok (.invokestatic 238, 3) := by decide +kernel
theorem dX5_mean_35 : decode cX5_mean 35 = .ok (.lreturn, 1) := by decide +kernel
theorem dX5_joyless_0 : decode cX5_joyless 0 = .ok (.iconst 0, 1) := by decide +kernel
theorem dX5_joyless_1 : decode cX5_joyless 1 = .ok (.istore_n 1, 1) := by decide +kernel
theorem dX5_joyless_2 : decode cX5_joyless 2 = .ok (.iconst 0, 1) := by decide +kernel
theorem dX5_joyless_3 : decode cX5_joyless 3 = .ok (.istore_n 2, 1) := by decide +kernel
theorem dX5_joyless_4 : decode cX5_joyless 4 = .ok (.iload_n 2, 1) := by decide +kernel
theorem dX5_joyless_5 : decode cX5_joyless 5 = .ok (.aload_n 0, 1) := by decide +kernel
theorem dX5_joyless_6 : decode cX5_joyless 6 = .ok (.getfield 18, 3) := by decide +kernel
theorem dX5_joyless_9 : decode cX5_joyless 9 = .ok (.getfield 103, 3) := by decide +kernel
theorem dX5_joyless_12 : decode cX5_joyless 12 = .ok (.if_icmp .ge 55, 3) := by decide +kernel
theorem dX5_joyless_15 : decode cX5_joyless 15 = .ok (.iconst 0, 1) := by decide +kernel
theorem dX5_joyless_16 : decode cX5_joyless 16 = .ok (.istore_n 3, 1) := by decide +kernel
theorem dX5_joyless_17 : decode cX5_joyless 17 = .ok (.iload_n 3, 1) := by decide +kernel
theorem dX5_joyless_18 : decode cX5_joyless 18 = .ok (.aload_n 0, 1) := by decide +kernel
theorem dX5_joyless_19 : decode cX5_joyless 19 = .ok (.getfield 18, 3) := by decide +kernel
theorem dX5_joyless_22 : decode cX5_joyless 22 = .ok (.getfield 103, 3) := by decide +kernel
theorem dX5_joyless_25 : decode cX5_joyless 25 = .ok (.if_icmp .ge 36, 3) := by decide +kernel
theorem dX5_joyless_28 : decode cX5_joyless 28 = .ok (.aload_n 0, 1) := by decide +kernel
theorem dX5_joyless_29 : decode cX5_joyless 29 = .ok (.getfield 18, 3) := by decide +kernel
theorem dX5_joyless_32 : decode cX5_joyless 32 = .ok (.iload_n 2, 1) := by decide +kernel
theorem dX5_joyless_33 : decode cX5_joyless 33 = .ok (.iload_n 3, 1) := by decide +kernel
theorem dX5_joyless_34 : decode cX5_joyless 34 = .ok (.invokevirtual 133, 3) := by decide +kernel
theorem dX5_joyless_37 : decode cX5_joyless 37 = .ok (.ifCond .eq 18, 3) := by decide +kernel
theorem dX5_joyless_40 : decode cX5_joyless 40 = .ok (.aload_n 0, 1) := by decide +kernel
theorem dX5_joyless_41 : decode cX5_joyless 41 = .ok (.getfield 18, 3) := by decide +kernel
theorem dX5_joyless_44 : decode cX5_joyless 44 = .ok (.iload_n 2, 1) := by decide +kernel
theorem dX5_joyless_45 : decode cX5_joyless 45 = .ok (.iload_n 3, 1) := by decide +kernel
theorem dX5_joyless_46 : decode cX5_joyless 46 = .ok (.invokevirtual 136, 3) := by decide +kernel
theorem dX5_joyless_49 : decode cX5_joyless 49 = .ok (.ifCond .ne 6, 3) := by decide +kernel
theorem dX5_joyless_52 : decode cX5_joyless 52 = .ok (.iinc 1 1, 3) := by decide +kernel
theorem dX5_joyless_55 : decode cX5_joyless 55 = .ok (.iinc 3 1, 3) := by decide +kernel
theorem dX5_joyless_58 : decode cX5_joyless 58 = .ok (.goto (-41), 3) := by decide +kernel
theorem dX5_joyless_61 : decode cX5_joyless 61 = .ok (.iinc 2 1, 3) := by decide +kernel
theorem dX5_joyless_64 : decode cX5_joyless 64 = .ok (.goto (-60), 3) := by decide +kernel
theorem dX5_joyless_67 : decode cX5_joyless 67 = .ok (.iload_n 1, 1) := by decide +kernel
theorem dX5_joyless_68 : decode cX5_joyless 68 = .ok (.ireturn, 1) := by decide +kernel
theorem dX5_seen_0 : decode cX5_seen 0 = .ok (.iload_n 1, 1) := by decide +kernel
theorem dX5_seen_1 : decode cX5_seen 1 = .ok (.ifCond .lt 16, 3) := by decide +kernel
theorem dX5_seen_4 : decode cX5_seen 4 = .ok (.iload_n 1, 1) := by decide +kernel
theorem dX5_seen_5 : decode cX5_seen 5 = .ok (.iconst 1, 1) := by decide +kernel
theorem dX5_seen_6 : decode cX5_seen 6 = .ok (.aload_n 0, 1) := by decide +kernel
theorem dX5_seen_7 : decode cX5_seen 7 = .ok (.getfield 18, 3) := by decide +kernel
theorem dX5_seen_10 : decode cX5_seen 10 = .ok (.getfield 103, 3) := by decide +kernel
theorem dX5_seen_13 : decode cX5_seen 13 = .ok (.ishl, 1) := by decide +kernel
theorem dX5_seen_14 : decode cX5_seen 14 = .ok (.if_icmp .lt 5, 3) := by decide +kernel
theorem dX5_seen_17 : decode cX5_seen 17 = .ok (.iconst (-1), 1) := by decide +kernel
theorem dX5_seen_18 : decode cX5_seen 18 = .ok (.ireturn, 1) := by decide +kernel
theorem dX5_seen_19 : decode cX5_seen 19 = .ok (.iconst 0, 1) := by decide +kernel
theorem dX5_seen_20 : decode cX5_seen 20 = .ok (.istore_n 2, 1) := by decide +kernel
theorem dX5_seen_21 : decode cX5_seen 21 = .ok (.iconst 0, 1) := by decide +kernel
theorem dX5_seen_22 : decode cX5_seen 22 = .ok (.istore_n 3, 1) := by decide +kernel
theorem dX5_seen_23 : decode cX5_seen 23 = .ok (.iload_n 3, 1) := by decide +kernel
theorem dX5_seen_24 : decode cX5_seen 24 = .ok (.aload_n 0, 1) := by decide +kernel
theorem dX5_seen_25 : decode cX5_seen 25 = .ok (.getfield 18, 3) := by decide +kernel
theorem dX5_seen_28 : decode cX5_seen 28 = .ok (.getfield 103, 3) := by decide +kernel
theorem dX5_seen_31 : decode cX5_seen 31 = .ok (.if_icmp .ge 64, 3) := by decide +kernel
theorem dX5_seen_34 : decode cX5_seen 34 = .ok (.iload_n 1, 1) := by decide +kernel
theorem dX5_seen_35 : decode cX5_seen 35 = .ok (.iload_n 3, 1) := by decide +kernel
theorem dX5_seen_36 : decode cX5_seen 36 = .ok (.ishr, 1) := by decide +kernel
theorem dX5_seen_37 : decode cX5_seen 37 = .ok (.iconst 1, 1) := by decide +kernel
theorem dX5_seen_38 : decode cX5_seen 38 = .ok (.iand, 1) := by decide +kernel
theorem dX5_seen_39 : decode cX5_seen 39 = .ok (.iconst 1, 1) := by decide +kernel
theorem dX5_seen_40 : decode cX5_seen 40 = .ok (.if_icmp .ne 7, 3) := by decide +kernel
theorem dX5_seen_43 : decode cX5_seen 43 = .ok (.iconst 1, 1) := by decide +kernel
theorem dX5_seen_44 : decode cX5_seen 44 = .ok (.goto 4, 3) := by decide +kernel
theorem dX5_seen_47 : decode cX5_seen 47 = .ok (.iconst 0, 1) := by decide +kernel
theorem dX5_seen_48 : decode cX5_seen 48 = .ok (.istore 4, 2) := by decide +kernel
theorem dX5_seen_50 : decode cX5_seen 50 = .ok (.iload 4, 2) := by decide +kernel
theorem dX5_seen_52 : decode cX5_seen 52 = .ok (.ifCond .eq 14, 3) := by decide +kernel
theorem dX5_seen_55 : decode cX5_seen 55 = .ok (.aload_n 0, 1) := by decide +kernel
theorem dX5_seen_56 : decode cX5_seen 56 = .ok (.iload_n 3, 1) := by decide +kernel
theorem dX5_seen_57 : decode cX5_seen 57 = .ok (.iload_n 1, 1) := by decide +kernel
theorem dX5_seen_58 : decode cX5_seen 58 = .ok (.invokevirtual 245, 3) := by decide +kernel
theorem dX5_seen_61 : decode cX5_seen 61 = .ok (.ifCond .ne 5, 3) := by decide +kernel
theorem dX5_seen_64 : decode cX5_seen 64 = .ok (.iconst 0, 1) := by decide +kernel
theorem dX5_seen_65 : decode cX5_seen 65 = .ok (.ireturn, 1) := by decide +kernel
theorem dX5_seen_66 : decode cX5_seen 66 = .ok (.iload 4, 2) := by decide +kernel
theorem dX5_seen_68 : decode cX5_seen 68 = .ok (.ifCond .ne 21, 3) := by decide +kernel
theorem dX5_seen_71 : decode cX5_seen 71 = .ok (.aload_n 0, 1) := by decide +kernel
theorem dX5_seen_72 : decode cX5_seen 72 = .ok (.getfield 18, 3) := by decide +kernel
theorem dX5_seen_75 : decode cX5_seen 75 = .ok (.getfield 55, 3) := by decide +kernel
theorem dX5_seen_78 : decode cX5_seen 78 = .ok (.iload_n 3, 1) := by decide +kernel
theorem dX5_seen_79 : decode cX5_seen 79 = .ok (.aaload, 1) := by decide +kernel
theorem dX5_seen_80 : decode cX5_seen 80 = .ok (.invokevirtual 248, 3) := by decide +kernel
theorem dX5_seen_83 : decode cX5_seen 83 = .ok (.ifCond .eq 6, 3) := by decide +kernel
theorem dX5_seen_86 : decode cX5_seen 86 = .ok (.iinc 2 1, 3) := by decide +kernel
theorem dX5_seen_89 : decode cX5_seen 89 = .ok (.iinc 3 1, 3) := by decide +kernel
theorem dX5_seen_92 : decode cX5_seen 92 = .ok (.goto (-69), 3) := by decide +kernel
theorem dX5_seen_95 : decode cX5_seen 95 = .ok (.iload_n 2, 1) := by decide +kernel
theorem dX5_seen_96 : decode cX5_seen 96 = .ok (.ireturn, 1) := by decide +kernel
theorem dX5_forged_0 : decode cX5_forged 0 = .ok (.aload_n 0, 1) := by decide +kernel
theorem dX5_forged_1 : decode cX5_forged 1 = .ok (.iload_n 1, 1) := by decide +kernel
theorem dX5_forged_2 : decode cX5_forged 2 = .ok (.invokevirtual 36, 3) := by decide +kernel
theorem dX5_forged_5 : decode cX5_forged 5 = .ok (.istore_n 2, 1) := by decide +kernel
theorem dX5_forged_6 : decode cX5_forged 6 = .ok (.iload_n 2, 1) := by decide +kernel
theorem dX5_forged_7 : decode cX5_forged 7 = .ok (.ifCond .eq 5, 3) := by decide +kernel
theorem dX5_forged_10 : decode cX5_forged 10 = .ok (.iload_n 2, 1) := by decide +kernel
theorem dX5_forged_11 : decode cX5_forged 11 = .ok (.ireturn, 1) := by decide +kernel
theorem dX5_forged_12 : decode cX5_forged 12 = .ok (.aload_n 0, 1) := by decide +kernel
theorem dX5_forged_13 : decode cX5_forged 13 = .ok (.getfield 11, 3) := by decide +kernel
theorem dX5_forged_16 : decode cX5_forged 16 = .ok (.iload_n 1, 1) := by decide +kernel
theorem dX5_forged_17 : decode cX5_forged 17 = .ok (.aaload, 1) := by decide +kernel
theorem dX5_forged_18 : decode cX5_forged 18 = .ok (.astore_n 3, 1) := by decide +kernel
theorem dX5_forged_19 : decode cX5_forged 19 = .ok (.aload_n 3, 1) := by decide +kernel
theorem dX5_forged_20 : decode cX5_forged 20 = .ok (.getfield 207, 3) := by decide +kernel
theorem dX5_forged_23 : decode cX5_forged 23 = .ok (.iconst 2, 1) := by decide +kernel
theorem dX5_forged_24 : decode cX5_forged 24 = .ok (.irem, 1) := by decide +kernel
theorem dX5_forged_25 : decode cX5_forged 25 = .ok (.ifCond .eq 6, 3) := by decide +kernel
theorem dX5_forged_28 : decode cX5_forged 28 = .ok (.bipush (-13), 2) := by decide +kernel
theorem dX5_forged_30 : decode cX5_forged 30 = .ok (.ireturn, 1) := by decide +kernel
theorem dX5_forged_31 : decode cX5_forged 31 = .ok (.aload_n 0, 1) := by decide +kernel
theorem dX5_forged_32 : decode cX5_forged 32 = .ok (.getfield 25, 3) := by decide +kernel
theorem dX5_forged_35 : decode cX5_forged 35 = .ok (.aload_n 0, 1) := by decide +kernel
theorem dX5_forged_36 : decode cX5_forged 36 = .ok (.getfield 18, 3) := by decide +kernel
theorem dX5_forged_39 : decode cX5_forged 39 = .ok (.invokevirtual 166, 3) := by decide +kernel
theorem dX5_forged_42 : decode cX5_forged 42 = .ok (.iconst 0, 1) := by decide +kernel
theorem dX5_forged_43 : decode cX5_forged 43 = .ok (.istore 4, 2) := by decide +kernel
theorem dX5_forged_45 : decode cX5_forged 45 = .ok (.iload 4, 2) := by decide +kernel
theorem dX5_forged_47 : decode cX5_forged 47 = .ok (.aload_n 3, 1) := by decide +kernel
theorem dX5_forged_48 : decode cX5_forged 48 = .ok (.getfield 207, 3) := by decide +kernel
theorem dX5_forged_51 : decode cX5_forged 51 = .ok (.iconst 2, 1) := by decide +kernel
theorem dX5_forged_52 : decode cX5_forged 52 = .ok (.idiv, 1) := by decide +kernel
theorem dX5_forged_53 : decode cX5_forged 53 = .ok (.if_icmp .ge 60, 3) := by decide +kernel
theorem dX5_forged_56 : decode cX5_forged 56 = .ok (.aload_n 3, 1) := by decide +kernel
theorem dX5_forged_57 : decode cX5_forged 57 = .ok (.iconst 2, 1) := by decide +kernel
theorem dX5_forged_58 : decode cX5_forged 58 = .ok (.iload 4, 2) := by decide +kernel
theorem dX5_forged_60 : decode cX5_forged 60 = .ok (.imul, 1) := by decide +kernel
theorem dX5_forged_61 : decode cX5_forged 61 = .ok (.invokevirtual 252, 3) := by decide +kernel
theorem dX5_forged_64 : decode cX5_forged 64 = .ok (.istore 5, 2) := by decide +kernel
theorem dX5_forged_66 : decode cX5_forged 66 = .ok (.aload_n 3, 1) := by decide +kernel
theorem dX5_forged_67 : decode cX5_forged 67 = .ok (.iconst 2, 1) := by decide +kernel
theorem dX5_forged_68 : decode cX5_forged 68 = .ok (.iload 4, 2) := by decide +kernel
theorem dX5_forged_70 : decode cX5_forged 70 = .ok (.imul, 1) := by decide +kernel
theorem dX5_forged_71 : decode cX5_forged 71 = .ok (.iconst 1, 1) := by decide +kernel
theorem dX5_forged_72 : decode cX5_forged 72 = .ok (.iadd, 1) := by decide +kernel
theorem dX5_forged_73 : decode cX5_forged 73 = .ok (.invokevirtual 252, 3) := by decide +kernel
theorem dX5_forged_76 : decode cX5_forged 76 = .ok (.istore 6, 2) := by decide +kernel
theorem dX5_forged_78 : decode cX5_forged 78 = .ok (.aload_n 0, 1) := by decide +kernel
theorem dX5_forged_79 : decode cX5_forged 79 = .ok (.getfield 25, 3) := by decide +kernel
theorem dX5_forged_82 : decode cX5_forged 82 = .ok (.iload 5, 2) := by decide +kernel
theorem dX5_forged_84 : decode cX5_forged 84 = .ok (.iload 6, 2) := by decide +kernel
theorem dX5_forged_86 : decode cX5_forged 86 = .ok (.invokevirtual 133, 3) := by decide +kernel
theorem dX5_forged_89 : decode cX5_forged 89 = .ok (.ifCond .ne 6, 3) := by decide +kernel
theorem dX5_forged_92 : decode cX5_forged 92 = .ok (.iload 4, 2) := by decide +kernel
theorem dX5_forged_94 : decode cX5_forged 94 = .ok (.ireturn, 1) := by decide +kernel
theorem dX5_forged_95 : decode cX5_forged 95 = .ok (.aload_n 0, 1) := by decide +kernel
theorem dX5_forged_96 : decode cX5_forged 96 = .ok (.getfield 25, 3) := by decide +kernel
theorem dX5_forged_99 : decode cX5_forged 99 = .ok (.iload 5, 2) := by decide +kernel
theorem dX5_forged_101 : decode cX5_forged 101 = .ok (.iload 6, 2) := by decide +kernel
theorem dX5_forged_103 : decode cX5_forged 103 = .ok (.invokevirtual 129, 3) := by decide +kernel
theorem dX5_forged_106 : decode cX5_forged 106 = .ok (.pop, 1) := by decide +kernel
theorem dX5_forged_107 : decode cX5_forged 107 = .ok (.iinc 4 1, 3) := by decide +kernel
theorem dX5_forged_110 : decode cX5_forged 110 = .ok (.goto (-65), 3) := by decide +kernel
theorem dX5_forged_113 : decode cX5_forged 113 = .ok (.bipush (-4), 2) := by decide +kernel
theorem dX5_forged_115 : decode cX5_forged 115 = .ok (.ireturn, 1) := by decide +kernel
theorem dX5_judge_0 : decode cX5_judge 0 = .ok (.aload_n 0, 1) := by decide +kernel
theorem dX5_judge_1 : decode cX5_judge 1 = .ok (.iload_n 1, 1) := by decide +kernel
theorem dX5_judge_2 : decode cX5_judge 2 = .ok (.invokevirtual 36, 3) := by decide +kernel
theorem dX5_judge_5 : decode cX5_judge 5 = .ok (.istore_n 2, 1) := by decide +kernel
theorem dX5_judge_6 : decode cX5_judge 6 = .ok (.iload_n 2, 1) := by decide +kernel
theorem dX5_judge_7 : decode cX5_judge 7 = .ok (.ifCond .eq 5, 3) := by decide +kernel
theorem dX5_judge_10 : decode cX5_judge 10 = .ok (.iload_n 2, 1) := by decide +kernel
theorem dX5_judge_11 : decode cX5_judge 11 = .ok (.ireturn, 1) := by decide +kernel
theorem dX5_judge_12 : decode cX5_judge 12 = .ok (.aload_n 0, 1) := by decide +kernel
theorem dX5_judge_13 : decode cX5_judge 13 = .ok (.getfield 11, 3) := by decide +kernel
theorem dX5_judge_16 : decode cX5_judge 16 = .ok (.iload_n 1, 1) := by decide +kernel
theorem dX5_judge_17 : decode cX5_judge 17 = .ok (.aaload, 1) := by decide +kernel
theorem dX5_judge_18 : decode cX5_judge 18 = .ok (.astore_n 3, 1) := by decide +kernel
theorem dX5_judge_19 : decode cX5_judge 19 = .ok (.aload_n 3, 1) := by decide +kernel
theorem dX5_judge_20 : decode cX5_judge 20 = .ok (.invokevirtual 255, 3) := by decide +kernel
theorem dX5_judge_23 : decode cX5_judge 23 = .ok (.istore 4, 2) := by decide +kernel
theorem dX5_judge_25 : decode cX5_judge 25 = .ok (.aload_n 0, 1) := by decide +kernel
theorem dX5_judge_26 : decode cX5_judge 26 = .ok (.getfield 25, 3) := by decide +kernel
theorem dX5_judge_29 : decode cX5_judge 29 = .ok (.aload_n 0, 1) := by decide +kernel
theorem dX5_judge_30 : decode cX5_judge 30 = .ok (.getfield 18, 3) := by decide +kernel
theorem dX5_judge_33 : decode cX5_judge 33 = .ok (.invokevirtual 166, 3) := by decide +kernel
theorem dX5_judge_36 : decode cX5_judge 36 = .ok (.iconst 0, 1) := by decide +kernel
theorem dX5_judge_37 : decode cX5_judge 37 = .ok (.istore 5, 2) := by decide +kernel
theorem dX5_judge_39 : decode cX5_judge 39 = .ok (.iload 5, 2) := by decide +kernel
theorem dX5_judge_41 : decode cX5_judge 41 = .ok (.aload_n 3, 1) := by decide +kernel
theorem dX5_judge_42 : decode cX5_judge 42 = .ok (.getfield 207, 3) := by decide +kernel
theorem dX5_judge_45 : decode cX5_judge 45 = .ok (.if_icmp .ge 89, 3) := by decide +kernel
theorem dX5_judge_48 : decode cX5_judge 48 = .ok (.aload_n 0, 1) := by decide +kernel
theorem dX5_judge_49 : decode cX5_judge 49 = .ok (.getfield 25, 3) := by decide +kernel
theorem dX5_judge_52 : decode cX5_judge 52 = .ok (.invokevirtual 145, 3) := by decide +kernel
theorem dX5_judge_55 : decode cX5_judge 55 = .ok (.istore 6, 2) := by decide +kernel
theorem dX5_judge_57 : decode cX5_judge 57 = .ok (.iload 6, 2) := by decide +kernel
theorem dX5_judge_59 : decode cX5_judge 59 = .ok (.ifCond .ge 8, 3) := by decide +kernel
theorem dX5_judge_62 : decode cX5_judge 62 = .ok (.bipush (-4), 2) := by decide +kernel
theorem dX5_judge_64 : decode cX5_judge 64 = .ok (.goto 20, 3) := by decide +kernel
theorem dX5_judge_67 : decode cX5_judge 67 = .ok (.aload_n 0, 1) := by decide +kernel
theorem dX5_judge_68 : decode cX5_judge 68 = .ok (.getfield 25, 3) := by decide +kernel
theorem dX5_judge_71 : decode cX5_judge 71 = .ok (.iload 6, 2) := by decide +kernel
theorem dX5_judge_73 : decode cX5_judge 73 = .ok (.bipush 10, 2) := by decide +kernel
theorem dX5_judge_75 : decode cX5_judge 75 = .ok (.idiv, 1) := by decide +kernel
theorem dX5_judge_76 : decode cX5_judge 76 = .ok (.iload 6, 2) := by decide +kernel
theorem dX5_judge_78 : decode cX5_judge 78 = .ok (.bipush 10, 2) := by decide +kernel
theorem dX5_judge_80 : decode cX5_judge 80 = .ok (.irem, 1) := by decide +kernel
theorem dX5_judge_81 : decode cX5_judge 81 = .ok (.invokevirtual 129, 3) := by decide +kernel
theorem dX5_judge_84 : decode cX5_judge 84 = .ok (.istore 7, 2) := by decide +kernel
theorem dX5_judge_86 : decode cX5_judge 86 = .ok (.iload 6, 2) := by decide +kernel
theorem dX5_judge_88 : decode cX5_judge 88 = .ok (.ifCond .lt 18, 3) := by decide +kernel
theorem dX5_judge_91 : decode cX5_judge 91 = .ok (.iload 7, 2) := by decide +kernel
theorem dX5_judge_93 : decode cX5_judge 93 = .ok (.aload_n 3, 1) := by decide +kernel
theorem dX5_judge_94 : decode cX5_judge 94 = .ok (.iload 5, 2) := by decide +kernel
theorem dX5_judge_96 : decode cX5_judge 96 = .ok (.invokevirtual 252, 3) := by decide +kernel
theorem dX5_judge_99 : decode cX5_judge 99 = .ok (.if_icmp .ne 7, 3) := by decide +kernel
theorem dX5_judge_102 : decode cX5_judge 102 = .ok (.iconst 1, 1) := by decide +kernel
theorem dX5_judge_103 : decode cX5_judge 103 = .ok (.goto 4, 3) := by decide +kernel
theorem dX5_judge_106 : decode cX5_judge 106 = .ok (.iconst 0, 1) := by decide +kernel
theorem dX5_judge_107 : decode cX5_judge 107 = .ok (.istore 8, 2) := by decide +kernel
theorem dX5_judge_109 : decode cX5_judge 109 = .ok (.iload 8, 2) := by decide +kernel
theorem dX5_judge_111 : decode cX5_judge 111 = .ok (.ifCond .ne 17, 3) := by decide +kernel
theorem dX5_judge_114 : decode cX5_judge 114 = .ok (.aload_n 3, 1) := by decide +kernel
theorem dX5_judge_115 : decode cX5_judge 115 = .ok (.iload 5, 2) := by decide +kernel
theorem dX5_judge_117 : decode cX5_judge 117 = .ok (.invokevirtual 252, 3) := by decide +kernel
theorem dX5_judge_120 : decode cX5_judge 120 = .ok (.iload 4, 2) := by decide +kernel
theorem dX5_judge_122 : decode cX5_judge 122 = .ok (.if_icmp .eq 6, 3) := by decide +kernel
theorem dX5_judge_125 : decode cX5_judge 125 = .ok (.iload 5, 2) := by decide +kernel
theorem dX5_judge_127 : decode cX5_judge 127 = .ok (.ireturn, 1) := by decide +kernel
theorem dX5_judge_128 : decode cX5_judge 128 = .ok (.iinc 5 1, 3) := by decide +kernel
theorem dX5_judge_131 : decode cX5_judge 131 = .ok (.goto (-92), 3) := by decide +kernel
theorem dX5_judge_134 : decode cX5_judge 134 = .ok (.bipush (-4), 2) := by decide +kernel
theorem dX5_judge_136 : decode cX5_judge 136 = .ok (.ireturn, 1) := by decide +kernel
theorem dX5_fetes_0 : decode cX5_fetes 0 = .ok (.iload_n 1, 1) := by decide +kernel
theorem dX5_fetes_1 : decode cX5_fetes 1 = .ok (.iconst 1, 1) := by decide +kernel
theorem dX5_fetes_2 : decode cX5_fetes 2 = .ok (.bipush 20, 2) := by decide +kernel
theorem dX5_fetes_4 : decode cX5_fetes 4 = .ok (.invokestatic 115, 3) := by decide +kernel
theorem dX5_fetes_7 : decode cX5_fetes 7 = .ok (.ifCond .eq 10, 3) := by decide +kernel
theorem dX5_fetes_10 : decode cX5_fetes 10 = .ok (.iload_n 3, 1) := by decide +kernel
theorem dX5_fetes_11 : decode cX5_fetes 11 = .ok (.invokestatic 112, 3) := by decide +kernel
theorem dX5_fetes_14 : decode cX5_fetes 14 = .ok (.ifCond .ne 5, 3) := by decide +kernel
theorem dX5_fetes_17 : decode cX5_fetes 17 = .ok (.iconst (-1), 1) := by decide +kernel
theorem dX5_fetes_18 : decode cX5_fetes 18 = .ok (.ireturn, 1) := by decide +kernel
theorem dX5_fetes_19 : decode cX5_fetes 19 = .ok (.aload_n 0, 1) := by decide +kernel
theorem dX5_fetes_20 : decode cX5_fetes 20 = .ok (.getfield 18, 3) := by decide +kernel
theorem dX5_fetes_23 : decode cX5_fetes 23 = .ok (.getfield 103, 3) := by decide +kernel
theorem dX5_fetes_26 : decode cX5_fetes 26 = .ok (.ifCond .ne 6, 3) := by decide +kernel
theorem dX5_fetes_29 : decode cX5_fetes 29 = .ok (.bipush (-3), 2) := by decide +kernel
theorem dX5_fetes_31 : decode cX5_fetes 31 = .ok (.ireturn, 1) := by decide +kernel
theorem dX5_fetes_32 : decode cX5_fetes 32 = .ok (.iload_n 2, 1) := by decide +kernel
theorem dX5_fetes_33 : decode cX5_fetes 33 = .ok (.istore 4, 2) := by decide +kernel
theorem dX5_fetes_35 : decode cX5_fetes 35 = .ok (.iconst 0, 1) := by decide +kernel
theorem dX5_fetes_36 : decode cX5_fetes 36 = .ok (.istore 5, 2) := by decide +kernel
theorem dX5_fetes_38 : decode cX5_fetes 38 = .ok (.iconst 0, 1) := by decide +kernel
theorem dX5_fetes_39 : decode cX5_fetes 39 = .ok (.istore 6, 2) := by decide +kernel
theorem dX5_fetes_41 : decode cX5_fetes 41 = .ok (.iconst 0, 1) := by decide +kernel
theorem dX5_fetes_42 : decode cX5_fetes 42 = .ok (.istore 7, 2) := by decide +kernel
theorem dX5_fetes_44 : decode cX5_fetes 44 = .ok (.iload 7, 2) := by decide +kernel
theorem dX5_fetes_46 : decode cX5_fetes 46 = .ok (.iload_n 1, 1) := by decide +kernel
theorem dX5_fetes_47 : decode cX5_fetes 47 = .ok (.if_icmp .ge 111, 3) := by decide +kernel
theorem dX5_fetes_50 : decode cX5_fetes 50 = .ok (.aload_n 0, 1) := by decide +kernel
theorem dX5_fetes_51 : decode cX5_fetes 51 = .ok (.getfield 25, 3) := by decide +kernel
theorem dX5_fetes_54 : decode cX5_fetes 54 = .ok (.aload_n 0, 1) := by decide +kernel
theorem dX5_fetes_55 : decode cX5_fetes 55 = .ok (.getfield 18, 3) := by decide +kernel
theorem dX5_fetes_58 : decode cX5_fetes 58 = .ok (.invokevirtual 166, 3) := by decide +kernel
theorem dX5_fetes_61 : decode cX5_fetes 61 = .ok (.iconst 0, 1) := by decide +kernel
theorem dX5_fetes_62 : decode cX5_fetes 62 = .ok (.istore 8, 2) := by decide +kernel
theorem dX5_fetes_64 : decode cX5_fetes 64 = .ok (.iload 8, 2) := by decide +kernel
theorem dX5_fetes_66 : decode cX5_fetes 66 = .ok (.bipush 10, 2) := by decide +kernel
theorem dX5_fetes_68 : decode cX5_fetes 68 = .ok (.if_icmp .ge 84, 3) := by decide +kernel
theorem dX5_fetes_71 : decode cX5_fetes 71 = .ok (.iload 4, 2) := by decide +kernel
theorem dX5_fetes_73 : decode cX5_fetes 73 = .ok (.invokestatic 258, 3) := by decide +kernel
theorem dX5_fetes_76 : decode cX5_fetes 76 = .ok (.istore 4, 2) := by decide +kernel
theorem dX5_fetes_78 : decode cX5_fetes 78 = .ok (.iload 4, 2) := by decide +kernel
theorem dX5_fetes_80 : decode cX5_fetes 80 = .ok (.aload_n 0, 1) := by decide +kernel
theorem dX5_fetes_81 : decode cX5_fetes 81 = .ok (.getfield 18, 3) := by decide +kernel
theorem dX5_fetes_84 : decode cX5_fetes 84 = .ok (.getfield 103, 3) := by decide +kernel
theorem dX5_fetes_87 : decode cX5_fetes 87 = .ok (.invokestatic 261, 3) := by decide +kernel
theorem dX5_fetes_90 : decode cX5_fetes 90 = .ok (.istore 9, 2) := by decide +kernel
theorem dX5_fetes_92 : decode cX5_fetes 92 = .ok (.iload 4, 2) := by decide +kernel
theorem dX5_fetes_94 : decode cX5_fetes 94 = .ok (.invokestatic 258, 3) := by decide +kernel
theorem dX5_fetes_97 : decode cX5_fetes 97 = .ok (.istore 4, 2) := by decide +kernel
theorem dX5_fetes_99 : decode cX5_fetes 99 = .ok (.iload 4, 2) := by decide +kernel
theorem dX5_fetes_101 : decode cX5_fetes 101 = .ok (.aload_n 0, 1) := by decide +kernel
theorem dX5_fetes_102 : decode cX5_fetes 102 = .ok (.getfield 18, 3) := by decide +kernel
theorem dX5_fetes_105 : decode cX5_fetes 105 = .ok (.getfield 103, 3) := by decide +kernel
theorem dX5_fetes_108 : decode cX5_fetes 108 = .ok (.invokestatic 261, 3) := by decide +kernel
theorem dX5_fetes_111 : decode cX5_fetes 111 = .ok (.istore 10, 2) := by decide +kernel
theorem dX5_fetes_113 : decode cX5_fetes 113 = .ok (.aload_n 0, 1) := by decide +kernel
theorem dX5_fetes_114 : decode cX5_fetes 114 = .ok (.getfield 25, 3) := by decide +kernel
theorem dX5_fetes_117 : decode cX5_fetes 117 = .ok (.iload 9, 2) := by decide +kernel
theorem dX5_fetes_119 : decode cX5_fetes 119 = .ok (.iload 10, 2) := by decide +kernel
theorem dX5_fetes_121 : decode cX5_fetes 121 = .ok (.invokevirtual 133, 3) := by decide +kernel
theorem dX5_fetes_124 : decode cX5_fetes 124 = .ok (.ifCond .eq 22, 3) := by decide +kernel
theorem dX5_fetes_127 : decode cX5_fetes 127 = .ok (.iload 5, 2) := by decide +kernel
theorem dX5_fetes_129 : decode cX5_fetes 129 = .ok (.aload_n 0, 1) := by decide +kernel
theorem dX5_fetes_130 : decode cX5_fetes 130 = .ok (.getfield 25, 3) := by decide +kernel
theorem dX5_fetes_133 : decode cX5_fetes 133 = .ok (.iload 9, 2) := by decide +kernel
theorem dX5_fetes_135 : decode cX5_fetes 135 = .ok (.iload 10, 2) := by decide +kernel
theorem dX5_fetes_137 : decode cX5_fetes 137 = .ok (.invokevirtual 129, 3) := by decide +kernel
theorem dX5_fetes_140 : decode cX5_fetes 140 = .ok (.iadd, 1) := by decide +kernel
theorem dX5_fetes_141 : decode cX5_fetes 141 = .ok (.istore 5, 2) := by decide +kernel
theorem dX5_fetes_143 : decode cX5_fetes 143 = .ok (.iinc 6 1, 3) := by decide +kernel
theorem dX5_fetes_146 : decode cX5_fetes 146 = .ok (.iinc 8 1, 3) := by decide +kernel
theorem dX5_fetes_149 : decode cX5_fetes 149 = .ok (.goto (-85), 3) := by decide +kernel
theorem dX5_fetes_152 : decode cX5_fetes 152 = .ok (.iinc 7 1, 3) := by decide +kernel
theorem dX5_fetes_155 : decode cX5_fetes 155 = .ok (.goto (-111), 3) := by decide +kernel
theorem dX5_fetes_158 : decode cX5_fetes 158 = .ok (.iload_n 3, 1) := by decide +kernel
theorem dX5_fetes_159 : decode cX5_fetes 159 = .ok (.ifCond .ne 8, 3) := by decide +kernel
theorem dX5_fetes_162 : decode cX5_fetes 162 = .ok (.iload 5, 2) := by decide +kernel
theorem dX5_fetes_164 : decode cX5_fetes 164 = .ok (.goto 5, 3) := by decide +kernel
theorem dX5_fetes_167 : decode cX5_fetes 167 = .ok (.iload 6, 2) := by decide +kernel
theorem dX5_fetes_169 : decode cX5_fetes 169 = .ok (.ireturn, 1) := by decide +kernel
theorem dX5_image_0 : decode cX5_image 0 = .ok (.aload_n 0, 1) := by decide +kernel
theorem dX5_image_1 : decode cX5_image 1 = .ok (.getfield 22, 3) := by decide +kernel
theorem dX5_image_4 : decode cX5_image 4 = .ok (.aload_n 0, 1) := by decide +kernel
theorem dX5_image_5 : decode cX5_image 5 = .ok (.getfield 18, 3) := by decide +kernel
theorem dX5_image_8 : decode cX5_image 8 = .ok (.invokevirtual 166, 3) := by decide +kernel
theorem dX5_image_11 : decode cX5_image 11 = .ok (.aload_n 0, 1) := by decide +kernel
theorem dX5_image_12 : decode cX5_image 12 = .ok (.iconst 1, 1) := by decide +kernel
theorem dX5_image_13 : decode cX5_image 13 = .ok (.putfield 264, 3) := by decide +kernel
theorem dX5_image_16 : decode cX5_image 16 = .ok (.aload_n 0, 1) := by decide +kernel
theorem dX5_image_17 : decode cX5_image 17 = .ok (.getfield 18, 3) := by decide +kernel
theorem dX5_image_20 : decode cX5_image 20 = .ok (.getfield 268, 3) := by decide +kernel
theorem dX5_image_23 : decode cX5_image 23 = .ok (.ireturn, 1) := by decide +kernel
theorem dX5_restore_0 : decode cX5_restore 0 = .ok (.aload_n 0, 1) := by decide +kernel
theorem dX5_restore_1 : decode cX5_restore 1 = .ok (.getfield 264, 3) := by decide +kernel
theorem dX5_restore_4 : decode cX5_restore 4 = .ok (.ifCond .ne 6, 3) := by decide +kernel
theorem dX5_restore_7 : decode cX5_restore 7 = .ok (.bipush (-3), 2) := by decide +kernel
theorem dX5_restore_9 : decode cX5_restore 9 = .ok (.ireturn, 1) := by decide +kernel
theorem dX5_restore_10 : decode cX5_restore 10 = .ok (.aload_n 0, 1) := by decide +kernel
theorem dX5_restore_11 : decode cX5_restore 11 = .ok (.getfield 18, 3) := by decide +kernel
theorem dX5_restore_14 : decode cX5_restore 14 = .ok (.aload_n 0, 1) := by decide +kernel
theorem dX5_restore_15 : decode cX5_restore 15 = .ok (.getfield 22, 3) := by decide +kernel
theorem dX5_restore_18 : decode cX5_restore 18 = .ok (.invokevirtual 166, 3) := by decide +kernel
theorem dX5_restore_21 : decode cX5_restore 21 = .ok (.aload_n 0, 1) := by decide +kernel
theorem dX5_restore_22 : decode cX5_restore 22 = .ok (.getfield 18, 3) := by decide +kernel
theorem dX5_restore_25 : decode cX5_restore 25 = .ok (.getfield 268, 3) := by decide +kernel
theorem dX5_restore_28 : decode cX5_restore 28 = .ok (.ireturn, 1) := by decide +kernel
theorem dX5_count_0 : decode cX5_count 0 = .ok (.iload_n 1, 1) := by decide +kernel
theorem dX5_count_1 : decode cX5_count 1 = .ok (.tableswitch 99 0 6 #[43, 51, 59, 67, 75, 83, 91], 43) := by decide +kernel
theorem dX5_count_44 : decode cX5_count 44 = .ok (.aload_n 0, 1) := by decide +kernel
theorem dX5_count_45 : decode cX5_count 45 = .ok (.getfield 18, 3) := by decide +kernel
theorem dX5_count_48 : decode cX5_count 48 = .ok (.getfield 103, 3) := by decide +kernel
theorem dX5_count_51 : decode cX5_count 51 = .ok (.ireturn, 1) := by decide +kernel
theorem dX5_count_52 : decode cX5_count 52 = .ok (.aload_n 0, 1) := by decide +kernel
theorem dX5_count_53 : decode cX5_count 53 = .ok (.getfield 18, 3) := by decide +kernel
theorem dX5_count_56 : decode cX5_count 56 = .ok (.getfield 119, 3) := by decide +kernel
theorem dX5_count_59 : decode cX5_count 59 = .ok (.ireturn, 1) := by decide +kernel
theorem dX5_count_60 : decode cX5_count 60 = .ok (.aload_n 0, 1) := by decide +kernel
theorem dX5_count_61 : decode cX5_count 61 = .ok (.getfield 18, 3) := by decide +kernel
theorem dX5_count_64 : decode cX5_count 64 = .ok (.getfield 268, 3) := by decide +kernel
theorem dX5_count_67 : decode cX5_count 67 = .ok (.ireturn, 1) := by decide +kernel
theorem dX5_count_68 : decode cX5_count 68 = .ok (.aload_n 0, 1) := by decide +kernel
theorem dX5_count_69 : decode cX5_count 69 = .ok (.getfield 18, 3) := by decide +kernel
theorem dX5_count_72 : decode cX5_count 72 = .ok (.invokevirtual 175, 3) := by decide +kernel
theorem dX5_count_75 : decode cX5_count 75 = .ok (.ireturn, 1) := by decide +kernel
theorem dX5_count_76 : decode cX5_count 76 = .ok (.aload_n 0, 1) := by decide +kernel
theorem dX5_count_77 : decode cX5_count 77 = .ok (.getfield 18, 3) := by decide +kernel
theorem dX5_count_80 : decode cX5_count 80 = .ok (.invokevirtual 271, 3) := by decide +kernel
theorem dX5_count_83 : decode cX5_count 83 = .ok (.ireturn, 1) := by decide +kernel
theorem dX5_count_84 : decode cX5_count 84 = .ok (.aload_n 0, 1) := by decide +kernel
theorem dX5_count_85 : decode cX5_count 85 = .ok (.getfield 18, 3) := by decide +kernel
theorem dX5_count_88 : decode cX5_count 88 = .ok (.invokevirtual 274, 3) := by decide +kernel
theorem dX5_count_91 : decode cX5_count 91 = .ok (.ireturn, 1) := by decide +kernel
theorem dX5_count_92 : decode cX5_count 92 = .ok (.aload_n 0, 1) := by decide +kernel
theorem dX5_count_93 : decode cX5_count 93 = .ok (.getfield 18, 3) := by decide +kernel
theorem dX5_count_96 : decode cX5_count 96 = .ok (.invokevirtual 277, 3) := by decide +kernel
theorem dX5_count_99 : decode cX5_count 99 = .ok (.ireturn, 1) := by decide +kernel
theorem dX5_count_100 : decode cX5_count 100 = .ok (.iconst (-1), 1) := by decide +kernel
theorem dX5_count_101 : decode cX5_count 101 = .ok (.ireturn, 1) := by decide +kernel
theorem dX5_keep_0 : decode cX5_keep 0 = .ok (.iload_n 1, 1) := by decide +kernel
theorem dX5_keep_1 : decode cX5_keep 1 = .ok (.invokestatic 94, 3) := by decide +kernel
theorem dX5_keep_4 : decode cX5_keep 4 = .ok (.ifCond .eq 10, 3) := by decide +kernel
theorem dX5_keep_7 : decode cX5_keep 7 = .ok (.iload_n 2, 1) := by decide +kernel
theorem dX5_keep_8 : decode cX5_keep 8 = .ok (.invokestatic 112, 3) := by decide +kernel
theorem dX5_keep_11 : decode cX5_keep 11 = .ok (.ifCond .ne 5, 3) := by decide +kernel
theorem dX5_keep_14 : decode cX5_keep 14 = .ok (.iconst (-1), 1) := by decide +kernel
theorem dX5_keep_15 : decode cX5_keep 15 = .ok (.ireturn, 1) := by decide +kernel
theorem dX5_keep_16 : decode cX5_keep 16 = .ok (.iload_n 2, 1) := by decide +kernel
theorem dX5_keep_17 : decode cX5_keep 17 = .ok (.ifCond .ne 15, 3) := by decide +kernel
theorem dX5_keep_20 : decode cX5_keep 20 = .ok (.aload_n 0, 1) := by decide +kernel
theorem dX5_keep_21 : decode cX5_keep 21 = .ok (.getfield 11, 3) := by decide +kernel
theorem dX5_keep_24 : decode cX5_keep 24 = .ok (.iload_n 1, 1) := by decide +kernel
theorem dX5_keep_25 : decode cX5_keep 25 = .ok (.aaload, 1) := by decide +kernel
theorem dX5_keep_26 : decode cX5_keep 26 = .ok (.iconst 0, 1) := by decide +kernel
theorem dX5_keep_27 : decode cX5_keep 27 = .ok (.putfield 280, 3) := by decide +kernel
theorem dX5_keep_30 : decode cX5_keep 30 = .ok (.iconst 0, 1) := by decide +kernel
theorem dX5_keep_31 : decode cX5_keep 31 = .ok (.ireturn, 1) := by decide +kernel
theorem dX5_keep_32 : decode cX5_keep 32 = .ok (.iload_n 3, 1) := by decide +kernel
theorem dX5_keep_33 : decode cX5_keep 33 = .ok (.invokestatic 283, 3) := by decide +kernel
theorem dX5_keep_36 : decode cX5_keep 36 = .ok (.ifCond .eq 11, 3) := by decide +kernel
theorem dX5_keep_39 : decode cX5_keep 39 = .ok (.iload 4, 2) := by decide +kernel
theorem dX5_keep_41 : decode cX5_keep 41 = .ok (.invokestatic 178, 3) := by decide +kernel
theorem dX5_keep_44 : decode cX5_keep 44 = .ok (.ifCond .ne 5, 3) := by decide +kernel
theorem dX5_keep_47 : decode cX5_keep 47 = .ok (.iconst (-1), 1) := by decide +kernel
theorem dX5_keep_48 : decode cX5_keep 48 = .ok (.ireturn, 1) := by decide +kernel
theorem dX5_keep_49 : decode cX5_keep 49 = .ok (.aload_n 0, 1) := by decide +kernel
theorem dX5_keep_50 : decode cX5_keep 50 = .ok (.getfield 11, 3) := by decide +kernel
theorem dX5_keep_53 : decode cX5_keep 53 = .ok (.iload_n 1, 1) := by decide +kernel
theorem dX5_keep_54 : decode cX5_keep 54 = .ok (.aaload, 1) := by decide +kernel
theorem dX5_keep_55 : decode cX5_keep 55 = .ok (.getstatic 181, 3) := by decide +kernel
theorem dX5_keep_58 : decode cX5_keep 58 = .ok (.iload_n 3, 1) := by decide +kernel
theorem dX5_keep_59 : decode cX5_keep 59 = .ok (.aaload, 1) := by decide +kernel
theorem dX5_keep_60 : decode cX5_keep 60 = .ok (.iload 4, 2) := by decide +kernel
theorem dX5_keep_62 : decode cX5_keep 62 = .ok (.invokevirtual 286, 3) := by decide +kernel
theorem dX5_keep_65 : decode cX5_keep 65 = .ok (.iconst 0, 1) := by decide +kernel
theorem dX5_keep_66 : decode cX5_keep 66 = .ok (.ireturn, 1) := by decide +kernel
theorem dX5_row_0 : decode cX5_row 0 = .ok (.iload_n 1, 1) := by decide +kernel
theorem dX5_row_1 : decode cX5_row 1 = .ok (.invokestatic 94, 3) := by decide +kernel
theorem dX5_row_4 : decode cX5_row 4 = .ok (.ifCond .eq 18, 3) := by decide +kernel
theorem dX5_row_7 : decode cX5_row 7 = .ok (.iload_n 2, 1) := by decide +kernel
theorem dX5_row_8 : decode cX5_row 8 = .ok (.iconst 0, 1) := by decide +kernel
theorem dX5_row_9 : decode cX5_row 9 = .ok (.iconst 2, 1) := by decide +kernel
theorem dX5_row_10 : decode cX5_row 10 = .ok (.invokestatic 115, 3) := by decide +kernel
theorem dX5_row_13 : decode cX5_row 13 = .ok (.ifCond .eq 9, 3) := by decide +kernel
theorem dX5_row_16 : decode cX5_row 16 = .ok (.iload_n 3, 1) := by decide +kernel
theorem dX5_row_17 : decode cX5_row 17 = .ok (.bipush 100, 2) := by decide +kernel
theorem dX5_row_19 : decode cX5_row 19 = .ok (.if_icmp .le 5, 3) := by decide +kernel
theorem dX5_row_22 : decode cX5_row 22 = .ok (.iconst (-1), 1) := by decide +kernel
theorem dX5_row_23 : decode cX5_row 23 = .ok (.ireturn, 1) := by decide +kernel
theorem dX5_row_24 : decode cX5_row 24 = .ok (.iload_n 3, 1) := by decide +kernel
theorem dX5_row_25 : decode cX5_row 25 = .ok (.ifCond .ge 6, 3) := by decide +kernel
theorem dX5_row_28 : decode cX5_row 28 = .ok (.bipush (-14), 2) := by decide +kernel
theorem dX5_row_30 : decode cX5_row 30 = .ok (.ireturn, 1) := by decide +kernel
theorem dX5_row_31 : decode cX5_row 31 = .ok (.aload_n 0, 1) := by decide +kernel
theorem dX5_row_32 : decode cX5_row 32 = .ok (.getfield 11, 3) := by decide +kernel
theorem dX5_row_35 : decode cX5_row 35 = .ok (.iload_n 1, 1) := by decide +kernel
theorem dX5_row_36 : decode cX5_row 36 = .ok (.aaload, 1) := by decide +kernel
theorem dX5_row_37 : decode cX5_row 37 = .ok (.iload_n 2, 1) := by decide +kernel
theorem dX5_row_38 : decode cX5_row 38 = .ok (.iload_n 3, 1) := by decide +kernel
theorem dX5_row_39 : decode cX5_row 39 = .ok (.invokevirtual 290, 3) := by decide +kernel
theorem dX5_row_42 : decode cX5_row 42 = .ok (.iconst 0, 1) := by decide +kernel
theorem dX5_row_43 : decode cX5_row 43 = .ok (.ireturn, 1) := by decide +kernel
theorem dX5_put_0 : decode cX5_put 0 = .ok (.aload_n 0, 1) := by decide +kernel
theorem dX5_put_1 : decode cX5_put 1 = .ok (.iload_n 1, 1) := by decide +kernel
theorem dX5_put_2 : decode cX5_put 2 = .ok (.invokevirtual 36, 3) := by decide +kernel
theorem dX5_put_5 : decode cX5_put 5 = .ok (.istore 4, 2) := by decide +kernel
theorem dX5_put_7 : decode cX5_put 7 = .ok (.iload 4, 2) := by decide +kernel
theorem dX5_put_9 : decode cX5_put 9 = .ok (.ifCond .eq 6, 3) := by decide +kernel
theorem dX5_put_12 : decode cX5_put 12 = .ok (.iload 4, 2) := by decide +kernel
theorem dX5_put_14 : decode cX5_put 14 = .ok (.ireturn, 1) := by decide +kernel
theorem dX5_put_15 : decode cX5_put 15 = .ok (.aload_n 0, 1) := by decide +kernel
theorem dX5_put_16 : decode cX5_put 16 = .ok (.getfield 11, 3) := by decide +kernel
theorem dX5_put_19 : decode cX5_put 19 = .ok (.iload_n 1, 1) := by decide +kernel
theorem dX5_put_20 : decode cX5_put 20 = .ok (.aaload, 1) := by decide +kernel
theorem dX5_put_21 : decode cX5_put 21 = .ok (.astore 5, 2) := by decide +kernel
theorem dX5_put_23 : decode cX5_put 23 = .ok (.aload 5, 2) := by decide +kernel
theorem dX5_put_25 : decode cX5_put 25 = .ok (.iload_n 2, 1) := by decide +kernel
theorem dX5_put_26 : decode cX5_put 26 = .ok (.invokevirtual 294, 3) := by decide +kernel
theorem dX5_put_29 : decode cX5_put 29 = .ok (.ifCond .ne 6, 3) := by decide +kernel
theorem dX5_put_32 : decode cX5_put 32 = .ok (.bipush (-13), 2) := by decide +kernel
theorem dX5_put_34 : decode cX5_put 34 = .ok (.ireturn, 1) := by decide +kernel
theorem dX5_put_35 : decode cX5_put 35 = .ok (.aload 5, 2) := by decide +kernel
theorem dX5_put_37 : decode cX5_put 37 = .ok (.getfield 297, 3) := by decide +kernel
theorem dX5_put_40 : decode cX5_put 40 = .ok (.iload_n 2, 1) := by decide +kernel
theorem dX5_put_41 : decode cX5_put 41 = .ok (.aload 5, 2) := by decide +kernel
theorem dX5_put_43 : decode cX5_put 43 = .ok (.iload_n 3, 1) := by decide +kernel
theorem dX5_put_44 : decode cX5_put 44 = .ok (.invokevirtual 300, 3) := by decide +kernel
theorem dX5_put_47 : decode cX5_put 47 = .ok (.iastore, 1) := by decide +kernel
theorem dX5_put_48 : decode cX5_put 48 = .ok (.iconst 0, 1) := by decide +kernel
theorem dX5_put_49 : decode cX5_put 49 = .ok (.ireturn, 1) := by decide +kernel
theorem dX5_element_0 : decode cX5_element 0 = .ok (.iload_n 1, 1) := by decide +kernel
theorem dX5_element_1 : decode cX5_element 1 = .ok (.invokestatic 94, 3) := by decide +kernel
theorem dX5_element_4 : decode cX5_element 4 = .ok (.ifCond .ne 14, 3) := by decide +kernel
theorem dX5_element_7 : decode cX5_element 7 = .ok (.new 303, 3) := by decide +kernel
theorem dX5_element_10 : decode cX5_element 10 = .ok (.dup, 1) := by decide +kernel
theorem dX5_element_11 : decode cX5_element 11 = .ok (.ldc_w 305, 3) := by decide +kernel
theorem dX5_element_14 : decode cX5_element 14 = .ok (.invokespecial 307, 3) := by decide +kernel
theorem dX5_element_17 : decode cX5_element 17 = .ok (.athrow, 1) := by decide +kernel
theorem dX5_element_18 : decode cX5_element 18 = .ok (.aload_n 0, 1) := by decide +kernel
theorem dX5_element_19 : decode cX5_element 19 = .ok (.iload_n 1, 1) := by decide +kernel
theorem dX5_element_20 : decode cX5_element 20 = .ok (.invokevirtual 36, 3) := by decide +kernel
theorem dX5_element_23 : decode cX5_element 23 = .ok (.ifCond .ne 16, 3) := by decide +kernel
theorem dX5_element_26 : decode cX5_element 26 = .ok (.aload_n 0, 1) := by decide +kernel
theorem dX5_element_27 : decode cX5_element 27 = .ok (.getfield 11, 3) := by decide +kernel
theorem dX5_element_30 : decode cX5_element 30 = .ok (.iload_n 1, 1) := by decide +kernel
theorem dX5_element_31 : decode cX5_element 31 = .ok (.aaload, 1) := by decide +kernel
theorem dX5_element_32 : decode cX5_element 32 = .ok (.iload_n 2, 1) := by decide +kernel
theorem dX5_element_33 : decode cX5_element 33 = .ok (.invokevirtual 294, 3) := by decide +kernel
theorem dX5_element_36 : decode cX5_element 36 = .ok (.ifCond .ne 14, 3) := by decide +kernel
theorem dX5_element_39 : decode cX5_element 39 = .ok (.new 310, 3) := by decide +kernel
theorem dX5_element_42 : decode cX5_element 42 = .ok (.dup, 1) := by decide +kernel
theorem dX5_element_43 : decode cX5_element 43 = .ok (.ldc_w 312, 3) := by decide +kernel
theorem dX5_element_46 : decode cX5_element 46 = .ok (.invokespecial 314, 3) := by decide +kernel
theorem dX5_element_49 : decode cX5_element 49 = .ok (.athrow, 1) := by decide +kernel
theorem dX5_element_50 : decode cX5_element 50 = .ok (.aload_n 0, 1) := by decide +kernel
theorem dX5_element_51 : decode cX5_element 51 = .ok (.getfield 11, 3) := by decide +kernel
theorem dX5_element_54 : decode cX5_element 54 = .ok (.iload_n 1, 1) := by decide +kernel
theorem dX5_element_55 : decode cX5_element 55 = .ok (.aaload, 1) := by decide +kernel
theorem dX5_element_56 : decode cX5_element 56 = .ok (.iload_n 2, 1) := by decide +kernel
theorem dX5_element_57 : decode cX5_element 57 = .ok (.invokevirtual 252, 3) := by decide +kernel
theorem dX5_element_60 : decode cX5_element 60 = .ok (.i2l, 1) := by decide +kernel
theorem dX5_element_61 : decode cX5_element 61 = .ok (.lreturn, 1) := by decide +kernel
theorem dX5_copy_0 : decode cX5_copy 0 = .ok (.iload_n 1, 1) := by decide +kernel
theorem dX5_copy_1 : decode cX5_copy 1 = .ok (.invokestatic 94, 3) := by decide +kernel
theorem dX5_copy_4 : decode cX5_copy 4 = .ok (.ifCond .eq 10, 3) := by decide +kernel
theorem dX5_copy_7 : decode cX5_copy 7 = .ok (.iload_n 3, 1) := by decide +kernel
theorem dX5_copy_8 : decode cX5_copy 8 = .ok (.invokestatic 94, 3) := by decide +kernel
theorem dX5_copy_11 : decode cX5_copy 11 = .ok (.ifCond .ne 5, 3) := by decide +kernel
theorem dX5_copy_14 : decode cX5_copy 14 = .ok (.iconst (-1), 1) := by decide +kernel
theorem dX5_copy_15 : decode cX5_copy 15 = .ok (.ireturn, 1) := by decide +kernel
theorem dX5_copy_16 : decode cX5_copy 16 = .ok (.aload_n 0, 1) := by decide +kernel
theorem dX5_copy_17 : decode cX5_copy 17 = .ok (.getfield 11, 3) := by decide +kernel
theorem dX5_copy_20 : decode cX5_copy 20 = .ok (.iload_n 1, 1) := by decide +kernel
theorem dX5_copy_21 : decode cX5_copy 21 = .ok (.aaload, 1) := by decide +kernel
theorem dX5_copy_22 : decode cX5_copy 22 = .ok (.astore 6, 2) := by decide +kernel
theorem dX5_copy_24 : decode cX5_copy 24 = .ok (.aload_n 0, 1) := by decide +kernel
theorem dX5_copy_25 : decode cX5_copy 25 = .ok (.getfield 11, 3) := by decide +kernel
theorem dX5_copy_28 : decode cX5_copy 28 = .ok (.iload_n 3, 1) := by decide +kernel
theorem dX5_copy_29 : decode cX5_copy 29 = .ok (.aaload, 1) := by decide +kernel
theorem dX5_copy_30 : decode cX5_copy 30 = .ok (.astore 7, 2) := by decide +kernel
theorem dX5_copy_32 : decode cX5_copy 32 = .ok (.aload 6, 2) := by decide +kernel
theorem dX5_copy_34 : decode cX5_copy 34 = .ok (.getfield 280, 3) := by decide +kernel
theorem dX5_copy_37 : decode cX5_copy 37 = .ok (.ifCond .eq 11, 3) := by decide +kernel
theorem dX5_copy_40 : decode cX5_copy 40 = .ok (.aload 7, 2) := by decide +kernel
theorem dX5_copy_42 : decode cX5_copy 42 = .ok (.getfield 280, 3) := by decide +kernel
theorem dX5_copy_45 : decode cX5_copy 45 = .ok (.ifCond .ne 6, 3) := by decide +kernel
theorem dX5_copy_48 : decode cX5_copy 48 = .ok (.bipush (-11), 2) := by decide +kernel
theorem dX5_copy_50 : decode cX5_copy 50 = .ok (.ireturn, 1) := by decide +kernel
theorem dX5_copy_51 : decode cX5_copy 51 = .ok (.aload 6, 2) := by decide +kernel
theorem dX5_copy_53 : decode cX5_copy 53 = .ok (.getfield 280, 3) := by decide +kernel
theorem dX5_copy_56 : decode cX5_copy 56 = .ok (.iconst 2, 1) := by decide +kernel
theorem dX5_copy_57 : decode cX5_copy 57 = .ok (.if_icmp .ne 25, 3) := by decide +kernel
theorem dX5_copy_60 : decode cX5_copy 60 = .ok (.aload 7, 2) := by decide +kernel
theorem dX5_copy_62 : decode cX5_copy 62 = .ok (.getfield 280, 3) := by decide +kernel
theorem dX5_copy_65 : decode cX5_copy 65 = .ok (.iconst 2, 1) := by decide +kernel
theorem dX5_copy_66 : decode cX5_copy 66 = .ok (.if_icmp .ne 16, 3) := by decide +kernel
theorem dX5_copy_69 : decode cX5_copy 69 = .ok (.aload 6, 2) := by decide +kernel
theorem dX5_copy_71 : decode cX5_copy 71 = .ok (.getfield 40, 3) := by decide +kernel
theorem dX5_copy_74 : decode cX5_copy 74 = .ok (.aload 7, 2) := by decide +kernel
theorem dX5_copy_76 : decode cX5_copy 76 = .ok (.getfield 40, 3) := by decide +kernel
theorem dX5_copy_79 : decode cX5_copy 79 = .ok (.if_icmp .eq 6, 3) := by decide +kernel
theorem dX5_copy_82 : decode cX5_copy 82 = .ok (.bipush (-12), 2) := by decide +kernel
theorem dX5_copy_84 : decode cX5_copy 84 = .ok (.ireturn, 1) := by decide +kernel
theorem dX5_copy_85 : decode cX5_copy 85 = .ok (.iload 5, 2) := by decide +kernel
theorem dX5_copy_87 : decode cX5_copy 87 = .ok (.ifCond .lt 26, 3) := by decide +kernel
theorem dX5_copy_90 : decode cX5_copy 90 = .ok (.aload 6, 2) := by decide +kernel
theorem dX5_copy_92 : decode cX5_copy 92 = .ok (.iload_n 2, 1) := by decide +kernel
theorem dX5_copy_93 : decode cX5_copy 93 = .ok (.iload 5, 2) := by decide +kernel
theorem dX5_copy_95 : decode cX5_copy 95 = .ok (.invokevirtual 315, 3) := by decide +kernel
theorem dX5_copy_98 : decode cX5_copy 98 = .ok (.ifCond .eq 15, 3) := by decide +kernel
theorem dX5_copy_101 : decode cX5_copy 101 = .ok (.aload 7, 2) := by decide +kernel
theorem dX5_copy_103 : decode cX5_copy 103 = .ok (.iload 4, 2) := by decide +kernel
theorem dX5_copy_105 : decode cX5_copy 105 = .ok (.iload 5, 2) := by decide +kernel
theorem dX5_copy_107 : decode cX5_copy 107 = .ok (.invokevirtual 315, 3) := by decide +kernel
theorem dX5_copy_110 : decode cX5_copy 110 = .ok (.ifCond .ne 6, 3) := by decide +kernel
theorem dX5_copy_113 : decode cX5_copy 113 = .ok (.bipush (-13), 2) := by decide +kernel
theorem dX5_copy_115 : decode cX5_copy 115 = .ok (.ireturn, 1) := by decide +kernel
theorem dX5_copy_116 : decode cX5_copy 116 = .ok (.aload 6, 2) := by decide +kernel
theorem dX5_copy_118 : decode cX5_copy 118 = .ok (.getfield 297, 3) := by decide +kernel
theorem dX5_copy_121 : decode cX5_copy 121 = .ok (.iload_n 2, 1) := by decide +kernel
theorem dX5_copy_122 : decode cX5_copy 122 = .ok (.aload 7, 2) := by decide +kernel
theorem dX5_copy_124 : decode cX5_copy 124 = .ok (.getfield 297, 3) := by decide +kernel
theorem dX5_copy_127 : decode cX5_copy 127 = .ok (.iload 4, 2) := by decide +kernel
theorem dX5_copy_129 : decode cX5_copy 129 = .ok (.iload 5, 2) := by decide +kernel
theorem dX5_copy_131 : decode cX5_copy 131 = .ok (.invokestatic 318, 3) := by decide +kernel
theorem dX5_copy_134 : decode cX5_copy 134 = .ok (.iload 5, 2) := by decide +kernel
theorem dX5_copy_136 : decode cX5_copy 136 = .ok (.ireturn, 1) := by decide +kernel
theorem dX5_cost_0 : decode cX5_cost 0 = .ok (.aload_n 0, 1) := by decide +kernel
theorem dX5_cost_1 : decode cX5_cost 1 = .ok (.iload_n 1, 1) := by decide +kernel
theorem dX5_cost_2 : decode cX5_cost 2 = .ok (.invokevirtual 100, 3) := by decide +kernel
theorem dX5_cost_5 : decode cX5_cost 5 = .ok (.istore_n 2, 1) := by decide +kernel
theorem dX5_cost_6 : decode cX5_cost 6 = .ok (.iload_n 2, 1) := by decide +kernel
theorem dX5_cost_7 : decode cX5_cost 7 = .ok (.ifCond .eq 5, 3) := by decide +kernel
theorem dX5_cost_10 : decode cX5_cost 10 = .ok (.iload_n 2, 1) := by decide +kernel
theorem dX5_cost_11 : decode cX5_cost 11 = .ok (.ireturn, 1) := by decide +kernel
theorem dX5_cost_12 : decode cX5_cost 12 = .ok (.aload_n 0, 1) := by decide +kernel
theorem dX5_cost_13 : decode cX5_cost 13 = .ok (.getfield 11, 3) := by decide +kernel
theorem dX5_cost_16 : decode cX5_cost 16 = .ok (.iload_n 1, 1) := by decide +kernel
theorem dX5_cost_17 : decode cX5_cost 17 = .ok (.aaload, 1) := by decide +kernel
theorem dX5_cost_18 : decode cX5_cost 18 = .ok (.getfield 106, 3) := by decide +kernel
theorem dX5_cost_21 : decode cX5_cost 21 = .ok (.aload_n 0, 1) := by decide +kernel
theorem dX5_cost_22 : decode cX5_cost 22 = .ok (.getfield 11, 3) := by decide +kernel
theorem dX5_cost_25 : decode cX5_cost 25 = .ok (.iload_n 1, 1) := by decide +kernel
theorem dX5_cost_26 : decode cX5_cost 26 = .ok (.aaload, 1) := by decide +kernel
theorem dX5_cost_27 : decode cX5_cost 27 = .ok (.getfield 107, 3) := by decide +kernel
theorem dX5_cost_30 : decode cX5_cost 30 = .ok (.invokevirtual 324, 3) := by decide +kernel
theorem dX5_cost_33 : decode cX5_cost 33 = .ok (.ireturn, 1) := by decide +kernel
theorem dX5_toss_0 : decode cX5_toss 0 = .ok (.aload_n 0, 1) := by decide +kernel
theorem dX5_toss_1 : decode cX5_toss 1 = .ok (.iload_n 1, 1) := by decide +kernel
theorem dX5_toss_2 : decode cX5_toss 2 = .ok (.invokevirtual 100, 3) := by decide +kernel
theorem dX5_toss_5 : decode cX5_toss 5 = .ok (.istore_n 2, 1) := by decide +kernel
theorem dX5_toss_6 : decode cX5_toss 6 = .ok (.iload_n 2, 1) := by decide +kernel
theorem dX5_toss_7 : decode cX5_toss 7 = .ok (.ifCond .eq 5, 3) := by decide +kernel
theorem dX5_toss_10 : decode cX5_toss 10 = .ok (.iload_n 2, 1) := by decide +kernel
theorem dX5_toss_11 : decode cX5_toss 11 = .ok (.ireturn, 1) := by decide +kernel
theorem dX5_toss_12 : decode cX5_toss 12 = .ok (.aload_n 0, 1) := by decide +kernel
theorem dX5_toss_13 : decode cX5_toss 13 = .ok (.getfield 11, 3) := by decide +kernel
theorem dX5_toss_16 : decode cX5_toss 16 = .ok (.iload_n 1, 1) := by decide +kernel
theorem dX5_toss_17 : decode cX5_toss 17 = .ok (.aaload, 1) := by decide +kernel
theorem dX5_toss_18 : decode cX5_toss 18 = .ok (.getfield 106, 3) := by decide +kernel
theorem dX5_toss_21 : decode cX5_toss 21 = .ok (.astore_n 3, 1) := by decide +kernel
theorem dX5_toss_22 : decode cX5_toss 22 = .ok (.aload_n 0, 1) := by decide +kernel
theorem dX5_toss_23 : decode cX5_toss 23 = .ok (.getfield 11, 3) := by decide +kernel
theorem dX5_toss_26 : decode cX5_toss 26 = .ok (.iload_n 1, 1) := by decide +kernel
theorem dX5_toss_27 : decode cX5_toss 27 = .ok (.aaload, 1) := by decide +kernel
theorem dX5_toss_28 : decode cX5_toss 28 = .ok (.getfield 107, 3) := by decide +kernel
theorem dX5_toss_31 : decode cX5_toss 31 = .ok (.istore 4, 2) := by decide +kernel
theorem dX5_toss_33 : decode cX5_toss 33 = .ok (.aload_n 3, 1) := by decide +kernel
theorem dX5_toss_34 : decode cX5_toss 34 = .ok (.iload 4, 2) := by decide +kernel
theorem dX5_toss_36 : decode cX5_toss 36 = .ok (.invokevirtual 327, 3) := by decide +kernel
theorem dX5_toss_39 : decode cX5_toss 39 = .ok (.bipush (-15), 2) := by decide +kernel
theorem dX5_toss_41 : decode cX5_toss 41 = .ok (.ireturn, 1) := by decide +kernel
theorem dX5_toss_42 : decode cX5_toss 42 = .ok (.astore 5, 2) := by decide +kernel
theorem dX5_toss_44 : decode cX5_toss 44 = .ok (.sipush 200, 3) := by decide +kernel
theorem dX5_toss_47 : decode cX5_toss 47 = .ok (.aload_n 3, 1) := by decide +kernel
theorem dX5_toss_48 : decode cX5_toss 48 = .ok (.iload 4, 2) := by decide +kernel
theorem dX5_toss_50 : decode cX5_toss 50 = .ok (.invokevirtual 324, 3) := by decide +kernel
theorem dX5_toss_53 : decode cX5_toss 53 = .ok (.iadd, 1) := by decide +kernel
theorem dX5_toss_54 : decode cX5_toss 54 = .ok (.ireturn, 1) := by decide +kernel
theorem dX5_toss_55 : decode cX5_toss 55 = .ok (.astore 5, 2) := by decide +kernel
theorem dX5_toss_57 : decode cX5_toss 57 = .ok (.bipush 100, 2) := by decide +kernel
theorem dX5_toss_59 : decode cX5_toss 59 = .ok (.iload 4, 2) := by decide +kernel
theorem dX5_toss_61 : decode cX5_toss 61 = .ok (.iadd, 1) := by decide +kernel
theorem dX5_toss_62 : decode cX5_toss 62 = .ok (.ireturn, 1) := by decide +kernel
theorem dX5_toss_63 : decode cX5_toss 63 = .ok (.astore 5, 2) := by decide +kernel
theorem dX5_toss_65 : decode cX5_toss 65 = .ok (.iload 4, 2) := by decide +kernel
theorem dX5_toss_67 : decode cX5_toss 67 = .ok (.ireturn, 1) := by decide +kernel
theorem dX5_isWithin_0 : decode cX5_isWithin 0 = .ok (.iload_n 0, 1) := by decide +kernel
theorem dX5_isWithin_1 : decode cX5_isWithin 1 = .ok (.iload_n 1, 1) := by decide +kernel
theorem dX5_isWithin_2 : decode cX5_isWithin 2 = .ok (.if_icmp .lt 12, 3) := by decide +kernel
theorem dX5_isWithin_5 : decode cX5_isWithin 5 = .ok (.iload_n 0, 1) := by decide +kernel
theorem dX5_isWithin_6 : decode cX5_isWithin 6 = .ok (.iload_n 2, 1) := by decide +kernel
theorem dX5_isWithin_7 : decode cX5_isWithin 7 = .ok (.if_icmp .gt 7, 3) := by decide +kernel
theorem dX5_isWithin_10 : decode cX5_isWithin 10 = .ok (.iconst 1, 1) := by decide +kernel
theorem dX5_isWithin_11 : decode cX5_isWithin 11 = .ok (.goto 4, 3) := by decide +kernel
theorem dX5_isWithin_14 : decode cX5_isWithin 14 = .ok (.iconst 0, 1) := by decide +kernel
theorem dX5_isWithin_15 : decode cX5_isWithin 15 = .ok (.ireturn, 1) := by decide +kernel
theorem dX5_isOneOfTwo_0 : decode cX5_isOneOfTwo 0 = .ok (.iload_n 0, 1) := by decide +kernel
theorem dX5_isOneOfTwo_1 : decode cX5_isOneOfTwo 1 = .ok (.iconst 0, 1) := by decide +kernel
theorem dX5_isOneOfTwo_2 : decode cX5_isOneOfTwo 2 = .ok (.iconst 1, 1) := by decide +kernel
theorem dX5_isOneOfTwo_3 : decode cX5_isOneOfTwo 3 = .ok (.invokestatic 115, 3) := by decide +kernel
theorem dX5_isOneOfTwo_6 : decode cX5_isOneOfTwo 6 = .ok (.ireturn, 1) := by decide +kernel
theorem dX5_isShelf_0 : decode cX5_isShelf 0 = .ok (.iload_n 0, 1) := by decide +kernel
theorem dX5_isShelf_1 : decode cX5_isShelf 1 = .ok (.iconst 0, 1) := by decide +kernel
theorem dX5_isShelf_2 : decode cX5_isShelf 2 = .ok (.bipush 7, 2) := by decide +kernel
theorem dX5_isShelf_4 : decode cX5_isShelf 4 = .ok (.invokestatic 115, 3) := by decide +kernel
theorem dX5_isShelf_7 : decode cX5_isShelf 7 = .ok (.ireturn, 1) := by decide +kernel
theorem dX5_isKind_0 : decode cX5_isKind 0 = .ok (.iload_n 0, 1) := by decide +kernel
theorem dX5_isKind_1 : decode cX5_isKind 1 = .ok (.iconst 0, 1) := by decide +kernel
theorem dX5_isKind_2 : decode cX5_isKind 2 = .ok (.getstatic 181, 3) := by decide +kernel
theorem dX5_isKind_5 : decode cX5_isKind 5 = .ok (.arraylength, 1) := by decide +kernel
theorem dX5_isKind_6 : decode cX5_isKind 6 = .ok (.iconst 1, 1) := by decide +kernel
theorem dX5_isKind_7 : decode cX5_isKind 7 = .ok (.isub, 1) := by decide +kernel
theorem dX5_isKind_8 : decode cX5_isKind 8 = .ok (.invokestatic 115, 3) := by decide +kernel
theorem dX5_isKind_11 : decode cX5_isKind 11 = .ok (.ireturn, 1) := by decide +kernel
theorem dX5_isFigure_0 : decode cX5_isFigure 0 = .ok (.iload_n 0, 1) := by decide +kernel
theorem dX5_isFigure_1 : decode cX5_isFigure 1 = .ok (.iconst 0, 1) := by decide +kernel
theorem dX5_isFigure_2 : decode cX5_isFigure 2 = .ok (.bipush 9, 2) := by decide +kernel
theorem dX5_isFigure_4 : decode cX5_isFigure 4 = .ok (.invokestatic 115, 3) := by decide +kernel
theorem dX5_isFigure_7 : decode cX5_isFigure 7 = .ok (.ireturn, 1) := by decide +kernel
theorem dX5_isFeeling_0 : decode cX5_isFeeling 0 = .ok (.iload_n 0, 1) := by decide +kernel
theorem dX5_isFeeling_1 : decode cX5_isFeeling 1 = .ok (.iconst 0, 1) := by decide +kernel
theorem dX5_isFeeling_2 : decode cX5_isFeeling 2 = .ok (.bipush 30, 2) := by decide +kernel
theorem dX5_isFeeling_4 : decode cX5_isFeeling 4 = .ok (.invokestatic 115, 3) := by decide +kernel
theorem dX5_isFeeling_7 : decode cX5_isFeeling 7 = .ok (.ireturn, 1) := by decide +kernel
theorem dX5_isPrice_0 : decode cX5_isPrice 0 = .ok (.iload_n 0, 1) := by decide +kernel
theorem dX5_isPrice_1 : decode cX5_isPrice 1 = .ok (.iconst 0, 1) := by decide +kernel
theorem dX5_isPrice_2 : decode cX5_isPrice 2 = .ok (.bipush 31, 2) := by decide +kernel
theorem dX5_isPrice_4 : decode cX5_isPrice 4 = .ok (.invokestatic 115, 3) := by decide +kernel
theorem dX5_isPrice_7 : decode cX5_isPrice 7 = .ok (.ireturn, 1) := by decide +kernel
theorem dX5_refusalOfRow_0 : decode cX5_refusalOfRow 0 = .ok (.aload_n 0, 1) := by decide +kernel
theorem dX5_refusalOfRow_1 : decode cX5_refusalOfRow 1 = .ok (.iload_n 1, 1) := by decide +kernel
theorem dX5_refusalOfRow_2 : decode cX5_refusalOfRow 2 = .ok (.iconst 2, 1) := by decide +kernel
theorem dX5_refusalOfRow_3 : decode cX5_refusalOfRow 3 = .ok (.invokevirtual 333, 3) := by decide +kernel
theorem dX5_refusalOfRow_6 : decode cX5_refusalOfRow 6 = .ok (.ireturn, 1) := by decide +kernel
theorem dX5_refusalOfKind_0 : decode cX5_refusalOfKind 0 = .ok (.aload_n 0, 1) := by decide +kernel
theorem dX5_refusalOfKind_1 : decode cX5_refusalOfKind 1 = .ok (.iload_n 1, 1) := by decide +kernel
theorem dX5_refusalOfKind_2 : decode cX5_refusalOfKind 2 = .ok (.iconst 1, 1) := by decide +kernel
theorem dX5_refusalOfKind_3 : decode cX5_refusalOfKind 3 = .ok (.invokevirtual 333, 3) := by decide +kernel
theorem dX5_refusalOfKind_6 : decode cX5_refusalOfKind 6 = .ok (.ireturn, 1) := by decide +kernel
theorem dX5_refusalUnlessHeld_0 : decode cX5_refusalUnlessHeld 0 = .ok (.iload_n 1, 1) := by decide +kernel
theorem dX5_refusalUnlessHeld_1 : decode cX5_refusalUnlessHeld 1 = .ok (.invokestatic 94, 3) := by decide +kernel
theorem dX5_refusalUnlessHeld_4 : decode cX5_refusalUnlessHeld 4 = .ok (.ifCond .ne 5, 3) := by decide +kernel
theorem dX5_refusalUnlessHeld_7 : decode cX5_refusalUnlessHeld 7 = .ok (.iconst (-1), 1) := by decide +kernel
theorem dX5_refusalUnlessHeld_8 : decode cX5_refusalUnlessHeld 8 = .ok (.ireturn, 1) := by decide +kernel
theorem dX5_refusalUnlessHeld_9 : decode cX5_refusalUnlessHeld 9 = .ok (.aload_n 0, 1) := by decide +kernel
theorem dX5_refusalUnlessHeld_10 : decode cX5_refusalUnlessHeld 10 = .ok (.getfield 11, 3) := by decide +kernel
theorem dX5_refusalUnlessHeld_13 : decode cX5_refusalUnlessHeld 13 = .ok (.iload_n 1, 1) := by decide +kernel
theorem dX5_refusalUnlessHeld_14 : decode cX5_refusalUnlessHeld 14 = .ok (.aaload, 1) := by decide +kernel
theorem dX5_refusalUnlessHeld_15 : decode cX5_refusalUnlessHeld 15 = .ok (.getfield 280, 3) := by decide +kernel
theorem dX5_refusalUnlessHeld_18 : decode cX5_refusalUnlessHeld 18 = .ok (.istore_n 3, 1) := by decide +kernel
theorem dX5_refusalUnlessHeld_19 : decode cX5_refusalUnlessHeld 19 = .ok (.iload_n 3, 1) := by decide +kernel
theorem dX5_refusalUnlessHeld_20 : decode cX5_refusalUnlessHeld 20 = .ok (.ifCond .ne 6, 3) := by decide +kernel
theorem dX5_refusalUnlessHeld_23 : decode cX5_refusalUnlessHeld 23 = .ok (.bipush (-11), 2) := by decide +kernel
theorem dX5_refusalUnlessHeld_25 : decode cX5_refusalUnlessHeld 25 = .ok (.ireturn, 1) := by decide +kernel
theorem dX5_refusalUnlessHeld_26 : decode cX5_refusalUnlessHeld 26 = .ok (.iload_n 3, 1) := by decide +kernel
theorem dX5_refusalUnlessHeld_27 : decode cX5_refusalUnlessHeld 27 = .ok (.iload_n 2, 1) := by decide +kernel
theorem dX5_refusalUnlessHeld_28 : decode cX5_refusalUnlessHeld 28 = .ok (.if_icmp .ne 7, 3) := by decide +kernel
theorem dX5_refusalUnlessHeld_31 : decode cX5_refusalUnlessHeld 31 = .ok (.iconst 0, 1) := by decide +kernel
theorem dX5_refusalUnlessHeld_32 : decode cX5_refusalUnlessHeld 32 = .ok (.goto 5, 3) := by decide +kernel
theorem dX5_refusalUnlessHeld_35 : decode cX5_refusalUnlessHeld 35 = .ok (.bipush (-12), 2) := by decide +kernel
theorem dX5_refusalUnlessHeld_37 : decode cX5_refusalUnlessHeld 37 = .ok (.ireturn, 1) := by decide +kernel
theorem dX5_placeOfBrokenForm_0 : decode cX5_placeOfBrokenForm 0 = .ok (.iconst 0, 1) := by decide +kernel
theorem dX5_placeOfBrokenForm_1 : decode cX5_placeOfBrokenForm 1 = .ok (.istore_n 1, 1) := by decide +kernel
theorem dX5_placeOfBrokenForm_2 : decode cX5_placeOfBrokenForm 2 = .ok (.aload_n 0, 1) := by decide +kernel
theorem dX5_placeOfBrokenForm_3 : decode cX5_placeOfBrokenForm 3 = .ok (.iload_n 1, 1) := by decide +kernel
theorem dX5_placeOfBrokenForm_4 : decode cX5_placeOfBrokenForm 4 = .ok (.invokevirtual 252, 3) := by decide +kernel
theorem dX5_placeOfBrokenForm_7 : decode cX5_placeOfBrokenForm 7 = .ok (.invokestatic 336, 3) := by decide +kernel
theorem dX5_placeOfBrokenForm_10 : decode cX5_placeOfBrokenForm 10 = .ok (.istore_n 2, 1) := by decide +kernel
theorem dX5_placeOfBrokenForm_11 : decode cX5_placeOfBrokenForm 11 = .ok (.iload_n 2, 1) := by decide +kernel
theorem dX5_placeOfBrokenForm_12 : decode cX5_placeOfBrokenForm 12 = .ok (.ifCond .ge 5, 3) := by decide +kernel
theorem dX5_placeOfBrokenForm_15 : decode cX5_placeOfBrokenForm 15 = .ok (.iload_n 1, 1) := by decide +kernel
theorem dX5_placeOfBrokenForm_16 : decode cX5_placeOfBrokenForm 16 = .ok (.ireturn, 1) := by decide +kernel
theorem dX5_placeOfBrokenForm_17 : decode cX5_placeOfBrokenForm 17 = .ok (.iconst 1, 1) := by decide +kernel
theorem dX5_placeOfBrokenForm_18 : decode cX5_placeOfBrokenForm 18 = .ok (.istore_n 3, 1) := by decide +kernel
theorem dX5_placeOfBrokenForm_19 : decode cX5_placeOfBrokenForm 19 = .ok (.iload_n 3, 1) := by decide +kernel
theorem dX5_placeOfBrokenForm_20 : decode cX5_placeOfBrokenForm 20 = .ok (.iload_n 2, 1) := by decide +kernel
theorem dX5_placeOfBrokenForm_21 : decode cX5_placeOfBrokenForm 21 = .ok (.if_icmp .gt 30, 3) := by decide +kernel
theorem dX5_placeOfBrokenForm_24 : decode cX5_placeOfBrokenForm 24 = .ok (.aload_n 0, 1) := by decide +kernel
theorem dX5_placeOfBrokenForm_25 : decode cX5_placeOfBrokenForm 25 = .ok (.iload_n 1, 1) := by decide +kernel
theorem dX5_placeOfBrokenForm_26 : decode cX5_placeOfBrokenForm 26 = .ok (.iload_n 3, 1) := by decide +kernel
theorem dX5_placeOfBrokenForm_27 : decode cX5_placeOfBrokenForm 27 = .ok (.iadd, 1) := by decide +kernel
theorem dX5_placeOfBrokenForm_28 : decode cX5_placeOfBrokenForm 28 = .ok (.invokevirtual 252, 3) := by decide +kernel
theorem dX5_placeOfBrokenForm_31 : decode cX5_placeOfBrokenForm 31 = .ok (.bipush 48, 2) := by decide +kernel
theorem dX5_placeOfBrokenForm_33 : decode cX5_placeOfBrokenForm 33 = .ok (.bipush 57, 2) := by decide +kernel
theorem dX5_placeOfBrokenForm_35 : decode cX5_placeOfBrokenForm 35 = .ok (.invokestatic 115, 3) := by decide +kernel
theorem dX5_placeOfBrokenForm_38 : decode cX5_placeOfBrokenForm 38 = .ok (.ifCond .ne 7, 3) := by decide +kernel
theorem dX5_placeOfBrokenForm_41 : decode cX5_placeOfBrokenForm 41 = .ok (.iload_n 1, 1) := by decide +kernel
theorem dX5_placeOfBrokenForm_42 : decode cX5_placeOfBrokenForm 42 = .ok (.iload_n 3, 1) := by decide +kernel
theorem dX5_placeOfBrokenForm_43 : decode cX5_placeOfBrokenForm 43 = .ok (.iadd, 1) := by decide +kernel
theorem dX5_placeOfBrokenForm_44 : decode cX5_placeOfBrokenForm 44 = .ok (.ireturn, 1) := by decide +kernel
theorem dX5_placeOfBrokenForm_45 : decode cX5_placeOfBrokenForm 45 = .ok (.iinc 3 1, 3) := by decide +kernel
theorem dX5_placeOfBrokenForm_48 : decode cX5_placeOfBrokenForm 48 = .ok (.goto (-29), 3) := by decide +kernel
theorem dX5_placeOfBrokenForm_51 : decode cX5_placeOfBrokenForm 51 = .ok (.aload_n 0, 1) := by decide +kernel
theorem dX5_placeOfBrokenForm_52 : decode cX5_placeOfBrokenForm 52 = .ok (.iload_n 1, 1) := by decide +kernel
theorem dX5_placeOfBrokenForm_53 : decode cX5_placeOfBrokenForm 53 = .ok (.iload_n 2, 1) := by decide +kernel
theorem dX5_placeOfBrokenForm_54 : decode cX5_placeOfBrokenForm 54 = .ok (.iadd, 1) := by decide +kernel
theorem dX5_placeOfBrokenForm_55 : decode cX5_placeOfBrokenForm 55 = .ok (.iconst 1, 1) := by decide +kernel
theorem dX5_placeOfBrokenForm_56 : decode cX5_placeOfBrokenForm 56 = .ok (.iadd, 1) := by decide +kernel
theorem dX5_placeOfBrokenForm_57 : decode cX5_placeOfBrokenForm 57 = .ok (.invokevirtual 252, 3) := by decide +kernel
theorem dX5_placeOfBrokenForm_60 : decode cX5_placeOfBrokenForm 60 = .ok (.bipush 59, 2) := by decide +kernel
theorem dX5_placeOfBrokenForm_62 : decode cX5_placeOfBrokenForm 62 = .ok (.if_icmp .eq 9, 3) := by decide +kernel
theorem dX5_placeOfBrokenForm_65 : decode cX5_placeOfBrokenForm 65 = .ok (.iload_n 1, 1) := by decide +kernel
theorem dX5_placeOfBrokenForm_66 : decode cX5_placeOfBrokenForm 66 = .ok (.iload_n 2, 1) := by decide +kernel
theorem dX5_placeOfBrokenForm_67 : decode cX5_placeOfBrokenForm 67 = .ok (.iadd, 1) := by decide +kernel
theorem dX5_placeOfBrokenForm_68 : decode cX5_placeOfBrokenForm 68 = .ok (.iconst 1, 1) := by decide +kernel
theorem dX5_placeOfBrokenForm_69 : decode cX5_placeOfBrokenForm 69 = .ok (.iadd, 1) := by decide +kernel
theorem dX5_placeOfBrokenForm_70 : decode cX5_placeOfBrokenForm 70 = .ok (.ireturn, 1) := by decide +kernel
theorem dX5_placeOfBrokenForm_71 : decode cX5_placeOfBrokenForm 71 = .ok (.iload_n 1, 1) := by decide +kernel
theorem dX5_placeOfBrokenForm_72 : decode cX5_placeOfBrokenForm 72 = .ok (.iload_n 2, 1) := by decide +kernel
theorem dX5_placeOfBrokenForm_73 : decode cX5_placeOfBrokenForm 73 = .ok (.iconst 2, 1) := by decide +kernel
theorem dX5_placeOfBrokenForm_74 : decode cX5_placeOfBrokenForm 74 = .ok (.iadd, 1) := by decide +kernel
theorem dX5_placeOfBrokenForm_75 : decode cX5_placeOfBrokenForm 75 = .ok (.iadd, 1) := by decide +kernel
theorem dX5_placeOfBrokenForm_76 : decode cX5_placeOfBrokenForm 76 = .ok (.istore_n 1, 1) := by decide +kernel
theorem dX5_placeOfBrokenForm_77 : decode cX5_placeOfBrokenForm 77 = .ok (.iload_n 1, 1) := by decide +kernel
theorem dX5_placeOfBrokenForm_78 : decode cX5_placeOfBrokenForm 78 = .ok (.aload_n 0, 1) := by decide +kernel
theorem dX5_placeOfBrokenForm_79 : decode cX5_placeOfBrokenForm 79 = .ok (.getfield 207, 3) := by decide +kernel
theorem dX5_placeOfBrokenForm_82 : decode cX5_placeOfBrokenForm 82 = .ok (.if_icmp .lt (-80), 3) := by decide +kernel
theorem dX5_placeOfBrokenForm_85 : decode cX5_placeOfBrokenForm 85 = .ok (.bipush (-4), 2) := by decide +kernel
theorem dX5_placeOfBrokenForm_87 : decode cX5_placeOfBrokenForm 87 = .ok (.ireturn, 1) := by decide +kernel
theorem dX5_digitsBehind_0 : decode cX5_digitsBehind 0 = .ok (.iload_n 0, 1) := by decide +kernel
theorem dX5_digitsBehind_1 : decode cX5_digitsBehind 1 = .ok (.lookupswitch 62 #[(99, 54), (104, 58), (108, 60), (112, 51), (116, 56)], 51) := by decide +kernel
theorem dX5_digitsBehind_52 : decode cX5_digitsBehind 52 = .ok (.bipush 6, 2) := by decide +kernel
theorem dX5_digitsBehind_54 : decode cX5_digitsBehind 54 = .ok (.ireturn, 1) := by decide +kernel
theorem dX5_digitsBehind_55 : decode cX5_digitsBehind 55 = .ok (.iconst 2, 1) := by decide +kernel
theorem dX5_digitsBehind_56 : decode cX5_digitsBehind 56 = .ok (.ireturn, 1) := by decide +kernel
theorem dX5_digitsBehind_57 : decode cX5_digitsBehind 57 = .ok (.iconst 2, 1) := by decide +kernel
theorem dX5_digitsBehind_58 : decode cX5_digitsBehind 58 = .ok (.ireturn, 1) := by decide +kernel
theorem dX5_digitsBehind_59 : decode cX5_digitsBehind 59 = .ok (.iconst 3, 1) := by decide +kernel
theorem dX5_digitsBehind_60 : decode cX5_digitsBehind 60 = .ok (.ireturn, 1) := by decide +kernel
theorem dX5_digitsBehind_61 : decode cX5_digitsBehind 61 = .ok (.iconst 3, 1) := by decide +kernel
theorem dX5_digitsBehind_62 : decode cX5_digitsBehind 62 = .ok (.ireturn, 1) := by decide +kernel
theorem dX5_digitsBehind_63 : decode cX5_digitsBehind 63 = .ok (.bipush (-4), 2) := by decide +kernel
theorem dX5_digitsBehind_65 : decode cX5_digitsBehind 65 = .ok (.ireturn, 1) := by decide +kernel
theorem dX5_tellStatements_0 : decode cX5_tellStatements 0 = .ok (.aload_n 0, 1) := by decide +kernel
theorem dX5_tellStatements_1 : decode cX5_tellStatements 1 = .ok (.getfield 25, 3) := by decide +kernel
theorem dX5_tellStatements_4 : decode cX5_tellStatements 4 = .ok (.aload_n 0, 1) := by decide +kernel
theorem dX5_tellStatements_5 : decode cX5_tellStatements 5 = .ok (.getfield 18, 3) := by decide +kernel
theorem dX5_tellStatements_8 : decode cX5_tellStatements 8 = .ok (.invokevirtual 166, 3) := by decide +kernel
theorem dX5_tellStatements_11 : decode cX5_tellStatements 11 = .ok (.iconst 0, 1) := by decide +kernel
theorem dX5_tellStatements_12 : decode cX5_tellStatements 12 = .ok (.istore_n 2, 1) := by decide +kernel
theorem dX5_tellStatements_13 : decode cX5_tellStatements 13 = .ok (.iconst 0, 1) := by decide +kernel
theorem dX5_tellStatements_14 : decode cX5_tellStatements 14 = .ok (.istore_n 3, 1) := by decide +kernel
theorem dX5_tellStatements_15 : decode cX5_tellStatements 15 = .ok (.iload_n 3, 1) := by decide +kernel
theorem dX5_tellStatements_16 : decode cX5_tellStatements 16 = .ok (.aload_n 1, 1) := by decide +kernel
theorem dX5_tellStatements_17 : decode cX5_tellStatements 17 = .ok (.getfield 207, 3) := by decide +kernel
theorem dX5_tellStatements_20 : decode cX5_tellStatements 20 = .ok (.if_icmp .ge 41, 3) := by decide +kernel
theorem dX5_tellStatements_23 : decode cX5_tellStatements 23 = .ok (.aload_n 0, 1) := by decide +kernel
theorem dX5_tellStatements_24 : decode cX5_tellStatements 24 = .ok (.aload_n 1, 1) := by decide +kernel
theorem dX5_tellStatements_25 : decode cX5_tellStatements 25 = .ok (.iload_n 3, 1) := by decide +kernel
theorem dX5_tellStatements_26 : decode cX5_tellStatements 26 = .ok (.invokevirtual 339, 3) := by decide +kernel
theorem dX5_tellStatements_29 : decode cX5_tellStatements 29 = .ok (.ifCond .ne 9, 3) := by decide +kernel
theorem dX5_tellStatements_32 : decode cX5_tellStatements 32 = .ok (.sipush (-2000), 3) := by decide +kernel
theorem dX5_tellStatements_35 : decode cX5_tellStatements 35 = .ok (.iload_n 3, 1) := by decide +kernel
theorem dX5_tellStatements_36 : decode cX5_tellStatements 36 = .ok (.isub, 1) := by decide +kernel
theorem dX5_tellStatements_37 : decode cX5_tellStatements 37 = .ok (.ireturn, 1) := by decide +kernel
theorem dX5_tellStatements_38 : decode cX5_tellStatements 38 = .ok (.iinc 2 1, 3) := by decide +kernel
theorem dX5_tellStatements_41 : decode cX5_tellStatements 41 = .ok (.iload_n 3, 1) := by decide +kernel
theorem dX5_tellStatements_42 : decode cX5_tellStatements 42 = .ok (.aload_n 1, 1) := by decide +kernel
theorem dX5_tellStatements_43 : decode cX5_tellStatements 43 = .ok (.iload_n 3, 1) := by decide +kernel
theorem dX5_tellStatements_44 : decode cX5_tellStatements 44 = .ok (.invokevirtual 252, 3) := by decide +kernel
theorem dX5_tellStatements_47 : decode cX5_tellStatements 47 = .ok (.invokestatic 336, 3) := by decide +kernel
theorem dX5_tellStatements_50 : decode cX5_tellStatements 50 = .ok (.iconst 0, 1) := by decide +kernel
theorem dX5_tellStatements_51 : decode cX5_tellStatements 51 = .ok (.invokestatic 242, 3) := by decide +kernel
theorem dX5_tellStatements_54 : decode cX5_tellStatements 54 = .ok (.iconst 2, 1) := by decide +kernel
theorem dX5_tellStatements_55 : decode cX5_tellStatements 55 = .ok (.iadd, 1) := by decide +kernel
theorem dX5_tellStatements_56 : decode cX5_tellStatements 56 = .ok (.iadd, 1) := by decide +kernel
theorem dX5_tellStatements_57 : decode cX5_tellStatements 57 = .ok (.istore_n 3, 1) := by decide +kernel
theorem dX5_tellStatements_58 : decode cX5_tellStatements 58 = .ok (.goto (-43), 3) := by decide +kernel
theorem dX5_tellStatements_61 : decode cX5_tellStatements 61 = .ok (.aload_n 0, 1) := by decide +kernel
theorem dX5_tellStatements_62 : decode cX5_tellStatements 62 = .ok (.getfield 18, 3) := by decide +kernel
theorem dX5_tellStatements_65 : decode cX5_tellStatements 65 = .ok (.aload_n 0, 1) := by decide +kernel
theorem dX5_tellStatements_66 : decode cX5_tellStatements 66 = .ok (.getfield 25, 3) := by decide +kernel
theorem dX5_tellStatements_69 : decode cX5_tellStatements 69 = .ok (.invokevirtual 166, 3) := by decide +kernel
theorem dX5_tellStatements_72 : decode cX5_tellStatements 72 = .ok (.iload_n 2, 1) := by decide +kernel
theorem dX5_tellStatements_73 : decode cX5_tellStatements 73 = .ok (.ireturn, 1) := by decide +kernel
theorem dX5_tellStatement_0 : decode cX5_tellStatement 0 = .ok (.aload_n 1, 1) := by decide +kernel
theorem dX5_tellStatement_1 : decode cX5_tellStatement 1 = .ok (.iload_n 2, 1) := by decide +kernel
theorem dX5_tellStatement_2 : decode cX5_tellStatement 2 = .ok (.iconst 1, 1) := by decide +kernel
theorem dX5_tellStatement_3 : decode cX5_tellStatement 3 = .ok (.iadd, 1) := by decide +kernel
theorem dX5_tellStatement_4 : decode cX5_tellStatement 4 = .ok (.invokevirtual 343, 3) := by decide +kernel
theorem dX5_tellStatement_7 : decode cX5_tellStatement 7 = .ok (.istore_n 3, 1) := by decide +kernel
theorem dX5_tellStatement_8 : decode cX5_tellStatement 8 = .ok (.aload_n 1, 1) := by decide +kernel
theorem dX5_tellStatement_9 : decode cX5_tellStatement 9 = .ok (.iload_n 2, 1) := by decide +kernel
theorem dX5_tellStatement_10 : decode cX5_tellStatement 10 = .ok (.iconst 2, 1) := by decide +kernel
theorem dX5_tellStatement_11 : decode cX5_tellStatement 11 = .ok (.iadd, 1) := by decide +kernel
theorem dX5_tellStatement_12 : decode cX5_tellStatement 12 = .ok (.invokevirtual 343, 3) := by decide +kernel
theorem dX5_tellStatement_15 : decode cX5_tellStatement 15 = .ok (.istore 4, 2) := by decide +kernel
theorem dX5_tellStatement_17 : decode cX5_tellStatement 17 = .ok (.aload_n 1, 1) := by decide +kernel
theorem dX5_tellStatement_18 : decode cX5_tellStatement 18 = .ok (.iload_n 2, 1) := by decide +kernel
theorem dX5_tellStatement_19 : decode cX5_tellStatement 19 = .ok (.invokevirtual 252, 3) := by decide +kernel
theorem dX5_tellStatement_22 : decode cX5_tellStatement 22 = .ok (.lookupswitch 142 #[(99, 72), (104, 116), (108, 129), (112, 50), (116, 84)], 50) := by decide +kernel
theorem dX5_tellStatement_72 : decode cX5_tellStatement 72 = .ok (.aload_n 0, 1) := by decide +kernel
theorem dX5_tellStatement_73 : decode cX5_tellStatement 73 = .ok (.iload_n 3, 1) := by decide +kernel
theorem dX5_tellStatement_74 : decode cX5_tellStatement 74 = .ok (.iload 4, 2) := by decide +kernel
theorem dX5_tellStatement_76 : decode cX5_tellStatement 76 = .ok (.aload_n 1, 1) := by decide +kernel
theorem dX5_tellStatement_77 : decode cX5_tellStatement 77 = .ok (.iload_n 2, 1) := by decide +kernel
theorem dX5_tellStatement_78 : decode cX5_tellStatement 78 = .ok (.iconst 3, 1) := by decide +kernel
theorem dX5_tellStatement_79 : decode cX5_tellStatement 79 = .ok (.iadd, 1) := by decide +kernel
theorem dX5_tellStatement_80 : decode cX5_tellStatement 80 = .ok (.invokevirtual 346, 3) := by decide +kernel
theorem dX5_tellStatement_83 : decode cX5_tellStatement 83 = .ok (.aload_n 1, 1) := by decide +kernel
theorem dX5_tellStatement_84 : decode cX5_tellStatement 84 = .ok (.iload_n 2, 1) := by decide +kernel
theorem dX5_tellStatement_85 : decode cX5_tellStatement 85 = .ok (.iconst 5, 1) := by decide +kernel
theorem dX5_tellStatement_86 : decode cX5_tellStatement 86 = .ok (.iadd, 1) := by decide +kernel
theorem dX5_tellStatement_87 : decode cX5_tellStatement 87 = .ok (.invokevirtual 346, 3) := by decide +kernel
theorem dX5_tellStatement_90 : decode cX5_tellStatement 90 = .ok (.invokevirtual 349, 3) := by decide +kernel
theorem dX5_tellStatement_93 : decode cX5_tellStatement 93 = .ok (.ireturn, 1) := by decide +kernel
theorem dX5_tellStatement_94 : decode cX5_tellStatement 94 = .ok (.aload_n 0, 1) := by decide +kernel
theorem dX5_tellStatement_95 : decode cX5_tellStatement 95 = .ok (.aload_n 1, 1) := by decide +kernel
theorem dX5_tellStatement_96 : decode cX5_tellStatement 96 = .ok (.iload_n 2, 1) := by decide +kernel
theorem dX5_tellStatement_97 : decode cX5_tellStatement 97 = .ok (.iconst 1, 1) := by decide +kernel
theorem dX5_tellStatement_98 : decode cX5_tellStatement 98 = .ok (.iadd, 1) := by decide +kernel
theorem dX5_tellStatement_99 : decode cX5_tellStatement 99 = .ok (.invokevirtual 346, 3) := by decide +kernel
theorem dX5_tellStatement_102 : decode cX5_tellStatement 102 = .ok (.invokevirtual 353, 3) := by decide +kernel
theorem dX5_tellStatement_105 : decode cX5_tellStatement 105 = .ok (.ireturn, 1) := by decide +kernel
theorem dX5_tellStatement_106 : decode cX5_tellStatement 106 = .ok (.aload_n 0, 1) := by decide +kernel
theorem dX5_tellStatement_107 : decode cX5_tellStatement 107 = .ok (.getfield 25, 3) := by decide +kernel
theorem dX5_tellStatement_110 : decode cX5_tellStatement 110 = .ok (.iload_n 3, 1) := by decide +kernel
theorem dX5_tellStatement_111 : decode cX5_tellStatement 111 = .ok (.iload 4, 2) := by decide +kernel
theorem dX5_tellStatement_113 : decode cX5_tellStatement 113 = .ok (.invokevirtual 126, 3) := by decide +kernel
theorem dX5_tellStatement_116 : decode cX5_tellStatement 116 = .ok (.ifCond .eq 20, 3) := by decide +kernel
theorem dX5_tellStatement_119 : decode cX5_tellStatement 119 = .ok (.aload_n 0, 1) := by decide +kernel
theorem dX5_tellStatement_120 : decode cX5_tellStatement 120 = .ok (.getfield 25, 3) := by decide +kernel
theorem dX5_tellStatement_123 : decode cX5_tellStatement 123 = .ok (.iload_n 3, 1) := by decide +kernel
theorem dX5_tellStatement_124 : decode cX5_tellStatement 124 = .ok (.iload 4, 2) := by decide +kernel
theorem dX5_tellStatement_126 : decode cX5_tellStatement 126 = .ok (.invokevirtual 129, 3) := by decide +kernel
theorem dX5_tellStatement_129 : decode cX5_tellStatement 129 = .ok (.ifCond .lt 7, 3) := by decide +kernel
theorem dX5_tellStatement_132 : decode cX5_tellStatement 132 = .ok (.iconst 1, 1) := by decide +kernel
theorem dX5_tellStatement_133 : decode cX5_tellStatement 133 = .ok (.goto 4, 3) := by decide +kernel
theorem dX5_tellStatement_136 : decode cX5_tellStatement 136 = .ok (.iconst 0, 1) := by decide +kernel
theorem dX5_tellStatement_137 : decode cX5_tellStatement 137 = .ok (.ireturn, 1) := by decide +kernel
theorem dX5_tellStatement_138 : decode cX5_tellStatement 138 = .ok (.aload_n 0, 1) := by decide +kernel
theorem dX5_tellStatement_139 : decode cX5_tellStatement 139 = .ok (.iload_n 3, 1) := by decide +kernel
theorem dX5_tellStatement_140 : decode cX5_tellStatement 140 = .ok (.aload_n 1, 1) := by decide +kernel
theorem dX5_tellStatement_141 : decode cX5_tellStatement 141 = .ok (.iload_n 2, 1) := by decide +kernel
theorem dX5_tellStatement_142 : decode cX5_tellStatement 142 = .ok (.iconst 2, 1) := by decide +kernel
theorem dX5_tellStatement_143 : decode cX5_tellStatement 143 = .ok (.iadd, 1) := by decide +kernel
theorem dX5_tellStatement_144 : decode cX5_tellStatement 144 = .ok (.invokevirtual 346, 3) := by decide +kernel
theorem dX5_tellStatement_147 : decode cX5_tellStatement 147 = .ok (.invokevirtual 356, 3) := by decide +kernel
theorem dX5_tellStatement_150 : decode cX5_tellStatement 150 = .ok (.ireturn, 1) := by decide +kernel
theorem dX5_tellStatement_151 : decode cX5_tellStatement 151 = .ok (.aload_n 0, 1) := by decide +kernel
theorem dX5_tellStatement_152 : decode cX5_tellStatement 152 = .ok (.iload_n 3, 1) := by decide +kernel
theorem dX5_tellStatement_153 : decode cX5_tellStatement 153 = .ok (.aload_n 1, 1) := by decide +kernel
theorem dX5_tellStatement_154 : decode cX5_tellStatement 154 = .ok (.iload_n 2, 1) := by decide +kernel
theorem dX5_tellStatement_155 : decode cX5_tellStatement 155 = .ok (.iconst 2, 1) := by decide +kernel
theorem dX5_tellStatement_156 : decode cX5_tellStatement 156 = .ok (.iadd, 1) := by decide +kernel
theorem dX5_tellStatement_157 : decode cX5_tellStatement 157 = .ok (.invokevirtual 346, 3) := by decide +kernel
theorem dX5_tellStatement_160 : decode cX5_tellStatement 160 = .ok (.invokevirtual 359, 3) := by decide +kernel
theorem dX5_tellStatement_163 : decode cX5_tellStatement 163 = .ok (.ireturn, 1) := by decide +kernel
theorem dX5_tellStatement_164 : decode cX5_tellStatement 164 = .ok (.iconst 0, 1) := by decide +kernel
theorem dX5_tellStatement_165 : decode cX5_tellStatement 165 = .ok (.ireturn, 1) := by decide +kernel
theorem dX5_tellPerson_0 : decode cX5_tellPerson 0 = .ok (.iload_n 1, 1) := by decide +kernel
theorem dX5_tellPerson_1 : decode cX5_tellPerson 1 = .ok (.invokestatic 283, 3) := by decide +kernel
theorem dX5_tellPerson_4 : decode cX5_tellPerson 4 = .ok (.ifCond .eq 29, 3) := by decide +kernel
theorem dX5_tellPerson_7 : decode cX5_tellPerson 7 = .ok (.iload_n 2, 1) := by decide +kernel
theorem dX5_tellPerson_8 : decode cX5_tellPerson 8 = .ok (.invokestatic 178, 3) := by decide +kernel
theorem dX5_tellPerson_11 : decode cX5_tellPerson 11 = .ok (.ifCond .eq 22, 3) := by decide +kernel
theorem dX5_tellPerson_14 : decode cX5_tellPerson 14 = .ok (.iload_n 3, 1) := by decide +kernel
theorem dX5_tellPerson_15 : decode cX5_tellPerson 15 = .ok (.invokestatic 97, 3) := by decide +kernel
theorem dX5_tellPerson_18 : decode cX5_tellPerson 18 = .ok (.ifCond .eq 15, 3) := by decide +kernel
theorem dX5_tellPerson_21 : decode cX5_tellPerson 21 = .ok (.iload 4, 2) := by decide +kernel
theorem dX5_tellPerson_23 : decode cX5_tellPerson 23 = .ok (.invokestatic 97, 3) := by decide +kernel
theorem dX5_tellPerson_26 : decode cX5_tellPerson 26 = .ok (.ifCond .eq 7, 3) := by decide +kernel
theorem dX5_tellPerson_29 : decode cX5_tellPerson 29 = .ok (.iconst 1, 1) := by decide +kernel
theorem dX5_tellPerson_30 : decode cX5_tellPerson 30 = .ok (.goto 4, 3) := by decide +kernel
theorem dX5_tellPerson_33 : decode cX5_tellPerson 33 = .ok (.iconst 0, 1) := by decide +kernel
theorem dX5_tellPerson_34 : decode cX5_tellPerson 34 = .ok (.istore 5, 2) := by decide +kernel
theorem dX5_tellPerson_36 : decode cX5_tellPerson 36 = .ok (.iload 5, 2) := by decide +kernel
theorem dX5_tellPerson_38 : decode cX5_tellPerson 38 = .ok (.ifCond .eq 26, 3) := by decide +kernel
theorem dX5_tellPerson_41 : decode cX5_tellPerson 41 = .ok (.aload_n 0, 1) := by decide +kernel
theorem dX5_tellPerson_42 : decode cX5_tellPerson 42 = .ok (.getfield 25, 3) := by decide +kernel
theorem dX5_tellPerson_45 : decode cX5_tellPerson 45 = .ok (.getstatic 181, 3) := by decide +kernel
theorem dX5_tellPerson_48 : decode cX5_tellPerson 48 = .ok (.iload_n 1, 1) := by decide +kernel
theorem dX5_tellPerson_49 : decode cX5_tellPerson 49 = .ok (.aaload, 1) := by decide +kernel
theorem dX5_tellPerson_50 : decode cX5_tellPerson 50 = .ok (.iload_n 2, 1) := by decide +kernel
theorem dX5_tellPerson_51 : decode cX5_tellPerson 51 = .ok (.iload_n 3, 1) := by decide +kernel
theorem dX5_tellPerson_52 : decode cX5_tellPerson 52 = .ok (.iload 4, 2) := by decide +kernel
theorem dX5_tellPerson_54 : decode cX5_tellPerson 54 = .ok (.invokevirtual 108, 3) := by decide +kernel
theorem dX5_tellPerson_57 : decode cX5_tellPerson 57 = .ok (.ifCond .eq 7, 3) := by decide +kernel
theorem dX5_tellPerson_60 : decode cX5_tellPerson 60 = .ok (.iconst 1, 1) := by decide +kernel
theorem dX5_tellPerson_61 : decode cX5_tellPerson 61 = .ok (.goto 4, 3) := by decide +kernel
theorem dX5_tellPerson_64 : decode cX5_tellPerson 64 = .ok (.iconst 0, 1) := by decide +kernel
theorem dX5_tellPerson_65 : decode cX5_tellPerson 65 = .ok (.ireturn, 1) := by decide +kernel
theorem dX5_tellSlices_0 : decode cX5_tellSlices 0 = .ok (.iload_n 1, 1) := by decide +kernel
theorem dX5_tellSlices_1 : decode cX5_tellSlices 1 = .ok (.iconst 0, 1) := by decide +kernel
theorem dX5_tellSlices_2 : decode cX5_tellSlices 2 = .ok (.bipush 99, 2) := by decide +kernel
theorem dX5_tellSlices_4 : decode cX5_tellSlices 4 = .ok (.invokestatic 115, 3) := by decide +kernel
theorem dX5_tellSlices_7 : decode cX5_tellSlices 7 = .ok (.ifCond .ne 5, 3) := by decide +kernel
theorem dX5_tellSlices_10 : decode cX5_tellSlices 10 = .ok (.iconst 0, 1) := by decide +kernel
theorem dX5_tellSlices_11 : decode cX5_tellSlices 11 = .ok (.ireturn, 1) := by decide +kernel
theorem dX5_tellSlices_12 : decode cX5_tellSlices 12 = .ok (.aload_n 0, 1) := by decide +kernel
theorem dX5_tellSlices_13 : decode cX5_tellSlices 13 = .ok (.getfield 25, 3) := by decide +kernel
theorem dX5_tellSlices_16 : decode cX5_tellSlices 16 = .ok (.iload_n 1, 1) := by decide +kernel
theorem dX5_tellSlices_17 : decode cX5_tellSlices 17 = .ok (.putfield 119, 3) := by decide +kernel
theorem dX5_tellSlices_20 : decode cX5_tellSlices 20 = .ok (.iconst 1, 1) := by decide +kernel
theorem dX5_tellSlices_21 : decode cX5_tellSlices 21 = .ok (.ireturn, 1) := by decide +kernel
theorem dX5_tellHunger_0 : decode cX5_tellHunger 0 = .ok (.aload_n 0, 1) := by decide +kernel
theorem dX5_tellHunger_1 : decode cX5_tellHunger 1 = .ok (.getfield 25, 3) := by decide +kernel
theorem dX5_tellHunger_4 : decode cX5_tellHunger 4 = .ok (.iload_n 1, 1) := by decide +kernel
theorem dX5_tellHunger_5 : decode cX5_tellHunger 5 = .ok (.invokevirtual 51, 3) := by decide +kernel
theorem dX5_tellHunger_8 : decode cX5_tellHunger 8 = .ok (.ifCond .eq 10, 3) := by decide +kernel
theorem dX5_tellHunger_11 : decode cX5_tellHunger 11 = .ok (.iload_n 2, 1) := by decide +kernel
theorem dX5_tellHunger_12 : decode cX5_tellHunger 12 = .ok (.invokestatic 97, 3) := by decide +kernel
theorem dX5_tellHunger_15 : decode cX5_tellHunger 15 = .ok (.ifCond .ne 5, 3) := by decide +kernel
theorem dX5_tellHunger_18 : decode cX5_tellHunger 18 = .ok (.iconst 0, 1) := by decide +kernel
theorem dX5_tellHunger_19 : decode cX5_tellHunger 19 = .ok (.ireturn, 1) := by decide +kernel
theorem dX5_tellHunger_20 : decode cX5_tellHunger 20 = .ok (.aload_n 0, 1) := by decide +kernel
theorem dX5_tellHunger_21 : decode cX5_tellHunger 21 = .ok (.getfield 25, 3) := by decide +kernel
theorem dX5_tellHunger_24 : decode cX5_tellHunger 24 = .ok (.getfield 55, 3) := by decide +kernel
theorem dX5_tellHunger_27 : decode cX5_tellHunger 27 = .ok (.iload_n 1, 1) := by decide +kernel
theorem dX5_tellHunger_28 : decode cX5_tellHunger 28 = .ok (.aaload, 1) := by decide +kernel
theorem dX5_tellHunger_29 : decode cX5_tellHunger 29 = .ok (.iload_n 2, 1) := by decide +kernel
theorem dX5_tellHunger_30 : decode cX5_tellHunger 30 = .ok (.putfield 73, 3) := by decide +kernel
theorem dX5_tellHunger_33 : decode cX5_tellHunger 33 = .ok (.iconst 1, 1) := by decide +kernel
theorem dX5_tellHunger_34 : decode cX5_tellHunger 34 = .ok (.ireturn, 1) := by decide +kernel
theorem dX5_tellWish_0 : decode cX5_tellWish 0 = .ok (.aload_n 0, 1) := by decide +kernel
theorem dX5_tellWish_1 : decode cX5_tellWish 1 = .ok (.getfield 25, 3) := by decide +kernel
theorem dX5_tellWish_4 : decode cX5_tellWish 4 = .ok (.iload_n 1, 1) := by decide +kernel
theorem dX5_tellWish_5 : decode cX5_tellWish 5 = .ok (.invokevirtual 51, 3) := by decide +kernel
theorem dX5_tellWish_8 : decode cX5_tellWish 8 = .ok (.ifCond .eq 10, 3) := by decide +kernel
theorem dX5_tellWish_11 : decode cX5_tellWish 11 = .ok (.iload_n 2, 1) := by decide +kernel
theorem dX5_tellWish_12 : decode cX5_tellWish 12 = .ok (.invokestatic 97, 3) := by decide +kernel
theorem dX5_tellWish_15 : decode cX5_tellWish 15 = .ok (.ifCond .ne 5, 3) := by decide +kernel
theorem dX5_tellWish_18 : decode cX5_tellWish 18 = .ok (.iconst 0, 1) := by decide +kernel
theorem dX5_tellWish_19 : decode cX5_tellWish 19 = .ok (.ireturn, 1) := by decide +kernel
theorem dX5_tellWish_20 : decode cX5_tellWish 20 = .ok (.aload_n 0, 1) := by decide +kernel
theorem dX5_tellWish_21 : decode cX5_tellWish 21 = .ok (.getfield 25, 3) := by decide +kernel
theorem dX5_tellWish_24 : decode cX5_tellWish 24 = .ok (.getfield 55, 3) := by decide +kernel
theorem dX5_tellWish_27 : decode cX5_tellWish 27 = .ok (.iload_n 1, 1) := by decide +kernel
theorem dX5_tellWish_28 : decode cX5_tellWish 28 = .ok (.aaload, 1) := by decide +kernel
theorem dX5_tellWish_29 : decode cX5_tellWish 29 = .ok (.iload_n 2, 1) := by decide +kernel
theorem dX5_tellWish_30 : decode cX5_tellWish 30 = .ok (.putfield 76, 3) := by decide +kernel
theorem dX5_tellWish_33 : decode cX5_tellWish 33 = .ok (.iconst 1, 1) := by decide +kernel
theorem dX5_tellWish_34 : decode cX5_tellWish 34 = .ok (.ireturn, 1) := by decide +kernel
theorem dX5_joysWithASecond_0 : decode cX5_joysWithASecond 0 = .ok (.aload_n 0, 1) := by decide +kernel
theorem dX5_joysWithASecond_1 : decode cX5_joysWithASecond 1 = .ok (.getfield 25, 3) := by decide +kernel
theorem dX5_joysWithASecond_4 : decode cX5_joysWithASecond 4 = .ok (.aload_n 0, 1) := by decide +kernel
theorem dX5_joysWithASecond_5 : decode cX5_joysWithASecond 5 = .ok (.getfield 18, 3) := by decide +kernel
theorem dX5_joysWithASecond_8 : decode cX5_joysWithASecond 8 = .ok (.invokevirtual 166, 3) := by decide +kernel
theorem dX5_joysWithASecond_11 : decode cX5_joysWithASecond 11 = .ok (.aload_n 0, 1) := by decide +kernel
theorem dX5_joysWithASecond_12 : decode cX5_joysWithASecond 12 = .ok (.getfield 25, 3) := by decide +kernel
theorem dX5_joysWithASecond_15 : decode cX5_joysWithASecond 15 = .ok (.iload_n 1, 1) := by decide +kernel
theorem dX5_joysWithASecond_16 : decode cX5_joysWithASecond 16 = .ok (.iload_n 2, 1) := by decide +kernel
theorem dX5_joysWithASecond_17 : decode cX5_joysWithASecond 17 = .ok (.invokevirtual 129, 3) := by decide +kernel
theorem dX5_joysWithASecond_20 : decode cX5_joysWithASecond 20 = .ok (.istore_n 3, 1) := by decide +kernel
theorem dX5_joysWithASecond_21 : decode cX5_joysWithASecond 21 = .ok (.aload_n 0, 1) := by decide +kernel
theorem dX5_joysWithASecond_22 : decode cX5_joysWithASecond 22 = .ok (.getfield 25, 3) := by decide +kernel
theorem dX5_joysWithASecond_25 : decode cX5_joysWithASecond 25 = .ok (.invokevirtual 145, 3) := by decide +kernel
theorem dX5_joysWithASecond_28 : decode cX5_joysWithASecond 28 = .ok (.istore 4, 2) := by decide +kernel
theorem dX5_joysWithASecond_30 : decode cX5_joysWithASecond 30 = .ok (.iload 4, 2) := by decide +kernel
theorem dX5_joysWithASecond_32 : decode cX5_joysWithASecond 32 = .ok (.ifCond .ge 7, 3) := by decide +kernel
theorem dX5_joysWithASecond_35 : decode cX5_joysWithASecond 35 = .ok (.iload_n 3, 1) := by decide +kernel
theorem dX5_joysWithASecond_36 : decode cX5_joysWithASecond 36 = .ok (.goto 22, 3) := by decide +kernel
theorem dX5_joysWithASecond_39 : decode cX5_joysWithASecond 39 = .ok (.iload_n 3, 1) := by decide +kernel
theorem dX5_joysWithASecond_40 : decode cX5_joysWithASecond 40 = .ok (.aload_n 0, 1) := by decide +kernel
theorem dX5_joysWithASecond_41 : decode cX5_joysWithASecond 41 = .ok (.getfield 25, 3) := by decide +kernel
theorem dX5_joysWithASecond_44 : decode cX5_joysWithASecond 44 = .ok (.iload 4, 2) := by decide +kernel
theorem dX5_joysWithASecond_46 : decode cX5_joysWithASecond 46 = .ok (.bipush 10, 2) := by decide +kernel
theorem dX5_joysWithASecond_48 : decode cX5_joysWithASecond 48 = .ok (.idiv, 1) := by decide +kernel
theorem dX5_joysWithASecond_49 : decode cX5_joysWithASecond 49 = .ok (.iload 4, 2) := by decide +kernel
theorem dX5_joysWithASecond_51 : decode cX5_joysWithASecond 51 = .ok (.bipush 10, 2) := by decide +kernel
theorem dX5_joysWithASecond_53 : decode cX5_joysWithASecond 53 = .ok (.irem, 1) := by decide +kernel
theorem dX5_joysWithASecond_54 : decode cX5_joysWithASecond 54 = .ok (.invokevirtual 136, 3) := by decide +kernel
theorem dX5_joysWithASecond_57 : decode cX5_joysWithASecond 57 = .ok (.iadd, 1) := by decide +kernel
theorem dX5_joysWithASecond_58 : decode cX5_joysWithASecond 58 = .ok (.ireturn, 1) := by decide +kernel
theorem dX5_howManyEatAtAll_0 : decode cX5_howManyEatAtAll 0 = .ok (.iconst 0, 1) := by decide +kernel
theorem dX5_howManyEatAtAll_1 : decode cX5_howManyEatAtAll 1 = .ok (.istore_n 1, 1) := by decide +kernel
theorem dX5_howManyEatAtAll_2 : decode cX5_howManyEatAtAll 2 = .ok (.iconst 0, 1) := by decide +kernel
theorem dX5_howManyEatAtAll_3 : decode cX5_howManyEatAtAll 3 = .ok (.istore_n 2, 1) := by decide +kernel
theorem dX5_howManyEatAtAll_4 : decode cX5_howManyEatAtAll 4 = .ok (.iconst 0, 1) := by decide +kernel
theorem dX5_howManyEatAtAll_5 : decode cX5_howManyEatAtAll 5 = .ok (.istore_n 3, 1) := by decide +kernel
theorem dX5_howManyEatAtAll_6 : decode cX5_howManyEatAtAll 6 = .ok (.iconst 0, 1) := by decide +kernel
theorem dX5_howManyEatAtAll_7 : decode cX5_howManyEatAtAll 7 = .ok (.istore 4, 2) := by decide +kernel
theorem dX5_howManyEatAtAll_9 : decode cX5_howManyEatAtAll 9 = .ok (.iload 4, 2) := by decide +kernel
theorem dX5_howManyEatAtAll_11 : decode cX5_howManyEatAtAll 11 = .ok (.aload_n 0, 1) := by decide +kernel
theorem dX5_howManyEatAtAll_12 : decode cX5_howManyEatAtAll 12 = .ok (.getfield 18, 3) := by decide +kernel
theorem dX5_howManyEatAtAll_15 : decode cX5_howManyEatAtAll 15 = .ok (.getfield 103, 3) := by decide +kernel
theorem dX5_howManyEatAtAll_18 : decode cX5_howManyEatAtAll 18 = .ok (.if_icmp .ge 78, 3) := by decide +kernel
theorem dX5_howManyEatAtAll_21 : decode cX5_howManyEatAtAll 21 = .ok (.aload_n 0, 1) := by decide +kernel
theorem dX5_howManyEatAtAll_22 : decode cX5_howManyEatAtAll 22 = .ok (.getfield 18, 3) := by decide +kernel
theorem dX5_howManyEatAtAll_25 : decode cX5_howManyEatAtAll 25 = .ok (.getfield 55, 3) := by decide +kernel
theorem dX5_howManyEatAtAll_28 : decode cX5_howManyEatAtAll 28 = .ok (.iload 4, 2) := by decide +kernel
theorem dX5_howManyEatAtAll_30 : decode cX5_howManyEatAtAll 30 = .ok (.aaload, 1) := by decide +kernel
theorem dX5_howManyEatAtAll_31 : decode cX5_howManyEatAtAll 31 = .ok (.astore 5, 2) := by decide +kernel
theorem dX5_howManyEatAtAll_33 : decode cX5_howManyEatAtAll 33 = .ok (.aload 5, 2) := by decide +kernel
theorem dX5_howManyEatAtAll_35 : decode cX5_howManyEatAtAll 35 = .ok (.getfield 73, 3) := by decide +kernel
theorem dX5_howManyEatAtAll_38 : decode cX5_howManyEatAtAll 38 = .ok (.ifCond .le 15, 3) := by decide +kernel
theorem dX5_howManyEatAtAll_41 : decode cX5_howManyEatAtAll 41 = .ok (.aload 5, 2) := by decide +kernel
theorem dX5_howManyEatAtAll_43 : decode cX5_howManyEatAtAll 43 = .ok (.getfield 79, 3) := by decide +kernel
theorem dX5_howManyEatAtAll_46 : decode cX5_howManyEatAtAll 46 = .ok (.ifCond .ne 7, 3) := by decide +kernel
theorem dX5_howManyEatAtAll_49 : decode cX5_howManyEatAtAll 49 = .ok (.iconst 1, 1) := by decide +kernel
theorem dX5_howManyEatAtAll_50 : decode cX5_howManyEatAtAll 50 = .ok (.goto 4, 3) := by decide +kernel
theorem dX5_howManyEatAtAll_53 : decode cX5_howManyEatAtAll 53 = .ok (.iconst 0, 1) := by decide +kernel
theorem dX5_howManyEatAtAll_54 : decode cX5_howManyEatAtAll 54 = .ok (.istore 6, 2) := by decide +kernel
theorem dX5_howManyEatAtAll_56 : decode cX5_howManyEatAtAll 56 = .ok (.iload 6, 2) := by decide +kernel
theorem dX5_howManyEatAtAll_58 : decode cX5_howManyEatAtAll 58 = .ok (.ifCond .eq 6, 3) := by decide +kernel
theorem dX5_howManyEatAtAll_61 : decode cX5_howManyEatAtAll 61 = .ok (.iinc 1 1, 3) := by decide +kernel
theorem dX5_howManyEatAtAll_64 : decode cX5_howManyEatAtAll 64 = .ok (.aload 5, 2) := by decide +kernel
theorem dX5_howManyEatAtAll_66 : decode cX5_howManyEatAtAll 66 = .ok (.invokevirtual 248, 3) := by decide +kernel
theorem dX5_howManyEatAtAll_69 : decode cX5_howManyEatAtAll 69 = .ok (.ifCond .eq 21, 3) := by decide +kernel
theorem dX5_howManyEatAtAll_72 : decode cX5_howManyEatAtAll 72 = .ok (.iinc 2 1, 3) := by decide +kernel
theorem dX5_howManyEatAtAll_75 : decode cX5_howManyEatAtAll 75 = .ok (.iload_n 3, 1) := by decide +kernel
theorem dX5_howManyEatAtAll_76 : decode cX5_howManyEatAtAll 76 = .ok (.ifCond .ne 8, 3) := by decide +kernel
theorem dX5_howManyEatAtAll_79 : decode cX5_howManyEatAtAll 79 = .ok (.iload 6, 2) := by decide +kernel
theorem dX5_howManyEatAtAll_81 : decode cX5_howManyEatAtAll 81 = .ok (.ifCond .ne 7, 3) := by decide +kernel
theorem dX5_howManyEatAtAll_84 : decode cX5_howManyEatAtAll 84 = .ok (.iconst 1, 1) := by decide +kernel
theorem dX5_howManyEatAtAll_85 : decode cX5_howManyEatAtAll 85 = .ok (.goto 4, 3) := by decide +kernel
theorem dX5_howManyEatAtAll_88 : decode cX5_howManyEatAtAll 88 = .ok (.iconst 0, 1) := by decide +kernel
theorem dX5_howManyEatAtAll_89 : decode cX5_howManyEatAtAll 89 = .ok (.istore_n 3, 1) := by decide +kernel
theorem dX5_howManyEatAtAll_90 : decode cX5_howManyEatAtAll 90 = .ok (.iinc 4 1, 3) := by decide +kernel
theorem dX5_howManyEatAtAll_93 : decode cX5_howManyEatAtAll 93 = .ok (.goto (-84), 3) := by decide +kernel
theorem dX5_howManyEatAtAll_96 : decode cX5_howManyEatAtAll 96 = .ok (.iload_n 2, 1) := by decide +kernel
theorem dX5_howManyEatAtAll_97 : decode cX5_howManyEatAtAll 97 = .ok (.ifCond .ne 5, 3) := by decide +kernel
theorem dX5_howManyEatAtAll_100 : decode cX5_howManyEatAtAll 100 = .ok (.iconst 0, 1) := by decide +kernel
theorem dX5_howManyEatAtAll_101 : decode cX5_howManyEatAtAll 101 = .ok (.ireturn, 1) := by decide +kernel
theorem dX5_howManyEatAtAll_102 : decode cX5_howManyEatAtAll 102 = .ok (.iload_n 3, 1) := by decide +kernel
theorem dX5_howManyEatAtAll_103 : decode cX5_howManyEatAtAll 103 = .ok (.ifCond .eq 7, 3) := by decide +kernel
theorem dX5_howManyEatAtAll_106 : decode cX5_howManyEatAtAll 106 = .ok (.iload_n 1, 1) := by decide +kernel
theorem dX5_howManyEatAtAll_107 : decode cX5_howManyEatAtAll 107 = .ok (.goto 6, 3) := by decide +kernel
theorem dX5_howManyEatAtAll_110 : decode cX5_howManyEatAtAll 110 = .ok (.iload_n 1, 1) := by decide +kernel
theorem dX5_howManyEatAtAll_111 : decode cX5_howManyEatAtAll 111 = .ok (.iconst 1, 1) := by decide +kernel
theorem dX5_howManyEatAtAll_112 : decode cX5_howManyEatAtAll 112 = .ok (.isub, 1) := by decide +kernel
theorem dX5_howManyEatAtAll_113 : decode cX5_howManyEatAtAll 113 = .ok (.istore 4, 2) := by decide +kernel
theorem dX5_howManyEatAtAll_115 : decode cX5_howManyEatAtAll 115 = .ok (.iload 4, 2) := by decide +kernel
theorem dX5_howManyEatAtAll_117 : decode cX5_howManyEatAtAll 117 = .ok (.aload_n 0, 1) := by decide +kernel
theorem dX5_howManyEatAtAll_118 : decode cX5_howManyEatAtAll 118 = .ok (.getfield 18, 3) := by decide +kernel
theorem dX5_howManyEatAtAll_121 : decode cX5_howManyEatAtAll 121 = .ok (.getfield 119, 3) := by decide +kernel
theorem dX5_howManyEatAtAll_124 : decode cX5_howManyEatAtAll 124 = .ok (.invokestatic 198, 3) := by decide +kernel
theorem dX5_howManyEatAtAll_127 : decode cX5_howManyEatAtAll 127 = .ok (.ireturn, 1) := by decide +kernel
theorem dX5_whoIsLeft_0 : decode cX5_whoIsLeft 0 = .ok (.bipush (-4), 2) := by decide +kernel
theorem dX5_whoIsLeft_2 : decode cX5_whoIsLeft 2 = .ok (.istore_n 1, 1) := by decide +kernel
theorem dX5_whoIsLeft_3 : decode cX5_whoIsLeft 3 = .ok (.bipush 31, 2) := by decide +kernel
theorem dX5_whoIsLeft_5 : decode cX5_whoIsLeft 5 = .ok (.istore_n 2, 1) := by decide +kernel
theorem dX5_whoIsLeft_6 : decode cX5_whoIsLeft 6 = .ok (.iconst 0, 1) := by decide +kernel
theorem dX5_whoIsLeft_7 : decode cX5_whoIsLeft 7 = .ok (.istore_n 3, 1) := by decide +kernel
theorem dX5_whoIsLeft_8 : decode cX5_whoIsLeft 8 = .ok (.iload_n 3, 1) := by decide +kernel
theorem dX5_whoIsLeft_9 : decode cX5_whoIsLeft 9 = .ok (.aload_n 0, 1) := by decide +kernel
theorem dX5_whoIsLeft_10 : decode cX5_whoIsLeft 10 = .ok (.getfield 18, 3) := by decide +kernel
theorem dX5_whoIsLeft_13 : decode cX5_whoIsLeft 13 = .ok (.getfield 103, 3) := by decide +kernel
theorem dX5_whoIsLeft_16 : decode cX5_whoIsLeft 16 = .ok (.if_icmp .ge 45, 3) := by decide +kernel
theorem dX5_whoIsLeft_19 : decode cX5_whoIsLeft 19 = .ok (.aload_n 0, 1) := by decide +kernel
theorem dX5_whoIsLeft_20 : decode cX5_whoIsLeft 20 = .ok (.getfield 18, 3) := by decide +kernel
theorem dX5_whoIsLeft_23 : decode cX5_whoIsLeft 23 = .ok (.getfield 55, 3) := by decide +kernel
theorem dX5_whoIsLeft_26 : decode cX5_whoIsLeft 26 = .ok (.iload_n 3, 1) := by decide +kernel
theorem dX5_whoIsLeft_27 : decode cX5_whoIsLeft 27 = .ok (.aaload, 1) := by decide +kernel
theorem dX5_whoIsLeft_28 : decode cX5_whoIsLeft 28 = .ok (.astore 4, 2) := by decide +kernel
theorem dX5_whoIsLeft_30 : decode cX5_whoIsLeft 30 = .ok (.aload 4, 2) := by decide +kernel
theorem dX5_whoIsLeft_32 : decode cX5_whoIsLeft 32 = .ok (.invokevirtual 248, 3) := by decide +kernel
theorem dX5_whoIsLeft_35 : decode cX5_whoIsLeft 35 = .ok (.ifCond .eq 20, 3) := by decide +kernel
theorem dX5_whoIsLeft_38 : decode cX5_whoIsLeft 38 = .ok (.aload 4, 2) := by decide +kernel
theorem dX5_whoIsLeft_40 : decode cX5_whoIsLeft 40 = .ok (.getfield 73, 3) := by decide +kernel
theorem dX5_whoIsLeft_43 : decode cX5_whoIsLeft 43 = .ok (.iload_n 2, 1) := by decide +kernel
theorem dX5_whoIsLeft_44 : decode cX5_whoIsLeft 44 = .ok (.if_icmp .ge 11, 3) := by decide +kernel
theorem dX5_whoIsLeft_47 : decode cX5_whoIsLeft 47 = .ok (.aload 4, 2) := by decide +kernel
theorem dX5_whoIsLeft_49 : decode cX5_whoIsLeft 49 = .ok (.getfield 73, 3) := by decide +kernel
theorem dX5_whoIsLeft_52 : decode cX5_whoIsLeft 52 = .ok (.istore_n 2, 1) := by decide +kernel
theorem dX5_whoIsLeft_53 : decode cX5_whoIsLeft 53 = .ok (.iload_n 3, 1) := by decide +kernel
theorem dX5_whoIsLeft_54 : decode cX5_whoIsLeft 54 = .ok (.istore_n 1, 1) := by decide +kernel
theorem dX5_whoIsLeft_55 : decode cX5_whoIsLeft 55 = .ok (.iinc 3 1, 3) := by decide +kernel
theorem dX5_whoIsLeft_58 : decode cX5_whoIsLeft 58 = .ok (.goto (-50), 3) := by decide +kernel
theorem dX5_whoIsLeft_61 : decode cX5_whoIsLeft 61 = .ok (.iload_n 1, 1) := by decide +kernel
theorem dX5_whoIsLeft_62 : decode cX5_whoIsLeft 62 = .ok (.ireturn, 1) := by decide +kernel
theorem dX5_mostJoysWatchedBy_0 : decode cX5_mostJoysWatchedBy 0 = .ok (.aload_n 1, 1) := by decide +kernel
theorem dX5_mostJoysWatchedBy_1 : decode cX5_mostJoysWatchedBy 1 = .ok (.getstatic 362, 3) := by decide +kernel
theorem dX5_mostJoysWatchedBy_4 : decode cX5_mostJoysWatchedBy 4 = .ok (.if_acmp .eq 13, 3) := by decide +kernel
theorem dX5_mostJoysWatchedBy_7 : decode cX5_mostJoysWatchedBy 7 = .ok (.aload_n 0, 1) := by decide +kernel
theorem dX5_mostJoysWatchedBy_8 : decode cX5_mostJoysWatchedBy 8 = .ok (.getfield 18, 3) := by decide +kernel
theorem dX5_mostJoysWatchedBy_11 : decode cX5_mostJoysWatchedBy 11 = .ok (.getfield 119, 3) := by decide +kernel
theorem dX5_mostJoysWatchedBy_14 : decode cX5_mostJoysWatchedBy 14 = .ok (.ifCond .ne 5, 3) := by decide +kernel
theorem dX5_mostJoysWatchedBy_17 : decode cX5_mostJoysWatchedBy 17 = .ok (.iconst (-1), 1) := by decide +kernel
theorem dX5_mostJoysWatchedBy_18 : decode cX5_mostJoysWatchedBy 18 = .ok (.ireturn, 1) := by decide +kernel
theorem dX5_mostJoysWatchedBy_19 : decode cX5_mostJoysWatchedBy 19 = .ok (.aload_n 1, 1) := by decide +kernel
theorem dX5_mostJoysWatchedBy_20 : decode cX5_mostJoysWatchedBy 20 = .ok (.iload_n 2, 1) := by decide +kernel
theorem dX5_mostJoysWatchedBy_21 : decode cX5_mostJoysWatchedBy 21 = .ok (.invokevirtual 365, 3) := by decide +kernel
theorem dX5_mostJoysWatchedBy_24 : decode cX5_mostJoysWatchedBy 24 = .ok (.bipush 9, 2) := by decide +kernel
theorem dX5_mostJoysWatchedBy_26 : decode cX5_mostJoysWatchedBy 26 = .ok (.invokestatic 198, 3) := by decide +kernel
theorem dX5_mostJoysWatchedBy_29 : decode cX5_mostJoysWatchedBy 29 = .ok (.istore_n 3, 1) := by decide +kernel
theorem dX5_mostJoysWatchedBy_30 : decode cX5_mostJoysWatchedBy 30 = .ok (.iconst (-1), 1) := by decide +kernel
theorem dX5_mostJoysWatchedBy_31 : decode cX5_mostJoysWatchedBy 31 = .ok (.istore 4, 2) := by decide +kernel
theorem dX5_mostJoysWatchedBy_33 : decode cX5_mostJoysWatchedBy 33 = .ok (.iconst 0, 1) := by decide +kernel
theorem dX5_mostJoysWatchedBy_34 : decode cX5_mostJoysWatchedBy 34 = .ok (.istore 5, 2) := by decide +kernel
theorem dX5_mostJoysWatchedBy_36 : decode cX5_mostJoysWatchedBy 36 = .ok (.iload 5, 2) := by decide +kernel
theorem dX5_mostJoysWatchedBy_38 : decode cX5_mostJoysWatchedBy 38 = .ok (.aload_n 0, 1) := by decide +kernel
theorem dX5_mostJoysWatchedBy_39 : decode cX5_mostJoysWatchedBy 39 = .ok (.getfield 18, 3) := by decide +kernel
theorem dX5_mostJoysWatchedBy_42 : decode cX5_mostJoysWatchedBy 42 = .ok (.getfield 103, 3) := by decide +kernel
theorem dX5_mostJoysWatchedBy_45 : decode cX5_mostJoysWatchedBy 45 = .ok (.if_icmp .ge 47, 3) := by decide +kernel
theorem dX5_mostJoysWatchedBy_48 : decode cX5_mostJoysWatchedBy 48 = .ok (.aload_n 0, 1) := by decide +kernel
theorem dX5_mostJoysWatchedBy_49 : decode cX5_mostJoysWatchedBy 49 = .ok (.getfield 18, 3) := by decide +kernel
theorem dX5_mostJoysWatchedBy_52 : decode cX5_mostJoysWatchedBy 52 = .ok (.getfield 55, 3) := by decide +kernel
theorem dX5_mostJoysWatchedBy_55 : decode cX5_mostJoysWatchedBy 55 = .ok (.iload 5, 2) := by decide +kernel
theorem dX5_mostJoysWatchedBy_57 : decode cX5_mostJoysWatchedBy 57 = .ok (.aaload, 1) := by decide +kernel
theorem dX5_mostJoysWatchedBy_58 : decode cX5_mostJoysWatchedBy 58 = .ok (.getfield 73, 3) := by decide +kernel
theorem dX5_mostJoysWatchedBy_61 : decode cX5_mostJoysWatchedBy 61 = .ok (.ifCond .le 25, 3) := by decide +kernel
theorem dX5_mostJoysWatchedBy_64 : decode cX5_mostJoysWatchedBy 64 = .ok (.iload 4, 2) := by decide +kernel
theorem dX5_mostJoysWatchedBy_66 : decode cX5_mostJoysWatchedBy 66 = .ok (.aload_n 0, 1) := by decide +kernel
theorem dX5_mostJoysWatchedBy_67 : decode cX5_mostJoysWatchedBy 67 = .ok (.getfield 18, 3) := by decide +kernel
theorem dX5_mostJoysWatchedBy_70 : decode cX5_mostJoysWatchedBy 70 = .ok (.getfield 55, 3) := by decide +kernel
theorem dX5_mostJoysWatchedBy_73 : decode cX5_mostJoysWatchedBy 73 = .ok (.iload 5, 2) := by decide +kernel
theorem dX5_mostJoysWatchedBy_75 : decode cX5_mostJoysWatchedBy 75 = .ok (.aaload, 1) := by decide +kernel
theorem dX5_mostJoysWatchedBy_76 : decode cX5_mostJoysWatchedBy 76 = .ok (.invokevirtual 368, 3) := by decide +kernel
theorem dX5_mostJoysWatchedBy_79 : decode cX5_mostJoysWatchedBy 79 = .ok (.iload_n 3, 1) := by decide +kernel
theorem dX5_mostJoysWatchedBy_80 : decode cX5_mostJoysWatchedBy 80 = .ok (.iadd, 1) := by decide +kernel
theorem dX5_mostJoysWatchedBy_81 : decode cX5_mostJoysWatchedBy 81 = .ok (.invokestatic 242, 3) := by decide +kernel
theorem dX5_mostJoysWatchedBy_84 : decode cX5_mostJoysWatchedBy 84 = .ok (.istore 4, 2) := by decide +kernel
theorem dX5_mostJoysWatchedBy_86 : decode cX5_mostJoysWatchedBy 86 = .ok (.iinc 5 1, 3) := by decide +kernel
theorem dX5_mostJoysWatchedBy_89 : decode cX5_mostJoysWatchedBy 89 = .ok (.goto (-53), 3) := by decide +kernel
theorem dX5_mostJoysWatchedBy_92 : decode cX5_mostJoysWatchedBy 92 = .ok (.iload 4, 2) := by decide +kernel
theorem dX5_mostJoysWatchedBy_94 : decode cX5_mostJoysWatchedBy 94 = .ok (.ireturn, 1) := by decide +kernel
theorem dX5_howManyBuy_0 : decode cX5_howManyBuy 0 = .ok (.iconst 0, 1) := by decide +kernel
theorem dX5_howManyBuy_1 : decode cX5_howManyBuy 1 = .ok (.istore_n 2, 1) := by decide +kernel
theorem dX5_howManyBuy_2 : decode cX5_howManyBuy 2 = .ok (.iconst 0, 1) := by decide +kernel
theorem dX5_howManyBuy_3 : decode cX5_howManyBuy 3 = .ok (.istore_n 3, 1) := by decide +kernel
theorem dX5_howManyBuy_4 : decode cX5_howManyBuy 4 = .ok (.iload_n 3, 1) := by decide +kernel
theorem dX5_howManyBuy_5 : decode cX5_howManyBuy 5 = .ok (.aload_n 0, 1) := by decide +kernel
theorem dX5_howManyBuy_6 : decode cX5_howManyBuy 6 = .ok (.getfield 18, 3) := by decide +kernel
theorem dX5_howManyBuy_9 : decode cX5_howManyBuy 9 = .ok (.getfield 103, 3) := by decide +kernel
theorem dX5_howManyBuy_12 : decode cX5_howManyBuy 12 = .ok (.if_icmp .ge 40, 3) := by decide +kernel
theorem dX5_howManyBuy_15 : decode cX5_howManyBuy 15 = .ok (.aload_n 0, 1) := by decide +kernel
theorem dX5_howManyBuy_16 : decode cX5_howManyBuy 16 = .ok (.getfield 18, 3) := by decide +kernel
theorem dX5_howManyBuy_19 : decode cX5_howManyBuy 19 = .ok (.getfield 55, 3) := by decide +kernel
theorem dX5_howManyBuy_22 : decode cX5_howManyBuy 22 = .ok (.iload_n 3, 1) := by decide +kernel
theorem dX5_howManyBuy_23 : decode cX5_howManyBuy 23 = .ok (.aaload, 1) := by decide +kernel
theorem dX5_howManyBuy_24 : decode cX5_howManyBuy 24 = .ok (.astore 4, 2) := by decide +kernel
theorem dX5_howManyBuy_26 : decode cX5_howManyBuy 26 = .ok (.aload 4, 2) := by decide +kernel
theorem dX5_howManyBuy_28 : decode cX5_howManyBuy 28 = .ok (.getfield 73, 3) := by decide +kernel
theorem dX5_howManyBuy_31 : decode cX5_howManyBuy 31 = .ok (.ifCond .le 15, 3) := by decide +kernel
theorem dX5_howManyBuy_34 : decode cX5_howManyBuy 34 = .ok (.aload 4, 2) := by decide +kernel
theorem dX5_howManyBuy_36 : decode cX5_howManyBuy 36 = .ok (.invokevirtual 368, 3) := by decide +kernel
theorem dX5_howManyBuy_39 : decode cX5_howManyBuy 39 = .ok (.iload_n 1, 1) := by decide +kernel
theorem dX5_howManyBuy_40 : decode cX5_howManyBuy 40 = .ok (.if_icmp .lt 6, 3) := by decide +kernel
theorem dX5_howManyBuy_43 : decode cX5_howManyBuy 43 = .ok (.iinc 2 1, 3) := by decide +kernel
theorem dX5_howManyBuy_46 : decode cX5_howManyBuy 46 = .ok (.iinc 3 1, 3) := by decide +kernel
theorem dX5_howManyBuy_49 : decode cX5_howManyBuy 49 = .ok (.goto (-45), 3) := by decide +kernel
theorem dX5_howManyBuy_52 : decode cX5_howManyBuy 52 = .ok (.iload_n 2, 1) := by decide +kernel
theorem dX5_howManyBuy_53 : decode cX5_howManyBuy 53 = .ok (.ireturn, 1) := by decide +kernel
theorem dX5_howManySell_0 : decode cX5_howManySell 0 = .ok (.iconst 0, 1) := by decide +kernel
theorem dX5_howManySell_1 : decode cX5_howManySell 1 = .ok (.istore_n 2, 1) := by decide +kernel
theorem dX5_howManySell_2 : decode cX5_howManySell 2 = .ok (.iconst 0, 1) := by decide +kernel
theorem dX5_howManySell_3 : decode cX5_howManySell 3 = .ok (.istore_n 3, 1) := by decide +kernel
theorem dX5_howManySell_4 : decode cX5_howManySell 4 = .ok (.iload_n 3, 1) := by decide +kernel
theorem dX5_howManySell_5 : decode cX5_howManySell 5 = .ok (.aload_n 0, 1) := by decide +kernel
theorem dX5_howManySell_6 : decode cX5_howManySell 6 = .ok (.getfield 18, 3) := by decide +kernel
theorem dX5_howManySell_9 : decode cX5_howManySell 9 = .ok (.getfield 103, 3) := by decide +kernel
theorem dX5_howManySell_12 : decode cX5_howManySell 12 = .ok (.if_icmp .ge 40, 3) := by decide +kernel
theorem dX5_howManySell_15 : decode cX5_howManySell 15 = .ok (.aload_n 0, 1) := by decide +kernel
theorem dX5_howManySell_16 : decode cX5_howManySell 16 = .ok (.getfield 18, 3) := by decide +kernel
theorem dX5_howManySell_19 : decode cX5_howManySell 19 = .ok (.getfield 55, 3) := by decide +kernel
theorem dX5_howManySell_22 : decode cX5_howManySell 22 = .ok (.iload_n 3, 1) := by decide +kernel
theorem dX5_howManySell_23 : decode cX5_howManySell 23 = .ok (.aaload, 1) := by decide +kernel
theorem dX5_howManySell_24 : decode cX5_howManySell 24 = .ok (.astore 4, 2) := by decide +kernel
theorem dX5_howManySell_26 : decode cX5_howManySell 26 = .ok (.aload 4, 2) := by decide +kernel
theorem dX5_howManySell_28 : decode cX5_howManySell 28 = .ok (.invokevirtual 248, 3) := by decide +kernel
theorem dX5_howManySell_31 : decode cX5_howManySell 31 = .ok (.ifCond .eq 15, 3) := by decide +kernel
theorem dX5_howManySell_34 : decode cX5_howManySell 34 = .ok (.aload 4, 2) := by decide +kernel
theorem dX5_howManySell_36 : decode cX5_howManySell 36 = .ok (.invokevirtual 371, 3) := by decide +kernel
theorem dX5_howManySell_39 : decode cX5_howManySell 39 = .ok (.iload_n 1, 1) := by decide +kernel
theorem dX5_howManySell_40 : decode cX5_howManySell 40 = .ok (.if_icmp .ge 6, 3) := by decide +kernel
theorem dX5_howManySell_43 : decode cX5_howManySell 43 = .ok (.iinc 2 1, 3) := by decide +kernel
theorem dX5_howManySell_46 : decode cX5_howManySell 46 = .ok (.iinc 3 1, 3) := by decide +kernel
theorem dX5_howManySell_49 : decode cX5_howManySell 49 = .ok (.goto (-45), 3) := by decide +kernel
theorem dX5_howManySell_52 : decode cX5_howManySell 52 = .ok (.iload_n 2, 1) := by decide +kernel
theorem dX5_howManySell_53 : decode cX5_howManySell 53 = .ok (.ireturn, 1) := by decide +kernel
theorem dX5_arePairsApart_0 : decode cX5_arePairsApart 0 = .ok (.aload_n 1, 1) := by decide +kernel
theorem dX5_arePairsApart_1 : decode cX5_arePairsApart 1 = .ok (.getfield 207, 3) := by decide +kernel
theorem dX5_arePairsApart_4 : decode cX5_arePairsApart 4 = .ok (.iconst 2, 1) := by decide +kernel
theorem dX5_arePairsApart_5 : decode cX5_arePairsApart 5 = .ok (.irem, 1) := by decide +kernel
theorem dX5_arePairsApart_6 : decode cX5_arePairsApart 6 = .ok (.ifCond .ne 12, 3) := by decide +kernel
theorem dX5_arePairsApart_9 : decode cX5_arePairsApart 9 = .ok (.aload_n 1, 1) := by decide +kernel
theorem dX5_arePairsApart_10 : decode cX5_arePairsApart 10 = .ok (.getfield 207, 3) := by decide +kernel
theorem dX5_arePairsApart_13 : decode cX5_arePairsApart 13 = .ok (.bipush 8, 2) := by decide +kernel
theorem dX5_arePairsApart_15 : decode cX5_arePairsApart 15 = .ok (.if_icmp .le 5, 3) := by decide +kernel
theorem dX5_arePairsApart_18 : decode cX5_arePairsApart 18 = .ok (.iconst 0, 1) := by decide +kernel
theorem dX5_arePairsApart_19 : decode cX5_arePairsApart 19 = .ok (.ireturn, 1) := by decide +kernel
theorem dX5_arePairsApart_20 : decode cX5_arePairsApart 20 = .ok (.iconst 0, 1) := by decide +kernel
theorem dX5_arePairsApart_21 : decode cX5_arePairsApart 21 = .ok (.istore_n 2, 1) := by decide +kernel
theorem dX5_arePairsApart_22 : decode cX5_arePairsApart 22 = .ok (.iconst 0, 1) := by decide +kernel
theorem dX5_arePairsApart_23 : decode cX5_arePairsApart 23 = .ok (.istore_n 3, 1) := by decide +kernel
theorem dX5_arePairsApart_24 : decode cX5_arePairsApart 24 = .ok (.iload_n 3, 1) := by decide +kernel
theorem dX5_arePairsApart_25 : decode cX5_arePairsApart 25 = .ok (.aload_n 1, 1) := by decide +kernel
theorem dX5_arePairsApart_26 : decode cX5_arePairsApart 26 = .ok (.getfield 207, 3) := by decide +kernel
theorem dX5_arePairsApart_29 : decode cX5_arePairsApart 29 = .ok (.if_icmp .ge 47, 3) := by decide +kernel
theorem dX5_arePairsApart_32 : decode cX5_arePairsApart 32 = .ok (.aload_n 1, 1) := by decide +kernel
theorem dX5_arePairsApart_33 : decode cX5_arePairsApart 33 = .ok (.iload_n 3, 1) := by decide +kernel
theorem dX5_arePairsApart_34 : decode cX5_arePairsApart 34 = .ok (.invokevirtual 252, 3) := by decide +kernel
theorem dX5_arePairsApart_37 : decode cX5_arePairsApart 37 = .ok (.istore 4, 2) := by decide +kernel
theorem dX5_arePairsApart_39 : decode cX5_arePairsApart 39 = .ok (.aload_n 0, 1) := by decide +kernel
theorem dX5_arePairsApart_40 : decode cX5_arePairsApart 40 = .ok (.getfield 18, 3) := by decide +kernel
theorem dX5_arePairsApart_43 : decode cX5_arePairsApart 43 = .ok (.iload 4, 2) := by decide +kernel
theorem dX5_arePairsApart_45 : decode cX5_arePairsApart 45 = .ok (.invokevirtual 51, 3) := by decide +kernel
theorem dX5_arePairsApart_48 : decode cX5_arePairsApart 48 = .ok (.ifCond .eq 13, 3) := by decide +kernel
theorem dX5_arePairsApart_51 : decode cX5_arePairsApart 51 = .ok (.iload_n 2, 1) := by decide +kernel
theorem dX5_arePairsApart_52 : decode cX5_arePairsApart 52 = .ok (.iload 4, 2) := by decide +kernel
theorem dX5_arePairsApart_54 : decode cX5_arePairsApart 54 = .ok (.ishr, 1) := by decide +kernel
theorem dX5_arePairsApart_55 : decode cX5_arePairsApart 55 = .ok (.iconst 1, 1) := by decide +kernel
theorem dX5_arePairsApart_56 : decode cX5_arePairsApart 56 = .ok (.iand, 1) := by decide +kernel
theorem dX5_arePairsApart_57 : decode cX5_arePairsApart 57 = .ok (.iconst 1, 1) := by decide +kernel
theorem dX5_arePairsApart_58 : decode cX5_arePairsApart 58 = .ok (.if_icmp .ne 5, 3) := by decide +kernel
theorem dX5_arePairsApart_61 : decode cX5_arePairsApart 61 = .ok (.iconst 0, 1) := by decide +kernel
theorem dX5_arePairsApart_62 : decode cX5_arePairsApart 62 = .ok (.ireturn, 1) := by decide +kernel
theorem dX5_arePairsApart_63 : decode cX5_arePairsApart 63 = .ok (.iload_n 2, 1) := by decide +kernel
theorem dX5_arePairsApart_64 : decode cX5_arePairsApart 64 = .ok (.iconst 1, 1) := by decide +kernel
theorem dX5_arePairsApart_65 : decode cX5_arePairsApart 65 = .ok (.iload 4, 2) := by decide +kernel
theorem dX5_arePairsApart_67 : decode cX5_arePairsApart 67 = .ok (.ishl, 1) := by decide +kernel
theorem dX5_arePairsApart_68 : decode cX5_arePairsApart 68 = .ok (.ior, 1) := by decide +kernel
theorem dX5_arePairsApart_69 : decode cX5_arePairsApart 69 = .ok (.istore_n 2, 1) := by decide +kernel
theorem dX5_arePairsApart_70 : decode cX5_arePairsApart 70 = .ok (.iinc 3 1, 3) := by decide +kernel
theorem dX5_arePairsApart_73 : decode cX5_arePairsApart 73 = .ok (.goto (-49), 3) := by decide +kernel
theorem dX5_arePairsApart_76 : decode cX5_arePairsApart 76 = .ok (.iconst 0, 1) := by decide +kernel
theorem dX5_arePairsApart_77 : decode cX5_arePairsApart 77 = .ok (.istore_n 3, 1) := by decide +kernel
theorem dX5_arePairsApart_78 : decode cX5_arePairsApart 78 = .ok (.iload_n 3, 1) := by decide +kernel
theorem dX5_arePairsApart_79 : decode cX5_arePairsApart 79 = .ok (.aload_n 1, 1) := by decide +kernel
theorem dX5_arePairsApart_80 : decode cX5_arePairsApart 80 = .ok (.getfield 207, 3) := by decide +kernel
theorem dX5_arePairsApart_83 : decode cX5_arePairsApart 83 = .ok (.if_icmp .ge 33, 3) := by decide +kernel
theorem dX5_arePairsApart_86 : decode cX5_arePairsApart 86 = .ok (.aload_n 0, 1) := by decide +kernel
theorem dX5_arePairsApart_87 : decode cX5_arePairsApart 87 = .ok (.getfield 18, 3) := by decide +kernel
theorem dX5_arePairsApart_90 : decode cX5_arePairsApart 90 = .ok (.aload_n 1, 1) := by decide +kernel
theorem dX5_arePairsApart_91 : decode cX5_arePairsApart 91 = .ok (.iload_n 3, 1) := by decide +kernel
theorem dX5_arePairsApart_92 : decode cX5_arePairsApart 92 = .ok (.invokevirtual 252, 3) := by decide +kernel
theorem dX5_arePairsApart_95 : decode cX5_arePairsApart 95 = .ok (.aload_n 1, 1) := by decide +kernel
theorem dX5_arePairsApart_96 : decode cX5_arePairsApart 96 = .ok (.iload_n 3, 1) := by decide +kernel
theorem dX5_arePairsApart_97 : decode cX5_arePairsApart 97 = .ok (.iconst 1, 1) := by decide +kernel
theorem dX5_arePairsApart_98 : decode cX5_arePairsApart 98 = .ok (.iadd, 1) := by decide +kernel
theorem dX5_arePairsApart_99 : decode cX5_arePairsApart 99 = .ok (.invokevirtual 252, 3) := by decide +kernel
theorem dX5_arePairsApart_102 : decode cX5_arePairsApart 102 = .ok (.invokevirtual 133, 3) := by decide +kernel
theorem dX5_arePairsApart_105 : decode cX5_arePairsApart 105 = .ok (.ifCond .ne 5, 3) := by decide +kernel
theorem dX5_arePairsApart_108 : decode cX5_arePairsApart 108 = .ok (.iconst 0, 1) := by decide +kernel
theorem dX5_arePairsApart_109 : decode cX5_arePairsApart 109 = .ok (.ireturn, 1) := by decide +kernel
theorem dX5_arePairsApart_110 : decode cX5_arePairsApart 110 = .ok (.iinc 3 2, 3) := by decide +kernel
theorem dX5_arePairsApart_113 : decode cX5_arePairsApart 113 = .ok (.goto (-35), 3) := by decide +kernel
theorem dX5_arePairsApart_116 : decode cX5_arePairsApart 116 = .ok (.iconst 1, 1) := by decide +kernel
theorem dX5_arePairsApart_117 : decode cX5_arePairsApart 117 = .ok (.ireturn, 1) := by decide +kernel
theorem dX5_gainOfSwap_0 : decode cX5_gainOfSwap 0 = .ok (.aload_n 1, 1) := by decide +kernel
theorem dX5_gainOfSwap_1 : decode cX5_gainOfSwap 1 = .ok (.iconst 2, 1) := by decide +kernel
theorem dX5_gainOfSwap_2 : decode cX5_gainOfSwap 2 = .ok (.iload_n 2, 1) := by decide +kernel
theorem dX5_gainOfSwap_3 : decode cX5_gainOfSwap 3 = .ok (.imul, 1) := by decide +kernel
theorem dX5_gainOfSwap_4 : decode cX5_gainOfSwap 4 = .ok (.invokevirtual 252, 3) := by decide +kernel
theorem dX5_gainOfSwap_7 : decode cX5_gainOfSwap 7 = .ok (.istore 4, 2) := by decide +kernel
theorem dX5_gainOfSwap_9 : decode cX5_gainOfSwap 9 = .ok (.aload_n 1, 1) := by decide +kernel
theorem dX5_gainOfSwap_10 : decode cX5_gainOfSwap 10 = .ok (.iconst 2, 1) := by decide +kernel
theorem dX5_gainOfSwap_11 : decode cX5_gainOfSwap 11 = .ok (.iload_n 2, 1) := by decide +kernel
theorem dX5_gainOfSwap_12 : decode cX5_gainOfSwap 12 = .ok (.imul, 1) := by decide +kernel
theorem dX5_gainOfSwap_13 : decode cX5_gainOfSwap 13 = .ok (.iconst 1, 1) := by decide +kernel
theorem dX5_gainOfSwap_14 : decode cX5_gainOfSwap 14 = .ok (.iadd, 1) := by decide +kernel
theorem dX5_gainOfSwap_15 : decode cX5_gainOfSwap 15 = .ok (.invokevirtual 252, 3) := by decide +kernel
theorem dX5_gainOfSwap_18 : decode cX5_gainOfSwap 18 = .ok (.istore 5, 2) := by decide +kernel
theorem dX5_gainOfSwap_20 : decode cX5_gainOfSwap 20 = .ok (.aload_n 1, 1) := by decide +kernel
theorem dX5_gainOfSwap_21 : decode cX5_gainOfSwap 21 = .ok (.iconst 2, 1) := by decide +kernel
theorem dX5_gainOfSwap_22 : decode cX5_gainOfSwap 22 = .ok (.iload_n 3, 1) := by decide +kernel
theorem dX5_gainOfSwap_23 : decode cX5_gainOfSwap 23 = .ok (.imul, 1) := by decide +kernel
theorem dX5_gainOfSwap_24 : decode cX5_gainOfSwap 24 = .ok (.invokevirtual 252, 3) := by decide +kernel
theorem dX5_gainOfSwap_27 : decode cX5_gainOfSwap 27 = .ok (.istore 6, 2) := by decide +kernel
theorem dX5_gainOfSwap_29 : decode cX5_gainOfSwap 29 = .ok (.aload_n 1, 1) := by decide +kernel
theorem dX5_gainOfSwap_30 : decode cX5_gainOfSwap 30 = .ok (.iconst 2, 1) := by decide +kernel
theorem dX5_gainOfSwap_31 : decode cX5_gainOfSwap 31 = .ok (.iload_n 3, 1) := by decide +kernel
theorem dX5_gainOfSwap_32 : decode cX5_gainOfSwap 32 = .ok (.imul, 1) := by decide +kernel
theorem dX5_gainOfSwap_33 : decode cX5_gainOfSwap 33 = .ok (.iconst 1, 1) := by decide +kernel
theorem dX5_gainOfSwap_34 : decode cX5_gainOfSwap 34 = .ok (.iadd, 1) := by decide +kernel
theorem dX5_gainOfSwap_35 : decode cX5_gainOfSwap 35 = .ok (.invokevirtual 252, 3) := by decide +kernel
theorem dX5_gainOfSwap_38 : decode cX5_gainOfSwap 38 = .ok (.istore 7, 2) := by decide +kernel
theorem dX5_gainOfSwap_40 : decode cX5_gainOfSwap 40 = .ok (.aload_n 0, 1) := by decide +kernel
theorem dX5_gainOfSwap_41 : decode cX5_gainOfSwap 41 = .ok (.getfield 18, 3) := by decide +kernel
theorem dX5_gainOfSwap_44 : decode cX5_gainOfSwap 44 = .ok (.iload 4, 2) := by decide +kernel
theorem dX5_gainOfSwap_46 : decode cX5_gainOfSwap 46 = .ok (.iload 5, 2) := by decide +kernel
theorem dX5_gainOfSwap_48 : decode cX5_gainOfSwap 48 = .ok (.invokevirtual 136, 3) := by decide +kernel
theorem dX5_gainOfSwap_51 : decode cX5_gainOfSwap 51 = .ok (.aload_n 0, 1) := by decide +kernel
theorem dX5_gainOfSwap_52 : decode cX5_gainOfSwap 52 = .ok (.getfield 18, 3) := by decide +kernel
theorem dX5_gainOfSwap_55 : decode cX5_gainOfSwap 55 = .ok (.iload 6, 2) := by decide +kernel
theorem dX5_gainOfSwap_57 : decode cX5_gainOfSwap 57 = .ok (.iload 7, 2) := by decide +kernel
theorem dX5_gainOfSwap_59 : decode cX5_gainOfSwap 59 = .ok (.invokevirtual 136, 3) := by decide +kernel
theorem dX5_gainOfSwap_62 : decode cX5_gainOfSwap 62 = .ok (.iadd, 1) := by decide +kernel
theorem dX5_gainOfSwap_63 : decode cX5_gainOfSwap 63 = .ok (.istore 8, 2) := by decide +kernel
theorem dX5_gainOfSwap_65 : decode cX5_gainOfSwap 65 = .ok (.aload_n 0, 1) := by decide +kernel
theorem dX5_gainOfSwap_66 : decode cX5_gainOfSwap 66 = .ok (.getfield 18, 3) := by decide +kernel
theorem dX5_gainOfSwap_69 : decode cX5_gainOfSwap 69 = .ok (.iload 4, 2) := by decide +kernel
theorem dX5_gainOfSwap_71 : decode cX5_gainOfSwap 71 = .ok (.iload 7, 2) := by decide +kernel
theorem dX5_gainOfSwap_73 : decode cX5_gainOfSwap 73 = .ok (.invokevirtual 136, 3) := by decide +kernel
theorem dX5_gainOfSwap_76 : decode cX5_gainOfSwap 76 = .ok (.aload_n 0, 1) := by decide +kernel
theorem dX5_gainOfSwap_77 : decode cX5_gainOfSwap 77 = .ok (.getfield 18, 3) := by decide +kernel
theorem dX5_gainOfSwap_80 : decode cX5_gainOfSwap 80 = .ok (.iload 6, 2) := by decide +kernel
theorem dX5_gainOfSwap_82 : decode cX5_gainOfSwap 82 = .ok (.iload 5, 2) := by decide +kernel
theorem dX5_gainOfSwap_84 : decode cX5_gainOfSwap 84 = .ok (.invokevirtual 136, 3) := by decide +kernel
theorem dX5_gainOfSwap_87 : decode cX5_gainOfSwap 87 = .ok (.iadd, 1) := by decide +kernel
theorem dX5_gainOfSwap_88 : decode cX5_gainOfSwap 88 = .ok (.iload 8, 2) := by decide +kernel
theorem dX5_gainOfSwap_90 : decode cX5_gainOfSwap 90 = .ok (.isub, 1) := by decide +kernel
theorem dX5_gainOfSwap_91 : decode cX5_gainOfSwap 91 = .ok (.ireturn, 1) := by decide +kernel
theorem dX5_hungerFellSo_0 : decode cX5_hungerFellSo 0 = .ok (.iload_n 1, 1) := by decide +kernel
theorem dX5_hungerFellSo_1 : decode cX5_hungerFellSo 1 = .ok (.istore_n 3, 1) := by decide +kernel
theorem dX5_hungerFellSo_2 : decode cX5_hungerFellSo 2 = .ok (.iconst 0, 1) := by decide +kernel
theorem dX5_hungerFellSo_3 : decode cX5_hungerFellSo 3 = .ok (.istore 4, 2) := by decide +kernel
theorem dX5_hungerFellSo_5 : decode cX5_hungerFellSo 5 = .ok (.iload 4, 2) := by decide +kernel
theorem dX5_hungerFellSo_7 : decode cX5_hungerFellSo 7 = .ok (.aload_n 0, 1) := by decide +kernel
theorem dX5_hungerFellSo_8 : decode cX5_hungerFellSo 8 = .ok (.getfield 207, 3) := by decide +kernel
theorem dX5_hungerFellSo_11 : decode cX5_hungerFellSo 11 = .ok (.if_icmp .ge 34, 3) := by decide +kernel
theorem dX5_hungerFellSo_14 : decode cX5_hungerFellSo 14 = .ok (.iload_n 2, 1) := by decide +kernel
theorem dX5_hungerFellSo_15 : decode cX5_hungerFellSo 15 = .ok (.iload_n 3, 1) := by decide +kernel
theorem dX5_hungerFellSo_16 : decode cX5_hungerFellSo 16 = .ok (.invokestatic 198, 3) := by decide +kernel
theorem dX5_hungerFellSo_19 : decode cX5_hungerFellSo 19 = .ok (.istore 5, 2) := by decide +kernel
theorem dX5_hungerFellSo_21 : decode cX5_hungerFellSo 21 = .ok (.aload_n 0, 1) := by decide +kernel
theorem dX5_hungerFellSo_22 : decode cX5_hungerFellSo 22 = .ok (.iload 4, 2) := by decide +kernel
theorem dX5_hungerFellSo_24 : decode cX5_hungerFellSo 24 = .ok (.invokevirtual 252, 3) := by decide +kernel
theorem dX5_hungerFellSo_27 : decode cX5_hungerFellSo 27 = .ok (.iload 5, 2) := by decide +kernel
theorem dX5_hungerFellSo_29 : decode cX5_hungerFellSo 29 = .ok (.if_icmp .eq 5, 3) := by decide +kernel
theorem dX5_hungerFellSo_32 : decode cX5_hungerFellSo 32 = .ok (.iconst 0, 1) := by decide +kernel
theorem dX5_hungerFellSo_33 : decode cX5_hungerFellSo 33 = .ok (.ireturn, 1) := by decide +kernel
theorem dX5_hungerFellSo_34 : decode cX5_hungerFellSo 34 = .ok (.iload_n 3, 1) := by decide +kernel
theorem dX5_hungerFellSo_35 : decode cX5_hungerFellSo 35 = .ok (.iload 5, 2) := by decide +kernel
theorem dX5_hungerFellSo_37 : decode cX5_hungerFellSo 37 = .ok (.isub, 1) := by decide +kernel
theorem dX5_hungerFellSo_38 : decode cX5_hungerFellSo 38 = .ok (.istore_n 3, 1) := by decide +kernel
theorem dX5_hungerFellSo_39 : decode cX5_hungerFellSo 39 = .ok (.iinc 4 1, 3) := by decide +kernel
theorem dX5_hungerFellSo_42 : decode cX5_hungerFellSo 42 = .ok (.goto (-37), 3) := by decide +kernel
theorem dX5_hungerFellSo_45 : decode cX5_hungerFellSo 45 = .ok (.iconst 1, 1) := by decide +kernel
theorem dX5_hungerFellSo_46 : decode cX5_hungerFellSo 46 = .ok (.ireturn, 1) := by decide +kernel
theorem dX5_shareOf_0 : decode cX5_shareOf 0 = .ok (.aload_n 0, 1) := by decide +kernel
theorem dX5_shareOf_1 : decode cX5_shareOf 1 = .ok (.getfield 18, 3) := by decide +kernel
theorem dX5_shareOf_4 : decode cX5_shareOf 4 = .ok (.invokevirtual 175, 3) := by decide +kernel
theorem dX5_shareOf_7 : decode cX5_shareOf 7 = .ok (.istore_n 2, 1) := by decide +kernel
theorem dX5_shareOf_8 : decode cX5_shareOf 8 = .ok (.iload_n 2, 1) := by decide +kernel
theorem dX5_shareOf_9 : decode cX5_shareOf 9 = .ok (.ifCond .le 39, 3) := by decide +kernel
theorem dX5_shareOf_12 : decode cX5_shareOf 12 = .ok (.aload_n 0, 1) := by decide +kernel
theorem dX5_shareOf_13 : decode cX5_shareOf 13 = .ok (.getfield 18, 3) := by decide +kernel
theorem dX5_shareOf_16 : decode cX5_shareOf 16 = .ok (.iload_n 1, 1) := by decide +kernel
theorem dX5_shareOf_17 : decode cX5_shareOf 17 = .ok (.invokevirtual 51, 3) := by decide +kernel
theorem dX5_shareOf_20 : decode cX5_shareOf 20 = .ok (.ifCond .eq 28, 3) := by decide +kernel
theorem dX5_shareOf_23 : decode cX5_shareOf 23 = .ok (.aload_n 0, 1) := by decide +kernel
theorem dX5_shareOf_24 : decode cX5_shareOf 24 = .ok (.getfield 18, 3) := by decide +kernel
theorem dX5_shareOf_27 : decode cX5_shareOf 27 = .ok (.getfield 119, 3) := by decide +kernel
theorem dX5_shareOf_30 : decode cX5_shareOf 30 = .ok (.aload_n 0, 1) := by decide +kernel
theorem dX5_shareOf_31 : decode cX5_shareOf 31 = .ok (.getfield 18, 3) := by decide +kernel
theorem dX5_shareOf_34 : decode cX5_shareOf 34 = .ok (.getfield 55, 3) := by decide +kernel
theorem dX5_shareOf_37 : decode cX5_shareOf 37 = .ok (.iload_n 1, 1) := by decide +kernel
theorem dX5_shareOf_38 : decode cX5_shareOf 38 = .ok (.aaload, 1) := by decide +kernel
theorem dX5_shareOf_39 : decode cX5_shareOf 39 = .ok (.getfield 73, 3) := by decide +kernel
theorem dX5_shareOf_42 : decode cX5_shareOf 42 = .ok (.imul, 1) := by decide +kernel
theorem dX5_shareOf_43 : decode cX5_shareOf 43 = .ok (.iload_n 2, 1) := by decide +kernel
theorem dX5_shareOf_44 : decode cX5_shareOf 44 = .ok (.idiv, 1) := by decide +kernel
theorem dX5_shareOf_45 : decode cX5_shareOf 45 = .ok (.goto 4, 3) := by decide +kernel
theorem dX5_shareOf_48 : decode cX5_shareOf 48 = .ok (.iconst 0, 1) := by decide +kernel
theorem dX5_shareOf_49 : decode cX5_shareOf 49 = .ok (.ireturn, 1) := by decide +kernel
theorem dX5_canEatWatchedFromOutside_0 : decode cX5_canEatWatchedFromOutside 0 = .ok (.iconst 0, 1) := by decide +kernel
theorem dX5_canEatWatchedFromOutside_1 : decode cX5_canEatWatchedFromOutside 1 = .ok (.istore_n 3, 1) := by decide +kernel
theorem dX5_canEatWatchedFromOutside_2 : decode cX5_canEatWatchedFromOutside 2 = .ok (.iload_n 3, 1) := by decide +kernel
theorem dX5_canEatWatchedFromOutside_3 : decode cX5_canEatWatchedFromOutside 3 = .ok (.aload_n 0, 1) := by decide +kernel
theorem dX5_canEatWatchedFromOutside_4 : decode cX5_canEatWatchedFromOutside 4 = .ok (.getfield 18, 3) := by decide +kernel
theorem dX5_canEatWatchedFromOutside_7 : decode cX5_canEatWatchedFromOutside 7 = .ok (.getfield 103, 3) := by decide +kernel
theorem dX5_canEatWatchedFromOutside_10 : decode cX5_canEatWatchedFromOutside 10 = .ok (.if_icmp .ge 31, 3) := by decide +kernel
theorem dX5_canEatWatchedFromOutside_13 : decode cX5_canEatWatchedFromOutside 13 = .ok (.iload_n 2, 1) := by decide +kernel
theorem dX5_canEatWatchedFromOutside_14 : decode cX5_canEatWatchedFromOutside 14 = .ok (.iload_n 3, 1) := by decide +kernel
theorem dX5_canEatWatchedFromOutside_15 : decode cX5_canEatWatchedFromOutside 15 = .ok (.ishr, 1) := by decide +kernel
theorem dX5_canEatWatchedFromOutside_16 : decode cX5_canEatWatchedFromOutside 16 = .ok (.iconst 1, 1) := by decide +kernel
theorem dX5_canEatWatchedFromOutside_17 : decode cX5_canEatWatchedFromOutside 17 = .ok (.iand, 1) := by decide +kernel
theorem dX5_canEatWatchedFromOutside_18 : decode cX5_canEatWatchedFromOutside 18 = .ok (.ifCond .ne 17, 3) := by decide +kernel
theorem dX5_canEatWatchedFromOutside_21 : decode cX5_canEatWatchedFromOutside 21 = .ok (.aload_n 0, 1) := by decide +kernel
theorem dX5_canEatWatchedFromOutside_22 : decode cX5_canEatWatchedFromOutside 22 = .ok (.getfield 18, 3) := by decide +kernel
theorem dX5_canEatWatchedFromOutside_25 : decode cX5_canEatWatchedFromOutside 25 = .ok (.iload_n 1, 1) := by decide +kernel
theorem dX5_canEatWatchedFromOutside_26 : decode cX5_canEatWatchedFromOutside 26 = .ok (.iload_n 3, 1) := by decide +kernel
theorem dX5_canEatWatchedFromOutside_27 : decode cX5_canEatWatchedFromOutside 27 = .ok (.invokevirtual 133, 3) := by decide +kernel
theorem dX5_canEatWatchedFromOutside_30 : decode cX5_canEatWatchedFromOutside 30 = .ok (.ifCond .eq 5, 3) := by decide +kernel
theorem dX5_canEatWatchedFromOutside_33 : decode cX5_canEatWatchedFromOutside 33 = .ok (.iconst 1, 1) := by decide +kernel
theorem dX5_canEatWatchedFromOutside_34 : decode cX5_canEatWatchedFromOutside 34 = .ok (.ireturn, 1) := by decide +kernel
theorem dX5_canEatWatchedFromOutside_35 : decode cX5_canEatWatchedFromOutside 35 = .ok (.iinc 3 1, 3) := by decide +kernel
theorem dX5_canEatWatchedFromOutside_38 : decode cX5_canEatWatchedFromOutside 38 = .ok (.goto (-36), 3) := by decide +kernel
theorem dX5_canEatWatchedFromOutside_41 : decode cX5_canEatWatchedFromOutside 41 = .ok (.iconst 0, 1) := by decide +kernel
theorem dX5_canEatWatchedFromOutside_42 : decode cX5_canEatWatchedFromOutside 42 = .ok (.ireturn, 1) := by decide +kernel
theorem dX5_choices_0 : decode cX5_choices 0 = .ok (.lconst 1, 1) := by decide +kernel
theorem dX5_choices_1 : decode cX5_choices 1 = .ok (.lstore_n 2, 1) := by decide +kernel
theorem dX5_choices_2 : decode cX5_choices 2 = .ok (.iconst 1, 1) := by decide +kernel
theorem dX5_choices_3 : decode cX5_choices 3 = .ok (.istore 4, 2) := by decide +kernel
theorem dX5_choices_5 : decode cX5_choices 5 = .ok (.iload 4, 2) := by decide +kernel
theorem dX5_choices_7 : decode cX5_choices 7 = .ok (.iload_n 1, 1) := by decide +kernel
theorem dX5_choices_8 : decode cX5_choices 8 = .ok (.if_icmp .gt 23, 3) := by decide +kernel
theorem dX5_choices_11 : decode cX5_choices 11 = .ok (.lload_n 2, 1) := by decide +kernel
theorem dX5_choices_12 : decode cX5_choices 12 = .ok (.iload_n 0, 1) := by decide +kernel
theorem dX5_choices_13 : decode cX5_choices 13 = .ok (.iload_n 1, 1) := by decide +kernel
theorem dX5_choices_14 : decode cX5_choices 14 = .ok (.isub, 1) := by decide +kernel
theorem dX5_choices_15 : decode cX5_choices 15 = .ok (.iload 4, 2) := by decide +kernel
theorem dX5_choices_17 : decode cX5_choices 17 = .ok (.iadd, 1) := by decide +kernel
theorem dX5_choices_18 : decode cX5_choices 18 = .ok (.i2l, 1) := by decide +kernel
theorem dX5_choices_19 : decode cX5_choices 19 = .ok (.lmul, 1) := by decide +kernel
theorem dX5_choices_20 : decode cX5_choices 20 = .ok (.iload 4, 2) := by decide +kernel
theorem dX5_choices_22 : decode cX5_choices 22 = .ok (.i2l, 1) := by decide +kernel
theorem dX5_choices_23 : decode cX5_choices 23 = .ok (.ldiv, 1) := by decide +kernel
theorem dX5_choices_24 : decode cX5_choices 24 = .ok (.lstore_n 2, 1) := by decide +kernel
theorem dX5_choices_25 : decode cX5_choices 25 = .ok (.iinc 4 1, 3) := by decide +kernel
theorem dX5_choices_28 : decode cX5_choices 28 = .ok (.goto (-23), 3) := by decide +kernel
theorem dX5_choices_31 : decode cX5_choices 31 = .ok (.lload_n 2, 1) := by decide +kernel
theorem dX5_choices_32 : decode cX5_choices 32 = .ok (.lreturn, 1) := by decide +kernel
theorem dX5_power_0 : decode cX5_power 0 = .ok (.lconst 1, 1) := by decide +kernel
theorem dX5_power_1 : decode cX5_power 1 = .ok (.lstore_n 2, 1) := by decide +kernel
theorem dX5_power_2 : decode cX5_power 2 = .ok (.iconst 0, 1) := by decide +kernel
theorem dX5_power_3 : decode cX5_power 3 = .ok (.istore 4, 2) := by decide +kernel
theorem dX5_power_5 : decode cX5_power 5 = .ok (.iload 4, 2) := by decide +kernel
theorem dX5_power_7 : decode cX5_power 7 = .ok (.iload_n 1, 1) := by decide +kernel
theorem dX5_power_8 : decode cX5_power 8 = .ok (.if_icmp .ge 14, 3) := by decide +kernel
theorem dX5_power_11 : decode cX5_power 11 = .ok (.lload_n 2, 1) := by decide +kernel
theorem dX5_power_12 : decode cX5_power 12 = .ok (.iload_n 0, 1) := by decide +kernel
theorem dX5_power_13 : decode cX5_power 13 = .ok (.i2l, 1) := by decide +kernel
theorem dX5_power_14 : decode cX5_power 14 = .ok (.lmul, 1) := by decide +kernel
theorem dX5_power_15 : decode cX5_power 15 = .ok (.lstore_n 2, 1) := by decide +kernel
theorem dX5_power_16 : decode cX5_power 16 = .ok (.iinc 4 1, 3) := by decide +kernel
theorem dX5_power_19 : decode cX5_power 19 = .ok (.goto (-14), 3) := by decide +kernel
theorem dX5_power_22 : decode cX5_power 22 = .ok (.lload_n 2, 1) := by decide +kernel
theorem dX5_power_23 : decode cX5_power 23 = .ok (.lreturn, 1) := by decide +kernel
theorem dX5_partInLeastTerms_0 : decode cX5_partInLeastTerms 0 = .ok (.lload_n 0, 1) := by decide +kernel
theorem dX5_partInLeastTerms_1 : decode cX5_partInLeastTerms 1 = .ok (.lload_n 2, 1) := by decide +kernel
theorem dX5_partInLeastTerms_2 : decode cX5_partInLeastTerms 2 = .ok (.invokestatic 374, 3) := by decide +kernel
theorem dX5_partInLeastTerms_5 : decode cX5_partInLeastTerms 5 = .ok (.lconst 1, 1) := by decide +kernel
theorem dX5_partInLeastTerms_6 : decode cX5_partInLeastTerms 6 = .ok (.invokestatic 378, 3) := by decide +kernel
theorem dX5_partInLeastTerms_9 : decode cX5_partInLeastTerms 9 = .ok (.lstore 5, 2) := by decide +kernel
theorem dX5_partInLeastTerms_11 : decode cX5_partInLeastTerms 11 = .ok (.iload 4, 2) := by decide +kernel
theorem dX5_partInLeastTerms_13 : decode cX5_partInLeastTerms 13 = .ok (.ifCond .ne 7, 3) := by decide +kernel
theorem dX5_partInLeastTerms_16 : decode cX5_partInLeastTerms 16 = .ok (.lload_n 0, 1) := by decide +kernel
theorem dX5_partInLeastTerms_17 : decode cX5_partInLeastTerms 17 = .ok (.goto 4, 3) := by decide +kernel
theorem dX5_partInLeastTerms_20 : decode cX5_partInLeastTerms 20 = .ok (.lload_n 2, 1) := by decide +kernel
theorem dX5_partInLeastTerms_21 : decode cX5_partInLeastTerms 21 = .ok (.lload 5, 2) := by decide +kernel
theorem dX5_partInLeastTerms_23 : decode cX5_partInLeastTerms 23 = .ok (.ldiv, 1) := by decide +kernel
theorem dX5_partInLeastTerms_24 : decode cX5_partInLeastTerms 24 = .ok (.lreturn, 1) := by decide +kernel
theorem dX5_commonDivisor_0 : decode cX5_commonDivisor 0 = .ok (.lload_n 0, 1) := by decide +kernel
theorem dX5_commonDivisor_1 : decode cX5_commonDivisor 1 = .ok (.lstore 4, 2) := by decide +kernel
theorem dX5_commonDivisor_3 : decode cX5_commonDivisor 3 = .ok (.lload_n 2, 1) := by decide +kernel
theorem dX5_commonDivisor_4 : decode cX5_commonDivisor 4 = .ok (.lstore 6, 2) := by decide +kernel
theorem dX5_commonDivisor_6 : decode cX5_commonDivisor 6 = .ok (.iconst 0, 1) := by decide +kernel
theorem dX5_commonDivisor_7 : decode cX5_commonDivisor 7 = .ok (.istore 8, 2) := by decide +kernel
theorem dX5_commonDivisor_9 : decode cX5_commonDivisor 9 = .ok (.iload 8, 2) := by decide +kernel
theorem dX5_commonDivisor_11 : decode cX5_commonDivisor 11 = .ok (.bipush 100, 2) := by decide +kernel
theorem dX5_commonDivisor_13 : decode cX5_commonDivisor 13 = .ok (.if_icmp .ge 31, 3) := by decide +kernel
theorem dX5_commonDivisor_16 : decode cX5_commonDivisor 16 = .ok (.lload 6, 2) := by decide +kernel
theorem dX5_commonDivisor_18 : decode cX5_commonDivisor 18 = .ok (.lconst 0, 1) := by decide +kernel
theorem dX5_commonDivisor_19 : decode cX5_commonDivisor 19 = .ok (.lcmp, 1) := by decide +kernel
theorem dX5_commonDivisor_20 : decode cX5_commonDivisor 20 = .ok (.ifCond .eq 24, 3) := by decide +kernel
theorem dX5_commonDivisor_23 : decode cX5_commonDivisor 23 = .ok (.lload 4, 2) := by decide +kernel
theorem dX5_commonDivisor_25 : decode cX5_commonDivisor 25 = .ok (.lload 6, 2) := by decide +kernel
theorem dX5_commonDivisor_27 : decode cX5_commonDivisor 27 = .ok (.lrem, 1) := by decide +kernel
theorem dX5_commonDivisor_28 : decode cX5_commonDivisor 28 = .ok (.lstore 9, 2) := by decide +kernel
theorem dX5_commonDivisor_30 : decode cX5_commonDivisor 30 = .ok (.lload 6, 2) := by decide +kernel
theorem dX5_commonDivisor_32 : decode cX5_commonDivisor 32 = .ok (.lstore 4, 2) := by decide +kernel
theorem dX5_commonDivisor_34 : decode cX5_commonDivisor 34 = .ok (.lload 9, 2) := by decide +kernel
theorem dX5_commonDivisor_36 : decode cX5_commonDivisor 36 = .ok (.lstore 6, 2) := by decide +kernel
theorem dX5_commonDivisor_38 : decode cX5_commonDivisor 38 = .ok (.iinc 8 1, 3) := by decide +kernel
theorem dX5_commonDivisor_41 : decode cX5_commonDivisor 41 = .ok (.goto (-32), 3) := by decide +kernel
theorem dX5_commonDivisor_44 : decode cX5_commonDivisor 44 = .ok (.lload 4, 2) := by decide +kernel
theorem dX5_commonDivisor_46 : decode cX5_commonDivisor 46 = .ok (.lreturn, 1) := by decide +kernel
theorem dX5_nextSeed_0 : decode cX5_nextSeed 0 = .ok (.iload_n 0, 1) := by decide +kernel
theorem dX5_nextSeed_1 : decode cX5_nextSeed 1 = .ok (.ldc_w 380, 3) := by decide +kernel
theorem dX5_nextSeed_4 : decode cX5_nextSeed 4 = .ok (.imul, 1) := by decide +kernel
theorem dX5_nextSeed_5 : decode cX5_nextSeed 5 = .ok (.sipush 12345, 3) := by decide +kernel
theorem dX5_nextSeed_8 : decode cX5_nextSeed 8 = .ok (.iadd, 1) := by decide +kernel
theorem dX5_nextSeed_9 : decode cX5_nextSeed 9 = .ok (.ireturn, 1) := by decide +kernel
theorem dX5_drawn_0 : decode cX5_drawn 0 = .ok (.iload_n 1, 1) := by decide +kernel
theorem dX5_drawn_1 : decode cX5_drawn 1 = .ok (.ifCond .le 17, 3) := by decide +kernel
theorem dX5_drawn_4 : decode cX5_drawn 4 = .ok (.iload_n 0, 1) := by decide +kernel
theorem dX5_drawn_5 : decode cX5_drawn 5 = .ok (.ldc_w 381, 3) := by decide +kernel
theorem dX5_drawn_8 : decode cX5_drawn 8 = .ok (.iand, 1) := by decide +kernel
theorem dX5_drawn_9 : decode cX5_drawn 9 = .ok (.ldc_w 382, 3) := by decide +kernel
theorem dX5_drawn_12 : decode cX5_drawn 12 = .ok (.idiv, 1) := by decide +kernel
theorem dX5_drawn_13 : decode cX5_drawn 13 = .ok (.iload_n 1, 1) := by decide +kernel
theorem dX5_drawn_14 : decode cX5_drawn 14 = .ok (.irem, 1) := by decide +kernel
theorem dX5_drawn_15 : decode cX5_drawn 15 = .ok (.goto 4, 3) := by decide +kernel
theorem dX5_drawn_18 : decode cX5_drawn 18 = .ok (.iconst 0, 1) := by decide +kernel
theorem dX5_drawn_19 : decode cX5_drawn 19 = .ok (.ireturn, 1) := by decide +kernel
