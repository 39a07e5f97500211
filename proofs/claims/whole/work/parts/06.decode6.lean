theorem dX6_init_0 : decode cX6_init 0 = .ok (.aload_n 0, 1) := by decide +kernel
theorem dX6_init_1 : decode cX6_init 1 = .ok (.invokespecial 1, 3) := by decide +kernel
theorem dX6_init_4 : decode cX6_init 4 = .ok (.aload_n 0, 1) := by decide +kernel
theorem dX6_init_5 : decode cX6_init 5 = .ok (.bipush 57, 2) := by decide +kernel
theorem dX6_init_7 : decode cX6_init 7 = .ok (.newarray .int, 2) := by decide +kernel
theorem dX6_init_9 : decode cX6_init 9 = .ok (.putfield 9, 3) := by decide +kernel
theorem dX6_init_12 : decode cX6_init 12 = .ok (.aload_n 0, 1) := by decide +kernel
theorem dX6_init_13 : decode cX6_init 13 = .ok (.bipush 57, 2) := by decide +kernel
theorem dX6_init_15 : decode cX6_init 15 = .ok (.newarray .int, 2) := by decide +kernel
theorem dX6_init_17 : decode cX6_init 17 = .ok (.putfield 13, 3) := by decide +kernel
theorem dX6_init_20 : decode cX6_init 20 = .ok (.aload_n 0, 1) := by decide +kernel
theorem dX6_init_21 : decode cX6_init 21 = .ok (.bipush 57, 2) := by decide +kernel
theorem dX6_init_23 : decode cX6_init 23 = .ok (.newarray .int, 2) := by decide +kernel
theorem dX6_init_25 : decode cX6_init 25 = .ok (.putfield 16, 3) := by decide +kernel
theorem dX6_init_28 : decode cX6_init 28 = .ok (.aload_n 0, 1) := by decide +kernel
theorem dX6_init_29 : decode cX6_init 29 = .ok (.bipush 57, 2) := by decide +kernel
theorem dX6_init_31 : decode cX6_init 31 = .ok (.newarray .int, 2) := by decide +kernel
theorem dX6_init_33 : decode cX6_init 33 = .ok (.putfield 19, 3) := by decide +kernel
theorem dX6_init_36 : decode cX6_init 36 = .ok (.aload_n 0, 1) := by decide +kernel
theorem dX6_init_37 : decode cX6_init 37 = .ok (.iconst 4, 1) := by decide +kernel
theorem dX6_init_38 : decode cX6_init 38 = .ok (.newarray .int, 2) := by decide +kernel
theorem dX6_init_40 : decode cX6_init 40 = .ok (.putfield 22, 3) := by decide +kernel
theorem dX6_init_43 : decode cX6_init 43 = .ok (.aload_n 0, 1) := by decide +kernel
theorem dX6_init_44 : decode cX6_init 44 = .ok (.bipush 8, 2) := by decide +kernel
theorem dX6_init_46 : decode cX6_init 46 = .ok (.newarray .int, 2) := by decide +kernel
theorem dX6_init_48 : decode cX6_init 48 = .ok (.putfield 25, 3) := by decide +kernel
theorem dX6_init_51 : decode cX6_init 51 = .ok (.aload_n 0, 1) := by decide +kernel
theorem dX6_init_52 : decode cX6_init 52 = .ok (.bipush 8, 2) := by decide +kernel
theorem dX6_init_54 : decode cX6_init 54 = .ok (.newarray .int, 2) := by decide +kernel
theorem dX6_init_56 : decode cX6_init 56 = .ok (.putfield 28, 3) := by decide +kernel
theorem dX6_init_59 : decode cX6_init 59 = .ok (.aload_n 0, 1) := by decide +kernel
theorem dX6_init_60 : decode cX6_init 60 = .ok (.bipush 8, 2) := by decide +kernel
theorem dX6_init_62 : decode cX6_init 62 = .ok (.newarray .int, 2) := by decide +kernel
theorem dX6_init_64 : decode cX6_init 64 = .ok (.putfield 31, 3) := by decide +kernel
theorem dX6_init_67 : decode cX6_init 67 = .ok (.aload_n 0, 1) := by decide +kernel
theorem dX6_init_68 : decode cX6_init 68 = .ok (.bipush 8, 2) := by decide +kernel
theorem dX6_init_70 : decode cX6_init 70 = .ok (.newarray .int, 2) := by decide +kernel
theorem dX6_init_72 : decode cX6_init 72 = .ok (.putfield 34, 3) := by decide +kernel
theorem dX6_init_75 : decode cX6_init 75 = .ok (.aload_n 0, 1) := by decide +kernel
theorem dX6_init_76 : decode cX6_init 76 = .ok (.bipush 8, 2) := by decide +kernel
theorem dX6_init_78 : decode cX6_init 78 = .ok (.newarray .int, 2) := by decide +kernel
theorem dX6_init_80 : decode cX6_init 80 = .ok (.putfield 37, 3) := by decide +kernel
theorem dX6_init_83 : decode cX6_init 83 = .ok (.aload_n 0, 1) := by decide +kernel
theorem dX6_init_84 : decode cX6_init 84 = .ok (.bipush 8, 2) := by decide +kernel
theorem dX6_init_86 : decode cX6_init 86 = .ok (.newarray .int, 2) := by decide +kernel
theorem dX6_init_88 : decode cX6_init 88 = .ok (.putfield 40, 3) := by decide +kernel
theorem dX6_init_91 : decode cX6_init 91 = .ok (.aload_n 0, 1) := by decide +kernel
theorem dX6_init_92 : decode cX6_init 92 = .ok (.bipush 8, 2) := by decide +kernel
theorem dX6_init_94 : decode cX6_init 94 = .ok (.newarray .int, 2) := by decide +kernel
theorem dX6_init_96 : decode cX6_init 96 = .ok (.putfield 43, 3) := by decide +kernel
theorem dX6_init_99 : decode cX6_init 99 = .ok (.aload_n 0, 1) := by decide +kernel
theorem dX6_init_100 : decode cX6_init 100 = .ok (.sipush 800, 3) := by decide +kernel
theorem dX6_init_103 : decode cX6_init 103 = .ok (.newarray .int, 2) := by decide +kernel
theorem dX6_init_105 : decode cX6_init 105 = .ok (.putfield 46, 3) := by decide +kernel
theorem dX6_init_108 : decode cX6_init 108 = .ok (.return_, 1) := by decide +kernel
theorem dX6_isIn_0 : decode cX6_isIn 0 = .ok (.iload_n 0, 1) := by decide +kernel
theorem dX6_isIn_1 : decode cX6_isIn 1 = .ok (.iload_n 1, 1) := by decide +kernel
theorem dX6_isIn_2 : decode cX6_isIn 2 = .ok (.if_icmp .lt 12, 3) := by decide +kernel
theorem dX6_isIn_5 : decode cX6_isIn 5 = .ok (.iload_n 0, 1) := by decide +kernel
theorem dX6_isIn_6 : decode cX6_isIn 6 = .ok (.iload_n 2, 1) := by decide +kernel
theorem dX6_isIn_7 : decode cX6_isIn 7 = .ok (.if_icmp .gt 7, 3) := by decide +kernel
theorem dX6_isIn_10 : decode cX6_isIn 10 = .ok (.iconst 1, 1) := by decide +kernel
theorem dX6_isIn_11 : decode cX6_isIn 11 = .ok (.goto 4, 3) := by decide +kernel
theorem dX6_isIn_14 : decode cX6_isIn 14 = .ok (.iconst 0, 1) := by decide +kernel
theorem dX6_isIn_15 : decode cX6_isIn 15 = .ok (.ireturn, 1) := by decide +kernel
theorem dX6_least_0 : decode cX6_least 0 = .ok (.iload_n 0, 1) := by decide +kernel
theorem dX6_least_1 : decode cX6_least 1 = .ok (.iload_n 1, 1) := by decide +kernel
theorem dX6_least_2 : decode cX6_least 2 = .ok (.if_icmp .ge 7, 3) := by decide +kernel
theorem dX6_least_5 : decode cX6_least 5 = .ok (.iload_n 0, 1) := by decide +kernel
theorem dX6_least_6 : decode cX6_least 6 = .ok (.goto 4, 3) := by decide +kernel
theorem dX6_least_9 : decode cX6_least 9 = .ok (.iload_n 1, 1) := by decide +kernel
theorem dX6_least_10 : decode cX6_least 10 = .ok (.ireturn, 1) := by decide +kernel
theorem dX6_most_0 : decode cX6_most 0 = .ok (.iload_n 0, 1) := by decide +kernel
theorem dX6_most_1 : decode cX6_most 1 = .ok (.iload_n 1, 1) := by decide +kernel
theorem dX6_most_2 : decode cX6_most 2 = .ok (.if_icmp .le 7, 3) := by decide +kernel
theorem dX6_most_5 : decode cX6_most 5 = .ok (.iload_n 0, 1) := by decide +kernel
theorem dX6_most_6 : decode cX6_most 6 = .ok (.goto 4, 3) := by decide +kernel
theorem dX6_most_9 : decode cX6_most 9 = .ok (.iload_n 1, 1) := by decide +kernel
theorem dX6_most_10 : decode cX6_most 10 = .ok (.ireturn, 1) := by decide +kernel
theorem dX6_copies_0 : decode cX6_copies 0 = .ok (.iconst 0, 1) := by decide +kernel
theorem dX6_copies_1 : decode cX6_copies 1 = .ok (.istore_n 2, 1) := by decide +kernel
theorem dX6_copies_2 : decode cX6_copies 2 = .ok (.iload_n 2, 1) := by decide +kernel
theorem dX6_copies_3 : decode cX6_copies 3 = .ok (.bipush 57, 2) := by decide +kernel
theorem dX6_copies_5 : decode cX6_copies 5 = .ok (.if_icmp .ge 15, 3) := by decide +kernel
theorem dX6_copies_8 : decode cX6_copies 8 = .ok (.aload_n 1, 1) := by decide +kernel
theorem dX6_copies_9 : decode cX6_copies 9 = .ok (.iload_n 2, 1) := by decide +kernel
theorem dX6_copies_10 : decode cX6_copies 10 = .ok (.aload_n 0, 1) := by decide +kernel
theorem dX6_copies_11 : decode cX6_copies 11 = .ok (.iload_n 2, 1) := by decide +kernel
theorem dX6_copies_12 : decode cX6_copies 12 = .ok (.iaload, 1) := by decide +kernel
theorem dX6_copies_13 : decode cX6_copies 13 = .ok (.iastore, 1) := by decide +kernel
theorem dX6_copies_14 : decode cX6_copies 14 = .ok (.iinc 2 1, 3) := by decide +kernel
theorem dX6_copies_17 : decode cX6_copies 17 = .ok (.goto (-15), 3) := by decide +kernel
theorem dX6_copies_20 : decode cX6_copies 20 = .ok (.return_, 1) := by decide +kernel
theorem dX6_of_0 : decode cX6_of 0 = .ok (.iconst 3, 1) := by decide +kernel
theorem dX6_of_1 : decode cX6_of 1 = .ok (.bipush 6, 2) := by decide +kernel
theorem dX6_of_3 : decode cX6_of 3 = .ok (.iload_n 0, 1) := by decide +kernel
theorem dX6_of_4 : decode cX6_of 4 = .ok (.imul, 1) := by decide +kernel
theorem dX6_of_5 : decode cX6_of 5 = .ok (.iadd, 1) := by decide +kernel
theorem dX6_of_6 : decode cX6_of 6 = .ok (.iload_n 1, 1) := by decide +kernel
theorem dX6_of_7 : decode cX6_of 7 = .ok (.iadd, 1) := by decide +kernel
theorem dX6_of_8 : decode cX6_of 8 = .ok (.ireturn, 1) := by decide +kernel
theorem dX6_isPerson_0 : decode cX6_isPerson 0 = .ok (.iload_n 1, 1) := by decide +kernel
theorem dX6_isPerson_1 : decode cX6_isPerson 1 = .ok (.iconst 0, 1) := by decide +kernel
theorem dX6_isPerson_2 : decode cX6_isPerson 2 = .ok (.aload_n 0, 1) := by decide +kernel
theorem dX6_isPerson_3 : decode cX6_isPerson 3 = .ok (.getfield 9, 3) := by decide +kernel
theorem dX6_isPerson_6 : decode cX6_isPerson 6 = .ok (.iconst 0, 1) := by decide +kernel
theorem dX6_isPerson_7 : decode cX6_isPerson 7 = .ok (.iaload, 1) := by decide +kernel
theorem dX6_isPerson_8 : decode cX6_isPerson 8 = .ok (.iconst 1, 1) := by decide +kernel
theorem dX6_isPerson_9 : decode cX6_isPerson 9 = .ok (.isub, 1) := by decide +kernel
theorem dX6_isPerson_10 : decode cX6_isPerson 10 = .ok (.invokestatic 49, 3) := by decide +kernel
theorem dX6_isPerson_13 : decode cX6_isPerson 13 = .ok (.ireturn, 1) := by decide +kernel
theorem dX6_bits_0 : decode cX6_bits 0 = .ok (.iconst 0, 1) := by decide +kernel
theorem dX6_bits_1 : decode cX6_bits 1 = .ok (.istore_n 1, 1) := by decide +kernel
theorem dX6_bits_2 : decode cX6_bits 2 = .ok (.iconst 0, 1) := by decide +kernel
theorem dX6_bits_3 : decode cX6_bits 3 = .ok (.istore_n 2, 1) := by decide +kernel
theorem dX6_bits_4 : decode cX6_bits 4 = .ok (.iload_n 2, 1) := by decide +kernel
theorem dX6_bits_5 : decode cX6_bits 5 = .ok (.bipush 10, 2) := by decide +kernel
theorem dX6_bits_7 : decode cX6_bits 7 = .ok (.if_icmp .ge 17, 3) := by decide +kernel
theorem dX6_bits_10 : decode cX6_bits 10 = .ok (.iload_n 1, 1) := by decide +kernel
theorem dX6_bits_11 : decode cX6_bits 11 = .ok (.iload_n 0, 1) := by decide +kernel
theorem dX6_bits_12 : decode cX6_bits 12 = .ok (.iload_n 2, 1) := by decide +kernel
theorem dX6_bits_13 : decode cX6_bits 13 = .ok (.ishr, 1) := by decide +kernel
theorem dX6_bits_14 : decode cX6_bits 14 = .ok (.iconst 1, 1) := by decide +kernel
theorem dX6_bits_15 : decode cX6_bits 15 = .ok (.iand, 1) := by decide +kernel
theorem dX6_bits_16 : decode cX6_bits 16 = .ok (.iadd, 1) := by decide +kernel
theorem dX6_bits_17 : decode cX6_bits 17 = .ok (.istore_n 1, 1) := by decide +kernel
theorem dX6_bits_18 : decode cX6_bits 18 = .ok (.iinc 2 1, 3) := by decide +kernel
theorem dX6_bits_21 : decode cX6_bits 21 = .ok (.goto (-17), 3) := by decide +kernel
theorem dX6_bits_24 : decode cX6_bits 24 = .ok (.iload_n 1, 1) := by decide +kernel
theorem dX6_bits_25 : decode cX6_bits 25 = .ok (.ireturn, 1) := by decide +kernel
theorem dX6_bite_0 : decode cX6_bite 0 = .ok (.iload_n 0, 1) := by decide +kernel
theorem dX6_bite_1 : decode cX6_bite 1 = .ok (.tableswitch 58 1 7 #[43, 45, 51, 58, 53, 53, 55], 43) := by decide +kernel
theorem dX6_bite_44 : decode cX6_bite 44 = .ok (.iconst 5, 1) := by decide +kernel
theorem dX6_bite_45 : decode cX6_bite 45 = .ok (.ireturn, 1) := by decide +kernel
theorem dX6_bite_46 : decode cX6_bite 46 = .ok (.iconst 3, 1) := by decide +kernel
theorem dX6_bite_47 : decode cX6_bite 47 = .ok (.iload_n 1, 1) := by decide +kernel
theorem dX6_bite_48 : decode cX6_bite 48 = .ok (.iconst 2, 1) := by decide +kernel
theorem dX6_bite_49 : decode cX6_bite 49 = .ok (.idiv, 1) := by decide +kernel
theorem dX6_bite_50 : decode cX6_bite 50 = .ok (.iadd, 1) := by decide +kernel
theorem dX6_bite_51 : decode cX6_bite 51 = .ok (.ireturn, 1) := by decide +kernel
theorem dX6_bite_52 : decode cX6_bite 52 = .ok (.iconst 1, 1) := by decide +kernel
theorem dX6_bite_53 : decode cX6_bite 53 = .ok (.ireturn, 1) := by decide +kernel
theorem dX6_bite_54 : decode cX6_bite 54 = .ok (.iconst 2, 1) := by decide +kernel
theorem dX6_bite_55 : decode cX6_bite 55 = .ok (.ireturn, 1) := by decide +kernel
theorem dX6_bite_56 : decode cX6_bite 56 = .ok (.bipush 9, 2) := by decide +kernel
theorem dX6_bite_58 : decode cX6_bite 58 = .ok (.ireturn, 1) := by decide +kernel
theorem dX6_bite_59 : decode cX6_bite 59 = .ok (.iconst 3, 1) := by decide +kernel
theorem dX6_bite_60 : decode cX6_bite 60 = .ok (.ireturn, 1) := by decide +kernel
theorem dX6_gaze_0 : decode cX6_gaze 0 = .ok (.iload_n 0, 1) := by decide +kernel
theorem dX6_gaze_1 : decode cX6_gaze 1 = .ok (.tableswitch 63 1 7 #[43, 45, 47, 61, 53, 43, 61], 43) := by decide +kernel
theorem dX6_gaze_44 : decode cX6_gaze 44 = .ok (.iconst 1, 1) := by decide +kernel
theorem dX6_gaze_45 : decode cX6_gaze 45 = .ok (.ireturn, 1) := by decide +kernel
theorem dX6_gaze_46 : decode cX6_gaze 46 = .ok (.iconst 4, 1) := by decide +kernel
theorem dX6_gaze_47 : decode cX6_gaze 47 = .ok (.ireturn, 1) := by decide +kernel
theorem dX6_gaze_48 : decode cX6_gaze 48 = .ok (.iconst 2, 1) := by decide +kernel
theorem dX6_gaze_49 : decode cX6_gaze 49 = .ok (.iload_n 1, 1) := by decide +kernel
theorem dX6_gaze_50 : decode cX6_gaze 50 = .ok (.iconst 3, 1) := by decide +kernel
theorem dX6_gaze_51 : decode cX6_gaze 51 = .ok (.idiv, 1) := by decide +kernel
theorem dX6_gaze_52 : decode cX6_gaze 52 = .ok (.iadd, 1) := by decide +kernel
theorem dX6_gaze_53 : decode cX6_gaze 53 = .ok (.ireturn, 1) := by decide +kernel
theorem dX6_gaze_54 : decode cX6_gaze 54 = .ok (.iconst 2, 1) := by decide +kernel
theorem dX6_gaze_55 : decode cX6_gaze 55 = .ok (.iconst 2, 1) := by decide +kernel
theorem dX6_gaze_56 : decode cX6_gaze 56 = .ok (.iload_n 1, 1) := by decide +kernel
theorem dX6_gaze_57 : decode cX6_gaze 57 = .ok (.iconst 3, 1) := by decide +kernel
theorem dX6_gaze_58 : decode cX6_gaze 58 = .ok (.idiv, 1) := by decide +kernel
theorem dX6_gaze_59 : decode cX6_gaze 59 = .ok (.iadd, 1) := by decide +kernel
theorem dX6_gaze_60 : decode cX6_gaze 60 = .ok (.imul, 1) := by decide +kernel
theorem dX6_gaze_61 : decode cX6_gaze 61 = .ok (.ireturn, 1) := by decide +kernel
theorem dX6_gaze_62 : decode cX6_gaze 62 = .ok (.iconst 0, 1) := by decide +kernel
theorem dX6_gaze_63 : decode cX6_gaze 63 = .ok (.ireturn, 1) := by decide +kernel
theorem dX6_gaze_64 : decode cX6_gaze 64 = .ok (.iconst 2, 1) := by decide +kernel
theorem dX6_gaze_65 : decode cX6_gaze 65 = .ok (.ireturn, 1) := by decide +kernel
theorem dX6_shy_0 : decode cX6_shy 0 = .ok (.iload_n 0, 1) := by decide +kernel
theorem dX6_shy_1 : decode cX6_shy 1 = .ok (.bipush 6, 2) := by decide +kernel
theorem dX6_shy_3 : decode cX6_shy 3 = .ok (.if_icmp .ne 7, 3) := by decide +kernel
theorem dX6_shy_6 : decode cX6_shy 6 = .ok (.iconst 2, 1) := by decide +kernel
theorem dX6_shy_7 : decode cX6_shy 7 = .ok (.goto 18, 3) := by decide +kernel
theorem dX6_shy_10 : decode cX6_shy 10 = .ok (.iload_n 0, 1) := by decide +kernel
theorem dX6_shy_11 : decode cX6_shy 11 = .ok (.iconst 1, 1) := by decide +kernel
theorem dX6_shy_12 : decode cX6_shy 12 = .ok (.if_icmp .eq 8, 3) := by decide +kernel
theorem dX6_shy_15 : decode cX6_shy 15 = .ok (.iload_n 0, 1) := by decide +kernel
theorem dX6_shy_16 : decode cX6_shy 16 = .ok (.iconst 2, 1) := by decide +kernel
theorem dX6_shy_17 : decode cX6_shy 17 = .ok (.if_icmp .ne 7, 3) := by decide +kernel
theorem dX6_shy_20 : decode cX6_shy 20 = .ok (.iconst 1, 1) := by decide +kernel
theorem dX6_shy_21 : decode cX6_shy 21 = .ok (.goto 4, 3) := by decide +kernel
theorem dX6_shy_24 : decode cX6_shy 24 = .ok (.iconst 0, 1) := by decide +kernel
theorem dX6_shy_25 : decode cX6_shy 25 = .ok (.ireturn, 1) := by decide +kernel
theorem dX6_bites_0 : decode cX6_bites 0 = .ok (.aload_n 0, 1) := by decide +kernel
theorem dX6_bites_1 : decode cX6_bites 1 = .ok (.iload_n 1, 1) := by decide +kernel
theorem dX6_bites_2 : decode cX6_bites 2 = .ok (.iconst 2, 1) := by decide +kernel
theorem dX6_bites_3 : decode cX6_bites 3 = .ok (.invokestatic 53, 3) := by decide +kernel
theorem dX6_bites_6 : decode cX6_bites 6 = .ok (.iaload, 1) := by decide +kernel
theorem dX6_bites_7 : decode cX6_bites 7 = .ok (.aload_n 0, 1) := by decide +kernel
theorem dX6_bites_8 : decode cX6_bites 8 = .ok (.iload_n 1, 1) := by decide +kernel
theorem dX6_bites_9 : decode cX6_bites 9 = .ok (.iconst 0, 1) := by decide +kernel
theorem dX6_bites_10 : decode cX6_bites 10 = .ok (.invokestatic 53, 3) := by decide +kernel
theorem dX6_bites_13 : decode cX6_bites 13 = .ok (.iaload, 1) := by decide +kernel
theorem dX6_bites_14 : decode cX6_bites 14 = .ok (.aload_n 0, 1) := by decide +kernel
theorem dX6_bites_15 : decode cX6_bites 15 = .ok (.iload_n 1, 1) := by decide +kernel
theorem dX6_bites_16 : decode cX6_bites 16 = .ok (.iconst 1, 1) := by decide +kernel
theorem dX6_bites_17 : decode cX6_bites 17 = .ok (.invokestatic 53, 3) := by decide +kernel
theorem dX6_bites_20 : decode cX6_bites 20 = .ok (.iaload, 1) := by decide +kernel
theorem dX6_bites_21 : decode cX6_bites 21 = .ok (.invokestatic 57, 3) := by decide +kernel
theorem dX6_bites_24 : decode cX6_bites 24 = .ok (.invokestatic 60, 3) := by decide +kernel
theorem dX6_bites_27 : decode cX6_bites 27 = .ok (.ireturn, 1) := by decide +kernel
theorem dX6_gazes_0 : decode cX6_gazes 0 = .ok (.aload_n 0, 1) := by decide +kernel
theorem dX6_gazes_1 : decode cX6_gazes 1 = .ok (.iload_n 1, 1) := by decide +kernel
theorem dX6_gazes_2 : decode cX6_gazes 2 = .ok (.iconst 3, 1) := by decide +kernel
theorem dX6_gazes_3 : decode cX6_gazes 3 = .ok (.invokestatic 53, 3) := by decide +kernel
theorem dX6_gazes_6 : decode cX6_gazes 6 = .ok (.iaload, 1) := by decide +kernel
theorem dX6_gazes_7 : decode cX6_gazes 7 = .ok (.aload_n 0, 1) := by decide +kernel
theorem dX6_gazes_8 : decode cX6_gazes 8 = .ok (.iload_n 1, 1) := by decide +kernel
theorem dX6_gazes_9 : decode cX6_gazes 9 = .ok (.iconst 0, 1) := by decide +kernel
theorem dX6_gazes_10 : decode cX6_gazes 10 = .ok (.invokestatic 53, 3) := by decide +kernel
theorem dX6_gazes_13 : decode cX6_gazes 13 = .ok (.iaload, 1) := by decide +kernel
theorem dX6_gazes_14 : decode cX6_gazes 14 = .ok (.aload_n 0, 1) := by decide +kernel
theorem dX6_gazes_15 : decode cX6_gazes 15 = .ok (.iload_n 1, 1) := by decide +kernel
theorem dX6_gazes_16 : decode cX6_gazes 16 = .ok (.iconst 1, 1) := by decide +kernel
theorem dX6_gazes_17 : decode cX6_gazes 17 = .ok (.invokestatic 53, 3) := by decide +kernel
theorem dX6_gazes_20 : decode cX6_gazes 20 = .ok (.iaload, 1) := by decide +kernel
theorem dX6_gazes_21 : decode cX6_gazes 21 = .ok (.invokestatic 63, 3) := by decide +kernel
theorem dX6_gazes_24 : decode cX6_gazes 24 = .ok (.invokestatic 60, 3) := by decide +kernel
theorem dX6_gazes_27 : decode cX6_gazes 27 = .ok (.ireturn, 1) := by decide +kernel
theorem dX6_canLook_0 : decode cX6_canLook 0 = .ok (.aload_n 0, 1) := by decide +kernel
theorem dX6_canLook_1 : decode cX6_canLook 1 = .ok (.iload_n 1, 1) := by decide +kernel
theorem dX6_canLook_2 : decode cX6_canLook 2 = .ok (.iconst 4, 1) := by decide +kernel
theorem dX6_canLook_3 : decode cX6_canLook 3 = .ok (.invokestatic 53, 3) := by decide +kernel
theorem dX6_canLook_6 : decode cX6_canLook 6 = .ok (.iaload, 1) := by decide +kernel
theorem dX6_canLook_7 : decode cX6_canLook 7 = .ok (.ifCond .ne 18, 3) := by decide +kernel
theorem dX6_canLook_10 : decode cX6_canLook 10 = .ok (.aload_n 0, 1) := by decide +kernel
theorem dX6_canLook_11 : decode cX6_canLook 11 = .ok (.iload_n 1, 1) := by decide +kernel
theorem dX6_canLook_12 : decode cX6_canLook 12 = .ok (.iconst 0, 1) := by decide +kernel
theorem dX6_canLook_13 : decode cX6_canLook 13 = .ok (.invokestatic 53, 3) := by decide +kernel
theorem dX6_canLook_16 : decode cX6_canLook 16 = .ok (.iaload, 1) := by decide +kernel
theorem dX6_canLook_17 : decode cX6_canLook 17 = .ok (.iconst 4, 1) := by decide +kernel
theorem dX6_canLook_18 : decode cX6_canLook 18 = .ok (.if_icmp .eq 7, 3) := by decide +kernel
theorem dX6_canLook_21 : decode cX6_canLook 21 = .ok (.iconst 1, 1) := by decide +kernel
theorem dX6_canLook_22 : decode cX6_canLook 22 = .ok (.goto 4, 3) := by decide +kernel
theorem dX6_canLook_25 : decode cX6_canLook 25 = .ok (.iconst 0, 1) := by decide +kernel
theorem dX6_canLook_26 : decode cX6_canLook 26 = .ok (.ireturn, 1) := by decide +kernel
theorem dX6_canEat_0 : decode cX6_canEat 0 = .ok (.iload_n 1, 1) := by decide +kernel
theorem dX6_canEat_1 : decode cX6_canEat 1 = .ok (.iload_n 2, 1) := by decide +kernel
theorem dX6_canEat_2 : decode cX6_canEat 2 = .ok (.if_icmp .eq 31, 3) := by decide +kernel
theorem dX6_canEat_5 : decode cX6_canEat 5 = .ok (.aload_n 0, 1) := by decide +kernel
theorem dX6_canEat_6 : decode cX6_canEat 6 = .ok (.iconst 1, 1) := by decide +kernel
theorem dX6_canEat_7 : decode cX6_canEat 7 = .ok (.iaload, 1) := by decide +kernel
theorem dX6_canEat_8 : decode cX6_canEat 8 = .ok (.ifCond .le 25, 3) := by decide +kernel
theorem dX6_canEat_11 : decode cX6_canEat 11 = .ok (.aload_n 0, 1) := by decide +kernel
theorem dX6_canEat_12 : decode cX6_canEat 12 = .ok (.iload_n 1, 1) := by decide +kernel
theorem dX6_canEat_13 : decode cX6_canEat 13 = .ok (.iconst 2, 1) := by decide +kernel
theorem dX6_canEat_14 : decode cX6_canEat 14 = .ok (.invokestatic 53, 3) := by decide +kernel
theorem dX6_canEat_17 : decode cX6_canEat 17 = .ok (.iaload, 1) := by decide +kernel
theorem dX6_canEat_18 : decode cX6_canEat 18 = .ok (.ifCond .le 15, 3) := by decide +kernel
theorem dX6_canEat_21 : decode cX6_canEat 21 = .ok (.aload_n 0, 1) := by decide +kernel
theorem dX6_canEat_22 : decode cX6_canEat 22 = .ok (.iload_n 2, 1) := by decide +kernel
theorem dX6_canEat_23 : decode cX6_canEat 23 = .ok (.invokestatic 66, 3) := by decide +kernel
theorem dX6_canEat_26 : decode cX6_canEat 26 = .ok (.ifCond .eq 7, 3) := by decide +kernel
theorem dX6_canEat_29 : decode cX6_canEat 29 = .ok (.iconst 1, 1) := by decide +kernel
theorem dX6_canEat_30 : decode cX6_canEat 30 = .ok (.goto 4, 3) := by decide +kernel
theorem dX6_canEat_33 : decode cX6_canEat 33 = .ok (.iconst 0, 1) := by decide +kernel
theorem dX6_canEat_34 : decode cX6_canEat 34 = .ok (.ireturn, 1) := by decide +kernel
theorem dX6_eaterJoy_0 : decode cX6_eaterJoy 0 = .ok (.iconst 0, 1) := by decide +kernel
theorem dX6_eaterJoy_1 : decode cX6_eaterJoy 1 = .ok (.aload_n 0, 1) := by decide +kernel
theorem dX6_eaterJoy_2 : decode cX6_eaterJoy 2 = .ok (.iload_n 1, 1) := by decide +kernel
theorem dX6_eaterJoy_3 : decode cX6_eaterJoy 3 = .ok (.invokestatic 70, 3) := by decide +kernel
theorem dX6_eaterJoy_6 : decode cX6_eaterJoy 6 = .ok (.aload_n 0, 1) := by decide +kernel
theorem dX6_eaterJoy_7 : decode cX6_eaterJoy 7 = .ok (.iload_n 1, 1) := by decide +kernel
theorem dX6_eaterJoy_8 : decode cX6_eaterJoy 8 = .ok (.iconst 0, 1) := by decide +kernel
theorem dX6_eaterJoy_9 : decode cX6_eaterJoy 9 = .ok (.invokestatic 53, 3) := by decide +kernel
theorem dX6_eaterJoy_12 : decode cX6_eaterJoy 12 = .ok (.iaload, 1) := by decide +kernel
theorem dX6_eaterJoy_13 : decode cX6_eaterJoy 13 = .ok (.invokestatic 74, 3) := by decide +kernel
theorem dX6_eaterJoy_16 : decode cX6_eaterJoy 16 = .ok (.aload_n 0, 1) := by decide +kernel
theorem dX6_eaterJoy_17 : decode cX6_eaterJoy 17 = .ok (.iload_n 2, 1) := by decide +kernel
theorem dX6_eaterJoy_18 : decode cX6_eaterJoy 18 = .ok (.iconst 5, 1) := by decide +kernel
theorem dX6_eaterJoy_19 : decode cX6_eaterJoy 19 = .ok (.invokestatic 53, 3) := by decide +kernel
theorem dX6_eaterJoy_22 : decode cX6_eaterJoy 22 = .ok (.iaload, 1) := by decide +kernel
theorem dX6_eaterJoy_23 : decode cX6_eaterJoy 23 = .ok (.imul, 1) := by decide +kernel
theorem dX6_eaterJoy_24 : decode cX6_eaterJoy 24 = .ok (.isub, 1) := by decide +kernel
theorem dX6_eaterJoy_25 : decode cX6_eaterJoy 25 = .ok (.invokestatic 78, 3) := by decide +kernel
theorem dX6_eaterJoy_28 : decode cX6_eaterJoy 28 = .ok (.ireturn, 1) := by decide +kernel
theorem dX6_joysOf_0 : decode cX6_joysOf 0 = .ok (.aload_n 0, 1) := by decide +kernel
theorem dX6_joysOf_1 : decode cX6_joysOf 1 = .ok (.iload_n 1, 1) := by decide +kernel
theorem dX6_joysOf_2 : decode cX6_joysOf 2 = .ok (.iload_n 2, 1) := by decide +kernel
theorem dX6_joysOf_3 : decode cX6_joysOf 3 = .ok (.invokestatic 81, 3) := by decide +kernel
theorem dX6_joysOf_6 : decode cX6_joysOf 6 = .ok (.aload_n 0, 1) := by decide +kernel
theorem dX6_joysOf_7 : decode cX6_joysOf 7 = .ok (.iload_n 2, 1) := by decide +kernel
theorem dX6_joysOf_8 : decode cX6_joysOf 8 = .ok (.invokestatic 85, 3) := by decide +kernel
theorem dX6_joysOf_11 : decode cX6_joysOf 11 = .ok (.iadd, 1) := by decide +kernel
theorem dX6_joysOf_12 : decode cX6_joysOf 12 = .ok (.ireturn, 1) := by decide +kernel
theorem dX6_turn_0 : decode cX6_turn 0 = .ok (.aload_n 0, 1) := by decide +kernel
theorem dX6_turn_1 : decode cX6_turn 1 = .ok (.iload_n 1, 1) := by decide +kernel
theorem dX6_turn_2 : decode cX6_turn 2 = .ok (.iload_n 2, 1) := by decide +kernel
theorem dX6_turn_3 : decode cX6_turn 3 = .ok (.invokestatic 88, 3) := by decide +kernel
theorem dX6_turn_6 : decode cX6_turn 6 = .ok (.istore_n 3, 1) := by decide +kernel
theorem dX6_turn_7 : decode cX6_turn 7 = .ok (.aload_n 0, 1) := by decide +kernel
theorem dX6_turn_8 : decode cX6_turn 8 = .ok (.iload_n 1, 1) := by decide +kernel
theorem dX6_turn_9 : decode cX6_turn 9 = .ok (.iconst 2, 1) := by decide +kernel
theorem dX6_turn_10 : decode cX6_turn 10 = .ok (.invokestatic 53, 3) := by decide +kernel
theorem dX6_turn_13 : decode cX6_turn 13 = .ok (.dup2, 1) := by decide +kernel
theorem dX6_turn_14 : decode cX6_turn 14 = .ok (.iaload, 1) := by decide +kernel
theorem dX6_turn_15 : decode cX6_turn 15 = .ok (.aload_n 0, 1) := by decide +kernel
theorem dX6_turn_16 : decode cX6_turn 16 = .ok (.iload_n 1, 1) := by decide +kernel
theorem dX6_turn_17 : decode cX6_turn 17 = .ok (.invokestatic 70, 3) := by decide +kernel
theorem dX6_turn_20 : decode cX6_turn 20 = .ok (.isub, 1) := by decide +kernel
theorem dX6_turn_21 : decode cX6_turn 21 = .ok (.iastore, 1) := by decide +kernel
theorem dX6_turn_22 : decode cX6_turn 22 = .ok (.aload_n 0, 1) := by decide +kernel
theorem dX6_turn_23 : decode cX6_turn 23 = .ok (.iload_n 2, 1) := by decide +kernel
theorem dX6_turn_24 : decode cX6_turn 24 = .ok (.iconst 3, 1) := by decide +kernel
theorem dX6_turn_25 : decode cX6_turn 25 = .ok (.invokestatic 53, 3) := by decide +kernel
theorem dX6_turn_28 : decode cX6_turn 28 = .ok (.dup2, 1) := by decide +kernel
theorem dX6_turn_29 : decode cX6_turn 29 = .ok (.iaload, 1) := by decide +kernel
theorem dX6_turn_30 : decode cX6_turn 30 = .ok (.aload_n 0, 1) := by decide +kernel
theorem dX6_turn_31 : decode cX6_turn 31 = .ok (.iload_n 2, 1) := by decide +kernel
theorem dX6_turn_32 : decode cX6_turn 32 = .ok (.invokestatic 85, 3) := by decide +kernel
theorem dX6_turn_35 : decode cX6_turn 35 = .ok (.isub, 1) := by decide +kernel
theorem dX6_turn_36 : decode cX6_turn 36 = .ok (.iastore, 1) := by decide +kernel
theorem dX6_turn_37 : decode cX6_turn 37 = .ok (.aload_n 0, 1) := by decide +kernel
theorem dX6_turn_38 : decode cX6_turn 38 = .ok (.iload_n 1, 1) := by decide +kernel
theorem dX6_turn_39 : decode cX6_turn 39 = .ok (.iconst 4, 1) := by decide +kernel
theorem dX6_turn_40 : decode cX6_turn 40 = .ok (.invokestatic 53, 3) := by decide +kernel
theorem dX6_turn_43 : decode cX6_turn 43 = .ok (.bipush 99, 2) := by decide +kernel
theorem dX6_turn_45 : decode cX6_turn 45 = .ok (.aload_n 0, 1) := by decide +kernel
theorem dX6_turn_46 : decode cX6_turn 46 = .ok (.iload_n 1, 1) := by decide +kernel
theorem dX6_turn_47 : decode cX6_turn 47 = .ok (.iconst 4, 1) := by decide +kernel
theorem dX6_turn_48 : decode cX6_turn 48 = .ok (.invokestatic 53, 3) := by decide +kernel
theorem dX6_turn_51 : decode cX6_turn 51 = .ok (.iaload, 1) := by decide +kernel
theorem dX6_turn_52 : decode cX6_turn 52 = .ok (.iconst 1, 1) := by decide +kernel
theorem dX6_turn_53 : decode cX6_turn 53 = .ok (.iadd, 1) := by decide +kernel
theorem dX6_turn_54 : decode cX6_turn 54 = .ok (.invokestatic 60, 3) := by decide +kernel
theorem dX6_turn_57 : decode cX6_turn 57 = .ok (.iastore, 1) := by decide +kernel
theorem dX6_turn_58 : decode cX6_turn 58 = .ok (.aload_n 0, 1) := by decide +kernel
theorem dX6_turn_59 : decode cX6_turn 59 = .ok (.iload_n 2, 1) := by decide +kernel
theorem dX6_turn_60 : decode cX6_turn 60 = .ok (.iconst 5, 1) := by decide +kernel
theorem dX6_turn_61 : decode cX6_turn 61 = .ok (.invokestatic 53, 3) := by decide +kernel
theorem dX6_turn_64 : decode cX6_turn 64 = .ok (.bipush 99, 2) := by decide +kernel
theorem dX6_turn_66 : decode cX6_turn 66 = .ok (.aload_n 0, 1) := by decide +kernel
theorem dX6_turn_67 : decode cX6_turn 67 = .ok (.iload_n 2, 1) := by decide +kernel
theorem dX6_turn_68 : decode cX6_turn 68 = .ok (.iconst 5, 1) := by decide +kernel
theorem dX6_turn_69 : decode cX6_turn 69 = .ok (.invokestatic 53, 3) := by decide +kernel
theorem dX6_turn_72 : decode cX6_turn 72 = .ok (.iaload, 1) := by decide +kernel
theorem dX6_turn_73 : decode cX6_turn 73 = .ok (.iconst 1, 1) := by decide +kernel
theorem dX6_turn_74 : decode cX6_turn 74 = .ok (.iadd, 1) := by decide +kernel
theorem dX6_turn_75 : decode cX6_turn 75 = .ok (.invokestatic 60, 3) := by decide +kernel
theorem dX6_turn_78 : decode cX6_turn 78 = .ok (.iastore, 1) := by decide +kernel
theorem dX6_turn_79 : decode cX6_turn 79 = .ok (.aload_n 0, 1) := by decide +kernel
theorem dX6_turn_80 : decode cX6_turn 80 = .ok (.iconst 1, 1) := by decide +kernel
theorem dX6_turn_81 : decode cX6_turn 81 = .ok (.dup2, 1) := by decide +kernel
theorem dX6_turn_82 : decode cX6_turn 82 = .ok (.iaload, 1) := by decide +kernel
theorem dX6_turn_83 : decode cX6_turn 83 = .ok (.iconst 1, 1) := by decide +kernel
theorem dX6_turn_84 : decode cX6_turn 84 = .ok (.isub, 1) := by decide +kernel
theorem dX6_turn_85 : decode cX6_turn 85 = .ok (.iastore, 1) := by decide +kernel
theorem dX6_turn_86 : decode cX6_turn 86 = .ok (.aload_n 0, 1) := by decide +kernel
theorem dX6_turn_87 : decode cX6_turn 87 = .ok (.iconst 2, 1) := by decide +kernel
theorem dX6_turn_88 : decode cX6_turn 88 = .ok (.dup2, 1) := by decide +kernel
theorem dX6_turn_89 : decode cX6_turn 89 = .ok (.iaload, 1) := by decide +kernel
theorem dX6_turn_90 : decode cX6_turn 90 = .ok (.iconst 1, 1) := by decide +kernel
theorem dX6_turn_91 : decode cX6_turn 91 = .ok (.iadd, 1) := by decide +kernel
theorem dX6_turn_92 : decode cX6_turn 92 = .ok (.iastore, 1) := by decide +kernel
theorem dX6_turn_93 : decode cX6_turn 93 = .ok (.iload_n 3, 1) := by decide +kernel
theorem dX6_turn_94 : decode cX6_turn 94 = .ok (.ireturn, 1) := by decide +kernel
theorem dX6_bestIn_0 : decode cX6_bestIn 0 = .ok (.bipush (-4), 2) := by decide +kernel
theorem dX6_bestIn_2 : decode cX6_bestIn 2 = .ok (.istore_n 1, 1) := by decide +kernel
theorem dX6_bestIn_3 : decode cX6_bestIn 3 = .ok (.iconst (-1), 1) := by decide +kernel
theorem dX6_bestIn_4 : decode cX6_bestIn 4 = .ok (.istore_n 2, 1) := by decide +kernel
theorem dX6_bestIn_5 : decode cX6_bestIn 5 = .ok (.iconst 0, 1) := by decide +kernel
theorem dX6_bestIn_6 : decode cX6_bestIn 6 = .ok (.istore_n 3, 1) := by decide +kernel
theorem dX6_bestIn_7 : decode cX6_bestIn 7 = .ok (.iload_n 3, 1) := by decide +kernel
theorem dX6_bestIn_8 : decode cX6_bestIn 8 = .ok (.aload_n 0, 1) := by decide +kernel
theorem dX6_bestIn_9 : decode cX6_bestIn 9 = .ok (.iconst 0, 1) := by decide +kernel
theorem dX6_bestIn_10 : decode cX6_bestIn 10 = .ok (.iaload, 1) := by decide +kernel
theorem dX6_bestIn_11 : decode cX6_bestIn 11 = .ok (.if_icmp .ge 66, 3) := by decide +kernel
theorem dX6_bestIn_14 : decode cX6_bestIn 14 = .ok (.iconst 0, 1) := by decide +kernel
theorem dX6_bestIn_15 : decode cX6_bestIn 15 = .ok (.istore 4, 2) := by decide +kernel
theorem dX6_bestIn_17 : decode cX6_bestIn 17 = .ok (.iload 4, 2) := by decide +kernel
theorem dX6_bestIn_19 : decode cX6_bestIn 19 = .ok (.aload_n 0, 1) := by decide +kernel
theorem dX6_bestIn_20 : decode cX6_bestIn 20 = .ok (.iconst 0, 1) := by decide +kernel
theorem dX6_bestIn_21 : decode cX6_bestIn 21 = .ok (.iaload, 1) := by decide +kernel
theorem dX6_bestIn_22 : decode cX6_bestIn 22 = .ok (.if_icmp .ge 49, 3) := by decide +kernel
theorem dX6_bestIn_25 : decode cX6_bestIn 25 = .ok (.aload_n 0, 1) := by decide +kernel
theorem dX6_bestIn_26 : decode cX6_bestIn 26 = .ok (.iload_n 3, 1) := by decide +kernel
theorem dX6_bestIn_27 : decode cX6_bestIn 27 = .ok (.iload 4, 2) := by decide +kernel
theorem dX6_bestIn_29 : decode cX6_bestIn 29 = .ok (.invokestatic 91, 3) := by decide +kernel
theorem dX6_bestIn_32 : decode cX6_bestIn 32 = .ok (.ifCond .eq 33, 3) := by decide +kernel
theorem dX6_bestIn_35 : decode cX6_bestIn 35 = .ok (.aload_n 0, 1) := by decide +kernel
theorem dX6_bestIn_36 : decode cX6_bestIn 36 = .ok (.iload_n 3, 1) := by decide +kernel
theorem dX6_bestIn_37 : decode cX6_bestIn 37 = .ok (.iload 4, 2) := by decide +kernel
theorem dX6_bestIn_39 : decode cX6_bestIn 39 = .ok (.invokestatic 88, 3) := by decide +kernel
theorem dX6_bestIn_42 : decode cX6_bestIn 42 = .ok (.iload_n 2, 1) := by decide +kernel
theorem dX6_bestIn_43 : decode cX6_bestIn 43 = .ok (.if_icmp .gt 6, 3) := by decide +kernel
theorem dX6_bestIn_46 : decode cX6_bestIn 46 = .ok (.goto 19, 3) := by decide +kernel
theorem dX6_bestIn_49 : decode cX6_bestIn 49 = .ok (.bipush 10, 2) := by decide +kernel
theorem dX6_bestIn_51 : decode cX6_bestIn 51 = .ok (.iload_n 3, 1) := by decide +kernel
theorem dX6_bestIn_52 : decode cX6_bestIn 52 = .ok (.imul, 1) := by decide +kernel
theorem dX6_bestIn_53 : decode cX6_bestIn 53 = .ok (.iload 4, 2) := by decide +kernel
theorem dX6_bestIn_55 : decode cX6_bestIn 55 = .ok (.iadd, 1) := by decide +kernel
theorem dX6_bestIn_56 : decode cX6_bestIn 56 = .ok (.istore_n 1, 1) := by decide +kernel
theorem dX6_bestIn_57 : decode cX6_bestIn 57 = .ok (.aload_n 0, 1) := by decide +kernel
theorem dX6_bestIn_58 : decode cX6_bestIn 58 = .ok (.iload_n 3, 1) := by decide +kernel
theorem dX6_bestIn_59 : decode cX6_bestIn 59 = .ok (.iload 4, 2) := by decide +kernel
theorem dX6_bestIn_61 : decode cX6_bestIn 61 = .ok (.invokestatic 88, 3) := by decide +kernel
theorem dX6_bestIn_64 : decode cX6_bestIn 64 = .ok (.istore_n 2, 1) := by decide +kernel
theorem dX6_bestIn_65 : decode cX6_bestIn 65 = .ok (.iinc 4 1, 3) := by decide +kernel
theorem dX6_bestIn_68 : decode cX6_bestIn 68 = .ok (.goto (-51), 3) := by decide +kernel
theorem dX6_bestIn_71 : decode cX6_bestIn 71 = .ok (.iinc 3 1, 3) := by decide +kernel
theorem dX6_bestIn_74 : decode cX6_bestIn 74 = .ok (.goto (-67), 3) := by decide +kernel
theorem dX6_bestIn_77 : decode cX6_bestIn 77 = .ok (.iload_n 1, 1) := by decide +kernel
theorem dX6_bestIn_78 : decode cX6_bestIn 78 = .ok (.ireturn, 1) := by decide +kernel
theorem dX6_bestJoys_0 : decode cX6_bestJoys 0 = .ok (.aload_n 0, 1) := by decide +kernel
theorem dX6_bestJoys_1 : decode cX6_bestJoys 1 = .ok (.invokestatic 95, 3) := by decide +kernel
theorem dX6_bestJoys_4 : decode cX6_bestJoys 4 = .ok (.istore_n 1, 1) := by decide +kernel
theorem dX6_bestJoys_5 : decode cX6_bestJoys 5 = .ok (.iload_n 1, 1) := by decide +kernel
theorem dX6_bestJoys_6 : decode cX6_bestJoys 6 = .ok (.ifCond .ge 7, 3) := by decide +kernel
theorem dX6_bestJoys_9 : decode cX6_bestJoys 9 = .ok (.iconst 0, 1) := by decide +kernel
theorem dX6_bestJoys_10 : decode cX6_bestJoys 10 = .ok (.goto 15, 3) := by decide +kernel
theorem dX6_bestJoys_13 : decode cX6_bestJoys 13 = .ok (.aload_n 0, 1) := by decide +kernel
theorem dX6_bestJoys_14 : decode cX6_bestJoys 14 = .ok (.iload_n 1, 1) := by decide +kernel
theorem dX6_bestJoys_15 : decode cX6_bestJoys 15 = .ok (.bipush 10, 2) := by decide +kernel
theorem dX6_bestJoys_17 : decode cX6_bestJoys 17 = .ok (.idiv, 1) := by decide +kernel
theorem dX6_bestJoys_18 : decode cX6_bestJoys 18 = .ok (.iload_n 1, 1) := by decide +kernel
theorem dX6_bestJoys_19 : decode cX6_bestJoys 19 = .ok (.bipush 10, 2) := by decide +kernel
theorem dX6_bestJoys_21 : decode cX6_bestJoys 21 = .ok (.irem, 1) := by decide +kernel
theorem dX6_bestJoys_22 : decode cX6_bestJoys 22 = .ok (.invokestatic 88, 3) := by decide +kernel
theorem dX6_bestJoys_25 : decode cX6_bestJoys 25 = .ok (.ireturn, 1) := by decide +kernel
theorem dX6_here_0 : decode cX6_here 0 = .ok (.aload_n 0, 1) := by decide +kernel
theorem dX6_here_1 : decode cX6_here 1 = .ok (.getfield 99, 3) := by decide +kernel
theorem dX6_here_4 : decode cX6_here 4 = .ok (.aload_n 0, 1) := by decide +kernel
theorem dX6_here_5 : decode cX6_here 5 = .ok (.getfield 103, 3) := by decide +kernel
theorem dX6_here_8 : decode cX6_here 8 = .ok (.if_icmp .ge 24, 3) := by decide +kernel
theorem dX6_here_11 : decode cX6_here 11 = .ok (.aload_n 0, 1) := by decide +kernel
theorem dX6_here_12 : decode cX6_here 12 = .ok (.getfield 46, 3) := by decide +kernel
theorem dX6_here_15 : decode cX6_here 15 = .ok (.aload_n 0, 1) := by decide +kernel
theorem dX6_here_16 : decode cX6_here 16 = .ok (.getfield 106, 3) := by decide +kernel
theorem dX6_here_19 : decode cX6_here 19 = .ok (.aload_n 0, 1) := by decide +kernel
theorem dX6_here_20 : decode cX6_here 20 = .ok (.getfield 99, 3) := by decide +kernel
theorem dX6_here_23 : decode cX6_here 23 = .ok (.iadd, 1) := by decide +kernel
theorem dX6_here_24 : decode cX6_here 24 = .ok (.iaload, 1) := by decide +kernel
theorem dX6_here_25 : decode cX6_here 25 = .ok (.sipush 255, 3) := by decide +kernel
theorem dX6_here_28 : decode cX6_here 28 = .ok (.iand, 1) := by decide +kernel
theorem dX6_here_29 : decode cX6_here 29 = .ok (.goto 4, 3) := by decide +kernel
theorem dX6_here_32 : decode cX6_here 32 = .ok (.iconst (-1), 1) := by decide +kernel
theorem dX6_here_33 : decode cX6_here 33 = .ok (.ireturn, 1) := by decide +kernel
theorem dX6_readsNumber_0 : decode cX6_readsNumber 0 = .ok (.aload_n 0, 1) := by decide +kernel
theorem dX6_readsNumber_1 : decode cX6_readsNumber 1 = .ok (.getfield 22, 3) := by decide +kernel
theorem dX6_readsNumber_4 : decode cX6_readsNumber 4 = .ok (.iload_n 1, 1) := by decide +kernel
theorem dX6_readsNumber_5 : decode cX6_readsNumber 5 = .ok (.iconst 0, 1) := by decide +kernel
theorem dX6_readsNumber_6 : decode cX6_readsNumber 6 = .ok (.iastore, 1) := by decide +kernel
theorem dX6_readsNumber_7 : decode cX6_readsNumber 7 = .ok (.iconst 0, 1) := by decide +kernel
theorem dX6_readsNumber_8 : decode cX6_readsNumber 8 = .ok (.istore_n 3, 1) := by decide +kernel
theorem dX6_readsNumber_9 : decode cX6_readsNumber 9 = .ok (.iload_n 3, 1) := by decide +kernel
theorem dX6_readsNumber_10 : decode cX6_readsNumber 10 = .ok (.iload_n 2, 1) := by decide +kernel
theorem dX6_readsNumber_11 : decode cX6_readsNumber 11 = .ok (.if_icmp .ge 58, 3) := by decide +kernel
theorem dX6_readsNumber_14 : decode cX6_readsNumber 14 = .ok (.aload_n 0, 1) := by decide +kernel
theorem dX6_readsNumber_15 : decode cX6_readsNumber 15 = .ok (.invokevirtual 109, 3) := by decide +kernel
theorem dX6_readsNumber_18 : decode cX6_readsNumber 18 = .ok (.bipush 48, 2) := by decide +kernel
theorem dX6_readsNumber_20 : decode cX6_readsNumber 20 = .ok (.bipush 57, 2) := by decide +kernel
theorem dX6_readsNumber_22 : decode cX6_readsNumber 22 = .ok (.invokestatic 49, 3) := by decide +kernel
theorem dX6_readsNumber_25 : decode cX6_readsNumber 25 = .ok (.ifCond .ne 5, 3) := by decide +kernel
theorem dX6_readsNumber_28 : decode cX6_readsNumber 28 = .ok (.iconst 0, 1) := by decide +kernel
theorem dX6_readsNumber_29 : decode cX6_readsNumber 29 = .ok (.ireturn, 1) := by decide +kernel
theorem dX6_readsNumber_30 : decode cX6_readsNumber 30 = .ok (.aload_n 0, 1) := by decide +kernel
theorem dX6_readsNumber_31 : decode cX6_readsNumber 31 = .ok (.getfield 22, 3) := by decide +kernel
theorem dX6_readsNumber_34 : decode cX6_readsNumber 34 = .ok (.iload_n 1, 1) := by decide +kernel
theorem dX6_readsNumber_35 : decode cX6_readsNumber 35 = .ok (.bipush 10, 2) := by decide +kernel
theorem dX6_readsNumber_37 : decode cX6_readsNumber 37 = .ok (.aload_n 0, 1) := by decide +kernel
theorem dX6_readsNumber_38 : decode cX6_readsNumber 38 = .ok (.getfield 22, 3) := by decide +kernel
theorem dX6_readsNumber_41 : decode cX6_readsNumber 41 = .ok (.iload_n 1, 1) := by decide +kernel
theorem dX6_readsNumber_42 : decode cX6_readsNumber 42 = .ok (.iaload, 1) := by decide +kernel
theorem dX6_readsNumber_43 : decode cX6_readsNumber 43 = .ok (.imul, 1) := by decide +kernel
theorem dX6_readsNumber_44 : decode cX6_readsNumber 44 = .ok (.aload_n 0, 1) := by decide +kernel
theorem dX6_readsNumber_45 : decode cX6_readsNumber 45 = .ok (.invokevirtual 109, 3) := by decide +kernel
theorem dX6_readsNumber_48 : decode cX6_readsNumber 48 = .ok (.iadd, 1) := by decide +kernel
theorem dX6_readsNumber_49 : decode cX6_readsNumber 49 = .ok (.bipush 48, 2) := by decide +kernel
theorem dX6_readsNumber_51 : decode cX6_readsNumber 51 = .ok (.isub, 1) := by decide +kernel
theorem dX6_readsNumber_52 : decode cX6_readsNumber 52 = .ok (.iastore, 1) := by decide +kernel
theorem dX6_readsNumber_53 : decode cX6_readsNumber 53 = .ok (.aload_n 0, 1) := by decide +kernel
theorem dX6_readsNumber_54 : decode cX6_readsNumber 54 = .ok (.dup, 1) := by decide +kernel
theorem dX6_readsNumber_55 : decode cX6_readsNumber 55 = .ok (.getfield 99, 3) := by decide +kernel
theorem dX6_readsNumber_58 : decode cX6_readsNumber 58 = .ok (.iconst 1, 1) := by decide +kernel
theorem dX6_readsNumber_59 : decode cX6_readsNumber 59 = .ok (.iadd, 1) := by decide +kernel
theorem dX6_readsNumber_60 : decode cX6_readsNumber 60 = .ok (.putfield 99, 3) := by decide +kernel
theorem dX6_readsNumber_63 : decode cX6_readsNumber 63 = .ok (.iinc 3 1, 3) := by decide +kernel
theorem dX6_readsNumber_66 : decode cX6_readsNumber 66 = .ok (.goto (-57), 3) := by decide +kernel
theorem dX6_readsNumber_69 : decode cX6_readsNumber 69 = .ok (.iconst 1, 1) := by decide +kernel
theorem dX6_readsNumber_70 : decode cX6_readsNumber 70 = .ok (.ireturn, 1) := by decide +kernel
theorem dX6_readsStatement_0 : decode cX6_readsStatement 0 = .ok (.aload_n 0, 1) := by decide +kernel
theorem dX6_readsStatement_1 : decode cX6_readsStatement 1 = .ok (.invokevirtual 109, 3) := by decide +kernel
theorem dX6_readsStatement_4 : decode cX6_readsStatement 4 = .ok (.istore_n 1, 1) := by decide +kernel
theorem dX6_readsStatement_5 : decode cX6_readsStatement 5 = .ok (.aload_n 0, 1) := by decide +kernel
theorem dX6_readsStatement_6 : decode cX6_readsStatement 6 = .ok (.dup, 1) := by decide +kernel
theorem dX6_readsStatement_7 : decode cX6_readsStatement 7 = .ok (.getfield 99, 3) := by decide +kernel
theorem dX6_readsStatement_10 : decode cX6_readsStatement 10 = .ok (.iconst 1, 1) := by decide +kernel
theorem dX6_readsStatement_11 : decode cX6_readsStatement 11 = .ok (.iadd, 1) := by decide +kernel
theorem dX6_readsStatement_12 : decode cX6_readsStatement 12 = .ok (.putfield 99, 3) := by decide +kernel
theorem dX6_readsStatement_15 : decode cX6_readsStatement 15 = .ok (.iload_n 1, 1) := by decide +kernel
theorem dX6_readsStatement_16 : decode cX6_readsStatement 16 = .ok (.lookupswitch 161 #[(99, 97), (104, 134), (108, 134), (112, 52), (116, 107)], 52) := by decide +kernel
theorem dX6_readsStatement_68 : decode cX6_readsStatement 68 = .ok (.aload_n 0, 1) := by decide +kernel
theorem dX6_readsStatement_69 : decode cX6_readsStatement 69 = .ok (.iconst 0, 1) := by decide +kernel
theorem dX6_readsStatement_70 : decode cX6_readsStatement 70 = .ok (.iconst 1, 1) := by decide +kernel
theorem dX6_readsStatement_71 : decode cX6_readsStatement 71 = .ok (.invokevirtual 113, 3) := by decide +kernel
theorem dX6_readsStatement_74 : decode cX6_readsStatement 74 = .ok (.ifCond .eq 34, 3) := by decide +kernel
theorem dX6_readsStatement_77 : decode cX6_readsStatement 77 = .ok (.aload_n 0, 1) := by decide +kernel
theorem dX6_readsStatement_78 : decode cX6_readsStatement 78 = .ok (.iconst 1, 1) := by decide +kernel
theorem dX6_readsStatement_79 : decode cX6_readsStatement 79 = .ok (.iconst 1, 1) := by decide +kernel
theorem dX6_readsStatement_80 : decode cX6_readsStatement 80 = .ok (.invokevirtual 113, 3) := by decide +kernel
theorem dX6_readsStatement_83 : decode cX6_readsStatement 83 = .ok (.ifCond .eq 25, 3) := by decide +kernel
theorem dX6_readsStatement_86 : decode cX6_readsStatement 86 = .ok (.aload_n 0, 1) := by decide +kernel
theorem dX6_readsStatement_87 : decode cX6_readsStatement 87 = .ok (.iconst 2, 1) := by decide +kernel
theorem dX6_readsStatement_88 : decode cX6_readsStatement 88 = .ok (.iconst 2, 1) := by decide +kernel
theorem dX6_readsStatement_89 : decode cX6_readsStatement 89 = .ok (.invokevirtual 113, 3) := by decide +kernel
theorem dX6_readsStatement_92 : decode cX6_readsStatement 92 = .ok (.ifCond .eq 16, 3) := by decide +kernel
theorem dX6_readsStatement_95 : decode cX6_readsStatement 95 = .ok (.aload_n 0, 1) := by decide +kernel
theorem dX6_readsStatement_96 : decode cX6_readsStatement 96 = .ok (.iconst 3, 1) := by decide +kernel
theorem dX6_readsStatement_97 : decode cX6_readsStatement 97 = .ok (.iconst 2, 1) := by decide +kernel
theorem dX6_readsStatement_98 : decode cX6_readsStatement 98 = .ok (.invokevirtual 113, 3) := by decide +kernel
theorem dX6_readsStatement_101 : decode cX6_readsStatement 101 = .ok (.ifCond .eq 7, 3) := by decide +kernel
theorem dX6_readsStatement_104 : decode cX6_readsStatement 104 = .ok (.iconst 1, 1) := by decide +kernel
theorem dX6_readsStatement_105 : decode cX6_readsStatement 105 = .ok (.goto 4, 3) := by decide +kernel
theorem dX6_readsStatement_108 : decode cX6_readsStatement 108 = .ok (.iconst 0, 1) := by decide +kernel
theorem dX6_readsStatement_109 : decode cX6_readsStatement 109 = .ok (.istore_n 2, 1) := by decide +kernel
theorem dX6_readsStatement_110 : decode cX6_readsStatement 110 = .ok (.goto 79, 3) := by decide +kernel
theorem dX6_readsStatement_113 : decode cX6_readsStatement 113 = .ok (.aload_n 0, 1) := by decide +kernel
theorem dX6_readsStatement_114 : decode cX6_readsStatement 114 = .ok (.iconst 0, 1) := by decide +kernel
theorem dX6_readsStatement_115 : decode cX6_readsStatement 115 = .ok (.iconst 2, 1) := by decide +kernel
theorem dX6_readsStatement_116 : decode cX6_readsStatement 116 = .ok (.invokevirtual 113, 3) := by decide +kernel
theorem dX6_readsStatement_119 : decode cX6_readsStatement 119 = .ok (.istore_n 2, 1) := by decide +kernel
theorem dX6_readsStatement_120 : decode cX6_readsStatement 120 = .ok (.goto 69, 3) := by decide +kernel
theorem dX6_readsStatement_123 : decode cX6_readsStatement 123 = .ok (.aload_n 0, 1) := by decide +kernel
theorem dX6_readsStatement_124 : decode cX6_readsStatement 124 = .ok (.iconst 0, 1) := by decide +kernel
theorem dX6_readsStatement_125 : decode cX6_readsStatement 125 = .ok (.iconst 1, 1) := by decide +kernel
theorem dX6_readsStatement_126 : decode cX6_readsStatement 126 = .ok (.invokevirtual 113, 3) := by decide +kernel
theorem dX6_readsStatement_129 : decode cX6_readsStatement 129 = .ok (.ifCond .eq 16, 3) := by decide +kernel
theorem dX6_readsStatement_132 : decode cX6_readsStatement 132 = .ok (.aload_n 0, 1) := by decide +kernel
theorem dX6_readsStatement_133 : decode cX6_readsStatement 133 = .ok (.iconst 1, 1) := by decide +kernel
theorem dX6_readsStatement_134 : decode cX6_readsStatement 134 = .ok (.iconst 1, 1) := by decide +kernel
theorem dX6_readsStatement_135 : decode cX6_readsStatement 135 = .ok (.invokevirtual 113, 3) := by decide +kernel
theorem dX6_readsStatement_138 : decode cX6_readsStatement 138 = .ok (.ifCond .eq 7, 3) := by decide +kernel
theorem dX6_readsStatement_141 : decode cX6_readsStatement 141 = .ok (.iconst 1, 1) := by decide +kernel
theorem dX6_readsStatement_142 : decode cX6_readsStatement 142 = .ok (.goto 4, 3) := by decide +kernel
theorem dX6_readsStatement_145 : decode cX6_readsStatement 145 = .ok (.iconst 0, 1) := by decide +kernel
theorem dX6_readsStatement_146 : decode cX6_readsStatement 146 = .ok (.istore_n 2, 1) := by decide +kernel
theorem dX6_readsStatement_147 : decode cX6_readsStatement 147 = .ok (.goto 42, 3) := by decide +kernel
theorem dX6_readsStatement_150 : decode cX6_readsStatement 150 = .ok (.aload_n 0, 1) := by decide +kernel
theorem dX6_readsStatement_151 : decode cX6_readsStatement 151 = .ok (.iconst 0, 1) := by decide +kernel
theorem dX6_readsStatement_152 : decode cX6_readsStatement 152 = .ok (.iconst 1, 1) := by decide +kernel
theorem dX6_readsStatement_153 : decode cX6_readsStatement 153 = .ok (.invokevirtual 113, 3) := by decide +kernel
theorem dX6_readsStatement_156 : decode cX6_readsStatement 156 = .ok (.ifCond .eq 16, 3) := by decide +kernel
theorem dX6_readsStatement_159 : decode cX6_readsStatement 159 = .ok (.aload_n 0, 1) := by decide +kernel
theorem dX6_readsStatement_160 : decode cX6_readsStatement 160 = .ok (.iconst 1, 1) := by decide +kernel
theorem dX6_readsStatement_161 : decode cX6_readsStatement 161 = .ok (.iconst 2, 1) := by decide +kernel
theorem dX6_readsStatement_162 : decode cX6_readsStatement 162 = .ok (.invokevirtual 113, 3) := by decide +kernel
theorem dX6_readsStatement_165 : decode cX6_readsStatement 165 = .ok (.ifCond .eq 7, 3) := by decide +kernel
theorem dX6_readsStatement_168 : decode cX6_readsStatement 168 = .ok (.iconst 1, 1) := by decide +kernel
theorem dX6_readsStatement_169 : decode cX6_readsStatement 169 = .ok (.goto 4, 3) := by decide +kernel
theorem dX6_readsStatement_172 : decode cX6_readsStatement 172 = .ok (.iconst 0, 1) := by decide +kernel
theorem dX6_readsStatement_173 : decode cX6_readsStatement 173 = .ok (.istore_n 2, 1) := by decide +kernel
theorem dX6_readsStatement_174 : decode cX6_readsStatement 174 = .ok (.goto 15, 3) := by decide +kernel
theorem dX6_readsStatement_177 : decode cX6_readsStatement 177 = .ok (.aload_n 0, 1) := by decide +kernel
theorem dX6_readsStatement_178 : decode cX6_readsStatement 178 = .ok (.dup, 1) := by decide +kernel
theorem dX6_readsStatement_179 : decode cX6_readsStatement 179 = .ok (.getfield 99, 3) := by decide +kernel
theorem dX6_readsStatement_182 : decode cX6_readsStatement 182 = .ok (.iconst 1, 1) := by decide +kernel
theorem dX6_readsStatement_183 : decode cX6_readsStatement 183 = .ok (.isub, 1) := by decide +kernel
theorem dX6_readsStatement_184 : decode cX6_readsStatement 184 = .ok (.putfield 99, 3) := by decide +kernel
theorem dX6_readsStatement_187 : decode cX6_readsStatement 187 = .ok (.iconst 0, 1) := by decide +kernel
theorem dX6_readsStatement_188 : decode cX6_readsStatement 188 = .ok (.ireturn, 1) := by decide +kernel
theorem dX6_readsStatement_189 : decode cX6_readsStatement 189 = .ok (.iload_n 2, 1) := by decide +kernel
theorem dX6_readsStatement_190 : decode cX6_readsStatement 190 = .ok (.ifCond .eq 12, 3) := by decide +kernel
theorem dX6_readsStatement_193 : decode cX6_readsStatement 193 = .ok (.aload_n 0, 1) := by decide +kernel
theorem dX6_readsStatement_194 : decode cX6_readsStatement 194 = .ok (.invokevirtual 109, 3) := by decide +kernel
theorem dX6_readsStatement_197 : decode cX6_readsStatement 197 = .ok (.bipush 59, 2) := by decide +kernel
theorem dX6_readsStatement_199 : decode cX6_readsStatement 199 = .ok (.if_icmp .eq 5, 3) := by decide +kernel
theorem dX6_readsStatement_202 : decode cX6_readsStatement 202 = .ok (.iconst 0, 1) := by decide +kernel
theorem dX6_readsStatement_203 : decode cX6_readsStatement 203 = .ok (.ireturn, 1) := by decide +kernel
theorem dX6_readsStatement_204 : decode cX6_readsStatement 204 = .ok (.aload_n 0, 1) := by decide +kernel
theorem dX6_readsStatement_205 : decode cX6_readsStatement 205 = .ok (.dup, 1) := by decide +kernel
theorem dX6_readsStatement_206 : decode cX6_readsStatement 206 = .ok (.getfield 99, 3) := by decide +kernel
theorem dX6_readsStatement_209 : decode cX6_readsStatement 209 = .ok (.iconst 1, 1) := by decide +kernel
theorem dX6_readsStatement_210 : decode cX6_readsStatement 210 = .ok (.iadd, 1) := by decide +kernel
theorem dX6_readsStatement_211 : decode cX6_readsStatement 211 = .ok (.putfield 99, 3) := by decide +kernel
theorem dX6_readsStatement_214 : decode cX6_readsStatement 214 = .ok (.iconst 1, 1) := by decide +kernel
theorem dX6_readsStatement_215 : decode cX6_readsStatement 215 = .ok (.ireturn, 1) := by decide +kernel
theorem dX6_adds_0 : decode cX6_adds 0 = .ok (.aload_n 0, 1) := by decide +kernel
theorem dX6_adds_1 : decode cX6_adds 1 = .ok (.iconst 0, 1) := by decide +kernel
theorem dX6_adds_2 : decode cX6_adds 2 = .ok (.iaload, 1) := by decide +kernel
theorem dX6_adds_3 : decode cX6_adds 3 = .ok (.istore 5, 2) := by decide +kernel
theorem dX6_adds_5 : decode cX6_adds 5 = .ok (.aload_n 0, 1) := by decide +kernel
theorem dX6_adds_6 : decode cX6_adds 6 = .ok (.iload 5, 2) := by decide +kernel
theorem dX6_adds_8 : decode cX6_adds 8 = .ok (.iconst 0, 1) := by decide +kernel
theorem dX6_adds_9 : decode cX6_adds 9 = .ok (.invokestatic 53, 3) := by decide +kernel
theorem dX6_adds_12 : decode cX6_adds 12 = .ok (.iload_n 1, 1) := by decide +kernel
theorem dX6_adds_13 : decode cX6_adds 13 = .ok (.iastore, 1) := by decide +kernel
theorem dX6_adds_14 : decode cX6_adds 14 = .ok (.aload_n 0, 1) := by decide +kernel
theorem dX6_adds_15 : decode cX6_adds 15 = .ok (.iload 5, 2) := by decide +kernel
theorem dX6_adds_17 : decode cX6_adds 17 = .ok (.iconst 1, 1) := by decide +kernel
theorem dX6_adds_18 : decode cX6_adds 18 = .ok (.invokestatic 53, 3) := by decide +kernel
theorem dX6_adds_21 : decode cX6_adds 21 = .ok (.iload_n 2, 1) := by decide +kernel
theorem dX6_adds_22 : decode cX6_adds 22 = .ok (.iastore, 1) := by decide +kernel
theorem dX6_adds_23 : decode cX6_adds 23 = .ok (.aload_n 0, 1) := by decide +kernel
theorem dX6_adds_24 : decode cX6_adds 24 = .ok (.iload 5, 2) := by decide +kernel
theorem dX6_adds_26 : decode cX6_adds 26 = .ok (.iconst 2, 1) := by decide +kernel
theorem dX6_adds_27 : decode cX6_adds 27 = .ok (.invokestatic 53, 3) := by decide +kernel
theorem dX6_adds_30 : decode cX6_adds 30 = .ok (.iload_n 3, 1) := by decide +kernel
theorem dX6_adds_31 : decode cX6_adds 31 = .ok (.iastore, 1) := by decide +kernel
theorem dX6_adds_32 : decode cX6_adds 32 = .ok (.aload_n 0, 1) := by decide +kernel
theorem dX6_adds_33 : decode cX6_adds 33 = .ok (.iload 5, 2) := by decide +kernel
theorem dX6_adds_35 : decode cX6_adds 35 = .ok (.iconst 3, 1) := by decide +kernel
theorem dX6_adds_36 : decode cX6_adds 36 = .ok (.invokestatic 53, 3) := by decide +kernel
theorem dX6_adds_39 : decode cX6_adds 39 = .ok (.iload 4, 2) := by decide +kernel
theorem dX6_adds_41 : decode cX6_adds 41 = .ok (.iastore, 1) := by decide +kernel
theorem dX6_adds_42 : decode cX6_adds 42 = .ok (.aload_n 0, 1) := by decide +kernel
theorem dX6_adds_43 : decode cX6_adds 43 = .ok (.iload 5, 2) := by decide +kernel
theorem dX6_adds_45 : decode cX6_adds 45 = .ok (.iconst 4, 1) := by decide +kernel
theorem dX6_adds_46 : decode cX6_adds 46 = .ok (.invokestatic 53, 3) := by decide +kernel
theorem dX6_adds_49 : decode cX6_adds 49 = .ok (.iconst 0, 1) := by decide +kernel
theorem dX6_adds_50 : decode cX6_adds 50 = .ok (.iastore, 1) := by decide +kernel
theorem dX6_adds_51 : decode cX6_adds 51 = .ok (.aload_n 0, 1) := by decide +kernel
theorem dX6_adds_52 : decode cX6_adds 52 = .ok (.iload 5, 2) := by decide +kernel
theorem dX6_adds_54 : decode cX6_adds 54 = .ok (.iconst 5, 1) := by decide +kernel
theorem dX6_adds_55 : decode cX6_adds 55 = .ok (.invokestatic 53, 3) := by decide +kernel
theorem dX6_adds_58 : decode cX6_adds 58 = .ok (.iconst 0, 1) := by decide +kernel
theorem dX6_adds_59 : decode cX6_adds 59 = .ok (.iastore, 1) := by decide +kernel
theorem dX6_adds_60 : decode cX6_adds 60 = .ok (.aload_n 0, 1) := by decide +kernel
theorem dX6_adds_61 : decode cX6_adds 61 = .ok (.iconst 0, 1) := by decide +kernel
theorem dX6_adds_62 : decode cX6_adds 62 = .ok (.dup2, 1) := by decide +kernel
theorem dX6_adds_63 : decode cX6_adds 63 = .ok (.iaload, 1) := by decide +kernel
theorem dX6_adds_64 : decode cX6_adds 64 = .ok (.iconst 1, 1) := by decide +kernel
theorem dX6_adds_65 : decode cX6_adds 65 = .ok (.iadd, 1) := by decide +kernel
theorem dX6_adds_66 : decode cX6_adds 66 = .ok (.iastore, 1) := by decide +kernel
theorem dX6_adds_67 : decode cX6_adds 67 = .ok (.return_, 1) := by decide +kernel
theorem dX6_isDone_0 : decode cX6_isDone 0 = .ok (.aload_n 0, 1) := by decide +kernel
theorem dX6_isDone_1 : decode cX6_isDone 1 = .ok (.getfield 22, 3) := by decide +kernel
theorem dX6_isDone_4 : decode cX6_isDone 4 = .ok (.iconst 0, 1) := by decide +kernel
theorem dX6_isDone_5 : decode cX6_isDone 5 = .ok (.iaload, 1) := by decide +kernel
theorem dX6_isDone_6 : decode cX6_isDone 6 = .ok (.istore_n 2, 1) := by decide +kernel
theorem dX6_isDone_7 : decode cX6_isDone 7 = .ok (.aload_n 0, 1) := by decide +kernel
theorem dX6_isDone_8 : decode cX6_isDone 8 = .ok (.getfield 22, 3) := by decide +kernel
theorem dX6_isDone_11 : decode cX6_isDone 11 = .ok (.iconst 1, 1) := by decide +kernel
theorem dX6_isDone_12 : decode cX6_isDone 12 = .ok (.iaload, 1) := by decide +kernel
theorem dX6_isDone_13 : decode cX6_isDone 13 = .ok (.istore_n 3, 1) := by decide +kernel
theorem dX6_isDone_14 : decode cX6_isDone 14 = .ok (.iload_n 1, 1) := by decide +kernel
theorem dX6_isDone_15 : decode cX6_isDone 15 = .ok (.lookupswitch 161 #[(99, 97), (112, 33), (116, 106)], 33) := by decide +kernel
theorem dX6_isDone_48 : decode cX6_isDone 48 = .ok (.iload_n 2, 1) := by decide +kernel
theorem dX6_isDone_49 : decode cX6_isDone 49 = .ok (.bipush 8, 2) := by decide +kernel
theorem dX6_isDone_51 : decode cX6_isDone 51 = .ok (.if_icmp .ge 36, 3) := by decide +kernel
theorem dX6_isDone_54 : decode cX6_isDone 54 = .ok (.aload_n 0, 1) := by decide +kernel
theorem dX6_isDone_55 : decode cX6_isDone 55 = .ok (.getfield 22, 3) := by decide +kernel
theorem dX6_isDone_58 : decode cX6_isDone 58 = .ok (.iconst 2, 1) := by decide +kernel
theorem dX6_isDone_59 : decode cX6_isDone 59 = .ok (.iaload, 1) := by decide +kernel
theorem dX6_isDone_60 : decode cX6_isDone 60 = .ok (.bipush 30, 2) := by decide +kernel
theorem dX6_isDone_62 : decode cX6_isDone 62 = .ok (.if_icmp .gt 25, 3) := by decide +kernel
theorem dX6_isDone_65 : decode cX6_isDone 65 = .ok (.aload_n 0, 1) := by decide +kernel
theorem dX6_isDone_66 : decode cX6_isDone 66 = .ok (.getfield 22, 3) := by decide +kernel
theorem dX6_isDone_69 : decode cX6_isDone 69 = .ok (.iconst 3, 1) := by decide +kernel
theorem dX6_isDone_70 : decode cX6_isDone 70 = .ok (.iaload, 1) := by decide +kernel
theorem dX6_isDone_71 : decode cX6_isDone 71 = .ok (.bipush 30, 2) := by decide +kernel
theorem dX6_isDone_73 : decode cX6_isDone 73 = .ok (.if_icmp .gt 14, 3) := by decide +kernel
theorem dX6_isDone_76 : decode cX6_isDone 76 = .ok (.aload_n 0, 1) := by decide +kernel
theorem dX6_isDone_77 : decode cX6_isDone 77 = .ok (.getfield 9, 3) := by decide +kernel
theorem dX6_isDone_80 : decode cX6_isDone 80 = .ok (.iconst 0, 1) := by decide +kernel
theorem dX6_isDone_81 : decode cX6_isDone 81 = .ok (.iaload, 1) := by decide +kernel
theorem dX6_isDone_82 : decode cX6_isDone 82 = .ok (.bipush 8, 2) := by decide +kernel
theorem dX6_isDone_84 : decode cX6_isDone 84 = .ok (.if_icmp .ne 5, 3) := by decide +kernel
theorem dX6_isDone_87 : decode cX6_isDone 87 = .ok (.iconst 0, 1) := by decide +kernel
theorem dX6_isDone_88 : decode cX6_isDone 88 = .ok (.ireturn, 1) := by decide +kernel
theorem dX6_isDone_89 : decode cX6_isDone 89 = .ok (.aload_n 0, 1) := by decide +kernel
theorem dX6_isDone_90 : decode cX6_isDone 90 = .ok (.getfield 9, 3) := by decide +kernel
theorem dX6_isDone_93 : decode cX6_isDone 93 = .ok (.iload_n 2, 1) := by decide +kernel
theorem dX6_isDone_94 : decode cX6_isDone 94 = .ok (.iload_n 3, 1) := by decide +kernel
theorem dX6_isDone_95 : decode cX6_isDone 95 = .ok (.aload_n 0, 1) := by decide +kernel
theorem dX6_isDone_96 : decode cX6_isDone 96 = .ok (.getfield 22, 3) := by decide +kernel
theorem dX6_isDone_99 : decode cX6_isDone 99 = .ok (.iconst 2, 1) := by decide +kernel
theorem dX6_isDone_100 : decode cX6_isDone 100 = .ok (.iaload, 1) := by decide +kernel
theorem dX6_isDone_101 : decode cX6_isDone 101 = .ok (.aload_n 0, 1) := by decide +kernel
theorem dX6_isDone_102 : decode cX6_isDone 102 = .ok (.getfield 22, 3) := by decide +kernel
theorem dX6_isDone_105 : decode cX6_isDone 105 = .ok (.iconst 3, 1) := by decide +kernel
theorem dX6_isDone_106 : decode cX6_isDone 106 = .ok (.iaload, 1) := by decide +kernel
theorem dX6_isDone_107 : decode cX6_isDone 107 = .ok (.invokestatic 117, 3) := by decide +kernel
theorem dX6_isDone_110 : decode cX6_isDone 110 = .ok (.iconst 1, 1) := by decide +kernel
theorem dX6_isDone_111 : decode cX6_isDone 111 = .ok (.ireturn, 1) := by decide +kernel
theorem dX6_isDone_112 : decode cX6_isDone 112 = .ok (.aload_n 0, 1) := by decide +kernel
theorem dX6_isDone_113 : decode cX6_isDone 113 = .ok (.getfield 9, 3) := by decide +kernel
theorem dX6_isDone_116 : decode cX6_isDone 116 = .ok (.iconst 1, 1) := by decide +kernel
theorem dX6_isDone_117 : decode cX6_isDone 117 = .ok (.iload_n 2, 1) := by decide +kernel
theorem dX6_isDone_118 : decode cX6_isDone 118 = .ok (.iastore, 1) := by decide +kernel
theorem dX6_isDone_119 : decode cX6_isDone 119 = .ok (.iconst 1, 1) := by decide +kernel
theorem dX6_isDone_120 : decode cX6_isDone 120 = .ok (.ireturn, 1) := by decide +kernel
theorem dX6_isDone_121 : decode cX6_isDone 121 = .ok (.aload_n 0, 1) := by decide +kernel
theorem dX6_isDone_122 : decode cX6_isDone 122 = .ok (.iload_n 2, 1) := by decide +kernel
theorem dX6_isDone_123 : decode cX6_isDone 123 = .ok (.invokevirtual 121, 3) := by decide +kernel
theorem dX6_isDone_126 : decode cX6_isDone 126 = .ok (.ifCond .eq 35, 3) := by decide +kernel
theorem dX6_isDone_129 : decode cX6_isDone 129 = .ok (.aload_n 0, 1) := by decide +kernel
theorem dX6_isDone_130 : decode cX6_isDone 130 = .ok (.iload_n 3, 1) := by decide +kernel
theorem dX6_isDone_131 : decode cX6_isDone 131 = .ok (.invokevirtual 121, 3) := by decide +kernel
theorem dX6_isDone_134 : decode cX6_isDone 134 = .ok (.ifCond .eq 27, 3) := by decide +kernel
theorem dX6_isDone_137 : decode cX6_isDone 137 = .ok (.aload_n 0, 1) := by decide +kernel
theorem dX6_isDone_138 : decode cX6_isDone 138 = .ok (.getfield 9, 3) := by decide +kernel
theorem dX6_isDone_141 : decode cX6_isDone 141 = .ok (.iload_n 2, 1) := by decide +kernel
theorem dX6_isDone_142 : decode cX6_isDone 142 = .ok (.iload_n 3, 1) := by decide +kernel
theorem dX6_isDone_143 : decode cX6_isDone 143 = .ok (.invokestatic 91, 3) := by decide +kernel
theorem dX6_isDone_146 : decode cX6_isDone 146 = .ok (.ifCond .eq 15, 3) := by decide +kernel
theorem dX6_isDone_149 : decode cX6_isDone 149 = .ok (.aload_n 0, 1) := by decide +kernel
theorem dX6_isDone_150 : decode cX6_isDone 150 = .ok (.getfield 9, 3) := by decide +kernel
theorem dX6_isDone_153 : decode cX6_isDone 153 = .ok (.iconst 2, 1) := by decide +kernel
theorem dX6_isDone_154 : decode cX6_isDone 154 = .ok (.iaload, 1) := by decide +kernel
theorem dX6_isDone_155 : decode cX6_isDone 155 = .ok (.sipush 999, 3) := by decide +kernel
theorem dX6_isDone_158 : decode cX6_isDone 158 = .ok (.if_icmp .ne 5, 3) := by decide +kernel
theorem dX6_isDone_161 : decode cX6_isDone 161 = .ok (.iconst 0, 1) := by decide +kernel
theorem dX6_isDone_162 : decode cX6_isDone 162 = .ok (.ireturn, 1) := by decide +kernel
theorem dX6_isDone_163 : decode cX6_isDone 163 = .ok (.aload_n 0, 1) := by decide +kernel
theorem dX6_isDone_164 : decode cX6_isDone 164 = .ok (.getfield 9, 3) := by decide +kernel
theorem dX6_isDone_167 : decode cX6_isDone 167 = .ok (.iload_n 2, 1) := by decide +kernel
theorem dX6_isDone_168 : decode cX6_isDone 168 = .ok (.iload_n 3, 1) := by decide +kernel
theorem dX6_isDone_169 : decode cX6_isDone 169 = .ok (.invokestatic 125, 3) := by decide +kernel
theorem dX6_isDone_172 : decode cX6_isDone 172 = .ok (.istore 4, 2) := by decide +kernel
theorem dX6_isDone_174 : decode cX6_isDone 174 = .ok (.iconst 1, 1) := by decide +kernel
theorem dX6_isDone_175 : decode cX6_isDone 175 = .ok (.ireturn, 1) := by decide +kernel
theorem dX6_isDone_176 : decode cX6_isDone 176 = .ok (.aload_n 0, 1) := by decide +kernel
theorem dX6_isDone_177 : decode cX6_isDone 177 = .ok (.iload_n 2, 1) := by decide +kernel
theorem dX6_isDone_178 : decode cX6_isDone 178 = .ok (.invokevirtual 121, 3) := by decide +kernel
theorem dX6_isDone_181 : decode cX6_isDone 181 = .ok (.ifCond .eq 9, 3) := by decide +kernel
theorem dX6_isDone_184 : decode cX6_isDone 184 = .ok (.iload_n 3, 1) := by decide +kernel
theorem dX6_isDone_185 : decode cX6_isDone 185 = .ok (.bipush 30, 2) := by decide +kernel
theorem dX6_isDone_187 : decode cX6_isDone 187 = .ok (.if_icmp .le 5, 3) := by decide +kernel
theorem dX6_isDone_190 : decode cX6_isDone 190 = .ok (.iconst 0, 1) := by decide +kernel
theorem dX6_isDone_191 : decode cX6_isDone 191 = .ok (.ireturn, 1) := by decide +kernel
theorem dX6_isDone_192 : decode cX6_isDone 192 = .ok (.aload_n 0, 1) := by decide +kernel
theorem dX6_isDone_193 : decode cX6_isDone 193 = .ok (.getfield 9, 3) := by decide +kernel
theorem dX6_isDone_196 : decode cX6_isDone 196 = .ok (.iload_n 2, 1) := by decide +kernel
theorem dX6_isDone_197 : decode cX6_isDone 197 = .ok (.iload_n 1, 1) := by decide +kernel
theorem dX6_isDone_198 : decode cX6_isDone 198 = .ok (.bipush 104, 2) := by decide +kernel
theorem dX6_isDone_200 : decode cX6_isDone 200 = .ok (.if_icmp .ne 7, 3) := by decide +kernel
theorem dX6_isDone_203 : decode cX6_isDone 203 = .ok (.iconst 2, 1) := by decide +kernel
theorem dX6_isDone_204 : decode cX6_isDone 204 = .ok (.goto 4, 3) := by decide +kernel
theorem dX6_isDone_207 : decode cX6_isDone 207 = .ok (.iconst 3, 1) := by decide +kernel
theorem dX6_isDone_208 : decode cX6_isDone 208 = .ok (.invokestatic 53, 3) := by decide +kernel
theorem dX6_isDone_211 : decode cX6_isDone 211 = .ok (.iload_n 3, 1) := by decide +kernel
theorem dX6_isDone_212 : decode cX6_isDone 212 = .ok (.iastore, 1) := by decide +kernel
theorem dX6_isDone_213 : decode cX6_isDone 213 = .ok (.iconst 1, 1) := by decide +kernel
theorem dX6_isDone_214 : decode cX6_isDone 214 = .ok (.ireturn, 1) := by decide +kernel
theorem dX6_fete_0 : decode cX6_fete 0 = .ok (.aload_n 0, 1) := by decide +kernel
theorem dX6_fete_1 : decode cX6_fete 1 = .ok (.iload_n 1, 1) := by decide +kernel
theorem dX6_fete_2 : decode cX6_fete 2 = .ok (.iconst 0, 1) := by decide +kernel
theorem dX6_fete_3 : decode cX6_fete 3 = .ok (.invokevirtual 128, 3) := by decide +kernel
theorem dX6_fete_6 : decode cX6_fete 6 = .ok (.istore_n 2, 1) := by decide +kernel
theorem dX6_fete_7 : decode cX6_fete 7 = .ok (.iload_n 2, 1) := by decide +kernel
theorem dX6_fete_8 : decode cX6_fete 8 = .ok (.ifCond .eq 5, 3) := by decide +kernel
theorem dX6_fete_11 : decode cX6_fete 11 = .ok (.iload_n 2, 1) := by decide +kernel
theorem dX6_fete_12 : decode cX6_fete 12 = .ok (.ireturn, 1) := by decide +kernel
theorem dX6_fete_13 : decode cX6_fete 13 = .ok (.aload_n 0, 1) := by decide +kernel
theorem dX6_fete_14 : decode cX6_fete 14 = .ok (.bipush 100, 2) := by decide +kernel
theorem dX6_fete_16 : decode cX6_fete 16 = .ok (.iload_n 1, 1) := by decide +kernel
theorem dX6_fete_17 : decode cX6_fete 17 = .ok (.imul, 1) := by decide +kernel
theorem dX6_fete_18 : decode cX6_fete 18 = .ok (.putfield 106, 3) := by decide +kernel
theorem dX6_fete_21 : decode cX6_fete 21 = .ok (.aload_n 0, 1) := by decide +kernel
theorem dX6_fete_22 : decode cX6_fete 22 = .ok (.aload_n 0, 1) := by decide +kernel
theorem dX6_fete_23 : decode cX6_fete 23 = .ok (.getfield 43, 3) := by decide +kernel
theorem dX6_fete_26 : decode cX6_fete 26 = .ok (.iload_n 1, 1) := by decide +kernel
theorem dX6_fete_27 : decode cX6_fete 27 = .ok (.iaload, 1) := by decide +kernel
theorem dX6_fete_28 : decode cX6_fete 28 = .ok (.putfield 103, 3) := by decide +kernel
theorem dX6_fete_31 : decode cX6_fete 31 = .ok (.aload_n 0, 1) := by decide +kernel
theorem dX6_fete_32 : decode cX6_fete 32 = .ok (.iconst 0, 1) := by decide +kernel
theorem dX6_fete_33 : decode cX6_fete 33 = .ok (.putfield 99, 3) := by decide +kernel
theorem dX6_fete_36 : decode cX6_fete 36 = .ok (.iconst 0, 1) := by decide +kernel
theorem dX6_fete_37 : decode cX6_fete 37 = .ok (.istore_n 3, 1) := by decide +kernel
theorem dX6_fete_38 : decode cX6_fete 38 = .ok (.iconst 0, 1) := by decide +kernel
theorem dX6_fete_39 : decode cX6_fete 39 = .ok (.istore 4, 2) := by decide +kernel
theorem dX6_fete_41 : decode cX6_fete 41 = .ok (.aload_n 0, 1) := by decide +kernel
theorem dX6_fete_42 : decode cX6_fete 42 = .ok (.invokevirtual 131, 3) := by decide +kernel
theorem dX6_fete_45 : decode cX6_fete 45 = .ok (.ifCond .ne 13, 3) := by decide +kernel
theorem dX6_fete_48 : decode cX6_fete 48 = .ok (.sipush (-1000), 3) := by decide +kernel
theorem dX6_fete_51 : decode cX6_fete 51 = .ok (.aload_n 0, 1) := by decide +kernel
theorem dX6_fete_52 : decode cX6_fete 52 = .ok (.getfield 99, 3) := by decide +kernel
theorem dX6_fete_55 : decode cX6_fete 55 = .ok (.isub, 1) := by decide +kernel
theorem dX6_fete_56 : decode cX6_fete 56 = .ok (.istore 4, 2) := by decide +kernel
theorem dX6_fete_58 : decode cX6_fete 58 = .ok (.iinc 3 1, 3) := by decide +kernel
theorem dX6_fete_61 : decode cX6_fete 61 = .ok (.iload 4, 2) := by decide +kernel
theorem dX6_fete_63 : decode cX6_fete 63 = .ok (.ifCond .ne 14, 3) := by decide +kernel
theorem dX6_fete_66 : decode cX6_fete 66 = .ok (.aload_n 0, 1) := by decide +kernel
theorem dX6_fete_67 : decode cX6_fete 67 = .ok (.getfield 99, 3) := by decide +kernel
theorem dX6_fete_70 : decode cX6_fete 70 = .ok (.aload_n 0, 1) := by decide +kernel
theorem dX6_fete_71 : decode cX6_fete 71 = .ok (.getfield 103, 3) := by decide +kernel
theorem dX6_fete_74 : decode cX6_fete 74 = .ok (.if_icmp .lt (-33), 3) := by decide +kernel
theorem dX6_fete_77 : decode cX6_fete 77 = .ok (.aload_n 0, 1) := by decide +kernel
theorem dX6_fete_78 : decode cX6_fete 78 = .ok (.getfield 9, 3) := by decide +kernel
theorem dX6_fete_81 : decode cX6_fete 81 = .ok (.aload_n 0, 1) := by decide +kernel
theorem dX6_fete_82 : decode cX6_fete 82 = .ok (.getfield 19, 3) := by decide +kernel
theorem dX6_fete_85 : decode cX6_fete 85 = .ok (.invokestatic 135, 3) := by decide +kernel
theorem dX6_fete_88 : decode cX6_fete 88 = .ok (.aload_n 0, 1) := by decide +kernel
theorem dX6_fete_89 : decode cX6_fete 89 = .ok (.iconst 0, 1) := by decide +kernel
theorem dX6_fete_90 : decode cX6_fete 90 = .ok (.putfield 99, 3) := by decide +kernel
theorem dX6_fete_93 : decode cX6_fete 93 = .ok (.iload 4, 2) := by decide +kernel
theorem dX6_fete_95 : decode cX6_fete 95 = .ok (.ifCond .ne 66, 3) := by decide +kernel
theorem dX6_fete_98 : decode cX6_fete 98 = .ok (.aload_n 0, 1) := by decide +kernel
theorem dX6_fete_99 : decode cX6_fete 99 = .ok (.getfield 99, 3) := by decide +kernel
theorem dX6_fete_102 : decode cX6_fete 102 = .ok (.aload_n 0, 1) := by decide +kernel
theorem dX6_fete_103 : decode cX6_fete 103 = .ok (.getfield 103, 3) := by decide +kernel
theorem dX6_fete_106 : decode cX6_fete 106 = .ok (.if_icmp .ge 55, 3) := by decide +kernel
theorem dX6_fete_109 : decode cX6_fete 109 = .ok (.aload_n 0, 1) := by decide +kernel
theorem dX6_fete_110 : decode cX6_fete 110 = .ok (.getfield 99, 3) := by decide +kernel
theorem dX6_fete_113 : decode cX6_fete 113 = .ok (.istore 5, 2) := by decide +kernel
theorem dX6_fete_115 : decode cX6_fete 115 = .ok (.aload_n 0, 1) := by decide +kernel
theorem dX6_fete_116 : decode cX6_fete 116 = .ok (.invokevirtual 109, 3) := by decide +kernel
theorem dX6_fete_119 : decode cX6_fete 119 = .ok (.istore 6, 2) := by decide +kernel
theorem dX6_fete_121 : decode cX6_fete 121 = .ok (.aload_n 0, 1) := by decide +kernel
theorem dX6_fete_122 : decode cX6_fete 122 = .ok (.invokevirtual 131, 3) := by decide +kernel
theorem dX6_fete_125 : decode cX6_fete 125 = .ok (.istore 7, 2) := by decide +kernel
theorem dX6_fete_127 : decode cX6_fete 127 = .ok (.aload_n 0, 1) := by decide +kernel
theorem dX6_fete_128 : decode cX6_fete 128 = .ok (.iload 6, 2) := by decide +kernel
theorem dX6_fete_130 : decode cX6_fete 130 = .ok (.invokevirtual 139, 3) := by decide +kernel
theorem dX6_fete_133 : decode cX6_fete 133 = .ok (.ifCond .eq 6, 3) := by decide +kernel
theorem dX6_fete_136 : decode cX6_fete 136 = .ok (.goto (-43), 3) := by decide +kernel
theorem dX6_fete_139 : decode cX6_fete 139 = .ok (.sipush (-2000), 3) := by decide +kernel
theorem dX6_fete_142 : decode cX6_fete 142 = .ok (.iload 5, 2) := by decide +kernel
theorem dX6_fete_144 : decode cX6_fete 144 = .ok (.isub, 1) := by decide +kernel
theorem dX6_fete_145 : decode cX6_fete 145 = .ok (.istore 4, 2) := by decide +kernel
theorem dX6_fete_147 : decode cX6_fete 147 = .ok (.aload_n 0, 1) := by decide +kernel
theorem dX6_fete_148 : decode cX6_fete 148 = .ok (.getfield 19, 3) := by decide +kernel
theorem dX6_fete_151 : decode cX6_fete 151 = .ok (.aload_n 0, 1) := by decide +kernel
theorem dX6_fete_152 : decode cX6_fete 152 = .ok (.getfield 9, 3) := by decide +kernel
theorem dX6_fete_155 : decode cX6_fete 155 = .ok (.invokestatic 135, 3) := by decide +kernel
theorem dX6_fete_158 : decode cX6_fete 158 = .ok (.goto (-65), 3) := by decide +kernel
theorem dX6_fete_161 : decode cX6_fete 161 = .ok (.iload 4, 2) := by decide +kernel
theorem dX6_fete_163 : decode cX6_fete 163 = .ok (.ifCond .ne 7, 3) := by decide +kernel
theorem dX6_fete_166 : decode cX6_fete 166 = .ok (.iload_n 3, 1) := by decide +kernel
theorem dX6_fete_167 : decode cX6_fete 167 = .ok (.goto 5, 3) := by decide +kernel
theorem dX6_fete_170 : decode cX6_fete 170 = .ok (.iload 4, 2) := by decide +kernel
theorem dX6_fete_172 : decode cX6_fete 172 = .ok (.ireturn, 1) := by decide +kernel
theorem dX6_person_0 : decode cX6_person 0 = .ok (.aload_n 0, 1) := by decide +kernel
theorem dX6_person_1 : decode cX6_person 1 = .ok (.iload_n 1, 1) := by decide +kernel
theorem dX6_person_2 : decode cX6_person 2 = .ok (.invokevirtual 121, 3) := by decide +kernel
theorem dX6_person_5 : decode cX6_person 5 = .ok (.ifCond .eq 13, 3) := by decide +kernel
theorem dX6_person_8 : decode cX6_person 8 = .ok (.iload_n 2, 1) := by decide +kernel
theorem dX6_person_9 : decode cX6_person 9 = .ok (.iconst 0, 1) := by decide +kernel
theorem dX6_person_10 : decode cX6_person 10 = .ok (.bipush 8, 2) := by decide +kernel
theorem dX6_person_12 : decode cX6_person 12 = .ok (.invokestatic 49, 3) := by decide +kernel
theorem dX6_person_15 : decode cX6_person 15 = .ok (.ifCond .ne 5, 3) := by decide +kernel
theorem dX6_person_18 : decode cX6_person 18 = .ok (.iconst (-1), 1) := by decide +kernel
theorem dX6_person_19 : decode cX6_person 19 = .ok (.ireturn, 1) := by decide +kernel
theorem dX6_person_20 : decode cX6_person 20 = .ok (.aload_n 0, 1) := by decide +kernel
theorem dX6_person_21 : decode cX6_person 21 = .ok (.getfield 9, 3) := by decide +kernel
theorem dX6_person_24 : decode cX6_person 24 = .ok (.iload_n 1, 1) := by decide +kernel
theorem dX6_person_25 : decode cX6_person 25 = .ok (.iconst 0, 1) := by decide +kernel
theorem dX6_person_26 : decode cX6_person 26 = .ok (.invokestatic 53, 3) := by decide +kernel
theorem dX6_person_29 : decode cX6_person 29 = .ok (.iaload, 1) := by decide +kernel
theorem dX6_person_30 : decode cX6_person 30 = .ok (.istore_n 3, 1) := by decide +kernel
theorem dX6_person_31 : decode cX6_person 31 = .ok (.aload_n 0, 1) := by decide +kernel
theorem dX6_person_32 : decode cX6_person 32 = .ok (.getfield 9, 3) := by decide +kernel
theorem dX6_person_35 : decode cX6_person 35 = .ok (.iload_n 1, 1) := by decide +kernel
theorem dX6_person_36 : decode cX6_person 36 = .ok (.iconst 1, 1) := by decide +kernel
theorem dX6_person_37 : decode cX6_person 37 = .ok (.invokestatic 53, 3) := by decide +kernel
theorem dX6_person_40 : decode cX6_person 40 = .ok (.iaload, 1) := by decide +kernel
theorem dX6_person_41 : decode cX6_person 41 = .ok (.istore 4, 2) := by decide +kernel
theorem dX6_person_43 : decode cX6_person 43 = .ok (.iload_n 2, 1) := by decide +kernel
theorem dX6_person_44 : decode cX6_person 44 = .ok (.bipush 6, 2) := by decide +kernel
theorem dX6_person_46 : decode cX6_person 46 = .ok (.if_icmp .ge 16, 3) := by decide +kernel
theorem dX6_person_49 : decode cX6_person 49 = .ok (.aload_n 0, 1) := by decide +kernel
theorem dX6_person_50 : decode cX6_person 50 = .ok (.getfield 9, 3) := by decide +kernel
theorem dX6_person_53 : decode cX6_person 53 = .ok (.iload_n 1, 1) := by decide +kernel
theorem dX6_person_54 : decode cX6_person 54 = .ok (.iload_n 2, 1) := by decide +kernel
theorem dX6_person_55 : decode cX6_person 55 = .ok (.invokestatic 53, 3) := by decide +kernel
theorem dX6_person_58 : decode cX6_person 58 = .ok (.iaload, 1) := by decide +kernel
theorem dX6_person_59 : decode cX6_person 59 = .ok (.goto 37, 3) := by decide +kernel
theorem dX6_person_62 : decode cX6_person 62 = .ok (.iload_n 2, 1) := by decide +kernel
theorem dX6_person_63 : decode cX6_person 63 = .ok (.bipush 6, 2) := by decide +kernel
theorem dX6_person_65 : decode cX6_person 65 = .ok (.if_icmp .ne 12, 3) := by decide +kernel
theorem dX6_person_68 : decode cX6_person 68 = .ok (.iload_n 3, 1) := by decide +kernel
theorem dX6_person_69 : decode cX6_person 69 = .ok (.iload 4, 2) := by decide +kernel
theorem dX6_person_71 : decode cX6_person 71 = .ok (.invokestatic 57, 3) := by decide +kernel
theorem dX6_person_74 : decode cX6_person 74 = .ok (.goto 22, 3) := by decide +kernel
theorem dX6_person_77 : decode cX6_person 77 = .ok (.iload_n 2, 1) := by decide +kernel
theorem dX6_person_78 : decode cX6_person 78 = .ok (.bipush 7, 2) := by decide +kernel
theorem dX6_person_80 : decode cX6_person 80 = .ok (.if_icmp .ne 12, 3) := by decide +kernel
theorem dX6_person_83 : decode cX6_person 83 = .ok (.iload_n 3, 1) := by decide +kernel
theorem dX6_person_84 : decode cX6_person 84 = .ok (.iload 4, 2) := by decide +kernel
theorem dX6_person_86 : decode cX6_person 86 = .ok (.invokestatic 63, 3) := by decide +kernel
theorem dX6_person_89 : decode cX6_person 89 = .ok (.goto 7, 3) := by decide +kernel
theorem dX6_person_92 : decode cX6_person 92 = .ok (.iload_n 3, 1) := by decide +kernel
theorem dX6_person_93 : decode cX6_person 93 = .ok (.invokestatic 74, 3) := by decide +kernel
theorem dX6_person_96 : decode cX6_person 96 = .ok (.ireturn, 1) := by decide +kernel
theorem dX6_comes_0 : decode cX6_comes 0 = .ok (.iload_n 2, 1) := by decide +kernel
theorem dX6_comes_1 : decode cX6_comes 1 = .ok (.iconst 0, 1) := by decide +kernel
theorem dX6_comes_2 : decode cX6_comes 2 = .ok (.bipush 30, 2) := by decide +kernel
theorem dX6_comes_4 : decode cX6_comes 4 = .ok (.invokestatic 49, 3) := by decide +kernel
theorem dX6_comes_7 : decode cX6_comes 7 = .ok (.ifCond .eq 13, 3) := by decide +kernel
theorem dX6_comes_10 : decode cX6_comes 10 = .ok (.iload_n 3, 1) := by decide +kernel
theorem dX6_comes_11 : decode cX6_comes 11 = .ok (.iconst 0, 1) := by decide +kernel
theorem dX6_comes_12 : decode cX6_comes 12 = .ok (.bipush 30, 2) := by decide +kernel
theorem dX6_comes_14 : decode cX6_comes 14 = .ok (.invokestatic 49, 3) := by decide +kernel
theorem dX6_comes_17 : decode cX6_comes 17 = .ok (.ifCond .ne 5, 3) := by decide +kernel
theorem dX6_comes_20 : decode cX6_comes 20 = .ok (.iconst (-1), 1) := by decide +kernel
theorem dX6_comes_21 : decode cX6_comes 21 = .ok (.ireturn, 1) := by decide +kernel
theorem dX6_comes_22 : decode cX6_comes 22 = .ok (.aload_n 0, 1) := by decide +kernel
theorem dX6_comes_23 : decode cX6_comes 23 = .ok (.iload_n 1, 1) := by decide +kernel
theorem dX6_comes_24 : decode cX6_comes 24 = .ok (.invokevirtual 142, 3) := by decide +kernel
theorem dX6_comes_27 : decode cX6_comes 27 = .ok (.istore 4, 2) := by decide +kernel
theorem dX6_comes_29 : decode cX6_comes 29 = .ok (.iload 4, 2) := by decide +kernel
theorem dX6_comes_31 : decode cX6_comes 31 = .ok (.ifCond .eq 6, 3) := by decide +kernel
theorem dX6_comes_34 : decode cX6_comes 34 = .ok (.iload 4, 2) := by decide +kernel
theorem dX6_comes_36 : decode cX6_comes 36 = .ok (.ireturn, 1) := by decide +kernel
theorem dX6_comes_37 : decode cX6_comes 37 = .ok (.aload_n 0, 1) := by decide +kernel
theorem dX6_comes_38 : decode cX6_comes 38 = .ok (.getfield 9, 3) := by decide +kernel
theorem dX6_comes_41 : decode cX6_comes 41 = .ok (.iconst 0, 1) := by decide +kernel
theorem dX6_comes_42 : decode cX6_comes 42 = .ok (.iaload, 1) := by decide +kernel
theorem dX6_comes_43 : decode cX6_comes 43 = .ok (.bipush 8, 2) := by decide +kernel
theorem dX6_comes_45 : decode cX6_comes 45 = .ok (.if_icmp .ne 6, 3) := by decide +kernel
theorem dX6_comes_48 : decode cX6_comes 48 = .ok (.bipush (-2), 2) := by decide +kernel
theorem dX6_comes_50 : decode cX6_comes 50 = .ok (.ireturn, 1) := by decide +kernel
theorem dX6_comes_51 : decode cX6_comes 51 = .ok (.aload_n 0, 1) := by decide +kernel
theorem dX6_comes_52 : decode cX6_comes 52 = .ok (.getfield 9, 3) := by decide +kernel
theorem dX6_comes_55 : decode cX6_comes 55 = .ok (.aload_n 0, 1) := by decide +kernel
theorem dX6_comes_56 : decode cX6_comes 56 = .ok (.getfield 34, 3) := by decide +kernel
theorem dX6_comes_59 : decode cX6_comes 59 = .ok (.iload_n 1, 1) := by decide +kernel
theorem dX6_comes_60 : decode cX6_comes 60 = .ok (.iaload, 1) := by decide +kernel
theorem dX6_comes_61 : decode cX6_comes 61 = .ok (.aload_n 0, 1) := by decide +kernel
theorem dX6_comes_62 : decode cX6_comes 62 = .ok (.getfield 37, 3) := by decide +kernel
theorem dX6_comes_65 : decode cX6_comes 65 = .ok (.iload_n 1, 1) := by decide +kernel
theorem dX6_comes_66 : decode cX6_comes 66 = .ok (.iaload, 1) := by decide +kernel
theorem dX6_comes_67 : decode cX6_comes 67 = .ok (.iload_n 2, 1) := by decide +kernel
theorem dX6_comes_68 : decode cX6_comes 68 = .ok (.iload_n 3, 1) := by decide +kernel
theorem dX6_comes_69 : decode cX6_comes 69 = .ok (.invokestatic 117, 3) := by decide +kernel
theorem dX6_comes_72 : decode cX6_comes 72 = .ok (.aload_n 0, 1) := by decide +kernel
theorem dX6_comes_73 : decode cX6_comes 73 = .ok (.getfield 9, 3) := by decide +kernel
theorem dX6_comes_76 : decode cX6_comes 76 = .ok (.iconst 0, 1) := by decide +kernel
theorem dX6_comes_77 : decode cX6_comes 77 = .ok (.iaload, 1) := by decide +kernel
theorem dX6_comes_78 : decode cX6_comes 78 = .ok (.iconst 1, 1) := by decide +kernel
theorem dX6_comes_79 : decode cX6_comes 79 = .ok (.isub, 1) := by decide +kernel
theorem dX6_comes_80 : decode cX6_comes 80 = .ok (.ireturn, 1) := by decide +kernel
theorem dX6_feels_0 : decode cX6_feels 0 = .ok (.aload_n 0, 1) := by decide +kernel
theorem dX6_feels_1 : decode cX6_feels 1 = .ok (.iload_n 1, 1) := by decide +kernel
theorem dX6_feels_2 : decode cX6_feels 2 = .ok (.invokevirtual 121, 3) := by decide +kernel
theorem dX6_feels_5 : decode cX6_feels 5 = .ok (.ifCond .eq 22, 3) := by decide +kernel
theorem dX6_feels_8 : decode cX6_feels 8 = .ok (.iload_n 2, 1) := by decide +kernel
theorem dX6_feels_9 : decode cX6_feels 9 = .ok (.iconst 0, 1) := by decide +kernel
theorem dX6_feels_10 : decode cX6_feels 10 = .ok (.iconst 1, 1) := by decide +kernel
theorem dX6_feels_11 : decode cX6_feels 11 = .ok (.invokestatic 49, 3) := by decide +kernel
theorem dX6_feels_14 : decode cX6_feels 14 = .ok (.ifCond .eq 13, 3) := by decide +kernel
theorem dX6_feels_17 : decode cX6_feels 17 = .ok (.iload_n 3, 1) := by decide +kernel
theorem dX6_feels_18 : decode cX6_feels 18 = .ok (.iconst 0, 1) := by decide +kernel
theorem dX6_feels_19 : decode cX6_feels 19 = .ok (.bipush 30, 2) := by decide +kernel
theorem dX6_feels_21 : decode cX6_feels 21 = .ok (.invokestatic 49, 3) := by decide +kernel
theorem dX6_feels_24 : decode cX6_feels 24 = .ok (.ifCond .ne 5, 3) := by decide +kernel
theorem dX6_feels_27 : decode cX6_feels 27 = .ok (.iconst (-1), 1) := by decide +kernel
theorem dX6_feels_28 : decode cX6_feels 28 = .ok (.ireturn, 1) := by decide +kernel
theorem dX6_feels_29 : decode cX6_feels 29 = .ok (.iload_n 1, 1) := by decide +kernel
theorem dX6_feels_30 : decode cX6_feels 30 = .ok (.iload_n 2, 1) := by decide +kernel
theorem dX6_feels_31 : decode cX6_feels 31 = .ok (.ifCond .ne 7, 3) := by decide +kernel
theorem dX6_feels_34 : decode cX6_feels 34 = .ok (.iconst 2, 1) := by decide +kernel
theorem dX6_feels_35 : decode cX6_feels 35 = .ok (.goto 4, 3) := by decide +kernel
theorem dX6_feels_38 : decode cX6_feels 38 = .ok (.iconst 3, 1) := by decide +kernel
theorem dX6_feels_39 : decode cX6_feels 39 = .ok (.invokestatic 53, 3) := by decide +kernel
theorem dX6_feels_42 : decode cX6_feels 42 = .ok (.istore 4, 2) := by decide +kernel
theorem dX6_feels_44 : decode cX6_feels 44 = .ok (.aload_n 0, 1) := by decide +kernel
theorem dX6_feels_45 : decode cX6_feels 45 = .ok (.getfield 9, 3) := by decide +kernel
theorem dX6_feels_48 : decode cX6_feels 48 = .ok (.iload 4, 2) := by decide +kernel
theorem dX6_feels_50 : decode cX6_feels 50 = .ok (.iaload, 1) := by decide +kernel
theorem dX6_feels_51 : decode cX6_feels 51 = .ok (.istore 5, 2) := by decide +kernel
theorem dX6_feels_53 : decode cX6_feels 53 = .ok (.aload_n 0, 1) := by decide +kernel
theorem dX6_feels_54 : decode cX6_feels 54 = .ok (.getfield 9, 3) := by decide +kernel
theorem dX6_feels_57 : decode cX6_feels 57 = .ok (.iload 4, 2) := by decide +kernel
theorem dX6_feels_59 : decode cX6_feels 59 = .ok (.iload_n 3, 1) := by decide +kernel
theorem dX6_feels_60 : decode cX6_feels 60 = .ok (.iastore, 1) := by decide +kernel
theorem dX6_feels_61 : decode cX6_feels 61 = .ok (.iload 5, 2) := by decide +kernel
theorem dX6_feels_63 : decode cX6_feels 63 = .ok (.ireturn, 1) := by decide +kernel
theorem dX6_slices_0 : decode cX6_slices 0 = .ok (.iload_n 1, 1) := by decide +kernel
theorem dX6_slices_1 : decode cX6_slices 1 = .ok (.iconst 0, 1) := by decide +kernel
theorem dX6_slices_2 : decode cX6_slices 2 = .ok (.bipush 99, 2) := by decide +kernel
theorem dX6_slices_4 : decode cX6_slices 4 = .ok (.invokestatic 49, 3) := by decide +kernel
theorem dX6_slices_7 : decode cX6_slices 7 = .ok (.ifCond .ne 5, 3) := by decide +kernel
theorem dX6_slices_10 : decode cX6_slices 10 = .ok (.iconst (-1), 1) := by decide +kernel
theorem dX6_slices_11 : decode cX6_slices 11 = .ok (.ireturn, 1) := by decide +kernel
theorem dX6_slices_12 : decode cX6_slices 12 = .ok (.aload_n 0, 1) := by decide +kernel
theorem dX6_slices_13 : decode cX6_slices 13 = .ok (.getfield 9, 3) := by decide +kernel
theorem dX6_slices_16 : decode cX6_slices 16 = .ok (.iconst 1, 1) := by decide +kernel
theorem dX6_slices_17 : decode cX6_slices 17 = .ok (.iaload, 1) := by decide +kernel
theorem dX6_slices_18 : decode cX6_slices 18 = .ok (.istore_n 2, 1) := by decide +kernel
theorem dX6_slices_19 : decode cX6_slices 19 = .ok (.aload_n 0, 1) := by decide +kernel
theorem dX6_slices_20 : decode cX6_slices 20 = .ok (.getfield 9, 3) := by decide +kernel
theorem dX6_slices_23 : decode cX6_slices 23 = .ok (.iconst 1, 1) := by decide +kernel
theorem dX6_slices_24 : decode cX6_slices 24 = .ok (.iload_n 1, 1) := by decide +kernel
theorem dX6_slices_25 : decode cX6_slices 25 = .ok (.iastore, 1) := by decide +kernel
theorem dX6_slices_26 : decode cX6_slices 26 = .ok (.iload_n 2, 1) := by decide +kernel
theorem dX6_slices_27 : decode cX6_slices 27 = .ok (.ireturn, 1) := by decide +kernel
theorem dX6_wrongTurn_0 : decode cX6_wrongTurn 0 = .ok (.aload_n 0, 1) := by decide +kernel
theorem dX6_wrongTurn_1 : decode cX6_wrongTurn 1 = .ok (.iload_n 1, 1) := by decide +kernel
theorem dX6_wrongTurn_2 : decode cX6_wrongTurn 2 = .ok (.invokevirtual 121, 3) := by decide +kernel
theorem dX6_wrongTurn_5 : decode cX6_wrongTurn 5 = .ok (.ifCond .eq 16, 3) := by decide +kernel
theorem dX6_wrongTurn_8 : decode cX6_wrongTurn 8 = .ok (.aload_n 0, 1) := by decide +kernel
theorem dX6_wrongTurn_9 : decode cX6_wrongTurn 9 = .ok (.iload_n 2, 1) := by decide +kernel
theorem dX6_wrongTurn_10 : decode cX6_wrongTurn 10 = .ok (.invokevirtual 121, 3) := by decide +kernel
theorem dX6_wrongTurn_13 : decode cX6_wrongTurn 13 = .ok (.ifCond .eq 8, 3) := by decide +kernel
theorem dX6_wrongTurn_16 : decode cX6_wrongTurn 16 = .ok (.iload_n 1, 1) := by decide +kernel
theorem dX6_wrongTurn_17 : decode cX6_wrongTurn 17 = .ok (.iload_n 2, 1) := by decide +kernel
theorem dX6_wrongTurn_18 : decode cX6_wrongTurn 18 = .ok (.if_icmp .ne 7, 3) := by decide +kernel
theorem dX6_wrongTurn_21 : decode cX6_wrongTurn 21 = .ok (.iconst (-1), 1) := by decide +kernel
theorem dX6_wrongTurn_22 : decode cX6_wrongTurn 22 = .ok (.goto 21, 3) := by decide +kernel
theorem dX6_wrongTurn_25 : decode cX6_wrongTurn 25 = .ok (.aload_n 0, 1) := by decide +kernel
theorem dX6_wrongTurn_26 : decode cX6_wrongTurn 26 = .ok (.getfield 9, 3) := by decide +kernel
theorem dX6_wrongTurn_29 : decode cX6_wrongTurn 29 = .ok (.iload_n 1, 1) := by decide +kernel
theorem dX6_wrongTurn_30 : decode cX6_wrongTurn 30 = .ok (.iload_n 2, 1) := by decide +kernel
theorem dX6_wrongTurn_31 : decode cX6_wrongTurn 31 = .ok (.invokestatic 91, 3) := by decide +kernel
theorem dX6_wrongTurn_34 : decode cX6_wrongTurn 34 = .ok (.ifCond .eq 7, 3) := by decide +kernel
theorem dX6_wrongTurn_37 : decode cX6_wrongTurn 37 = .ok (.iconst 0, 1) := by decide +kernel
theorem dX6_wrongTurn_38 : decode cX6_wrongTurn 38 = .ok (.goto 5, 3) := by decide +kernel
theorem dX6_wrongTurn_41 : decode cX6_wrongTurn 41 = .ok (.bipush (-3), 2) := by decide +kernel
theorem dX6_wrongTurn_43 : decode cX6_wrongTurn 43 = .ok (.ireturn, 1) := by decide +kernel
theorem dX6_eats_0 : decode cX6_eats 0 = .ok (.aload_n 0, 1) := by decide +kernel
theorem dX6_eats_1 : decode cX6_eats 1 = .ok (.iload_n 1, 1) := by decide +kernel
theorem dX6_eats_2 : decode cX6_eats 2 = .ok (.iload_n 2, 1) := by decide +kernel
theorem dX6_eats_3 : decode cX6_eats 3 = .ok (.invokevirtual 145, 3) := by decide +kernel
theorem dX6_eats_6 : decode cX6_eats 6 = .ok (.istore_n 3, 1) := by decide +kernel
theorem dX6_eats_7 : decode cX6_eats 7 = .ok (.iload_n 3, 1) := by decide +kernel
theorem dX6_eats_8 : decode cX6_eats 8 = .ok (.ifCond .ne 18, 3) := by decide +kernel
theorem dX6_eats_11 : decode cX6_eats 11 = .ok (.aload_n 0, 1) := by decide +kernel
theorem dX6_eats_12 : decode cX6_eats 12 = .ok (.getfield 9, 3) := by decide +kernel
theorem dX6_eats_15 : decode cX6_eats 15 = .ok (.iconst 2, 1) := by decide +kernel
theorem dX6_eats_16 : decode cX6_eats 16 = .ok (.iaload, 1) := by decide +kernel
theorem dX6_eats_17 : decode cX6_eats 17 = .ok (.sipush 999, 3) := by decide +kernel
theorem dX6_eats_20 : decode cX6_eats 20 = .ok (.if_icmp .ne 6, 3) := by decide +kernel
theorem dX6_eats_23 : decode cX6_eats 23 = .ok (.bipush (-3), 2) := by decide +kernel
theorem dX6_eats_25 : decode cX6_eats 25 = .ok (.istore_n 3, 1) := by decide +kernel
theorem dX6_eats_26 : decode cX6_eats 26 = .ok (.iload_n 3, 1) := by decide +kernel
theorem dX6_eats_27 : decode cX6_eats 27 = .ok (.ifCond .eq 7, 3) := by decide +kernel
theorem dX6_eats_30 : decode cX6_eats 30 = .ok (.iload_n 3, 1) := by decide +kernel
theorem dX6_eats_31 : decode cX6_eats 31 = .ok (.goto 12, 3) := by decide +kernel
theorem dX6_eats_34 : decode cX6_eats 34 = .ok (.aload_n 0, 1) := by decide +kernel
theorem dX6_eats_35 : decode cX6_eats 35 = .ok (.getfield 9, 3) := by decide +kernel
theorem dX6_eats_38 : decode cX6_eats 38 = .ok (.iload_n 1, 1) := by decide +kernel
theorem dX6_eats_39 : decode cX6_eats 39 = .ok (.iload_n 2, 1) := by decide +kernel
theorem dX6_eats_40 : decode cX6_eats 40 = .ok (.invokestatic 125, 3) := by decide +kernel
theorem dX6_eats_43 : decode cX6_eats 43 = .ok (.ireturn, 1) := by decide +kernel
theorem dX6_joys_0 : decode cX6_joys 0 = .ok (.iload_n 3, 1) := by decide +kernel
theorem dX6_joys_1 : decode cX6_joys 1 = .ok (.iconst 0, 1) := by decide +kernel
theorem dX6_joys_2 : decode cX6_joys 2 = .ok (.iconst 2, 1) := by decide +kernel
theorem dX6_joys_3 : decode cX6_joys 3 = .ok (.invokestatic 49, 3) := by decide +kernel
theorem dX6_joys_6 : decode cX6_joys 6 = .ok (.ifCond .ne 5, 3) := by decide +kernel
theorem dX6_joys_9 : decode cX6_joys 9 = .ok (.iconst (-1), 1) := by decide +kernel
theorem dX6_joys_10 : decode cX6_joys 10 = .ok (.ireturn, 1) := by decide +kernel
theorem dX6_joys_11 : decode cX6_joys 11 = .ok (.aload_n 0, 1) := by decide +kernel
theorem dX6_joys_12 : decode cX6_joys 12 = .ok (.iload_n 1, 1) := by decide +kernel
theorem dX6_joys_13 : decode cX6_joys 13 = .ok (.iload_n 2, 1) := by decide +kernel
theorem dX6_joys_14 : decode cX6_joys 14 = .ok (.invokevirtual 145, 3) := by decide +kernel
theorem dX6_joys_17 : decode cX6_joys 17 = .ok (.istore 4, 2) := by decide +kernel
theorem dX6_joys_19 : decode cX6_joys 19 = .ok (.iload 4, 2) := by decide +kernel
theorem dX6_joys_21 : decode cX6_joys 21 = .ok (.ifCond .eq 6, 3) := by decide +kernel
theorem dX6_joys_24 : decode cX6_joys 24 = .ok (.iload 4, 2) := by decide +kernel
theorem dX6_joys_26 : decode cX6_joys 26 = .ok (.ireturn, 1) := by decide +kernel
theorem dX6_joys_27 : decode cX6_joys 27 = .ok (.iload_n 3, 1) := by decide +kernel
theorem dX6_joys_28 : decode cX6_joys 28 = .ok (.ifCond .ne 15, 3) := by decide +kernel
theorem dX6_joys_31 : decode cX6_joys 31 = .ok (.aload_n 0, 1) := by decide +kernel
theorem dX6_joys_32 : decode cX6_joys 32 = .ok (.getfield 9, 3) := by decide +kernel
theorem dX6_joys_35 : decode cX6_joys 35 = .ok (.iload_n 1, 1) := by decide +kernel
theorem dX6_joys_36 : decode cX6_joys 36 = .ok (.iload_n 2, 1) := by decide +kernel
theorem dX6_joys_37 : decode cX6_joys 37 = .ok (.invokestatic 88, 3) := by decide +kernel
theorem dX6_joys_40 : decode cX6_joys 40 = .ok (.goto 28, 3) := by decide +kernel
theorem dX6_joys_43 : decode cX6_joys 43 = .ok (.iload_n 3, 1) := by decide +kernel
theorem dX6_joys_44 : decode cX6_joys 44 = .ok (.iconst 1, 1) := by decide +kernel
theorem dX6_joys_45 : decode cX6_joys 45 = .ok (.if_icmp .ne 15, 3) := by decide +kernel
theorem dX6_joys_48 : decode cX6_joys 48 = .ok (.aload_n 0, 1) := by decide +kernel
theorem dX6_joys_49 : decode cX6_joys 49 = .ok (.getfield 9, 3) := by decide +kernel
theorem dX6_joys_52 : decode cX6_joys 52 = .ok (.iload_n 1, 1) := by decide +kernel
theorem dX6_joys_53 : decode cX6_joys 53 = .ok (.iload_n 2, 1) := by decide +kernel
theorem dX6_joys_54 : decode cX6_joys 54 = .ok (.invokestatic 81, 3) := by decide +kernel
theorem dX6_joys_57 : decode cX6_joys 57 = .ok (.goto 11, 3) := by decide +kernel
theorem dX6_joys_60 : decode cX6_joys 60 = .ok (.aload_n 0, 1) := by decide +kernel
theorem dX6_joys_61 : decode cX6_joys 61 = .ok (.getfield 9, 3) := by decide +kernel
theorem dX6_joys_64 : decode cX6_joys 64 = .ok (.iload_n 2, 1) := by decide +kernel
theorem dX6_joys_65 : decode cX6_joys 65 = .ok (.invokestatic 85, 3) := by decide +kernel
theorem dX6_joys_68 : decode cX6_joys 68 = .ok (.ireturn, 1) := by decide +kernel
theorem dX6_who_0 : decode cX6_who 0 = .ok (.iload_n 1, 1) := by decide +kernel
theorem dX6_who_1 : decode cX6_who 1 = .ok (.iconst 0, 1) := by decide +kernel
theorem dX6_who_2 : decode cX6_who 2 = .ok (.iconst 1, 1) := by decide +kernel
theorem dX6_who_3 : decode cX6_who 3 = .ok (.invokestatic 49, 3) := by decide +kernel
theorem dX6_who_6 : decode cX6_who 6 = .ok (.ifCond .ne 5, 3) := by decide +kernel
theorem dX6_who_9 : decode cX6_who 9 = .ok (.iconst (-1), 1) := by decide +kernel
theorem dX6_who_10 : decode cX6_who 10 = .ok (.ireturn, 1) := by decide +kernel
theorem dX6_who_11 : decode cX6_who 11 = .ok (.iconst 0, 1) := by decide +kernel
theorem dX6_who_12 : decode cX6_who 12 = .ok (.istore_n 2, 1) := by decide +kernel
theorem dX6_who_13 : decode cX6_who 13 = .ok (.iconst 0, 1) := by decide +kernel
theorem dX6_who_14 : decode cX6_who 14 = .ok (.istore_n 3, 1) := by decide +kernel
theorem dX6_who_15 : decode cX6_who 15 = .ok (.iload_n 3, 1) := by decide +kernel
theorem dX6_who_16 : decode cX6_who 16 = .ok (.aload_n 0, 1) := by decide +kernel
theorem dX6_who_17 : decode cX6_who 17 = .ok (.getfield 9, 3) := by decide +kernel
theorem dX6_who_20 : decode cX6_who 20 = .ok (.iconst 0, 1) := by decide +kernel
theorem dX6_who_21 : decode cX6_who 21 = .ok (.iaload, 1) := by decide +kernel
theorem dX6_who_22 : decode cX6_who 22 = .ok (.if_icmp .ge 61, 3) := by decide +kernel
theorem dX6_who_25 : decode cX6_who 25 = .ok (.iconst 0, 1) := by decide +kernel
theorem dX6_who_26 : decode cX6_who 26 = .ok (.istore 4, 2) := by decide +kernel
theorem dX6_who_28 : decode cX6_who 28 = .ok (.iload 4, 2) := by decide +kernel
theorem dX6_who_30 : decode cX6_who 30 = .ok (.aload_n 0, 1) := by decide +kernel
theorem dX6_who_31 : decode cX6_who 31 = .ok (.getfield 9, 3) := by decide +kernel
theorem dX6_who_34 : decode cX6_who 34 = .ok (.iconst 0, 1) := by decide +kernel
theorem dX6_who_35 : decode cX6_who 35 = .ok (.iaload, 1) := by decide +kernel
theorem dX6_who_36 : decode cX6_who 36 = .ok (.if_icmp .ge 41, 3) := by decide +kernel
theorem dX6_who_39 : decode cX6_who 39 = .ok (.iload_n 2, 1) := by decide +kernel
theorem dX6_who_40 : decode cX6_who 40 = .ok (.aload_n 0, 1) := by decide +kernel
theorem dX6_who_41 : decode cX6_who 41 = .ok (.getfield 9, 3) := by decide +kernel
theorem dX6_who_44 : decode cX6_who 44 = .ok (.iload_n 3, 1) := by decide +kernel
theorem dX6_who_45 : decode cX6_who 45 = .ok (.iload 4, 2) := by decide +kernel
theorem dX6_who_47 : decode cX6_who 47 = .ok (.invokestatic 91, 3) := by decide +kernel
theorem dX6_who_50 : decode cX6_who 50 = .ok (.ifCond .eq 18, 3) := by decide +kernel
theorem dX6_who_53 : decode cX6_who 53 = .ok (.iconst 1, 1) := by decide +kernel
theorem dX6_who_54 : decode cX6_who 54 = .ok (.iload_n 1, 1) := by decide +kernel
theorem dX6_who_55 : decode cX6_who 55 = .ok (.ifCond .ne 7, 3) := by decide +kernel
theorem dX6_who_58 : decode cX6_who 58 = .ok (.iload_n 3, 1) := by decide +kernel
theorem dX6_who_59 : decode cX6_who 59 = .ok (.goto 5, 3) := by decide +kernel
theorem dX6_who_62 : decode cX6_who 62 = .ok (.iload 4, 2) := by decide +kernel
theorem dX6_who_64 : decode cX6_who 64 = .ok (.ishl, 1) := by decide +kernel
theorem dX6_who_65 : decode cX6_who 65 = .ok (.goto 4, 3) := by decide +kernel
theorem dX6_who_68 : decode cX6_who 68 = .ok (.iconst 0, 1) := by decide +kernel
theorem dX6_who_69 : decode cX6_who 69 = .ok (.ior, 1) := by decide +kernel
theorem dX6_who_70 : decode cX6_who 70 = .ok (.istore_n 2, 1) := by decide +kernel
theorem dX6_who_71 : decode cX6_who 71 = .ok (.iinc 4 1, 3) := by decide +kernel
theorem dX6_who_74 : decode cX6_who 74 = .ok (.goto (-46), 3) := by decide +kernel
theorem dX6_who_77 : decode cX6_who 77 = .ok (.iinc 3 1, 3) := by decide +kernel
theorem dX6_who_80 : decode cX6_who 80 = .ok (.goto (-65), 3) := by decide +kernel
theorem dX6_who_83 : decode cX6_who 83 = .ok (.iload_n 2, 1) := by decide +kernel
theorem dX6_who_84 : decode cX6_who 84 = .ok (.ireturn, 1) := by decide +kernel
theorem dX6_bestPair_0 : decode cX6_bestPair 0 = .ok (.iload_n 1, 1) := by decide +kernel
theorem dX6_bestPair_1 : decode cX6_bestPair 1 = .ok (.iconst 0, 1) := by decide +kernel
theorem dX6_bestPair_2 : decode cX6_bestPair 2 = .ok (.iconst 1, 1) := by decide +kernel
theorem dX6_bestPair_3 : decode cX6_bestPair 3 = .ok (.invokestatic 49, 3) := by decide +kernel
theorem dX6_bestPair_6 : decode cX6_bestPair 6 = .ok (.ifCond .ne 5, 3) := by decide +kernel
theorem dX6_bestPair_9 : decode cX6_bestPair 9 = .ok (.iconst (-1), 1) := by decide +kernel
theorem dX6_bestPair_10 : decode cX6_bestPair 10 = .ok (.ireturn, 1) := by decide +kernel
theorem dX6_bestPair_11 : decode cX6_bestPair 11 = .ok (.aload_n 0, 1) := by decide +kernel
theorem dX6_bestPair_12 : decode cX6_bestPair 12 = .ok (.getfield 9, 3) := by decide +kernel
theorem dX6_bestPair_15 : decode cX6_bestPair 15 = .ok (.invokestatic 95, 3) := by decide +kernel
theorem dX6_bestPair_18 : decode cX6_bestPair 18 = .ok (.istore_n 2, 1) := by decide +kernel
theorem dX6_bestPair_19 : decode cX6_bestPair 19 = .ok (.iload_n 2, 1) := by decide +kernel
theorem dX6_bestPair_20 : decode cX6_bestPair 20 = .ok (.ifCond .lt 7, 3) := by decide +kernel
theorem dX6_bestPair_23 : decode cX6_bestPair 23 = .ok (.iload_n 1, 1) := by decide +kernel
theorem dX6_bestPair_24 : decode cX6_bestPair 24 = .ok (.ifCond .ne 7, 3) := by decide +kernel
theorem dX6_bestPair_27 : decode cX6_bestPair 27 = .ok (.iload_n 2, 1) := by decide +kernel
theorem dX6_bestPair_28 : decode cX6_bestPair 28 = .ok (.goto 10, 3) := by decide +kernel
theorem dX6_bestPair_31 : decode cX6_bestPair 31 = .ok (.aload_n 0, 1) := by decide +kernel
theorem dX6_bestPair_32 : decode cX6_bestPair 32 = .ok (.getfield 9, 3) := by decide +kernel
theorem dX6_bestPair_35 : decode cX6_bestPair 35 = .ok (.invokestatic 148, 3) := by decide +kernel
theorem dX6_bestPair_38 : decode cX6_bestPair 38 = .ok (.ireturn, 1) := by decide +kernel
theorem dX6_bestLooker_0 : decode cX6_bestLooker 0 = .ok (.aload_n 0, 1) := by decide +kernel
theorem dX6_bestLooker_1 : decode cX6_bestLooker 1 = .ok (.iload_n 1, 1) := by decide +kernel
theorem dX6_bestLooker_2 : decode cX6_bestLooker 2 = .ok (.invokevirtual 121, 3) := by decide +kernel
theorem dX6_bestLooker_5 : decode cX6_bestLooker 5 = .ok (.ifCond .ne 5, 3) := by decide +kernel
theorem dX6_bestLooker_8 : decode cX6_bestLooker 8 = .ok (.iconst (-1), 1) := by decide +kernel
theorem dX6_bestLooker_9 : decode cX6_bestLooker 9 = .ok (.ireturn, 1) := by decide +kernel
theorem dX6_bestLooker_10 : decode cX6_bestLooker 10 = .ok (.bipush (-4), 2) := by decide +kernel
theorem dX6_bestLooker_12 : decode cX6_bestLooker 12 = .ok (.istore_n 2, 1) := by decide +kernel
theorem dX6_bestLooker_13 : decode cX6_bestLooker 13 = .ok (.iconst 0, 1) := by decide +kernel
theorem dX6_bestLooker_14 : decode cX6_bestLooker 14 = .ok (.istore_n 3, 1) := by decide +kernel
theorem dX6_bestLooker_15 : decode cX6_bestLooker 15 = .ok (.iload_n 3, 1) := by decide +kernel
theorem dX6_bestLooker_16 : decode cX6_bestLooker 16 = .ok (.aload_n 0, 1) := by decide +kernel
theorem dX6_bestLooker_17 : decode cX6_bestLooker 17 = .ok (.getfield 9, 3) := by decide +kernel
theorem dX6_bestLooker_20 : decode cX6_bestLooker 20 = .ok (.iconst 0, 1) := by decide +kernel
theorem dX6_bestLooker_21 : decode cX6_bestLooker 21 = .ok (.iaload, 1) := by decide +kernel
theorem dX6_bestLooker_22 : decode cX6_bestLooker 22 = .ok (.if_icmp .ge 48, 3) := by decide +kernel
theorem dX6_bestLooker_25 : decode cX6_bestLooker 25 = .ok (.aload_n 0, 1) := by decide +kernel
theorem dX6_bestLooker_26 : decode cX6_bestLooker 26 = .ok (.getfield 9, 3) := by decide +kernel
theorem dX6_bestLooker_29 : decode cX6_bestLooker 29 = .ok (.iload_n 1, 1) := by decide +kernel
theorem dX6_bestLooker_30 : decode cX6_bestLooker 30 = .ok (.iload_n 3, 1) := by decide +kernel
theorem dX6_bestLooker_31 : decode cX6_bestLooker 31 = .ok (.invokestatic 91, 3) := by decide +kernel
theorem dX6_bestLooker_34 : decode cX6_bestLooker 34 = .ok (.ifCond .eq 30, 3) := by decide +kernel
theorem dX6_bestLooker_37 : decode cX6_bestLooker 37 = .ok (.iload_n 2, 1) := by decide +kernel
theorem dX6_bestLooker_38 : decode cX6_bestLooker 38 = .ok (.ifCond .lt 24, 3) := by decide +kernel
theorem dX6_bestLooker_41 : decode cX6_bestLooker 41 = .ok (.aload_n 0, 1) := by decide +kernel
theorem dX6_bestLooker_42 : decode cX6_bestLooker 42 = .ok (.getfield 9, 3) := by decide +kernel
theorem dX6_bestLooker_45 : decode cX6_bestLooker 45 = .ok (.iload_n 1, 1) := by decide +kernel
theorem dX6_bestLooker_46 : decode cX6_bestLooker 46 = .ok (.iload_n 3, 1) := by decide +kernel
theorem dX6_bestLooker_47 : decode cX6_bestLooker 47 = .ok (.invokestatic 88, 3) := by decide +kernel
theorem dX6_bestLooker_50 : decode cX6_bestLooker 50 = .ok (.aload_n 0, 1) := by decide +kernel
theorem dX6_bestLooker_51 : decode cX6_bestLooker 51 = .ok (.getfield 9, 3) := by decide +kernel
theorem dX6_bestLooker_54 : decode cX6_bestLooker 54 = .ok (.iload_n 1, 1) := by decide +kernel
theorem dX6_bestLooker_55 : decode cX6_bestLooker 55 = .ok (.iload_n 2, 1) := by decide +kernel
theorem dX6_bestLooker_56 : decode cX6_bestLooker 56 = .ok (.invokestatic 88, 3) := by decide +kernel
theorem dX6_bestLooker_59 : decode cX6_bestLooker 59 = .ok (.if_icmp .le 5, 3) := by decide +kernel
theorem dX6_bestLooker_62 : decode cX6_bestLooker 62 = .ok (.iload_n 3, 1) := by decide +kernel
theorem dX6_bestLooker_63 : decode cX6_bestLooker 63 = .ok (.istore_n 2, 1) := by decide +kernel
theorem dX6_bestLooker_64 : decode cX6_bestLooker 64 = .ok (.iinc 3 1, 3) := by decide +kernel
theorem dX6_bestLooker_67 : decode cX6_bestLooker 67 = .ok (.goto (-52), 3) := by decide +kernel
theorem dX6_bestLooker_70 : decode cX6_bestLooker 70 = .ok (.iload_n 2, 1) := by decide +kernel
theorem dX6_bestLooker_71 : decode cX6_bestLooker 71 = .ok (.ireturn, 1) := by decide +kernel
theorem dX6_twoTurns_0 : decode cX6_twoTurns 0 = .ok (.iload_n 1, 1) := by decide +kernel
theorem dX6_twoTurns_1 : decode cX6_twoTurns 1 = .ok (.iconst 0, 1) := by decide +kernel
theorem dX6_twoTurns_2 : decode cX6_twoTurns 2 = .ok (.iconst 1, 1) := by decide +kernel
theorem dX6_twoTurns_3 : decode cX6_twoTurns 3 = .ok (.invokestatic 49, 3) := by decide +kernel
theorem dX6_twoTurns_6 : decode cX6_twoTurns 6 = .ok (.ifCond .ne 5, 3) := by decide +kernel
theorem dX6_twoTurns_9 : decode cX6_twoTurns 9 = .ok (.iconst (-1), 1) := by decide +kernel
theorem dX6_twoTurns_10 : decode cX6_twoTurns 10 = .ok (.ireturn, 1) := by decide +kernel
theorem dX6_twoTurns_11 : decode cX6_twoTurns 11 = .ok (.bipush (-4), 2) := by decide +kernel
theorem dX6_twoTurns_13 : decode cX6_twoTurns 13 = .ok (.istore_n 2, 1) := by decide +kernel
theorem dX6_twoTurns_14 : decode cX6_twoTurns 14 = .ok (.iconst (-1), 1) := by decide +kernel
theorem dX6_twoTurns_15 : decode cX6_twoTurns 15 = .ok (.istore_n 3, 1) := by decide +kernel
theorem dX6_twoTurns_16 : decode cX6_twoTurns 16 = .ok (.iconst 0, 1) := by decide +kernel
theorem dX6_twoTurns_17 : decode cX6_twoTurns 17 = .ok (.istore 4, 2) := by decide +kernel
theorem dX6_twoTurns_19 : decode cX6_twoTurns 19 = .ok (.iload 4, 2) := by decide +kernel
theorem dX6_twoTurns_21 : decode cX6_twoTurns 21 = .ok (.aload_n 0, 1) := by decide +kernel
theorem dX6_twoTurns_22 : decode cX6_twoTurns 22 = .ok (.getfield 9, 3) := by decide +kernel
theorem dX6_twoTurns_25 : decode cX6_twoTurns 25 = .ok (.iconst 0, 1) := by decide +kernel
theorem dX6_twoTurns_26 : decode cX6_twoTurns 26 = .ok (.iaload, 1) := by decide +kernel
theorem dX6_twoTurns_27 : decode cX6_twoTurns 27 = .ok (.if_icmp .ge 103, 3) := by decide +kernel
theorem dX6_twoTurns_30 : decode cX6_twoTurns 30 = .ok (.iconst 0, 1) := by decide +kernel
theorem dX6_twoTurns_31 : decode cX6_twoTurns 31 = .ok (.istore 5, 2) := by decide +kernel
theorem dX6_twoTurns_33 : decode cX6_twoTurns 33 = .ok (.iload 5, 2) := by decide +kernel
theorem dX6_twoTurns_35 : decode cX6_twoTurns 35 = .ok (.aload_n 0, 1) := by decide +kernel
theorem dX6_twoTurns_36 : decode cX6_twoTurns 36 = .ok (.getfield 9, 3) := by decide +kernel
theorem dX6_twoTurns_39 : decode cX6_twoTurns 39 = .ok (.iconst 0, 1) := by decide +kernel
theorem dX6_twoTurns_40 : decode cX6_twoTurns 40 = .ok (.iaload, 1) := by decide +kernel
theorem dX6_twoTurns_41 : decode cX6_twoTurns 41 = .ok (.if_icmp .ge 83, 3) := by decide +kernel
theorem dX6_twoTurns_44 : decode cX6_twoTurns 44 = .ok (.aload_n 0, 1) := by decide +kernel
theorem dX6_twoTurns_45 : decode cX6_twoTurns 45 = .ok (.getfield 9, 3) := by decide +kernel
theorem dX6_twoTurns_48 : decode cX6_twoTurns 48 = .ok (.iload 4, 2) := by decide +kernel
theorem dX6_twoTurns_50 : decode cX6_twoTurns 50 = .ok (.iload 5, 2) := by decide +kernel
theorem dX6_twoTurns_52 : decode cX6_twoTurns 52 = .ok (.invokestatic 91, 3) := by decide +kernel
theorem dX6_twoTurns_55 : decode cX6_twoTurns 55 = .ok (.ifCond .ne 6, 3) := by decide +kernel
theorem dX6_twoTurns_58 : decode cX6_twoTurns 58 = .ok (.goto 60, 3) := by decide +kernel
theorem dX6_twoTurns_61 : decode cX6_twoTurns 61 = .ok (.aload_n 0, 1) := by decide +kernel
theorem dX6_twoTurns_62 : decode cX6_twoTurns 62 = .ok (.getfield 9, 3) := by decide +kernel
theorem dX6_twoTurns_65 : decode cX6_twoTurns 65 = .ok (.aload_n 0, 1) := by decide +kernel
theorem dX6_twoTurns_66 : decode cX6_twoTurns 66 = .ok (.getfield 13, 3) := by decide +kernel
theorem dX6_twoTurns_69 : decode cX6_twoTurns 69 = .ok (.invokestatic 135, 3) := by decide +kernel
theorem dX6_twoTurns_72 : decode cX6_twoTurns 72 = .ok (.aload_n 0, 1) := by decide +kernel
theorem dX6_twoTurns_73 : decode cX6_twoTurns 73 = .ok (.getfield 13, 3) := by decide +kernel
theorem dX6_twoTurns_76 : decode cX6_twoTurns 76 = .ok (.iload 4, 2) := by decide +kernel
theorem dX6_twoTurns_78 : decode cX6_twoTurns 78 = .ok (.iload 5, 2) := by decide +kernel
theorem dX6_twoTurns_80 : decode cX6_twoTurns 80 = .ok (.invokestatic 125, 3) := by decide +kernel
theorem dX6_twoTurns_83 : decode cX6_twoTurns 83 = .ok (.istore 6, 2) := by decide +kernel
theorem dX6_twoTurns_85 : decode cX6_twoTurns 85 = .ok (.iload 6, 2) := by decide +kernel
theorem dX6_twoTurns_87 : decode cX6_twoTurns 87 = .ok (.aload_n 0, 1) := by decide +kernel
theorem dX6_twoTurns_88 : decode cX6_twoTurns 88 = .ok (.getfield 13, 3) := by decide +kernel
theorem dX6_twoTurns_91 : decode cX6_twoTurns 91 = .ok (.invokestatic 148, 3) := by decide +kernel
theorem dX6_twoTurns_94 : decode cX6_twoTurns 94 = .ok (.iadd, 1) := by decide +kernel
theorem dX6_twoTurns_95 : decode cX6_twoTurns 95 = .ok (.istore 6, 2) := by decide +kernel
theorem dX6_twoTurns_97 : decode cX6_twoTurns 97 = .ok (.iload 6, 2) := by decide +kernel
theorem dX6_twoTurns_99 : decode cX6_twoTurns 99 = .ok (.iload_n 3, 1) := by decide +kernel
theorem dX6_twoTurns_100 : decode cX6_twoTurns 100 = .ok (.if_icmp .gt 6, 3) := by decide +kernel
theorem dX6_twoTurns_103 : decode cX6_twoTurns 103 = .ok (.goto 15, 3) := by decide +kernel
theorem dX6_twoTurns_106 : decode cX6_twoTurns 106 = .ok (.bipush 10, 2) := by decide +kernel
theorem dX6_twoTurns_108 : decode cX6_twoTurns 108 = .ok (.iload 4, 2) := by decide +kernel
theorem dX6_twoTurns_110 : decode cX6_twoTurns 110 = .ok (.imul, 1) := by decide +kernel
theorem dX6_twoTurns_111 : decode cX6_twoTurns 111 = .ok (.iload 5, 2) := by decide +kernel
theorem dX6_twoTurns_113 : decode cX6_twoTurns 113 = .ok (.iadd, 1) := by decide +kernel
theorem dX6_twoTurns_114 : decode cX6_twoTurns 114 = .ok (.istore_n 2, 1) := by decide +kernel
theorem dX6_twoTurns_115 : decode cX6_twoTurns 115 = .ok (.iload 6, 2) := by decide +kernel
theorem dX6_twoTurns_117 : decode cX6_twoTurns 117 = .ok (.istore_n 3, 1) := by decide +kernel
theorem dX6_twoTurns_118 : decode cX6_twoTurns 118 = .ok (.iinc 5 1, 3) := by decide +kernel
theorem dX6_twoTurns_121 : decode cX6_twoTurns 121 = .ok (.goto (-88), 3) := by decide +kernel
theorem dX6_twoTurns_124 : decode cX6_twoTurns 124 = .ok (.iinc 4 1, 3) := by decide +kernel
theorem dX6_twoTurns_127 : decode cX6_twoTurns 127 = .ok (.goto (-108), 3) := by decide +kernel
theorem dX6_twoTurns_130 : decode cX6_twoTurns 130 = .ok (.iload_n 1, 1) := by decide +kernel
theorem dX6_twoTurns_131 : decode cX6_twoTurns 131 = .ok (.iconst 1, 1) := by decide +kernel
theorem dX6_twoTurns_132 : decode cX6_twoTurns 132 = .ok (.if_icmp .ne 7, 3) := by decide +kernel
theorem dX6_twoTurns_135 : decode cX6_twoTurns 135 = .ok (.iload_n 2, 1) := by decide +kernel
theorem dX6_twoTurns_136 : decode cX6_twoTurns 136 = .ok (.goto 8, 3) := by decide +kernel
theorem dX6_twoTurns_139 : decode cX6_twoTurns 139 = .ok (.iconst 0, 1) := by decide +kernel
theorem dX6_twoTurns_140 : decode cX6_twoTurns 140 = .ok (.iload_n 3, 1) := by decide +kernel
theorem dX6_twoTurns_141 : decode cX6_twoTurns 141 = .ok (.invokestatic 78, 3) := by decide +kernel
theorem dX6_twoTurns_144 : decode cX6_twoTurns 144 = .ok (.ireturn, 1) := by decide +kernel
theorem dX6_pairsFrom_0 : decode cX6_pairsFrom 0 = .ok (.iload_n 1, 1) := by decide +kernel
theorem dX6_pairsFrom_1 : decode cX6_pairsFrom 1 = .ok (.aload_n 0, 1) := by decide +kernel
theorem dX6_pairsFrom_2 : decode cX6_pairsFrom 2 = .ok (.getfield 9, 3) := by decide +kernel
theorem dX6_pairsFrom_5 : decode cX6_pairsFrom 5 = .ok (.iconst 0, 1) := by decide +kernel
theorem dX6_pairsFrom_6 : decode cX6_pairsFrom 6 = .ok (.iaload, 1) := by decide +kernel
theorem dX6_pairsFrom_7 : decode cX6_pairsFrom 7 = .ok (.if_icmp .ne 56, 3) := by decide +kernel
theorem dX6_pairsFrom_10 : decode cX6_pairsFrom 10 = .ok (.iload 4, 2) := by decide +kernel
theorem dX6_pairsFrom_12 : decode cX6_pairsFrom 12 = .ok (.aload_n 0, 1) := by decide +kernel
theorem dX6_pairsFrom_13 : decode cX6_pairsFrom 13 = .ok (.getfield 151, 3) := by decide +kernel
theorem dX6_pairsFrom_16 : decode cX6_pairsFrom 16 = .ok (.if_icmp .le 33, 3) := by decide +kernel
theorem dX6_pairsFrom_19 : decode cX6_pairsFrom 19 = .ok (.iconst 0, 1) := by decide +kernel
theorem dX6_pairsFrom_20 : decode cX6_pairsFrom 20 = .ok (.istore 5, 2) := by decide +kernel
theorem dX6_pairsFrom_22 : decode cX6_pairsFrom 22 = .ok (.iload 5, 2) := by decide +kernel
theorem dX6_pairsFrom_24 : decode cX6_pairsFrom 24 = .ok (.bipush 8, 2) := by decide +kernel
theorem dX6_pairsFrom_26 : decode cX6_pairsFrom 26 = .ok (.if_icmp .ge 23, 3) := by decide +kernel
theorem dX6_pairsFrom_29 : decode cX6_pairsFrom 29 = .ok (.aload_n 0, 1) := by decide +kernel
theorem dX6_pairsFrom_30 : decode cX6_pairsFrom 30 = .ok (.getfield 28, 3) := by decide +kernel
theorem dX6_pairsFrom_33 : decode cX6_pairsFrom 33 = .ok (.iload 5, 2) := by decide +kernel
theorem dX6_pairsFrom_35 : decode cX6_pairsFrom 35 = .ok (.aload_n 0, 1) := by decide +kernel
theorem dX6_pairsFrom_36 : decode cX6_pairsFrom 36 = .ok (.getfield 25, 3) := by decide +kernel
theorem dX6_pairsFrom_39 : decode cX6_pairsFrom 39 = .ok (.iload 5, 2) := by decide +kernel
theorem dX6_pairsFrom_41 : decode cX6_pairsFrom 41 = .ok (.iaload, 1) := by decide +kernel
theorem dX6_pairsFrom_42 : decode cX6_pairsFrom 42 = .ok (.iastore, 1) := by decide +kernel
theorem dX6_pairsFrom_43 : decode cX6_pairsFrom 43 = .ok (.iinc 5 1, 3) := by decide +kernel
theorem dX6_pairsFrom_46 : decode cX6_pairsFrom 46 = .ok (.goto (-24), 3) := by decide +kernel
theorem dX6_pairsFrom_49 : decode cX6_pairsFrom 49 = .ok (.aload_n 0, 1) := by decide +kernel
theorem dX6_pairsFrom_50 : decode cX6_pairsFrom 50 = .ok (.aload_n 0, 1) := by decide +kernel
theorem dX6_pairsFrom_51 : decode cX6_pairsFrom 51 = .ok (.getfield 151, 3) := by decide +kernel
theorem dX6_pairsFrom_54 : decode cX6_pairsFrom 54 = .ok (.iload 4, 2) := by decide +kernel
theorem dX6_pairsFrom_56 : decode cX6_pairsFrom 56 = .ok (.invokestatic 78, 3) := by decide +kernel
theorem dX6_pairsFrom_59 : decode cX6_pairsFrom 59 = .ok (.putfield 151, 3) := by decide +kernel
theorem dX6_pairsFrom_62 : decode cX6_pairsFrom 62 = .ok (.return_, 1) := by decide +kernel
theorem dX6_pairsFrom_63 : decode cX6_pairsFrom 63 = .ok (.iload_n 2, 1) := by decide +kernel
theorem dX6_pairsFrom_64 : decode cX6_pairsFrom 64 = .ok (.iload_n 1, 1) := by decide +kernel
theorem dX6_pairsFrom_65 : decode cX6_pairsFrom 65 = .ok (.ishr, 1) := by decide +kernel
theorem dX6_pairsFrom_66 : decode cX6_pairsFrom 66 = .ok (.iconst 1, 1) := by decide +kernel
theorem dX6_pairsFrom_67 : decode cX6_pairsFrom 67 = .ok (.iand, 1) := by decide +kernel
theorem dX6_pairsFrom_68 : decode cX6_pairsFrom 68 = .ok (.iconst 1, 1) := by decide +kernel
theorem dX6_pairsFrom_69 : decode cX6_pairsFrom 69 = .ok (.if_icmp .ne 15, 3) := by decide +kernel
theorem dX6_pairsFrom_72 : decode cX6_pairsFrom 72 = .ok (.aload_n 0, 1) := by decide +kernel
theorem dX6_pairsFrom_73 : decode cX6_pairsFrom 73 = .ok (.iload_n 1, 1) := by decide +kernel
theorem dX6_pairsFrom_74 : decode cX6_pairsFrom 74 = .ok (.iconst 1, 1) := by decide +kernel
theorem dX6_pairsFrom_75 : decode cX6_pairsFrom 75 = .ok (.iadd, 1) := by decide +kernel
theorem dX6_pairsFrom_76 : decode cX6_pairsFrom 76 = .ok (.iload_n 2, 1) := by decide +kernel
theorem dX6_pairsFrom_77 : decode cX6_pairsFrom 77 = .ok (.iload_n 3, 1) := by decide +kernel
theorem dX6_pairsFrom_78 : decode cX6_pairsFrom 78 = .ok (.iload 4, 2) := by decide +kernel
theorem dX6_pairsFrom_80 : decode cX6_pairsFrom 80 = .ok (.invokevirtual 154, 3) := by decide +kernel
theorem dX6_pairsFrom_83 : decode cX6_pairsFrom 83 = .ok (.return_, 1) := by decide +kernel
theorem dX6_pairsFrom_84 : decode cX6_pairsFrom 84 = .ok (.iconst 0, 1) := by decide +kernel
theorem dX6_pairsFrom_85 : decode cX6_pairsFrom 85 = .ok (.istore 5, 2) := by decide +kernel
theorem dX6_pairsFrom_87 : decode cX6_pairsFrom 87 = .ok (.iload 5, 2) := by decide +kernel
theorem dX6_pairsFrom_89 : decode cX6_pairsFrom 89 = .ok (.iconst 2, 1) := by decide +kernel
theorem dX6_pairsFrom_90 : decode cX6_pairsFrom 90 = .ok (.if_icmp .ge 140, 3) := by decide +kernel
theorem dX6_pairsFrom_93 : decode cX6_pairsFrom 93 = .ok (.iload_n 3, 1) := by decide +kernel
theorem dX6_pairsFrom_94 : decode cX6_pairsFrom 94 = .ok (.ifCond .le 136, 3) := by decide +kernel
theorem dX6_pairsFrom_97 : decode cX6_pairsFrom 97 = .ok (.iload_n 1, 1) := by decide +kernel
theorem dX6_pairsFrom_98 : decode cX6_pairsFrom 98 = .ok (.iconst 1, 1) := by decide +kernel
theorem dX6_pairsFrom_99 : decode cX6_pairsFrom 99 = .ok (.iadd, 1) := by decide +kernel
theorem dX6_pairsFrom_100 : decode cX6_pairsFrom 100 = .ok (.istore 6, 2) := by decide +kernel
theorem dX6_pairsFrom_102 : decode cX6_pairsFrom 102 = .ok (.iload 6, 2) := by decide +kernel
theorem dX6_pairsFrom_104 : decode cX6_pairsFrom 104 = .ok (.aload_n 0, 1) := by decide +kernel
theorem dX6_pairsFrom_105 : decode cX6_pairsFrom 105 = .ok (.getfield 9, 3) := by decide +kernel
theorem dX6_pairsFrom_108 : decode cX6_pairsFrom 108 = .ok (.iconst 0, 1) := by decide +kernel
theorem dX6_pairsFrom_109 : decode cX6_pairsFrom 109 = .ok (.iaload, 1) := by decide +kernel
theorem dX6_pairsFrom_110 : decode cX6_pairsFrom 110 = .ok (.if_icmp .ge 114, 3) := by decide +kernel
theorem dX6_pairsFrom_113 : decode cX6_pairsFrom 113 = .ok (.iload 5, 2) := by decide +kernel
theorem dX6_pairsFrom_115 : decode cX6_pairsFrom 115 = .ok (.ifCond .ne 7, 3) := by decide +kernel
theorem dX6_pairsFrom_118 : decode cX6_pairsFrom 118 = .ok (.iload_n 1, 1) := by decide +kernel
theorem dX6_pairsFrom_119 : decode cX6_pairsFrom 119 = .ok (.goto 5, 3) := by decide +kernel
theorem dX6_pairsFrom_122 : decode cX6_pairsFrom 122 = .ok (.iload 6, 2) := by decide +kernel
theorem dX6_pairsFrom_124 : decode cX6_pairsFrom 124 = .ok (.istore 7, 2) := by decide +kernel
theorem dX6_pairsFrom_126 : decode cX6_pairsFrom 126 = .ok (.iload 5, 2) := by decide +kernel
theorem dX6_pairsFrom_128 : decode cX6_pairsFrom 128 = .ok (.ifCond .ne 8, 3) := by decide +kernel
theorem dX6_pairsFrom_131 : decode cX6_pairsFrom 131 = .ok (.iload 6, 2) := by decide +kernel
theorem dX6_pairsFrom_133 : decode cX6_pairsFrom 133 = .ok (.goto 4, 3) := by decide +kernel
theorem dX6_pairsFrom_136 : decode cX6_pairsFrom 136 = .ok (.iload_n 1, 1) := by decide +kernel
theorem dX6_pairsFrom_137 : decode cX6_pairsFrom 137 = .ok (.istore 8, 2) := by decide +kernel
theorem dX6_pairsFrom_139 : decode cX6_pairsFrom 139 = .ok (.iload_n 2, 1) := by decide +kernel
theorem dX6_pairsFrom_140 : decode cX6_pairsFrom 140 = .ok (.iload 6, 2) := by decide +kernel
theorem dX6_pairsFrom_142 : decode cX6_pairsFrom 142 = .ok (.ishr, 1) := by decide +kernel
theorem dX6_pairsFrom_143 : decode cX6_pairsFrom 143 = .ok (.iconst 1, 1) := by decide +kernel
theorem dX6_pairsFrom_144 : decode cX6_pairsFrom 144 = .ok (.iand, 1) := by decide +kernel
theorem dX6_pairsFrom_145 : decode cX6_pairsFrom 145 = .ok (.iconst 1, 1) := by decide +kernel
theorem dX6_pairsFrom_146 : decode cX6_pairsFrom 146 = .ok (.if_icmp .eq 72, 3) := by decide +kernel
theorem dX6_pairsFrom_149 : decode cX6_pairsFrom 149 = .ok (.aload_n 0, 1) := by decide +kernel
theorem dX6_pairsFrom_150 : decode cX6_pairsFrom 150 = .ok (.getfield 9, 3) := by decide +kernel
theorem dX6_pairsFrom_153 : decode cX6_pairsFrom 153 = .ok (.iload 7, 2) := by decide +kernel
theorem dX6_pairsFrom_155 : decode cX6_pairsFrom 155 = .ok (.iload 8, 2) := by decide +kernel
theorem dX6_pairsFrom_157 : decode cX6_pairsFrom 157 = .ok (.invokestatic 91, 3) := by decide +kernel
theorem dX6_pairsFrom_160 : decode cX6_pairsFrom 160 = .ok (.ifCond .ne 6, 3) := by decide +kernel
theorem dX6_pairsFrom_163 : decode cX6_pairsFrom 163 = .ok (.goto 55, 3) := by decide +kernel
theorem dX6_pairsFrom_166 : decode cX6_pairsFrom 166 = .ok (.aload_n 0, 1) := by decide +kernel
theorem dX6_pairsFrom_167 : decode cX6_pairsFrom 167 = .ok (.getfield 25, 3) := by decide +kernel
theorem dX6_pairsFrom_170 : decode cX6_pairsFrom 170 = .ok (.iload 7, 2) := by decide +kernel
theorem dX6_pairsFrom_172 : decode cX6_pairsFrom 172 = .ok (.iload 8, 2) := by decide +kernel
theorem dX6_pairsFrom_174 : decode cX6_pairsFrom 174 = .ok (.iastore, 1) := by decide +kernel
theorem dX6_pairsFrom_175 : decode cX6_pairsFrom 175 = .ok (.aload_n 0, 1) := by decide +kernel
theorem dX6_pairsFrom_176 : decode cX6_pairsFrom 176 = .ok (.iload_n 1, 1) := by decide +kernel
theorem dX6_pairsFrom_177 : decode cX6_pairsFrom 177 = .ok (.iconst 1, 1) := by decide +kernel
theorem dX6_pairsFrom_178 : decode cX6_pairsFrom 178 = .ok (.iadd, 1) := by decide +kernel
theorem dX6_pairsFrom_179 : decode cX6_pairsFrom 179 = .ok (.iload_n 2, 1) := by decide +kernel
theorem dX6_pairsFrom_180 : decode cX6_pairsFrom 180 = .ok (.iconst 1, 1) := by decide +kernel
theorem dX6_pairsFrom_181 : decode cX6_pairsFrom 181 = .ok (.iload_n 1, 1) := by decide +kernel
theorem dX6_pairsFrom_182 : decode cX6_pairsFrom 182 = .ok (.ishl, 1) := by decide +kernel
theorem dX6_pairsFrom_183 : decode cX6_pairsFrom 183 = .ok (.ior, 1) := by decide +kernel
theorem dX6_pairsFrom_184 : decode cX6_pairsFrom 184 = .ok (.iconst 1, 1) := by decide +kernel
theorem dX6_pairsFrom_185 : decode cX6_pairsFrom 185 = .ok (.iload 6, 2) := by decide +kernel
theorem dX6_pairsFrom_187 : decode cX6_pairsFrom 187 = .ok (.ishl, 1) := by decide +kernel
theorem dX6_pairsFrom_188 : decode cX6_pairsFrom 188 = .ok (.ior, 1) := by decide +kernel
theorem dX6_pairsFrom_189 : decode cX6_pairsFrom 189 = .ok (.iload_n 3, 1) := by decide +kernel
theorem dX6_pairsFrom_190 : decode cX6_pairsFrom 190 = .ok (.iconst 1, 1) := by decide +kernel
theorem dX6_pairsFrom_191 : decode cX6_pairsFrom 191 = .ok (.isub, 1) := by decide +kernel
theorem dX6_pairsFrom_192 : decode cX6_pairsFrom 192 = .ok (.iload 4, 2) := by decide +kernel
theorem dX6_pairsFrom_194 : decode cX6_pairsFrom 194 = .ok (.aload_n 0, 1) := by decide +kernel
theorem dX6_pairsFrom_195 : decode cX6_pairsFrom 195 = .ok (.getfield 9, 3) := by decide +kernel
theorem dX6_pairsFrom_198 : decode cX6_pairsFrom 198 = .ok (.iload 7, 2) := by decide +kernel
theorem dX6_pairsFrom_200 : decode cX6_pairsFrom 200 = .ok (.iload 8, 2) := by decide +kernel
theorem dX6_pairsFrom_202 : decode cX6_pairsFrom 202 = .ok (.invokestatic 88, 3) := by decide +kernel
theorem dX6_pairsFrom_205 : decode cX6_pairsFrom 205 = .ok (.iadd, 1) := by decide +kernel
theorem dX6_pairsFrom_206 : decode cX6_pairsFrom 206 = .ok (.invokevirtual 154, 3) := by decide +kernel
theorem dX6_pairsFrom_209 : decode cX6_pairsFrom 209 = .ok (.aload_n 0, 1) := by decide +kernel
theorem dX6_pairsFrom_210 : decode cX6_pairsFrom 210 = .ok (.getfield 25, 3) := by decide +kernel
theorem dX6_pairsFrom_213 : decode cX6_pairsFrom 213 = .ok (.iload 7, 2) := by decide +kernel
theorem dX6_pairsFrom_215 : decode cX6_pairsFrom 215 = .ok (.bipush 9, 2) := by decide +kernel
theorem dX6_pairsFrom_217 : decode cX6_pairsFrom 217 = .ok (.iastore, 1) := by decide +kernel
theorem dX6_pairsFrom_218 : decode cX6_pairsFrom 218 = .ok (.iinc 6 1, 3) := by decide +kernel
theorem dX6_pairsFrom_221 : decode cX6_pairsFrom 221 = .ok (.goto (-119), 3) := by decide +kernel
theorem dX6_pairsFrom_224 : decode cX6_pairsFrom 224 = .ok (.iinc 5 1, 3) := by decide +kernel
theorem dX6_pairsFrom_227 : decode cX6_pairsFrom 227 = .ok (.goto (-140), 3) := by decide +kernel
theorem dX6_pairsFrom_230 : decode cX6_pairsFrom 230 = .ok (.aload_n 0, 1) := by decide +kernel
theorem dX6_pairsFrom_231 : decode cX6_pairsFrom 231 = .ok (.iload_n 1, 1) := by decide +kernel
theorem dX6_pairsFrom_232 : decode cX6_pairsFrom 232 = .ok (.iconst 1, 1) := by decide +kernel
theorem dX6_pairsFrom_233 : decode cX6_pairsFrom 233 = .ok (.iadd, 1) := by decide +kernel
theorem dX6_pairsFrom_234 : decode cX6_pairsFrom 234 = .ok (.iload_n 2, 1) := by decide +kernel
theorem dX6_pairsFrom_235 : decode cX6_pairsFrom 235 = .ok (.iload_n 3, 1) := by decide +kernel
theorem dX6_pairsFrom_236 : decode cX6_pairsFrom 236 = .ok (.iload 4, 2) := by decide +kernel
theorem dX6_pairsFrom_238 : decode cX6_pairsFrom 238 = .ok (.invokevirtual 154, 3) := by decide +kernel
theorem dX6_pairsFrom_241 : decode cX6_pairsFrom 241 = .ok (.return_, 1) := by decide +kernel
theorem dX6_pairs_0 : decode cX6_pairs 0 = .ok (.iload_n 1, 1) := by decide +kernel
theorem dX6_pairs_1 : decode cX6_pairs 1 = .ok (.iconst (-1), 1) := by decide +kernel
theorem dX6_pairs_2 : decode cX6_pairs 2 = .ok (.if_icmp .eq 13, 3) := by decide +kernel
theorem dX6_pairs_5 : decode cX6_pairs 5 = .ok (.aload_n 0, 1) := by decide +kernel
theorem dX6_pairs_6 : decode cX6_pairs 6 = .ok (.iload_n 1, 1) := by decide +kernel
theorem dX6_pairs_7 : decode cX6_pairs 7 = .ok (.invokevirtual 121, 3) := by decide +kernel
theorem dX6_pairs_10 : decode cX6_pairs 10 = .ok (.ifCond .ne 5, 3) := by decide +kernel
theorem dX6_pairs_13 : decode cX6_pairs 13 = .ok (.iconst (-1), 1) := by decide +kernel
theorem dX6_pairs_14 : decode cX6_pairs 14 = .ok (.ireturn, 1) := by decide +kernel
theorem dX6_pairs_15 : decode cX6_pairs 15 = .ok (.iconst 0, 1) := by decide +kernel
theorem dX6_pairs_16 : decode cX6_pairs 16 = .ok (.istore_n 2, 1) := by decide +kernel
theorem dX6_pairs_17 : decode cX6_pairs 17 = .ok (.iload_n 2, 1) := by decide +kernel
theorem dX6_pairs_18 : decode cX6_pairs 18 = .ok (.bipush 8, 2) := by decide +kernel
theorem dX6_pairs_20 : decode cX6_pairs 20 = .ok (.if_icmp .ge 17, 3) := by decide +kernel
theorem dX6_pairs_23 : decode cX6_pairs 23 = .ok (.aload_n 0, 1) := by decide +kernel
theorem dX6_pairs_24 : decode cX6_pairs 24 = .ok (.getfield 25, 3) := by decide +kernel
theorem dX6_pairs_27 : decode cX6_pairs 27 = .ok (.iload_n 2, 1) := by decide +kernel
theorem dX6_pairs_28 : decode cX6_pairs 28 = .ok (.bipush 9, 2) := by decide +kernel
theorem dX6_pairs_30 : decode cX6_pairs 30 = .ok (.iastore, 1) := by decide +kernel
theorem dX6_pairs_31 : decode cX6_pairs 31 = .ok (.iinc 2 1, 3) := by decide +kernel
theorem dX6_pairs_34 : decode cX6_pairs 34 = .ok (.goto (-17), 3) := by decide +kernel
theorem dX6_pairs_37 : decode cX6_pairs 37 = .ok (.aload_n 0, 1) := by decide +kernel
theorem dX6_pairs_38 : decode cX6_pairs 38 = .ok (.iconst (-1), 1) := by decide +kernel
theorem dX6_pairs_39 : decode cX6_pairs 39 = .ok (.putfield 151, 3) := by decide +kernel
theorem dX6_pairs_42 : decode cX6_pairs 42 = .ok (.aload_n 0, 1) := by decide +kernel
theorem dX6_pairs_43 : decode cX6_pairs 43 = .ok (.iconst 0, 1) := by decide +kernel
theorem dX6_pairs_44 : decode cX6_pairs 44 = .ok (.iconst 0, 1) := by decide +kernel
theorem dX6_pairs_45 : decode cX6_pairs 45 = .ok (.aload_n 0, 1) := by decide +kernel
theorem dX6_pairs_46 : decode cX6_pairs 46 = .ok (.getfield 9, 3) := by decide +kernel
theorem dX6_pairs_49 : decode cX6_pairs 49 = .ok (.iconst 1, 1) := by decide +kernel
theorem dX6_pairs_50 : decode cX6_pairs 50 = .ok (.iaload, 1) := by decide +kernel
theorem dX6_pairs_51 : decode cX6_pairs 51 = .ok (.iconst 0, 1) := by decide +kernel
theorem dX6_pairs_52 : decode cX6_pairs 52 = .ok (.invokevirtual 154, 3) := by decide +kernel
theorem dX6_pairs_55 : decode cX6_pairs 55 = .ok (.iload_n 1, 1) := by decide +kernel
theorem dX6_pairs_56 : decode cX6_pairs 56 = .ok (.ifCond .ge 10, 3) := by decide +kernel
theorem dX6_pairs_59 : decode cX6_pairs 59 = .ok (.aload_n 0, 1) := by decide +kernel
theorem dX6_pairs_60 : decode cX6_pairs 60 = .ok (.getfield 151, 3) := by decide +kernel
theorem dX6_pairs_63 : decode cX6_pairs 63 = .ok (.goto 9, 3) := by decide +kernel
theorem dX6_pairs_66 : decode cX6_pairs 66 = .ok (.aload_n 0, 1) := by decide +kernel
theorem dX6_pairs_67 : decode cX6_pairs 67 = .ok (.getfield 28, 3) := by decide +kernel
theorem dX6_pairs_70 : decode cX6_pairs 70 = .ok (.iload_n 1, 1) := by decide +kernel
theorem dX6_pairs_71 : decode cX6_pairs 71 = .ok (.iaload, 1) := by decide +kernel
theorem dX6_pairs_72 : decode cX6_pairs 72 = .ok (.ireturn, 1) := by decide +kernel
theorem dX6_greedily_0 : decode cX6_greedily 0 = .ok (.iload_n 1, 1) := by decide +kernel
theorem dX6_greedily_1 : decode cX6_greedily 1 = .ok (.iconst 0, 1) := by decide +kernel
theorem dX6_greedily_2 : decode cX6_greedily 2 = .ok (.bipush 30, 2) := by decide +kernel
theorem dX6_greedily_4 : decode cX6_greedily 4 = .ok (.invokestatic 49, 3) := by decide +kernel
theorem dX6_greedily_7 : decode cX6_greedily 7 = .ok (.ifCond .eq 12, 3) := by decide +kernel
theorem dX6_greedily_10 : decode cX6_greedily 10 = .ok (.iload_n 2, 1) := by decide +kernel
theorem dX6_greedily_11 : decode cX6_greedily 11 = .ok (.iconst 0, 1) := by decide +kernel
theorem dX6_greedily_12 : decode cX6_greedily 12 = .ok (.iconst 1, 1) := by decide +kernel
theorem dX6_greedily_13 : decode cX6_greedily 13 = .ok (.invokestatic 49, 3) := by decide +kernel
theorem dX6_greedily_16 : decode cX6_greedily 16 = .ok (.ifCond .ne 5, 3) := by decide +kernel
theorem dX6_greedily_19 : decode cX6_greedily 19 = .ok (.iconst (-1), 1) := by decide +kernel
theorem dX6_greedily_20 : decode cX6_greedily 20 = .ok (.ireturn, 1) := by decide +kernel
theorem dX6_greedily_21 : decode cX6_greedily 21 = .ok (.aload_n 0, 1) := by decide +kernel
theorem dX6_greedily_22 : decode cX6_greedily 22 = .ok (.getfield 9, 3) := by decide +kernel
theorem dX6_greedily_25 : decode cX6_greedily 25 = .ok (.aload_n 0, 1) := by decide +kernel
theorem dX6_greedily_26 : decode cX6_greedily 26 = .ok (.getfield 13, 3) := by decide +kernel
theorem dX6_greedily_29 : decode cX6_greedily 29 = .ok (.invokestatic 135, 3) := by decide +kernel
theorem dX6_greedily_32 : decode cX6_greedily 32 = .ok (.iconst 0, 1) := by decide +kernel
theorem dX6_greedily_33 : decode cX6_greedily 33 = .ok (.istore_n 3, 1) := by decide +kernel
theorem dX6_greedily_34 : decode cX6_greedily 34 = .ok (.iconst 0, 1) := by decide +kernel
theorem dX6_greedily_35 : decode cX6_greedily 35 = .ok (.istore 4, 2) := by decide +kernel
theorem dX6_greedily_37 : decode cX6_greedily 37 = .ok (.iload 4, 2) := by decide +kernel
theorem dX6_greedily_39 : decode cX6_greedily 39 = .ok (.iload_n 1, 1) := by decide +kernel
theorem dX6_greedily_40 : decode cX6_greedily 40 = .ok (.if_icmp .ge 48, 3) := by decide +kernel
theorem dX6_greedily_43 : decode cX6_greedily 43 = .ok (.aload_n 0, 1) := by decide +kernel
theorem dX6_greedily_44 : decode cX6_greedily 44 = .ok (.getfield 13, 3) := by decide +kernel
theorem dX6_greedily_47 : decode cX6_greedily 47 = .ok (.invokestatic 95, 3) := by decide +kernel
theorem dX6_greedily_50 : decode cX6_greedily 50 = .ok (.ifCond .lt 38, 3) := by decide +kernel
theorem dX6_greedily_53 : decode cX6_greedily 53 = .ok (.aload_n 0, 1) := by decide +kernel
theorem dX6_greedily_54 : decode cX6_greedily 54 = .ok (.getfield 13, 3) := by decide +kernel
theorem dX6_greedily_57 : decode cX6_greedily 57 = .ok (.invokestatic 95, 3) := by decide +kernel
theorem dX6_greedily_60 : decode cX6_greedily 60 = .ok (.istore 5, 2) := by decide +kernel
theorem dX6_greedily_62 : decode cX6_greedily 62 = .ok (.iload_n 3, 1) := by decide +kernel
theorem dX6_greedily_63 : decode cX6_greedily 63 = .ok (.aload_n 0, 1) := by decide +kernel
theorem dX6_greedily_64 : decode cX6_greedily 64 = .ok (.getfield 13, 3) := by decide +kernel
theorem dX6_greedily_67 : decode cX6_greedily 67 = .ok (.iload 5, 2) := by decide +kernel
theorem dX6_greedily_69 : decode cX6_greedily 69 = .ok (.bipush 10, 2) := by decide +kernel
theorem dX6_greedily_71 : decode cX6_greedily 71 = .ok (.idiv, 1) := by decide +kernel
theorem dX6_greedily_72 : decode cX6_greedily 72 = .ok (.iload 5, 2) := by decide +kernel
theorem dX6_greedily_74 : decode cX6_greedily 74 = .ok (.bipush 10, 2) := by decide +kernel
theorem dX6_greedily_76 : decode cX6_greedily 76 = .ok (.irem, 1) := by decide +kernel
theorem dX6_greedily_77 : decode cX6_greedily 77 = .ok (.invokestatic 125, 3) := by decide +kernel
theorem dX6_greedily_80 : decode cX6_greedily 80 = .ok (.iadd, 1) := by decide +kernel
theorem dX6_greedily_81 : decode cX6_greedily 81 = .ok (.istore_n 3, 1) := by decide +kernel
theorem dX6_greedily_82 : decode cX6_greedily 82 = .ok (.iinc 4 1, 3) := by decide +kernel
theorem dX6_greedily_85 : decode cX6_greedily 85 = .ok (.goto (-48), 3) := by decide +kernel
theorem dX6_greedily_88 : decode cX6_greedily 88 = .ok (.iload_n 2, 1) := by decide +kernel
theorem dX6_greedily_89 : decode cX6_greedily 89 = .ok (.ifCond .ne 7, 3) := by decide +kernel
theorem dX6_greedily_92 : decode cX6_greedily 92 = .ok (.iload_n 3, 1) := by decide +kernel
theorem dX6_greedily_93 : decode cX6_greedily 93 = .ok (.goto 5, 3) := by decide +kernel
theorem dX6_greedily_96 : decode cX6_greedily 96 = .ok (.iload 4, 2) := by decide +kernel
theorem dX6_greedily_98 : decode cX6_greedily 98 = .ok (.ireturn, 1) := by decide +kernel
theorem dX6_atAll_0 : decode cX6_atAll 0 = .ok (.iload_n 1, 1) := by decide +kernel
theorem dX6_atAll_1 : decode cX6_atAll 1 = .ok (.iconst 0, 1) := by decide +kernel
theorem dX6_atAll_2 : decode cX6_atAll 2 = .ok (.iconst 1, 1) := by decide +kernel
theorem dX6_atAll_3 : decode cX6_atAll 3 = .ok (.invokestatic 49, 3) := by decide +kernel
theorem dX6_atAll_6 : decode cX6_atAll 6 = .ok (.ifCond .ne 5, 3) := by decide +kernel
theorem dX6_atAll_9 : decode cX6_atAll 9 = .ok (.iconst (-1), 1) := by decide +kernel
theorem dX6_atAll_10 : decode cX6_atAll 10 = .ok (.ireturn, 1) := by decide +kernel
theorem dX6_atAll_11 : decode cX6_atAll 11 = .ok (.bipush (-4), 2) := by decide +kernel
theorem dX6_atAll_13 : decode cX6_atAll 13 = .ok (.istore_n 2, 1) := by decide +kernel
theorem dX6_atAll_14 : decode cX6_atAll 14 = .ok (.iconst 0, 1) := by decide +kernel
theorem dX6_atAll_15 : decode cX6_atAll 15 = .ok (.istore_n 3, 1) := by decide +kernel
theorem dX6_atAll_16 : decode cX6_atAll 16 = .ok (.iconst 0, 1) := by decide +kernel
theorem dX6_atAll_17 : decode cX6_atAll 17 = .ok (.istore 4, 2) := by decide +kernel
theorem dX6_atAll_19 : decode cX6_atAll 19 = .ok (.iconst 0, 1) := by decide +kernel
theorem dX6_atAll_20 : decode cX6_atAll 20 = .ok (.istore 5, 2) := by decide +kernel
theorem dX6_atAll_22 : decode cX6_atAll 22 = .ok (.iconst 0, 1) := by decide +kernel
theorem dX6_atAll_23 : decode cX6_atAll 23 = .ok (.istore 6, 2) := by decide +kernel
theorem dX6_atAll_25 : decode cX6_atAll 25 = .ok (.iload 6, 2) := by decide +kernel
theorem dX6_atAll_27 : decode cX6_atAll 27 = .ok (.aload_n 0, 1) := by decide +kernel
theorem dX6_atAll_28 : decode cX6_atAll 28 = .ok (.getfield 9, 3) := by decide +kernel
theorem dX6_atAll_31 : decode cX6_atAll 31 = .ok (.iconst 0, 1) := by decide +kernel
theorem dX6_atAll_32 : decode cX6_atAll 32 = .ok (.iaload, 1) := by decide +kernel
theorem dX6_atAll_33 : decode cX6_atAll 33 = .ok (.if_icmp .ge 133, 3) := by decide +kernel
theorem dX6_atAll_36 : decode cX6_atAll 36 = .ok (.aload_n 0, 1) := by decide +kernel
theorem dX6_atAll_37 : decode cX6_atAll 37 = .ok (.getfield 9, 3) := by decide +kernel
theorem dX6_atAll_40 : decode cX6_atAll 40 = .ok (.iload 6, 2) := by decide +kernel
theorem dX6_atAll_42 : decode cX6_atAll 42 = .ok (.iconst 2, 1) := by decide +kernel
theorem dX6_atAll_43 : decode cX6_atAll 43 = .ok (.invokestatic 53, 3) := by decide +kernel
theorem dX6_atAll_46 : decode cX6_atAll 46 = .ok (.iaload, 1) := by decide +kernel
theorem dX6_atAll_47 : decode cX6_atAll 47 = .ok (.ifCond .le 21, 3) := by decide +kernel
theorem dX6_atAll_50 : decode cX6_atAll 50 = .ok (.aload_n 0, 1) := by decide +kernel
theorem dX6_atAll_51 : decode cX6_atAll 51 = .ok (.getfield 9, 3) := by decide +kernel
theorem dX6_atAll_54 : decode cX6_atAll 54 = .ok (.iload 6, 2) := by decide +kernel
theorem dX6_atAll_56 : decode cX6_atAll 56 = .ok (.iconst 4, 1) := by decide +kernel
theorem dX6_atAll_57 : decode cX6_atAll 57 = .ok (.invokestatic 53, 3) := by decide +kernel
theorem dX6_atAll_60 : decode cX6_atAll 60 = .ok (.iaload, 1) := by decide +kernel
theorem dX6_atAll_61 : decode cX6_atAll 61 = .ok (.ifCond .ne 7, 3) := by decide +kernel
theorem dX6_atAll_64 : decode cX6_atAll 64 = .ok (.iconst 1, 1) := by decide +kernel
theorem dX6_atAll_65 : decode cX6_atAll 65 = .ok (.goto 4, 3) := by decide +kernel
theorem dX6_atAll_68 : decode cX6_atAll 68 = .ok (.iconst 0, 1) := by decide +kernel
theorem dX6_atAll_69 : decode cX6_atAll 69 = .ok (.istore 7, 2) := by decide +kernel
theorem dX6_atAll_71 : decode cX6_atAll 71 = .ok (.iload_n 3, 1) := by decide +kernel
theorem dX6_atAll_72 : decode cX6_atAll 72 = .ok (.iload 7, 2) := by decide +kernel
theorem dX6_atAll_74 : decode cX6_atAll 74 = .ok (.ifCond .eq 7, 3) := by decide +kernel
theorem dX6_atAll_77 : decode cX6_atAll 77 = .ok (.iconst 1, 1) := by decide +kernel
theorem dX6_atAll_78 : decode cX6_atAll 78 = .ok (.goto 4, 3) := by decide +kernel
theorem dX6_atAll_81 : decode cX6_atAll 81 = .ok (.iconst 0, 1) := by decide +kernel
theorem dX6_atAll_82 : decode cX6_atAll 82 = .ok (.iadd, 1) := by decide +kernel
theorem dX6_atAll_83 : decode cX6_atAll 83 = .ok (.istore_n 3, 1) := by decide +kernel
theorem dX6_atAll_84 : decode cX6_atAll 84 = .ok (.aload_n 0, 1) := by decide +kernel
theorem dX6_atAll_85 : decode cX6_atAll 85 = .ok (.getfield 9, 3) := by decide +kernel
theorem dX6_atAll_88 : decode cX6_atAll 88 = .ok (.iload 6, 2) := by decide +kernel
theorem dX6_atAll_90 : decode cX6_atAll 90 = .ok (.invokestatic 66, 3) := by decide +kernel
theorem dX6_atAll_93 : decode cX6_atAll 93 = .ok (.ifCond .ne 6, 3) := by decide +kernel
theorem dX6_atAll_96 : decode cX6_atAll 96 = .ok (.goto 64, 3) := by decide +kernel
theorem dX6_atAll_99 : decode cX6_atAll 99 = .ok (.iload 4, 2) := by decide +kernel
theorem dX6_atAll_101 : decode cX6_atAll 101 = .ok (.iload 7, 2) := by decide +kernel
theorem dX6_atAll_103 : decode cX6_atAll 103 = .ok (.ifCond .eq 7, 3) := by decide +kernel
theorem dX6_atAll_106 : decode cX6_atAll 106 = .ok (.iconst 1, 1) := by decide +kernel
theorem dX6_atAll_107 : decode cX6_atAll 107 = .ok (.goto 4, 3) := by decide +kernel
theorem dX6_atAll_110 : decode cX6_atAll 110 = .ok (.iconst 0, 1) := by decide +kernel
theorem dX6_atAll_111 : decode cX6_atAll 111 = .ok (.iadd, 1) := by decide +kernel
theorem dX6_atAll_112 : decode cX6_atAll 112 = .ok (.istore 4, 2) := by decide +kernel
theorem dX6_atAll_114 : decode cX6_atAll 114 = .ok (.iload 5, 2) := by decide +kernel
theorem dX6_atAll_116 : decode cX6_atAll 116 = .ok (.iload 7, 2) := by decide +kernel
theorem dX6_atAll_118 : decode cX6_atAll 118 = .ok (.ifCond .eq 7, 3) := by decide +kernel
theorem dX6_atAll_121 : decode cX6_atAll 121 = .ok (.iconst 0, 1) := by decide +kernel
theorem dX6_atAll_122 : decode cX6_atAll 122 = .ok (.goto 4, 3) := by decide +kernel
theorem dX6_atAll_125 : decode cX6_atAll 125 = .ok (.iconst 1, 1) := by decide +kernel
theorem dX6_atAll_126 : decode cX6_atAll 126 = .ok (.iadd, 1) := by decide +kernel
theorem dX6_atAll_127 : decode cX6_atAll 127 = .ok (.istore 5, 2) := by decide +kernel
theorem dX6_atAll_129 : decode cX6_atAll 129 = .ok (.iload_n 2, 1) := by decide +kernel
theorem dX6_atAll_130 : decode cX6_atAll 130 = .ok (.ifCond .lt 27, 3) := by decide +kernel
theorem dX6_atAll_133 : decode cX6_atAll 133 = .ok (.aload_n 0, 1) := by decide +kernel
theorem dX6_atAll_134 : decode cX6_atAll 134 = .ok (.getfield 9, 3) := by decide +kernel
theorem dX6_atAll_137 : decode cX6_atAll 137 = .ok (.iload 6, 2) := by decide +kernel
theorem dX6_atAll_139 : decode cX6_atAll 139 = .ok (.iconst 2, 1) := by decide +kernel
theorem dX6_atAll_140 : decode cX6_atAll 140 = .ok (.invokestatic 53, 3) := by decide +kernel
theorem dX6_atAll_143 : decode cX6_atAll 143 = .ok (.iaload, 1) := by decide +kernel
theorem dX6_atAll_144 : decode cX6_atAll 144 = .ok (.aload_n 0, 1) := by decide +kernel
theorem dX6_atAll_145 : decode cX6_atAll 145 = .ok (.getfield 9, 3) := by decide +kernel
theorem dX6_atAll_148 : decode cX6_atAll 148 = .ok (.iload_n 2, 1) := by decide +kernel
theorem dX6_atAll_149 : decode cX6_atAll 149 = .ok (.iconst 2, 1) := by decide +kernel
theorem dX6_atAll_150 : decode cX6_atAll 150 = .ok (.invokestatic 53, 3) := by decide +kernel
theorem dX6_atAll_153 : decode cX6_atAll 153 = .ok (.iaload, 1) := by decide +kernel
theorem dX6_atAll_154 : decode cX6_atAll 154 = .ok (.if_icmp .ge 6, 3) := by decide +kernel
theorem dX6_atAll_157 : decode cX6_atAll 157 = .ok (.iload 6, 2) := by decide +kernel
theorem dX6_atAll_159 : decode cX6_atAll 159 = .ok (.istore_n 2, 1) := by decide +kernel
theorem dX6_atAll_160 : decode cX6_atAll 160 = .ok (.iinc 6 1, 3) := by decide +kernel
theorem dX6_atAll_163 : decode cX6_atAll 163 = .ok (.goto (-138), 3) := by decide +kernel
theorem dX6_atAll_166 : decode cX6_atAll 166 = .ok (.iload_n 1, 1) := by decide +kernel
theorem dX6_atAll_167 : decode cX6_atAll 167 = .ok (.iconst 1, 1) := by decide +kernel
theorem dX6_atAll_168 : decode cX6_atAll 168 = .ok (.if_icmp .ne 5, 3) := by decide +kernel
theorem dX6_atAll_171 : decode cX6_atAll 171 = .ok (.iload_n 2, 1) := by decide +kernel
theorem dX6_atAll_172 : decode cX6_atAll 172 = .ok (.ireturn, 1) := by decide +kernel
theorem dX6_atAll_173 : decode cX6_atAll 173 = .ok (.aload_n 0, 1) := by decide +kernel
theorem dX6_atAll_174 : decode cX6_atAll 174 = .ok (.getfield 9, 3) := by decide +kernel
theorem dX6_atAll_177 : decode cX6_atAll 177 = .ok (.iconst 1, 1) := by decide +kernel
theorem dX6_atAll_178 : decode cX6_atAll 178 = .ok (.iaload, 1) := by decide +kernel
theorem dX6_atAll_179 : decode cX6_atAll 179 = .ok (.iload 5, 2) := by decide +kernel
theorem dX6_atAll_181 : decode cX6_atAll 181 = .ok (.ifCond .le 7, 3) := by decide +kernel
theorem dX6_atAll_184 : decode cX6_atAll 184 = .ok (.iload_n 3, 1) := by decide +kernel
theorem dX6_atAll_185 : decode cX6_atAll 185 = .ok (.goto 15, 3) := by decide +kernel
theorem dX6_atAll_188 : decode cX6_atAll 188 = .ok (.iload 4, 2) := by decide +kernel
theorem dX6_atAll_190 : decode cX6_atAll 190 = .ok (.ifCond .le 9, 3) := by decide +kernel
theorem dX6_atAll_193 : decode cX6_atAll 193 = .ok (.iload_n 3, 1) := by decide +kernel
theorem dX6_atAll_194 : decode cX6_atAll 194 = .ok (.iconst 1, 1) := by decide +kernel
theorem dX6_atAll_195 : decode cX6_atAll 195 = .ok (.isub, 1) := by decide +kernel
theorem dX6_atAll_196 : decode cX6_atAll 196 = .ok (.goto 4, 3) := by decide +kernel
theorem dX6_atAll_199 : decode cX6_atAll 199 = .ok (.iconst 0, 1) := by decide +kernel
theorem dX6_atAll_200 : decode cX6_atAll 200 = .ok (.invokestatic 60, 3) := by decide +kernel
theorem dX6_atAll_203 : decode cX6_atAll 203 = .ok (.ireturn, 1) := by decide +kernel
theorem dX6_stuck_0 : decode cX6_stuck 0 = .ok (.iconst 0, 1) := by decide +kernel
theorem dX6_stuck_1 : decode cX6_stuck 1 = .ok (.istore_n 1, 1) := by decide +kernel
theorem dX6_stuck_2 : decode cX6_stuck 2 = .ok (.iconst 0, 1) := by decide +kernel
theorem dX6_stuck_3 : decode cX6_stuck 3 = .ok (.istore_n 2, 1) := by decide +kernel
theorem dX6_stuck_4 : decode cX6_stuck 4 = .ok (.iload_n 2, 1) := by decide +kernel
theorem dX6_stuck_5 : decode cX6_stuck 5 = .ok (.aload_n 0, 1) := by decide +kernel
theorem dX6_stuck_6 : decode cX6_stuck 6 = .ok (.getfield 9, 3) := by decide +kernel
theorem dX6_stuck_9 : decode cX6_stuck 9 = .ok (.iconst 0, 1) := by decide +kernel
theorem dX6_stuck_10 : decode cX6_stuck 10 = .ok (.iaload, 1) := by decide +kernel
theorem dX6_stuck_11 : decode cX6_stuck 11 = .ok (.if_icmp .ge 22, 3) := by decide +kernel
theorem dX6_stuck_14 : decode cX6_stuck 14 = .ok (.iload_n 1, 1) := by decide +kernel
theorem dX6_stuck_15 : decode cX6_stuck 15 = .ok (.aload_n 0, 1) := by decide +kernel
theorem dX6_stuck_16 : decode cX6_stuck 16 = .ok (.getfield 9, 3) := by decide +kernel
theorem dX6_stuck_19 : decode cX6_stuck 19 = .ok (.iload_n 2, 1) := by decide +kernel
theorem dX6_stuck_20 : decode cX6_stuck 20 = .ok (.iconst 2, 1) := by decide +kernel
theorem dX6_stuck_21 : decode cX6_stuck 21 = .ok (.invokestatic 53, 3) := by decide +kernel
theorem dX6_stuck_24 : decode cX6_stuck 24 = .ok (.iaload, 1) := by decide +kernel
theorem dX6_stuck_25 : decode cX6_stuck 25 = .ok (.iadd, 1) := by decide +kernel
theorem dX6_stuck_26 : decode cX6_stuck 26 = .ok (.istore_n 1, 1) := by decide +kernel
theorem dX6_stuck_27 : decode cX6_stuck 27 = .ok (.iinc 2 1, 3) := by decide +kernel
theorem dX6_stuck_30 : decode cX6_stuck 30 = .ok (.goto (-26), 3) := by decide +kernel
theorem dX6_stuck_33 : decode cX6_stuck 33 = .ok (.aload_n 0, 1) := by decide +kernel
theorem dX6_stuck_34 : decode cX6_stuck 34 = .ok (.getfield 9, 3) := by decide +kernel
theorem dX6_stuck_37 : decode cX6_stuck 37 = .ok (.iconst 1, 1) := by decide +kernel
theorem dX6_stuck_38 : decode cX6_stuck 38 = .ok (.iaload, 1) := by decide +kernel
theorem dX6_stuck_39 : decode cX6_stuck 39 = .ok (.ifCond .le 21, 3) := by decide +kernel
theorem dX6_stuck_42 : decode cX6_stuck 42 = .ok (.iload_n 1, 1) := by decide +kernel
theorem dX6_stuck_43 : decode cX6_stuck 43 = .ok (.ifCond .le 17, 3) := by decide +kernel
theorem dX6_stuck_46 : decode cX6_stuck 46 = .ok (.aload_n 0, 1) := by decide +kernel
theorem dX6_stuck_47 : decode cX6_stuck 47 = .ok (.getfield 9, 3) := by decide +kernel
theorem dX6_stuck_50 : decode cX6_stuck 50 = .ok (.invokestatic 95, 3) := by decide +kernel
theorem dX6_stuck_53 : decode cX6_stuck 53 = .ok (.ifCond .ge 7, 3) := by decide +kernel
theorem dX6_stuck_56 : decode cX6_stuck 56 = .ok (.iconst 1, 1) := by decide +kernel
theorem dX6_stuck_57 : decode cX6_stuck 57 = .ok (.goto 4, 3) := by decide +kernel
theorem dX6_stuck_60 : decode cX6_stuck 60 = .ok (.iconst 0, 1) := by decide +kernel
theorem dX6_stuck_61 : decode cX6_stuck 61 = .ok (.ireturn, 1) := by decide +kernel
theorem dX6_bring_0 : decode cX6_bring 0 = .ok (.iload_n 1, 1) := by decide +kernel
theorem dX6_bring_1 : decode cX6_bring 1 = .ok (.iconst 0, 1) := by decide +kernel
theorem dX6_bring_2 : decode cX6_bring 2 = .ok (.bipush 9, 2) := by decide +kernel
theorem dX6_bring_4 : decode cX6_bring 4 = .ok (.invokestatic 49, 3) := by decide +kernel
theorem dX6_bring_7 : decode cX6_bring 7 = .ok (.ifCond .ne 5, 3) := by decide +kernel
theorem dX6_bring_10 : decode cX6_bring 10 = .ok (.iconst (-1), 1) := by decide +kernel
theorem dX6_bring_11 : decode cX6_bring 11 = .ok (.ireturn, 1) := by decide +kernel
theorem dX6_bring_12 : decode cX6_bring 12 = .ok (.bipush (-4), 2) := by decide +kernel
theorem dX6_bring_14 : decode cX6_bring 14 = .ok (.istore_n 2, 1) := by decide +kernel
theorem dX6_bring_15 : decode cX6_bring 15 = .ok (.aload_n 0, 1) := by decide +kernel
theorem dX6_bring_16 : decode cX6_bring 16 = .ok (.getfield 9, 3) := by decide +kernel
theorem dX6_bring_19 : decode cX6_bring 19 = .ok (.invokestatic 148, 3) := by decide +kernel
theorem dX6_bring_22 : decode cX6_bring 22 = .ok (.istore_n 3, 1) := by decide +kernel
theorem dX6_bring_23 : decode cX6_bring 23 = .ok (.iconst 0, 1) := by decide +kernel
theorem dX6_bring_24 : decode cX6_bring 24 = .ok (.istore 4, 2) := by decide +kernel
theorem dX6_bring_26 : decode cX6_bring 26 = .ok (.iload 4, 2) := by decide +kernel
theorem dX6_bring_28 : decode cX6_bring 28 = .ok (.bipush 8, 2) := by decide +kernel
theorem dX6_bring_30 : decode cX6_bring 30 = .ok (.if_icmp .ge 57, 3) := by decide +kernel
theorem dX6_bring_33 : decode cX6_bring 33 = .ok (.aload_n 0, 1) := by decide +kernel
theorem dX6_bring_34 : decode cX6_bring 34 = .ok (.getfield 9, 3) := by decide +kernel
theorem dX6_bring_37 : decode cX6_bring 37 = .ok (.aload_n 0, 1) := by decide +kernel
theorem dX6_bring_38 : decode cX6_bring 38 = .ok (.getfield 13, 3) := by decide +kernel
theorem dX6_bring_41 : decode cX6_bring 41 = .ok (.invokestatic 135, 3) := by decide +kernel
theorem dX6_bring_44 : decode cX6_bring 44 = .ok (.aload_n 0, 1) := by decide +kernel
theorem dX6_bring_45 : decode cX6_bring 45 = .ok (.getfield 13, 3) := by decide +kernel
theorem dX6_bring_48 : decode cX6_bring 48 = .ok (.iload 4, 2) := by decide +kernel
theorem dX6_bring_50 : decode cX6_bring 50 = .ok (.iload_n 1, 1) := by decide +kernel
theorem dX6_bring_51 : decode cX6_bring 51 = .ok (.iconst 0, 1) := by decide +kernel
theorem dX6_bring_52 : decode cX6_bring 52 = .ok (.bipush 9, 2) := by decide +kernel
theorem dX6_bring_54 : decode cX6_bring 54 = .ok (.invokestatic 117, 3) := by decide +kernel
theorem dX6_bring_57 : decode cX6_bring 57 = .ok (.aload_n 0, 1) := by decide +kernel
theorem dX6_bring_58 : decode cX6_bring 58 = .ok (.getfield 13, 3) := by decide +kernel
theorem dX6_bring_61 : decode cX6_bring 61 = .ok (.invokestatic 148, 3) := by decide +kernel
theorem dX6_bring_64 : decode cX6_bring 64 = .ok (.istore 5, 2) := by decide +kernel
theorem dX6_bring_66 : decode cX6_bring 66 = .ok (.iload 5, 2) := by decide +kernel
theorem dX6_bring_68 : decode cX6_bring 68 = .ok (.iload_n 3, 1) := by decide +kernel
theorem dX6_bring_69 : decode cX6_bring 69 = .ok (.if_icmp .gt 6, 3) := by decide +kernel
theorem dX6_bring_72 : decode cX6_bring 72 = .ok (.goto 9, 3) := by decide +kernel
theorem dX6_bring_75 : decode cX6_bring 75 = .ok (.iload 4, 2) := by decide +kernel
theorem dX6_bring_77 : decode cX6_bring 77 = .ok (.istore_n 2, 1) := by decide +kernel
theorem dX6_bring_78 : decode cX6_bring 78 = .ok (.iload 5, 2) := by decide +kernel
theorem dX6_bring_80 : decode cX6_bring 80 = .ok (.istore_n 3, 1) := by decide +kernel
theorem dX6_bring_81 : decode cX6_bring 81 = .ok (.iinc 4 1, 3) := by decide +kernel
theorem dX6_bring_84 : decode cX6_bring 84 = .ok (.goto (-58), 3) := by decide +kernel
theorem dX6_bring_87 : decode cX6_bring 87 = .ok (.iload_n 2, 1) := by decide +kernel
theorem dX6_bring_88 : decode cX6_bring 88 = .ok (.ireturn, 1) := by decide +kernel
theorem dX6_feeds_0 : decode cX6_feeds 0 = .ok (.aload_n 0, 1) := by decide +kernel
theorem dX6_feeds_1 : decode cX6_feeds 1 = .ok (.iload_n 1, 1) := by decide +kernel
theorem dX6_feeds_2 : decode cX6_feeds 2 = .ok (.invokevirtual 121, 3) := by decide +kernel
theorem dX6_feeds_5 : decode cX6_feeds 5 = .ok (.ifCond .ne 5, 3) := by decide +kernel
theorem dX6_feeds_8 : decode cX6_feeds 8 = .ok (.iconst (-1), 1) := by decide +kernel
theorem dX6_feeds_9 : decode cX6_feeds 9 = .ok (.ireturn, 1) := by decide +kernel
theorem dX6_feeds_10 : decode cX6_feeds 10 = .ok (.aload_n 0, 1) := by decide +kernel
theorem dX6_feeds_11 : decode cX6_feeds 11 = .ok (.getfield 9, 3) := by decide +kernel
theorem dX6_feeds_14 : decode cX6_feeds 14 = .ok (.iload_n 1, 1) := by decide +kernel
theorem dX6_feeds_15 : decode cX6_feeds 15 = .ok (.iconst 0, 1) := by decide +kernel
theorem dX6_feeds_16 : decode cX6_feeds 16 = .ok (.invokestatic 53, 3) := by decide +kernel
theorem dX6_feeds_19 : decode cX6_feeds 19 = .ok (.iaload, 1) := by decide +kernel
theorem dX6_feeds_20 : decode cX6_feeds 20 = .ok (.aload_n 0, 1) := by decide +kernel
theorem dX6_feeds_21 : decode cX6_feeds 21 = .ok (.getfield 9, 3) := by decide +kernel
theorem dX6_feeds_24 : decode cX6_feeds 24 = .ok (.iload_n 1, 1) := by decide +kernel
theorem dX6_feeds_25 : decode cX6_feeds 25 = .ok (.iconst 1, 1) := by decide +kernel
theorem dX6_feeds_26 : decode cX6_feeds 26 = .ok (.invokestatic 53, 3) := by decide +kernel
theorem dX6_feeds_29 : decode cX6_feeds 29 = .ok (.iaload, 1) := by decide +kernel
theorem dX6_feeds_30 : decode cX6_feeds 30 = .ok (.invokestatic 57, 3) := by decide +kernel
theorem dX6_feeds_33 : decode cX6_feeds 33 = .ok (.istore_n 2, 1) := by decide +kernel
theorem dX6_feeds_34 : decode cX6_feeds 34 = .ok (.aload_n 0, 1) := by decide +kernel
theorem dX6_feeds_35 : decode cX6_feeds 35 = .ok (.getfield 9, 3) := by decide +kernel
theorem dX6_feeds_38 : decode cX6_feeds 38 = .ok (.iload_n 1, 1) := by decide +kernel
theorem dX6_feeds_39 : decode cX6_feeds 39 = .ok (.iconst 2, 1) := by decide +kernel
theorem dX6_feeds_40 : decode cX6_feeds 40 = .ok (.invokestatic 53, 3) := by decide +kernel
theorem dX6_feeds_43 : decode cX6_feeds 43 = .ok (.iaload, 1) := by decide +kernel
theorem dX6_feeds_44 : decode cX6_feeds 44 = .ok (.iload_n 2, 1) := by decide +kernel
theorem dX6_feeds_45 : decode cX6_feeds 45 = .ok (.iadd, 1) := by decide +kernel
theorem dX6_feeds_46 : decode cX6_feeds 46 = .ok (.iconst 1, 1) := by decide +kernel
theorem dX6_feeds_47 : decode cX6_feeds 47 = .ok (.isub, 1) := by decide +kernel
theorem dX6_feeds_48 : decode cX6_feeds 48 = .ok (.iload_n 2, 1) := by decide +kernel
theorem dX6_feeds_49 : decode cX6_feeds 49 = .ok (.idiv, 1) := by decide +kernel
theorem dX6_feeds_50 : decode cX6_feeds 50 = .ok (.ireturn, 1) := by decide +kernel
theorem dX6_buyers_0 : decode cX6_buyers 0 = .ok (.iconst 0, 1) := by decide +kernel
theorem dX6_buyers_1 : decode cX6_buyers 1 = .ok (.istore_n 2, 1) := by decide +kernel
theorem dX6_buyers_2 : decode cX6_buyers 2 = .ok (.iconst 0, 1) := by decide +kernel
theorem dX6_buyers_3 : decode cX6_buyers 3 = .ok (.istore_n 3, 1) := by decide +kernel
theorem dX6_buyers_4 : decode cX6_buyers 4 = .ok (.iload_n 3, 1) := by decide +kernel
theorem dX6_buyers_5 : decode cX6_buyers 5 = .ok (.aload_n 0, 1) := by decide +kernel
theorem dX6_buyers_6 : decode cX6_buyers 6 = .ok (.getfield 9, 3) := by decide +kernel
theorem dX6_buyers_9 : decode cX6_buyers 9 = .ok (.iconst 0, 1) := by decide +kernel
theorem dX6_buyers_10 : decode cX6_buyers 10 = .ok (.iaload, 1) := by decide +kernel
theorem dX6_buyers_11 : decode cX6_buyers 11 = .ok (.if_icmp .ge 42, 3) := by decide +kernel
theorem dX6_buyers_14 : decode cX6_buyers 14 = .ok (.iload_n 2, 1) := by decide +kernel
theorem dX6_buyers_15 : decode cX6_buyers 15 = .ok (.aload_n 0, 1) := by decide +kernel
theorem dX6_buyers_16 : decode cX6_buyers 16 = .ok (.getfield 9, 3) := by decide +kernel
theorem dX6_buyers_19 : decode cX6_buyers 19 = .ok (.iload_n 3, 1) := by decide +kernel
theorem dX6_buyers_20 : decode cX6_buyers 20 = .ok (.iconst 2, 1) := by decide +kernel
theorem dX6_buyers_21 : decode cX6_buyers 21 = .ok (.invokestatic 53, 3) := by decide +kernel
theorem dX6_buyers_24 : decode cX6_buyers 24 = .ok (.iaload, 1) := by decide +kernel
theorem dX6_buyers_25 : decode cX6_buyers 25 = .ok (.ifCond .le 19, 3) := by decide +kernel
theorem dX6_buyers_28 : decode cX6_buyers 28 = .ok (.aload_n 0, 1) := by decide +kernel
theorem dX6_buyers_29 : decode cX6_buyers 29 = .ok (.getfield 9, 3) := by decide +kernel
theorem dX6_buyers_32 : decode cX6_buyers 32 = .ok (.iload_n 3, 1) := by decide +kernel
theorem dX6_buyers_33 : decode cX6_buyers 33 = .ok (.invokestatic 70, 3) := by decide +kernel
theorem dX6_buyers_36 : decode cX6_buyers 36 = .ok (.iload_n 1, 1) := by decide +kernel
theorem dX6_buyers_37 : decode cX6_buyers 37 = .ok (.if_icmp .lt 7, 3) := by decide +kernel
theorem dX6_buyers_40 : decode cX6_buyers 40 = .ok (.iconst 1, 1) := by decide +kernel
theorem dX6_buyers_41 : decode cX6_buyers 41 = .ok (.goto 4, 3) := by decide +kernel
theorem dX6_buyers_44 : decode cX6_buyers 44 = .ok (.iconst 0, 1) := by decide +kernel
theorem dX6_buyers_45 : decode cX6_buyers 45 = .ok (.iadd, 1) := by decide +kernel
theorem dX6_buyers_46 : decode cX6_buyers 46 = .ok (.istore_n 2, 1) := by decide +kernel
theorem dX6_buyers_47 : decode cX6_buyers 47 = .ok (.iinc 3 1, 3) := by decide +kernel
theorem dX6_buyers_50 : decode cX6_buyers 50 = .ok (.goto (-46), 3) := by decide +kernel
theorem dX6_buyers_53 : decode cX6_buyers 53 = .ok (.iload_n 2, 1) := by decide +kernel
theorem dX6_buyers_54 : decode cX6_buyers 54 = .ok (.ireturn, 1) := by decide +kernel
theorem dX6_sellers_0 : decode cX6_sellers 0 = .ok (.iconst 0, 1) := by decide +kernel
theorem dX6_sellers_1 : decode cX6_sellers 1 = .ok (.istore_n 2, 1) := by decide +kernel
theorem dX6_sellers_2 : decode cX6_sellers 2 = .ok (.iconst 0, 1) := by decide +kernel
theorem dX6_sellers_3 : decode cX6_sellers 3 = .ok (.istore_n 3, 1) := by decide +kernel
theorem dX6_sellers_4 : decode cX6_sellers 4 = .ok (.iload_n 3, 1) := by decide +kernel
theorem dX6_sellers_5 : decode cX6_sellers 5 = .ok (.aload_n 0, 1) := by decide +kernel
theorem dX6_sellers_6 : decode cX6_sellers 6 = .ok (.getfield 9, 3) := by decide +kernel
theorem dX6_sellers_9 : decode cX6_sellers 9 = .ok (.iconst 0, 1) := by decide +kernel
theorem dX6_sellers_10 : decode cX6_sellers 10 = .ok (.iaload, 1) := by decide +kernel
theorem dX6_sellers_11 : decode cX6_sellers 11 = .ok (.if_icmp .ge 40, 3) := by decide +kernel
theorem dX6_sellers_14 : decode cX6_sellers 14 = .ok (.iload_n 2, 1) := by decide +kernel
theorem dX6_sellers_15 : decode cX6_sellers 15 = .ok (.aload_n 0, 1) := by decide +kernel
theorem dX6_sellers_16 : decode cX6_sellers 16 = .ok (.getfield 9, 3) := by decide +kernel
theorem dX6_sellers_19 : decode cX6_sellers 19 = .ok (.iload_n 3, 1) := by decide +kernel
theorem dX6_sellers_20 : decode cX6_sellers 20 = .ok (.invokestatic 66, 3) := by decide +kernel
theorem dX6_sellers_23 : decode cX6_sellers 23 = .ok (.ifCond .eq 19, 3) := by decide +kernel
theorem dX6_sellers_26 : decode cX6_sellers 26 = .ok (.aload_n 0, 1) := by decide +kernel
theorem dX6_sellers_27 : decode cX6_sellers 27 = .ok (.getfield 9, 3) := by decide +kernel
theorem dX6_sellers_30 : decode cX6_sellers 30 = .ok (.iload_n 3, 1) := by decide +kernel
theorem dX6_sellers_31 : decode cX6_sellers 31 = .ok (.invokestatic 85, 3) := by decide +kernel
theorem dX6_sellers_34 : decode cX6_sellers 34 = .ok (.iload_n 1, 1) := by decide +kernel
theorem dX6_sellers_35 : decode cX6_sellers 35 = .ok (.if_icmp .ge 7, 3) := by decide +kernel
theorem dX6_sellers_38 : decode cX6_sellers 38 = .ok (.iconst 1, 1) := by decide +kernel
theorem dX6_sellers_39 : decode cX6_sellers 39 = .ok (.goto 4, 3) := by decide +kernel
theorem dX6_sellers_42 : decode cX6_sellers 42 = .ok (.iconst 0, 1) := by decide +kernel
theorem dX6_sellers_43 : decode cX6_sellers 43 = .ok (.iadd, 1) := by decide +kernel
theorem dX6_sellers_44 : decode cX6_sellers 44 = .ok (.istore_n 2, 1) := by decide +kernel
theorem dX6_sellers_45 : decode cX6_sellers 45 = .ok (.iinc 3 1, 3) := by decide +kernel
theorem dX6_sellers_48 : decode cX6_sellers 48 = .ok (.goto (-44), 3) := by decide +kernel
theorem dX6_sellers_51 : decode cX6_sellers 51 = .ok (.iload_n 2, 1) := by decide +kernel
theorem dX6_sellers_52 : decode cX6_sellers 52 = .ok (.ireturn, 1) := by decide +kernel
theorem dX6_prices_0 : decode cX6_prices 0 = .ok (.iload_n 1, 1) := by decide +kernel
theorem dX6_prices_1 : decode cX6_prices 1 = .ok (.iconst 0, 1) := by decide +kernel
theorem dX6_prices_2 : decode cX6_prices 2 = .ok (.bipush 31, 2) := by decide +kernel
theorem dX6_prices_4 : decode cX6_prices 4 = .ok (.invokestatic 49, 3) := by decide +kernel
theorem dX6_prices_7 : decode cX6_prices 7 = .ok (.ifCond .eq 12, 3) := by decide +kernel
theorem dX6_prices_10 : decode cX6_prices 10 = .ok (.iload_n 2, 1) := by decide +kernel
theorem dX6_prices_11 : decode cX6_prices 11 = .ok (.iconst 0, 1) := by decide +kernel
theorem dX6_prices_12 : decode cX6_prices 12 = .ok (.iconst 1, 1) := by decide +kernel
theorem dX6_prices_13 : decode cX6_prices 13 = .ok (.invokestatic 49, 3) := by decide +kernel
theorem dX6_prices_16 : decode cX6_prices 16 = .ok (.ifCond .ne 5, 3) := by decide +kernel
theorem dX6_prices_19 : decode cX6_prices 19 = .ok (.iconst (-1), 1) := by decide +kernel
theorem dX6_prices_20 : decode cX6_prices 20 = .ok (.ireturn, 1) := by decide +kernel
theorem dX6_prices_21 : decode cX6_prices 21 = .ok (.iload_n 2, 1) := by decide +kernel
theorem dX6_prices_22 : decode cX6_prices 22 = .ok (.ifCond .ne 11, 3) := by decide +kernel
theorem dX6_prices_25 : decode cX6_prices 25 = .ok (.aload_n 0, 1) := by decide +kernel
theorem dX6_prices_26 : decode cX6_prices 26 = .ok (.iload_n 1, 1) := by decide +kernel
theorem dX6_prices_27 : decode cX6_prices 27 = .ok (.invokevirtual 158, 3) := by decide +kernel
theorem dX6_prices_30 : decode cX6_prices 30 = .ok (.goto 8, 3) := by decide +kernel
theorem dX6_prices_33 : decode cX6_prices 33 = .ok (.aload_n 0, 1) := by decide +kernel
theorem dX6_prices_34 : decode cX6_prices 34 = .ok (.iload_n 1, 1) := by decide +kernel
theorem dX6_prices_35 : decode cX6_prices 35 = .ok (.invokevirtual 161, 3) := by decide +kernel
theorem dX6_prices_38 : decode cX6_prices 38 = .ok (.ireturn, 1) := by decide +kernel
theorem dX6_clears_0 : decode cX6_clears 0 = .ok (.iload_n 1, 1) := by decide +kernel
theorem dX6_clears_1 : decode cX6_clears 1 = .ok (.iconst 0, 1) := by decide +kernel
theorem dX6_clears_2 : decode cX6_clears 2 = .ok (.bipush 31, 2) := by decide +kernel
theorem dX6_clears_4 : decode cX6_clears 4 = .ok (.invokestatic 49, 3) := by decide +kernel
theorem dX6_clears_7 : decode cX6_clears 7 = .ok (.ifCond .ne 5, 3) := by decide +kernel
theorem dX6_clears_10 : decode cX6_clears 10 = .ok (.iconst (-1), 1) := by decide +kernel
theorem dX6_clears_11 : decode cX6_clears 11 = .ok (.ireturn, 1) := by decide +kernel
theorem dX6_clears_12 : decode cX6_clears 12 = .ok (.iconst 0, 1) := by decide +kernel
theorem dX6_clears_13 : decode cX6_clears 13 = .ok (.istore_n 2, 1) := by decide +kernel
theorem dX6_clears_14 : decode cX6_clears 14 = .ok (.iload_n 2, 1) := by decide +kernel
theorem dX6_clears_15 : decode cX6_clears 15 = .ok (.bipush 31, 2) := by decide +kernel
theorem dX6_clears_17 : decode cX6_clears 17 = .ok (.if_icmp .gt 38, 3) := by decide +kernel
theorem dX6_clears_20 : decode cX6_clears 20 = .ok (.aload_n 0, 1) := by decide +kernel
theorem dX6_clears_21 : decode cX6_clears 21 = .ok (.iload_n 2, 1) := by decide +kernel
theorem dX6_clears_22 : decode cX6_clears 22 = .ok (.invokevirtual 158, 3) := by decide +kernel
theorem dX6_clears_25 : decode cX6_clears 25 = .ok (.aload_n 0, 1) := by decide +kernel
theorem dX6_clears_26 : decode cX6_clears 26 = .ok (.getfield 9, 3) := by decide +kernel
theorem dX6_clears_29 : decode cX6_clears 29 = .ok (.iconst 1, 1) := by decide +kernel
theorem dX6_clears_30 : decode cX6_clears 30 = .ok (.iaload, 1) := by decide +kernel
theorem dX6_clears_31 : decode cX6_clears 31 = .ok (.if_icmp .gt 18, 3) := by decide +kernel
theorem dX6_clears_34 : decode cX6_clears 34 = .ok (.aload_n 0, 1) := by decide +kernel
theorem dX6_clears_35 : decode cX6_clears 35 = .ok (.iload_n 2, 1) := by decide +kernel
theorem dX6_clears_36 : decode cX6_clears 36 = .ok (.invokevirtual 158, 3) := by decide +kernel
theorem dX6_clears_39 : decode cX6_clears 39 = .ok (.aload_n 0, 1) := by decide +kernel
theorem dX6_clears_40 : decode cX6_clears 40 = .ok (.iload_n 1, 1) := by decide +kernel
theorem dX6_clears_41 : decode cX6_clears 41 = .ok (.invokevirtual 161, 3) := by decide +kernel
theorem dX6_clears_44 : decode cX6_clears 44 = .ok (.if_icmp .gt 5, 3) := by decide +kernel
theorem dX6_clears_47 : decode cX6_clears 47 = .ok (.iload_n 2, 1) := by decide +kernel
theorem dX6_clears_48 : decode cX6_clears 48 = .ok (.ireturn, 1) := by decide +kernel
theorem dX6_clears_49 : decode cX6_clears 49 = .ok (.iinc 2 1, 3) := by decide +kernel
theorem dX6_clears_52 : decode cX6_clears 52 = .ok (.goto (-38), 3) := by decide +kernel
theorem dX6_clears_55 : decode cX6_clears 55 = .ok (.bipush (-4), 2) := by decide +kernel
theorem dX6_clears_57 : decode cX6_clears 57 = .ok (.ireturn, 1) := by decide +kernel
theorem dX6_wrongPairs_0 : decode cX6_wrongPairs 0 = .ok (.aload_n 0, 1) := by decide +kernel
theorem dX6_wrongPairs_1 : decode cX6_wrongPairs 1 = .ok (.iload_n 1, 1) := by decide +kernel
theorem dX6_wrongPairs_2 : decode cX6_wrongPairs 2 = .ok (.iconst (-1), 1) := by decide +kernel
theorem dX6_wrongPairs_3 : decode cX6_wrongPairs 3 = .ok (.invokevirtual 128, 3) := by decide +kernel
theorem dX6_wrongPairs_6 : decode cX6_wrongPairs 6 = .ok (.istore_n 2, 1) := by decide +kernel
theorem dX6_wrongPairs_7 : decode cX6_wrongPairs 7 = .ok (.iload_n 2, 1) := by decide +kernel
theorem dX6_wrongPairs_8 : decode cX6_wrongPairs 8 = .ok (.ifCond .eq 5, 3) := by decide +kernel
theorem dX6_wrongPairs_11 : decode cX6_wrongPairs 11 = .ok (.iload_n 2, 1) := by decide +kernel
theorem dX6_wrongPairs_12 : decode cX6_wrongPairs 12 = .ok (.ireturn, 1) := by decide +kernel
theorem dX6_wrongPairs_13 : decode cX6_wrongPairs 13 = .ok (.aload_n 0, 1) := by decide +kernel
theorem dX6_wrongPairs_14 : decode cX6_wrongPairs 14 = .ok (.getfield 43, 3) := by decide +kernel
theorem dX6_wrongPairs_17 : decode cX6_wrongPairs 17 = .ok (.iload_n 1, 1) := by decide +kernel
theorem dX6_wrongPairs_18 : decode cX6_wrongPairs 18 = .ok (.iaload, 1) := by decide +kernel
theorem dX6_wrongPairs_19 : decode cX6_wrongPairs 19 = .ok (.istore_n 3, 1) := by decide +kernel
theorem dX6_wrongPairs_20 : decode cX6_wrongPairs 20 = .ok (.iload_n 3, 1) := by decide +kernel
theorem dX6_wrongPairs_21 : decode cX6_wrongPairs 21 = .ok (.iconst 2, 1) := by decide +kernel
theorem dX6_wrongPairs_22 : decode cX6_wrongPairs 22 = .ok (.irem, 1) := by decide +kernel
theorem dX6_wrongPairs_23 : decode cX6_wrongPairs 23 = .ok (.iconst 1, 1) := by decide +kernel
theorem dX6_wrongPairs_24 : decode cX6_wrongPairs 24 = .ok (.if_icmp .eq 9, 3) := by decide +kernel
theorem dX6_wrongPairs_27 : decode cX6_wrongPairs 27 = .ok (.iload_n 3, 1) := by decide +kernel
theorem dX6_wrongPairs_28 : decode cX6_wrongPairs 28 = .ok (.bipush 8, 2) := by decide +kernel
theorem dX6_wrongPairs_30 : decode cX6_wrongPairs 30 = .ok (.if_icmp .le 6, 3) := by decide +kernel
theorem dX6_wrongPairs_33 : decode cX6_wrongPairs 33 = .ok (.bipush (-13), 2) := by decide +kernel
theorem dX6_wrongPairs_35 : decode cX6_wrongPairs 35 = .ok (.ireturn, 1) := by decide +kernel
theorem dX6_wrongPairs_36 : decode cX6_wrongPairs 36 = .ok (.iconst 0, 1) := by decide +kernel
theorem dX6_wrongPairs_37 : decode cX6_wrongPairs 37 = .ok (.istore 4, 2) := by decide +kernel
theorem dX6_wrongPairs_39 : decode cX6_wrongPairs 39 = .ok (.iconst 0, 1) := by decide +kernel
theorem dX6_wrongPairs_40 : decode cX6_wrongPairs 40 = .ok (.istore 5, 2) := by decide +kernel
theorem dX6_wrongPairs_42 : decode cX6_wrongPairs 42 = .ok (.iload 5, 2) := by decide +kernel
theorem dX6_wrongPairs_44 : decode cX6_wrongPairs 44 = .ok (.iload_n 3, 1) := by decide +kernel
theorem dX6_wrongPairs_45 : decode cX6_wrongPairs 45 = .ok (.if_icmp .ge 55, 3) := by decide +kernel
theorem dX6_wrongPairs_48 : decode cX6_wrongPairs 48 = .ok (.aload_n 0, 1) := by decide +kernel
theorem dX6_wrongPairs_49 : decode cX6_wrongPairs 49 = .ok (.getfield 46, 3) := by decide +kernel
theorem dX6_wrongPairs_52 : decode cX6_wrongPairs 52 = .ok (.bipush 100, 2) := by decide +kernel
theorem dX6_wrongPairs_54 : decode cX6_wrongPairs 54 = .ok (.iload_n 1, 1) := by decide +kernel
theorem dX6_wrongPairs_55 : decode cX6_wrongPairs 55 = .ok (.imul, 1) := by decide +kernel
theorem dX6_wrongPairs_56 : decode cX6_wrongPairs 56 = .ok (.iload 5, 2) := by decide +kernel
theorem dX6_wrongPairs_58 : decode cX6_wrongPairs 58 = .ok (.iadd, 1) := by decide +kernel
theorem dX6_wrongPairs_59 : decode cX6_wrongPairs 59 = .ok (.iaload, 1) := by decide +kernel
theorem dX6_wrongPairs_60 : decode cX6_wrongPairs 60 = .ok (.istore 6, 2) := by decide +kernel
theorem dX6_wrongPairs_62 : decode cX6_wrongPairs 62 = .ok (.aload_n 0, 1) := by decide +kernel
theorem dX6_wrongPairs_63 : decode cX6_wrongPairs 63 = .ok (.iload 6, 2) := by decide +kernel
theorem dX6_wrongPairs_65 : decode cX6_wrongPairs 65 = .ok (.invokevirtual 121, 3) := by decide +kernel
theorem dX6_wrongPairs_68 : decode cX6_wrongPairs 68 = .ok (.ifCond .eq 14, 3) := by decide +kernel
theorem dX6_wrongPairs_71 : decode cX6_wrongPairs 71 = .ok (.iload 4, 2) := by decide +kernel
theorem dX6_wrongPairs_73 : decode cX6_wrongPairs 73 = .ok (.iload 6, 2) := by decide +kernel
theorem dX6_wrongPairs_75 : decode cX6_wrongPairs 75 = .ok (.ishr, 1) := by decide +kernel
theorem dX6_wrongPairs_76 : decode cX6_wrongPairs 76 = .ok (.iconst 1, 1) := by decide +kernel
theorem dX6_wrongPairs_77 : decode cX6_wrongPairs 77 = .ok (.iand, 1) := by decide +kernel
theorem dX6_wrongPairs_78 : decode cX6_wrongPairs 78 = .ok (.iconst 1, 1) := by decide +kernel
theorem dX6_wrongPairs_79 : decode cX6_wrongPairs 79 = .ok (.if_icmp .ne 6, 3) := by decide +kernel
theorem dX6_wrongPairs_82 : decode cX6_wrongPairs 82 = .ok (.bipush (-13), 2) := by decide +kernel
theorem dX6_wrongPairs_84 : decode cX6_wrongPairs 84 = .ok (.ireturn, 1) := by decide +kernel
theorem dX6_wrongPairs_85 : decode cX6_wrongPairs 85 = .ok (.iload 4, 2) := by decide +kernel
theorem dX6_wrongPairs_87 : decode cX6_wrongPairs 87 = .ok (.iconst 1, 1) := by decide +kernel
theorem dX6_wrongPairs_88 : decode cX6_wrongPairs 88 = .ok (.iload 6, 2) := by decide +kernel
theorem dX6_wrongPairs_90 : decode cX6_wrongPairs 90 = .ok (.ishl, 1) := by decide +kernel
theorem dX6_wrongPairs_91 : decode cX6_wrongPairs 91 = .ok (.ior, 1) := by decide +kernel
theorem dX6_wrongPairs_92 : decode cX6_wrongPairs 92 = .ok (.istore 4, 2) := by decide +kernel
theorem dX6_wrongPairs_94 : decode cX6_wrongPairs 94 = .ok (.iinc 5 1, 3) := by decide +kernel
theorem dX6_wrongPairs_97 : decode cX6_wrongPairs 97 = .ok (.goto (-55), 3) := by decide +kernel
theorem dX6_wrongPairs_100 : decode cX6_wrongPairs 100 = .ok (.iconst 0, 1) := by decide +kernel
theorem dX6_wrongPairs_101 : decode cX6_wrongPairs 101 = .ok (.istore 5, 2) := by decide +kernel
theorem dX6_wrongPairs_103 : decode cX6_wrongPairs 103 = .ok (.iload 5, 2) := by decide +kernel
theorem dX6_wrongPairs_105 : decode cX6_wrongPairs 105 = .ok (.iload_n 3, 1) := by decide +kernel
theorem dX6_wrongPairs_106 : decode cX6_wrongPairs 106 = .ok (.if_icmp .ge 48, 3) := by decide +kernel
theorem dX6_wrongPairs_109 : decode cX6_wrongPairs 109 = .ok (.aload_n 0, 1) := by decide +kernel
theorem dX6_wrongPairs_110 : decode cX6_wrongPairs 110 = .ok (.getfield 9, 3) := by decide +kernel
theorem dX6_wrongPairs_113 : decode cX6_wrongPairs 113 = .ok (.aload_n 0, 1) := by decide +kernel
theorem dX6_wrongPairs_114 : decode cX6_wrongPairs 114 = .ok (.getfield 46, 3) := by decide +kernel
theorem dX6_wrongPairs_117 : decode cX6_wrongPairs 117 = .ok (.bipush 100, 2) := by decide +kernel
theorem dX6_wrongPairs_119 : decode cX6_wrongPairs 119 = .ok (.iload_n 1, 1) := by decide +kernel
theorem dX6_wrongPairs_120 : decode cX6_wrongPairs 120 = .ok (.imul, 1) := by decide +kernel
theorem dX6_wrongPairs_121 : decode cX6_wrongPairs 121 = .ok (.iload 5, 2) := by decide +kernel
theorem dX6_wrongPairs_123 : decode cX6_wrongPairs 123 = .ok (.iadd, 1) := by decide +kernel
theorem dX6_wrongPairs_124 : decode cX6_wrongPairs 124 = .ok (.iaload, 1) := by decide +kernel
theorem dX6_wrongPairs_125 : decode cX6_wrongPairs 125 = .ok (.aload_n 0, 1) := by decide +kernel
theorem dX6_wrongPairs_126 : decode cX6_wrongPairs 126 = .ok (.getfield 46, 3) := by decide +kernel
theorem dX6_wrongPairs_129 : decode cX6_wrongPairs 129 = .ok (.bipush 100, 2) := by decide +kernel
theorem dX6_wrongPairs_131 : decode cX6_wrongPairs 131 = .ok (.iload_n 1, 1) := by decide +kernel
theorem dX6_wrongPairs_132 : decode cX6_wrongPairs 132 = .ok (.imul, 1) := by decide +kernel
theorem dX6_wrongPairs_133 : decode cX6_wrongPairs 133 = .ok (.iload 5, 2) := by decide +kernel
theorem dX6_wrongPairs_135 : decode cX6_wrongPairs 135 = .ok (.iadd, 1) := by decide +kernel
theorem dX6_wrongPairs_136 : decode cX6_wrongPairs 136 = .ok (.iconst 1, 1) := by decide +kernel
theorem dX6_wrongPairs_137 : decode cX6_wrongPairs 137 = .ok (.iadd, 1) := by decide +kernel
theorem dX6_wrongPairs_138 : decode cX6_wrongPairs 138 = .ok (.iaload, 1) := by decide +kernel
theorem dX6_wrongPairs_139 : decode cX6_wrongPairs 139 = .ok (.invokestatic 91, 3) := by decide +kernel
theorem dX6_wrongPairs_142 : decode cX6_wrongPairs 142 = .ok (.ifCond .ne 6, 3) := by decide +kernel
theorem dX6_wrongPairs_145 : decode cX6_wrongPairs 145 = .ok (.bipush (-13), 2) := by decide +kernel
theorem dX6_wrongPairs_147 : decode cX6_wrongPairs 147 = .ok (.ireturn, 1) := by decide +kernel
theorem dX6_wrongPairs_148 : decode cX6_wrongPairs 148 = .ok (.iinc 5 2, 3) := by decide +kernel
theorem dX6_wrongPairs_151 : decode cX6_wrongPairs 151 = .ok (.goto (-48), 3) := by decide +kernel
theorem dX6_wrongPairs_154 : decode cX6_wrongPairs 154 = .ok (.iconst 0, 1) := by decide +kernel
theorem dX6_wrongPairs_155 : decode cX6_wrongPairs 155 = .ok (.ireturn, 1) := by decide +kernel
theorem dX6_swap_0 : decode cX6_swap 0 = .ok (.aload_n 0, 1) := by decide +kernel
theorem dX6_swap_1 : decode cX6_swap 1 = .ok (.iload_n 1, 1) := by decide +kernel
theorem dX6_swap_2 : decode cX6_swap 2 = .ok (.invokevirtual 164, 3) := by decide +kernel
theorem dX6_swap_5 : decode cX6_swap 5 = .ok (.istore_n 2, 1) := by decide +kernel
theorem dX6_swap_6 : decode cX6_swap 6 = .ok (.iload_n 2, 1) := by decide +kernel
theorem dX6_swap_7 : decode cX6_swap 7 = .ok (.ifCond .eq 5, 3) := by decide +kernel
theorem dX6_swap_10 : decode cX6_swap 10 = .ok (.iload_n 2, 1) := by decide +kernel
theorem dX6_swap_11 : decode cX6_swap 11 = .ok (.ireturn, 1) := by decide +kernel
theorem dX6_swap_12 : decode cX6_swap 12 = .ok (.bipush (-4), 2) := by decide +kernel
theorem dX6_swap_14 : decode cX6_swap 14 = .ok (.istore_n 3, 1) := by decide +kernel
theorem dX6_swap_15 : decode cX6_swap 15 = .ok (.iconst 0, 1) := by decide +kernel
theorem dX6_swap_16 : decode cX6_swap 16 = .ok (.istore 4, 2) := by decide +kernel
theorem dX6_swap_18 : decode cX6_swap 18 = .ok (.aload_n 0, 1) := by decide +kernel
theorem dX6_swap_19 : decode cX6_swap 19 = .ok (.getfield 43, 3) := by decide +kernel
theorem dX6_swap_22 : decode cX6_swap 22 = .ok (.iload_n 1, 1) := by decide +kernel
theorem dX6_swap_23 : decode cX6_swap 23 = .ok (.iaload, 1) := by decide +kernel
theorem dX6_swap_24 : decode cX6_swap 24 = .ok (.iconst 2, 1) := by decide +kernel
theorem dX6_swap_25 : decode cX6_swap 25 = .ok (.idiv, 1) := by decide +kernel
theorem dX6_swap_26 : decode cX6_swap 26 = .ok (.istore 5, 2) := by decide +kernel
theorem dX6_swap_28 : decode cX6_swap 28 = .ok (.bipush 100, 2) := by decide +kernel
theorem dX6_swap_30 : decode cX6_swap 30 = .ok (.iload_n 1, 1) := by decide +kernel
theorem dX6_swap_31 : decode cX6_swap 31 = .ok (.imul, 1) := by decide +kernel
theorem dX6_swap_32 : decode cX6_swap 32 = .ok (.istore 6, 2) := by decide +kernel
theorem dX6_swap_34 : decode cX6_swap 34 = .ok (.iconst 0, 1) := by decide +kernel
theorem dX6_swap_35 : decode cX6_swap 35 = .ok (.istore 7, 2) := by decide +kernel
theorem dX6_swap_37 : decode cX6_swap 37 = .ok (.iload 7, 2) := by decide +kernel
theorem dX6_swap_39 : decode cX6_swap 39 = .ok (.iload 5, 2) := by decide +kernel
theorem dX6_swap_41 : decode cX6_swap 41 = .ok (.if_icmp .ge 160, 3) := by decide +kernel
theorem dX6_swap_44 : decode cX6_swap 44 = .ok (.iload 7, 2) := by decide +kernel
theorem dX6_swap_46 : decode cX6_swap 46 = .ok (.iconst 1, 1) := by decide +kernel
theorem dX6_swap_47 : decode cX6_swap 47 = .ok (.iadd, 1) := by decide +kernel
theorem dX6_swap_48 : decode cX6_swap 48 = .ok (.istore 8, 2) := by decide +kernel
theorem dX6_swap_50 : decode cX6_swap 50 = .ok (.iload 8, 2) := by decide +kernel
theorem dX6_swap_52 : decode cX6_swap 52 = .ok (.iload 5, 2) := by decide +kernel
theorem dX6_swap_54 : decode cX6_swap 54 = .ok (.if_icmp .ge 141, 3) := by decide +kernel
theorem dX6_swap_57 : decode cX6_swap 57 = .ok (.aload_n 0, 1) := by decide +kernel
theorem dX6_swap_58 : decode cX6_swap 58 = .ok (.getfield 46, 3) := by decide +kernel
theorem dX6_swap_61 : decode cX6_swap 61 = .ok (.iload 6, 2) := by decide +kernel
theorem dX6_swap_63 : decode cX6_swap 63 = .ok (.iconst 2, 1) := by decide +kernel
theorem dX6_swap_64 : decode cX6_swap 64 = .ok (.iload 7, 2) := by decide +kernel
theorem dX6_swap_66 : decode cX6_swap 66 = .ok (.imul, 1) := by decide +kernel
theorem dX6_swap_67 : decode cX6_swap 67 = .ok (.iadd, 1) := by decide +kernel
theorem dX6_swap_68 : decode cX6_swap 68 = .ok (.iaload, 1) := by decide +kernel
theorem dX6_swap_69 : decode cX6_swap 69 = .ok (.istore 9, 2) := by decide +kernel
theorem dX6_swap_71 : decode cX6_swap 71 = .ok (.aload_n 0, 1) := by decide +kernel
theorem dX6_swap_72 : decode cX6_swap 72 = .ok (.getfield 46, 3) := by decide +kernel
theorem dX6_swap_75 : decode cX6_swap 75 = .ok (.iload 6, 2) := by decide +kernel
theorem dX6_swap_77 : decode cX6_swap 77 = .ok (.iconst 2, 1) := by decide +kernel
theorem dX6_swap_78 : decode cX6_swap 78 = .ok (.iload 7, 2) := by decide +kernel
theorem dX6_swap_80 : decode cX6_swap 80 = .ok (.imul, 1) := by decide +kernel
theorem dX6_swap_81 : decode cX6_swap 81 = .ok (.iadd, 1) := by decide +kernel
theorem dX6_swap_82 : decode cX6_swap 82 = .ok (.iconst 1, 1) := by decide +kernel
theorem dX6_swap_83 : decode cX6_swap 83 = .ok (.iadd, 1) := by decide +kernel
theorem dX6_swap_84 : decode cX6_swap 84 = .ok (.iaload, 1) := by decide +kernel
theorem dX6_swap_85 : decode cX6_swap 85 = .ok (.istore 10, 2) := by decide +kernel
theorem dX6_swap_87 : decode cX6_swap 87 = .ok (.aload_n 0, 1) := by decide +kernel
theorem dX6_swap_88 : decode cX6_swap 88 = .ok (.getfield 46, 3) := by decide +kernel
theorem dX6_swap_91 : decode cX6_swap 91 = .ok (.iload 6, 2) := by decide +kernel
theorem dX6_swap_93 : decode cX6_swap 93 = .ok (.iconst 2, 1) := by decide +kernel
theorem dX6_swap_94 : decode cX6_swap 94 = .ok (.iload 8, 2) := by decide +kernel
theorem dX6_swap_96 : decode cX6_swap 96 = .ok (.imul, 1) := by decide +kernel
theorem dX6_swap_97 : decode cX6_swap 97 = .ok (.iadd, 1) := by decide +kernel
theorem dX6_swap_98 : decode cX6_swap 98 = .ok (.iaload, 1) := by decide +kernel
theorem dX6_swap_99 : decode cX6_swap 99 = .ok (.istore 11, 2) := by decide +kernel
theorem dX6_swap_101 : decode cX6_swap 101 = .ok (.aload_n 0, 1) := by decide +kernel
theorem dX6_swap_102 : decode cX6_swap 102 = .ok (.getfield 46, 3) := by decide +kernel
theorem dX6_swap_105 : decode cX6_swap 105 = .ok (.iload 6, 2) := by decide +kernel
theorem dX6_swap_107 : decode cX6_swap 107 = .ok (.iconst 2, 1) := by decide +kernel
theorem dX6_swap_108 : decode cX6_swap 108 = .ok (.iload 8, 2) := by decide +kernel
theorem dX6_swap_110 : decode cX6_swap 110 = .ok (.imul, 1) := by decide +kernel
theorem dX6_swap_111 : decode cX6_swap 111 = .ok (.iadd, 1) := by decide +kernel
theorem dX6_swap_112 : decode cX6_swap 112 = .ok (.iconst 1, 1) := by decide +kernel
theorem dX6_swap_113 : decode cX6_swap 113 = .ok (.iadd, 1) := by decide +kernel
theorem dX6_swap_114 : decode cX6_swap 114 = .ok (.iaload, 1) := by decide +kernel
theorem dX6_swap_115 : decode cX6_swap 115 = .ok (.istore 12, 2) := by decide +kernel
theorem dX6_swap_117 : decode cX6_swap 117 = .ok (.aload_n 0, 1) := by decide +kernel
theorem dX6_swap_118 : decode cX6_swap 118 = .ok (.getfield 9, 3) := by decide +kernel
theorem dX6_swap_121 : decode cX6_swap 121 = .ok (.iload 9, 2) := by decide +kernel
theorem dX6_swap_123 : decode cX6_swap 123 = .ok (.iload 12, 2) := by decide +kernel
theorem dX6_swap_125 : decode cX6_swap 125 = .ok (.invokestatic 88, 3) := by decide +kernel
theorem dX6_swap_128 : decode cX6_swap 128 = .ok (.aload_n 0, 1) := by decide +kernel
theorem dX6_swap_129 : decode cX6_swap 129 = .ok (.getfield 9, 3) := by decide +kernel
theorem dX6_swap_132 : decode cX6_swap 132 = .ok (.iload 11, 2) := by decide +kernel
theorem dX6_swap_134 : decode cX6_swap 134 = .ok (.iload 10, 2) := by decide +kernel
theorem dX6_swap_136 : decode cX6_swap 136 = .ok (.invokestatic 88, 3) := by decide +kernel
theorem dX6_swap_139 : decode cX6_swap 139 = .ok (.iadd, 1) := by decide +kernel
theorem dX6_swap_140 : decode cX6_swap 140 = .ok (.aload_n 0, 1) := by decide +kernel
theorem dX6_swap_141 : decode cX6_swap 141 = .ok (.getfield 9, 3) := by decide +kernel
theorem dX6_swap_144 : decode cX6_swap 144 = .ok (.iload 9, 2) := by decide +kernel
theorem dX6_swap_146 : decode cX6_swap 146 = .ok (.iload 10, 2) := by decide +kernel
theorem dX6_swap_148 : decode cX6_swap 148 = .ok (.invokestatic 88, 3) := by decide +kernel
theorem dX6_swap_151 : decode cX6_swap 151 = .ok (.isub, 1) := by decide +kernel
theorem dX6_swap_152 : decode cX6_swap 152 = .ok (.aload_n 0, 1) := by decide +kernel
theorem dX6_swap_153 : decode cX6_swap 153 = .ok (.getfield 9, 3) := by decide +kernel
theorem dX6_swap_156 : decode cX6_swap 156 = .ok (.iload 11, 2) := by decide +kernel
theorem dX6_swap_158 : decode cX6_swap 158 = .ok (.iload 12, 2) := by decide +kernel
theorem dX6_swap_160 : decode cX6_swap 160 = .ok (.invokestatic 88, 3) := by decide +kernel
theorem dX6_swap_163 : decode cX6_swap 163 = .ok (.isub, 1) := by decide +kernel
theorem dX6_swap_164 : decode cX6_swap 164 = .ok (.istore 13, 2) := by decide +kernel
theorem dX6_swap_166 : decode cX6_swap 166 = .ok (.iload 13, 2) := by decide +kernel
theorem dX6_swap_168 : decode cX6_swap 168 = .ok (.iload 4, 2) := by decide +kernel
theorem dX6_swap_170 : decode cX6_swap 170 = .ok (.if_icmp .gt 6, 3) := by decide +kernel
theorem dX6_swap_173 : decode cX6_swap 173 = .ok (.goto 16, 3) := by decide +kernel
theorem dX6_swap_176 : decode cX6_swap 176 = .ok (.bipush 10, 2) := by decide +kernel
theorem dX6_swap_178 : decode cX6_swap 178 = .ok (.iload 7, 2) := by decide +kernel
theorem dX6_swap_180 : decode cX6_swap 180 = .ok (.imul, 1) := by decide +kernel
theorem dX6_swap_181 : decode cX6_swap 181 = .ok (.iload 8, 2) := by decide +kernel
theorem dX6_swap_183 : decode cX6_swap 183 = .ok (.iadd, 1) := by decide +kernel
theorem dX6_swap_184 : decode cX6_swap 184 = .ok (.istore_n 3, 1) := by decide +kernel
theorem dX6_swap_185 : decode cX6_swap 185 = .ok (.iload 13, 2) := by decide +kernel
theorem dX6_swap_187 : decode cX6_swap 187 = .ok (.istore 4, 2) := by decide +kernel
theorem dX6_swap_189 : decode cX6_swap 189 = .ok (.iinc 8 1, 3) := by decide +kernel
theorem dX6_swap_192 : decode cX6_swap 192 = .ok (.goto (-142), 3) := by decide +kernel
theorem dX6_swap_195 : decode cX6_swap 195 = .ok (.iinc 7 1, 3) := by decide +kernel
theorem dX6_swap_198 : decode cX6_swap 198 = .ok (.goto (-161), 3) := by decide +kernel
theorem dX6_swap_201 : decode cX6_swap 201 = .ok (.iload_n 3, 1) := by decide +kernel
theorem dX6_swap_202 : decode cX6_swap 202 = .ok (.ireturn, 1) := by decide +kernel
theorem dX6_throat_0 : decode cX6_throat 0 = .ok (.iload_n 2, 1) := by decide +kernel
theorem dX6_throat_1 : decode cX6_throat 1 = .ok (.iconst 0, 1) := by decide +kernel
theorem dX6_throat_2 : decode cX6_throat 2 = .ok (.bipush 30, 2) := by decide +kernel
theorem dX6_throat_4 : decode cX6_throat 4 = .ok (.invokestatic 49, 3) := by decide +kernel
theorem dX6_throat_7 : decode cX6_throat 7 = .ok (.ifCond .eq 23, 3) := by decide +kernel
theorem dX6_throat_10 : decode cX6_throat 10 = .ok (.iload_n 3, 1) := by decide +kernel
theorem dX6_throat_11 : decode cX6_throat 11 = .ok (.iconst 0, 1) := by decide +kernel
theorem dX6_throat_12 : decode cX6_throat 12 = .ok (.bipush 9, 2) := by decide +kernel
theorem dX6_throat_14 : decode cX6_throat 14 = .ok (.invokestatic 49, 3) := by decide +kernel
theorem dX6_throat_17 : decode cX6_throat 17 = .ok (.ifCond .eq 13, 3) := by decide +kernel
theorem dX6_throat_20 : decode cX6_throat 20 = .ok (.iload 4, 2) := by decide +kernel
theorem dX6_throat_22 : decode cX6_throat 22 = .ok (.iconst 0, 1) := by decide +kernel
theorem dX6_throat_23 : decode cX6_throat 23 = .ok (.iconst 1, 1) := by decide +kernel
theorem dX6_throat_24 : decode cX6_throat 24 = .ok (.invokestatic 49, 3) := by decide +kernel
theorem dX6_throat_27 : decode cX6_throat 27 = .ok (.ifCond .ne 5, 3) := by decide +kernel
theorem dX6_throat_30 : decode cX6_throat 30 = .ok (.iconst (-1), 1) := by decide +kernel
theorem dX6_throat_31 : decode cX6_throat 31 = .ok (.ireturn, 1) := by decide +kernel
theorem dX6_throat_32 : decode cX6_throat 32 = .ok (.aload_n 0, 1) := by decide +kernel
theorem dX6_throat_33 : decode cX6_throat 33 = .ok (.iload_n 1, 1) := by decide +kernel
theorem dX6_throat_34 : decode cX6_throat 34 = .ok (.iconst (-1), 1) := by decide +kernel
theorem dX6_throat_35 : decode cX6_throat 35 = .ok (.invokevirtual 128, 3) := by decide +kernel
theorem dX6_throat_38 : decode cX6_throat 38 = .ok (.istore 5, 2) := by decide +kernel
theorem dX6_throat_40 : decode cX6_throat 40 = .ok (.iload 5, 2) := by decide +kernel
theorem dX6_throat_42 : decode cX6_throat 42 = .ok (.ifCond .eq 6, 3) := by decide +kernel
theorem dX6_throat_45 : decode cX6_throat 45 = .ok (.iload 5, 2) := by decide +kernel
theorem dX6_throat_47 : decode cX6_throat 47 = .ok (.ireturn, 1) := by decide +kernel
theorem dX6_throat_48 : decode cX6_throat 48 = .ok (.iconst 0, 1) := by decide +kernel
theorem dX6_throat_49 : decode cX6_throat 49 = .ok (.istore 6, 2) := by decide +kernel
theorem dX6_throat_51 : decode cX6_throat 51 = .ok (.iconst 0, 1) := by decide +kernel
theorem dX6_throat_52 : decode cX6_throat 52 = .ok (.istore 7, 2) := by decide +kernel
theorem dX6_throat_54 : decode cX6_throat 54 = .ok (.iload 7, 2) := by decide +kernel
theorem dX6_throat_56 : decode cX6_throat 56 = .ok (.bipush 8, 2) := by decide +kernel
theorem dX6_throat_58 : decode cX6_throat 58 = .ok (.if_icmp .ge 100, 3) := by decide +kernel
theorem dX6_throat_61 : decode cX6_throat 61 = .ok (.iload_n 2, 1) := by decide +kernel
theorem dX6_throat_62 : decode cX6_throat 62 = .ok (.istore 8, 2) := by decide +kernel
theorem dX6_throat_64 : decode cX6_throat 64 = .ok (.iconst 1, 1) := by decide +kernel
theorem dX6_throat_65 : decode cX6_throat 65 = .ok (.istore 9, 2) := by decide +kernel
theorem dX6_throat_67 : decode cX6_throat 67 = .ok (.iconst 0, 1) := by decide +kernel
theorem dX6_throat_68 : decode cX6_throat 68 = .ok (.istore 10, 2) := by decide +kernel
theorem dX6_throat_70 : decode cX6_throat 70 = .ok (.iload 10, 2) := by decide +kernel
theorem dX6_throat_72 : decode cX6_throat 72 = .ok (.aload_n 0, 1) := by decide +kernel
theorem dX6_throat_73 : decode cX6_throat 73 = .ok (.getfield 43, 3) := by decide +kernel
theorem dX6_throat_76 : decode cX6_throat 76 = .ok (.iload_n 1, 1) := by decide +kernel
theorem dX6_throat_77 : decode cX6_throat 77 = .ok (.iaload, 1) := by decide +kernel
theorem dX6_throat_78 : decode cX6_throat 78 = .ok (.if_icmp .ge 56, 3) := by decide +kernel
theorem dX6_throat_81 : decode cX6_throat 81 = .ok (.iload 8, 2) := by decide +kernel
theorem dX6_throat_83 : decode cX6_throat 83 = .ok (.iload 7, 2) := by decide +kernel
theorem dX6_throat_85 : decode cX6_throat 85 = .ok (.iload_n 3, 1) := by decide +kernel
theorem dX6_throat_86 : decode cX6_throat 86 = .ok (.invokestatic 57, 3) := by decide +kernel
theorem dX6_throat_89 : decode cX6_throat 89 = .ok (.invokestatic 60, 3) := by decide +kernel
theorem dX6_throat_92 : decode cX6_throat 92 = .ok (.istore 11, 2) := by decide +kernel
theorem dX6_throat_94 : decode cX6_throat 94 = .ok (.iload 9, 2) := by decide +kernel
theorem dX6_throat_96 : decode cX6_throat 96 = .ok (.aload_n 0, 1) := by decide +kernel
theorem dX6_throat_97 : decode cX6_throat 97 = .ok (.getfield 46, 3) := by decide +kernel
theorem dX6_throat_100 : decode cX6_throat 100 = .ok (.bipush 100, 2) := by decide +kernel
theorem dX6_throat_102 : decode cX6_throat 102 = .ok (.iload_n 1, 1) := by decide +kernel
theorem dX6_throat_103 : decode cX6_throat 103 = .ok (.imul, 1) := by decide +kernel
theorem dX6_throat_104 : decode cX6_throat 104 = .ok (.iload 10, 2) := by decide +kernel
theorem dX6_throat_106 : decode cX6_throat 106 = .ok (.iadd, 1) := by decide +kernel
theorem dX6_throat_107 : decode cX6_throat 107 = .ok (.iaload, 1) := by decide +kernel
theorem dX6_throat_108 : decode cX6_throat 108 = .ok (.iload 11, 2) := by decide +kernel
theorem dX6_throat_110 : decode cX6_throat 110 = .ok (.if_icmp .ne 7, 3) := by decide +kernel
theorem dX6_throat_113 : decode cX6_throat 113 = .ok (.iconst 1, 1) := by decide +kernel
theorem dX6_throat_114 : decode cX6_throat 114 = .ok (.goto 4, 3) := by decide +kernel
theorem dX6_throat_117 : decode cX6_throat 117 = .ok (.iconst 0, 1) := by decide +kernel
theorem dX6_throat_118 : decode cX6_throat 118 = .ok (.iand, 1) := by decide +kernel
theorem dX6_throat_119 : decode cX6_throat 119 = .ok (.istore 9, 2) := by decide +kernel
theorem dX6_throat_121 : decode cX6_throat 121 = .ok (.iload 8, 2) := by decide +kernel
theorem dX6_throat_123 : decode cX6_throat 123 = .ok (.iload 11, 2) := by decide +kernel
theorem dX6_throat_125 : decode cX6_throat 125 = .ok (.isub, 1) := by decide +kernel
theorem dX6_throat_126 : decode cX6_throat 126 = .ok (.istore 8, 2) := by decide +kernel
theorem dX6_throat_128 : decode cX6_throat 128 = .ok (.iinc 10 1, 3) := by decide +kernel
theorem dX6_throat_131 : decode cX6_throat 131 = .ok (.goto (-61), 3) := by decide +kernel
theorem dX6_throat_134 : decode cX6_throat 134 = .ok (.iload 6, 2) := by decide +kernel
theorem dX6_throat_136 : decode cX6_throat 136 = .ok (.iload 9, 2) := by decide +kernel
theorem dX6_throat_138 : decode cX6_throat 138 = .ok (.ifCond .eq 10, 3) := by decide +kernel
theorem dX6_throat_141 : decode cX6_throat 141 = .ok (.iconst 1, 1) := by decide +kernel
theorem dX6_throat_142 : decode cX6_throat 142 = .ok (.iload 7, 2) := by decide +kernel
theorem dX6_throat_144 : decode cX6_throat 144 = .ok (.ishl, 1) := by decide +kernel
theorem dX6_throat_145 : decode cX6_throat 145 = .ok (.goto 4, 3) := by decide +kernel
theorem dX6_throat_148 : decode cX6_throat 148 = .ok (.iconst 0, 1) := by decide +kernel
theorem dX6_throat_149 : decode cX6_throat 149 = .ok (.ior, 1) := by decide +kernel
theorem dX6_throat_150 : decode cX6_throat 150 = .ok (.istore 6, 2) := by decide +kernel
theorem dX6_throat_152 : decode cX6_throat 152 = .ok (.iinc 7 1, 3) := by decide +kernel
theorem dX6_throat_155 : decode cX6_throat 155 = .ok (.goto (-101), 3) := by decide +kernel
theorem dX6_throat_158 : decode cX6_throat 158 = .ok (.iload 4, 2) := by decide +kernel
theorem dX6_throat_160 : decode cX6_throat 160 = .ok (.ifCond .ne 8, 3) := by decide +kernel
theorem dX6_throat_163 : decode cX6_throat 163 = .ok (.iload 6, 2) := by decide +kernel
theorem dX6_throat_165 : decode cX6_throat 165 = .ok (.goto 8, 3) := by decide +kernel
theorem dX6_throat_168 : decode cX6_throat 168 = .ok (.iload 6, 2) := by decide +kernel
theorem dX6_throat_170 : decode cX6_throat 170 = .ok (.invokestatic 167, 3) := by decide +kernel
theorem dX6_throat_173 : decode cX6_throat 173 = .ok (.ireturn, 1) := by decide +kernel
theorem dX6_lastOnes_0 : decode cX6_lastOnes 0 = .ok (.iload_n 1, 1) := by decide +kernel
theorem dX6_lastOnes_1 : decode cX6_lastOnes 1 = .ok (.iconst 0, 1) := by decide +kernel
theorem dX6_lastOnes_2 : decode cX6_lastOnes 2 = .ok (.bipush 99, 2) := by decide +kernel
theorem dX6_lastOnes_4 : decode cX6_lastOnes 4 = .ok (.invokestatic 49, 3) := by decide +kernel
theorem dX6_lastOnes_7 : decode cX6_lastOnes 7 = .ok (.ifCond .eq 22, 3) := by decide +kernel
theorem dX6_lastOnes_10 : decode cX6_lastOnes 10 = .ok (.iload_n 2, 1) := by decide +kernel
theorem dX6_lastOnes_11 : decode cX6_lastOnes 11 = .ok (.iconst 1, 1) := by decide +kernel
theorem dX6_lastOnes_12 : decode cX6_lastOnes 12 = .ok (.bipush 9, 2) := by decide +kernel
theorem dX6_lastOnes_14 : decode cX6_lastOnes 14 = .ok (.invokestatic 49, 3) := by decide +kernel
theorem dX6_lastOnes_17 : decode cX6_lastOnes 17 = .ok (.ifCond .eq 12, 3) := by decide +kernel
theorem dX6_lastOnes_20 : decode cX6_lastOnes 20 = .ok (.iload_n 3, 1) := by decide +kernel
theorem dX6_lastOnes_21 : decode cX6_lastOnes 21 = .ok (.iconst 0, 1) := by decide +kernel
theorem dX6_lastOnes_22 : decode cX6_lastOnes 22 = .ok (.iconst 1, 1) := by decide +kernel
theorem dX6_lastOnes_23 : decode cX6_lastOnes 23 = .ok (.invokestatic 49, 3) := by decide +kernel
theorem dX6_lastOnes_26 : decode cX6_lastOnes 26 = .ok (.ifCond .ne 5, 3) := by decide +kernel
theorem dX6_lastOnes_29 : decode cX6_lastOnes 29 = .ok (.iconst (-1), 1) := by decide +kernel
theorem dX6_lastOnes_30 : decode cX6_lastOnes 30 = .ok (.ireturn, 1) := by decide +kernel
theorem dX6_lastOnes_31 : decode cX6_lastOnes 31 = .ok (.iload_n 1, 1) := by decide +kernel
theorem dX6_lastOnes_32 : decode cX6_lastOnes 32 = .ok (.iload_n 2, 1) := by decide +kernel
theorem dX6_lastOnes_33 : decode cX6_lastOnes 33 = .ok (.iconst 1, 1) := by decide +kernel
theorem dX6_lastOnes_34 : decode cX6_lastOnes 34 = .ok (.iadd, 1) := by decide +kernel
theorem dX6_lastOnes_35 : decode cX6_lastOnes 35 = .ok (.irem, 1) := by decide +kernel
theorem dX6_lastOnes_36 : decode cX6_lastOnes 36 = .ok (.istore 4, 2) := by decide +kernel
theorem dX6_lastOnes_38 : decode cX6_lastOnes 38 = .ok (.iload_n 3, 1) := by decide +kernel
theorem dX6_lastOnes_39 : decode cX6_lastOnes 39 = .ok (.iconst 1, 1) := by decide +kernel
theorem dX6_lastOnes_40 : decode cX6_lastOnes 40 = .ok (.if_icmp .ne 8, 3) := by decide +kernel
theorem dX6_lastOnes_43 : decode cX6_lastOnes 43 = .ok (.iload 4, 2) := by decide +kernel
theorem dX6_lastOnes_45 : decode cX6_lastOnes 45 = .ok (.goto 13, 3) := by decide +kernel
theorem dX6_lastOnes_48 : decode cX6_lastOnes 48 = .ok (.iload 4, 2) := by decide +kernel
theorem dX6_lastOnes_50 : decode cX6_lastOnes 50 = .ok (.ifCond .le 7, 3) := by decide +kernel
theorem dX6_lastOnes_53 : decode cX6_lastOnes 53 = .ok (.iconst 1, 1) := by decide +kernel
theorem dX6_lastOnes_54 : decode cX6_lastOnes 54 = .ok (.goto 4, 3) := by decide +kernel
theorem dX6_lastOnes_57 : decode cX6_lastOnes 57 = .ok (.iconst 0, 1) := by decide +kernel
theorem dX6_lastOnes_58 : decode cX6_lastOnes 58 = .ok (.ireturn, 1) := by decide +kernel
theorem dX6_hungerAll_0 : decode cX6_hungerAll 0 = .ok (.iconst 0, 1) := by decide +kernel
theorem dX6_hungerAll_1 : decode cX6_hungerAll 1 = .ok (.istore_n 1, 1) := by decide +kernel
theorem dX6_hungerAll_2 : decode cX6_hungerAll 2 = .ok (.iconst 0, 1) := by decide +kernel
theorem dX6_hungerAll_3 : decode cX6_hungerAll 3 = .ok (.istore_n 2, 1) := by decide +kernel
theorem dX6_hungerAll_4 : decode cX6_hungerAll 4 = .ok (.iload_n 2, 1) := by decide +kernel
theorem dX6_hungerAll_5 : decode cX6_hungerAll 5 = .ok (.aload_n 0, 1) := by decide +kernel
theorem dX6_hungerAll_6 : decode cX6_hungerAll 6 = .ok (.getfield 9, 3) := by decide +kernel
theorem dX6_hungerAll_9 : decode cX6_hungerAll 9 = .ok (.iconst 0, 1) := by decide +kernel
theorem dX6_hungerAll_10 : decode cX6_hungerAll 10 = .ok (.iaload, 1) := by decide +kernel
theorem dX6_hungerAll_11 : decode cX6_hungerAll 11 = .ok (.if_icmp .ge 22, 3) := by decide +kernel
theorem dX6_hungerAll_14 : decode cX6_hungerAll 14 = .ok (.iload_n 1, 1) := by decide +kernel
theorem dX6_hungerAll_15 : decode cX6_hungerAll 15 = .ok (.aload_n 0, 1) := by decide +kernel
theorem dX6_hungerAll_16 : decode cX6_hungerAll 16 = .ok (.getfield 9, 3) := by decide +kernel
theorem dX6_hungerAll_19 : decode cX6_hungerAll 19 = .ok (.iload_n 2, 1) := by decide +kernel
theorem dX6_hungerAll_20 : decode cX6_hungerAll 20 = .ok (.iconst 2, 1) := by decide +kernel
theorem dX6_hungerAll_21 : decode cX6_hungerAll 21 = .ok (.invokestatic 53, 3) := by decide +kernel
theorem dX6_hungerAll_24 : decode cX6_hungerAll 24 = .ok (.iaload, 1) := by decide +kernel
theorem dX6_hungerAll_25 : decode cX6_hungerAll 25 = .ok (.iadd, 1) := by decide +kernel
theorem dX6_hungerAll_26 : decode cX6_hungerAll 26 = .ok (.istore_n 1, 1) := by decide +kernel
theorem dX6_hungerAll_27 : decode cX6_hungerAll 27 = .ok (.iinc 2 1, 3) := by decide +kernel
theorem dX6_hungerAll_30 : decode cX6_hungerAll 30 = .ok (.goto (-26), 3) := by decide +kernel
theorem dX6_hungerAll_33 : decode cX6_hungerAll 33 = .ok (.iload_n 1, 1) := by decide +kernel
theorem dX6_hungerAll_34 : decode cX6_hungerAll 34 = .ok (.ireturn, 1) := by decide +kernel
theorem dX6_partOfSlices_0 : decode cX6_partOfSlices 0 = .ok (.aload_n 0, 1) := by decide +kernel
theorem dX6_partOfSlices_1 : decode cX6_partOfSlices 1 = .ok (.invokevirtual 170, 3) := by decide +kernel
theorem dX6_partOfSlices_4 : decode cX6_partOfSlices 4 = .ok (.ifCond .ne 7, 3) := by decide +kernel
theorem dX6_partOfSlices_7 : decode cX6_partOfSlices 7 = .ok (.iconst 0, 1) := by decide +kernel
theorem dX6_partOfSlices_8 : decode cX6_partOfSlices 8 = .ok (.goto 25, 3) := by decide +kernel
theorem dX6_partOfSlices_11 : decode cX6_partOfSlices 11 = .ok (.aload_n 0, 1) := by decide +kernel
theorem dX6_partOfSlices_12 : decode cX6_partOfSlices 12 = .ok (.getfield 9, 3) := by decide +kernel
theorem dX6_partOfSlices_15 : decode cX6_partOfSlices 15 = .ok (.iconst 1, 1) := by decide +kernel
theorem dX6_partOfSlices_16 : decode cX6_partOfSlices 16 = .ok (.iaload, 1) := by decide +kernel
theorem dX6_partOfSlices_17 : decode cX6_partOfSlices 17 = .ok (.aload_n 0, 1) := by decide +kernel
theorem dX6_partOfSlices_18 : decode cX6_partOfSlices 18 = .ok (.getfield 9, 3) := by decide +kernel
theorem dX6_partOfSlices_21 : decode cX6_partOfSlices 21 = .ok (.iload_n 1, 1) := by decide +kernel
theorem dX6_partOfSlices_22 : decode cX6_partOfSlices 22 = .ok (.iconst 2, 1) := by decide +kernel
theorem dX6_partOfSlices_23 : decode cX6_partOfSlices 23 = .ok (.invokestatic 53, 3) := by decide +kernel
theorem dX6_partOfSlices_26 : decode cX6_partOfSlices 26 = .ok (.iaload, 1) := by decide +kernel
theorem dX6_partOfSlices_27 : decode cX6_partOfSlices 27 = .ok (.imul, 1) := by decide +kernel
theorem dX6_partOfSlices_28 : decode cX6_partOfSlices 28 = .ok (.aload_n 0, 1) := by decide +kernel
theorem dX6_partOfSlices_29 : decode cX6_partOfSlices 29 = .ok (.invokevirtual 170, 3) := by decide +kernel
theorem dX6_partOfSlices_32 : decode cX6_partOfSlices 32 = .ok (.idiv, 1) := by decide +kernel
theorem dX6_partOfSlices_33 : decode cX6_partOfSlices 33 = .ok (.ireturn, 1) := by decide +kernel
theorem dX6_shares_0 : decode cX6_shares 0 = .ok (.iload_n 1, 1) := by decide +kernel
theorem dX6_shares_1 : decode cX6_shares 1 = .ok (.iconst (-1), 1) := by decide +kernel
theorem dX6_shares_2 : decode cX6_shares 2 = .ok (.if_icmp .eq 13, 3) := by decide +kernel
theorem dX6_shares_5 : decode cX6_shares 5 = .ok (.aload_n 0, 1) := by decide +kernel
theorem dX6_shares_6 : decode cX6_shares 6 = .ok (.iload_n 1, 1) := by decide +kernel
theorem dX6_shares_7 : decode cX6_shares 7 = .ok (.invokevirtual 121, 3) := by decide +kernel
theorem dX6_shares_10 : decode cX6_shares 10 = .ok (.ifCond .ne 5, 3) := by decide +kernel
theorem dX6_shares_13 : decode cX6_shares 13 = .ok (.iconst (-1), 1) := by decide +kernel
theorem dX6_shares_14 : decode cX6_shares 14 = .ok (.ireturn, 1) := by decide +kernel
theorem dX6_shares_15 : decode cX6_shares 15 = .ok (.iload_n 1, 1) := by decide +kernel
theorem dX6_shares_16 : decode cX6_shares 16 = .ok (.ifCond .lt 9, 3) := by decide +kernel
theorem dX6_shares_19 : decode cX6_shares 19 = .ok (.aload_n 0, 1) := by decide +kernel
theorem dX6_shares_20 : decode cX6_shares 20 = .ok (.iload_n 1, 1) := by decide +kernel
theorem dX6_shares_21 : decode cX6_shares 21 = .ok (.invokevirtual 173, 3) := by decide +kernel
theorem dX6_shares_24 : decode cX6_shares 24 = .ok (.ireturn, 1) := by decide +kernel
theorem dX6_shares_25 : decode cX6_shares 25 = .ok (.aload_n 0, 1) := by decide +kernel
theorem dX6_shares_26 : decode cX6_shares 26 = .ok (.getfield 9, 3) := by decide +kernel
theorem dX6_shares_29 : decode cX6_shares 29 = .ok (.iconst 1, 1) := by decide +kernel
theorem dX6_shares_30 : decode cX6_shares 30 = .ok (.iaload, 1) := by decide +kernel
theorem dX6_shares_31 : decode cX6_shares 31 = .ok (.istore_n 2, 1) := by decide +kernel
theorem dX6_shares_32 : decode cX6_shares 32 = .ok (.iconst 0, 1) := by decide +kernel
theorem dX6_shares_33 : decode cX6_shares 33 = .ok (.istore_n 3, 1) := by decide +kernel
theorem dX6_shares_34 : decode cX6_shares 34 = .ok (.iload_n 3, 1) := by decide +kernel
theorem dX6_shares_35 : decode cX6_shares 35 = .ok (.aload_n 0, 1) := by decide +kernel
theorem dX6_shares_36 : decode cX6_shares 36 = .ok (.getfield 9, 3) := by decide +kernel
theorem dX6_shares_39 : decode cX6_shares 39 = .ok (.iconst 0, 1) := by decide +kernel
theorem dX6_shares_40 : decode cX6_shares 40 = .ok (.iaload, 1) := by decide +kernel
theorem dX6_shares_41 : decode cX6_shares 41 = .ok (.if_icmp .ge 17, 3) := by decide +kernel
theorem dX6_shares_44 : decode cX6_shares 44 = .ok (.iload_n 2, 1) := by decide +kernel
theorem dX6_shares_45 : decode cX6_shares 45 = .ok (.aload_n 0, 1) := by decide +kernel
theorem dX6_shares_46 : decode cX6_shares 46 = .ok (.iload_n 3, 1) := by decide +kernel
theorem dX6_shares_47 : decode cX6_shares 47 = .ok (.invokevirtual 173, 3) := by decide +kernel
theorem dX6_shares_50 : decode cX6_shares 50 = .ok (.isub, 1) := by decide +kernel
theorem dX6_shares_51 : decode cX6_shares 51 = .ok (.istore_n 2, 1) := by decide +kernel
theorem dX6_shares_52 : decode cX6_shares 52 = .ok (.iinc 3 1, 3) := by decide +kernel
theorem dX6_shares_55 : decode cX6_shares 55 = .ok (.goto (-21), 3) := by decide +kernel
theorem dX6_shares_58 : decode cX6_shares 58 = .ok (.iload_n 2, 1) := by decide +kernel
theorem dX6_shares_59 : decode cX6_shares 59 = .ok (.ireturn, 1) := by decide +kernel
theorem dX6_gcd_0 : decode cX6_gcd 0 = .ok (.lload_n 0, 1) := by decide +kernel
theorem dX6_gcd_1 : decode cX6_gcd 1 = .ok (.lstore 4, 2) := by decide +kernel
theorem dX6_gcd_3 : decode cX6_gcd 3 = .ok (.lload_n 2, 1) := by decide +kernel
theorem dX6_gcd_4 : decode cX6_gcd 4 = .ok (.lstore 6, 2) := by decide +kernel
theorem dX6_gcd_6 : decode cX6_gcd 6 = .ok (.lload 6, 2) := by decide +kernel
theorem dX6_gcd_8 : decode cX6_gcd 8 = .ok (.lconst 0, 1) := by decide +kernel
theorem dX6_gcd_9 : decode cX6_gcd 9 = .ok (.lcmp, 1) := by decide +kernel
theorem dX6_gcd_10 : decode cX6_gcd 10 = .ok (.ifCond .eq 21, 3) := by decide +kernel
theorem dX6_gcd_13 : decode cX6_gcd 13 = .ok (.lload 4, 2) := by decide +kernel
theorem dX6_gcd_15 : decode cX6_gcd 15 = .ok (.lload 6, 2) := by decide +kernel
theorem dX6_gcd_17 : decode cX6_gcd 17 = .ok (.lrem, 1) := by decide +kernel
theorem dX6_gcd_18 : decode cX6_gcd 18 = .ok (.lstore 8, 2) := by decide +kernel
theorem dX6_gcd_20 : decode cX6_gcd 20 = .ok (.lload 6, 2) := by decide +kernel
theorem dX6_gcd_22 : decode cX6_gcd 22 = .ok (.lstore 4, 2) := by decide +kernel
theorem dX6_gcd_24 : decode cX6_gcd 24 = .ok (.lload 8, 2) := by decide +kernel
theorem dX6_gcd_26 : decode cX6_gcd 26 = .ok (.lstore 6, 2) := by decide +kernel
theorem dX6_gcd_28 : decode cX6_gcd 28 = .ok (.goto (-22), 3) := by decide +kernel
theorem dX6_gcd_31 : decode cX6_gcd 31 = .ok (.lload 4, 2) := by decide +kernel
theorem dX6_gcd_33 : decode cX6_gcd 33 = .ok (.lreturn, 1) := by decide +kernel
theorem dX6_partOf_0 : decode cX6_partOf 0 = .ok (.lload_n 0, 1) := by decide +kernel
theorem dX6_partOf_1 : decode cX6_partOf 1 = .ok (.lconst 0, 1) := by decide +kernel
theorem dX6_partOf_2 : decode cX6_partOf 2 = .ok (.lcmp, 1) := by decide +kernel
theorem dX6_partOf_3 : decode cX6_partOf 3 = .ok (.ifCond .ne 7, 3) := by decide +kernel
theorem dX6_partOf_6 : decode cX6_partOf 6 = .ok (.iload 4, 2) := by decide +kernel
theorem dX6_partOf_8 : decode cX6_partOf 8 = .ok (.i2l, 1) := by decide +kernel
theorem dX6_partOf_9 : decode cX6_partOf 9 = .ok (.lreturn, 1) := by decide +kernel
theorem dX6_partOf_10 : decode cX6_partOf 10 = .ok (.iload 4, 2) := by decide +kernel
theorem dX6_partOf_12 : decode cX6_partOf 12 = .ok (.ifCond .ne 7, 3) := by decide +kernel
theorem dX6_partOf_15 : decode cX6_partOf 15 = .ok (.lload_n 0, 1) := by decide +kernel
theorem dX6_partOf_16 : decode cX6_partOf 16 = .ok (.goto 4, 3) := by decide +kernel
theorem dX6_partOf_19 : decode cX6_partOf 19 = .ok (.lload_n 2, 1) := by decide +kernel
theorem dX6_partOf_20 : decode cX6_partOf 20 = .ok (.lload_n 0, 1) := by decide +kernel
theorem dX6_partOf_21 : decode cX6_partOf 21 = .ok (.lload_n 2, 1) := by decide +kernel
theorem dX6_partOf_22 : decode cX6_partOf 22 = .ok (.invokestatic 176, 3) := by decide +kernel
theorem dX6_partOf_25 : decode cX6_partOf 25 = .ok (.ldiv, 1) := by decide +kernel
theorem dX6_partOf_26 : decode cX6_partOf 26 = .ok (.lreturn, 1) := by decide +kernel
theorem dX6_crowd_0 : decode cX6_crowd 0 = .ok (.iload_n 1, 1) := by decide +kernel
theorem dX6_crowd_1 : decode cX6_crowd 1 = .ok (.iconst 0, 1) := by decide +kernel
theorem dX6_crowd_2 : decode cX6_crowd 2 = .ok (.bipush 8, 2) := by decide +kernel
theorem dX6_crowd_4 : decode cX6_crowd 4 = .ok (.invokestatic 49, 3) := by decide +kernel
theorem dX6_crowd_7 : decode cX6_crowd 7 = .ok (.ifCond .eq 32, 3) := by decide +kernel
theorem dX6_crowd_10 : decode cX6_crowd 10 = .ok (.iload_n 2, 1) := by decide +kernel
theorem dX6_crowd_11 : decode cX6_crowd 11 = .ok (.iconst 2, 1) := by decide +kernel
theorem dX6_crowd_12 : decode cX6_crowd 12 = .ok (.bipush 20, 2) := by decide +kernel
theorem dX6_crowd_14 : decode cX6_crowd 14 = .ok (.invokestatic 49, 3) := by decide +kernel
theorem dX6_crowd_17 : decode cX6_crowd 17 = .ok (.ifCond .eq 22, 3) := by decide +kernel
theorem dX6_crowd_20 : decode cX6_crowd 20 = .ok (.iload_n 3, 1) := by decide +kernel
theorem dX6_crowd_21 : decode cX6_crowd 21 = .ok (.iconst 0, 1) := by decide +kernel
theorem dX6_crowd_22 : decode cX6_crowd 22 = .ok (.iconst 4, 1) := by decide +kernel
theorem dX6_crowd_23 : decode cX6_crowd 23 = .ok (.invokestatic 49, 3) := by decide +kernel
theorem dX6_crowd_26 : decode cX6_crowd 26 = .ok (.ifCond .eq 13, 3) := by decide +kernel
theorem dX6_crowd_29 : decode cX6_crowd 29 = .ok (.iload 4, 2) := by decide +kernel
theorem dX6_crowd_31 : decode cX6_crowd 31 = .ok (.iconst 0, 1) := by decide +kernel
theorem dX6_crowd_32 : decode cX6_crowd 32 = .ok (.iconst 1, 1) := by decide +kernel
theorem dX6_crowd_33 : decode cX6_crowd 33 = .ok (.invokestatic 49, 3) := by decide +kernel
theorem dX6_crowd_36 : decode cX6_crowd 36 = .ok (.ifCond .ne 7, 3) := by decide +kernel
theorem dX6_crowd_39 : decode cX6_crowd 39 = .ok (.ldc2_w 180, 3) := by decide +kernel
theorem dX6_crowd_42 : decode cX6_crowd 42 = .ok (.lreturn, 1) := by decide +kernel
theorem dX6_crowd_43 : decode cX6_crowd 43 = .ok (.lconst 0, 1) := by decide +kernel
theorem dX6_crowd_44 : decode cX6_crowd 44 = .ok (.lstore 5, 2) := by decide +kernel
theorem dX6_crowd_46 : decode cX6_crowd 46 = .ok (.lconst 1, 1) := by decide +kernel
theorem dX6_crowd_47 : decode cX6_crowd 47 = .ok (.lstore 7, 2) := by decide +kernel
theorem dX6_crowd_49 : decode cX6_crowd 49 = .ok (.iconst 0, 1) := by decide +kernel
theorem dX6_crowd_50 : decode cX6_crowd 50 = .ok (.istore 9, 2) := by decide +kernel
theorem dX6_crowd_52 : decode cX6_crowd 52 = .ok (.iload 9, 2) := by decide +kernel
theorem dX6_crowd_54 : decode cX6_crowd 54 = .ok (.iload_n 1, 1) := by decide +kernel
theorem dX6_crowd_55 : decode cX6_crowd 55 = .ok (.if_icmp .ge 16, 3) := by decide +kernel
theorem dX6_crowd_58 : decode cX6_crowd 58 = .ok (.lload 7, 2) := by decide +kernel
theorem dX6_crowd_60 : decode cX6_crowd 60 = .ok (.iload_n 2, 1) := by decide +kernel
theorem dX6_crowd_61 : decode cX6_crowd 61 = .ok (.i2l, 1) := by decide +kernel
theorem dX6_crowd_62 : decode cX6_crowd 62 = .ok (.lmul, 1) := by decide +kernel
theorem dX6_crowd_63 : decode cX6_crowd 63 = .ok (.lstore 7, 2) := by decide +kernel
theorem dX6_crowd_65 : decode cX6_crowd 65 = .ok (.iinc 9 1, 3) := by decide +kernel
theorem dX6_crowd_68 : decode cX6_crowd 68 = .ok (.goto (-16), 3) := by decide +kernel
theorem dX6_crowd_71 : decode cX6_crowd 71 = .ok (.iconst 0, 1) := by decide +kernel
theorem dX6_crowd_72 : decode cX6_crowd 72 = .ok (.istore 9, 2) := by decide +kernel
theorem dX6_crowd_74 : decode cX6_crowd 74 = .ok (.iload 9, 2) := by decide +kernel
theorem dX6_crowd_76 : decode cX6_crowd 76 = .ok (.iconst 1, 1) := by decide +kernel
theorem dX6_crowd_77 : decode cX6_crowd 77 = .ok (.iload_n 1, 1) := by decide +kernel
theorem dX6_crowd_78 : decode cX6_crowd 78 = .ok (.ishl, 1) := by decide +kernel
theorem dX6_crowd_79 : decode cX6_crowd 79 = .ok (.if_icmp .ge 62, 3) := by decide +kernel
theorem dX6_crowd_82 : decode cX6_crowd 82 = .ok (.lconst 1, 1) := by decide +kernel
theorem dX6_crowd_83 : decode cX6_crowd 83 = .ok (.lstore 10, 2) := by decide +kernel
theorem dX6_crowd_85 : decode cX6_crowd 85 = .ok (.iload 9, 2) := by decide +kernel
theorem dX6_crowd_87 : decode cX6_crowd 87 = .ok (.invokestatic 167, 3) := by decide +kernel
theorem dX6_crowd_90 : decode cX6_crowd 90 = .ok (.istore 12, 2) := by decide +kernel
theorem dX6_crowd_92 : decode cX6_crowd 92 = .ok (.iload 12, 2) := by decide +kernel
theorem dX6_crowd_94 : decode cX6_crowd 94 = .ok (.iload_n 1, 1) := by decide +kernel
theorem dX6_crowd_95 : decode cX6_crowd 95 = .ok (.if_icmp .ge 18, 3) := by decide +kernel
theorem dX6_crowd_98 : decode cX6_crowd 98 = .ok (.lload 10, 2) := by decide +kernel
theorem dX6_crowd_100 : decode cX6_crowd 100 = .ok (.iload_n 2, 1) := by decide +kernel
theorem dX6_crowd_101 : decode cX6_crowd 101 = .ok (.iconst 1, 1) := by decide +kernel
theorem dX6_crowd_102 : decode cX6_crowd 102 = .ok (.isub, 1) := by decide +kernel
theorem dX6_crowd_103 : decode cX6_crowd 103 = .ok (.i2l, 1) := by decide +kernel
theorem dX6_crowd_104 : decode cX6_crowd 104 = .ok (.lmul, 1) := by decide +kernel
theorem dX6_crowd_105 : decode cX6_crowd 105 = .ok (.lstore 10, 2) := by decide +kernel
theorem dX6_crowd_107 : decode cX6_crowd 107 = .ok (.iinc 12 1, 3) := by decide +kernel
theorem dX6_crowd_110 : decode cX6_crowd 110 = .ok (.goto (-18), 3) := by decide +kernel
theorem dX6_crowd_113 : decode cX6_crowd 113 = .ok (.lload 5, 2) := by decide +kernel
theorem dX6_crowd_115 : decode cX6_crowd 115 = .ok (.iload 9, 2) := by decide +kernel
theorem dX6_crowd_117 : decode cX6_crowd 117 = .ok (.invokestatic 167, 3) := by decide +kernel
theorem dX6_crowd_120 : decode cX6_crowd 120 = .ok (.iconst 2, 1) := by decide +kernel
theorem dX6_crowd_121 : decode cX6_crowd 121 = .ok (.idiv, 1) := by decide +kernel
theorem dX6_crowd_122 : decode cX6_crowd 122 = .ok (.iload_n 3, 1) := by decide +kernel
theorem dX6_crowd_123 : decode cX6_crowd 123 = .ok (.if_icmp .lt 8, 3) := by decide +kernel
theorem dX6_crowd_126 : decode cX6_crowd 126 = .ok (.lload 10, 2) := by decide +kernel
theorem dX6_crowd_128 : decode cX6_crowd 128 = .ok (.goto 4, 3) := by decide +kernel
theorem dX6_crowd_131 : decode cX6_crowd 131 = .ok (.lconst 0, 1) := by decide +kernel
theorem dX6_crowd_132 : decode cX6_crowd 132 = .ok (.ladd, 1) := by decide +kernel
theorem dX6_crowd_133 : decode cX6_crowd 133 = .ok (.lstore 5, 2) := by decide +kernel
theorem dX6_crowd_135 : decode cX6_crowd 135 = .ok (.iinc 9 1, 3) := by decide +kernel
theorem dX6_crowd_138 : decode cX6_crowd 138 = .ok (.goto (-64), 3) := by decide +kernel
theorem dX6_crowd_141 : decode cX6_crowd 141 = .ok (.lload 5, 2) := by decide +kernel
theorem dX6_crowd_143 : decode cX6_crowd 143 = .ok (.lload 7, 2) := by decide +kernel
theorem dX6_crowd_145 : decode cX6_crowd 145 = .ok (.iload 4, 2) := by decide +kernel
theorem dX6_crowd_147 : decode cX6_crowd 147 = .ok (.invokestatic 182, 3) := by decide +kernel
theorem dX6_crowd_150 : decode cX6_crowd 150 = .ok (.lreturn, 1) := by decide +kernel
theorem dX6_mean_0 : decode cX6_mean 0 = .ok (.iload_n 1, 1) := by decide +kernel
theorem dX6_mean_1 : decode cX6_mean 1 = .ok (.iconst 0, 1) := by decide +kernel
theorem dX6_mean_2 : decode cX6_mean 2 = .ok (.iconst 1, 1) := by decide +kernel
theorem dX6_mean_3 : decode cX6_mean 3 = .ok (.invokestatic 49, 3) := by decide +kernel
theorem dX6_mean_6 : decode cX6_mean 6 = .ok (.ifCond .eq 22, 3) := by decide +kernel
theorem dX6_mean_9 : decode cX6_mean 9 = .ok (.aload_n 0, 1) := by decide +kernel
theorem dX6_mean_10 : decode cX6_mean 10 = .ok (.invokevirtual 170, 3) := by decide +kernel
theorem dX6_mean_13 : decode cX6_mean 13 = .ok (.i2l, 1) := by decide +kernel
theorem dX6_mean_14 : decode cX6_mean 14 = .ok (.aload_n 0, 1) := by decide +kernel
theorem dX6_mean_15 : decode cX6_mean 15 = .ok (.getfield 9, 3) := by decide +kernel
theorem dX6_mean_18 : decode cX6_mean 18 = .ok (.iconst 0, 1) := by decide +kernel
theorem dX6_mean_19 : decode cX6_mean 19 = .ok (.iaload, 1) := by decide +kernel
theorem dX6_mean_20 : decode cX6_mean 20 = .ok (.i2l, 1) := by decide +kernel
theorem dX6_mean_21 : decode cX6_mean 21 = .ok (.iload_n 1, 1) := by decide +kernel
theorem dX6_mean_22 : decode cX6_mean 22 = .ok (.invokestatic 182, 3) := by decide +kernel
theorem dX6_mean_25 : decode cX6_mean 25 = .ok (.goto 6, 3) := by decide +kernel
theorem dX6_mean_28 : decode cX6_mean 28 = .ok (.ldc2_w 180, 3) := by decide +kernel
theorem dX6_mean_31 : decode cX6_mean 31 = .ok (.lreturn, 1) := by decide +kernel
theorem dX6_joyless_0 : decode cX6_joyless 0 = .ok (.iconst 0, 1) := by decide +kernel
theorem dX6_joyless_1 : decode cX6_joyless 1 = .ok (.istore_n 1, 1) := by decide +kernel
theorem dX6_joyless_2 : decode cX6_joyless 2 = .ok (.iconst 0, 1) := by decide +kernel
theorem dX6_joyless_3 : decode cX6_joyless 3 = .ok (.istore_n 2, 1) := by decide +kernel
theorem dX6_joyless_4 : decode cX6_joyless 4 = .ok (.iload_n 2, 1) := by decide +kernel
theorem dX6_joyless_5 : decode cX6_joyless 5 = .ok (.aload_n 0, 1) := by decide +kernel
theorem dX6_joyless_6 : decode cX6_joyless 6 = .ok (.getfield 9, 3) := by decide +kernel
theorem dX6_joyless_9 : decode cX6_joyless 9 = .ok (.iconst 0, 1) := by decide +kernel
theorem dX6_joyless_10 : decode cX6_joyless 10 = .ok (.iaload, 1) := by decide +kernel
theorem dX6_joyless_11 : decode cX6_joyless 11 = .ok (.if_icmp .ge 59, 3) := by decide +kernel
theorem dX6_joyless_14 : decode cX6_joyless 14 = .ok (.iconst 0, 1) := by decide +kernel
theorem dX6_joyless_15 : decode cX6_joyless 15 = .ok (.istore_n 3, 1) := by decide +kernel
theorem dX6_joyless_16 : decode cX6_joyless 16 = .ok (.iload_n 3, 1) := by decide +kernel
theorem dX6_joyless_17 : decode cX6_joyless 17 = .ok (.aload_n 0, 1) := by decide +kernel
theorem dX6_joyless_18 : decode cX6_joyless 18 = .ok (.getfield 9, 3) := by decide +kernel
theorem dX6_joyless_21 : decode cX6_joyless 21 = .ok (.iconst 0, 1) := by decide +kernel
theorem dX6_joyless_22 : decode cX6_joyless 22 = .ok (.iaload, 1) := by decide +kernel
theorem dX6_joyless_23 : decode cX6_joyless 23 = .ok (.if_icmp .ge 41, 3) := by decide +kernel
theorem dX6_joyless_26 : decode cX6_joyless 26 = .ok (.iload_n 1, 1) := by decide +kernel
theorem dX6_joyless_27 : decode cX6_joyless 27 = .ok (.aload_n 0, 1) := by decide +kernel
theorem dX6_joyless_28 : decode cX6_joyless 28 = .ok (.getfield 9, 3) := by decide +kernel
theorem dX6_joyless_31 : decode cX6_joyless 31 = .ok (.iload_n 2, 1) := by decide +kernel
theorem dX6_joyless_32 : decode cX6_joyless 32 = .ok (.iload_n 3, 1) := by decide +kernel
theorem dX6_joyless_33 : decode cX6_joyless 33 = .ok (.invokestatic 91, 3) := by decide +kernel
theorem dX6_joyless_36 : decode cX6_joyless 36 = .ok (.ifCond .eq 19, 3) := by decide +kernel
theorem dX6_joyless_39 : decode cX6_joyless 39 = .ok (.aload_n 0, 1) := by decide +kernel
theorem dX6_joyless_40 : decode cX6_joyless 40 = .ok (.getfield 9, 3) := by decide +kernel
theorem dX6_joyless_43 : decode cX6_joyless 43 = .ok (.iload_n 2, 1) := by decide +kernel
theorem dX6_joyless_44 : decode cX6_joyless 44 = .ok (.iload_n 3, 1) := by decide +kernel
theorem dX6_joyless_45 : decode cX6_joyless 45 = .ok (.invokestatic 88, 3) := by decide +kernel
theorem dX6_joyless_48 : decode cX6_joyless 48 = .ok (.ifCond .ne 7, 3) := by decide +kernel
theorem dX6_joyless_51 : decode cX6_joyless 51 = .ok (.iconst 1, 1) := by decide +kernel
theorem dX6_joyless_52 : decode cX6_joyless 52 = .ok (.goto 4, 3) := by decide +kernel
theorem dX6_joyless_55 : decode cX6_joyless 55 = .ok (.iconst 0, 1) := by decide +kernel
theorem dX6_joyless_56 : decode cX6_joyless 56 = .ok (.iadd, 1) := by decide +kernel
theorem dX6_joyless_57 : decode cX6_joyless 57 = .ok (.istore_n 1, 1) := by decide +kernel
theorem dX6_joyless_58 : decode cX6_joyless 58 = .ok (.iinc 3 1, 3) := by decide +kernel
theorem dX6_joyless_61 : decode cX6_joyless 61 = .ok (.goto (-45), 3) := by decide +kernel
theorem dX6_joyless_64 : decode cX6_joyless 64 = .ok (.iinc 2 1, 3) := by decide +kernel
theorem dX6_joyless_67 : decode cX6_joyless 67 = .ok (.goto (-63), 3) := by decide +kernel
theorem dX6_joyless_70 : decode cX6_joyless 70 = .ok (.iload_n 1, 1) := by decide +kernel
theorem dX6_joyless_71 : decode cX6_joyless 71 = .ok (.ireturn, 1) := by decide +kernel
theorem dX6_seen_0 : decode cX6_seen 0 = .ok (.iload_n 1, 1) := by decide +kernel
theorem dX6_seen_1 : decode cX6_seen 1 = .ok (.iconst 0, 1) := by decide +kernel
theorem dX6_seen_2 : decode cX6_seen 2 = .ok (.iconst 1, 1) := by decide +kernel
theorem dX6_seen_3 : decode cX6_seen 3 = .ok (.aload_n 0, 1) := by decide +kernel
theorem dX6_seen_4 : decode cX6_seen 4 = .ok (.getfield 9, 3) := by decide +kernel
theorem dX6_seen_7 : decode cX6_seen 7 = .ok (.iconst 0, 1) := by decide +kernel
theorem dX6_seen_8 : decode cX6_seen 8 = .ok (.iaload, 1) := by decide +kernel
theorem dX6_seen_9 : decode cX6_seen 9 = .ok (.ishl, 1) := by decide +kernel
theorem dX6_seen_10 : decode cX6_seen 10 = .ok (.iconst 1, 1) := by decide +kernel
theorem dX6_seen_11 : decode cX6_seen 11 = .ok (.isub, 1) := by decide +kernel
theorem dX6_seen_12 : decode cX6_seen 12 = .ok (.invokestatic 49, 3) := by decide +kernel
theorem dX6_seen_15 : decode cX6_seen 15 = .ok (.ifCond .ne 5, 3) := by decide +kernel
theorem dX6_seen_18 : decode cX6_seen 18 = .ok (.iconst (-1), 1) := by decide +kernel
theorem dX6_seen_19 : decode cX6_seen 19 = .ok (.ireturn, 1) := by decide +kernel
theorem dX6_seen_20 : decode cX6_seen 20 = .ok (.iconst 0, 1) := by decide +kernel
theorem dX6_seen_21 : decode cX6_seen 21 = .ok (.istore_n 2, 1) := by decide +kernel
theorem dX6_seen_22 : decode cX6_seen 22 = .ok (.iconst 0, 1) := by decide +kernel
theorem dX6_seen_23 : decode cX6_seen 23 = .ok (.istore_n 3, 1) := by decide +kernel
theorem dX6_seen_24 : decode cX6_seen 24 = .ok (.iload_n 3, 1) := by decide +kernel
theorem dX6_seen_25 : decode cX6_seen 25 = .ok (.aload_n 0, 1) := by decide +kernel
theorem dX6_seen_26 : decode cX6_seen 26 = .ok (.getfield 9, 3) := by decide +kernel
theorem dX6_seen_29 : decode cX6_seen 29 = .ok (.iconst 0, 1) := by decide +kernel
theorem dX6_seen_30 : decode cX6_seen 30 = .ok (.iaload, 1) := by decide +kernel
theorem dX6_seen_31 : decode cX6_seen 31 = .ok (.if_icmp .ge 36, 3) := by decide +kernel
theorem dX6_seen_34 : decode cX6_seen 34 = .ok (.iload_n 2, 1) := by decide +kernel
theorem dX6_seen_35 : decode cX6_seen 35 = .ok (.iload_n 1, 1) := by decide +kernel
theorem dX6_seen_36 : decode cX6_seen 36 = .ok (.iload_n 3, 1) := by decide +kernel
theorem dX6_seen_37 : decode cX6_seen 37 = .ok (.ishr, 1) := by decide +kernel
theorem dX6_seen_38 : decode cX6_seen 38 = .ok (.iconst 1, 1) := by decide +kernel
theorem dX6_seen_39 : decode cX6_seen 39 = .ok (.iand, 1) := by decide +kernel
theorem dX6_seen_40 : decode cX6_seen 40 = .ok (.ifCond .ne 18, 3) := by decide +kernel
theorem dX6_seen_43 : decode cX6_seen 43 = .ok (.aload_n 0, 1) := by decide +kernel
theorem dX6_seen_44 : decode cX6_seen 44 = .ok (.getfield 9, 3) := by decide +kernel
theorem dX6_seen_47 : decode cX6_seen 47 = .ok (.iload_n 3, 1) := by decide +kernel
theorem dX6_seen_48 : decode cX6_seen 48 = .ok (.invokestatic 66, 3) := by decide +kernel
theorem dX6_seen_51 : decode cX6_seen 51 = .ok (.ifCond .eq 7, 3) := by decide +kernel
theorem dX6_seen_54 : decode cX6_seen 54 = .ok (.iconst 1, 1) := by decide +kernel
theorem dX6_seen_55 : decode cX6_seen 55 = .ok (.goto 4, 3) := by decide +kernel
theorem dX6_seen_58 : decode cX6_seen 58 = .ok (.iconst 0, 1) := by decide +kernel
theorem dX6_seen_59 : decode cX6_seen 59 = .ok (.iadd, 1) := by decide +kernel
theorem dX6_seen_60 : decode cX6_seen 60 = .ok (.istore_n 2, 1) := by decide +kernel
theorem dX6_seen_61 : decode cX6_seen 61 = .ok (.iinc 3 1, 3) := by decide +kernel
theorem dX6_seen_64 : decode cX6_seen 64 = .ok (.goto (-40), 3) := by decide +kernel
theorem dX6_seen_67 : decode cX6_seen 67 = .ok (.iconst 0, 1) := by decide +kernel
theorem dX6_seen_68 : decode cX6_seen 68 = .ok (.istore_n 3, 1) := by decide +kernel
theorem dX6_seen_69 : decode cX6_seen 69 = .ok (.iload_n 3, 1) := by decide +kernel
theorem dX6_seen_70 : decode cX6_seen 70 = .ok (.aload_n 0, 1) := by decide +kernel
theorem dX6_seen_71 : decode cX6_seen 71 = .ok (.getfield 9, 3) := by decide +kernel
theorem dX6_seen_74 : decode cX6_seen 74 = .ok (.iconst 0, 1) := by decide +kernel
theorem dX6_seen_75 : decode cX6_seen 75 = .ok (.iaload, 1) := by decide +kernel
theorem dX6_seen_76 : decode cX6_seen 76 = .ok (.if_icmp .ge 42, 3) := by decide +kernel
theorem dX6_seen_79 : decode cX6_seen 79 = .ok (.iload_n 1, 1) := by decide +kernel
theorem dX6_seen_80 : decode cX6_seen 80 = .ok (.iload_n 3, 1) := by decide +kernel
theorem dX6_seen_81 : decode cX6_seen 81 = .ok (.ishr, 1) := by decide +kernel
theorem dX6_seen_82 : decode cX6_seen 82 = .ok (.iconst 1, 1) := by decide +kernel
theorem dX6_seen_83 : decode cX6_seen 83 = .ok (.iand, 1) := by decide +kernel
theorem dX6_seen_84 : decode cX6_seen 84 = .ok (.iconst 1, 1) := by decide +kernel
theorem dX6_seen_85 : decode cX6_seen 85 = .ok (.if_icmp .ne 27, 3) := by decide +kernel
theorem dX6_seen_88 : decode cX6_seen 88 = .ok (.aload_n 0, 1) := by decide +kernel
theorem dX6_seen_89 : decode cX6_seen 89 = .ok (.getfield 9, 3) := by decide +kernel
theorem dX6_seen_92 : decode cX6_seen 92 = .ok (.iconst 1, 1) := by decide +kernel
theorem dX6_seen_93 : decode cX6_seen 93 = .ok (.iaload, 1) := by decide +kernel
theorem dX6_seen_94 : decode cX6_seen 94 = .ok (.ifCond .eq 16, 3) := by decide +kernel
theorem dX6_seen_97 : decode cX6_seen 97 = .ok (.aload_n 0, 1) := by decide +kernel
theorem dX6_seen_98 : decode cX6_seen 98 = .ok (.getfield 9, 3) := by decide +kernel
theorem dX6_seen_101 : decode cX6_seen 101 = .ok (.iload_n 3, 1) := by decide +kernel
theorem dX6_seen_102 : decode cX6_seen 102 = .ok (.iconst 2, 1) := by decide +kernel
theorem dX6_seen_103 : decode cX6_seen 103 = .ok (.invokestatic 53, 3) := by decide +kernel
theorem dX6_seen_106 : decode cX6_seen 106 = .ok (.iaload, 1) := by decide +kernel
theorem dX6_seen_107 : decode cX6_seen 107 = .ok (.ifCond .ne 5, 3) := by decide +kernel
theorem dX6_seen_110 : decode cX6_seen 110 = .ok (.iconst 0, 1) := by decide +kernel
theorem dX6_seen_111 : decode cX6_seen 111 = .ok (.istore_n 2, 1) := by decide +kernel
theorem dX6_seen_112 : decode cX6_seen 112 = .ok (.iinc 3 1, 3) := by decide +kernel
theorem dX6_seen_115 : decode cX6_seen 115 = .ok (.goto (-46), 3) := by decide +kernel
theorem dX6_seen_118 : decode cX6_seen 118 = .ok (.iload_n 2, 1) := by decide +kernel
theorem dX6_seen_119 : decode cX6_seen 119 = .ok (.ireturn, 1) := by decide +kernel
theorem dX6_forged_0 : decode cX6_forged 0 = .ok (.aload_n 0, 1) := by decide +kernel
theorem dX6_forged_1 : decode cX6_forged 1 = .ok (.iload_n 1, 1) := by decide +kernel
theorem dX6_forged_2 : decode cX6_forged 2 = .ok (.iconst (-1), 1) := by decide +kernel
theorem dX6_forged_3 : decode cX6_forged 3 = .ok (.invokevirtual 128, 3) := by decide +kernel
theorem dX6_forged_6 : decode cX6_forged 6 = .ok (.istore_n 2, 1) := by decide +kernel
theorem dX6_forged_7 : decode cX6_forged 7 = .ok (.iload_n 2, 1) := by decide +kernel
theorem dX6_forged_8 : decode cX6_forged 8 = .ok (.ifCond .ne 18, 3) := by decide +kernel
theorem dX6_forged_11 : decode cX6_forged 11 = .ok (.aload_n 0, 1) := by decide +kernel
theorem dX6_forged_12 : decode cX6_forged 12 = .ok (.getfield 43, 3) := by decide +kernel
theorem dX6_forged_15 : decode cX6_forged 15 = .ok (.iload_n 1, 1) := by decide +kernel
theorem dX6_forged_16 : decode cX6_forged 16 = .ok (.iaload, 1) := by decide +kernel
theorem dX6_forged_17 : decode cX6_forged 17 = .ok (.iconst 2, 1) := by decide +kernel
theorem dX6_forged_18 : decode cX6_forged 18 = .ok (.irem, 1) := by decide +kernel
theorem dX6_forged_19 : decode cX6_forged 19 = .ok (.iconst 1, 1) := by decide +kernel
theorem dX6_forged_20 : decode cX6_forged 20 = .ok (.if_icmp .ne 6, 3) := by decide +kernel
theorem dX6_forged_23 : decode cX6_forged 23 = .ok (.bipush (-13), 2) := by decide +kernel
theorem dX6_forged_25 : decode cX6_forged 25 = .ok (.istore_n 2, 1) := by decide +kernel
theorem dX6_forged_26 : decode cX6_forged 26 = .ok (.iload_n 2, 1) := by decide +kernel
theorem dX6_forged_27 : decode cX6_forged 27 = .ok (.ifCond .eq 5, 3) := by decide +kernel
theorem dX6_forged_30 : decode cX6_forged 30 = .ok (.iload_n 2, 1) := by decide +kernel
theorem dX6_forged_31 : decode cX6_forged 31 = .ok (.ireturn, 1) := by decide +kernel
theorem dX6_forged_32 : decode cX6_forged 32 = .ok (.aload_n 0, 1) := by decide +kernel
theorem dX6_forged_33 : decode cX6_forged 33 = .ok (.getfield 9, 3) := by decide +kernel
theorem dX6_forged_36 : decode cX6_forged 36 = .ok (.aload_n 0, 1) := by decide +kernel
theorem dX6_forged_37 : decode cX6_forged 37 = .ok (.getfield 13, 3) := by decide +kernel
theorem dX6_forged_40 : decode cX6_forged 40 = .ok (.invokestatic 135, 3) := by decide +kernel
theorem dX6_forged_43 : decode cX6_forged 43 = .ok (.iconst 0, 1) := by decide +kernel
theorem dX6_forged_44 : decode cX6_forged 44 = .ok (.istore_n 3, 1) := by decide +kernel
theorem dX6_forged_45 : decode cX6_forged 45 = .ok (.iload_n 3, 1) := by decide +kernel
theorem dX6_forged_46 : decode cX6_forged 46 = .ok (.aload_n 0, 1) := by decide +kernel
theorem dX6_forged_47 : decode cX6_forged 47 = .ok (.getfield 43, 3) := by decide +kernel
theorem dX6_forged_50 : decode cX6_forged 50 = .ok (.iload_n 1, 1) := by decide +kernel
theorem dX6_forged_51 : decode cX6_forged 51 = .ok (.iaload, 1) := by decide +kernel
theorem dX6_forged_52 : decode cX6_forged 52 = .ok (.if_icmp .ge 86, 3) := by decide +kernel
theorem dX6_forged_55 : decode cX6_forged 55 = .ok (.aload_n 0, 1) := by decide +kernel
theorem dX6_forged_56 : decode cX6_forged 56 = .ok (.getfield 46, 3) := by decide +kernel
theorem dX6_forged_59 : decode cX6_forged 59 = .ok (.bipush 100, 2) := by decide +kernel
theorem dX6_forged_61 : decode cX6_forged 61 = .ok (.iload_n 1, 1) := by decide +kernel
theorem dX6_forged_62 : decode cX6_forged 62 = .ok (.imul, 1) := by decide +kernel
theorem dX6_forged_63 : decode cX6_forged 63 = .ok (.iload_n 3, 1) := by decide +kernel
theorem dX6_forged_64 : decode cX6_forged 64 = .ok (.iadd, 1) := by decide +kernel
theorem dX6_forged_65 : decode cX6_forged 65 = .ok (.iaload, 1) := by decide +kernel
theorem dX6_forged_66 : decode cX6_forged 66 = .ok (.istore 4, 2) := by decide +kernel
theorem dX6_forged_68 : decode cX6_forged 68 = .ok (.aload_n 0, 1) := by decide +kernel
theorem dX6_forged_69 : decode cX6_forged 69 = .ok (.getfield 46, 3) := by decide +kernel
theorem dX6_forged_72 : decode cX6_forged 72 = .ok (.bipush 100, 2) := by decide +kernel
theorem dX6_forged_74 : decode cX6_forged 74 = .ok (.iload_n 1, 1) := by decide +kernel
theorem dX6_forged_75 : decode cX6_forged 75 = .ok (.imul, 1) := by decide +kernel
theorem dX6_forged_76 : decode cX6_forged 76 = .ok (.iload_n 3, 1) := by decide +kernel
theorem dX6_forged_77 : decode cX6_forged 77 = .ok (.iadd, 1) := by decide +kernel
theorem dX6_forged_78 : decode cX6_forged 78 = .ok (.iconst 1, 1) := by decide +kernel
theorem dX6_forged_79 : decode cX6_forged 79 = .ok (.iadd, 1) := by decide +kernel
theorem dX6_forged_80 : decode cX6_forged 80 = .ok (.iaload, 1) := by decide +kernel
theorem dX6_forged_81 : decode cX6_forged 81 = .ok (.istore 5, 2) := by decide +kernel
theorem dX6_forged_83 : decode cX6_forged 83 = .ok (.aload_n 0, 1) := by decide +kernel
theorem dX6_forged_84 : decode cX6_forged 84 = .ok (.iload 4, 2) := by decide +kernel
theorem dX6_forged_86 : decode cX6_forged 86 = .ok (.invokevirtual 121, 3) := by decide +kernel
theorem dX6_forged_89 : decode cX6_forged 89 = .ok (.ifCond .eq 26, 3) := by decide +kernel
theorem dX6_forged_92 : decode cX6_forged 92 = .ok (.aload_n 0, 1) := by decide +kernel
theorem dX6_forged_93 : decode cX6_forged 93 = .ok (.iload 5, 2) := by decide +kernel
theorem dX6_forged_95 : decode cX6_forged 95 = .ok (.invokevirtual 121, 3) := by decide +kernel
theorem dX6_forged_98 : decode cX6_forged 98 = .ok (.ifCond .eq 17, 3) := by decide +kernel
theorem dX6_forged_101 : decode cX6_forged 101 = .ok (.aload_n 0, 1) := by decide +kernel
theorem dX6_forged_102 : decode cX6_forged 102 = .ok (.getfield 13, 3) := by decide +kernel
theorem dX6_forged_105 : decode cX6_forged 105 = .ok (.iload 4, 2) := by decide +kernel
theorem dX6_forged_107 : decode cX6_forged 107 = .ok (.iload 5, 2) := by decide +kernel
theorem dX6_forged_109 : decode cX6_forged 109 = .ok (.invokestatic 91, 3) := by decide +kernel
theorem dX6_forged_112 : decode cX6_forged 112 = .ok (.ifCond .ne 7, 3) := by decide +kernel
theorem dX6_forged_115 : decode cX6_forged 115 = .ok (.iload_n 3, 1) := by decide +kernel
theorem dX6_forged_116 : decode cX6_forged 116 = .ok (.iconst 2, 1) := by decide +kernel
theorem dX6_forged_117 : decode cX6_forged 117 = .ok (.idiv, 1) := by decide +kernel
theorem dX6_forged_118 : decode cX6_forged 118 = .ok (.ireturn, 1) := by decide +kernel
theorem dX6_forged_119 : decode cX6_forged 119 = .ok (.aload_n 0, 1) := by decide +kernel
theorem dX6_forged_120 : decode cX6_forged 120 = .ok (.getfield 13, 3) := by decide +kernel
theorem dX6_forged_123 : decode cX6_forged 123 = .ok (.iload 4, 2) := by decide +kernel
theorem dX6_forged_125 : decode cX6_forged 125 = .ok (.iload 5, 2) := by decide +kernel
theorem dX6_forged_127 : decode cX6_forged 127 = .ok (.invokestatic 125, 3) := by decide +kernel
theorem dX6_forged_130 : decode cX6_forged 130 = .ok (.istore 6, 2) := by decide +kernel
theorem dX6_forged_132 : decode cX6_forged 132 = .ok (.iinc 3 2, 3) := by decide +kernel
theorem dX6_forged_135 : decode cX6_forged 135 = .ok (.goto (-90), 3) := by decide +kernel
theorem dX6_forged_138 : decode cX6_forged 138 = .ok (.bipush (-4), 2) := by decide +kernel
theorem dX6_forged_140 : decode cX6_forged 140 = .ok (.ireturn, 1) := by decide +kernel
theorem dX6_leastOf_0 : decode cX6_leastOf 0 = .ok (.iload_n 0, 1) := by decide +kernel
theorem dX6_leastOf_1 : decode cX6_leastOf 1 = .ok (.ifCond .ne 8, 3) := by decide +kernel
theorem dX6_leastOf_4 : decode cX6_leastOf 4 = .ok (.bipush (-128), 2) := by decide +kernel
theorem dX6_leastOf_6 : decode cX6_leastOf 6 = .ok (.goto 16, 3) := by decide +kernel
theorem dX6_leastOf_9 : decode cX6_leastOf 9 = .ok (.iload_n 0, 1) := by decide +kernel
theorem dX6_leastOf_10 : decode cX6_leastOf 10 = .ok (.iconst 1, 1) := by decide +kernel
theorem dX6_leastOf_11 : decode cX6_leastOf 11 = .ok (.if_icmp .ne 9, 3) := by decide +kernel
theorem dX6_leastOf_14 : decode cX6_leastOf 14 = .ok (.sipush (-32768), 3) := by decide +kernel
theorem dX6_leastOf_17 : decode cX6_leastOf 17 = .ok (.goto 5, 3) := by decide +kernel
theorem dX6_leastOf_20 : decode cX6_leastOf 20 = .ok (.ldc 186, 2) := by decide +kernel
theorem dX6_leastOf_22 : decode cX6_leastOf 22 = .ok (.ireturn, 1) := by decide +kernel
theorem dX6_judge_0 : decode cX6_judge 0 = .ok (.aload_n 0, 1) := by decide +kernel
theorem dX6_judge_1 : decode cX6_judge 1 = .ok (.iload_n 1, 1) := by decide +kernel
theorem dX6_judge_2 : decode cX6_judge 2 = .ok (.iconst (-1), 1) := by decide +kernel
theorem dX6_judge_3 : decode cX6_judge 3 = .ok (.invokevirtual 128, 3) := by decide +kernel
theorem dX6_judge_6 : decode cX6_judge 6 = .ok (.istore_n 2, 1) := by decide +kernel
theorem dX6_judge_7 : decode cX6_judge 7 = .ok (.iload_n 2, 1) := by decide +kernel
theorem dX6_judge_8 : decode cX6_judge 8 = .ok (.ifCond .eq 5, 3) := by decide +kernel
theorem dX6_judge_11 : decode cX6_judge 11 = .ok (.iload_n 2, 1) := by decide +kernel
theorem dX6_judge_12 : decode cX6_judge 12 = .ok (.ireturn, 1) := by decide +kernel
theorem dX6_judge_13 : decode cX6_judge 13 = .ok (.aload_n 0, 1) := by decide +kernel
theorem dX6_judge_14 : decode cX6_judge 14 = .ok (.getfield 9, 3) := by decide +kernel
theorem dX6_judge_17 : decode cX6_judge 17 = .ok (.aload_n 0, 1) := by decide +kernel
theorem dX6_judge_18 : decode cX6_judge 18 = .ok (.getfield 13, 3) := by decide +kernel
theorem dX6_judge_21 : decode cX6_judge 21 = .ok (.invokestatic 135, 3) := by decide +kernel
theorem dX6_judge_24 : decode cX6_judge 24 = .ok (.iconst 0, 1) := by decide +kernel
theorem dX6_judge_25 : decode cX6_judge 25 = .ok (.istore_n 3, 1) := by decide +kernel
theorem dX6_judge_26 : decode cX6_judge 26 = .ok (.iload_n 3, 1) := by decide +kernel
theorem dX6_judge_27 : decode cX6_judge 27 = .ok (.aload_n 0, 1) := by decide +kernel
theorem dX6_judge_28 : decode cX6_judge 28 = .ok (.getfield 43, 3) := by decide +kernel
theorem dX6_judge_31 : decode cX6_judge 31 = .ok (.iload_n 1, 1) := by decide +kernel
theorem dX6_judge_32 : decode cX6_judge 32 = .ok (.iaload, 1) := by decide +kernel
theorem dX6_judge_33 : decode cX6_judge 33 = .ok (.if_icmp .ge 87, 3) := by decide +kernel
theorem dX6_judge_36 : decode cX6_judge 36 = .ok (.aload_n 0, 1) := by decide +kernel
theorem dX6_judge_37 : decode cX6_judge 37 = .ok (.getfield 13, 3) := by decide +kernel
theorem dX6_judge_40 : decode cX6_judge 40 = .ok (.invokestatic 95, 3) := by decide +kernel
theorem dX6_judge_43 : decode cX6_judge 43 = .ok (.istore 4, 2) := by decide +kernel
theorem dX6_judge_45 : decode cX6_judge 45 = .ok (.aload_n 0, 1) := by decide +kernel
theorem dX6_judge_46 : decode cX6_judge 46 = .ok (.getfield 46, 3) := by decide +kernel
theorem dX6_judge_49 : decode cX6_judge 49 = .ok (.bipush 100, 2) := by decide +kernel
theorem dX6_judge_51 : decode cX6_judge 51 = .ok (.iload_n 1, 1) := by decide +kernel
theorem dX6_judge_52 : decode cX6_judge 52 = .ok (.imul, 1) := by decide +kernel
theorem dX6_judge_53 : decode cX6_judge 53 = .ok (.iload_n 3, 1) := by decide +kernel
theorem dX6_judge_54 : decode cX6_judge 54 = .ok (.iadd, 1) := by decide +kernel
theorem dX6_judge_55 : decode cX6_judge 55 = .ok (.iaload, 1) := by decide +kernel
theorem dX6_judge_56 : decode cX6_judge 56 = .ok (.istore 5, 2) := by decide +kernel
theorem dX6_judge_58 : decode cX6_judge 58 = .ok (.iload 4, 2) := by decide +kernel
theorem dX6_judge_60 : decode cX6_judge 60 = .ok (.ifCond .ge 7, 3) := by decide +kernel
theorem dX6_judge_63 : decode cX6_judge 63 = .ok (.iconst 0, 1) := by decide +kernel
theorem dX6_judge_64 : decode cX6_judge 64 = .ok (.goto 20, 3) := by decide +kernel
theorem dX6_judge_67 : decode cX6_judge 67 = .ok (.aload_n 0, 1) := by decide +kernel
theorem dX6_judge_68 : decode cX6_judge 68 = .ok (.getfield 13, 3) := by decide +kernel
theorem dX6_judge_71 : decode cX6_judge 71 = .ok (.iload 4, 2) := by decide +kernel
theorem dX6_judge_73 : decode cX6_judge 73 = .ok (.bipush 10, 2) := by decide +kernel
theorem dX6_judge_75 : decode cX6_judge 75 = .ok (.idiv, 1) := by decide +kernel
theorem dX6_judge_76 : decode cX6_judge 76 = .ok (.iload 4, 2) := by decide +kernel
theorem dX6_judge_78 : decode cX6_judge 78 = .ok (.bipush 10, 2) := by decide +kernel
theorem dX6_judge_80 : decode cX6_judge 80 = .ok (.irem, 1) := by decide +kernel
theorem dX6_judge_81 : decode cX6_judge 81 = .ok (.invokestatic 125, 3) := by decide +kernel
theorem dX6_judge_84 : decode cX6_judge 84 = .ok (.istore 6, 2) := by decide +kernel
theorem dX6_judge_86 : decode cX6_judge 86 = .ok (.iload 5, 2) := by decide +kernel
theorem dX6_judge_88 : decode cX6_judge 88 = .ok (.aload_n 0, 1) := by decide +kernel
theorem dX6_judge_89 : decode cX6_judge 89 = .ok (.getfield 40, 3) := by decide +kernel
theorem dX6_judge_92 : decode cX6_judge 92 = .ok (.iload_n 1, 1) := by decide +kernel
theorem dX6_judge_93 : decode cX6_judge 93 = .ok (.iaload, 1) := by decide +kernel
theorem dX6_judge_94 : decode cX6_judge 94 = .ok (.invokestatic 187, 3) := by decide +kernel
theorem dX6_judge_97 : decode cX6_judge 97 = .ok (.if_icmp .eq 17, 3) := by decide +kernel
theorem dX6_judge_100 : decode cX6_judge 100 = .ok (.iload 4, 2) := by decide +kernel
theorem dX6_judge_102 : decode cX6_judge 102 = .ok (.ifCond .lt 10, 3) := by decide +kernel
theorem dX6_judge_105 : decode cX6_judge 105 = .ok (.iload 5, 2) := by decide +kernel
theorem dX6_judge_107 : decode cX6_judge 107 = .ok (.iload 6, 2) := by decide +kernel
theorem dX6_judge_109 : decode cX6_judge 109 = .ok (.if_icmp .eq 5, 3) := by decide +kernel
theorem dX6_judge_112 : decode cX6_judge 112 = .ok (.iload_n 3, 1) := by decide +kernel
theorem dX6_judge_113 : decode cX6_judge 113 = .ok (.ireturn, 1) := by decide +kernel
theorem dX6_judge_114 : decode cX6_judge 114 = .ok (.iinc 3 1, 3) := by decide +kernel
theorem dX6_judge_117 : decode cX6_judge 117 = .ok (.goto (-91), 3) := by decide +kernel
theorem dX6_judge_120 : decode cX6_judge 120 = .ok (.bipush (-4), 2) := by decide +kernel
theorem dX6_judge_122 : decode cX6_judge 122 = .ok (.ireturn, 1) := by decide +kernel
theorem dX6_drawn_0 : decode cX6_drawn 0 = .ok (.aload_n 0, 1) := by decide +kernel
theorem dX6_drawn_1 : decode cX6_drawn 1 = .ok (.aload_n 0, 1) := by decide +kernel
theorem dX6_drawn_2 : decode cX6_drawn 2 = .ok (.getfield 190, 3) := by decide +kernel
theorem dX6_drawn_5 : decode cX6_drawn 5 = .ok (.ldc 193, 2) := by decide +kernel
theorem dX6_drawn_7 : decode cX6_drawn 7 = .ok (.imul, 1) := by decide +kernel
theorem dX6_drawn_8 : decode cX6_drawn 8 = .ok (.sipush 12345, 3) := by decide +kernel
theorem dX6_drawn_11 : decode cX6_drawn 11 = .ok (.iadd, 1) := by decide +kernel
theorem dX6_drawn_12 : decode cX6_drawn 12 = .ok (.putfield 190, 3) := by decide +kernel
theorem dX6_drawn_15 : decode cX6_drawn 15 = .ok (.aload_n 0, 1) := by decide +kernel
theorem dX6_drawn_16 : decode cX6_drawn 16 = .ok (.getfield 190, 3) := by decide +kernel
theorem dX6_drawn_19 : decode cX6_drawn 19 = .ok (.ldc 194, 2) := by decide +kernel
theorem dX6_drawn_21 : decode cX6_drawn 21 = .ok (.iand, 1) := by decide +kernel
theorem dX6_drawn_22 : decode cX6_drawn 22 = .ok (.ldc 195, 2) := by decide +kernel
theorem dX6_drawn_24 : decode cX6_drawn 24 = .ok (.idiv, 1) := by decide +kernel
theorem dX6_drawn_25 : decode cX6_drawn 25 = .ok (.iload_n 1, 1) := by decide +kernel
theorem dX6_drawn_26 : decode cX6_drawn 26 = .ok (.irem, 1) := by decide +kernel
theorem dX6_drawn_27 : decode cX6_drawn 27 = .ok (.ireturn, 1) := by decide +kernel
theorem dX6_fetes_0 : decode cX6_fetes 0 = .ok (.iload_n 1, 1) := by decide +kernel
theorem dX6_fetes_1 : decode cX6_fetes 1 = .ok (.iconst 1, 1) := by decide +kernel
theorem dX6_fetes_2 : decode cX6_fetes 2 = .ok (.bipush 20, 2) := by decide +kernel
theorem dX6_fetes_4 : decode cX6_fetes 4 = .ok (.invokestatic 49, 3) := by decide +kernel
theorem dX6_fetes_7 : decode cX6_fetes 7 = .ok (.ifCond .eq 12, 3) := by decide +kernel
theorem dX6_fetes_10 : decode cX6_fetes 10 = .ok (.iload_n 3, 1) := by decide +kernel
theorem dX6_fetes_11 : decode cX6_fetes 11 = .ok (.iconst 0, 1) := by decide +kernel
theorem dX6_fetes_12 : decode cX6_fetes 12 = .ok (.iconst 1, 1) := by decide +kernel
theorem dX6_fetes_13 : decode cX6_fetes 13 = .ok (.invokestatic 49, 3) := by decide +kernel
theorem dX6_fetes_16 : decode cX6_fetes 16 = .ok (.ifCond .ne 5, 3) := by decide +kernel
theorem dX6_fetes_19 : decode cX6_fetes 19 = .ok (.iconst (-1), 1) := by decide +kernel
theorem dX6_fetes_20 : decode cX6_fetes 20 = .ok (.ireturn, 1) := by decide +kernel
theorem dX6_fetes_21 : decode cX6_fetes 21 = .ok (.aload_n 0, 1) := by decide +kernel
theorem dX6_fetes_22 : decode cX6_fetes 22 = .ok (.getfield 9, 3) := by decide +kernel
theorem dX6_fetes_25 : decode cX6_fetes 25 = .ok (.iconst 0, 1) := by decide +kernel
theorem dX6_fetes_26 : decode cX6_fetes 26 = .ok (.iaload, 1) := by decide +kernel
theorem dX6_fetes_27 : decode cX6_fetes 27 = .ok (.ifCond .ne 6, 3) := by decide +kernel
theorem dX6_fetes_30 : decode cX6_fetes 30 = .ok (.bipush (-3), 2) := by decide +kernel
theorem dX6_fetes_32 : decode cX6_fetes 32 = .ok (.ireturn, 1) := by decide +kernel
theorem dX6_fetes_33 : decode cX6_fetes 33 = .ok (.aload_n 0, 1) := by decide +kernel
theorem dX6_fetes_34 : decode cX6_fetes 34 = .ok (.iload_n 2, 1) := by decide +kernel
theorem dX6_fetes_35 : decode cX6_fetes 35 = .ok (.putfield 190, 3) := by decide +kernel
theorem dX6_fetes_38 : decode cX6_fetes 38 = .ok (.iconst 0, 1) := by decide +kernel
theorem dX6_fetes_39 : decode cX6_fetes 39 = .ok (.istore 4, 2) := by decide +kernel
theorem dX6_fetes_41 : decode cX6_fetes 41 = .ok (.iconst 0, 1) := by decide +kernel
theorem dX6_fetes_42 : decode cX6_fetes 42 = .ok (.istore 5, 2) := by decide +kernel
theorem dX6_fetes_44 : decode cX6_fetes 44 = .ok (.iconst 0, 1) := by decide +kernel
theorem dX6_fetes_45 : decode cX6_fetes 45 = .ok (.istore 6, 2) := by decide +kernel
theorem dX6_fetes_47 : decode cX6_fetes 47 = .ok (.iload 6, 2) := by decide +kernel
theorem dX6_fetes_49 : decode cX6_fetes 49 = .ok (.iload_n 1, 1) := by decide +kernel
theorem dX6_fetes_50 : decode cX6_fetes 50 = .ok (.if_icmp .ge 96, 3) := by decide +kernel
theorem dX6_fetes_53 : decode cX6_fetes 53 = .ok (.aload_n 0, 1) := by decide +kernel
theorem dX6_fetes_54 : decode cX6_fetes 54 = .ok (.getfield 9, 3) := by decide +kernel
theorem dX6_fetes_57 : decode cX6_fetes 57 = .ok (.aload_n 0, 1) := by decide +kernel
theorem dX6_fetes_58 : decode cX6_fetes 58 = .ok (.getfield 13, 3) := by decide +kernel
theorem dX6_fetes_61 : decode cX6_fetes 61 = .ok (.invokestatic 135, 3) := by decide +kernel
theorem dX6_fetes_64 : decode cX6_fetes 64 = .ok (.iconst 0, 1) := by decide +kernel
theorem dX6_fetes_65 : decode cX6_fetes 65 = .ok (.istore 7, 2) := by decide +kernel
theorem dX6_fetes_67 : decode cX6_fetes 67 = .ok (.iload 7, 2) := by decide +kernel
theorem dX6_fetes_69 : decode cX6_fetes 69 = .ok (.bipush 10, 2) := by decide +kernel
theorem dX6_fetes_71 : decode cX6_fetes 71 = .ok (.if_icmp .ge 69, 3) := by decide +kernel
theorem dX6_fetes_74 : decode cX6_fetes 74 = .ok (.aload_n 0, 1) := by decide +kernel
theorem dX6_fetes_75 : decode cX6_fetes 75 = .ok (.aload_n 0, 1) := by decide +kernel
theorem dX6_fetes_76 : decode cX6_fetes 76 = .ok (.getfield 9, 3) := by decide +kernel
theorem dX6_fetes_79 : decode cX6_fetes 79 = .ok (.iconst 0, 1) := by decide +kernel
theorem dX6_fetes_80 : decode cX6_fetes 80 = .ok (.iaload, 1) := by decide +kernel
theorem dX6_fetes_81 : decode cX6_fetes 81 = .ok (.invokevirtual 196, 3) := by decide +kernel
theorem dX6_fetes_84 : decode cX6_fetes 84 = .ok (.istore 8, 2) := by decide +kernel
theorem dX6_fetes_86 : decode cX6_fetes 86 = .ok (.aload_n 0, 1) := by decide +kernel
theorem dX6_fetes_87 : decode cX6_fetes 87 = .ok (.aload_n 0, 1) := by decide +kernel
theorem dX6_fetes_88 : decode cX6_fetes 88 = .ok (.getfield 9, 3) := by decide +kernel
theorem dX6_fetes_91 : decode cX6_fetes 91 = .ok (.iconst 0, 1) := by decide +kernel
theorem dX6_fetes_92 : decode cX6_fetes 92 = .ok (.iaload, 1) := by decide +kernel
theorem dX6_fetes_93 : decode cX6_fetes 93 = .ok (.invokevirtual 196, 3) := by decide +kernel
theorem dX6_fetes_96 : decode cX6_fetes 96 = .ok (.istore 9, 2) := by decide +kernel
theorem dX6_fetes_98 : decode cX6_fetes 98 = .ok (.aload_n 0, 1) := by decide +kernel
theorem dX6_fetes_99 : decode cX6_fetes 99 = .ok (.getfield 13, 3) := by decide +kernel
theorem dX6_fetes_102 : decode cX6_fetes 102 = .ok (.iload 8, 2) := by decide +kernel
theorem dX6_fetes_104 : decode cX6_fetes 104 = .ok (.iload 9, 2) := by decide +kernel
theorem dX6_fetes_106 : decode cX6_fetes 106 = .ok (.invokestatic 91, 3) := by decide +kernel
theorem dX6_fetes_109 : decode cX6_fetes 109 = .ok (.ifCond .ne 6, 3) := by decide +kernel
theorem dX6_fetes_112 : decode cX6_fetes 112 = .ok (.goto 22, 3) := by decide +kernel
theorem dX6_fetes_115 : decode cX6_fetes 115 = .ok (.iload 4, 2) := by decide +kernel
theorem dX6_fetes_117 : decode cX6_fetes 117 = .ok (.aload_n 0, 1) := by decide +kernel
theorem dX6_fetes_118 : decode cX6_fetes 118 = .ok (.getfield 13, 3) := by decide +kernel
theorem dX6_fetes_121 : decode cX6_fetes 121 = .ok (.iload 8, 2) := by decide +kernel
theorem dX6_fetes_123 : decode cX6_fetes 123 = .ok (.iload 9, 2) := by decide +kernel
theorem dX6_fetes_125 : decode cX6_fetes 125 = .ok (.invokestatic 125, 3) := by decide +kernel
theorem dX6_fetes_128 : decode cX6_fetes 128 = .ok (.iadd, 1) := by decide +kernel
theorem dX6_fetes_129 : decode cX6_fetes 129 = .ok (.istore 4, 2) := by decide +kernel
theorem dX6_fetes_131 : decode cX6_fetes 131 = .ok (.iinc 5 1, 3) := by decide +kernel
theorem dX6_fetes_134 : decode cX6_fetes 134 = .ok (.iinc 7 1, 3) := by decide +kernel
theorem dX6_fetes_137 : decode cX6_fetes 137 = .ok (.goto (-70), 3) := by decide +kernel
theorem dX6_fetes_140 : decode cX6_fetes 140 = .ok (.iinc 6 1, 3) := by decide +kernel
theorem dX6_fetes_143 : decode cX6_fetes 143 = .ok (.goto (-96), 3) := by decide +kernel
theorem dX6_fetes_146 : decode cX6_fetes 146 = .ok (.iload_n 3, 1) := by decide +kernel
theorem dX6_fetes_147 : decode cX6_fetes 147 = .ok (.ifCond .ne 8, 3) := by decide +kernel
theorem dX6_fetes_150 : decode cX6_fetes 150 = .ok (.iload 4, 2) := by decide +kernel
theorem dX6_fetes_152 : decode cX6_fetes 152 = .ok (.goto 5, 3) := by decide +kernel
theorem dX6_fetes_155 : decode cX6_fetes 155 = .ok (.iload 5, 2) := by decide +kernel
theorem dX6_fetes_157 : decode cX6_fetes 157 = .ok (.ireturn, 1) := by decide +kernel
theorem dX6_image_0 : decode cX6_image 0 = .ok (.aload_n 0, 1) := by decide +kernel
theorem dX6_image_1 : decode cX6_image 1 = .ok (.getfield 9, 3) := by decide +kernel
theorem dX6_image_4 : decode cX6_image 4 = .ok (.aload_n 0, 1) := by decide +kernel
theorem dX6_image_5 : decode cX6_image 5 = .ok (.getfield 16, 3) := by decide +kernel
theorem dX6_image_8 : decode cX6_image 8 = .ok (.invokestatic 135, 3) := by decide +kernel
theorem dX6_image_11 : decode cX6_image 11 = .ok (.aload_n 0, 1) := by decide +kernel
theorem dX6_image_12 : decode cX6_image 12 = .ok (.iconst 1, 1) := by decide +kernel
theorem dX6_image_13 : decode cX6_image 13 = .ok (.putfield 199, 3) := by decide +kernel
theorem dX6_image_16 : decode cX6_image 16 = .ok (.aload_n 0, 1) := by decide +kernel
theorem dX6_image_17 : decode cX6_image 17 = .ok (.getfield 9, 3) := by decide +kernel
theorem dX6_image_20 : decode cX6_image 20 = .ok (.iconst 2, 1) := by decide +kernel
theorem dX6_image_21 : decode cX6_image 21 = .ok (.iaload, 1) := by decide +kernel
theorem dX6_image_22 : decode cX6_image 22 = .ok (.ireturn, 1) := by decide +kernel
theorem dX6_restore_0 : decode cX6_restore 0 = .ok (.aload_n 0, 1) := by decide +kernel
theorem dX6_restore_1 : decode cX6_restore 1 = .ok (.getfield 199, 3) := by decide +kernel
theorem dX6_restore_4 : decode cX6_restore 4 = .ok (.ifCond .ne 6, 3) := by decide +kernel
theorem dX6_restore_7 : decode cX6_restore 7 = .ok (.bipush (-3), 2) := by decide +kernel
theorem dX6_restore_9 : decode cX6_restore 9 = .ok (.ireturn, 1) := by decide +kernel
theorem dX6_restore_10 : decode cX6_restore 10 = .ok (.aload_n 0, 1) := by decide +kernel
theorem dX6_restore_11 : decode cX6_restore 11 = .ok (.getfield 16, 3) := by decide +kernel
theorem dX6_restore_14 : decode cX6_restore 14 = .ok (.aload_n 0, 1) := by decide +kernel
theorem dX6_restore_15 : decode cX6_restore 15 = .ok (.getfield 9, 3) := by decide +kernel
theorem dX6_restore_18 : decode cX6_restore 18 = .ok (.invokestatic 135, 3) := by decide +kernel
theorem dX6_restore_21 : decode cX6_restore 21 = .ok (.aload_n 0, 1) := by decide +kernel
theorem dX6_restore_22 : decode cX6_restore 22 = .ok (.getfield 9, 3) := by decide +kernel
theorem dX6_restore_25 : decode cX6_restore 25 = .ok (.iconst 2, 1) := by decide +kernel
theorem dX6_restore_26 : decode cX6_restore 26 = .ok (.iaload, 1) := by decide +kernel
theorem dX6_restore_27 : decode cX6_restore 27 = .ok (.ireturn, 1) := by decide +kernel
theorem dX6_count_0 : decode cX6_count 0 = .ok (.iload_n 1, 1) := by decide +kernel
theorem dX6_count_1 : decode cX6_count 1 = .ok (.iconst 0, 1) := by decide +kernel
theorem dX6_count_2 : decode cX6_count 2 = .ok (.iconst 2, 1) := by decide +kernel
theorem dX6_count_3 : decode cX6_count 3 = .ok (.invokestatic 49, 3) := by decide +kernel
theorem dX6_count_6 : decode cX6_count 6 = .ok (.ifCond .eq 10, 3) := by decide +kernel
theorem dX6_count_9 : decode cX6_count 9 = .ok (.aload_n 0, 1) := by decide +kernel
theorem dX6_count_10 : decode cX6_count 10 = .ok (.getfield 9, 3) := by decide +kernel
theorem dX6_count_13 : decode cX6_count 13 = .ok (.iload_n 1, 1) := by decide +kernel
theorem dX6_count_14 : decode cX6_count 14 = .ok (.iaload, 1) := by decide +kernel
theorem dX6_count_15 : decode cX6_count 15 = .ok (.ireturn, 1) := by decide +kernel
theorem dX6_count_16 : decode cX6_count 16 = .ok (.iload_n 1, 1) := by decide +kernel
theorem dX6_count_17 : decode cX6_count 17 = .ok (.iconst 3, 1) := by decide +kernel
theorem dX6_count_18 : decode cX6_count 18 = .ok (.bipush 6, 2) := by decide +kernel
theorem dX6_count_20 : decode cX6_count 20 = .ok (.invokestatic 49, 3) := by decide +kernel
theorem dX6_count_23 : decode cX6_count 23 = .ok (.ifCond .ne 5, 3) := by decide +kernel
theorem dX6_count_26 : decode cX6_count 26 = .ok (.iconst (-1), 1) := by decide +kernel
theorem dX6_count_27 : decode cX6_count 27 = .ok (.ireturn, 1) := by decide +kernel
theorem dX6_count_28 : decode cX6_count 28 = .ok (.iconst 0, 1) := by decide +kernel
theorem dX6_count_29 : decode cX6_count 29 = .ok (.istore_n 2, 1) := by decide +kernel
theorem dX6_count_30 : decode cX6_count 30 = .ok (.iconst 0, 1) := by decide +kernel
theorem dX6_count_31 : decode cX6_count 31 = .ok (.istore_n 3, 1) := by decide +kernel
theorem dX6_count_32 : decode cX6_count 32 = .ok (.iload_n 3, 1) := by decide +kernel
theorem dX6_count_33 : decode cX6_count 33 = .ok (.aload_n 0, 1) := by decide +kernel
theorem dX6_count_34 : decode cX6_count 34 = .ok (.getfield 9, 3) := by decide +kernel
theorem dX6_count_37 : decode cX6_count 37 = .ok (.iconst 0, 1) := by decide +kernel
theorem dX6_count_38 : decode cX6_count 38 = .ok (.iaload, 1) := by decide +kernel
theorem dX6_count_39 : decode cX6_count 39 = .ok (.if_icmp .ge 86, 3) := by decide +kernel
theorem dX6_count_42 : decode cX6_count 42 = .ok (.iload_n 2, 1) := by decide +kernel
theorem dX6_count_43 : decode cX6_count 43 = .ok (.iload_n 1, 1) := by decide +kernel
theorem dX6_count_44 : decode cX6_count 44 = .ok (.iconst 3, 1) := by decide +kernel
theorem dX6_count_45 : decode cX6_count 45 = .ok (.if_icmp .ne 16, 3) := by decide +kernel
theorem dX6_count_48 : decode cX6_count 48 = .ok (.aload_n 0, 1) := by decide +kernel
theorem dX6_count_49 : decode cX6_count 49 = .ok (.getfield 9, 3) := by decide +kernel
theorem dX6_count_52 : decode cX6_count 52 = .ok (.iload_n 3, 1) := by decide +kernel
theorem dX6_count_53 : decode cX6_count 53 = .ok (.iconst 2, 1) := by decide +kernel
theorem dX6_count_54 : decode cX6_count 54 = .ok (.invokestatic 53, 3) := by decide +kernel
theorem dX6_count_57 : decode cX6_count 57 = .ok (.iaload, 1) := by decide +kernel
theorem dX6_count_58 : decode cX6_count 58 = .ok (.goto 59, 3) := by decide +kernel
theorem dX6_count_61 : decode cX6_count 61 = .ok (.iload_n 1, 1) := by decide +kernel
theorem dX6_count_62 : decode cX6_count 62 = .ok (.iconst 4, 1) := by decide +kernel
theorem dX6_count_63 : decode cX6_count 63 = .ok (.if_icmp .ne 16, 3) := by decide +kernel
theorem dX6_count_66 : decode cX6_count 66 = .ok (.aload_n 0, 1) := by decide +kernel
theorem dX6_count_67 : decode cX6_count 67 = .ok (.getfield 9, 3) := by decide +kernel
theorem dX6_count_70 : decode cX6_count 70 = .ok (.iload_n 3, 1) := by decide +kernel
theorem dX6_count_71 : decode cX6_count 71 = .ok (.iconst 3, 1) := by decide +kernel
theorem dX6_count_72 : decode cX6_count 72 = .ok (.invokestatic 53, 3) := by decide +kernel
theorem dX6_count_75 : decode cX6_count 75 = .ok (.iaload, 1) := by decide +kernel
theorem dX6_count_76 : decode cX6_count 76 = .ok (.goto 41, 3) := by decide +kernel
theorem dX6_count_79 : decode cX6_count 79 = .ok (.iload_n 1, 1) := by decide +kernel
theorem dX6_count_80 : decode cX6_count 80 = .ok (.iconst 5, 1) := by decide +kernel
theorem dX6_count_81 : decode cX6_count 81 = .ok (.if_icmp .ne 16, 3) := by decide +kernel
theorem dX6_count_84 : decode cX6_count 84 = .ok (.aload_n 0, 1) := by decide +kernel
theorem dX6_count_85 : decode cX6_count 85 = .ok (.getfield 9, 3) := by decide +kernel
theorem dX6_count_88 : decode cX6_count 88 = .ok (.iload_n 3, 1) := by decide +kernel
theorem dX6_count_89 : decode cX6_count 89 = .ok (.iconst 4, 1) := by decide +kernel
theorem dX6_count_90 : decode cX6_count 90 = .ok (.invokestatic 53, 3) := by decide +kernel
theorem dX6_count_93 : decode cX6_count 93 = .ok (.iaload, 1) := by decide +kernel
theorem dX6_count_94 : decode cX6_count 94 = .ok (.goto 23, 3) := by decide +kernel
theorem dX6_count_97 : decode cX6_count 97 = .ok (.aload_n 0, 1) := by decide +kernel
theorem dX6_count_98 : decode cX6_count 98 = .ok (.getfield 9, 3) := by decide +kernel
theorem dX6_count_101 : decode cX6_count 101 = .ok (.iload_n 3, 1) := by decide +kernel
theorem dX6_count_102 : decode cX6_count 102 = .ok (.iconst 4, 1) := by decide +kernel
theorem dX6_count_103 : decode cX6_count 103 = .ok (.invokestatic 53, 3) := by decide +kernel
theorem dX6_count_106 : decode cX6_count 106 = .ok (.iaload, 1) := by decide +kernel
theorem dX6_count_107 : decode cX6_count 107 = .ok (.ifCond .ne 9, 3) := by decide +kernel
theorem dX6_count_110 : decode cX6_count 110 = .ok (.iconst 1, 1) := by decide +kernel
theorem dX6_count_111 : decode cX6_count 111 = .ok (.iload_n 3, 1) := by decide +kernel
theorem dX6_count_112 : decode cX6_count 112 = .ok (.ishl, 1) := by decide +kernel
theorem dX6_count_113 : decode cX6_count 113 = .ok (.goto 4, 3) := by decide +kernel
theorem dX6_count_116 : decode cX6_count 116 = .ok (.iconst 0, 1) := by decide +kernel
theorem dX6_count_117 : decode cX6_count 117 = .ok (.iadd, 1) := by decide +kernel
theorem dX6_count_118 : decode cX6_count 118 = .ok (.istore_n 2, 1) := by decide +kernel
theorem dX6_count_119 : decode cX6_count 119 = .ok (.iinc 3 1, 3) := by decide +kernel
theorem dX6_count_122 : decode cX6_count 122 = .ok (.goto (-90), 3) := by decide +kernel
theorem dX6_count_125 : decode cX6_count 125 = .ok (.iload_n 2, 1) := by decide +kernel
theorem dX6_count_126 : decode cX6_count 126 = .ok (.ireturn, 1) := by decide +kernel
theorem dX6_thrown_0 : decode cX6_thrown 0 = .ok (.aload_n 0, 1) := by decide +kernel
theorem dX6_thrown_1 : decode cX6_thrown 1 = .ok (.getfield 203, 3) := by decide +kernel
theorem dX6_thrown_4 : decode cX6_thrown 4 = .ok (.ireturn, 1) := by decide +kernel
theorem dX6_isShelf_0 : decode cX6_isShelf 0 = .ok (.iload_n 0, 1) := by decide +kernel
theorem dX6_isShelf_1 : decode cX6_isShelf 1 = .ok (.iconst 0, 1) := by decide +kernel
theorem dX6_isShelf_2 : decode cX6_isShelf 2 = .ok (.bipush 7, 2) := by decide +kernel
theorem dX6_isShelf_4 : decode cX6_isShelf 4 = .ok (.invokestatic 49, 3) := by decide +kernel
theorem dX6_isShelf_7 : decode cX6_isShelf 7 = .ok (.ireturn, 1) := by decide +kernel
theorem dX6_wrongRow_0 : decode cX6_wrongRow 0 = .ok (.iload_n 1, 1) := by decide +kernel
theorem dX6_wrongRow_1 : decode cX6_wrongRow 1 = .ok (.invokestatic 206, 3) := by decide +kernel
theorem dX6_wrongRow_4 : decode cX6_wrongRow 4 = .ok (.ifCond .ne 7, 3) := by decide +kernel
theorem dX6_wrongRow_7 : decode cX6_wrongRow 7 = .ok (.iconst (-1), 1) := by decide +kernel
theorem dX6_wrongRow_8 : decode cX6_wrongRow 8 = .ok (.goto 47, 3) := by decide +kernel
theorem dX6_wrongRow_11 : decode cX6_wrongRow 11 = .ok (.aload_n 0, 1) := by decide +kernel
theorem dX6_wrongRow_12 : decode cX6_wrongRow 12 = .ok (.getfield 31, 3) := by decide +kernel
theorem dX6_wrongRow_15 : decode cX6_wrongRow 15 = .ok (.iload_n 1, 1) := by decide +kernel
theorem dX6_wrongRow_16 : decode cX6_wrongRow 16 = .ok (.iaload, 1) := by decide +kernel
theorem dX6_wrongRow_17 : decode cX6_wrongRow 17 = .ok (.ifCond .ne 8, 3) := by decide +kernel
theorem dX6_wrongRow_20 : decode cX6_wrongRow 20 = .ok (.bipush (-11), 2) := by decide +kernel
theorem dX6_wrongRow_22 : decode cX6_wrongRow 22 = .ok (.goto 33, 3) := by decide +kernel
theorem dX6_wrongRow_25 : decode cX6_wrongRow 25 = .ok (.aload_n 0, 1) := by decide +kernel
theorem dX6_wrongRow_26 : decode cX6_wrongRow 26 = .ok (.getfield 31, 3) := by decide +kernel
theorem dX6_wrongRow_29 : decode cX6_wrongRow 29 = .ok (.iload_n 1, 1) := by decide +kernel
theorem dX6_wrongRow_30 : decode cX6_wrongRow 30 = .ok (.iaload, 1) := by decide +kernel
theorem dX6_wrongRow_31 : decode cX6_wrongRow 31 = .ok (.iconst 2, 1) := by decide +kernel
theorem dX6_wrongRow_32 : decode cX6_wrongRow 32 = .ok (.if_icmp .ne 17, 3) := by decide +kernel
theorem dX6_wrongRow_35 : decode cX6_wrongRow 35 = .ok (.iload_n 2, 1) := by decide +kernel
theorem dX6_wrongRow_36 : decode cX6_wrongRow 36 = .ok (.ifCond .lt 18, 3) := by decide +kernel
theorem dX6_wrongRow_39 : decode cX6_wrongRow 39 = .ok (.aload_n 0, 1) := by decide +kernel
theorem dX6_wrongRow_40 : decode cX6_wrongRow 40 = .ok (.getfield 40, 3) := by decide +kernel
theorem dX6_wrongRow_43 : decode cX6_wrongRow 43 = .ok (.iload_n 1, 1) := by decide +kernel
theorem dX6_wrongRow_44 : decode cX6_wrongRow 44 = .ok (.iaload, 1) := by decide +kernel
theorem dX6_wrongRow_45 : decode cX6_wrongRow 45 = .ok (.iload_n 2, 1) := by decide +kernel
theorem dX6_wrongRow_46 : decode cX6_wrongRow 46 = .ok (.if_icmp .eq 8, 3) := by decide +kernel
theorem dX6_wrongRow_49 : decode cX6_wrongRow 49 = .ok (.bipush (-12), 2) := by decide +kernel
theorem dX6_wrongRow_51 : decode cX6_wrongRow 51 = .ok (.goto 4, 3) := by decide +kernel
theorem dX6_wrongRow_54 : decode cX6_wrongRow 54 = .ok (.iconst 0, 1) := by decide +kernel
theorem dX6_wrongRow_55 : decode cX6_wrongRow 55 = .ok (.ireturn, 1) := by decide +kernel
theorem dX6_wrongKept_0 : decode cX6_wrongKept 0 = .ok (.iload_n 1, 1) := by decide +kernel
theorem dX6_wrongKept_1 : decode cX6_wrongKept 1 = .ok (.invokestatic 206, 3) := by decide +kernel
theorem dX6_wrongKept_4 : decode cX6_wrongKept 4 = .ok (.ifCond .ne 7, 3) := by decide +kernel
theorem dX6_wrongKept_7 : decode cX6_wrongKept 7 = .ok (.iconst (-1), 1) := by decide +kernel
theorem dX6_wrongKept_8 : decode cX6_wrongKept 8 = .ok (.goto 33, 3) := by decide +kernel
theorem dX6_wrongKept_11 : decode cX6_wrongKept 11 = .ok (.aload_n 0, 1) := by decide +kernel
theorem dX6_wrongKept_12 : decode cX6_wrongKept 12 = .ok (.getfield 31, 3) := by decide +kernel
theorem dX6_wrongKept_15 : decode cX6_wrongKept 15 = .ok (.iload_n 1, 1) := by decide +kernel
theorem dX6_wrongKept_16 : decode cX6_wrongKept 16 = .ok (.iaload, 1) := by decide +kernel
theorem dX6_wrongKept_17 : decode cX6_wrongKept 17 = .ok (.ifCond .ne 8, 3) := by decide +kernel
theorem dX6_wrongKept_20 : decode cX6_wrongKept 20 = .ok (.bipush (-11), 2) := by decide +kernel
theorem dX6_wrongKept_22 : decode cX6_wrongKept 22 = .ok (.goto 19, 3) := by decide +kernel
theorem dX6_wrongKept_25 : decode cX6_wrongKept 25 = .ok (.aload_n 0, 1) := by decide +kernel
theorem dX6_wrongKept_26 : decode cX6_wrongKept 26 = .ok (.getfield 31, 3) := by decide +kernel
theorem dX6_wrongKept_29 : decode cX6_wrongKept 29 = .ok (.iload_n 1, 1) := by decide +kernel
theorem dX6_wrongKept_30 : decode cX6_wrongKept 30 = .ok (.iaload, 1) := by decide +kernel
theorem dX6_wrongKept_31 : decode cX6_wrongKept 31 = .ok (.iconst 2, 1) := by decide +kernel
theorem dX6_wrongKept_32 : decode cX6_wrongKept 32 = .ok (.if_icmp .ne 8, 3) := by decide +kernel
theorem dX6_wrongKept_35 : decode cX6_wrongKept 35 = .ok (.bipush (-12), 2) := by decide +kernel
theorem dX6_wrongKept_37 : decode cX6_wrongKept 37 = .ok (.goto 4, 3) := by decide +kernel
theorem dX6_wrongKept_40 : decode cX6_wrongKept 40 = .ok (.iconst 0, 1) := by decide +kernel
theorem dX6_wrongKept_41 : decode cX6_wrongKept 41 = .ok (.ireturn, 1) := by decide +kernel
theorem dX6_keep_0 : decode cX6_keep 0 = .ok (.iload_n 1, 1) := by decide +kernel
theorem dX6_keep_1 : decode cX6_keep 1 = .ok (.invokestatic 206, 3) := by decide +kernel
theorem dX6_keep_4 : decode cX6_keep 4 = .ok (.ifCond .eq 38, 3) := by decide +kernel
theorem dX6_keep_7 : decode cX6_keep 7 = .ok (.iload_n 2, 1) := by decide +kernel
theorem dX6_keep_8 : decode cX6_keep 8 = .ok (.iconst 0, 1) := by decide +kernel
theorem dX6_keep_9 : decode cX6_keep 9 = .ok (.iconst 1, 1) := by decide +kernel
theorem dX6_keep_10 : decode cX6_keep 10 = .ok (.invokestatic 49, 3) := by decide +kernel
theorem dX6_keep_13 : decode cX6_keep 13 = .ok (.ifCond .eq 29, 3) := by decide +kernel
theorem dX6_keep_16 : decode cX6_keep 16 = .ok (.iload_n 2, 1) := by decide +kernel
theorem dX6_keep_17 : decode cX6_keep 17 = .ok (.iconst 1, 1) := by decide +kernel
theorem dX6_keep_18 : decode cX6_keep 18 = .ok (.if_icmp .ne 26, 3) := by decide +kernel
theorem dX6_keep_21 : decode cX6_keep 21 = .ok (.iload_n 3, 1) := by decide +kernel
theorem dX6_keep_22 : decode cX6_keep 22 = .ok (.iconst 0, 1) := by decide +kernel
theorem dX6_keep_23 : decode cX6_keep 23 = .ok (.bipush 7, 2) := by decide +kernel
theorem dX6_keep_25 : decode cX6_keep 25 = .ok (.invokestatic 49, 3) := by decide +kernel
theorem dX6_keep_28 : decode cX6_keep 28 = .ok (.ifCond .eq 14, 3) := by decide +kernel
theorem dX6_keep_31 : decode cX6_keep 31 = .ok (.iload 4, 2) := by decide +kernel
theorem dX6_keep_33 : decode cX6_keep 33 = .ok (.iconst 0, 1) := by decide +kernel
theorem dX6_keep_34 : decode cX6_keep 34 = .ok (.bipush 9, 2) := by decide +kernel
theorem dX6_keep_36 : decode cX6_keep 36 = .ok (.invokestatic 49, 3) := by decide +kernel
theorem dX6_keep_39 : decode cX6_keep 39 = .ok (.ifCond .ne 5, 3) := by decide +kernel
theorem dX6_keep_42 : decode cX6_keep 42 = .ok (.iconst (-1), 1) := by decide +kernel
theorem dX6_keep_43 : decode cX6_keep 43 = .ok (.ireturn, 1) := by decide +kernel
theorem dX6_keep_44 : decode cX6_keep 44 = .ok (.aload_n 0, 1) := by decide +kernel
theorem dX6_keep_45 : decode cX6_keep 45 = .ok (.getfield 31, 3) := by decide +kernel
theorem dX6_keep_48 : decode cX6_keep 48 = .ok (.iload_n 1, 1) := by decide +kernel
theorem dX6_keep_49 : decode cX6_keep 49 = .ok (.iload_n 2, 1) := by decide +kernel
theorem dX6_keep_50 : decode cX6_keep 50 = .ok (.iastore, 1) := by decide +kernel
theorem dX6_keep_51 : decode cX6_keep 51 = .ok (.aload_n 0, 1) := by decide +kernel
theorem dX6_keep_52 : decode cX6_keep 52 = .ok (.getfield 34, 3) := by decide +kernel
theorem dX6_keep_55 : decode cX6_keep 55 = .ok (.iload_n 1, 1) := by decide +kernel
theorem dX6_keep_56 : decode cX6_keep 56 = .ok (.iload_n 3, 1) := by decide +kernel
theorem dX6_keep_57 : decode cX6_keep 57 = .ok (.iastore, 1) := by decide +kernel
theorem dX6_keep_58 : decode cX6_keep 58 = .ok (.aload_n 0, 1) := by decide +kernel
theorem dX6_keep_59 : decode cX6_keep 59 = .ok (.getfield 37, 3) := by decide +kernel
theorem dX6_keep_62 : decode cX6_keep 62 = .ok (.iload_n 1, 1) := by decide +kernel
theorem dX6_keep_63 : decode cX6_keep 63 = .ok (.iload 4, 2) := by decide +kernel
theorem dX6_keep_65 : decode cX6_keep 65 = .ok (.iastore, 1) := by decide +kernel
theorem dX6_keep_66 : decode cX6_keep 66 = .ok (.iconst 0, 1) := by decide +kernel
theorem dX6_keep_67 : decode cX6_keep 67 = .ok (.ireturn, 1) := by decide +kernel
theorem dX6_row_0 : decode cX6_row 0 = .ok (.iload_n 1, 1) := by decide +kernel
theorem dX6_row_1 : decode cX6_row 1 = .ok (.invokestatic 206, 3) := by decide +kernel
theorem dX6_row_4 : decode cX6_row 4 = .ok (.ifCond .eq 18, 3) := by decide +kernel
theorem dX6_row_7 : decode cX6_row 7 = .ok (.iload_n 2, 1) := by decide +kernel
theorem dX6_row_8 : decode cX6_row 8 = .ok (.iconst 0, 1) := by decide +kernel
theorem dX6_row_9 : decode cX6_row 9 = .ok (.iconst 2, 1) := by decide +kernel
theorem dX6_row_10 : decode cX6_row 10 = .ok (.invokestatic 49, 3) := by decide +kernel
theorem dX6_row_13 : decode cX6_row 13 = .ok (.ifCond .eq 9, 3) := by decide +kernel
theorem dX6_row_16 : decode cX6_row 16 = .ok (.iload_n 3, 1) := by decide +kernel
theorem dX6_row_17 : decode cX6_row 17 = .ok (.bipush 100, 2) := by decide +kernel
theorem dX6_row_19 : decode cX6_row 19 = .ok (.if_icmp .le 5, 3) := by decide +kernel
theorem dX6_row_22 : decode cX6_row 22 = .ok (.iconst (-1), 1) := by decide +kernel
theorem dX6_row_23 : decode cX6_row 23 = .ok (.ireturn, 1) := by decide +kernel
theorem dX6_row_24 : decode cX6_row 24 = .ok (.iload_n 3, 1) := by decide +kernel
theorem dX6_row_25 : decode cX6_row 25 = .ok (.ifCond .ge 6, 3) := by decide +kernel
theorem dX6_row_28 : decode cX6_row 28 = .ok (.bipush (-14), 2) := by decide +kernel
theorem dX6_row_30 : decode cX6_row 30 = .ok (.ireturn, 1) := by decide +kernel
theorem dX6_row_31 : decode cX6_row 31 = .ok (.aload_n 0, 1) := by decide +kernel
theorem dX6_row_32 : decode cX6_row 32 = .ok (.getfield 31, 3) := by decide +kernel
theorem dX6_row_35 : decode cX6_row 35 = .ok (.iload_n 1, 1) := by decide +kernel
theorem dX6_row_36 : decode cX6_row 36 = .ok (.iconst 2, 1) := by decide +kernel
theorem dX6_row_37 : decode cX6_row 37 = .ok (.iastore, 1) := by decide +kernel
theorem dX6_row_38 : decode cX6_row 38 = .ok (.aload_n 0, 1) := by decide +kernel
theorem dX6_row_39 : decode cX6_row 39 = .ok (.getfield 40, 3) := by decide +kernel
theorem dX6_row_42 : decode cX6_row 42 = .ok (.iload_n 1, 1) := by decide +kernel
theorem dX6_row_43 : decode cX6_row 43 = .ok (.iload_n 2, 1) := by decide +kernel
theorem dX6_row_44 : decode cX6_row 44 = .ok (.iastore, 1) := by decide +kernel
theorem dX6_row_45 : decode cX6_row 45 = .ok (.aload_n 0, 1) := by decide +kernel
theorem dX6_row_46 : decode cX6_row 46 = .ok (.getfield 43, 3) := by decide +kernel
theorem dX6_row_49 : decode cX6_row 49 = .ok (.iload_n 1, 1) := by decide +kernel
theorem dX6_row_50 : decode cX6_row 50 = .ok (.iload_n 3, 1) := by decide +kernel
theorem dX6_row_51 : decode cX6_row 51 = .ok (.iastore, 1) := by decide +kernel
theorem dX6_row_52 : decode cX6_row 52 = .ok (.iconst 0, 1) := by decide +kernel
theorem dX6_row_53 : decode cX6_row 53 = .ok (.istore 4, 2) := by decide +kernel
theorem dX6_row_55 : decode cX6_row 55 = .ok (.iload 4, 2) := by decide +kernel
theorem dX6_row_57 : decode cX6_row 57 = .ok (.bipush 100, 2) := by decide +kernel
theorem dX6_row_59 : decode cX6_row 59 = .ok (.if_icmp .ge 22, 3) := by decide +kernel
theorem dX6_row_62 : decode cX6_row 62 = .ok (.aload_n 0, 1) := by decide +kernel
theorem dX6_row_63 : decode cX6_row 63 = .ok (.getfield 46, 3) := by decide +kernel
theorem dX6_row_66 : decode cX6_row 66 = .ok (.bipush 100, 2) := by decide +kernel
theorem dX6_row_68 : decode cX6_row 68 = .ok (.iload_n 1, 1) := by decide +kernel
theorem dX6_row_69 : decode cX6_row 69 = .ok (.imul, 1) := by decide +kernel
theorem dX6_row_70 : decode cX6_row 70 = .ok (.iload 4, 2) := by decide +kernel
theorem dX6_row_72 : decode cX6_row 72 = .ok (.iadd, 1) := by decide +kernel
theorem dX6_row_73 : decode cX6_row 73 = .ok (.iconst 0, 1) := by decide +kernel
theorem dX6_row_74 : decode cX6_row 74 = .ok (.iastore, 1) := by decide +kernel
theorem dX6_row_75 : decode cX6_row 75 = .ok (.iinc 4 1, 3) := by decide +kernel
theorem dX6_row_78 : decode cX6_row 78 = .ok (.goto (-23), 3) := by decide +kernel
theorem dX6_row_81 : decode cX6_row 81 = .ok (.iconst 0, 1) := by decide +kernel
theorem dX6_row_82 : decode cX6_row 82 = .ok (.ireturn, 1) := by decide +kernel
theorem dX6_put_0 : decode cX6_put 0 = .ok (.aload_n 0, 1) := by decide +kernel
theorem dX6_put_1 : decode cX6_put 1 = .ok (.iload_n 1, 1) := by decide +kernel
theorem dX6_put_2 : decode cX6_put 2 = .ok (.iconst (-1), 1) := by decide +kernel
theorem dX6_put_3 : decode cX6_put 3 = .ok (.invokevirtual 128, 3) := by decide +kernel
theorem dX6_put_6 : decode cX6_put 6 = .ok (.istore 4, 2) := by decide +kernel
theorem dX6_put_8 : decode cX6_put 8 = .ok (.iload 4, 2) := by decide +kernel
theorem dX6_put_10 : decode cX6_put 10 = .ok (.ifCond .eq 6, 3) := by decide +kernel
theorem dX6_put_13 : decode cX6_put 13 = .ok (.iload 4, 2) := by decide +kernel
theorem dX6_put_15 : decode cX6_put 15 = .ok (.ireturn, 1) := by decide +kernel
theorem dX6_put_16 : decode cX6_put 16 = .ok (.iload_n 2, 1) := by decide +kernel
theorem dX6_put_17 : decode cX6_put 17 = .ok (.iconst 0, 1) := by decide +kernel
theorem dX6_put_18 : decode cX6_put 18 = .ok (.aload_n 0, 1) := by decide +kernel
theorem dX6_put_19 : decode cX6_put 19 = .ok (.getfield 43, 3) := by decide +kernel
theorem dX6_put_22 : decode cX6_put 22 = .ok (.iload_n 1, 1) := by decide +kernel
theorem dX6_put_23 : decode cX6_put 23 = .ok (.iaload, 1) := by decide +kernel
theorem dX6_put_24 : decode cX6_put 24 = .ok (.iconst 1, 1) := by decide +kernel
theorem dX6_put_25 : decode cX6_put 25 = .ok (.isub, 1) := by decide +kernel
theorem dX6_put_26 : decode cX6_put 26 = .ok (.invokestatic 49, 3) := by decide +kernel
theorem dX6_put_29 : decode cX6_put 29 = .ok (.ifCond .ne 6, 3) := by decide +kernel
theorem dX6_put_32 : decode cX6_put 32 = .ok (.bipush (-13), 2) := by decide +kernel
theorem dX6_put_34 : decode cX6_put 34 = .ok (.ireturn, 1) := by decide +kernel
theorem dX6_put_35 : decode cX6_put 35 = .ok (.aload_n 0, 1) := by decide +kernel
theorem dX6_put_36 : decode cX6_put 36 = .ok (.getfield 46, 3) := by decide +kernel
theorem dX6_put_39 : decode cX6_put 39 = .ok (.bipush 100, 2) := by decide +kernel
theorem dX6_put_41 : decode cX6_put 41 = .ok (.iload_n 1, 1) := by decide +kernel
theorem dX6_put_42 : decode cX6_put 42 = .ok (.imul, 1) := by decide +kernel
theorem dX6_put_43 : decode cX6_put 43 = .ok (.iload_n 2, 1) := by decide +kernel
theorem dX6_put_44 : decode cX6_put 44 = .ok (.iadd, 1) := by decide +kernel
theorem dX6_put_45 : decode cX6_put 45 = .ok (.aload_n 0, 1) := by decide +kernel
theorem dX6_put_46 : decode cX6_put 46 = .ok (.getfield 40, 3) := by decide +kernel
theorem dX6_put_49 : decode cX6_put 49 = .ok (.iload_n 1, 1) := by decide +kernel
theorem dX6_put_50 : decode cX6_put 50 = .ok (.iaload, 1) := by decide +kernel
theorem dX6_put_51 : decode cX6_put 51 = .ok (.ifCond .ne 8, 3) := by decide +kernel
theorem dX6_put_54 : decode cX6_put 54 = .ok (.iload_n 3, 1) := by decide +kernel
theorem dX6_put_55 : decode cX6_put 55 = .ok (.i2b, 1) := by decide +kernel
theorem dX6_put_56 : decode cX6_put 56 = .ok (.goto 19, 3) := by decide +kernel
theorem dX6_put_59 : decode cX6_put 59 = .ok (.aload_n 0, 1) := by decide +kernel
theorem dX6_put_60 : decode cX6_put 60 = .ok (.getfield 40, 3) := by decide +kernel
theorem dX6_put_63 : decode cX6_put 63 = .ok (.iload_n 1, 1) := by decide +kernel
theorem dX6_put_64 : decode cX6_put 64 = .ok (.iaload, 1) := by decide +kernel
theorem dX6_put_65 : decode cX6_put 65 = .ok (.iconst 1, 1) := by decide +kernel
theorem dX6_put_66 : decode cX6_put 66 = .ok (.if_icmp .ne 8, 3) := by decide +kernel
theorem dX6_put_69 : decode cX6_put 69 = .ok (.iload_n 3, 1) := by decide +kernel
theorem dX6_put_70 : decode cX6_put 70 = .ok (.i2s, 1) := by decide +kernel
theorem dX6_put_71 : decode cX6_put 71 = .ok (.goto 4, 3) := by decide +kernel
theorem dX6_put_74 : decode cX6_put 74 = .ok (.iload_n 3, 1) := by decide +kernel
theorem dX6_put_75 : decode cX6_put 75 = .ok (.iastore, 1) := by decide +kernel
theorem dX6_put_76 : decode cX6_put 76 = .ok (.iconst 0, 1) := by decide +kernel
theorem dX6_put_77 : decode cX6_put 77 = .ok (.ireturn, 1) := by decide +kernel
theorem dX6_element_0 : decode cX6_element 0 = .ok (.aload_n 0, 1) := by decide +kernel
theorem dX6_element_1 : decode cX6_element 1 = .ok (.iload_n 1, 1) := by decide +kernel
theorem dX6_element_2 : decode cX6_element 2 = .ok (.invokestatic 206, 3) := by decide +kernel
theorem dX6_element_5 : decode cX6_element 5 = .ok (.ifCond .ne 7, 3) := by decide +kernel
theorem dX6_element_8 : decode cX6_element 8 = .ok (.iconst 1, 1) := by decide +kernel
theorem dX6_element_9 : decode cX6_element 9 = .ok (.goto 34, 3) := by decide +kernel
theorem dX6_element_12 : decode cX6_element 12 = .ok (.aload_n 0, 1) := by decide +kernel
theorem dX6_element_13 : decode cX6_element 13 = .ok (.getfield 31, 3) := by decide +kernel
theorem dX6_element_16 : decode cX6_element 16 = .ok (.iload_n 1, 1) := by decide +kernel
theorem dX6_element_17 : decode cX6_element 17 = .ok (.iaload, 1) := by decide +kernel
theorem dX6_element_18 : decode cX6_element 18 = .ok (.iconst 2, 1) := by decide +kernel
theorem dX6_element_19 : decode cX6_element 19 = .ok (.if_icmp .ne 19, 3) := by decide +kernel
theorem dX6_element_22 : decode cX6_element 22 = .ok (.iload_n 2, 1) := by decide +kernel
theorem dX6_element_23 : decode cX6_element 23 = .ok (.iconst 0, 1) := by decide +kernel
theorem dX6_element_24 : decode cX6_element 24 = .ok (.aload_n 0, 1) := by decide +kernel
theorem dX6_element_25 : decode cX6_element 25 = .ok (.getfield 43, 3) := by decide +kernel
theorem dX6_element_28 : decode cX6_element 28 = .ok (.iload_n 1, 1) := by decide +kernel
theorem dX6_element_29 : decode cX6_element 29 = .ok (.iaload, 1) := by decide +kernel
theorem dX6_element_30 : decode cX6_element 30 = .ok (.iconst 1, 1) := by decide +kernel
theorem dX6_element_31 : decode cX6_element 31 = .ok (.isub, 1) := by decide +kernel
theorem dX6_element_32 : decode cX6_element 32 = .ok (.invokestatic 49, 3) := by decide +kernel
theorem dX6_element_35 : decode cX6_element 35 = .ok (.ifCond .ne 7, 3) := by decide +kernel
theorem dX6_element_38 : decode cX6_element 38 = .ok (.iconst 2, 1) := by decide +kernel
theorem dX6_element_39 : decode cX6_element 39 = .ok (.goto 4, 3) := by decide +kernel
theorem dX6_element_42 : decode cX6_element 42 = .ok (.iconst 0, 1) := by decide +kernel
theorem dX6_element_43 : decode cX6_element 43 = .ok (.putfield 203, 3) := by decide +kernel
theorem dX6_element_46 : decode cX6_element 46 = .ok (.aload_n 0, 1) := by decide +kernel
theorem dX6_element_47 : decode cX6_element 47 = .ok (.getfield 203, 3) := by decide +kernel
theorem dX6_element_50 : decode cX6_element 50 = .ok (.ifCond .ne 18, 3) := by decide +kernel
theorem dX6_element_53 : decode cX6_element 53 = .ok (.aload_n 0, 1) := by decide +kernel
theorem dX6_element_54 : decode cX6_element 54 = .ok (.getfield 46, 3) := by decide +kernel
theorem dX6_element_57 : decode cX6_element 57 = .ok (.bipush 100, 2) := by decide +kernel
theorem dX6_element_59 : decode cX6_element 59 = .ok (.iload_n 1, 1) := by decide +kernel
theorem dX6_element_60 : decode cX6_element 60 = .ok (.imul, 1) := by decide +kernel
theorem dX6_element_61 : decode cX6_element 61 = .ok (.iload_n 2, 1) := by decide +kernel
theorem dX6_element_62 : decode cX6_element 62 = .ok (.iadd, 1) := by decide +kernel
theorem dX6_element_63 : decode cX6_element 63 = .ok (.iaload, 1) := by decide +kernel
theorem dX6_element_64 : decode cX6_element 64 = .ok (.i2l, 1) := by decide +kernel
theorem dX6_element_65 : decode cX6_element 65 = .ok (.goto 4, 3) := by decide +kernel
theorem dX6_element_68 : decode cX6_element 68 = .ok (.lconst 0, 1) := by decide +kernel
theorem dX6_element_69 : decode cX6_element 69 = .ok (.lreturn, 1) := by decide +kernel
theorem dX6_copy_0 : decode cX6_copy 0 = .ok (.iload_n 1, 1) := by decide +kernel
theorem dX6_copy_1 : decode cX6_copy 1 = .ok (.invokestatic 206, 3) := by decide +kernel
theorem dX6_copy_4 : decode cX6_copy 4 = .ok (.ifCond .eq 10, 3) := by decide +kernel
theorem dX6_copy_7 : decode cX6_copy 7 = .ok (.iload_n 3, 1) := by decide +kernel
theorem dX6_copy_8 : decode cX6_copy 8 = .ok (.invokestatic 206, 3) := by decide +kernel
theorem dX6_copy_11 : decode cX6_copy 11 = .ok (.ifCond .ne 5, 3) := by decide +kernel
theorem dX6_copy_14 : decode cX6_copy 14 = .ok (.iconst (-1), 1) := by decide +kernel
theorem dX6_copy_15 : decode cX6_copy 15 = .ok (.ireturn, 1) := by decide +kernel
theorem dX6_copy_16 : decode cX6_copy 16 = .ok (.aload_n 0, 1) := by decide +kernel
theorem dX6_copy_17 : decode cX6_copy 17 = .ok (.getfield 31, 3) := by decide +kernel
theorem dX6_copy_20 : decode cX6_copy 20 = .ok (.iload_n 1, 1) := by decide +kernel
theorem dX6_copy_21 : decode cX6_copy 21 = .ok (.iaload, 1) := by decide +kernel
theorem dX6_copy_22 : decode cX6_copy 22 = .ok (.ifCond .eq 12, 3) := by decide +kernel
theorem dX6_copy_25 : decode cX6_copy 25 = .ok (.aload_n 0, 1) := by decide +kernel
theorem dX6_copy_26 : decode cX6_copy 26 = .ok (.getfield 31, 3) := by decide +kernel
theorem dX6_copy_29 : decode cX6_copy 29 = .ok (.iload_n 3, 1) := by decide +kernel
theorem dX6_copy_30 : decode cX6_copy 30 = .ok (.iaload, 1) := by decide +kernel
theorem dX6_copy_31 : decode cX6_copy 31 = .ok (.ifCond .ne 6, 3) := by decide +kernel
theorem dX6_copy_34 : decode cX6_copy 34 = .ok (.bipush (-11), 2) := by decide +kernel
theorem dX6_copy_36 : decode cX6_copy 36 = .ok (.ireturn, 1) := by decide +kernel
theorem dX6_copy_37 : decode cX6_copy 37 = .ok (.aload_n 0, 1) := by decide +kernel
theorem dX6_copy_38 : decode cX6_copy 38 = .ok (.getfield 31, 3) := by decide +kernel
theorem dX6_copy_41 : decode cX6_copy 41 = .ok (.iload_n 1, 1) := by decide +kernel
theorem dX6_copy_42 : decode cX6_copy 42 = .ok (.iaload, 1) := by decide +kernel
theorem dX6_copy_43 : decode cX6_copy 43 = .ok (.iconst 2, 1) := by decide +kernel
theorem dX6_copy_44 : decode cX6_copy 44 = .ok (.if_icmp .ne 28, 3) := by decide +kernel
theorem dX6_copy_47 : decode cX6_copy 47 = .ok (.aload_n 0, 1) := by decide +kernel
theorem dX6_copy_48 : decode cX6_copy 48 = .ok (.getfield 31, 3) := by decide +kernel
theorem dX6_copy_51 : decode cX6_copy 51 = .ok (.iload_n 3, 1) := by decide +kernel
theorem dX6_copy_52 : decode cX6_copy 52 = .ok (.iaload, 1) := by decide +kernel
theorem dX6_copy_53 : decode cX6_copy 53 = .ok (.iconst 2, 1) := by decide +kernel
theorem dX6_copy_54 : decode cX6_copy 54 = .ok (.if_icmp .ne 18, 3) := by decide +kernel
theorem dX6_copy_57 : decode cX6_copy 57 = .ok (.aload_n 0, 1) := by decide +kernel
theorem dX6_copy_58 : decode cX6_copy 58 = .ok (.getfield 40, 3) := by decide +kernel
theorem dX6_copy_61 : decode cX6_copy 61 = .ok (.iload_n 1, 1) := by decide +kernel
theorem dX6_copy_62 : decode cX6_copy 62 = .ok (.iaload, 1) := by decide +kernel
theorem dX6_copy_63 : decode cX6_copy 63 = .ok (.aload_n 0, 1) := by decide +kernel
theorem dX6_copy_64 : decode cX6_copy 64 = .ok (.getfield 40, 3) := by decide +kernel
theorem dX6_copy_67 : decode cX6_copy 67 = .ok (.iload_n 3, 1) := by decide +kernel
theorem dX6_copy_68 : decode cX6_copy 68 = .ok (.iaload, 1) := by decide +kernel
theorem dX6_copy_69 : decode cX6_copy 69 = .ok (.if_icmp .eq 6, 3) := by decide +kernel
theorem dX6_copy_72 : decode cX6_copy 72 = .ok (.bipush (-12), 2) := by decide +kernel
theorem dX6_copy_74 : decode cX6_copy 74 = .ok (.ireturn, 1) := by decide +kernel
theorem dX6_copy_75 : decode cX6_copy 75 = .ok (.iload 5, 2) := by decide +kernel
theorem dX6_copy_77 : decode cX6_copy 77 = .ok (.ifCond .lt 39, 3) := by decide +kernel
theorem dX6_copy_80 : decode cX6_copy 80 = .ok (.iload_n 2, 1) := by decide +kernel
theorem dX6_copy_81 : decode cX6_copy 81 = .ok (.ifCond .lt 35, 3) := by decide +kernel
theorem dX6_copy_84 : decode cX6_copy 84 = .ok (.iload 4, 2) := by decide +kernel
theorem dX6_copy_86 : decode cX6_copy 86 = .ok (.ifCond .lt 30, 3) := by decide +kernel
theorem dX6_copy_89 : decode cX6_copy 89 = .ok (.iload 5, 2) := by decide +kernel
theorem dX6_copy_91 : decode cX6_copy 91 = .ok (.aload_n 0, 1) := by decide +kernel
theorem dX6_copy_92 : decode cX6_copy 92 = .ok (.getfield 43, 3) := by decide +kernel
theorem dX6_copy_95 : decode cX6_copy 95 = .ok (.iload_n 1, 1) := by decide +kernel
theorem dX6_copy_96 : decode cX6_copy 96 = .ok (.iaload, 1) := by decide +kernel
theorem dX6_copy_97 : decode cX6_copy 97 = .ok (.iload_n 2, 1) := by decide +kernel
theorem dX6_copy_98 : decode cX6_copy 98 = .ok (.isub, 1) := by decide +kernel
theorem dX6_copy_99 : decode cX6_copy 99 = .ok (.if_icmp .gt 17, 3) := by decide +kernel
theorem dX6_copy_102 : decode cX6_copy 102 = .ok (.iload 5, 2) := by decide +kernel
theorem dX6_copy_104 : decode cX6_copy 104 = .ok (.aload_n 0, 1) := by decide +kernel
theorem dX6_copy_105 : decode cX6_copy 105 = .ok (.getfield 43, 3) := by decide +kernel
theorem dX6_copy_108 : decode cX6_copy 108 = .ok (.iload_n 3, 1) := by decide +kernel
theorem dX6_copy_109 : decode cX6_copy 109 = .ok (.iaload, 1) := by decide +kernel
theorem dX6_copy_110 : decode cX6_copy 110 = .ok (.iload 4, 2) := by decide +kernel
theorem dX6_copy_112 : decode cX6_copy 112 = .ok (.isub, 1) := by decide +kernel
theorem dX6_copy_113 : decode cX6_copy 113 = .ok (.if_icmp .le 6, 3) := by decide +kernel
theorem dX6_copy_116 : decode cX6_copy 116 = .ok (.bipush (-13), 2) := by decide +kernel
theorem dX6_copy_118 : decode cX6_copy 118 = .ok (.ireturn, 1) := by decide +kernel
theorem dX6_copy_119 : decode cX6_copy 119 = .ok (.iconst 0, 1) := by decide +kernel
theorem dX6_copy_120 : decode cX6_copy 120 = .ok (.istore 6, 2) := by decide +kernel
theorem dX6_copy_122 : decode cX6_copy 122 = .ok (.iload 6, 2) := by decide +kernel
theorem dX6_copy_124 : decode cX6_copy 124 = .ok (.iload 5, 2) := by decide +kernel
theorem dX6_copy_126 : decode cX6_copy 126 = .ok (.if_icmp .ge 58, 3) := by decide +kernel
theorem dX6_copy_129 : decode cX6_copy 129 = .ok (.iload_n 2, 1) := by decide +kernel
theorem dX6_copy_130 : decode cX6_copy 130 = .ok (.iload 4, 2) := by decide +kernel
theorem dX6_copy_132 : decode cX6_copy 132 = .ok (.if_icmp .le 8, 3) := by decide +kernel
theorem dX6_copy_135 : decode cX6_copy 135 = .ok (.iload 6, 2) := by decide +kernel
theorem dX6_copy_137 : decode cX6_copy 137 = .ok (.goto 10, 3) := by decide +kernel
theorem dX6_copy_140 : decode cX6_copy 140 = .ok (.iload 5, 2) := by decide +kernel
theorem dX6_copy_142 : decode cX6_copy 142 = .ok (.iconst 1, 1) := by decide +kernel
theorem dX6_copy_143 : decode cX6_copy 143 = .ok (.isub, 1) := by decide +kernel
theorem dX6_copy_144 : decode cX6_copy 144 = .ok (.iload 6, 2) := by decide +kernel
theorem dX6_copy_146 : decode cX6_copy 146 = .ok (.isub, 1) := by decide +kernel
theorem dX6_copy_147 : decode cX6_copy 147 = .ok (.istore 7, 2) := by decide +kernel
theorem dX6_copy_149 : decode cX6_copy 149 = .ok (.aload_n 0, 1) := by decide +kernel
theorem dX6_copy_150 : decode cX6_copy 150 = .ok (.getfield 46, 3) := by decide +kernel
theorem dX6_copy_153 : decode cX6_copy 153 = .ok (.bipush 100, 2) := by decide +kernel
theorem dX6_copy_155 : decode cX6_copy 155 = .ok (.iload_n 3, 1) := by decide +kernel
theorem dX6_copy_156 : decode cX6_copy 156 = .ok (.imul, 1) := by decide +kernel
theorem dX6_copy_157 : decode cX6_copy 157 = .ok (.iload 4, 2) := by decide +kernel
theorem dX6_copy_159 : decode cX6_copy 159 = .ok (.iadd, 1) := by decide +kernel
theorem dX6_copy_160 : decode cX6_copy 160 = .ok (.iload 7, 2) := by decide +kernel
theorem dX6_copy_162 : decode cX6_copy 162 = .ok (.iadd, 1) := by decide +kernel
theorem dX6_copy_163 : decode cX6_copy 163 = .ok (.aload_n 0, 1) := by decide +kernel
theorem dX6_copy_164 : decode cX6_copy 164 = .ok (.getfield 46, 3) := by decide +kernel
theorem dX6_copy_167 : decode cX6_copy 167 = .ok (.bipush 100, 2) := by decide +kernel
theorem dX6_copy_169 : decode cX6_copy 169 = .ok (.iload_n 1, 1) := by decide +kernel
theorem dX6_copy_170 : decode cX6_copy 170 = .ok (.imul, 1) := by decide +kernel
theorem dX6_copy_171 : decode cX6_copy 171 = .ok (.iload_n 2, 1) := by decide +kernel
theorem dX6_copy_172 : decode cX6_copy 172 = .ok (.iadd, 1) := by decide +kernel
theorem dX6_copy_173 : decode cX6_copy 173 = .ok (.iload 7, 2) := by decide +kernel
theorem dX6_copy_175 : decode cX6_copy 175 = .ok (.iadd, 1) := by decide +kernel
theorem dX6_copy_176 : decode cX6_copy 176 = .ok (.iaload, 1) := by decide +kernel
theorem dX6_copy_177 : decode cX6_copy 177 = .ok (.iastore, 1) := by decide +kernel
theorem dX6_copy_178 : decode cX6_copy 178 = .ok (.iinc 6 1, 3) := by decide +kernel
theorem dX6_copy_181 : decode cX6_copy 181 = .ok (.goto (-59), 3) := by decide +kernel
theorem dX6_copy_184 : decode cX6_copy 184 = .ok (.iload 5, 2) := by decide +kernel
theorem dX6_copy_186 : decode cX6_copy 186 = .ok (.ireturn, 1) := by decide +kernel
theorem dX6_costBy_0 : decode cX6_costBy 0 = .ok (.iload_n 0, 1) := by decide +kernel
theorem dX6_costBy_1 : decode cX6_costBy 1 = .ok (.tableswitch 64 1 7 #[43, 45, 49, 52, 54, 59, 62], 43) := by decide +kernel
theorem dX6_costBy_44 : decode cX6_costBy 44 = .ok (.iconst 3, 1) := by decide +kernel
theorem dX6_costBy_45 : decode cX6_costBy 45 = .ok (.ireturn, 1) := by decide +kernel
theorem dX6_costBy_46 : decode cX6_costBy 46 = .ok (.iconst 4, 1) := by decide +kernel
theorem dX6_costBy_47 : decode cX6_costBy 47 = .ok (.iload_n 1, 1) := by decide +kernel
theorem dX6_costBy_48 : decode cX6_costBy 48 = .ok (.iadd, 1) := by decide +kernel
theorem dX6_costBy_49 : decode cX6_costBy 49 = .ok (.ireturn, 1) := by decide +kernel
theorem dX6_costBy_50 : decode cX6_costBy 50 = .ok (.bipush 10, 2) := by decide +kernel
theorem dX6_costBy_52 : decode cX6_costBy 52 = .ok (.ireturn, 1) := by decide +kernel
theorem dX6_costBy_53 : decode cX6_costBy 53 = .ok (.iconst 2, 1) := by decide +kernel
theorem dX6_costBy_54 : decode cX6_costBy 54 = .ok (.ireturn, 1) := by decide +kernel
theorem dX6_costBy_55 : decode cX6_costBy 55 = .ok (.bipush 10, 2) := by decide +kernel
theorem dX6_costBy_57 : decode cX6_costBy 57 = .ok (.iload_n 1, 1) := by decide +kernel
theorem dX6_costBy_58 : decode cX6_costBy 58 = .ok (.iadd, 1) := by decide +kernel
theorem dX6_costBy_59 : decode cX6_costBy 59 = .ok (.ireturn, 1) := by decide +kernel
theorem dX6_costBy_60 : decode cX6_costBy 60 = .ok (.bipush 6, 2) := by decide +kernel
theorem dX6_costBy_62 : decode cX6_costBy 62 = .ok (.ireturn, 1) := by decide +kernel
theorem dX6_costBy_63 : decode cX6_costBy 63 = .ok (.iconst 1, 1) := by decide +kernel
theorem dX6_costBy_64 : decode cX6_costBy 64 = .ok (.ireturn, 1) := by decide +kernel
theorem dX6_costBy_65 : decode cX6_costBy 65 = .ok (.iconst 4, 1) := by decide +kernel
theorem dX6_costBy_66 : decode cX6_costBy 66 = .ok (.ireturn, 1) := by decide +kernel
theorem dX6_cost_0 : decode cX6_cost 0 = .ok (.aload_n 0, 1) := by decide +kernel
theorem dX6_cost_1 : decode cX6_cost 1 = .ok (.iload_n 1, 1) := by decide +kernel
theorem dX6_cost_2 : decode cX6_cost 2 = .ok (.invokevirtual 142, 3) := by decide +kernel
theorem dX6_cost_5 : decode cX6_cost 5 = .ok (.istore_n 2, 1) := by decide +kernel
theorem dX6_cost_6 : decode cX6_cost 6 = .ok (.iload_n 2, 1) := by decide +kernel
theorem dX6_cost_7 : decode cX6_cost 7 = .ok (.ifCond .eq 7, 3) := by decide +kernel
theorem dX6_cost_10 : decode cX6_cost 10 = .ok (.iload_n 2, 1) := by decide +kernel
theorem dX6_cost_11 : decode cX6_cost 11 = .ok (.goto 18, 3) := by decide +kernel
theorem dX6_cost_14 : decode cX6_cost 14 = .ok (.aload_n 0, 1) := by decide +kernel
theorem dX6_cost_15 : decode cX6_cost 15 = .ok (.getfield 34, 3) := by decide +kernel
theorem dX6_cost_18 : decode cX6_cost 18 = .ok (.iload_n 1, 1) := by decide +kernel
theorem dX6_cost_19 : decode cX6_cost 19 = .ok (.iaload, 1) := by decide +kernel
theorem dX6_cost_20 : decode cX6_cost 20 = .ok (.aload_n 0, 1) := by decide +kernel
theorem dX6_cost_21 : decode cX6_cost 21 = .ok (.getfield 37, 3) := by decide +kernel
theorem dX6_cost_24 : decode cX6_cost 24 = .ok (.iload_n 1, 1) := by decide +kernel
theorem dX6_cost_25 : decode cX6_cost 25 = .ok (.iaload, 1) := by decide +kernel
theorem dX6_cost_26 : decode cX6_cost 26 = .ok (.invokestatic 209, 3) := by decide +kernel
theorem dX6_cost_29 : decode cX6_cost 29 = .ok (.ireturn, 1) := by decide +kernel
theorem dX6_toss_0 : decode cX6_toss 0 = .ok (.aload_n 0, 1) := by decide +kernel
theorem dX6_toss_1 : decode cX6_toss 1 = .ok (.iload_n 1, 1) := by decide +kernel
theorem dX6_toss_2 : decode cX6_toss 2 = .ok (.invokevirtual 142, 3) := by decide +kernel
theorem dX6_toss_5 : decode cX6_toss 5 = .ok (.istore_n 2, 1) := by decide +kernel
theorem dX6_toss_6 : decode cX6_toss 6 = .ok (.iload_n 2, 1) := by decide +kernel
theorem dX6_toss_7 : decode cX6_toss 7 = .ok (.ifCond .eq 5, 3) := by decide +kernel
theorem dX6_toss_10 : decode cX6_toss 10 = .ok (.iload_n 2, 1) := by decide +kernel
theorem dX6_toss_11 : decode cX6_toss 11 = .ok (.ireturn, 1) := by decide +kernel
theorem dX6_toss_12 : decode cX6_toss 12 = .ok (.aload_n 0, 1) := by decide +kernel
theorem dX6_toss_13 : decode cX6_toss 13 = .ok (.getfield 34, 3) := by decide +kernel
theorem dX6_toss_16 : decode cX6_toss 16 = .ok (.iload_n 1, 1) := by decide +kernel
theorem dX6_toss_17 : decode cX6_toss 17 = .ok (.iaload, 1) := by decide +kernel
theorem dX6_toss_18 : decode cX6_toss 18 = .ok (.istore_n 3, 1) := by decide +kernel
theorem dX6_toss_19 : decode cX6_toss 19 = .ok (.aload_n 0, 1) := by decide +kernel
theorem dX6_toss_20 : decode cX6_toss 20 = .ok (.getfield 37, 3) := by decide +kernel
theorem dX6_toss_23 : decode cX6_toss 23 = .ok (.iload_n 1, 1) := by decide +kernel
theorem dX6_toss_24 : decode cX6_toss 24 = .ok (.iaload, 1) := by decide +kernel
theorem dX6_toss_25 : decode cX6_toss 25 = .ok (.istore 4, 2) := by decide +kernel
theorem dX6_toss_27 : decode cX6_toss 27 = .ok (.iload_n 3, 1) := by decide +kernel
theorem dX6_toss_28 : decode cX6_toss 28 = .ok (.iconst 4, 1) := by decide +kernel
theorem dX6_toss_29 : decode cX6_toss 29 = .ok (.if_icmp .eq 14, 3) := by decide +kernel
theorem dX6_toss_32 : decode cX6_toss 32 = .ok (.iload_n 3, 1) := by decide +kernel
theorem dX6_toss_33 : decode cX6_toss 33 = .ok (.bipush 7, 2) := by decide +kernel
theorem dX6_toss_35 : decode cX6_toss 35 = .ok (.if_icmp .eq 8, 3) := by decide +kernel
theorem dX6_toss_38 : decode cX6_toss 38 = .ok (.iload 4, 2) := by decide +kernel
theorem dX6_toss_40 : decode cX6_toss 40 = .ok (.ifCond .ne 6, 3) := by decide +kernel
theorem dX6_toss_43 : decode cX6_toss 43 = .ok (.bipush (-15), 2) := by decide +kernel
theorem dX6_toss_45 : decode cX6_toss 45 = .ok (.ireturn, 1) := by decide +kernel
theorem dX6_toss_46 : decode cX6_toss 46 = .ok (.iload_n 3, 1) := by decide +kernel
theorem dX6_toss_47 : decode cX6_toss 47 = .ok (.iconst 5, 1) := by decide +kernel
theorem dX6_toss_48 : decode cX6_toss 48 = .ok (.if_icmp .ne 16, 3) := by decide +kernel
theorem dX6_toss_51 : decode cX6_toss 51 = .ok (.sipush 200, 3) := by decide +kernel
theorem dX6_toss_54 : decode cX6_toss 54 = .ok (.iload_n 3, 1) := by decide +kernel
theorem dX6_toss_55 : decode cX6_toss 55 = .ok (.iload 4, 2) := by decide +kernel
theorem dX6_toss_57 : decode cX6_toss 57 = .ok (.invokestatic 209, 3) := by decide +kernel
theorem dX6_toss_60 : decode cX6_toss 60 = .ok (.iadd, 1) := by decide +kernel
theorem dX6_toss_61 : decode cX6_toss 61 = .ok (.goto 18, 3) := by decide +kernel
theorem dX6_toss_64 : decode cX6_toss 64 = .ok (.iload_n 3, 1) := by decide +kernel
theorem dX6_toss_65 : decode cX6_toss 65 = .ok (.iconst 3, 1) := by decide +kernel
theorem dX6_toss_66 : decode cX6_toss 66 = .ok (.if_icmp .ne 11, 3) := by decide +kernel
theorem dX6_toss_69 : decode cX6_toss 69 = .ok (.bipush 100, 2) := by decide +kernel
theorem dX6_toss_71 : decode cX6_toss 71 = .ok (.iload 4, 2) := by decide +kernel
theorem dX6_toss_73 : decode cX6_toss 73 = .ok (.iadd, 1) := by decide +kernel
theorem dX6_toss_74 : decode cX6_toss 74 = .ok (.goto 5, 3) := by decide +kernel
theorem dX6_toss_77 : decode cX6_toss 77 = .ok (.iload 4, 2) := by decide +kernel
theorem dX6_toss_79 : decode cX6_toss 79 = .ok (.ireturn, 1) := by decide +kernel
